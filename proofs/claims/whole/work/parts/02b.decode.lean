theorem dX10_perform_24 : decode cX10_perform 24 = .ok (.iconst (-1), 1) := by decide +kernel
theorem dX10_perform_25 : decode cX10_perform 25 = .ok (.if_icmp .ne 11, 3) := by decide +kernel
theorem dX10_perform_28 : decode cX10_perform 28 = .ok (.aload_n 0, 1) := by decide +kernel
theorem dX10_perform_29 : decode cX10_perform 29 = .ok (.aload_n 1, 1) := by decide +kernel
theorem dX10_perform_30 : decode cX10_perform 30 = .ok (.iload_n 2, 1) := by decide +kernel
theorem dX10_perform_31 : decode cX10_perform 31 = .ok (.iload_n 3, 1) := by decide +kernel
theorem dX10_perform_32 : decode cX10_perform 32 = .ok (.invokevirtual 73, 3) := by decide +kernel
theorem dX10_perform_35 : decode cX10_perform 35 = .ok (.ireturn, 1) := by decide +kernel
theorem dX10_perform_36 : decode cX10_perform 36 = .ok (.aload_n 0, 1) := by decide +kernel
theorem dX10_perform_37 : decode cX10_perform 37 = .ok (.aload 4, 2) := by decide +kernel
theorem dX10_perform_39 : decode cX10_perform 39 = .ok (.getfield 68, 3) := by decide +kernel
theorem dX10_perform_42 : decode cX10_perform 42 = .ok (.iload_n 3, 1) := by decide +kernel
theorem dX10_perform_43 : decode cX10_perform 43 = .ok (.iaload, 1) := by decide +kernel
theorem dX10_perform_44 : decode cX10_perform 44 = .ok (.aload_n 1, 1) := by decide +kernel
theorem dX10_perform_45 : decode cX10_perform 45 = .ok (.iload_n 2, 1) := by decide +kernel
theorem dX10_perform_46 : decode cX10_perform 46 = .ok (.iload_n 3, 1) := by decide +kernel
theorem dX10_perform_47 : decode cX10_perform 47 = .ok (.invokevirtual 77, 3) := by decide +kernel
theorem dX10_perform_50 : decode cX10_perform 50 = .ok (.ireturn, 1) := by decide +kernel
theorem dX10_performShared_0 : decode cX10_performShared 0 = .ok (.iload_n 3, 1) := by decide +kernel
theorem dX10_performShared_1 : decode cX10_performShared 1 = .ok (.ifCond .lt 13, 3) := by decide +kernel
theorem dX10_performShared_4 : decode cX10_performShared 4 = .ok (.aload_n 1, 1) := by decide +kernel
theorem dX10_performShared_5 : decode cX10_performShared 5 = .ok (.getfield 81, 3) := by decide +kernel
theorem dX10_performShared_8 : decode cX10_performShared 8 = .ok (.iload_n 3, 1) := by decide +kernel
theorem dX10_performShared_9 : decode cX10_performShared 9 = .ok (.iaload, 1) := by decide +kernel
theorem dX10_performShared_10 : decode cX10_performShared 10 = .ok (.iconst (-1), 1) := by decide +kernel
theorem dX10_performShared_11 : decode cX10_performShared 11 = .ok (.if_icmp .ne 11, 3) := by decide +kernel
theorem dX10_performShared_14 : decode cX10_performShared 14 = .ok (.aload_n 0, 1) := by decide +kernel
theorem dX10_performShared_15 : decode cX10_performShared 15 = .ok (.iconst 5, 1) := by decide +kernel
theorem dX10_performShared_16 : decode cX10_performShared 16 = .ok (.iconst (-1), 1) := by decide +kernel
theorem dX10_performShared_17 : decode cX10_performShared 17 = .ok (.invokevirtual 52, 3) := by decide +kernel
theorem dX10_performShared_20 : decode cX10_performShared 20 = .ok (.iconst 0, 1) := by decide +kernel
theorem dX10_performShared_21 : decode cX10_performShared 21 = .ok (.ireturn, 1) := by decide +kernel
theorem dX10_performShared_22 : decode cX10_performShared 22 = .ok (.aload_n 0, 1) := by decide +kernel
theorem dX10_performShared_23 : decode cX10_performShared 23 = .ok (.aload_n 1, 1) := by decide +kernel
theorem dX10_performShared_24 : decode cX10_performShared 24 = .ok (.getfield 81, 3) := by decide +kernel
theorem dX10_performShared_27 : decode cX10_performShared 27 = .ok (.iload_n 3, 1) := by decide +kernel
theorem dX10_performShared_28 : decode cX10_performShared 28 = .ok (.iaload, 1) := by decide +kernel
theorem dX10_performShared_29 : decode cX10_performShared 29 = .ok (.aload_n 1, 1) := by decide +kernel
theorem dX10_performShared_30 : decode cX10_performShared 30 = .ok (.iload_n 2, 1) := by decide +kernel
theorem dX10_performShared_31 : decode cX10_performShared 31 = .ok (.iconst (-1), 1) := by decide +kernel
theorem dX10_performShared_32 : decode cX10_performShared 32 = .ok (.invokevirtual 77, 3) := by decide +kernel
theorem dX10_performShared_35 : decode cX10_performShared 35 = .ok (.ireturn, 1) := by decide +kernel
theorem dX10_choose_0 : decode cX10_choose 0 = .ok (.iconst 0, 1) := by decide +kernel
theorem dX10_choose_1 : decode cX10_choose 1 = .ok (.istore 4, 2) := by decide +kernel
theorem dX10_choose_3 : decode cX10_choose 3 = .ok (.iload 4, 2) := by decide +kernel
theorem dX10_choose_5 : decode cX10_choose 5 = .ok (.aload_n 2, 1) := by decide +kernel
theorem dX10_choose_6 : decode cX10_choose 6 = .ok (.getfield 82, 3) := by decide +kernel
theorem dX10_choose_9 : decode cX10_choose 9 = .ok (.if_icmp .ge 67, 3) := by decide +kernel
theorem dX10_choose_12 : decode cX10_choose 12 = .ok (.aload_n 2, 1) := by decide +kernel
theorem dX10_choose_13 : decode cX10_choose 13 = .ok (.getfield 87, 3) := by decide +kernel
theorem dX10_choose_16 : decode cX10_choose 16 = .ok (.iload 4, 2) := by decide +kernel
theorem dX10_choose_18 : decode cX10_choose 18 = .ok (.iaload, 1) := by decide +kernel
theorem dX10_choose_19 : decode cX10_choose 19 = .ok (.istore 5, 2) := by decide +kernel
theorem dX10_choose_21 : decode cX10_choose 21 = .ok (.iload 5, 2) := by decide +kernel
theorem dX10_choose_23 : decode cX10_choose 23 = .ok (.ifCond .lt 47, 3) := by decide +kernel
theorem dX10_choose_26 : decode cX10_choose 26 = .ok (.iload 5, 2) := by decide +kernel
theorem dX10_choose_28 : decode cX10_choose 28 = .ok (.aload_n 0, 1) := by decide +kernel
theorem dX10_choose_29 : decode cX10_choose 29 = .ok (.getfield 24, 3) := by decide +kernel
theorem dX10_choose_32 : decode cX10_choose 32 = .ok (.getfield 90, 3) := by decide +kernel
theorem dX10_choose_35 : decode cX10_choose 35 = .ok (.getfield 94, 3) := by decide +kernel
theorem dX10_choose_38 : decode cX10_choose 38 = .ok (.if_icmp .ge 32, 3) := by decide +kernel
theorem dX10_choose_41 : decode cX10_choose 41 = .ok (.aload_n 0, 1) := by decide +kernel
theorem dX10_choose_42 : decode cX10_choose 42 = .ok (.getfield 24, 3) := by decide +kernel
theorem dX10_choose_45 : decode cX10_choose 45 = .ok (.getfield 90, 3) := by decide +kernel
theorem dX10_choose_48 : decode cX10_choose 48 = .ok (.getfield 99, 3) := by decide +kernel
theorem dX10_choose_51 : decode cX10_choose 51 = .ok (.iload 5, 2) := by decide +kernel
theorem dX10_choose_53 : decode cX10_choose 53 = .ok (.iaload, 1) := by decide +kernel
theorem dX10_choose_54 : decode cX10_choose 54 = .ok (.iload_n 3, 1) := by decide +kernel
theorem dX10_choose_55 : decode cX10_choose 55 = .ok (.if_icmp .ne 15, 3) := by decide +kernel
theorem dX10_choose_58 : decode cX10_choose 58 = .ok (.aload_n 0, 1) := by decide +kernel
theorem dX10_choose_59 : decode cX10_choose 59 = .ok (.iload 5, 2) := by decide +kernel
theorem dX10_choose_61 : decode cX10_choose 61 = .ok (.iconst 1, 1) := by decide +kernel
theorem dX10_choose_62 : decode cX10_choose 62 = .ok (.iadd, 1) := by decide +kernel
theorem dX10_choose_63 : decode cX10_choose 63 = .ok (.aload_n 1, 1) := by decide +kernel
theorem dX10_choose_64 : decode cX10_choose 64 = .ok (.iload_n 3, 1) := by decide +kernel
theorem dX10_choose_65 : decode cX10_choose 65 = .ok (.iconst (-1), 1) := by decide +kernel
theorem dX10_choose_66 : decode cX10_choose 66 = .ok (.invokevirtual 77, 3) := by decide +kernel
theorem dX10_choose_69 : decode cX10_choose 69 = .ok (.ireturn, 1) := by decide +kernel
theorem dX10_choose_70 : decode cX10_choose 70 = .ok (.iinc 4 1, 3) := by decide +kernel
theorem dX10_choose_73 : decode cX10_choose 73 = .ok (.goto (-70), 3) := by decide +kernel
theorem dX10_choose_76 : decode cX10_choose 76 = .ok (.aload_n 0, 1) := by decide +kernel
theorem dX10_choose_77 : decode cX10_choose 77 = .ok (.aload_n 2, 1) := by decide +kernel
theorem dX10_choose_78 : decode cX10_choose 78 = .ok (.getfield 102, 3) := by decide +kernel
theorem dX10_choose_81 : decode cX10_choose 81 = .ok (.aload_n 1, 1) := by decide +kernel
theorem dX10_choose_82 : decode cX10_choose 82 = .ok (.iload_n 3, 1) := by decide +kernel
theorem dX10_choose_83 : decode cX10_choose 83 = .ok (.iconst (-1), 1) := by decide +kernel
theorem dX10_choose_84 : decode cX10_choose 84 = .ok (.invokevirtual 77, 3) := by decide +kernel
theorem dX10_choose_87 : decode cX10_choose 87 = .ok (.ireturn, 1) := by decide +kernel
theorem dX10_fail_0 : decode cX10_fail 0 = .ok (.aload_n 0, 1) := by decide +kernel
theorem dX10_fail_1 : decode cX10_fail 1 = .ok (.iconst 1, 1) := by decide +kernel
theorem dX10_fail_2 : decode cX10_fail 2 = .ok (.putfield 28, 3) := by decide +kernel
theorem dX10_fail_5 : decode cX10_fail 5 = .ok (.aload_n 0, 1) := by decide +kernel
theorem dX10_fail_6 : decode cX10_fail 6 = .ok (.getfield 18, 3) := by decide +kernel
theorem dX10_fail_9 : decode cX10_fail 9 = .ok (.iconst 0, 1) := by decide +kernel
theorem dX10_fail_10 : decode cX10_fail 10 = .ok (.iload_n 1, 1) := by decide +kernel
theorem dX10_fail_11 : decode cX10_fail 11 = .ok (.iastore, 1) := by decide +kernel
theorem dX10_fail_12 : decode cX10_fail 12 = .ok (.aload_n 0, 1) := by decide +kernel
theorem dX10_fail_13 : decode cX10_fail 13 = .ok (.getfield 21, 3) := by decide +kernel
theorem dX10_fail_16 : decode cX10_fail 16 = .ok (.iconst 0, 1) := by decide +kernel
theorem dX10_fail_17 : decode cX10_fail 17 = .ok (.iload_n 2, 1) := by decide +kernel
theorem dX10_fail_18 : decode cX10_fail 18 = .ok (.iastore, 1) := by decide +kernel
theorem dX10_fail_19 : decode cX10_fail 19 = .ok (.aload_n 0, 1) := by decide +kernel
theorem dX10_fail_20 : decode cX10_fail 20 = .ok (.iconst 1, 1) := by decide +kernel
theorem dX10_fail_21 : decode cX10_fail 21 = .ok (.putfield 43, 3) := by decide +kernel
theorem dX10_fail_24 : decode cX10_fail 24 = .ok (.return_, 1) := by decide +kernel
theorem dX10_failAround_0 : decode cX10_failAround 0 = .ok (.aload_n 0, 1) := by decide +kernel
theorem dX10_failAround_1 : decode cX10_failAround 1 = .ok (.getfield 43, 3) := by decide +kernel
theorem dX10_failAround_4 : decode cX10_failAround 4 = .ok (.aload_n 0, 1) := by decide +kernel
theorem dX10_failAround_5 : decode cX10_failAround 5 = .ok (.getfield 18, 3) := by decide +kernel
theorem dX10_failAround_8 : decode cX10_failAround 8 = .ok (.arraylength, 1) := by decide +kernel
theorem dX10_failAround_9 : decode cX10_failAround 9 = .ok (.if_icmp .ge 33, 3) := by decide +kernel
theorem dX10_failAround_12 : decode cX10_failAround 12 = .ok (.aload_n 0, 1) := by decide +kernel
theorem dX10_failAround_13 : decode cX10_failAround 13 = .ok (.getfield 18, 3) := by decide +kernel
theorem dX10_failAround_16 : decode cX10_failAround 16 = .ok (.aload_n 0, 1) := by decide +kernel
theorem dX10_failAround_17 : decode cX10_failAround 17 = .ok (.getfield 43, 3) := by decide +kernel
theorem dX10_failAround_20 : decode cX10_failAround 20 = .ok (.iconst 1, 1) := by decide +kernel
theorem dX10_failAround_21 : decode cX10_failAround 21 = .ok (.iastore, 1) := by decide +kernel
theorem dX10_failAround_22 : decode cX10_failAround 22 = .ok (.aload_n 0, 1) := by decide +kernel
theorem dX10_failAround_23 : decode cX10_failAround 23 = .ok (.getfield 21, 3) := by decide +kernel
theorem dX10_failAround_26 : decode cX10_failAround 26 = .ok (.aload_n 0, 1) := by decide +kernel
theorem dX10_failAround_27 : decode cX10_failAround 27 = .ok (.getfield 43, 3) := by decide +kernel
theorem dX10_failAround_30 : decode cX10_failAround 30 = .ok (.iload_n 1, 1) := by decide +kernel
theorem dX10_failAround_31 : decode cX10_failAround 31 = .ok (.iastore, 1) := by decide +kernel
theorem dX10_failAround_32 : decode cX10_failAround 32 = .ok (.aload_n 0, 1) := by decide +kernel
theorem dX10_failAround_33 : decode cX10_failAround 33 = .ok (.dup, 1) := by decide +kernel
theorem dX10_failAround_34 : decode cX10_failAround 34 = .ok (.getfield 43, 3) := by decide +kernel
theorem dX10_failAround_37 : decode cX10_failAround 37 = .ok (.iconst 1, 1) := by decide +kernel
theorem dX10_failAround_38 : decode cX10_failAround 38 = .ok (.iadd, 1) := by decide +kernel
theorem dX10_failAround_39 : decode cX10_failAround 39 = .ok (.putfield 43, 3) := by decide +kernel
theorem dX10_failAround_42 : decode cX10_failAround 42 = .ok (.return_, 1) := by decide +kernel
theorem dX10_startItem_0 : decode cX10_startItem 0 = .ok (.aload_n 0, 1) := by decide +kernel
theorem dX10_startItem_1 : decode cX10_startItem 1 = .ok (.getfield 36, 3) := by decide +kernel
theorem dX10_startItem_4 : decode cX10_startItem 4 = .ok (.bipush 12, 2) := by decide +kernel
theorem dX10_startItem_6 : decode cX10_startItem 6 = .ok (.if_icmp .lt 11, 3) := by decide +kernel
theorem dX10_startItem_9 : decode cX10_startItem 9 = .ok (.aload_n 0, 1) := by decide +kernel
theorem dX10_startItem_10 : decode cX10_startItem 10 = .ok (.bipush 6, 2) := by decide +kernel
theorem dX10_startItem_12 : decode cX10_startItem 12 = .ok (.iconst (-1), 1) := by decide +kernel
theorem dX10_startItem_13 : decode cX10_startItem 13 = .ok (.invokevirtual 52, 3) := by decide +kernel
theorem dX10_startItem_16 : decode cX10_startItem 16 = .ok (.return_, 1) := by decide +kernel
theorem dX10_startItem_17 : decode cX10_startItem 17 = .ok (.aload_n 0, 1) := by decide +kernel
theorem dX10_startItem_18 : decode cX10_startItem 18 = .ok (.getfield 15, 3) := by decide +kernel
theorem dX10_startItem_21 : decode cX10_startItem 21 = .ok (.aload_n 0, 1) := by decide +kernel
theorem dX10_startItem_22 : decode cX10_startItem 22 = .ok (.getfield 36, 3) := by decide +kernel
theorem dX10_startItem_25 : decode cX10_startItem 25 = .ok (.iload_n 1, 1) := by decide +kernel
theorem dX10_startItem_26 : decode cX10_startItem 26 = .ok (.iastore, 1) := by decide +kernel
theorem dX10_startItem_27 : decode cX10_startItem 27 = .ok (.aload_n 0, 1) := by decide +kernel
theorem dX10_startItem_28 : decode cX10_startItem 28 = .ok (.dup, 1) := by decide +kernel
theorem dX10_startItem_29 : decode cX10_startItem 29 = .ok (.getfield 36, 3) := by decide +kernel
theorem dX10_startItem_32 : decode cX10_startItem 32 = .ok (.iconst 1, 1) := by decide +kernel
theorem dX10_startItem_33 : decode cX10_startItem 33 = .ok (.iadd, 1) := by decide +kernel
theorem dX10_startItem_34 : decode cX10_startItem 34 = .ok (.putfield 36, 3) := by decide +kernel
theorem dX10_startItem_37 : decode cX10_startItem 37 = .ok (.aload_n 0, 1) := by decide +kernel
theorem dX10_startItem_38 : decode cX10_startItem 38 = .ok (.getfield 24, 3) := by decide +kernel
theorem dX10_startItem_41 : decode cX10_startItem 41 = .ok (.iload_n 1, 1) := by decide +kernel
theorem dX10_startItem_42 : decode cX10_startItem 42 = .ok (.iconst 3, 1) := by decide +kernel
theorem dX10_startItem_43 : decode cX10_startItem 43 = .ok (.invokevirtual 105, 3) := by decide +kernel
theorem dX10_startItem_46 : decode cX10_startItem 46 = .ok (.aload_n 0, 1) := by decide +kernel
theorem dX10_startItem_47 : decode cX10_startItem 47 = .ok (.getfield 24, 3) := by decide +kernel
theorem dX10_startItem_50 : decode cX10_startItem 50 = .ok (.iload_n 1, 1) := by decide +kernel
theorem dX10_startItem_51 : decode cX10_startItem 51 = .ok (.invokevirtual 108, 3) := by decide +kernel
theorem dX10_startItem_54 : decode cX10_startItem 54 = .ok (.aload_n 0, 1) := by decide +kernel
theorem dX10_startItem_55 : decode cX10_startItem 55 = .ok (.getfield 24, 3) := by decide +kernel
theorem dX10_startItem_58 : decode cX10_startItem 58 = .ok (.iload_n 1, 1) := by decide +kernel
theorem dX10_startItem_59 : decode cX10_startItem 59 = .ok (.invokestatic 111, 3) := by decide +kernel
theorem dX10_startItem_62 : decode cX10_startItem 62 = .ok (.invokevirtual 114, 3) := by decide +kernel
theorem dX10_startItem_65 : decode cX10_startItem 65 = .ok (.astore_n 2, 1) := by decide +kernel
theorem dX10_startItem_66 : decode cX10_startItem 66 = .ok (.aload_n 2, 1) := by decide +kernel
theorem dX10_startItem_67 : decode cX10_startItem 67 = .ok (.ifnull 22, 3) := by decide +kernel
theorem dX10_startItem_70 : decode cX10_startItem 70 = .ok (.iload_n 1, 1) := by decide +kernel
theorem dX10_startItem_71 : decode cX10_startItem 71 = .ok (.invokestatic 118, 3) := by decide +kernel
theorem dX10_startItem_74 : decode cX10_startItem 74 = .ok (.ifCond .eq 15, 3) := by decide +kernel
theorem dX10_startItem_77 : decode cX10_startItem 77 = .ok (.aload_n 0, 1) := by decide +kernel
theorem dX10_startItem_78 : decode cX10_startItem 78 = .ok (.aload_n 2, 1) := by decide +kernel
theorem dX10_startItem_79 : decode cX10_startItem 79 = .ok (.iload_n 1, 1) := by decide +kernel
theorem dX10_startItem_80 : decode cX10_startItem 80 = .ok (.invokestatic 122, 3) := by decide +kernel
theorem dX10_startItem_83 : decode cX10_startItem 83 = .ok (.invokevirtual 125, 3) := by decide +kernel
theorem dX10_startItem_86 : decode cX10_startItem 86 = .ok (.goto 12, 3) := by decide +kernel
theorem dX10_startItem_89 : decode cX10_startItem 89 = .ok (.aload_n 2, 1) := by decide +kernel
theorem dX10_startItem_90 : decode cX10_startItem 90 = .ok (.ifnull 8, 3) := by decide +kernel
theorem dX10_startItem_93 : decode cX10_startItem 93 = .ok (.aload_n 0, 1) := by decide +kernel
theorem dX10_startItem_94 : decode cX10_startItem 94 = .ok (.aload_n 2, 1) := by decide +kernel
theorem dX10_startItem_95 : decode cX10_startItem 95 = .ok (.invokevirtual 129, 3) := by decide +kernel
theorem dX10_startItem_98 : decode cX10_startItem 98 = .ok (.aload_n 0, 1) := by decide +kernel
theorem dX10_startItem_99 : decode cX10_startItem 99 = .ok (.dup, 1) := by decide +kernel
theorem dX10_startItem_100 : decode cX10_startItem 100 = .ok (.getfield 36, 3) := by decide +kernel
theorem dX10_startItem_103 : decode cX10_startItem 103 = .ok (.iconst 1, 1) := by decide +kernel
theorem dX10_startItem_104 : decode cX10_startItem 104 = .ok (.isub, 1) := by decide +kernel
theorem dX10_startItem_105 : decode cX10_startItem 105 = .ok (.putfield 36, 3) := by decide +kernel
theorem dX10_startItem_108 : decode cX10_startItem 108 = .ok (.aload_n 0, 1) := by decide +kernel
theorem dX10_startItem_109 : decode cX10_startItem 109 = .ok (.getfield 24, 3) := by decide +kernel
theorem dX10_startItem_112 : decode cX10_startItem 112 = .ok (.iload_n 1, 1) := by decide +kernel
theorem dX10_startItem_113 : decode cX10_startItem 113 = .ok (.aload_n 0, 1) := by decide +kernel
theorem dX10_startItem_114 : decode cX10_startItem 114 = .ok (.getfield 28, 3) := by decide +kernel
theorem dX10_startItem_117 : decode cX10_startItem 117 = .ok (.ifCond .eq 7, 3) := by decide +kernel
theorem dX10_startItem_120 : decode cX10_startItem 120 = .ok (.iconst 2, 1) := by decide +kernel
theorem dX10_startItem_121 : decode cX10_startItem 121 = .ok (.goto 4, 3) := by decide +kernel
theorem dX10_startItem_124 : decode cX10_startItem 124 = .ok (.iconst 1, 1) := by decide +kernel
theorem dX10_startItem_125 : decode cX10_startItem 125 = .ok (.invokevirtual 105, 3) := by decide +kernel
theorem dX10_startItem_128 : decode cX10_startItem 128 = .ok (.aload_n 0, 1) := by decide +kernel
theorem dX10_startItem_129 : decode cX10_startItem 129 = .ok (.getfield 28, 3) := by decide +kernel
theorem dX10_startItem_132 : decode cX10_startItem 132 = .ok (.ifCond .eq 8, 3) := by decide +kernel
theorem dX10_startItem_135 : decode cX10_startItem 135 = .ok (.aload_n 0, 1) := by decide +kernel
theorem dX10_startItem_136 : decode cX10_startItem 136 = .ok (.iload_n 1, 1) := by decide +kernel
theorem dX10_startItem_137 : decode cX10_startItem 137 = .ok (.invokevirtual 133, 3) := by decide +kernel
theorem dX10_startItem_140 : decode cX10_startItem 140 = .ok (.return_, 1) := by decide +kernel
theorem dX10_fillHolder_0 : decode cX10_fillHolder 0 = .ok (.iload_n 2, 1) := by decide +kernel
theorem dX10_fillHolder_1 : decode cX10_fillHolder 1 = .ok (.ifCond .lt 30, 3) := by decide +kernel
theorem dX10_fillHolder_4 : decode cX10_fillHolder 4 = .ok (.iload_n 2, 1) := by decide +kernel
theorem dX10_fillHolder_5 : decode cX10_fillHolder 5 = .ok (.aload_n 1, 1) := by decide +kernel
theorem dX10_fillHolder_6 : decode cX10_fillHolder 6 = .ok (.getfield 136, 3) := by decide +kernel
theorem dX10_fillHolder_9 : decode cX10_fillHolder 9 = .ok (.if_icmp .ge 22, 3) := by decide +kernel
theorem dX10_fillHolder_12 : decode cX10_fillHolder 12 = .ok (.aload_n 1, 1) := by decide +kernel
theorem dX10_fillHolder_13 : decode cX10_fillHolder 13 = .ok (.getfield 139, 3) := by decide +kernel
theorem dX10_fillHolder_16 : decode cX10_fillHolder 16 = .ok (.iload_n 2, 1) := by decide +kernel
theorem dX10_fillHolder_17 : decode cX10_fillHolder 17 = .ok (.aload_n 0, 1) := by decide +kernel
theorem dX10_fillHolder_18 : decode cX10_fillHolder 18 = .ok (.aload_n 1, 1) := by decide +kernel
theorem dX10_fillHolder_19 : decode cX10_fillHolder 19 = .ok (.getfield 142, 3) := by decide +kernel
theorem dX10_fillHolder_22 : decode cX10_fillHolder 22 = .ok (.iload_n 2, 1) := by decide +kernel
theorem dX10_fillHolder_23 : decode cX10_fillHolder 23 = .ok (.iaload, 1) := by decide +kernel
theorem dX10_fillHolder_24 : decode cX10_fillHolder 24 = .ok (.aload_n 1, 1) := by decide +kernel
theorem dX10_fillHolder_25 : decode cX10_fillHolder 25 = .ok (.iconst (-1), 1) := by decide +kernel
theorem dX10_fillHolder_26 : decode cX10_fillHolder 26 = .ok (.iconst (-1), 1) := by decide +kernel
theorem dX10_fillHolder_27 : decode cX10_fillHolder 27 = .ok (.invokevirtual 77, 3) := by decide +kernel
theorem dX10_fillHolder_30 : decode cX10_fillHolder 30 = .ok (.iastore, 1) := by decide +kernel
theorem dX10_fillHolder_31 : decode cX10_fillHolder 31 = .ok (.return_, 1) := by decide +kernel
theorem dX10_makeEnum_0 : decode cX10_makeEnum 0 = .ok (.iconst 0, 1) := by decide +kernel
theorem dX10_makeEnum_1 : decode cX10_makeEnum 1 = .ok (.istore_n 2, 1) := by decide +kernel
theorem dX10_makeEnum_2 : decode cX10_makeEnum 2 = .ok (.iload_n 2, 1) := by decide +kernel
theorem dX10_makeEnum_3 : decode cX10_makeEnum 3 = .ok (.aload_n 1, 1) := by decide +kernel
theorem dX10_makeEnum_4 : decode cX10_makeEnum 4 = .ok (.getfield 145, 3) := by decide +kernel
theorem dX10_makeEnum_7 : decode cX10_makeEnum 7 = .ok (.if_icmp .ge 22, 3) := by decide +kernel
theorem dX10_makeEnum_10 : decode cX10_makeEnum 10 = .ok (.aload_n 0, 1) := by decide +kernel
theorem dX10_makeEnum_11 : decode cX10_makeEnum 11 = .ok (.getfield 28, 3) := by decide +kernel
theorem dX10_makeEnum_14 : decode cX10_makeEnum 14 = .ok (.ifCond .ne 15, 3) := by decide +kernel
theorem dX10_makeEnum_17 : decode cX10_makeEnum 17 = .ok (.aload_n 0, 1) := by decide +kernel
theorem dX10_makeEnum_18 : decode cX10_makeEnum 18 = .ok (.aload_n 1, 1) := by decide +kernel
theorem dX10_makeEnum_19 : decode cX10_makeEnum 19 = .ok (.iload_n 2, 1) := by decide +kernel
theorem dX10_makeEnum_20 : decode cX10_makeEnum 20 = .ok (.invokevirtual 148, 3) := by decide +kernel
theorem dX10_makeEnum_23 : decode cX10_makeEnum 23 = .ok (.iinc 2 1, 3) := by decide +kernel
theorem dX10_makeEnum_26 : decode cX10_makeEnum 26 = .ok (.goto (-24), 3) := by decide +kernel
theorem dX10_makeEnum_29 : decode cX10_makeEnum 29 = .ok (.iconst 0, 1) := by decide +kernel
theorem dX10_makeEnum_30 : decode cX10_makeEnum 30 = .ok (.istore_n 2, 1) := by decide +kernel
theorem dX10_makeEnum_31 : decode cX10_makeEnum 31 = .ok (.iload_n 2, 1) := by decide +kernel
theorem dX10_makeEnum_32 : decode cX10_makeEnum 32 = .ok (.aload_n 1, 1) := by decide +kernel
theorem dX10_makeEnum_33 : decode cX10_makeEnum 33 = .ok (.getfield 151, 3) := by decide +kernel
theorem dX10_makeEnum_36 : decode cX10_makeEnum 36 = .ok (.if_icmp .ge 27, 3) := by decide +kernel
theorem dX10_makeEnum_39 : decode cX10_makeEnum 39 = .ok (.aload_n 0, 1) := by decide +kernel
theorem dX10_makeEnum_40 : decode cX10_makeEnum 40 = .ok (.getfield 28, 3) := by decide +kernel
theorem dX10_makeEnum_43 : decode cX10_makeEnum 43 = .ok (.ifCond .ne 20, 3) := by decide +kernel
theorem dX10_makeEnum_46 : decode cX10_makeEnum 46 = .ok (.aload_n 0, 1) := by decide +kernel
theorem dX10_makeEnum_47 : decode cX10_makeEnum 47 = .ok (.aload_n 1, 1) := by decide +kernel
theorem dX10_makeEnum_48 : decode cX10_makeEnum 48 = .ok (.aload_n 1, 1) := by decide +kernel
theorem dX10_makeEnum_49 : decode cX10_makeEnum 49 = .ok (.getfield 154, 3) := by decide +kernel
theorem dX10_makeEnum_52 : decode cX10_makeEnum 52 = .ok (.iload_n 2, 1) := by decide +kernel
theorem dX10_makeEnum_53 : decode cX10_makeEnum 53 = .ok (.aaload, 1) := by decide +kernel
theorem dX10_makeEnum_54 : decode cX10_makeEnum 54 = .ok (.invokevirtual 158, 3) := by decide +kernel
theorem dX10_makeEnum_57 : decode cX10_makeEnum 57 = .ok (.iinc 2 1, 3) := by decide +kernel
theorem dX10_makeEnum_60 : decode cX10_makeEnum 60 = .ok (.goto (-29), 3) := by decide +kernel
theorem dX10_makeEnum_63 : decode cX10_makeEnum 63 = .ok (.iconst 0, 1) := by decide +kernel
theorem dX10_makeEnum_64 : decode cX10_makeEnum 64 = .ok (.istore_n 2, 1) := by decide +kernel
theorem dX10_makeEnum_65 : decode cX10_makeEnum 65 = .ok (.iload_n 2, 1) := by decide +kernel
theorem dX10_makeEnum_66 : decode cX10_makeEnum 66 = .ok (.aload_n 1, 1) := by decide +kernel
theorem dX10_makeEnum_67 : decode cX10_makeEnum 67 = .ok (.getfield 162, 3) := by decide +kernel
theorem dX10_makeEnum_70 : decode cX10_makeEnum 70 = .ok (.if_icmp .ge 47, 3) := by decide +kernel
theorem dX10_makeEnum_73 : decode cX10_makeEnum 73 = .ok (.aload_n 0, 1) := by decide +kernel
theorem dX10_makeEnum_74 : decode cX10_makeEnum 74 = .ok (.getfield 28, 3) := by decide +kernel
theorem dX10_makeEnum_77 : decode cX10_makeEnum 77 = .ok (.ifCond .ne 40, 3) := by decide +kernel
theorem dX10_makeEnum_80 : decode cX10_makeEnum 80 = .ok (.aload_n 0, 1) := by decide +kernel
theorem dX10_makeEnum_81 : decode cX10_makeEnum 81 = .ok (.aload_n 1, 1) := by decide +kernel
theorem dX10_makeEnum_82 : decode cX10_makeEnum 82 = .ok (.getfield 165, 3) := by decide +kernel
theorem dX10_makeEnum_85 : decode cX10_makeEnum 85 = .ok (.iload_n 2, 1) := by decide +kernel
theorem dX10_makeEnum_86 : decode cX10_makeEnum 86 = .ok (.iaload, 1) := by decide +kernel
theorem dX10_makeEnum_87 : decode cX10_makeEnum 87 = .ok (.aload_n 1, 1) := by decide +kernel
theorem dX10_makeEnum_88 : decode cX10_makeEnum 88 = .ok (.iconst (-1), 1) := by decide +kernel
theorem dX10_makeEnum_89 : decode cX10_makeEnum 89 = .ok (.iconst (-1), 1) := by decide +kernel
theorem dX10_makeEnum_90 : decode cX10_makeEnum 90 = .ok (.invokevirtual 77, 3) := by decide +kernel
theorem dX10_makeEnum_93 : decode cX10_makeEnum 93 = .ok (.istore_n 3, 1) := by decide +kernel
theorem dX10_makeEnum_94 : decode cX10_makeEnum 94 = .ok (.aload_n 0, 1) := by decide +kernel
theorem dX10_makeEnum_95 : decode cX10_makeEnum 95 = .ok (.getfield 28, 3) := by decide +kernel
theorem dX10_makeEnum_98 : decode cX10_makeEnum 98 = .ok (.ifCond .ne 13, 3) := by decide +kernel
theorem dX10_makeEnum_101 : decode cX10_makeEnum 101 = .ok (.iload_n 3, 1) := by decide +kernel
theorem dX10_makeEnum_102 : decode cX10_makeEnum 102 = .ok (.ifCond .ne 9, 3) := by decide +kernel
theorem dX10_makeEnum_105 : decode cX10_makeEnum 105 = .ok (.aload_n 0, 1) := by decide +kernel
theorem dX10_makeEnum_106 : decode cX10_makeEnum 106 = .ok (.iconst 3, 1) := by decide +kernel
theorem dX10_makeEnum_107 : decode cX10_makeEnum 107 = .ok (.iconst (-1), 1) := by decide +kernel
theorem dX10_makeEnum_108 : decode cX10_makeEnum 108 = .ok (.invokevirtual 52, 3) := by decide +kernel
theorem dX10_makeEnum_111 : decode cX10_makeEnum 111 = .ok (.iinc 2 1, 3) := by decide +kernel
theorem dX10_makeEnum_114 : decode cX10_makeEnum 114 = .ok (.goto (-49), 3) := by decide +kernel
theorem dX10_makeEnum_117 : decode cX10_makeEnum 117 = .ok (.return_, 1) := by decide +kernel
theorem dX10_makeConstant_0 : decode cX10_makeConstant 0 = .ok (.aload_n 1, 1) := by decide +kernel
theorem dX10_makeConstant_1 : decode cX10_makeConstant 1 = .ok (.getfield 168, 3) := by decide +kernel
theorem dX10_makeConstant_4 : decode cX10_makeConstant 4 = .ok (.iload_n 2, 1) := by decide +kernel
theorem dX10_makeConstant_5 : decode cX10_makeConstant 5 = .ok (.aaload, 1) := by decide +kernel
theorem dX10_makeConstant_6 : decode cX10_makeConstant 6 = .ok (.astore_n 3, 1) := by decide +kernel
theorem dX10_makeConstant_7 : decode cX10_makeConstant 7 = .ok (.aload_n 3, 1) := by decide +kernel
theorem dX10_makeConstant_8 : decode cX10_makeConstant 8 = .ok (.getfield 172, 3) := by decide +kernel
theorem dX10_makeConstant_11 : decode cX10_makeConstant 11 = .ok (.iconst (-1), 1) := by decide +kernel
theorem dX10_makeConstant_12 : decode cX10_makeConstant 12 = .ok (.if_icmp .eq 18, 3) := by decide +kernel
theorem dX10_makeConstant_15 : decode cX10_makeConstant 15 = .ok (.aload_n 3, 1) := by decide +kernel
theorem dX10_makeConstant_16 : decode cX10_makeConstant 16 = .ok (.aload_n 0, 1) := by decide +kernel
theorem dX10_makeConstant_17 : decode cX10_makeConstant 17 = .ok (.aload_n 3, 1) := by decide +kernel
theorem dX10_makeConstant_18 : decode cX10_makeConstant 18 = .ok (.getfield 172, 3) := by decide +kernel
theorem dX10_makeConstant_21 : decode cX10_makeConstant 21 = .ok (.aload_n 1, 1) := by decide +kernel
theorem dX10_makeConstant_22 : decode cX10_makeConstant 22 = .ok (.iload_n 2, 1) := by decide +kernel
theorem dX10_makeConstant_23 : decode cX10_makeConstant 23 = .ok (.iconst (-1), 1) := by decide +kernel
theorem dX10_makeConstant_24 : decode cX10_makeConstant 24 = .ok (.invokevirtual 77, 3) := by decide +kernel
theorem dX10_makeConstant_27 : decode cX10_makeConstant 27 = .ok (.putfield 175, 3) := by decide +kernel
theorem dX10_makeConstant_30 : decode cX10_makeConstant 30 = .ok (.aload_n 0, 1) := by decide +kernel
theorem dX10_makeConstant_31 : decode cX10_makeConstant 31 = .ok (.getfield 28, 3) := by decide +kernel
theorem dX10_makeConstant_34 : decode cX10_makeConstant 34 = .ok (.ifCond .ne 10, 3) := by decide +kernel
theorem dX10_makeConstant_37 : decode cX10_makeConstant 37 = .ok (.aload_n 1, 1) := by decide +kernel
theorem dX10_makeConstant_38 : decode cX10_makeConstant 38 = .ok (.iload_n 2, 1) := by decide +kernel
theorem dX10_makeConstant_39 : decode cX10_makeConstant 39 = .ok (.iconst 1, 1) := by decide +kernel
theorem dX10_makeConstant_40 : decode cX10_makeConstant 40 = .ok (.iadd, 1) := by decide +kernel
theorem dX10_makeConstant_41 : decode cX10_makeConstant 41 = .ok (.putfield 178, 3) := by decide +kernel
theorem dX10_makeConstant_44 : decode cX10_makeConstant 44 = .ok (.return_, 1) := by decide +kernel
theorem dX10_fillTable_0 : decode cX10_fillTable 0 = .ok (.iconst 0, 1) := by decide +kernel
theorem dX10_fillTable_1 : decode cX10_fillTable 1 = .ok (.istore_n 3, 1) := by decide +kernel
theorem dX10_fillTable_2 : decode cX10_fillTable 2 = .ok (.iload_n 3, 1) := by decide +kernel
theorem dX10_fillTable_3 : decode cX10_fillTable 3 = .ok (.aload_n 2, 1) := by decide +kernel
theorem dX10_fillTable_4 : decode cX10_fillTable 4 = .ok (.getfield 181, 3) := by decide +kernel
theorem dX10_fillTable_7 : decode cX10_fillTable 7 = .ok (.if_icmp .ge 49, 3) := by decide +kernel
theorem dX10_fillTable_10 : decode cX10_fillTable 10 = .ok (.aload_n 0, 1) := by decide +kernel
theorem dX10_fillTable_11 : decode cX10_fillTable 11 = .ok (.getfield 28, 3) := by decide +kernel
theorem dX10_fillTable_14 : decode cX10_fillTable 14 = .ok (.ifCond .ne 42, 3) := by decide +kernel
theorem dX10_fillTable_17 : decode cX10_fillTable 17 = .ok (.aload_n 2, 1) := by decide +kernel
theorem dX10_fillTable_18 : decode cX10_fillTable 18 = .ok (.getfield 186, 3) := by decide +kernel
theorem dX10_fillTable_21 : decode cX10_fillTable 21 = .ok (.iload_n 3, 1) := by decide +kernel
theorem dX10_fillTable_22 : decode cX10_fillTable 22 = .ok (.aload_n 0, 1) := by decide +kernel
theorem dX10_fillTable_23 : decode cX10_fillTable 23 = .ok (.aload_n 2, 1) := by decide +kernel
theorem dX10_fillTable_24 : decode cX10_fillTable 24 = .ok (.getfield 189, 3) := by decide +kernel
theorem dX10_fillTable_27 : decode cX10_fillTable 27 = .ok (.iload_n 3, 1) := by decide +kernel
theorem dX10_fillTable_28 : decode cX10_fillTable 28 = .ok (.iaload, 1) := by decide +kernel
theorem dX10_fillTable_29 : decode cX10_fillTable 29 = .ok (.aload_n 1, 1) := by decide +kernel
theorem dX10_fillTable_30 : decode cX10_fillTable 30 = .ok (.iconst (-1), 1) := by decide +kernel
theorem dX10_fillTable_31 : decode cX10_fillTable 31 = .ok (.iconst (-1), 1) := by decide +kernel
theorem dX10_fillTable_32 : decode cX10_fillTable 32 = .ok (.invokevirtual 77, 3) := by decide +kernel
theorem dX10_fillTable_35 : decode cX10_fillTable 35 = .ok (.iastore, 1) := by decide +kernel
theorem dX10_fillTable_36 : decode cX10_fillTable 36 = .ok (.aload_n 0, 1) := by decide +kernel
theorem dX10_fillTable_37 : decode cX10_fillTable 37 = .ok (.getfield 28, 3) := by decide +kernel
theorem dX10_fillTable_40 : decode cX10_fillTable 40 = .ok (.ifCond .ne 10, 3) := by decide +kernel
theorem dX10_fillTable_43 : decode cX10_fillTable 43 = .ok (.aload_n 2, 1) := by decide +kernel
theorem dX10_fillTable_44 : decode cX10_fillTable 44 = .ok (.iload_n 3, 1) := by decide +kernel
theorem dX10_fillTable_45 : decode cX10_fillTable 45 = .ok (.iconst 1, 1) := by decide +kernel
theorem dX10_fillTable_46 : decode cX10_fillTable 46 = .ok (.iadd, 1) := by decide +kernel
theorem dX10_fillTable_47 : decode cX10_fillTable 47 = .ok (.putfield 192, 3) := by decide +kernel
theorem dX10_fillTable_50 : decode cX10_fillTable 50 = .ok (.iinc 3 1, 3) := by decide +kernel
theorem dX10_fillTable_53 : decode cX10_fillTable 53 = .ok (.goto (-51), 3) := by decide +kernel
theorem dX10_fillTable_56 : decode cX10_fillTable 56 = .ok (.return_, 1) := by decide +kernel
theorem dX10_workOut_0 : decode cX10_workOut 0 = .ok (.aload_n 0, 1) := by decide +kernel
theorem dX10_workOut_1 : decode cX10_workOut 1 = .ok (.getfield 24, 3) := by decide +kernel
theorem dX10_workOut_4 : decode cX10_workOut 4 = .ok (.getfield 90, 3) := by decide +kernel
theorem dX10_workOut_7 : decode cX10_workOut 7 = .ok (.astore 5, 2) := by decide +kernel
theorem dX10_workOut_9 : decode cX10_workOut 9 = .ok (.iload_n 1, 1) := by decide +kernel
theorem dX10_workOut_10 : decode cX10_workOut 10 = .ok (.iconst 0, 1) := by decide +kernel
theorem dX10_workOut_11 : decode cX10_workOut 11 = .ok (.invokestatic 195, 3) := by decide +kernel
theorem dX10_workOut_14 : decode cX10_workOut 14 = .ok (.istore 6, 2) := by decide +kernel
theorem dX10_workOut_16 : decode cX10_workOut 16 = .ok (.iload 6, 2) := by decide +kernel
theorem dX10_workOut_18 : decode cX10_workOut 18 = .ok (.aload 5, 2) := by decide +kernel
theorem dX10_workOut_20 : decode cX10_workOut 20 = .ok (.getfield 94, 3) := by decide +kernel
theorem dX10_workOut_23 : decode cX10_workOut 23 = .ok (.if_icmp .ge 52, 3) := by decide +kernel
theorem dX10_workOut_26 : decode cX10_workOut 26 = .ok (.aload_n 0, 1) := by decide +kernel
theorem dX10_workOut_27 : decode cX10_workOut 27 = .ok (.getfield 28, 3) := by decide +kernel
theorem dX10_workOut_30 : decode cX10_workOut 30 = .ok (.ifCond .ne 45, 3) := by decide +kernel
theorem dX10_workOut_33 : decode cX10_workOut 33 = .ok (.aload 5, 2) := by decide +kernel
theorem dX10_workOut_35 : decode cX10_workOut 35 = .ok (.getfield 201, 3) := by decide +kernel
theorem dX10_workOut_38 : decode cX10_workOut 38 = .ok (.iload 6, 2) := by decide +kernel
theorem dX10_workOut_40 : decode cX10_workOut 40 = .ok (.iaload, 1) := by decide +kernel
theorem dX10_workOut_41 : decode cX10_workOut 41 = .ok (.istore 7, 2) := by decide +kernel
theorem dX10_workOut_43 : decode cX10_workOut 43 = .ok (.iload 7, 2) := by decide +kernel
theorem dX10_workOut_45 : decode cX10_workOut 45 = .ok (.ifCond .ne 6, 3) := by decide +kernel
theorem dX10_workOut_48 : decode cX10_workOut 48 = .ok (.goto 27, 3) := by decide +kernel
theorem dX10_workOut_51 : decode cX10_workOut 51 = .ok (.aload_n 0, 1) := by decide +kernel
theorem dX10_workOut_52 : decode cX10_workOut 52 = .ok (.iload 7, 2) := by decide +kernel
theorem dX10_workOut_54 : decode cX10_workOut 54 = .ok (.aload 5, 2) := by decide +kernel
theorem dX10_workOut_56 : decode cX10_workOut 56 = .ok (.getfield 99, 3) := by decide +kernel
theorem dX10_workOut_59 : decode cX10_workOut 59 = .ok (.iload 6, 2) := by decide +kernel
theorem dX10_workOut_61 : decode cX10_workOut 61 = .ok (.iaload, 1) := by decide +kernel
theorem dX10_workOut_62 : decode cX10_workOut 62 = .ok (.aload_n 2, 1) := by decide +kernel
theorem dX10_workOut_63 : decode cX10_workOut 63 = .ok (.iload_n 3, 1) := by decide +kernel
theorem dX10_workOut_64 : decode cX10_workOut 64 = .ok (.iload 4, 2) := by decide +kernel
theorem dX10_workOut_66 : decode cX10_workOut 66 = .ok (.invokevirtual 204, 3) := by decide +kernel
theorem dX10_workOut_69 : decode cX10_workOut 69 = .ok (.iinc 6 1, 3) := by decide +kernel
theorem dX10_workOut_72 : decode cX10_workOut 72 = .ok (.goto (-56), 3) := by decide +kernel
theorem dX10_workOut_75 : decode cX10_workOut 75 = .ok (.aload_n 0, 1) := by decide +kernel
theorem dX10_workOut_76 : decode cX10_workOut 76 = .ok (.getfield 28, 3) := by decide +kernel
theorem dX10_workOut_79 : decode cX10_workOut 79 = .ok (.ifCond .eq 7, 3) := by decide +kernel
theorem dX10_workOut_82 : decode cX10_workOut 82 = .ok (.iconst 0, 1) := by decide +kernel
theorem dX10_workOut_83 : decode cX10_workOut 83 = .ok (.goto 7, 3) := by decide +kernel
theorem dX10_workOut_86 : decode cX10_workOut 86 = .ok (.aload_n 0, 1) := by decide +kernel
theorem dX10_workOut_87 : decode cX10_workOut 87 = .ok (.invokevirtual 208, 3) := by decide +kernel
theorem dX10_workOut_90 : decode cX10_workOut 90 = .ok (.ireturn, 1) := by decide +kernel
theorem dX10_takeStep_0 : decode cX10_takeStep 0 = .ok (.iload_n 1, 1) := by decide +kernel
theorem dX10_takeStep_1 : decode cX10_takeStep 1 = .ok (.tableswitch 205 1 18 #[87, 95, 104, 117, 205, 193, 205, 205, 205, 205, 205, 205, 205, 205, 133, 152, 164, 172], 87) := by decide +kernel
theorem dX10_takeStep_88 : decode cX10_takeStep 88 = .ok (.aload_n 0, 1) := by decide +kernel
theorem dX10_takeStep_89 : decode cX10_takeStep 89 = .ok (.iload_n 2, 1) := by decide +kernel
theorem dX10_takeStep_90 : decode cX10_takeStep 90 = .ok (.invokevirtual 212, 3) := by decide +kernel
theorem dX10_takeStep_93 : decode cX10_takeStep 93 = .ok (.goto 118, 3) := by decide +kernel
theorem dX10_takeStep_96 : decode cX10_takeStep 96 = .ok (.aload_n 0, 1) := by decide +kernel
theorem dX10_takeStep_97 : decode cX10_takeStep 97 = .ok (.iload 4, 2) := by decide +kernel
theorem dX10_takeStep_99 : decode cX10_takeStep 99 = .ok (.invokevirtual 212, 3) := by decide +kernel
theorem dX10_takeStep_102 : decode cX10_takeStep 102 = .ok (.goto 109, 3) := by decide +kernel
theorem dX10_takeStep_105 : decode cX10_takeStep 105 = .ok (.aload_n 0, 1) := by decide +kernel
theorem dX10_takeStep_106 : decode cX10_takeStep 106 = .ok (.aload_n 3, 1) := by decide +kernel
theorem dX10_takeStep_107 : decode cX10_takeStep 107 = .ok (.iload 4, 2) := by decide +kernel
theorem dX10_takeStep_109 : decode cX10_takeStep 109 = .ok (.invokestatic 215, 3) := by decide +kernel
theorem dX10_takeStep_112 : decode cX10_takeStep 112 = .ok (.invokevirtual 212, 3) := by decide +kernel
theorem dX10_takeStep_115 : decode cX10_takeStep 115 = .ok (.goto 96, 3) := by decide +kernel
theorem dX10_takeStep_118 : decode cX10_takeStep 118 = .ok (.aload_n 0, 1) := by decide +kernel
theorem dX10_takeStep_119 : decode cX10_takeStep 119 = .ok (.aload_n 0, 1) := by decide +kernel
theorem dX10_takeStep_120 : decode cX10_takeStep 120 = .ok (.aload_n 3, 1) := by decide +kernel
theorem dX10_takeStep_121 : decode cX10_takeStep 121 = .ok (.iload 4, 2) := by decide +kernel
theorem dX10_takeStep_123 : decode cX10_takeStep 123 = .ok (.iload 5, 2) := by decide +kernel
theorem dX10_takeStep_125 : decode cX10_takeStep 125 = .ok (.invokevirtual 219, 3) := by decide +kernel
theorem dX10_takeStep_128 : decode cX10_takeStep 128 = .ok (.invokevirtual 212, 3) := by decide +kernel
theorem dX10_takeStep_131 : decode cX10_takeStep 131 = .ok (.goto 80, 3) := by decide +kernel
theorem dX10_takeStep_134 : decode cX10_takeStep 134 = .ok (.aload_n 0, 1) := by decide +kernel
theorem dX10_takeStep_135 : decode cX10_takeStep 135 = .ok (.aload_n 0, 1) := by decide +kernel
theorem dX10_takeStep_136 : decode cX10_takeStep 136 = .ok (.iload_n 2, 1) := by decide +kernel
theorem dX10_takeStep_137 : decode cX10_takeStep 137 = .ok (.bipush 24, 2) := by decide +kernel
theorem dX10_takeStep_139 : decode cX10_takeStep 139 = .ok (.idiv, 1) := by decide +kernel
theorem dX10_takeStep_140 : decode cX10_takeStep 140 = .ok (.iload_n 2, 1) := by decide +kernel
theorem dX10_takeStep_141 : decode cX10_takeStep 141 = .ok (.bipush 24, 2) := by decide +kernel
theorem dX10_takeStep_143 : decode cX10_takeStep 143 = .ok (.irem, 1) := by decide +kernel
theorem dX10_takeStep_144 : decode cX10_takeStep 144 = .ok (.invokevirtual 222, 3) := by decide +kernel
theorem dX10_takeStep_147 : decode cX10_takeStep 147 = .ok (.invokevirtual 212, 3) := by decide +kernel
theorem dX10_takeStep_150 : decode cX10_takeStep 150 = .ok (.goto 61, 3) := by decide +kernel
theorem dX10_takeStep_153 : decode cX10_takeStep 153 = .ok (.aload_n 0, 1) := by decide +kernel
theorem dX10_takeStep_154 : decode cX10_takeStep 154 = .ok (.aload_n 0, 1) := by decide +kernel
theorem dX10_takeStep_155 : decode cX10_takeStep 155 = .ok (.iload_n 2, 1) := by decide +kernel
theorem dX10_takeStep_156 : decode cX10_takeStep 156 = .ok (.invokevirtual 225, 3) := by decide +kernel
theorem dX10_takeStep_159 : decode cX10_takeStep 159 = .ok (.invokevirtual 212, 3) := by decide +kernel
theorem dX10_takeStep_162 : decode cX10_takeStep 162 = .ok (.goto 49, 3) := by decide +kernel
theorem dX10_takeStep_165 : decode cX10_takeStep 165 = .ok (.aload_n 0, 1) := by decide +kernel
theorem dX10_takeStep_166 : decode cX10_takeStep 166 = .ok (.iload_n 2, 1) := by decide +kernel
theorem dX10_takeStep_167 : decode cX10_takeStep 167 = .ok (.invokevirtual 39, 3) := by decide +kernel
theorem dX10_takeStep_170 : decode cX10_takeStep 170 = .ok (.goto 41, 3) := by decide +kernel
theorem dX10_takeStep_173 : decode cX10_takeStep 173 = .ok (.aload_n 0, 1) := by decide +kernel
theorem dX10_takeStep_174 : decode cX10_takeStep 174 = .ok (.aload_n 0, 1) := by decide +kernel
theorem dX10_takeStep_175 : decode cX10_takeStep 175 = .ok (.iload_n 2, 1) := by decide +kernel
theorem dX10_takeStep_176 : decode cX10_takeStep 176 = .ok (.iconst 4, 1) := by decide +kernel
theorem dX10_takeStep_177 : decode cX10_takeStep 177 = .ok (.idiv, 1) := by decide +kernel
theorem dX10_takeStep_178 : decode cX10_takeStep 178 = .ok (.iload_n 2, 1) := by decide +kernel
theorem dX10_takeStep_179 : decode cX10_takeStep 179 = .ok (.iconst 4, 1) := by decide +kernel
theorem dX10_takeStep_180 : decode cX10_takeStep 180 = .ok (.irem, 1) := by decide +kernel
theorem dX10_takeStep_181 : decode cX10_takeStep 181 = .ok (.aload_n 0, 1) := by decide +kernel
theorem dX10_takeStep_182 : decode cX10_takeStep 182 = .ok (.invokevirtual 208, 3) := by decide +kernel
theorem dX10_takeStep_185 : decode cX10_takeStep 185 = .ok (.invokevirtual 228, 3) := by decide +kernel
theorem dX10_takeStep_188 : decode cX10_takeStep 188 = .ok (.invokevirtual 212, 3) := by decide +kernel
theorem dX10_takeStep_191 : decode cX10_takeStep 191 = .ok (.goto 20, 3) := by decide +kernel
theorem dX10_takeStep_194 : decode cX10_takeStep 194 = .ok (.aload_n 0, 1) := by decide +kernel
theorem dX10_takeStep_195 : decode cX10_takeStep 195 = .ok (.aload_n 0, 1) := by decide +kernel
theorem dX10_takeStep_196 : decode cX10_takeStep 196 = .ok (.invokevirtual 208, 3) := by decide +kernel
theorem dX10_takeStep_199 : decode cX10_takeStep 199 = .ok (.ineg, 1) := by decide +kernel
theorem dX10_takeStep_200 : decode cX10_takeStep 200 = .ok (.invokevirtual 212, 3) := by decide +kernel
theorem dX10_takeStep_203 : decode cX10_takeStep 203 = .ok (.goto 8, 3) := by decide +kernel
theorem dX10_takeStep_206 : decode cX10_takeStep 206 = .ok (.aload_n 0, 1) := by decide +kernel
theorem dX10_takeStep_207 : decode cX10_takeStep 207 = .ok (.iload_n 1, 1) := by decide +kernel
theorem dX10_takeStep_208 : decode cX10_takeStep 208 = .ok (.invokevirtual 232, 3) := by decide +kernel
theorem dX10_takeStep_211 : decode cX10_takeStep 211 = .ok (.return_, 1) := by decide +kernel
theorem dX10_combine_0 : decode cX10_combine 0 = .ok (.aload_n 0, 1) := by decide +kernel
theorem dX10_combine_1 : decode cX10_combine 1 = .ok (.invokevirtual 208, 3) := by decide +kernel
theorem dX10_combine_4 : decode cX10_combine 4 = .ok (.istore_n 2, 1) := by decide +kernel
theorem dX10_combine_5 : decode cX10_combine 5 = .ok (.aload_n 0, 1) := by decide +kernel
theorem dX10_combine_6 : decode cX10_combine 6 = .ok (.invokevirtual 208, 3) := by decide +kernel
theorem dX10_combine_9 : decode cX10_combine 9 = .ok (.istore_n 3, 1) := by decide +kernel
theorem dX10_combine_10 : decode cX10_combine 10 = .ok (.iload_n 1, 1) := by decide +kernel
theorem dX10_combine_11 : decode cX10_combine 11 = .ok (.tableswitch 55 7 9 #[25, 35, 45], 25) := by decide +kernel
theorem dX10_combine_36 : decode cX10_combine 36 = .ok (.aload_n 0, 1) := by decide +kernel
theorem dX10_combine_37 : decode cX10_combine 37 = .ok (.iload_n 3, 1) := by decide +kernel
theorem dX10_combine_38 : decode cX10_combine 38 = .ok (.iload_n 2, 1) := by decide +kernel
theorem dX10_combine_39 : decode cX10_combine 39 = .ok (.iadd, 1) := by decide +kernel
theorem dX10_combine_40 : decode cX10_combine 40 = .ok (.invokevirtual 212, 3) := by decide +kernel
theorem dX10_combine_43 : decode cX10_combine 43 = .ok (.goto 43, 3) := by decide +kernel
theorem dX10_combine_46 : decode cX10_combine 46 = .ok (.aload_n 0, 1) := by decide +kernel
theorem dX10_combine_47 : decode cX10_combine 47 = .ok (.iload_n 3, 1) := by decide +kernel
theorem dX10_combine_48 : decode cX10_combine 48 = .ok (.iload_n 2, 1) := by decide +kernel
theorem dX10_combine_49 : decode cX10_combine 49 = .ok (.isub, 1) := by decide +kernel
theorem dX10_combine_50 : decode cX10_combine 50 = .ok (.invokevirtual 212, 3) := by decide +kernel
theorem dX10_combine_53 : decode cX10_combine 53 = .ok (.goto 33, 3) := by decide +kernel
theorem dX10_combine_56 : decode cX10_combine 56 = .ok (.aload_n 0, 1) := by decide +kernel
theorem dX10_combine_57 : decode cX10_combine 57 = .ok (.iload_n 3, 1) := by decide +kernel
theorem dX10_combine_58 : decode cX10_combine 58 = .ok (.iload_n 2, 1) := by decide +kernel
theorem dX10_combine_59 : decode cX10_combine 59 = .ok (.imul, 1) := by decide +kernel
theorem dX10_combine_60 : decode cX10_combine 60 = .ok (.invokevirtual 212, 3) := by decide +kernel
theorem dX10_combine_63 : decode cX10_combine 63 = .ok (.goto 23, 3) := by decide +kernel
theorem dX10_combine_66 : decode cX10_combine 66 = .ok (.iload_n 2, 1) := by decide +kernel
theorem dX10_combine_67 : decode cX10_combine 67 = .ok (.ifCond .ne 12, 3) := by decide +kernel
theorem dX10_combine_70 : decode cX10_combine 70 = .ok (.aload_n 0, 1) := by decide +kernel
theorem dX10_combine_71 : decode cX10_combine 71 = .ok (.iconst 4, 1) := by decide +kernel
theorem dX10_combine_72 : decode cX10_combine 72 = .ok (.iconst (-1), 1) := by decide +kernel
theorem dX10_combine_73 : decode cX10_combine 73 = .ok (.invokevirtual 52, 3) := by decide +kernel
theorem dX10_combine_76 : decode cX10_combine 76 = .ok (.goto 10, 3) := by decide +kernel
theorem dX10_combine_79 : decode cX10_combine 79 = .ok (.aload_n 0, 1) := by decide +kernel
theorem dX10_combine_80 : decode cX10_combine 80 = .ok (.iload_n 3, 1) := by decide +kernel
theorem dX10_combine_81 : decode cX10_combine 81 = .ok (.iload_n 2, 1) := by decide +kernel
theorem dX10_combine_82 : decode cX10_combine 82 = .ok (.idiv, 1) := by decide +kernel
theorem dX10_combine_83 : decode cX10_combine 83 = .ok (.invokevirtual 212, 3) := by decide +kernel
theorem dX10_combine_86 : decode cX10_combine 86 = .ok (.return_, 1) := by decide +kernel
theorem dX10_argumentOf_0 : decode cX10_argumentOf 0 = .ok (.aload_n 0, 1) := by decide +kernel
theorem dX10_argumentOf_1 : decode cX10_argumentOf 1 = .ok (.iload_n 1, 1) := by decide +kernel
theorem dX10_argumentOf_2 : decode cX10_argumentOf 2 = .ok (.invokevirtual 62, 3) := by decide +kernel
theorem dX10_argumentOf_5 : decode cX10_argumentOf 5 = .ok (.astore_n 2, 1) := by decide +kernel
theorem dX10_argumentOf_6 : decode cX10_argumentOf 6 = .ok (.aload_n 2, 1) := by decide +kernel
theorem dX10_argumentOf_7 : decode cX10_argumentOf 7 = .ok (.ifnonnull 7, 3) := by decide +kernel
theorem dX10_argumentOf_10 : decode cX10_argumentOf 10 = .ok (.iconst 0, 1) := by decide +kernel
theorem dX10_argumentOf_11 : decode cX10_argumentOf 11 = .ok (.goto 7, 3) := by decide +kernel
theorem dX10_argumentOf_14 : decode cX10_argumentOf 14 = .ok (.aload_n 2, 1) := by decide +kernel
theorem dX10_argumentOf_15 : decode cX10_argumentOf 15 = .ok (.getfield 175, 3) := by decide +kernel
theorem dX10_argumentOf_18 : decode cX10_argumentOf 18 = .ok (.ireturn, 1) := by decide +kernel
theorem dX10_workOutAbove_0 : decode cX10_workOutAbove 0 = .ok (.aload_n 0, 1) := by decide +kernel
theorem dX10_workOutAbove_1 : decode cX10_workOutAbove 1 = .ok (.getfield 59, 3) := by decide +kernel
theorem dX10_workOutAbove_4 : decode cX10_workOutAbove 4 = .ok (.ifCond .ne 30, 3) := by decide +kernel
theorem dX10_workOutAbove_7 : decode cX10_workOutAbove 7 = .ok (.aload_n 0, 1) := by decide +kernel
theorem dX10_workOutAbove_8 : decode cX10_workOutAbove 8 = .ok (.aload_n 0, 1) := by decide +kernel
theorem dX10_workOutAbove_9 : decode cX10_workOutAbove 9 = .ok (.aload_n 1, 1) := by decide +kernel
theorem dX10_workOutAbove_10 : decode cX10_workOutAbove 10 = .ok (.iload_n 2, 1) := by decide +kernel
theorem dX10_workOutAbove_11 : decode cX10_workOutAbove 11 = .ok (.iload_n 3, 1) := by decide +kernel
theorem dX10_workOutAbove_12 : decode cX10_workOutAbove 12 = .ok (.invokevirtual 73, 3) := by decide +kernel
theorem dX10_workOutAbove_15 : decode cX10_workOutAbove 15 = .ok (.putfield 235, 3) := by decide +kernel
theorem dX10_workOutAbove_18 : decode cX10_workOutAbove 18 = .ok (.aload_n 0, 1) := by decide +kernel
theorem dX10_workOutAbove_19 : decode cX10_workOutAbove 19 = .ok (.aload_n 0, 1) := by decide +kernel
theorem dX10_workOutAbove_20 : decode cX10_workOutAbove 20 = .ok (.getfield 28, 3) := by decide +kernel
theorem dX10_workOutAbove_23 : decode cX10_workOutAbove 23 = .ok (.ifCond .ne 7, 3) := by decide +kernel
theorem dX10_workOutAbove_26 : decode cX10_workOutAbove 26 = .ok (.iconst 1, 1) := by decide +kernel
theorem dX10_workOutAbove_27 : decode cX10_workOutAbove 27 = .ok (.goto 4, 3) := by decide +kernel
theorem dX10_workOutAbove_30 : decode cX10_workOutAbove 30 = .ok (.iconst 0, 1) := by decide +kernel
theorem dX10_workOutAbove_31 : decode cX10_workOutAbove 31 = .ok (.putfield 59, 3) := by decide +kernel
theorem dX10_workOutAbove_34 : decode cX10_workOutAbove 34 = .ok (.aload_n 0, 1) := by decide +kernel
theorem dX10_workOutAbove_35 : decode cX10_workOutAbove 35 = .ok (.getfield 235, 3) := by decide +kernel
theorem dX10_workOutAbove_38 : decode cX10_workOutAbove 38 = .ok (.ireturn, 1) := by decide +kernel
theorem dX10_readConstant_0 : decode cX10_readConstant 0 = .ok (.aload_n 0, 1) := by decide +kernel
theorem dX10_readConstant_1 : decode cX10_readConstant 1 = .ok (.iload_n 1, 1) := by decide +kernel
theorem dX10_readConstant_2 : decode cX10_readConstant 2 = .ok (.invokevirtual 39, 3) := by decide +kernel
theorem dX10_readConstant_5 : decode cX10_readConstant 5 = .ok (.aload_n 0, 1) := by decide +kernel
theorem dX10_readConstant_6 : decode cX10_readConstant 6 = .ok (.getfield 24, 3) := by decide +kernel
theorem dX10_readConstant_9 : decode cX10_readConstant 9 = .ok (.iload_n 1, 1) := by decide +kernel
theorem dX10_readConstant_10 : decode cX10_readConstant 10 = .ok (.invokevirtual 114, 3) := by decide +kernel
theorem dX10_readConstant_13 : decode cX10_readConstant 13 = .ok (.astore_n 3, 1) := by decide +kernel
theorem dX10_readConstant_14 : decode cX10_readConstant 14 = .ok (.aload_n 0, 1) := by decide +kernel
theorem dX10_readConstant_15 : decode cX10_readConstant 15 = .ok (.getfield 28, 3) := by decide +kernel
theorem dX10_readConstant_18 : decode cX10_readConstant 18 = .ok (.ifCond .ne 7, 3) := by decide +kernel
theorem dX10_readConstant_21 : decode cX10_readConstant 21 = .ok (.aload_n 3, 1) := by decide +kernel
theorem dX10_readConstant_22 : decode cX10_readConstant 22 = .ok (.ifnonnull 5, 3) := by decide +kernel
theorem dX10_readConstant_25 : decode cX10_readConstant 25 = .ok (.iconst 0, 1) := by decide +kernel
theorem dX10_readConstant_26 : decode cX10_readConstant 26 = .ok (.ireturn, 1) := by decide +kernel
theorem dX10_readConstant_27 : decode cX10_readConstant 27 = .ok (.iload_n 2, 1) := by decide +kernel
theorem dX10_readConstant_28 : decode cX10_readConstant 28 = .ok (.aload_n 3, 1) := by decide +kernel
theorem dX10_readConstant_29 : decode cX10_readConstant 29 = .ok (.getfield 178, 3) := by decide +kernel
theorem dX10_readConstant_32 : decode cX10_readConstant 32 = .ok (.if_icmp .ge 7, 3) := by decide +kernel
theorem dX10_readConstant_35 : decode cX10_readConstant 35 = .ok (.iload_n 2, 1) := by decide +kernel
theorem dX10_readConstant_36 : decode cX10_readConstant 36 = .ok (.goto 9, 3) := by decide +kernel
theorem dX10_readConstant_39 : decode cX10_readConstant 39 = .ok (.aload_n 0, 1) := by decide +kernel
theorem dX10_readConstant_40 : decode cX10_readConstant 40 = .ok (.iload_n 1, 1) := by decide +kernel
theorem dX10_readConstant_41 : decode cX10_readConstant 41 = .ok (.iconst (-1), 1) := by decide +kernel
theorem dX10_readConstant_42 : decode cX10_readConstant 42 = .ok (.invokevirtual 238, 3) := by decide +kernel
theorem dX10_readConstant_45 : decode cX10_readConstant 45 = .ok (.ireturn, 1) := by decide +kernel
theorem dX10_readHolder_0 : decode cX10_readHolder 0 = .ok (.aload_n 0, 1) := by decide +kernel
theorem dX10_readHolder_1 : decode cX10_readHolder 1 = .ok (.iload_n 1, 1) := by decide +kernel
theorem dX10_readHolder_2 : decode cX10_readHolder 2 = .ok (.invokevirtual 39, 3) := by decide +kernel
theorem dX10_readHolder_5 : decode cX10_readHolder 5 = .ok (.aload_n 0, 1) := by decide +kernel
theorem dX10_readHolder_6 : decode cX10_readHolder 6 = .ok (.getfield 28, 3) := by decide +kernel
theorem dX10_readHolder_9 : decode cX10_readHolder 9 = .ok (.ifCond .eq 5, 3) := by decide +kernel
theorem dX10_readHolder_12 : decode cX10_readHolder 12 = .ok (.iconst 0, 1) := by decide +kernel
theorem dX10_readHolder_13 : decode cX10_readHolder 13 = .ok (.ireturn, 1) := by decide +kernel
theorem dX10_readHolder_14 : decode cX10_readHolder 14 = .ok (.aload_n 0, 1) := by decide +kernel
theorem dX10_readHolder_15 : decode cX10_readHolder 15 = .ok (.getfield 24, 3) := by decide +kernel
theorem dX10_readHolder_18 : decode cX10_readHolder 18 = .ok (.iload_n 1, 1) := by decide +kernel
theorem dX10_readHolder_19 : decode cX10_readHolder 19 = .ok (.invokevirtual 46, 3) := by decide +kernel
theorem dX10_readHolder_22 : decode cX10_readHolder 22 = .ok (.iconst 3, 1) := by decide +kernel
theorem dX10_readHolder_23 : decode cX10_readHolder 23 = .ok (.if_icmp .ne 10, 3) := by decide +kernel
theorem dX10_readHolder_26 : decode cX10_readHolder 26 = .ok (.aload_n 0, 1) := by decide +kernel
theorem dX10_readHolder_27 : decode cX10_readHolder 27 = .ok (.iload_n 1, 1) := by decide +kernel
theorem dX10_readHolder_28 : decode cX10_readHolder 28 = .ok (.iconst 0, 1) := by decide +kernel
theorem dX10_readHolder_29 : decode cX10_readHolder 29 = .ok (.invokevirtual 238, 3) := by decide +kernel
theorem dX10_readHolder_32 : decode cX10_readHolder 32 = .ok (.ireturn, 1) := by decide +kernel
theorem dX10_readHolder_33 : decode cX10_readHolder 33 = .ok (.aload_n 0, 1) := by decide +kernel
theorem dX10_readHolder_34 : decode cX10_readHolder 34 = .ok (.getfield 24, 3) := by decide +kernel
theorem dX10_readHolder_37 : decode cX10_readHolder 37 = .ok (.iload_n 1, 1) := by decide +kernel
theorem dX10_readHolder_38 : decode cX10_readHolder 38 = .ok (.invokestatic 111, 3) := by decide +kernel
theorem dX10_readHolder_41 : decode cX10_readHolder 41 = .ok (.invokevirtual 114, 3) := by decide +kernel
theorem dX10_readHolder_44 : decode cX10_readHolder 44 = .ok (.astore_n 2, 1) := by decide +kernel
theorem dX10_readHolder_45 : decode cX10_readHolder 45 = .ok (.iload_n 1, 1) := by decide +kernel
theorem dX10_readHolder_46 : decode cX10_readHolder 46 = .ok (.invokestatic 122, 3) := by decide +kernel
theorem dX10_readHolder_49 : decode cX10_readHolder 49 = .ok (.istore_n 3, 1) := by decide +kernel
theorem dX10_readHolder_50 : decode cX10_readHolder 50 = .ok (.aload_n 2, 1) := by decide +kernel
theorem dX10_readHolder_51 : decode cX10_readHolder 51 = .ok (.ifnull 7, 3) := by decide +kernel
theorem dX10_readHolder_54 : decode cX10_readHolder 54 = .ok (.iload_n 3, 1) := by decide +kernel
theorem dX10_readHolder_55 : decode cX10_readHolder 55 = .ok (.ifCond .ge 7, 3) := by decide +kernel
theorem dX10_readHolder_58 : decode cX10_readHolder 58 = .ok (.iconst 0, 1) := by decide +kernel
theorem dX10_readHolder_59 : decode cX10_readHolder 59 = .ok (.goto 9, 3) := by decide +kernel
theorem dX10_readHolder_62 : decode cX10_readHolder 62 = .ok (.aload_n 2, 1) := by decide +kernel
theorem dX10_readHolder_63 : decode cX10_readHolder 63 = .ok (.getfield 139, 3) := by decide +kernel
theorem dX10_readHolder_66 : decode cX10_readHolder 66 = .ok (.iload_n 3, 1) := by decide +kernel
theorem dX10_readHolder_67 : decode cX10_readHolder 67 = .ok (.iaload, 1) := by decide +kernel
theorem dX10_readHolder_68 : decode cX10_readHolder 68 = .ok (.ireturn, 1) := by decide +kernel
theorem dX10_readEntry_0 : decode cX10_readEntry 0 = .ok (.aload_n 0, 1) := by decide +kernel
theorem dX10_readEntry_1 : decode cX10_readEntry 1 = .ok (.getfield 24, 3) := by decide +kernel
theorem dX10_readEntry_4 : decode cX10_readEntry 4 = .ok (.iload_n 1, 1) := by decide +kernel
theorem dX10_readEntry_5 : decode cX10_readEntry 5 = .ok (.invokevirtual 114, 3) := by decide +kernel
theorem dX10_readEntry_8 : decode cX10_readEntry 8 = .ok (.astore 4, 2) := by decide +kernel
theorem dX10_readEntry_10 : decode cX10_readEntry 10 = .ok (.aload 4, 2) := by decide +kernel
theorem dX10_readEntry_12 : decode cX10_readEntry 12 = .ok (.ifnonnull 7, 3) := by decide +kernel
theorem dX10_readEntry_15 : decode cX10_readEntry 15 = .ok (.aconst_null, 1) := by decide +kernel
theorem dX10_readEntry_16 : decode cX10_readEntry 16 = .ok (.goto 9, 3) := by decide +kernel
theorem dX10_readEntry_19 : decode cX10_readEntry 19 = .ok (.aload 4, 2) := by decide +kernel
theorem dX10_readEntry_21 : decode cX10_readEntry 21 = .ok (.iload_n 2, 1) := by decide +kernel
theorem dX10_readEntry_22 : decode cX10_readEntry 22 = .ok (.invokevirtual 241, 3) := by decide +kernel
theorem dX10_readEntry_25 : decode cX10_readEntry 25 = .ok (.astore 5, 2) := by decide +kernel
theorem dX10_readEntry_27 : decode cX10_readEntry 27 = .ok (.aload 5, 2) := by decide +kernel
theorem dX10_readEntry_29 : decode cX10_readEntry 29 = .ok (.ifnull 16, 3) := by decide +kernel
theorem dX10_readEntry_32 : decode cX10_readEntry 32 = .ok (.iload_n 3, 1) := by decide +kernel
theorem dX10_readEntry_33 : decode cX10_readEntry 33 = .ok (.ifCond .lt 12, 3) := by decide +kernel
theorem dX10_readEntry_36 : decode cX10_readEntry 36 = .ok (.iload_n 3, 1) := by decide +kernel
theorem dX10_readEntry_37 : decode cX10_readEntry 37 = .ok (.aload 5, 2) := by decide +kernel
theorem dX10_readEntry_39 : decode cX10_readEntry 39 = .ok (.getfield 181, 3) := by decide +kernel
theorem dX10_readEntry_42 : decode cX10_readEntry 42 = .ok (.if_icmp .lt 11, 3) := by decide +kernel
theorem dX10_readEntry_45 : decode cX10_readEntry 45 = .ok (.aload_n 0, 1) := by decide +kernel
theorem dX10_readEntry_46 : decode cX10_readEntry 46 = .ok (.iconst 4, 1) := by decide +kernel
theorem dX10_readEntry_47 : decode cX10_readEntry 47 = .ok (.iconst (-1), 1) := by decide +kernel
theorem dX10_readEntry_48 : decode cX10_readEntry 48 = .ok (.invokevirtual 52, 3) := by decide +kernel
theorem dX10_readEntry_51 : decode cX10_readEntry 51 = .ok (.iconst 0, 1) := by decide +kernel
theorem dX10_readEntry_52 : decode cX10_readEntry 52 = .ok (.ireturn, 1) := by decide +kernel
theorem dX10_readEntry_53 : decode cX10_readEntry 53 = .ok (.iload_n 3, 1) := by decide +kernel
theorem dX10_readEntry_54 : decode cX10_readEntry 54 = .ok (.aload 5, 2) := by decide +kernel
theorem dX10_readEntry_56 : decode cX10_readEntry 56 = .ok (.getfield 192, 3) := by decide +kernel
theorem dX10_readEntry_59 : decode cX10_readEntry 59 = .ok (.if_icmp .ge 13, 3) := by decide +kernel
theorem dX10_readEntry_62 : decode cX10_readEntry 62 = .ok (.aload 5, 2) := by decide +kernel
theorem dX10_readEntry_64 : decode cX10_readEntry 64 = .ok (.getfield 186, 3) := by decide +kernel
theorem dX10_readEntry_67 : decode cX10_readEntry 67 = .ok (.iload_n 3, 1) := by decide +kernel
theorem dX10_readEntry_68 : decode cX10_readEntry 68 = .ok (.iaload, 1) := by decide +kernel
theorem dX10_readEntry_69 : decode cX10_readEntry 69 = .ok (.goto 9, 3) := by decide +kernel
theorem dX10_readEntry_72 : decode cX10_readEntry 72 = .ok (.aload_n 0, 1) := by decide +kernel
theorem dX10_readEntry_73 : decode cX10_readEntry 73 = .ok (.iload_n 1, 1) := by decide +kernel
theorem dX10_readEntry_74 : decode cX10_readEntry 74 = .ok (.iconst 0, 1) := by decide +kernel
theorem dX10_readEntry_75 : decode cX10_readEntry 75 = .ok (.invokevirtual 238, 3) := by decide +kernel
theorem dX10_readEntry_78 : decode cX10_readEntry 78 = .ok (.ireturn, 1) := by decide +kernel
theorem dX10_see_0 : decode cX10_see 0 = .ok (.aload_n 0, 1) := by decide +kernel
theorem dX10_see_1 : decode cX10_see 1 = .ok (.getfield 36, 3) := by decide +kernel
theorem dX10_see_4 : decode cX10_see 4 = .ok (.ifCond .le 22, 3) := by decide +kernel
theorem dX10_see_7 : decode cX10_see 7 = .ok (.aload_n 0, 1) := by decide +kernel
theorem dX10_see_8 : decode cX10_see 8 = .ok (.getfield 24, 3) := by decide +kernel
theorem dX10_see_11 : decode cX10_see 11 = .ok (.aload_n 0, 1) := by decide +kernel
theorem dX10_see_12 : decode cX10_see 12 = .ok (.getfield 15, 3) := by decide +kernel
theorem dX10_see_15 : decode cX10_see 15 = .ok (.aload_n 0, 1) := by decide +kernel
theorem dX10_see_16 : decode cX10_see 16 = .ok (.getfield 36, 3) := by decide +kernel
theorem dX10_see_19 : decode cX10_see 19 = .ok (.iconst 1, 1) := by decide +kernel
theorem dX10_see_20 : decode cX10_see 20 = .ok (.isub, 1) := by decide +kernel
theorem dX10_see_21 : decode cX10_see 21 = .ok (.iaload, 1) := by decide +kernel
theorem dX10_see_22 : decode cX10_see 22 = .ok (.iload_n 1, 1) := by decide +kernel
theorem dX10_see_23 : decode cX10_see 23 = .ok (.invokevirtual 245, 3) := by decide +kernel
theorem dX10_see_26 : decode cX10_see 26 = .ok (.iload_n 2, 1) := by decide +kernel
theorem dX10_see_27 : decode cX10_see 27 = .ok (.ireturn, 1) := by decide +kernel
theorem dX10_push_0 : decode cX10_push 0 = .ok (.aload_n 0, 1) := by decide +kernel
theorem dX10_push_1 : decode cX10_push 1 = .ok (.getfield 32, 3) := by decide +kernel
theorem dX10_push_4 : decode cX10_push 4 = .ok (.sipush 1000, 3) := by decide +kernel
theorem dX10_push_7 : decode cX10_push 7 = .ok (.if_icmp .ge 23, 3) := by decide +kernel
theorem dX10_push_10 : decode cX10_push 10 = .ok (.aload_n 0, 1) := by decide +kernel
theorem dX10_push_11 : decode cX10_push 11 = .ok (.getfield 11, 3) := by decide +kernel
theorem dX10_push_14 : decode cX10_push 14 = .ok (.aload_n 0, 1) := by decide +kernel
theorem dX10_push_15 : decode cX10_push 15 = .ok (.getfield 32, 3) := by decide +kernel
theorem dX10_push_18 : decode cX10_push 18 = .ok (.iload_n 1, 1) := by decide +kernel
theorem dX10_push_19 : decode cX10_push 19 = .ok (.iastore, 1) := by decide +kernel
theorem dX10_push_20 : decode cX10_push 20 = .ok (.aload_n 0, 1) := by decide +kernel
theorem dX10_push_21 : decode cX10_push 21 = .ok (.dup, 1) := by decide +kernel
theorem dX10_push_22 : decode cX10_push 22 = .ok (.getfield 32, 3) := by decide +kernel
theorem dX10_push_25 : decode cX10_push 25 = .ok (.iconst 1, 1) := by decide +kernel
theorem dX10_push_26 : decode cX10_push 26 = .ok (.iadd, 1) := by decide +kernel
theorem dX10_push_27 : decode cX10_push 27 = .ok (.putfield 32, 3) := by decide +kernel
theorem dX10_push_30 : decode cX10_push 30 = .ok (.return_, 1) := by decide +kernel
theorem dX10_pop_0 : decode cX10_pop 0 = .ok (.aload_n 0, 1) := by decide +kernel
theorem dX10_pop_1 : decode cX10_pop 1 = .ok (.getfield 32, 3) := by decide +kernel
theorem dX10_pop_4 : decode cX10_pop 4 = .ok (.ifCond .gt 5, 3) := by decide +kernel
theorem dX10_pop_7 : decode cX10_pop 7 = .ok (.iconst 0, 1) := by decide +kernel
theorem dX10_pop_8 : decode cX10_pop 8 = .ok (.ireturn, 1) := by decide +kernel
theorem dX10_pop_9 : decode cX10_pop 9 = .ok (.aload_n 0, 1) := by decide +kernel
theorem dX10_pop_10 : decode cX10_pop 10 = .ok (.dup, 1) := by decide +kernel
theorem dX10_pop_11 : decode cX10_pop 11 = .ok (.getfield 32, 3) := by decide +kernel
theorem dX10_pop_14 : decode cX10_pop 14 = .ok (.iconst 1, 1) := by decide +kernel
theorem dX10_pop_15 : decode cX10_pop 15 = .ok (.isub, 1) := by decide +kernel
theorem dX10_pop_16 : decode cX10_pop 16 = .ok (.putfield 32, 3) := by decide +kernel
theorem dX10_pop_19 : decode cX10_pop 19 = .ok (.aload_n 0, 1) := by decide +kernel
theorem dX10_pop_20 : decode cX10_pop 20 = .ok (.getfield 11, 3) := by decide +kernel
theorem dX10_pop_23 : decode cX10_pop 23 = .ok (.aload_n 0, 1) := by decide +kernel
theorem dX10_pop_24 : decode cX10_pop 24 = .ok (.getfield 32, 3) := by decide +kernel
theorem dX10_pop_27 : decode cX10_pop 27 = .ok (.iaload, 1) := by decide +kernel
theorem dX10_pop_28 : decode cX10_pop 28 = .ok (.ireturn, 1) := by decide +kernel
theorem dX11_init_0 : decode cX11_init 0 = .ok (.aload_n 0, 1) := by decide +kernel
theorem dX11_init_1 : decode cX11_init 1 = .ok (.invokespecial 3, 3) := by decide +kernel
theorem dX11_init_4 : decode cX11_init 4 = .ok (.aload_n 0, 1) := by decide +kernel
theorem dX11_init_5 : decode cX11_init 5 = .ok (.sipush 3000, 3) := by decide +kernel
theorem dX11_init_8 : decode cX11_init 8 = .ok (.newarray .byte, 2) := by decide +kernel
theorem dX11_init_10 : decode cX11_init 10 = .ok (.putfield 9, 3) := by decide +kernel
theorem dX11_init_13 : decode cX11_init 13 = .ok (.aload_n 0, 1) := by decide +kernel
theorem dX11_init_14 : decode cX11_init 14 = .ok (.new 13, 3) := by decide +kernel
theorem dX11_init_17 : decode cX11_init 17 = .ok (.dup, 1) := by decide +kernel
theorem dX11_init_18 : decode cX11_init 18 = .ok (.invokespecial 15, 3) := by decide +kernel
theorem dX11_init_21 : decode cX11_init 21 = .ok (.putfield 16, 3) := by decide +kernel
theorem dX11_init_24 : decode cX11_init 24 = .ok (.aload_n 0, 1) := by decide +kernel
theorem dX11_init_25 : decode cX11_init 25 = .ok (.new 20, 3) := by decide +kernel
theorem dX11_init_28 : decode cX11_init 28 = .ok (.dup, 1) := by decide +kernel
theorem dX11_init_29 : decode cX11_init 29 = .ok (.aload_n 0, 1) := by decide +kernel
theorem dX11_init_30 : decode cX11_init 30 = .ok (.getfield 16, 3) := by decide +kernel
theorem dX11_init_33 : decode cX11_init 33 = .ok (.invokespecial 22, 3) := by decide +kernel
theorem dX11_init_36 : decode cX11_init 36 = .ok (.putfield 25, 3) := by decide +kernel
theorem dX11_init_39 : decode cX11_init 39 = .ok (.aload_n 0, 1) := by decide +kernel
theorem dX11_init_40 : decode cX11_init 40 = .ok (.new 29, 3) := by decide +kernel
theorem dX11_init_43 : decode cX11_init 43 = .ok (.dup, 1) := by decide +kernel
theorem dX11_init_44 : decode cX11_init 44 = .ok (.invokespecial 31, 3) := by decide +kernel
theorem dX11_init_47 : decode cX11_init 47 = .ok (.putfield 32, 3) := by decide +kernel
theorem dX11_init_50 : decode cX11_init 50 = .ok (.aload_n 0, 1) := by decide +kernel
theorem dX11_init_51 : decode cX11_init 51 = .ok (.bipush 10, 2) := by decide +kernel
theorem dX11_init_53 : decode cX11_init 53 = .ok (.anewarray 36, 3) := by decide +kernel
theorem dX11_init_56 : decode cX11_init 56 = .ok (.putfield 38, 3) := by decide +kernel
theorem dX11_init_59 : decode cX11_init 59 = .ok (.aload_n 0, 1) := by decide +kernel
theorem dX11_init_60 : decode cX11_init 60 = .ok (.bipush 40, 2) := by decide +kernel
theorem dX11_init_62 : decode cX11_init 62 = .ok (.anewarray 42, 3) := by decide +kernel
theorem dX11_init_65 : decode cX11_init 65 = .ok (.putfield 44, 3) := by decide +kernel
theorem dX11_init_68 : decode cX11_init 68 = .ok (.aload_n 0, 1) := by decide +kernel
theorem dX11_init_69 : decode cX11_init 69 = .ok (.bipush 10, 2) := by decide +kernel
theorem dX11_init_71 : decode cX11_init 71 = .ok (.anewarray 42, 3) := by decide +kernel
theorem dX11_init_74 : decode cX11_init 74 = .ok (.putfield 48, 3) := by decide +kernel
theorem dX11_init_77 : decode cX11_init 77 = .ok (.aload_n 0, 1) := by decide +kernel
theorem dX11_init_78 : decode cX11_init 78 = .ok (.bipush 20, 2) := by decide +kernel
theorem dX11_init_80 : decode cX11_init 80 = .ok (.anewarray 51, 3) := by decide +kernel
theorem dX11_init_83 : decode cX11_init 83 = .ok (.putfield 53, 3) := by decide +kernel
theorem dX11_init_86 : decode cX11_init 86 = .ok (.aload_n 0, 1) := by decide +kernel
theorem dX11_init_87 : decode cX11_init 87 = .ok (.new 51, 3) := by decide +kernel
theorem dX11_init_90 : decode cX11_init 90 = .ok (.dup, 1) := by decide +kernel
theorem dX11_init_91 : decode cX11_init 91 = .ok (.invokespecial 57, 3) := by decide +kernel
theorem dX11_init_94 : decode cX11_init 94 = .ok (.putfield 58, 3) := by decide +kernel
theorem dX11_init_97 : decode cX11_init 97 = .ok (.return_, 1) := by decide +kernel
theorem dX11_feed_0 : decode cX11_feed 0 = .ok (.iload_n 3, 1) := by decide +kernel
theorem dX11_feed_1 : decode cX11_feed 1 = .ok (.iconst 1, 1) := by decide +kernel
theorem dX11_feed_2 : decode cX11_feed 2 = .ok (.if_icmp .lt 9, 3) := by decide +kernel
theorem dX11_feed_5 : decode cX11_feed 5 = .ok (.iload_n 3, 1) := by decide +kernel
theorem dX11_feed_6 : decode cX11_feed 6 = .ok (.bipush 8, 2) := by decide +kernel
theorem dX11_feed_8 : decode cX11_feed 8 = .ok (.if_icmp .le 6, 3) := by decide +kernel
theorem dX11_feed_11 : decode cX11_feed 11 = .ok (.bipush (-4), 2) := by decide +kernel
theorem dX11_feed_13 : decode cX11_feed 13 = .ok (.ireturn, 1) := by decide +kernel
theorem dX11_feed_14 : decode cX11_feed 14 = .ok (.aload_n 0, 1) := by decide +kernel
theorem dX11_feed_15 : decode cX11_feed 15 = .ok (.getfield 62, 3) := by decide +kernel
theorem dX11_feed_18 : decode cX11_feed 18 = .ok (.iload_n 3, 1) := by decide +kernel
theorem dX11_feed_19 : decode cX11_feed 19 = .ok (.iadd, 1) := by decide +kernel
theorem dX11_feed_20 : decode cX11_feed 20 = .ok (.sipush 3000, 3) := by decide +kernel
theorem dX11_feed_23 : decode cX11_feed 23 = .ok (.if_icmp .le 6, 3) := by decide +kernel
theorem dX11_feed_26 : decode cX11_feed 26 = .ok (.bipush (-2), 2) := by decide +kernel
theorem dX11_feed_28 : decode cX11_feed 28 = .ok (.ireturn, 1) := by decide +kernel
theorem dX11_feed_29 : decode cX11_feed 29 = .ok (.iload_n 3, 1) := by decide +kernel
theorem dX11_feed_30 : decode cX11_feed 30 = .ok (.iconst 1, 1) := by decide +kernel
theorem dX11_feed_31 : decode cX11_feed 31 = .ok (.isub, 1) := by decide +kernel
theorem dX11_feed_32 : decode cX11_feed 32 = .ok (.istore 4, 2) := by decide +kernel
theorem dX11_feed_34 : decode cX11_feed 34 = .ok (.iload 4, 2) := by decide +kernel
theorem dX11_feed_36 : decode cX11_feed 36 = .ok (.ifCond .lt 21, 3) := by decide +kernel
theorem dX11_feed_39 : decode cX11_feed 39 = .ok (.aload_n 0, 1) := by decide +kernel
theorem dX11_feed_40 : decode cX11_feed 40 = .ok (.lload_n 1, 1) := by decide +kernel
theorem dX11_feed_41 : decode cX11_feed 41 = .ok (.bipush 8, 2) := by decide +kernel
theorem dX11_feed_43 : decode cX11_feed 43 = .ok (.iload 4, 2) := by decide +kernel
theorem dX11_feed_45 : decode cX11_feed 45 = .ok (.imul, 1) := by decide +kernel
theorem dX11_feed_46 : decode cX11_feed 46 = .ok (.lushr, 1) := by decide +kernel
theorem dX11_feed_47 : decode cX11_feed 47 = .ok (.l2i, 1) := by decide +kernel
theorem dX11_feed_48 : decode cX11_feed 48 = .ok (.invokevirtual 66, 3) := by decide +kernel
theorem dX11_feed_51 : decode cX11_feed 51 = .ok (.iinc 4 (-1), 3) := by decide +kernel
theorem dX11_feed_54 : decode cX11_feed 54 = .ok (.goto (-20), 3) := by decide +kernel
theorem dX11_feed_57 : decode cX11_feed 57 = .ok (.aload_n 0, 1) := by decide +kernel
theorem dX11_feed_58 : decode cX11_feed 58 = .ok (.getfield 62, 3) := by decide +kernel
theorem dX11_feed_61 : decode cX11_feed 61 = .ok (.ireturn, 1) := by decide +kernel
theorem dX11_cut_0 : decode cX11_cut 0 = .ok (.iload_n 1, 1) := by decide +kernel
theorem dX11_cut_1 : decode cX11_cut 1 = .ok (.ifCond .lt 11, 3) := by decide +kernel
theorem dX11_cut_4 : decode cX11_cut 4 = .ok (.iload_n 1, 1) := by decide +kernel
theorem dX11_cut_5 : decode cX11_cut 5 = .ok (.aload_n 0, 1) := by decide +kernel
theorem dX11_cut_6 : decode cX11_cut 6 = .ok (.getfield 62, 3) := by decide +kernel
theorem dX11_cut_9 : decode cX11_cut 9 = .ok (.if_icmp .le 6, 3) := by decide +kernel
theorem dX11_cut_12 : decode cX11_cut 12 = .ok (.bipush (-4), 2) := by decide +kernel
theorem dX11_cut_14 : decode cX11_cut 14 = .ok (.ireturn, 1) := by decide +kernel
theorem dX11_cut_15 : decode cX11_cut 15 = .ok (.aload_n 0, 1) := by decide +kernel
theorem dX11_cut_16 : decode cX11_cut 16 = .ok (.iload_n 1, 1) := by decide +kernel
theorem dX11_cut_17 : decode cX11_cut 17 = .ok (.putfield 62, 3) := by decide +kernel
theorem dX11_cut_20 : decode cX11_cut 20 = .ok (.iload_n 1, 1) := by decide +kernel
theorem dX11_cut_21 : decode cX11_cut 21 = .ok (.ireturn, 1) := by decide +kernel
theorem dX11_book_0 : decode cX11_book 0 = .ok (.aload_n 0, 1) := by decide +kernel
theorem dX11_book_1 : decode cX11_book 1 = .ok (.getfield 70, 3) := by decide +kernel
theorem dX11_book_4 : decode cX11_book 4 = .ok (.bipush 10, 2) := by decide +kernel
theorem dX11_book_6 : decode cX11_book 6 = .ok (.if_icmp .lt 6, 3) := by decide +kernel
theorem dX11_book_9 : decode cX11_book 9 = .ok (.bipush (-2), 2) := by decide +kernel
theorem dX11_book_11 : decode cX11_book 11 = .ok (.ireturn, 1) := by decide +kernel
theorem dX11_book_12 : decode cX11_book 12 = .ok (.aload_n 0, 1) := by decide +kernel
theorem dX11_book_13 : decode cX11_book 13 = .ok (.getfield 16, 3) := by decide +kernel
theorem dX11_book_16 : decode cX11_book 16 = .ok (.aload_n 0, 1) := by decide +kernel
theorem dX11_book_17 : decode cX11_book 17 = .ok (.getfield 9, 3) := by decide +kernel
theorem dX11_book_20 : decode cX11_book 20 = .ok (.aload_n 0, 1) := by decide +kernel
theorem dX11_book_21 : decode cX11_book 21 = .ok (.getfield 62, 3) := by decide +kernel
theorem dX11_book_24 : decode cX11_book 24 = .ok (.invokevirtual 73, 3) := by decide +kernel
theorem dX11_book_27 : decode cX11_book 27 = .ok (.aload_n 0, 1) := by decide +kernel
theorem dX11_book_28 : decode cX11_book 28 = .ok (.iconst 0, 1) := by decide +kernel
theorem dX11_book_29 : decode cX11_book 29 = .ok (.putfield 62, 3) := by decide +kernel
theorem dX11_book_32 : decode cX11_book 32 = .ok (.aload_n 0, 1) := by decide +kernel
theorem dX11_book_33 : decode cX11_book 33 = .ok (.getfield 25, 3) := by decide +kernel
theorem dX11_book_36 : decode cX11_book 36 = .ok (.invokevirtual 77, 3) := by decide +kernel
theorem dX11_book_39 : decode cX11_book 39 = .ok (.astore_n 1, 1) := by decide +kernel
theorem dX11_book_40 : decode cX11_book 40 = .ok (.aload_n 0, 1) := by decide +kernel
theorem dX11_book_41 : decode cX11_book 41 = .ok (.aload_n 0, 1) := by decide +kernel
theorem dX11_book_42 : decode cX11_book 42 = .ok (.getfield 25, 3) := by decide +kernel
theorem dX11_book_45 : decode cX11_book 45 = .ok (.getfield 81, 3) := by decide +kernel
theorem dX11_book_48 : decode cX11_book 48 = .ok (.putfield 84, 3) := by decide +kernel
theorem dX11_book_51 : decode cX11_book 51 = .ok (.aload_n 1, 1) := by decide +kernel
theorem dX11_book_52 : decode cX11_book 52 = .ok (.ifnonnull 14, 3) := by decide +kernel
theorem dX11_book_55 : decode cX11_book 55 = .ok (.bipush (-10), 2) := by decide +kernel
theorem dX11_book_57 : decode cX11_book 57 = .ok (.aload_n 0, 1) := by decide +kernel
theorem dX11_book_58 : decode cX11_book 58 = .ok (.getfield 25, 3) := by decide +kernel
theorem dX11_book_61 : decode cX11_book 61 = .ok (.getfield 87, 3) := by decide +kernel
theorem dX11_book_64 : decode cX11_book 64 = .ok (.isub, 1) := by decide +kernel
theorem dX11_book_65 : decode cX11_book 65 = .ok (.ireturn, 1) := by decide +kernel
theorem dX11_book_66 : decode cX11_book 66 = .ok (.aload_n 0, 1) := by decide +kernel
theorem dX11_book_67 : decode cX11_book 67 = .ok (.getfield 38, 3) := by decide +kernel
theorem dX11_book_70 : decode cX11_book 70 = .ok (.aload_n 0, 1) := by decide +kernel
theorem dX11_book_71 : decode cX11_book 71 = .ok (.getfield 70, 3) := by decide +kernel
theorem dX11_book_74 : decode cX11_book 74 = .ok (.aload_n 1, 1) := by decide +kernel
theorem dX11_book_75 : decode cX11_book 75 = .ok (.aastore, 1) := by decide +kernel
theorem dX11_book_76 : decode cX11_book 76 = .ok (.aload_n 0, 1) := by decide +kernel
theorem dX11_book_77 : decode cX11_book 77 = .ok (.dup, 1) := by decide +kernel
theorem dX11_book_78 : decode cX11_book 78 = .ok (.getfield 70, 3) := by decide +kernel
theorem dX11_book_81 : decode cX11_book 81 = .ok (.iconst 1, 1) := by decide +kernel
theorem dX11_book_82 : decode cX11_book 82 = .ok (.iadd, 1) := by decide +kernel
theorem dX11_book_83 : decode cX11_book 83 = .ok (.putfield 70, 3) := by decide +kernel
theorem dX11_book_86 : decode cX11_book 86 = .ok (.aload_n 0, 1) := by decide +kernel
theorem dX11_book_87 : decode cX11_book 87 = .ok (.getfield 70, 3) := by decide +kernel
theorem dX11_book_90 : decode cX11_book 90 = .ok (.iconst 1, 1) := by decide +kernel
theorem dX11_book_91 : decode cX11_book 91 = .ok (.isub, 1) := by decide +kernel
theorem dX11_book_92 : decode cX11_book 92 = .ok (.ireturn, 1) := by decide +kernel
theorem dX11_wrong_0 : decode cX11_wrong 0 = .ok (.aload_n 0, 1) := by decide +kernel
theorem dX11_wrong_1 : decode cX11_wrong 1 = .ok (.getfield 84, 3) := by decide +kernel
theorem dX11_wrong_4 : decode cX11_wrong 4 = .ok (.ireturn, 1) := by decide +kernel
theorem dX11_told_0 : decode cX11_told 0 = .ok (.aload_n 0, 1) := by decide +kernel
theorem dX11_told_1 : decode cX11_told 1 = .ok (.iload_n 1, 1) := by decide +kernel
theorem dX11_told_2 : decode cX11_told 2 = .ok (.invokevirtual 90, 3) := by decide +kernel
theorem dX11_told_5 : decode cX11_told 5 = .ok (.astore_n 3, 1) := by decide +kernel
theorem dX11_told_6 : decode cX11_told 6 = .ok (.aload_n 3, 1) := by decide +kernel
theorem dX11_told_7 : decode cX11_told 7 = .ok (.ifnonnull 5, 3) := by decide +kernel
theorem dX11_told_10 : decode cX11_told 10 = .ok (.iconst (-1), 1) := by decide +kernel
theorem dX11_told_11 : decode cX11_told 11 = .ok (.ireturn, 1) := by decide +kernel
theorem dX11_told_12 : decode cX11_told 12 = .ok (.iload_n 2, 1) := by decide +kernel
theorem dX11_told_13 : decode cX11_told 13 = .ok (.tableswitch 51 0 3 #[31, 36, 41, 46], 31) := by decide +kernel
theorem dX11_told_44 : decode cX11_told 44 = .ok (.aload_n 3, 1) := by decide +kernel
theorem dX11_told_45 : decode cX11_told 45 = .ok (.getfield 94, 3) := by decide +kernel
theorem dX11_told_48 : decode cX11_told 48 = .ok (.ireturn, 1) := by decide +kernel
theorem dX11_told_49 : decode cX11_told 49 = .ok (.aload_n 3, 1) := by decide +kernel
theorem dX11_told_50 : decode cX11_told 50 = .ok (.getfield 97, 3) := by decide +kernel
theorem dX11_told_53 : decode cX11_told 53 = .ok (.ireturn, 1) := by decide +kernel
theorem dX11_told_54 : decode cX11_told 54 = .ok (.aload_n 3, 1) := by decide +kernel
theorem dX11_told_55 : decode cX11_told 55 = .ok (.getfield 100, 3) := by decide +kernel
theorem dX11_told_58 : decode cX11_told 58 = .ok (.ireturn, 1) := by decide +kernel
theorem dX11_told_59 : decode cX11_told 59 = .ok (.aload_n 3, 1) := by decide +kernel
theorem dX11_told_60 : decode cX11_told 60 = .ok (.getfield 103, 3) := by decide +kernel
theorem dX11_told_63 : decode cX11_told 63 = .ok (.ireturn, 1) := by decide +kernel
theorem dX11_told_64 : decode cX11_told 64 = .ok (.iconst (-1), 1) := by decide +kernel
theorem dX11_told_65 : decode cX11_told 65 = .ok (.ireturn, 1) := by decide +kernel
theorem dX11_about_0 : decode cX11_about 0 = .ok (.aload_n 0, 1) := by decide +kernel
theorem dX11_about_1 : decode cX11_about 1 = .ok (.iload_n 1, 1) := by decide +kernel
theorem dX11_about_2 : decode cX11_about 2 = .ok (.iload_n 2, 1) := by decide +kernel
theorem dX11_about_3 : decode cX11_about 3 = .ok (.invokevirtual 106, 3) := by decide +kernel
theorem dX11_about_6 : decode cX11_about 6 = .ok (.astore 4, 2) := by decide +kernel
theorem dX11_about_8 : decode cX11_about 8 = .ok (.aload 4, 2) := by decide +kernel
theorem dX11_about_10 : decode cX11_about 10 = .ok (.ifnonnull 5, 3) := by decide +kernel
theorem dX11_about_13 : decode cX11_about 13 = .ok (.iconst (-1), 1) := by decide +kernel
theorem dX11_about_14 : decode cX11_about 14 = .ok (.ireturn, 1) := by decide +kernel
theorem dX11_about_15 : decode cX11_about 15 = .ok (.iload_n 3, 1) := by decide +kernel
theorem dX11_about_16 : decode cX11_about 16 = .ok (.tableswitch 66 0 4 #[36, 42, 48, 54, 60], 36) := by decide +kernel
theorem dX11_about_52 : decode cX11_about 52 = .ok (.aload 4, 2) := by decide +kernel
theorem dX11_about_54 : decode cX11_about 54 = .ok (.getfield 110, 3) := by decide +kernel
theorem dX11_about_57 : decode cX11_about 57 = .ok (.ireturn, 1) := by decide +kernel
theorem dX11_about_58 : decode cX11_about 58 = .ok (.aload 4, 2) := by decide +kernel
theorem dX11_about_60 : decode cX11_about 60 = .ok (.getfield 115, 3) := by decide +kernel
theorem dX11_about_63 : decode cX11_about 63 = .ok (.ireturn, 1) := by decide +kernel
theorem dX11_about_64 : decode cX11_about 64 = .ok (.aload 4, 2) := by decide +kernel
theorem dX11_about_66 : decode cX11_about 66 = .ok (.getfield 118, 3) := by decide +kernel
theorem dX11_about_69 : decode cX11_about 69 = .ok (.ireturn, 1) := by decide +kernel
theorem dX11_about_70 : decode cX11_about 70 = .ok (.aload 4, 2) := by decide +kernel
theorem dX11_about_72 : decode cX11_about 72 = .ok (.getfield 121, 3) := by decide +kernel
theorem dX11_about_75 : decode cX11_about 75 = .ok (.ireturn, 1) := by decide +kernel
theorem dX11_about_76 : decode cX11_about 76 = .ok (.aload 4, 2) := by decide +kernel
theorem dX11_about_78 : decode cX11_about 78 = .ok (.getfield 124, 3) := by decide +kernel
theorem dX11_about_81 : decode cX11_about 81 = .ok (.ireturn, 1) := by decide +kernel
theorem dX11_about_82 : decode cX11_about 82 = .ok (.iconst (-1), 1) := by decide +kernel
theorem dX11_about_83 : decode cX11_about 83 = .ok (.ireturn, 1) := by decide +kernel
theorem dX11_state_0 : decode cX11_state 0 = .ok (.aload_n 0, 1) := by decide +kernel
theorem dX11_state_1 : decode cX11_state 1 = .ok (.iload_n 1, 1) := by decide +kernel
theorem dX11_state_2 : decode cX11_state 2 = .ok (.invokevirtual 90, 3) := by decide +kernel
theorem dX11_state_5 : decode cX11_state 5 = .ok (.astore_n 3, 1) := by decide +kernel
theorem dX11_state_6 : decode cX11_state 6 = .ok (.aload_n 3, 1) := by decide +kernel
theorem dX11_state_7 : decode cX11_state 7 = .ok (.ifnull 11, 3) := by decide +kernel
theorem dX11_state_10 : decode cX11_state 10 = .ok (.aload_n 3, 1) := by decide +kernel
theorem dX11_state_11 : decode cX11_state 11 = .ok (.iload_n 2, 1) := by decide +kernel
theorem dX11_state_12 : decode cX11_state 12 = .ok (.invokevirtual 127, 3) := by decide +kernel
theorem dX11_state_15 : decode cX11_state 15 = .ok (.ifCond .ne 5, 3) := by decide +kernel
theorem dX11_state_18 : decode cX11_state 18 = .ok (.iconst (-1), 1) := by decide +kernel
theorem dX11_state_19 : decode cX11_state 19 = .ok (.ireturn, 1) := by decide +kernel
theorem dX11_state_20 : decode cX11_state 20 = .ok (.aload_n 3, 1) := by decide +kernel
theorem dX11_state_21 : decode cX11_state 21 = .ok (.iload_n 2, 1) := by decide +kernel
theorem dX11_state_22 : decode cX11_state 22 = .ok (.invokevirtual 131, 3) := by decide +kernel
theorem dX11_state_25 : decode cX11_state 25 = .ok (.ireturn, 1) := by decide +kernel
theorem dX11_letter_0 : decode cX11_letter 0 = .ok (.aload_n 0, 1) := by decide +kernel
theorem dX11_letter_1 : decode cX11_letter 1 = .ok (.iload_n 1, 1) := by decide +kernel
theorem dX11_letter_2 : decode cX11_letter 2 = .ok (.iload_n 2, 1) := by decide +kernel
theorem dX11_letter_3 : decode cX11_letter 3 = .ok (.invokevirtual 106, 3) := by decide +kernel
theorem dX11_letter_6 : decode cX11_letter 6 = .ok (.astore 5, 2) := by decide +kernel
theorem dX11_letter_8 : decode cX11_letter 8 = .ok (.aload 5, 2) := by decide +kernel
theorem dX11_letter_10 : decode cX11_letter 10 = .ok (.ifnonnull 5, 3) := by decide +kernel
theorem dX11_letter_13 : decode cX11_letter 13 = .ok (.iconst (-1), 1) := by decide +kernel
theorem dX11_letter_14 : decode cX11_letter 14 = .ok (.ireturn, 1) := by decide +kernel
theorem dX11_letter_15 : decode cX11_letter 15 = .ok (.iload_n 3, 1) := by decide +kernel
theorem dX11_letter_16 : decode cX11_letter 16 = .ok (.iconst (-1), 1) := by decide +kernel
theorem dX11_letter_17 : decode cX11_letter 17 = .ok (.if_icmp .ne 14, 3) := by decide +kernel
theorem dX11_letter_20 : decode cX11_letter 20 = .ok (.aload 5, 2) := by decide +kernel
theorem dX11_letter_22 : decode cX11_letter 22 = .ok (.getfield 135, 3) := by decide +kernel
theorem dX11_letter_25 : decode cX11_letter 25 = .ok (.iload 4, 2) := by decide +kernel
theorem dX11_letter_27 : decode cX11_letter 27 = .ok (.invokestatic 139, 3) := by decide +kernel
theorem dX11_letter_30 : decode cX11_letter 30 = .ok (.ireturn, 1) := by decide +kernel
theorem dX11_letter_31 : decode cX11_letter 31 = .ok (.aload 5, 2) := by decide +kernel
theorem dX11_letter_33 : decode cX11_letter 33 = .ok (.iload_n 3, 1) := by decide +kernel
theorem dX11_letter_34 : decode cX11_letter 34 = .ok (.invokevirtual 143, 3) := by decide +kernel
theorem dX11_letter_37 : decode cX11_letter 37 = .ok (.astore 6, 2) := by decide +kernel
theorem dX11_letter_39 : decode cX11_letter 39 = .ok (.aload 6, 2) := by decide +kernel
theorem dX11_letter_41 : decode cX11_letter 41 = .ok (.ifnonnull 7, 3) := by decide +kernel
theorem dX11_letter_44 : decode cX11_letter 44 = .ok (.iconst (-1), 1) := by decide +kernel
theorem dX11_letter_45 : decode cX11_letter 45 = .ok (.goto 13, 3) := by decide +kernel
theorem dX11_letter_48 : decode cX11_letter 48 = .ok (.aload 6, 2) := by decide +kernel
theorem dX11_letter_50 : decode cX11_letter 50 = .ok (.getfield 147, 3) := by decide +kernel
theorem dX11_letter_53 : decode cX11_letter 53 = .ok (.iload 4, 2) := by decide +kernel
theorem dX11_letter_55 : decode cX11_letter 55 = .ok (.invokestatic 139, 3) := by decide +kernel
theorem dX11_letter_58 : decode cX11_letter 58 = .ok (.ireturn, 1) := by decide +kernel
theorem dX11_body_0 : decode cX11_body 0 = .ok (.aload_n 0, 1) := by decide +kernel
theorem dX11_body_1 : decode cX11_body 1 = .ok (.iload_n 1, 1) := by decide +kernel
theorem dX11_body_2 : decode cX11_body 2 = .ok (.iload_n 2, 1) := by decide +kernel
theorem dX11_body_3 : decode cX11_body 3 = .ok (.invokevirtual 106, 3) := by decide +kernel
theorem dX11_body_6 : decode cX11_body 6 = .ok (.astore 5, 2) := by decide +kernel
theorem dX11_body_8 : decode cX11_body 8 = .ok (.aload 5, 2) := by decide +kernel
theorem dX11_body_10 : decode cX11_body 10 = .ok (.ifnonnull 5, 3) := by decide +kernel
theorem dX11_body_13 : decode cX11_body 13 = .ok (.iconst (-1), 1) := by decide +kernel
theorem dX11_body_14 : decode cX11_body 14 = .ok (.ireturn, 1) := by decide +kernel
theorem dX11_body_15 : decode cX11_body 15 = .ok (.aload 5, 2) := by decide +kernel
theorem dX11_body_17 : decode cX11_body 17 = .ok (.iload_n 3, 1) := by decide +kernel
theorem dX11_body_18 : decode cX11_body 18 = .ok (.invokevirtual 143, 3) := by decide +kernel
theorem dX11_body_21 : decode cX11_body 21 = .ok (.astore 6, 2) := by decide +kernel
theorem dX11_body_23 : decode cX11_body 23 = .ok (.aload 6, 2) := by decide +kernel
theorem dX11_body_25 : decode cX11_body 25 = .ok (.ifnonnull 10, 3) := by decide +kernel
theorem dX11_body_28 : decode cX11_body 28 = .ok (.iload_n 3, 1) := by decide +kernel
theorem dX11_body_29 : decode cX11_body 29 = .ok (.iconst (-1), 1) := by decide +kernel
theorem dX11_body_30 : decode cX11_body 30 = .ok (.if_icmp .eq 5, 3) := by decide +kernel
theorem dX11_body_33 : decode cX11_body 33 = .ok (.iconst (-1), 1) := by decide +kernel
theorem dX11_body_34 : decode cX11_body 34 = .ok (.ireturn, 1) := by decide +kernel
theorem dX11_body_35 : decode cX11_body 35 = .ok (.aload_n 0, 1) := by decide +kernel
theorem dX11_body_36 : decode cX11_body 36 = .ok (.iload_n 1, 1) := by decide +kernel
theorem dX11_body_37 : decode cX11_body 37 = .ok (.iload 4, 2) := by decide +kernel
theorem dX11_body_39 : decode cX11_body 39 = .ok (.invokevirtual 150, 3) := by decide +kernel
theorem dX11_body_42 : decode cX11_body 42 = .ok (.ifCond .ne 5, 3) := by decide +kernel
theorem dX11_body_45 : decode cX11_body 45 = .ok (.iconst (-1), 1) := by decide +kernel
theorem dX11_body_46 : decode cX11_body 46 = .ok (.ireturn, 1) := by decide +kernel
theorem dX11_body_47 : decode cX11_body 47 = .ok (.aload 6, 2) := by decide +kernel
theorem dX11_body_49 : decode cX11_body 49 = .ok (.ifnonnull 11, 3) := by decide +kernel
theorem dX11_body_52 : decode cX11_body 52 = .ok (.aload 5, 2) := by decide +kernel
theorem dX11_body_54 : decode cX11_body 54 = .ok (.getfield 154, 3) := by decide +kernel
theorem dX11_body_57 : decode cX11_body 57 = .ok (.goto 8, 3) := by decide +kernel
theorem dX11_body_60 : decode cX11_body 60 = .ok (.aload 6, 2) := by decide +kernel
theorem dX11_body_62 : decode cX11_body 62 = .ok (.getfield 158, 3) := by decide +kernel
theorem dX11_body_65 : decode cX11_body 65 = .ok (.astore 7, 2) := by decide +kernel
theorem dX11_body_67 : decode cX11_body 67 = .ok (.aload 7, 2) := by decide +kernel
theorem dX11_body_69 : decode cX11_body 69 = .ok (.iload 4, 2) := by decide +kernel
theorem dX11_body_71 : decode cX11_body 71 = .ok (.iaload, 1) := by decide +kernel
theorem dX11_body_72 : decode cX11_body 72 = .ok (.iconst (-1), 1) := by decide +kernel
theorem dX11_body_73 : decode cX11_body 73 = .ok (.if_icmp .ne 7, 3) := by decide +kernel
theorem dX11_body_76 : decode cX11_body 76 = .ok (.iconst 0, 1) := by decide +kernel
theorem dX11_body_77 : decode cX11_body 77 = .ok (.goto 4, 3) := by decide +kernel
theorem dX11_body_80 : decode cX11_body 80 = .ok (.iconst 1, 1) := by decide +kernel
theorem dX11_body_81 : decode cX11_body 81 = .ok (.ireturn, 1) := by decide +kernel
theorem dX11_use_0 : decode cX11_use 0 = .ok (.aload_n 0, 1) := by decide +kernel
theorem dX11_use_1 : decode cX11_use 1 = .ok (.iload_n 1, 1) := by decide +kernel
theorem dX11_use_2 : decode cX11_use 2 = .ok (.iload_n 2, 1) := by decide +kernel
theorem dX11_use_3 : decode cX11_use 3 = .ok (.invokevirtual 106, 3) := by decide +kernel
theorem dX11_use_6 : decode cX11_use 6 = .ok (.ifnonnull 5, 3) := by decide +kernel
theorem dX11_use_9 : decode cX11_use 9 = .ok (.iconst (-1), 1) := by decide +kernel
theorem dX11_use_10 : decode cX11_use 10 = .ok (.ireturn, 1) := by decide +kernel
theorem dX11_use_11 : decode cX11_use 11 = .ok (.aload_n 0, 1) := by decide +kernel
theorem dX11_use_12 : decode cX11_use 12 = .ok (.iload_n 1, 1) := by decide +kernel
theorem dX11_use_13 : decode cX11_use 13 = .ok (.iload_n 2, 1) := by decide +kernel
theorem dX11_use_14 : decode cX11_use 14 = .ok (.invokevirtual 159, 3) := by decide +kernel
theorem dX11_use_17 : decode cX11_use 17 = .ok (.ifCond .eq 7, 3) := by decide +kernel
theorem dX11_use_20 : decode cX11_use 20 = .ok (.iconst 0, 1) := by decide +kernel
theorem dX11_use_21 : decode cX11_use 21 = .ok (.goto 5, 3) := by decide +kernel
theorem dX11_use_24 : decode cX11_use 24 = .ok (.bipush (-3), 2) := by decide +kernel
theorem dX11_use_26 : decode cX11_use 26 = .ok (.ireturn, 1) := by decide +kernel
theorem dX11_argument_0 : decode cX11_argument 0 = .ok (.aload_n 0, 1) := by decide +kernel
theorem dX11_argument_1 : decode cX11_argument 1 = .ok (.iload_n 1, 1) := by decide +kernel
theorem dX11_argument_2 : decode cX11_argument 2 = .ok (.iload_n 2, 1) := by decide +kernel
theorem dX11_argument_3 : decode cX11_argument 3 = .ok (.invokevirtual 106, 3) := by decide +kernel
theorem dX11_argument_6 : decode cX11_argument 6 = .ok (.astore 4, 2) := by decide +kernel
theorem dX11_argument_8 : decode cX11_argument 8 = .ok (.aload 4, 2) := by decide +kernel
theorem dX11_argument_10 : decode cX11_argument 10 = .ok (.ifnonnull 7, 3) := by decide +kernel
theorem dX11_argument_13 : decode cX11_argument 13 = .ok (.aconst_null, 1) := by decide +kernel
theorem dX11_argument_14 : decode cX11_argument 14 = .ok (.goto 9, 3) := by decide +kernel
theorem dX11_argument_17 : decode cX11_argument 17 = .ok (.aload 4, 2) := by decide +kernel
theorem dX11_argument_19 : decode cX11_argument 19 = .ok (.iload_n 3, 1) := by decide +kernel
theorem dX11_argument_20 : decode cX11_argument 20 = .ok (.invokevirtual 143, 3) := by decide +kernel
theorem dX11_argument_23 : decode cX11_argument 23 = .ok (.astore 5, 2) := by decide +kernel
theorem dX11_argument_25 : decode cX11_argument 25 = .ok (.aload 5, 2) := by decide +kernel
theorem dX11_argument_27 : decode cX11_argument 27 = .ok (.ifnonnull 5, 3) := by decide +kernel
theorem dX11_argument_30 : decode cX11_argument 30 = .ok (.iconst (-1), 1) := by decide +kernel
theorem dX11_argument_31 : decode cX11_argument 31 = .ok (.ireturn, 1) := by decide +kernel
theorem dX11_argument_32 : decode cX11_argument 32 = .ok (.aload_n 0, 1) := by decide +kernel
theorem dX11_argument_33 : decode cX11_argument 33 = .ok (.iload_n 1, 1) := by decide +kernel
theorem dX11_argument_34 : decode cX11_argument 34 = .ok (.iload_n 2, 1) := by decide +kernel
theorem dX11_argument_35 : decode cX11_argument 35 = .ok (.invokevirtual 159, 3) := by decide +kernel
theorem dX11_argument_38 : decode cX11_argument 38 = .ok (.ifCond .ne 6, 3) := by decide +kernel
theorem dX11_argument_41 : decode cX11_argument 41 = .ok (.bipush (-3), 2) := by decide +kernel
theorem dX11_argument_43 : decode cX11_argument 43 = .ok (.ireturn, 1) := by decide +kernel
theorem dX11_argument_44 : decode cX11_argument 44 = .ok (.aload_n 0, 1) := by decide +kernel
theorem dX11_argument_45 : decode cX11_argument 45 = .ok (.aload 5, 2) := by decide +kernel
theorem dX11_argument_47 : decode cX11_argument 47 = .ok (.getfield 162, 3) := by decide +kernel
theorem dX11_argument_50 : decode cX11_argument 50 = .ok (.putfield 165, 3) := by decide +kernel
theorem dX11_argument_53 : decode cX11_argument 53 = .ok (.iconst 0, 1) := by decide +kernel
theorem dX11_argument_54 : decode cX11_argument 54 = .ok (.ireturn, 1) := by decide +kernel
theorem dX11_act_0 : decode cX11_act 0 = .ok (.aload_n 0, 1) := by decide +kernel
theorem dX11_act_1 : decode cX11_act 1 = .ok (.iload_n 1, 1) := by decide +kernel
theorem dX11_act_2 : decode cX11_act 2 = .ok (.iload_n 2, 1) := by decide +kernel
theorem dX11_act_3 : decode cX11_act 3 = .ok (.invokevirtual 106, 3) := by decide +kernel
theorem dX11_act_6 : decode cX11_act 6 = .ok (.astore 5, 2) := by decide +kernel
theorem dX11_act_8 : decode cX11_act 8 = .ok (.aload 5, 2) := by decide +kernel
theorem dX11_act_10 : decode cX11_act 10 = .ok (.ifnull 22, 3) := by decide +kernel
theorem dX11_act_13 : decode cX11_act 13 = .ok (.aload 5, 2) := by decide +kernel
theorem dX11_act_15 : decode cX11_act 15 = .ok (.iload_n 3, 1) := by decide +kernel
theorem dX11_act_16 : decode cX11_act 16 = .ok (.invokevirtual 143, 3) := by decide +kernel
theorem dX11_act_19 : decode cX11_act 19 = .ok (.ifnull 13, 3) := by decide +kernel
theorem dX11_act_22 : decode cX11_act 22 = .ok (.aload_n 0, 1) := by decide +kernel
theorem dX11_act_23 : decode cX11_act 23 = .ok (.iload_n 1, 1) := by decide +kernel
theorem dX11_act_24 : decode cX11_act 24 = .ok (.iload 4, 2) := by decide +kernel
theorem dX11_act_26 : decode cX11_act 26 = .ok (.invokevirtual 150, 3) := by decide +kernel
theorem dX11_act_29 : decode cX11_act 29 = .ok (.ifCond .ne 5, 3) := by decide +kernel
theorem dX11_act_32 : decode cX11_act 32 = .ok (.iconst (-1), 1) := by decide +kernel
theorem dX11_act_33 : decode cX11_act 33 = .ok (.ireturn, 1) := by decide +kernel
theorem dX11_act_34 : decode cX11_act 34 = .ok (.aload_n 0, 1) := by decide +kernel
theorem dX11_act_35 : decode cX11_act 35 = .ok (.iload_n 1, 1) := by decide +kernel
theorem dX11_act_36 : decode cX11_act 36 = .ok (.iload_n 2, 1) := by decide +kernel
theorem dX11_act_37 : decode cX11_act 37 = .ok (.invokevirtual 159, 3) := by decide +kernel
theorem dX11_act_40 : decode cX11_act 40 = .ok (.ifCond .ne 6, 3) := by decide +kernel
theorem dX11_act_43 : decode cX11_act 43 = .ok (.bipush (-3), 2) := by decide +kernel
theorem dX11_act_45 : decode cX11_act 45 = .ok (.ireturn, 1) := by decide +kernel
theorem dX11_act_46 : decode cX11_act 46 = .ok (.aload_n 0, 1) := by decide +kernel
theorem dX11_act_47 : decode cX11_act 47 = .ok (.aload_n 0, 1) := by decide +kernel
theorem dX11_act_48 : decode cX11_act 48 = .ok (.getfield 32, 3) := by decide +kernel
theorem dX11_act_51 : decode cX11_act 51 = .ok (.aload 5, 2) := by decide +kernel
theorem dX11_act_53 : decode cX11_act 53 = .ok (.iload_n 3, 1) := by decide +kernel
theorem dX11_act_54 : decode cX11_act 54 = .ok (.iload 4, 2) := by decide +kernel
theorem dX11_act_56 : decode cX11_act 56 = .ok (.invokevirtual 168, 3) := by decide +kernel
theorem dX11_act_59 : decode cX11_act 59 = .ok (.invokevirtual 172, 3) := by decide +kernel
theorem dX11_act_62 : decode cX11_act 62 = .ok (.ireturn, 1) := by decide +kernel
theorem dX11_entry_0 : decode cX11_entry 0 = .ok (.aload_n 0, 1) := by decide +kernel
theorem dX11_entry_1 : decode cX11_entry 1 = .ok (.iload_n 1, 1) := by decide +kernel
theorem dX11_entry_2 : decode cX11_entry 2 = .ok (.iload_n 2, 1) := by decide +kernel
theorem dX11_entry_3 : decode cX11_entry 3 = .ok (.invokevirtual 106, 3) := by decide +kernel
theorem dX11_entry_6 : decode cX11_entry 6 = .ok (.astore 5, 2) := by decide +kernel
theorem dX11_entry_8 : decode cX11_entry 8 = .ok (.aload 5, 2) := by decide +kernel
theorem dX11_entry_10 : decode cX11_entry 10 = .ok (.ifnonnull 7, 3) := by decide +kernel
theorem dX11_entry_13 : decode cX11_entry 13 = .ok (.aconst_null, 1) := by decide +kernel
theorem dX11_entry_14 : decode cX11_entry 14 = .ok (.goto 9, 3) := by decide +kernel
theorem dX11_entry_17 : decode cX11_entry 17 = .ok (.aload 5, 2) := by decide +kernel
theorem dX11_entry_19 : decode cX11_entry 19 = .ok (.iload_n 3, 1) := by decide +kernel
theorem dX11_entry_20 : decode cX11_entry 20 = .ok (.invokevirtual 175, 3) := by decide +kernel
theorem dX11_entry_23 : decode cX11_entry 23 = .ok (.astore 6, 2) := by decide +kernel
theorem dX11_entry_25 : decode cX11_entry 25 = .ok (.aload 6, 2) := by decide +kernel
theorem dX11_entry_27 : decode cX11_entry 27 = .ok (.ifnull 18, 3) := by decide +kernel
theorem dX11_entry_30 : decode cX11_entry 30 = .ok (.iload 4, 2) := by decide +kernel
theorem dX11_entry_32 : decode cX11_entry 32 = .ok (.ifCond .lt 13, 3) := by decide +kernel
theorem dX11_entry_35 : decode cX11_entry 35 = .ok (.iload 4, 2) := by decide +kernel
theorem dX11_entry_37 : decode cX11_entry 37 = .ok (.aload 6, 2) := by decide +kernel
theorem dX11_entry_39 : decode cX11_entry 39 = .ok (.getfield 179, 3) := by decide +kernel
theorem dX11_entry_42 : decode cX11_entry 42 = .ok (.if_icmp .lt 5, 3) := by decide +kernel
theorem dX11_entry_45 : decode cX11_entry 45 = .ok (.iconst (-1), 1) := by decide +kernel
theorem dX11_entry_46 : decode cX11_entry 46 = .ok (.ireturn, 1) := by decide +kernel
theorem dX11_entry_47 : decode cX11_entry 47 = .ok (.aload_n 0, 1) := by decide +kernel
theorem dX11_entry_48 : decode cX11_entry 48 = .ok (.iload_n 1, 1) := by decide +kernel
theorem dX11_entry_49 : decode cX11_entry 49 = .ok (.iload_n 2, 1) := by decide +kernel
theorem dX11_entry_50 : decode cX11_entry 50 = .ok (.invokevirtual 159, 3) := by decide +kernel
theorem dX11_entry_53 : decode cX11_entry 53 = .ok (.ifCond .ne 6, 3) := by decide +kernel
theorem dX11_entry_56 : decode cX11_entry 56 = .ok (.bipush (-3), 2) := by decide +kernel
theorem dX11_entry_58 : decode cX11_entry 58 = .ok (.ireturn, 1) := by decide +kernel
theorem dX11_entry_59 : decode cX11_entry 59 = .ok (.aload_n 0, 1) := by decide +kernel
theorem dX11_entry_60 : decode cX11_entry 60 = .ok (.aload 6, 2) := by decide +kernel
theorem dX11_entry_62 : decode cX11_entry 62 = .ok (.getfield 184, 3) := by decide +kernel
theorem dX11_entry_65 : decode cX11_entry 65 = .ok (.iload 4, 2) := by decide +kernel
theorem dX11_entry_67 : decode cX11_entry 67 = .ok (.iaload, 1) := by decide +kernel
theorem dX11_entry_68 : decode cX11_entry 68 = .ok (.putfield 165, 3) := by decide +kernel
theorem dX11_entry_71 : decode cX11_entry 71 = .ok (.iconst 0, 1) := by decide +kernel
theorem dX11_entry_72 : decode cX11_entry 72 = .ok (.ireturn, 1) := by decide +kernel
theorem dX11_holder_0 : decode cX11_holder 0 = .ok (.aload_n 0, 1) := by decide +kernel
theorem dX11_holder_1 : decode cX11_holder 1 = .ok (.iload_n 1, 1) := by decide +kernel
theorem dX11_holder_2 : decode cX11_holder 2 = .ok (.iload_n 2, 1) := by decide +kernel
theorem dX11_holder_3 : decode cX11_holder 3 = .ok (.invokevirtual 106, 3) := by decide +kernel
theorem dX11_holder_6 : decode cX11_holder 6 = .ok (.astore 4, 2) := by decide +kernel
theorem dX11_holder_8 : decode cX11_holder 8 = .ok (.aload 4, 2) := by decide +kernel
theorem dX11_holder_10 : decode cX11_holder 10 = .ok (.ifnull 16, 3) := by decide +kernel
theorem dX11_holder_13 : decode cX11_holder 13 = .ok (.iload_n 3, 1) := by decide +kernel
theorem dX11_holder_14 : decode cX11_holder 14 = .ok (.ifCond .lt 12, 3) := by decide +kernel
theorem dX11_holder_17 : decode cX11_holder 17 = .ok (.iload_n 3, 1) := by decide +kernel
theorem dX11_holder_18 : decode cX11_holder 18 = .ok (.aload 4, 2) := by decide +kernel
theorem dX11_holder_20 : decode cX11_holder 20 = .ok (.getfield 121, 3) := by decide +kernel
theorem dX11_holder_23 : decode cX11_holder 23 = .ok (.if_icmp .lt 5, 3) := by decide +kernel
theorem dX11_holder_26 : decode cX11_holder 26 = .ok (.iconst (-1), 1) := by decide +kernel
theorem dX11_holder_27 : decode cX11_holder 27 = .ok (.ireturn, 1) := by decide +kernel
theorem dX11_holder_28 : decode cX11_holder 28 = .ok (.aload_n 0, 1) := by decide +kernel
theorem dX11_holder_29 : decode cX11_holder 29 = .ok (.iload_n 1, 1) := by decide +kernel
theorem dX11_holder_30 : decode cX11_holder 30 = .ok (.bipush 100, 2) := by decide +kernel
theorem dX11_holder_32 : decode cX11_holder 32 = .ok (.iload_n 2, 1) := by decide +kernel
theorem dX11_holder_33 : decode cX11_holder 33 = .ok (.iconst 4, 1) := by decide +kernel
theorem dX11_holder_34 : decode cX11_holder 34 = .ok (.imul, 1) := by decide +kernel
theorem dX11_holder_35 : decode cX11_holder 35 = .ok (.iadd, 1) := by decide +kernel
theorem dX11_holder_36 : decode cX11_holder 36 = .ok (.iload_n 3, 1) := by decide +kernel
theorem dX11_holder_37 : decode cX11_holder 37 = .ok (.iadd, 1) := by decide +kernel
theorem dX11_holder_38 : decode cX11_holder 38 = .ok (.invokevirtual 159, 3) := by decide +kernel
theorem dX11_holder_41 : decode cX11_holder 41 = .ok (.ifCond .ne 6, 3) := by decide +kernel
theorem dX11_holder_44 : decode cX11_holder 44 = .ok (.bipush (-3), 2) := by decide +kernel
theorem dX11_holder_46 : decode cX11_holder 46 = .ok (.ireturn, 1) := by decide +kernel
theorem dX11_holder_47 : decode cX11_holder 47 = .ok (.aload_n 0, 1) := by decide +kernel
theorem dX11_holder_48 : decode cX11_holder 48 = .ok (.aload 4, 2) := by decide +kernel
theorem dX11_holder_50 : decode cX11_holder 50 = .ok (.getfield 187, 3) := by decide +kernel
theorem dX11_holder_53 : decode cX11_holder 53 = .ok (.iload_n 3, 1) := by decide +kernel
theorem dX11_holder_54 : decode cX11_holder 54 = .ok (.iaload, 1) := by decide +kernel
theorem dX11_holder_55 : decode cX11_holder 55 = .ok (.putfield 165, 3) := by decide +kernel
theorem dX11_holder_58 : decode cX11_holder 58 = .ok (.iconst 0, 1) := by decide +kernel
theorem dX11_holder_59 : decode cX11_holder 59 = .ok (.ireturn, 1) := by decide +kernel
theorem dX11_branch_0 : decode cX11_branch 0 = .ok (.aload_n 0, 1) := by decide +kernel
theorem dX11_branch_1 : decode cX11_branch 1 = .ok (.iload_n 1, 1) := by decide +kernel
theorem dX11_branch_2 : decode cX11_branch 2 = .ok (.iload_n 2, 1) := by decide +kernel
theorem dX11_branch_3 : decode cX11_branch 3 = .ok (.invokevirtual 106, 3) := by decide +kernel
theorem dX11_branch_6 : decode cX11_branch 6 = .ok (.astore 5, 2) := by decide +kernel
theorem dX11_branch_8 : decode cX11_branch 8 = .ok (.aload 5, 2) := by decide +kernel
theorem dX11_branch_10 : decode cX11_branch 10 = .ok (.ifnonnull 7, 3) := by decide +kernel
theorem dX11_branch_13 : decode cX11_branch 13 = .ok (.aconst_null, 1) := by decide +kernel
theorem dX11_branch_14 : decode cX11_branch 14 = .ok (.goto 9, 3) := by decide +kernel
theorem dX11_branch_17 : decode cX11_branch 17 = .ok (.aload 5, 2) := by decide +kernel
theorem dX11_branch_19 : decode cX11_branch 19 = .ok (.iload_n 3, 1) := by decide +kernel
theorem dX11_branch_20 : decode cX11_branch 20 = .ok (.invokevirtual 190, 3) := by decide +kernel
theorem dX11_branch_23 : decode cX11_branch 23 = .ok (.astore 6, 2) := by decide +kernel
theorem dX11_branch_25 : decode cX11_branch 25 = .ok (.aload 5, 2) := by decide +kernel
theorem dX11_branch_27 : decode cX11_branch 27 = .ok (.ifnull 18, 3) := by decide +kernel
theorem dX11_branch_30 : decode cX11_branch 30 = .ok (.aload 6, 2) := by decide +kernel
theorem dX11_branch_32 : decode cX11_branch 32 = .ok (.ifnull 13, 3) := by decide +kernel
theorem dX11_branch_35 : decode cX11_branch 35 = .ok (.aload 5, 2) := by decide +kernel
theorem dX11_branch_37 : decode cX11_branch 37 = .ok (.iload 4, 2) := by decide +kernel
theorem dX11_branch_39 : decode cX11_branch 39 = .ok (.invokevirtual 143, 3) := by decide +kernel
theorem dX11_branch_42 : decode cX11_branch 42 = .ok (.ifnonnull 5, 3) := by decide +kernel
theorem dX11_branch_45 : decode cX11_branch 45 = .ok (.iconst (-1), 1) := by decide +kernel
theorem dX11_branch_46 : decode cX11_branch 46 = .ok (.ireturn, 1) := by decide +kernel
theorem dX11_branch_47 : decode cX11_branch 47 = .ok (.aload_n 0, 1) := by decide +kernel
theorem dX11_branch_48 : decode cX11_branch 48 = .ok (.iload_n 1, 1) := by decide +kernel
theorem dX11_branch_49 : decode cX11_branch 49 = .ok (.iload_n 2, 1) := by decide +kernel
theorem dX11_branch_50 : decode cX11_branch 50 = .ok (.invokevirtual 159, 3) := by decide +kernel
theorem dX11_branch_53 : decode cX11_branch 53 = .ok (.ifCond .ne 6, 3) := by decide +kernel
theorem dX11_branch_56 : decode cX11_branch 56 = .ok (.bipush (-3), 2) := by decide +kernel
theorem dX11_branch_58 : decode cX11_branch 58 = .ok (.ireturn, 1) := by decide +kernel
theorem dX11_branch_59 : decode cX11_branch 59 = .ok (.aload_n 0, 1) := by decide +kernel
theorem dX11_branch_60 : decode cX11_branch 60 = .ok (.aload_n 0, 1) := by decide +kernel
theorem dX11_branch_61 : decode cX11_branch 61 = .ok (.getfield 32, 3) := by decide +kernel
theorem dX11_branch_64 : decode cX11_branch 64 = .ok (.aload 5, 2) := by decide +kernel
theorem dX11_branch_66 : decode cX11_branch 66 = .ok (.aload 6, 2) := by decide +kernel
theorem dX11_branch_68 : decode cX11_branch 68 = .ok (.iload 4, 2) := by decide +kernel
theorem dX11_branch_70 : decode cX11_branch 70 = .ok (.invokevirtual 194, 3) := by decide +kernel
theorem dX11_branch_73 : decode cX11_branch 73 = .ok (.invokevirtual 172, 3) := by decide +kernel
theorem dX11_branch_76 : decode cX11_branch 76 = .ok (.ireturn, 1) := by decide +kernel
theorem dX11_out_0 : decode cX11_out 0 = .ok (.aload_n 0, 1) := by decide +kernel
theorem dX11_out_1 : decode cX11_out 1 = .ok (.getfield 165, 3) := by decide +kernel
theorem dX11_out_4 : decode cX11_out 4 = .ok (.ireturn, 1) := by decide +kernel
theorem dX11_cause_0 : decode cX11_cause 0 = .ok (.iload_n 2, 1) := by decide +kernel
theorem dX11_cause_1 : decode cX11_cause 1 = .ok (.ifCond .ne 12, 3) := by decide +kernel
theorem dX11_cause_4 : decode cX11_cause 4 = .ok (.aload_n 0, 1) := by decide +kernel
theorem dX11_cause_5 : decode cX11_cause 5 = .ok (.getfield 32, 3) := by decide +kernel
theorem dX11_cause_8 : decode cX11_cause 8 = .ok (.iload_n 1, 1) := by decide +kernel
theorem dX11_cause_9 : decode cX11_cause 9 = .ok (.invokevirtual 198, 3) := by decide +kernel
theorem dX11_cause_12 : decode cX11_cause 12 = .ok (.ireturn, 1) := by decide +kernel
theorem dX11_cause_13 : decode cX11_cause 13 = .ok (.iload_n 2, 1) := by decide +kernel
theorem dX11_cause_14 : decode cX11_cause 14 = .ok (.iconst 1, 1) := by decide +kernel
theorem dX11_cause_15 : decode cX11_cause 15 = .ok (.if_icmp .ne 14, 3) := by decide +kernel
theorem dX11_cause_18 : decode cX11_cause 18 = .ok (.aload_n 0, 1) := by decide +kernel
theorem dX11_cause_19 : decode cX11_cause 19 = .ok (.getfield 32, 3) := by decide +kernel
theorem dX11_cause_22 : decode cX11_cause 22 = .ok (.iload_n 1, 1) := by decide +kernel
theorem dX11_cause_23 : decode cX11_cause 23 = .ok (.invokevirtual 201, 3) := by decide +kernel
theorem dX11_cause_26 : decode cX11_cause 26 = .ok (.goto 4, 3) := by decide +kernel
theorem dX11_cause_29 : decode cX11_cause 29 = .ok (.iconst (-1), 1) := by decide +kernel
theorem dX11_cause_30 : decode cX11_cause 30 = .ok (.ireturn, 1) := by decide +kernel
theorem dX11_start_0 : decode cX11_start 0 = .ok (.aload_n 0, 1) := by decide +kernel
theorem dX11_start_1 : decode cX11_start 1 = .ok (.iload_n 1, 1) := by decide +kernel
theorem dX11_start_2 : decode cX11_start 2 = .ok (.invokevirtual 90, 3) := by decide +kernel
theorem dX11_start_5 : decode cX11_start 5 = .ok (.astore_n 3, 1) := by decide +kernel
theorem dX11_start_6 : decode cX11_start 6 = .ok (.aload_n 3, 1) := by decide +kernel
theorem dX11_start_7 : decode cX11_start 7 = .ok (.ifnull 15, 3) := by decide +kernel
theorem dX11_start_10 : decode cX11_start 10 = .ok (.iload_n 2, 1) := by decide +kernel
theorem dX11_start_11 : decode cX11_start 11 = .ok (.ifCond .lt 11, 3) := by decide +kernel
theorem dX11_start_14 : decode cX11_start 14 = .ok (.iload_n 2, 1) := by decide +kernel
theorem dX11_start_15 : decode cX11_start 15 = .ok (.aload_n 3, 1) := by decide +kernel
theorem dX11_start_16 : decode cX11_start 16 = .ok (.getfield 100, 3) := by decide +kernel
theorem dX11_start_19 : decode cX11_start 19 = .ok (.if_icmp .lt 5, 3) := by decide +kernel
theorem dX11_start_22 : decode cX11_start 22 = .ok (.iconst (-1), 1) := by decide +kernel
theorem dX11_start_23 : decode cX11_start 23 = .ok (.ireturn, 1) := by decide +kernel
theorem dX11_start_24 : decode cX11_start 24 = .ok (.aload_n 3, 1) := by decide +kernel
theorem dX11_start_25 : decode cX11_start 25 = .ok (.getfield 204, 3) := by decide +kernel
theorem dX11_start_28 : decode cX11_start 28 = .ok (.iload_n 2, 1) := by decide +kernel
theorem dX11_start_29 : decode cX11_start 29 = .ok (.iaload, 1) := by decide +kernel
theorem dX11_start_30 : decode cX11_start 30 = .ok (.ireturn, 1) := by decide +kernel
theorem dX11_seen_0 : decode cX11_seen 0 = .ok (.aload_n 0, 1) := by decide +kernel
theorem dX11_seen_1 : decode cX11_seen 1 = .ok (.iload_n 1, 1) := by decide +kernel
theorem dX11_seen_2 : decode cX11_seen 2 = .ok (.invokevirtual 90, 3) := by decide +kernel
theorem dX11_seen_5 : decode cX11_seen 5 = .ok (.astore 4, 2) := by decide +kernel
theorem dX11_seen_7 : decode cX11_seen 7 = .ok (.aload 4, 2) := by decide +kernel
theorem dX11_seen_9 : decode cX11_seen 9 = .ok (.ifnull 16, 3) := by decide +kernel
theorem dX11_seen_12 : decode cX11_seen 12 = .ok (.iload_n 2, 1) := by decide +kernel
theorem dX11_seen_13 : decode cX11_seen 13 = .ok (.ifCond .lt 12, 3) := by decide +kernel
theorem dX11_seen_16 : decode cX11_seen 16 = .ok (.iload_n 2, 1) := by decide +kernel
theorem dX11_seen_17 : decode cX11_seen 17 = .ok (.aload 4, 2) := by decide +kernel
theorem dX11_seen_19 : decode cX11_seen 19 = .ok (.getfield 103, 3) := by decide +kernel
theorem dX11_seen_22 : decode cX11_seen 22 = .ok (.if_icmp .lt 5, 3) := by decide +kernel
theorem dX11_seen_25 : decode cX11_seen 25 = .ok (.iconst (-1), 1) := by decide +kernel
theorem dX11_seen_26 : decode cX11_seen 26 = .ok (.ireturn, 1) := by decide +kernel
theorem dX11_seen_27 : decode cX11_seen 27 = .ok (.iload_n 3, 1) := by decide +kernel
theorem dX11_seen_28 : decode cX11_seen 28 = .ok (.ifCond .ne 11, 3) := by decide +kernel
theorem dX11_seen_31 : decode cX11_seen 31 = .ok (.aload 4, 2) := by decide +kernel
theorem dX11_seen_33 : decode cX11_seen 33 = .ok (.getfield 207, 3) := by decide +kernel
theorem dX11_seen_36 : decode cX11_seen 36 = .ok (.iload_n 2, 1) := by decide +kernel
theorem dX11_seen_37 : decode cX11_seen 37 = .ok (.iaload, 1) := by decide +kernel
theorem dX11_seen_38 : decode cX11_seen 38 = .ok (.ireturn, 1) := by decide +kernel
theorem dX11_seen_39 : decode cX11_seen 39 = .ok (.iload_n 3, 1) := by decide +kernel
theorem dX11_seen_40 : decode cX11_seen 40 = .ok (.iconst 1, 1) := by decide +kernel
theorem dX11_seen_41 : decode cX11_seen 41 = .ok (.if_icmp .ne 13, 3) := by decide +kernel
theorem dX11_seen_44 : decode cX11_seen 44 = .ok (.aload 4, 2) := by decide +kernel
theorem dX11_seen_46 : decode cX11_seen 46 = .ok (.getfield 210, 3) := by decide +kernel
theorem dX11_seen_49 : decode cX11_seen 49 = .ok (.iload_n 2, 1) := by decide +kernel
theorem dX11_seen_50 : decode cX11_seen 50 = .ok (.iaload, 1) := by decide +kernel
theorem dX11_seen_51 : decode cX11_seen 51 = .ok (.goto 4, 3) := by decide +kernel
theorem dX11_seen_54 : decode cX11_seen 54 = .ok (.iconst (-1), 1) := by decide +kernel
theorem dX11_seen_55 : decode cX11_seen 55 = .ok (.ireturn, 1) := by decide +kernel
theorem dX11_set_0 : decode cX11_set 0 = .ok (.aload_n 0, 1) := by decide +kernel
theorem dX11_set_1 : decode cX11_set 1 = .ok (.iload_n 1, 1) := by decide +kernel
theorem dX11_set_2 : decode cX11_set 2 = .ok (.iload_n 2, 1) := by decide +kernel
theorem dX11_set_3 : decode cX11_set 3 = .ok (.invokevirtual 106, 3) := by decide +kernel
theorem dX11_set_6 : decode cX11_set 6 = .ok (.ifnonnull 5, 3) := by decide +kernel
theorem dX11_set_9 : decode cX11_set 9 = .ok (.iconst (-1), 1) := by decide +kernel
theorem dX11_set_10 : decode cX11_set 10 = .ok (.ireturn, 1) := by decide +kernel
theorem dX11_set_11 : decode cX11_set 11 = .ok (.aload_n 0, 1) := by decide +kernel
theorem dX11_set_12 : decode cX11_set 12 = .ok (.getfield 213, 3) := by decide +kernel
theorem dX11_set_15 : decode cX11_set 15 = .ok (.bipush 40, 2) := by decide +kernel
theorem dX11_set_17 : decode cX11_set 17 = .ok (.if_icmp .lt 6, 3) := by decide +kernel
theorem dX11_set_20 : decode cX11_set 20 = .ok (.bipush (-2), 2) := by decide +kernel
theorem dX11_set_22 : decode cX11_set 22 = .ok (.ireturn, 1) := by decide +kernel
theorem dX11_set_23 : decode cX11_set 23 = .ok (.aload_n 0, 1) := by decide +kernel
theorem dX11_set_24 : decode cX11_set 24 = .ok (.iload_n 1, 1) := by decide +kernel
theorem dX11_set_25 : decode cX11_set 25 = .ok (.iload_n 2, 1) := by decide +kernel
theorem dX11_set_26 : decode cX11_set 26 = .ok (.invokevirtual 159, 3) := by decide +kernel
theorem dX11_set_29 : decode cX11_set 29 = .ok (.ifCond .ne 6, 3) := by decide +kernel
theorem dX11_set_32 : decode cX11_set 32 = .ok (.bipush (-3), 2) := by decide +kernel
theorem dX11_set_34 : decode cX11_set 34 = .ok (.ireturn, 1) := by decide +kernel
theorem dX11_set_35 : decode cX11_set 35 = .ok (.aload_n 0, 1) := by decide +kernel
theorem dX11_set_36 : decode cX11_set 36 = .ok (.new 42, 3) := by decide +kernel
theorem dX11_set_39 : decode cX11_set 39 = .ok (.dup, 1) := by decide +kernel
theorem dX11_set_40 : decode cX11_set 40 = .ok (.iload_n 1, 1) := by decide +kernel
theorem dX11_set_41 : decode cX11_set 41 = .ok (.iload_n 2, 1) := by decide +kernel
theorem dX11_set_42 : decode cX11_set 42 = .ok (.iconst 0, 1) := by decide +kernel
theorem dX11_set_43 : decode cX11_set 43 = .ok (.invokespecial 216, 3) := by decide +kernel
theorem dX11_set_46 : decode cX11_set 46 = .ok (.invokevirtual 219, 3) := by decide +kernel
theorem dX11_set_49 : decode cX11_set 49 = .ok (.ireturn, 1) := by decide +kernel
theorem dX11_add_0 : decode cX11_add 0 = .ok (.aload_n 0, 1) := by decide +kernel
theorem dX11_add_1 : decode cX11_add 1 = .ok (.iload_n 1, 1) := by decide +kernel
theorem dX11_add_2 : decode cX11_add 2 = .ok (.invokevirtual 223, 3) := by decide +kernel
theorem dX11_add_5 : decode cX11_add 5 = .ok (.astore_n 3, 1) := by decide +kernel
theorem dX11_add_6 : decode cX11_add 6 = .ok (.aload_n 3, 1) := by decide +kernel
theorem dX11_add_7 : decode cX11_add 7 = .ok (.ifnull 12, 3) := by decide +kernel
theorem dX11_add_10 : decode cX11_add 10 = .ok (.aload_n 0, 1) := by decide +kernel
theorem dX11_add_11 : decode cX11_add 11 = .ok (.aload_n 3, 1) := by decide +kernel
theorem dX11_add_12 : decode cX11_add 12 = .ok (.iload_n 2, 1) := by decide +kernel
theorem dX11_add_13 : decode cX11_add 13 = .ok (.invokevirtual 227, 3) := by decide +kernel
theorem dX11_add_16 : decode cX11_add 16 = .ok (.ifCond .ne 5, 3) := by decide +kernel
theorem dX11_add_19 : decode cX11_add 19 = .ok (.iconst (-1), 1) := by decide +kernel
theorem dX11_add_20 : decode cX11_add 20 = .ok (.ireturn, 1) := by decide +kernel
theorem dX11_add_21 : decode cX11_add 21 = .ok (.aload_n 3, 1) := by decide +kernel
theorem dX11_add_22 : decode cX11_add 22 = .ok (.iload_n 2, 1) := by decide +kernel
theorem dX11_add_23 : decode cX11_add 23 = .ok (.invokevirtual 231, 3) := by decide +kernel
theorem dX11_add_26 : decode cX11_add 26 = .ok (.ifCond .eq 7, 3) := by decide +kernel
theorem dX11_add_29 : decode cX11_add 29 = .ok (.iconst 1, 1) := by decide +kernel
theorem dX11_add_30 : decode cX11_add 30 = .ok (.goto 4, 3) := by decide +kernel
theorem dX11_add_33 : decode cX11_add 33 = .ok (.iconst 0, 1) := by decide +kernel
theorem dX11_add_34 : decode cX11_add 34 = .ok (.ireturn, 1) := by decide +kernel
theorem dX11_take_0 : decode cX11_take 0 = .ok (.aload_n 0, 1) := by decide +kernel
theorem dX11_take_1 : decode cX11_take 1 = .ok (.iload_n 1, 1) := by decide +kernel
theorem dX11_take_2 : decode cX11_take 2 = .ok (.invokevirtual 223, 3) := by decide +kernel
theorem dX11_take_5 : decode cX11_take 5 = .ok (.astore_n 3, 1) := by decide +kernel
theorem dX11_take_6 : decode cX11_take 6 = .ok (.aload_n 3, 1) := by decide +kernel
theorem dX11_take_7 : decode cX11_take 7 = .ok (.ifnull 12, 3) := by decide +kernel
theorem dX11_take_10 : decode cX11_take 10 = .ok (.aload_n 0, 1) := by decide +kernel
theorem dX11_take_11 : decode cX11_take 11 = .ok (.aload_n 3, 1) := by decide +kernel
theorem dX11_take_12 : decode cX11_take 12 = .ok (.iload_n 2, 1) := by decide +kernel
theorem dX11_take_13 : decode cX11_take 13 = .ok (.invokevirtual 227, 3) := by decide +kernel
theorem dX11_take_16 : decode cX11_take 16 = .ok (.ifCond .ne 5, 3) := by decide +kernel
theorem dX11_take_19 : decode cX11_take 19 = .ok (.iconst (-1), 1) := by decide +kernel
theorem dX11_take_20 : decode cX11_take 20 = .ok (.ireturn, 1) := by decide +kernel
theorem dX11_take_21 : decode cX11_take 21 = .ok (.aload_n 3, 1) := by decide +kernel
theorem dX11_take_22 : decode cX11_take 22 = .ok (.iload_n 2, 1) := by decide +kernel
theorem dX11_take_23 : decode cX11_take 23 = .ok (.invokevirtual 234, 3) := by decide +kernel
theorem dX11_take_26 : decode cX11_take 26 = .ok (.ifCond .eq 7, 3) := by decide +kernel
theorem dX11_take_29 : decode cX11_take 29 = .ok (.iconst 1, 1) := by decide +kernel
theorem dX11_take_30 : decode cX11_take 30 = .ok (.goto 4, 3) := by decide +kernel
theorem dX11_take_33 : decode cX11_take 33 = .ok (.iconst 0, 1) := by decide +kernel
theorem dX11_take_34 : decode cX11_take 34 = .ok (.ireturn, 1) := by decide +kernel
theorem dX11_join_0 : decode cX11_join 0 = .ok (.aload_n 0, 1) := by decide +kernel
theorem dX11_join_1 : decode cX11_join 1 = .ok (.iload_n 1, 1) := by decide +kernel
theorem dX11_join_2 : decode cX11_join 2 = .ok (.invokevirtual 223, 3) := by decide +kernel
theorem dX11_join_5 : decode cX11_join 5 = .ok (.astore 4, 2) := by decide +kernel
theorem dX11_join_7 : decode cX11_join 7 = .ok (.aload_n 0, 1) := by decide +kernel
theorem dX11_join_8 : decode cX11_join 8 = .ok (.iload_n 2, 1) := by decide +kernel
theorem dX11_join_9 : decode cX11_join 9 = .ok (.invokevirtual 223, 3) := by decide +kernel
theorem dX11_join_12 : decode cX11_join 12 = .ok (.astore 5, 2) := by decide +kernel
theorem dX11_join_14 : decode cX11_join 14 = .ok (.aload 4, 2) := by decide +kernel
theorem dX11_join_16 : decode cX11_join 16 = .ok (.ifnull 8, 3) := by decide +kernel
theorem dX11_join_19 : decode cX11_join 19 = .ok (.aload 5, 2) := by decide +kernel
theorem dX11_join_21 : decode cX11_join 21 = .ok (.ifnonnull 5, 3) := by decide +kernel
theorem dX11_join_24 : decode cX11_join 24 = .ok (.iconst (-1), 1) := by decide +kernel
theorem dX11_join_25 : decode cX11_join 25 = .ok (.ireturn, 1) := by decide +kernel
theorem dX11_join_26 : decode cX11_join 26 = .ok (.aload 4, 2) := by decide +kernel
theorem dX11_join_28 : decode cX11_join 28 = .ok (.getfield 237, 3) := by decide +kernel
theorem dX11_join_31 : decode cX11_join 31 = .ok (.aload 5, 2) := by decide +kernel
theorem dX11_join_33 : decode cX11_join 33 = .ok (.getfield 237, 3) := by decide +kernel
theorem dX11_join_36 : decode cX11_join 36 = .ok (.if_icmp .ne 25, 3) := by decide +kernel
theorem dX11_join_39 : decode cX11_join 39 = .ok (.aload 4, 2) := by decide +kernel
theorem dX11_join_41 : decode cX11_join 41 = .ok (.getfield 240, 3) := by decide +kernel
theorem dX11_join_44 : decode cX11_join 44 = .ok (.aload 5, 2) := by decide +kernel
theorem dX11_join_46 : decode cX11_join 46 = .ok (.getfield 240, 3) := by decide +kernel
theorem dX11_join_49 : decode cX11_join 49 = .ok (.if_icmp .ne 12, 3) := by decide +kernel
theorem dX11_join_52 : decode cX11_join 52 = .ok (.iload_n 3, 1) := by decide +kernel
theorem dX11_join_53 : decode cX11_join 53 = .ok (.ifCond .lt 8, 3) := by decide +kernel
theorem dX11_join_56 : decode cX11_join 56 = .ok (.iload_n 3, 1) := by decide +kernel
theorem dX11_join_57 : decode cX11_join 57 = .ok (.iconst 3, 1) := by decide +kernel
theorem dX11_join_58 : decode cX11_join 58 = .ok (.if_icmp .le 6, 3) := by decide +kernel
theorem dX11_join_61 : decode cX11_join 61 = .ok (.bipush (-4), 2) := by decide +kernel
theorem dX11_join_63 : decode cX11_join 63 = .ok (.ireturn, 1) := by decide +kernel
theorem dX11_join_64 : decode cX11_join 64 = .ok (.aload_n 0, 1) := by decide +kernel
theorem dX11_join_65 : decode cX11_join 65 = .ok (.getfield 213, 3) := by decide +kernel
theorem dX11_join_68 : decode cX11_join 68 = .ok (.bipush 40, 2) := by decide +kernel
theorem dX11_join_70 : decode cX11_join 70 = .ok (.if_icmp .lt 6, 3) := by decide +kernel
theorem dX11_join_73 : decode cX11_join 73 = .ok (.bipush (-2), 2) := by decide +kernel
theorem dX11_join_75 : decode cX11_join 75 = .ok (.ireturn, 1) := by decide +kernel
theorem dX11_join_76 : decode cX11_join 76 = .ok (.aload_n 0, 1) := by decide +kernel
theorem dX11_join_77 : decode cX11_join 77 = .ok (.new 42, 3) := by decide +kernel
theorem dX11_join_80 : decode cX11_join 80 = .ok (.dup, 1) := by decide +kernel
theorem dX11_join_81 : decode cX11_join 81 = .ok (.aload 4, 2) := by decide +kernel
theorem dX11_join_83 : decode cX11_join 83 = .ok (.getfield 237, 3) := by decide +kernel
theorem dX11_join_86 : decode cX11_join 86 = .ok (.aload 4, 2) := by decide +kernel
theorem dX11_join_88 : decode cX11_join 88 = .ok (.getfield 240, 3) := by decide +kernel
theorem dX11_join_91 : decode cX11_join 91 = .ok (.aload 4, 2) := by decide +kernel
theorem dX11_join_93 : decode cX11_join 93 = .ok (.getfield 243, 3) := by decide +kernel
theorem dX11_join_96 : decode cX11_join 96 = .ok (.aload 5, 2) := by decide +kernel
theorem dX11_join_98 : decode cX11_join 98 = .ok (.getfield 243, 3) := by decide +kernel
theorem dX11_join_101 : decode cX11_join 101 = .ok (.iload_n 3, 1) := by decide +kernel
theorem dX11_join_102 : decode cX11_join 102 = .ok (.invokestatic 246, 3) := by decide +kernel
theorem dX11_join_105 : decode cX11_join 105 = .ok (.invokespecial 216, 3) := by decide +kernel
theorem dX11_join_108 : decode cX11_join 108 = .ok (.invokevirtual 219, 3) := by decide +kernel
theorem dX11_join_111 : decode cX11_join 111 = .ok (.ireturn, 1) := by decide +kernel
theorem dX11_member_0 : decode cX11_member 0 = .ok (.aload_n 0, 1) := by decide +kernel
theorem dX11_member_1 : decode cX11_member 1 = .ok (.iload_n 1, 1) := by decide +kernel
theorem dX11_member_2 : decode cX11_member 2 = .ok (.invokevirtual 223, 3) := by decide +kernel
theorem dX11_member_5 : decode cX11_member 5 = .ok (.astore_n 3, 1) := by decide +kernel
theorem dX11_member_6 : decode cX11_member 6 = .ok (.aload_n 3, 1) := by decide +kernel
theorem dX11_member_7 : decode cX11_member 7 = .ok (.ifnonnull 5, 3) := by decide +kernel
theorem dX11_member_10 : decode cX11_member 10 = .ok (.iconst (-1), 1) := by decide +kernel
theorem dX11_member_11 : decode cX11_member 11 = .ok (.ireturn, 1) := by decide +kernel
theorem dX11_member_12 : decode cX11_member 12 = .ok (.iload_n 2, 1) := by decide +kernel
theorem dX11_member_13 : decode cX11_member 13 = .ok (.iconst (-1), 1) := by decide +kernel
theorem dX11_member_14 : decode cX11_member 14 = .ok (.if_icmp .ne 13, 3) := by decide +kernel
theorem dX11_member_17 : decode cX11_member 17 = .ok (.aload_n 3, 1) := by decide +kernel
theorem dX11_member_18 : decode cX11_member 18 = .ok (.getfield 243, 3) := by decide +kernel
theorem dX11_member_21 : decode cX11_member 21 = .ok (.invokestatic 250, 3) := by decide +kernel
theorem dX11_member_24 : decode cX11_member 24 = .ok (.goto 8, 3) := by decide +kernel
theorem dX11_member_27 : decode cX11_member 27 = .ok (.aload_n 3, 1) := by decide +kernel
theorem dX11_member_28 : decode cX11_member 28 = .ok (.iload_n 2, 1) := by decide +kernel
theorem dX11_member_29 : decode cX11_member 29 = .ok (.invokevirtual 255, 3) := by decide +kernel
theorem dX11_member_32 : decode cX11_member 32 = .ok (.ireturn, 1) := by decide +kernel
theorem dX11_map_0 : decode cX11_map 0 = .ok (.aload_n 0, 1) := by decide +kernel
theorem dX11_map_1 : decode cX11_map 1 = .ok (.iload_n 1, 1) := by decide +kernel
theorem dX11_map_2 : decode cX11_map 2 = .ok (.iload_n 2, 1) := by decide +kernel
theorem dX11_map_3 : decode cX11_map 3 = .ok (.invokevirtual 106, 3) := by decide +kernel
theorem dX11_map_6 : decode cX11_map 6 = .ok (.ifnonnull 5, 3) := by decide +kernel
theorem dX11_map_9 : decode cX11_map 9 = .ok (.iconst (-1), 1) := by decide +kernel
theorem dX11_map_10 : decode cX11_map 10 = .ok (.ireturn, 1) := by decide +kernel
theorem dX11_map_11 : decode cX11_map 11 = .ok (.aload_n 0, 1) := by decide +kernel
theorem dX11_map_12 : decode cX11_map 12 = .ok (.getfield 258, 3) := by decide +kernel
theorem dX11_map_15 : decode cX11_map 15 = .ok (.bipush 10, 2) := by decide +kernel
theorem dX11_map_17 : decode cX11_map 17 = .ok (.if_icmp .lt 6, 3) := by decide +kernel
theorem dX11_map_20 : decode cX11_map 20 = .ok (.bipush (-2), 2) := by decide +kernel
theorem dX11_map_22 : decode cX11_map 22 = .ok (.ireturn, 1) := by decide +kernel
theorem dX11_map_23 : decode cX11_map 23 = .ok (.aload_n 0, 1) := by decide +kernel
theorem dX11_map_24 : decode cX11_map 24 = .ok (.iload_n 1, 1) := by decide +kernel
theorem dX11_map_25 : decode cX11_map 25 = .ok (.iload_n 2, 1) := by decide +kernel
theorem dX11_map_26 : decode cX11_map 26 = .ok (.invokevirtual 159, 3) := by decide +kernel
theorem dX11_map_29 : decode cX11_map 29 = .ok (.ifCond .ne 6, 3) := by decide +kernel
theorem dX11_map_32 : decode cX11_map 32 = .ok (.bipush (-3), 2) := by decide +kernel
theorem dX11_map_34 : decode cX11_map 34 = .ok (.ireturn, 1) := by decide +kernel
theorem dX11_map_35 : decode cX11_map 35 = .ok (.new 42, 3) := by decide +kernel
theorem dX11_map_38 : decode cX11_map 38 = .ok (.dup, 1) := by decide +kernel
theorem dX11_map_39 : decode cX11_map 39 = .ok (.iload_n 1, 1) := by decide +kernel
theorem dX11_map_40 : decode cX11_map 40 = .ok (.iload_n 2, 1) := by decide +kernel
theorem dX11_map_41 : decode cX11_map 41 = .ok (.iconst 0, 1) := by decide +kernel
theorem dX11_map_42 : decode cX11_map 42 = .ok (.invokespecial 216, 3) := by decide +kernel
theorem dX11_map_45 : decode cX11_map 45 = .ok (.astore_n 3, 1) := by decide +kernel
theorem dX11_map_46 : decode cX11_map 46 = .ok (.aload_n 3, 1) := by decide +kernel
theorem dX11_map_47 : decode cX11_map 47 = .ok (.bipush 24, 2) := by decide +kernel
theorem dX11_map_49 : decode cX11_map 49 = .ok (.newarray .int, 2) := by decide +kernel
theorem dX11_map_51 : decode cX11_map 51 = .ok (.putfield 261, 3) := by decide +kernel
theorem dX11_map_54 : decode cX11_map 54 = .ok (.aload_n 0, 1) := by decide +kernel
theorem dX11_map_55 : decode cX11_map 55 = .ok (.getfield 48, 3) := by decide +kernel
theorem dX11_map_58 : decode cX11_map 58 = .ok (.aload_n 0, 1) := by decide +kernel
theorem dX11_map_59 : decode cX11_map 59 = .ok (.getfield 258, 3) := by decide +kernel
theorem dX11_map_62 : decode cX11_map 62 = .ok (.aload_n 3, 1) := by decide +kernel
theorem dX11_map_63 : decode cX11_map 63 = .ok (.aastore, 1) := by decide +kernel
theorem dX11_map_64 : decode cX11_map 64 = .ok (.aload_n 0, 1) := by decide +kernel
theorem dX11_map_65 : decode cX11_map 65 = .ok (.dup, 1) := by decide +kernel
theorem dX11_map_66 : decode cX11_map 66 = .ok (.getfield 258, 3) := by decide +kernel
theorem dX11_map_69 : decode cX11_map 69 = .ok (.iconst 1, 1) := by decide +kernel
theorem dX11_map_70 : decode cX11_map 70 = .ok (.iadd, 1) := by decide +kernel
theorem dX11_map_71 : decode cX11_map 71 = .ok (.putfield 258, 3) := by decide +kernel
theorem dX11_map_74 : decode cX11_map 74 = .ok (.aload_n 0, 1) := by decide +kernel
theorem dX11_map_75 : decode cX11_map 75 = .ok (.getfield 258, 3) := by decide +kernel
theorem dX11_map_78 : decode cX11_map 78 = .ok (.iconst 1, 1) := by decide +kernel
theorem dX11_map_79 : decode cX11_map 79 = .ok (.isub, 1) := by decide +kernel
theorem dX11_map_80 : decode cX11_map 80 = .ok (.ireturn, 1) := by decide +kernel
theorem dX11_put_0 : decode cX11_put 0 = .ok (.aload_n 0, 1) := by decide +kernel
theorem dX11_put_1 : decode cX11_put 1 = .ok (.iload_n 1, 1) := by decide +kernel
theorem dX11_put_2 : decode cX11_put 2 = .ok (.invokevirtual 264, 3) := by decide +kernel
theorem dX11_put_5 : decode cX11_put 5 = .ok (.astore 4, 2) := by decide +kernel
theorem dX11_put_7 : decode cX11_put 7 = .ok (.aload 4, 2) := by decide +kernel
theorem dX11_put_9 : decode cX11_put 9 = .ok (.ifnull 13, 3) := by decide +kernel
theorem dX11_put_12 : decode cX11_put 12 = .ok (.aload_n 0, 1) := by decide +kernel
theorem dX11_put_13 : decode cX11_put 13 = .ok (.aload 4, 2) := by decide +kernel
theorem dX11_put_15 : decode cX11_put 15 = .ok (.iload_n 2, 1) := by decide +kernel
theorem dX11_put_16 : decode cX11_put 16 = .ok (.invokevirtual 227, 3) := by decide +kernel
theorem dX11_put_19 : decode cX11_put 19 = .ok (.ifCond .ne 5, 3) := by decide +kernel
theorem dX11_put_22 : decode cX11_put 22 = .ok (.iconst (-1), 1) := by decide +kernel
theorem dX11_put_23 : decode cX11_put 23 = .ok (.ireturn, 1) := by decide +kernel
theorem dX11_put_24 : decode cX11_put 24 = .ok (.aload 4, 2) := by decide +kernel
theorem dX11_put_26 : decode cX11_put 26 = .ok (.getfield 261, 3) := by decide +kernel
theorem dX11_put_29 : decode cX11_put 29 = .ok (.iload_n 2, 1) := by decide +kernel
theorem dX11_put_30 : decode cX11_put 30 = .ok (.iload_n 3, 1) := by decide +kernel
theorem dX11_put_31 : decode cX11_put 31 = .ok (.iastore, 1) := by decide +kernel
theorem dX11_put_32 : decode cX11_put 32 = .ok (.aload 4, 2) := by decide +kernel
theorem dX11_put_34 : decode cX11_put 34 = .ok (.iload_n 2, 1) := by decide +kernel
theorem dX11_put_35 : decode cX11_put 35 = .ok (.invokevirtual 231, 3) := by decide +kernel
theorem dX11_put_38 : decode cX11_put 38 = .ok (.ifCond .eq 7, 3) := by decide +kernel
theorem dX11_put_41 : decode cX11_put 41 = .ok (.iconst 1, 1) := by decide +kernel
theorem dX11_put_42 : decode cX11_put 42 = .ok (.goto 4, 3) := by decide +kernel
theorem dX11_put_45 : decode cX11_put 45 = .ok (.iconst 0, 1) := by decide +kernel
theorem dX11_put_46 : decode cX11_put 46 = .ok (.ireturn, 1) := by decide +kernel
theorem dX11_get_0 : decode cX11_get 0 = .ok (.aload_n 0, 1) := by decide +kernel
theorem dX11_get_1 : decode cX11_get 1 = .ok (.iload_n 1, 1) := by decide +kernel
theorem dX11_get_2 : decode cX11_get 2 = .ok (.invokevirtual 264, 3) := by decide +kernel
theorem dX11_get_5 : decode cX11_get 5 = .ok (.astore_n 3, 1) := by decide +kernel
theorem dX11_get_6 : decode cX11_get 6 = .ok (.aload_n 3, 1) := by decide +kernel
theorem dX11_get_7 : decode cX11_get 7 = .ok (.ifnull 12, 3) := by decide +kernel
theorem dX11_get_10 : decode cX11_get 10 = .ok (.aload_n 0, 1) := by decide +kernel
theorem dX11_get_11 : decode cX11_get 11 = .ok (.aload_n 3, 1) := by decide +kernel
theorem dX11_get_12 : decode cX11_get 12 = .ok (.iload_n 2, 1) := by decide +kernel
theorem dX11_get_13 : decode cX11_get 13 = .ok (.invokevirtual 227, 3) := by decide +kernel
theorem dX11_get_16 : decode cX11_get 16 = .ok (.ifCond .ne 5, 3) := by decide +kernel
theorem dX11_get_19 : decode cX11_get 19 = .ok (.iconst (-1), 1) := by decide +kernel
theorem dX11_get_20 : decode cX11_get 20 = .ok (.ireturn, 1) := by decide +kernel
theorem dX11_get_21 : decode cX11_get 21 = .ok (.aload_n 3, 1) := by decide +kernel
theorem dX11_get_22 : decode cX11_get 22 = .ok (.iload_n 2, 1) := by decide +kernel
theorem dX11_get_23 : decode cX11_get 23 = .ok (.invokevirtual 267, 3) := by decide +kernel
theorem dX11_get_26 : decode cX11_get 26 = .ok (.ifCond .ne 5, 3) := by decide +kernel
theorem dX11_get_29 : decode cX11_get 29 = .ok (.iconst 0, 1) := by decide +kernel
theorem dX11_get_30 : decode cX11_get 30 = .ok (.ireturn, 1) := by decide +kernel
theorem dX11_get_31 : decode cX11_get 31 = .ok (.aload_n 0, 1) := by decide +kernel
theorem dX11_get_32 : decode cX11_get 32 = .ok (.aload_n 3, 1) := by decide +kernel
theorem dX11_get_33 : decode cX11_get 33 = .ok (.getfield 261, 3) := by decide +kernel
theorem dX11_get_36 : decode cX11_get 36 = .ok (.iload_n 2, 1) := by decide +kernel
theorem dX11_get_37 : decode cX11_get 37 = .ok (.iaload, 1) := by decide +kernel
theorem dX11_get_38 : decode cX11_get 38 = .ok (.putfield 165, 3) := by decide +kernel
theorem dX11_get_41 : decode cX11_get 41 = .ok (.iconst 1, 1) := by decide +kernel
theorem dX11_get_42 : decode cX11_get 42 = .ok (.ireturn, 1) := by decide +kernel
theorem dX11_encode_0 : decode cX11_encode 0 = .ok (.aload_n 0, 1) := by decide +kernel
theorem dX11_encode_1 : decode cX11_encode 1 = .ok (.iload_n 1, 1) := by decide +kernel
theorem dX11_encode_2 : decode cX11_encode 2 = .ok (.invokevirtual 90, 3) := by decide +kernel
theorem dX11_encode_5 : decode cX11_encode 5 = .ok (.astore_n 2, 1) := by decide +kernel
theorem dX11_encode_6 : decode cX11_encode 6 = .ok (.aload_n 2, 1) := by decide +kernel
theorem dX11_encode_7 : decode cX11_encode 7 = .ok (.ifnonnull 5, 3) := by decide +kernel
theorem dX11_encode_10 : decode cX11_encode 10 = .ok (.iconst (-1), 1) := by decide +kernel
theorem dX11_encode_11 : decode cX11_encode 11 = .ok (.ireturn, 1) := by decide +kernel
theorem dX11_encode_12 : decode cX11_encode 12 = .ok (.aload_n 0, 1) := by decide +kernel
theorem dX11_encode_13 : decode cX11_encode 13 = .ok (.getfield 270, 3) := by decide +kernel
theorem dX11_encode_16 : decode cX11_encode 16 = .ok (.bipush 20, 2) := by decide +kernel
theorem dX11_encode_18 : decode cX11_encode 18 = .ok (.if_icmp .lt 6, 3) := by decide +kernel
theorem dX11_encode_21 : decode cX11_encode 21 = .ok (.bipush (-2), 2) := by decide +kernel
theorem dX11_encode_23 : decode cX11_encode 23 = .ok (.ireturn, 1) := by decide +kernel
theorem dX11_encode_24 : decode cX11_encode 24 = .ok (.aload_n 0, 1) := by decide +kernel
theorem dX11_encode_25 : decode cX11_encode 25 = .ok (.getfield 16, 3) := by decide +kernel
theorem dX11_encode_28 : decode cX11_encode 28 = .ok (.aload_n 0, 1) := by decide +kernel
theorem dX11_encode_29 : decode cX11_encode 29 = .ok (.getfield 9, 3) := by decide +kernel
theorem dX11_encode_32 : decode cX11_encode 32 = .ok (.aload_n 0, 1) := by decide +kernel
theorem dX11_encode_33 : decode cX11_encode 33 = .ok (.getfield 62, 3) := by decide +kernel
theorem dX11_encode_36 : decode cX11_encode 36 = .ok (.invokevirtual 73, 3) := by decide +kernel
theorem dX11_encode_39 : decode cX11_encode 39 = .ok (.aload_n 0, 1) := by decide +kernel
theorem dX11_encode_40 : decode cX11_encode 40 = .ok (.iconst 0, 1) := by decide +kernel
theorem dX11_encode_41 : decode cX11_encode 41 = .ok (.putfield 62, 3) := by decide +kernel
theorem dX11_encode_44 : decode cX11_encode 44 = .ok (.aload_n 0, 1) := by decide +kernel
theorem dX11_encode_45 : decode cX11_encode 45 = .ok (.getfield 58, 3) := by decide +kernel
theorem dX11_encode_48 : decode cX11_encode 48 = .ok (.aload_n 0, 1) := by decide +kernel
theorem dX11_encode_49 : decode cX11_encode 49 = .ok (.getfield 16, 3) := by decide +kernel
theorem dX11_encode_52 : decode cX11_encode 52 = .ok (.aload_n 2, 1) := by decide +kernel
theorem dX11_encode_53 : decode cX11_encode 53 = .ok (.invokevirtual 273, 3) := by decide +kernel
theorem dX11_encode_56 : decode cX11_encode 56 = .ok (.istore_n 3, 1) := by decide +kernel
theorem dX11_encode_57 : decode cX11_encode 57 = .ok (.iload_n 3, 1) := by decide +kernel
theorem dX11_encode_58 : decode cX11_encode 58 = .ok (.ifCond .lt 16, 3) := by decide +kernel
theorem dX11_encode_61 : decode cX11_encode 61 = .ok (.bipush (-10), 2) := by decide +kernel
theorem dX11_encode_63 : decode cX11_encode 63 = .ok (.aload_n 0, 1) := by decide +kernel
theorem dX11_encode_64 : decode cX11_encode 64 = .ok (.getfield 16, 3) := by decide +kernel
theorem dX11_encode_67 : decode cX11_encode 67 = .ok (.getfield 277, 3) := by decide +kernel
theorem dX11_encode_70 : decode cX11_encode 70 = .ok (.iload_n 3, 1) := by decide +kernel
theorem dX11_encode_71 : decode cX11_encode 71 = .ok (.iaload, 1) := by decide +kernel
theorem dX11_encode_72 : decode cX11_encode 72 = .ok (.isub, 1) := by decide +kernel
theorem dX11_encode_73 : decode cX11_encode 73 = .ok (.ireturn, 1) := by decide +kernel
theorem dX11_encode_74 : decode cX11_encode 74 = .ok (.aload_n 0, 1) := by decide +kernel
theorem dX11_encode_75 : decode cX11_encode 75 = .ok (.getfield 58, 3) := by decide +kernel
theorem dX11_encode_78 : decode cX11_encode 78 = .ok (.iload_n 1, 1) := by decide +kernel
theorem dX11_encode_79 : decode cX11_encode 79 = .ok (.putfield 280, 3) := by decide +kernel
theorem dX11_encode_82 : decode cX11_encode 82 = .ok (.aload_n 0, 1) := by decide +kernel
theorem dX11_encode_83 : decode cX11_encode 83 = .ok (.getfield 53, 3) := by decide +kernel
theorem dX11_encode_86 : decode cX11_encode 86 = .ok (.aload_n 0, 1) := by decide +kernel
theorem dX11_encode_87 : decode cX11_encode 87 = .ok (.getfield 270, 3) := by decide +kernel
theorem dX11_encode_90 : decode cX11_encode 90 = .ok (.aload_n 0, 1) := by decide +kernel
theorem dX11_encode_91 : decode cX11_encode 91 = .ok (.getfield 58, 3) := by decide +kernel
theorem dX11_encode_94 : decode cX11_encode 94 = .ok (.aastore, 1) := by decide +kernel
theorem dX11_encode_95 : decode cX11_encode 95 = .ok (.aload_n 0, 1) := by decide +kernel
theorem dX11_encode_96 : decode cX11_encode 96 = .ok (.dup, 1) := by decide +kernel
theorem dX11_encode_97 : decode cX11_encode 97 = .ok (.getfield 270, 3) := by decide +kernel
theorem dX11_encode_100 : decode cX11_encode 100 = .ok (.iconst 1, 1) := by decide +kernel
theorem dX11_encode_101 : decode cX11_encode 101 = .ok (.iadd, 1) := by decide +kernel
theorem dX11_encode_102 : decode cX11_encode 102 = .ok (.putfield 270, 3) := by decide +kernel
theorem dX11_encode_105 : decode cX11_encode 105 = .ok (.aload_n 0, 1) := by decide +kernel
theorem dX11_encode_106 : decode cX11_encode 106 = .ok (.new 51, 3) := by decide +kernel
theorem dX11_encode_109 : decode cX11_encode 109 = .ok (.dup, 1) := by decide +kernel
theorem dX11_encode_110 : decode cX11_encode 110 = .ok (.invokespecial 57, 3) := by decide +kernel
theorem dX11_encode_113 : decode cX11_encode 113 = .ok (.putfield 58, 3) := by decide +kernel
theorem dX11_encode_116 : decode cX11_encode 116 = .ok (.aload_n 0, 1) := by decide +kernel
theorem dX11_encode_117 : decode cX11_encode 117 = .ok (.getfield 270, 3) := by decide +kernel
theorem dX11_encode_120 : decode cX11_encode 120 = .ok (.iconst 1, 1) := by decide +kernel
theorem dX11_encode_121 : decode cX11_encode 121 = .ok (.isub, 1) := by decide +kernel
theorem dX11_encode_122 : decode cX11_encode 122 = .ok (.ireturn, 1) := by decide +kernel
theorem dX11_signal_0 : decode cX11_signal 0 = .ok (.aload_n 0, 1) := by decide +kernel
theorem dX11_signal_1 : decode cX11_signal 1 = .ok (.iload_n 1, 1) := by decide +kernel
theorem dX11_signal_2 : decode cX11_signal 2 = .ok (.invokevirtual 281, 3) := by decide +kernel
theorem dX11_signal_5 : decode cX11_signal 5 = .ok (.astore 4, 2) := by decide +kernel
theorem dX11_signal_7 : decode cX11_signal 7 = .ok (.aload 4, 2) := by decide +kernel
theorem dX11_signal_9 : decode cX11_signal 9 = .ok (.ifnull 16, 3) := by decide +kernel
theorem dX11_signal_12 : decode cX11_signal 12 = .ok (.iload_n 2, 1) := by decide +kernel
theorem dX11_signal_13 : decode cX11_signal 13 = .ok (.ifCond .lt 12, 3) := by decide +kernel
theorem dX11_signal_16 : decode cX11_signal 16 = .ok (.iload_n 2, 1) := by decide +kernel
theorem dX11_signal_17 : decode cX11_signal 17 = .ok (.aload 4, 2) := by decide +kernel
theorem dX11_signal_19 : decode cX11_signal 19 = .ok (.getfield 285, 3) := by decide +kernel
theorem dX11_signal_22 : decode cX11_signal 22 = .ok (.if_icmp .lt 5, 3) := by decide +kernel
theorem dX11_signal_25 : decode cX11_signal 25 = .ok (.iconst (-1), 1) := by decide +kernel
theorem dX11_signal_26 : decode cX11_signal 26 = .ok (.ireturn, 1) := by decide +kernel
theorem dX11_signal_27 : decode cX11_signal 27 = .ok (.iload_n 3, 1) := by decide +kernel
theorem dX11_signal_28 : decode cX11_signal 28 = .ok (.tableswitch 62 0 3 #[32, 40, 48, 56], 32) := by decide +kernel
theorem dX11_signal_60 : decode cX11_signal 60 = .ok (.aload 4, 2) := by decide +kernel
theorem dX11_signal_62 : decode cX11_signal 62 = .ok (.getfield 288, 3) := by decide +kernel
theorem dX11_signal_65 : decode cX11_signal 65 = .ok (.iload_n 2, 1) := by decide +kernel
theorem dX11_signal_66 : decode cX11_signal 66 = .ok (.iaload, 1) := by decide +kernel
theorem dX11_signal_67 : decode cX11_signal 67 = .ok (.ireturn, 1) := by decide +kernel
theorem dX11_signal_68 : decode cX11_signal 68 = .ok (.aload 4, 2) := by decide +kernel
theorem dX11_signal_70 : decode cX11_signal 70 = .ok (.getfield 291, 3) := by decide +kernel
theorem dX11_signal_73 : decode cX11_signal 73 = .ok (.iload_n 2, 1) := by decide +kernel
theorem dX11_signal_74 : decode cX11_signal 74 = .ok (.iaload, 1) := by decide +kernel
theorem dX11_signal_75 : decode cX11_signal 75 = .ok (.ireturn, 1) := by decide +kernel
theorem dX11_signal_76 : decode cX11_signal 76 = .ok (.aload 4, 2) := by decide +kernel
theorem dX11_signal_78 : decode cX11_signal 78 = .ok (.getfield 294, 3) := by decide +kernel
theorem dX11_signal_81 : decode cX11_signal 81 = .ok (.iload_n 2, 1) := by decide +kernel
theorem dX11_signal_82 : decode cX11_signal 82 = .ok (.iaload, 1) := by decide +kernel
theorem dX11_signal_83 : decode cX11_signal 83 = .ok (.ireturn, 1) := by decide +kernel
theorem dX11_signal_84 : decode cX11_signal 84 = .ok (.aload 4, 2) := by decide +kernel
theorem dX11_signal_86 : decode cX11_signal 86 = .ok (.getfield 280, 3) := by decide +kernel
theorem dX11_signal_89 : decode cX11_signal 89 = .ok (.ireturn, 1) := by decide +kernel
theorem dX11_signal_90 : decode cX11_signal 90 = .ok (.iconst (-1), 1) := by decide +kernel
theorem dX11_signal_91 : decode cX11_signal 91 = .ok (.ireturn, 1) := by decide +kernel
theorem dX11_decode_0 : decode cX11_decode 0 = .ok (.aload_n 0, 1) := by decide +kernel
theorem dX11_decode_1 : decode cX11_decode 1 = .ok (.iload_n 1, 1) := by decide +kernel
theorem dX11_decode_2 : decode cX11_decode 2 = .ok (.invokevirtual 281, 3) := by decide +kernel
theorem dX11_decode_5 : decode cX11_decode 5 = .ok (.astore_n 2, 1) := by decide +kernel
theorem dX11_decode_6 : decode cX11_decode 6 = .ok (.aload_n 2, 1) := by decide +kernel
theorem dX11_decode_7 : decode cX11_decode 7 = .ok (.ifnonnull 5, 3) := by decide +kernel
theorem dX11_decode_10 : decode cX11_decode 10 = .ok (.iconst (-1), 1) := by decide +kernel
theorem dX11_decode_11 : decode cX11_decode 11 = .ok (.ireturn, 1) := by decide +kernel
theorem dX11_decode_12 : decode cX11_decode 12 = .ok (.aload_n 0, 1) := by decide +kernel
theorem dX11_decode_13 : decode cX11_decode 13 = .ok (.iconst 0, 1) := by decide +kernel
theorem dX11_decode_14 : decode cX11_decode 14 = .ok (.putfield 62, 3) := by decide +kernel
theorem dX11_decode_17 : decode cX11_decode 17 = .ok (.iconst 0, 1) := by decide +kernel
theorem dX11_decode_18 : decode cX11_decode 18 = .ok (.istore_n 3, 1) := by decide +kernel
theorem dX11_decode_19 : decode cX11_decode 19 = .ok (.iload_n 3, 1) := by decide +kernel
theorem dX11_decode_20 : decode cX11_decode 20 = .ok (.aload_n 2, 1) := by decide +kernel
theorem dX11_decode_21 : decode cX11_decode 21 = .ok (.getfield 285, 3) := by decide +kernel
theorem dX11_decode_24 : decode cX11_decode 24 = .ok (.if_icmp .ge 54, 3) := by decide +kernel
theorem dX11_decode_27 : decode cX11_decode 27 = .ok (.iload_n 3, 1) := by decide +kernel
theorem dX11_decode_28 : decode cX11_decode 28 = .ok (.ifCond .le 9, 3) := by decide +kernel
theorem dX11_decode_31 : decode cX11_decode 31 = .ok (.aload_n 0, 1) := by decide +kernel
theorem dX11_decode_32 : decode cX11_decode 32 = .ok (.bipush 32, 2) := by decide +kernel
theorem dX11_decode_34 : decode cX11_decode 34 = .ok (.invokevirtual 66, 3) := by decide +kernel
theorem dX11_decode_37 : decode cX11_decode 37 = .ok (.aload_n 0, 1) := by decide +kernel
theorem dX11_decode_38 : decode cX11_decode 38 = .ok (.aload_n 0, 1) := by decide +kernel
theorem dX11_decode_39 : decode cX11_decode 39 = .ok (.aload_n 2, 1) := by decide +kernel
theorem dX11_decode_40 : decode cX11_decode 40 = .ok (.iload_n 3, 1) := by decide +kernel
theorem dX11_decode_41 : decode cX11_decode 41 = .ok (.invokevirtual 297, 3) := by decide +kernel
theorem dX11_decode_44 : decode cX11_decode 44 = .ok (.invokevirtual 301, 3) := by decide +kernel
theorem dX11_decode_47 : decode cX11_decode 47 = .ok (.aload_n 2, 1) := by decide +kernel
theorem dX11_decode_48 : decode cX11_decode 48 = .ok (.getfield 294, 3) := by decide +kernel
theorem dX11_decode_51 : decode cX11_decode 51 = .ok (.iload_n 3, 1) := by decide +kernel
theorem dX11_decode_52 : decode cX11_decode 52 = .ok (.iaload, 1) := by decide +kernel
theorem dX11_decode_53 : decode cX11_decode 53 = .ok (.ifCond .eq 19, 3) := by decide +kernel
theorem dX11_decode_56 : decode cX11_decode 56 = .ok (.aload_n 0, 1) := by decide +kernel
theorem dX11_decode_57 : decode cX11_decode 57 = .ok (.bipush 32, 2) := by decide +kernel
theorem dX11_decode_59 : decode cX11_decode 59 = .ok (.invokevirtual 66, 3) := by decide +kernel
theorem dX11_decode_62 : decode cX11_decode 62 = .ok (.aload_n 0, 1) := by decide +kernel
theorem dX11_decode_63 : decode cX11_decode 63 = .ok (.aload_n 2, 1) := by decide +kernel
theorem dX11_decode_64 : decode cX11_decode 64 = .ok (.getfield 294, 3) := by decide +kernel
theorem dX11_decode_67 : decode cX11_decode 67 = .ok (.iload_n 3, 1) := by decide +kernel
theorem dX11_decode_68 : decode cX11_decode 68 = .ok (.iaload, 1) := by decide +kernel
theorem dX11_decode_69 : decode cX11_decode 69 = .ok (.invokevirtual 305, 3) := by decide +kernel
theorem dX11_decode_72 : decode cX11_decode 72 = .ok (.iinc 3 1, 3) := by decide +kernel
theorem dX11_decode_75 : decode cX11_decode 75 = .ok (.goto (-56), 3) := by decide +kernel
theorem dX11_decode_78 : decode cX11_decode 78 = .ok (.aload_n 0, 1) := by decide +kernel
theorem dX11_decode_79 : decode cX11_decode 79 = .ok (.getfield 62, 3) := by decide +kernel
theorem dX11_decode_82 : decode cX11_decode 82 = .ok (.ireturn, 1) := by decide +kernel
theorem dX11_putByte_0 : decode cX11_putByte 0 = .ok (.aload_n 0, 1) := by decide +kernel
theorem dX11_putByte_1 : decode cX11_putByte 1 = .ok (.getfield 62, 3) := by decide +kernel
theorem dX11_putByte_4 : decode cX11_putByte 4 = .ok (.sipush 3000, 3) := by decide +kernel
theorem dX11_putByte_7 : decode cX11_putByte 7 = .ok (.if_icmp .ge 24, 3) := by decide +kernel
theorem dX11_putByte_10 : decode cX11_putByte 10 = .ok (.aload_n 0, 1) := by decide +kernel
theorem dX11_putByte_11 : decode cX11_putByte 11 = .ok (.getfield 9, 3) := by decide +kernel
theorem dX11_putByte_14 : decode cX11_putByte 14 = .ok (.aload_n 0, 1) := by decide +kernel
theorem dX11_putByte_15 : decode cX11_putByte 15 = .ok (.getfield 62, 3) := by decide +kernel
theorem dX11_putByte_18 : decode cX11_putByte 18 = .ok (.iload_n 1, 1) := by decide +kernel
theorem dX11_putByte_19 : decode cX11_putByte 19 = .ok (.i2b, 1) := by decide +kernel
theorem dX11_putByte_20 : decode cX11_putByte 20 = .ok (.bastore, 1) := by decide +kernel
theorem dX11_putByte_21 : decode cX11_putByte 21 = .ok (.aload_n 0, 1) := by decide +kernel
theorem dX11_putByte_22 : decode cX11_putByte 22 = .ok (.dup, 1) := by decide +kernel
theorem dX11_putByte_23 : decode cX11_putByte 23 = .ok (.getfield 62, 3) := by decide +kernel
theorem dX11_putByte_26 : decode cX11_putByte 26 = .ok (.iconst 1, 1) := by decide +kernel
theorem dX11_putByte_27 : decode cX11_putByte 27 = .ok (.iadd, 1) := by decide +kernel
theorem dX11_putByte_28 : decode cX11_putByte 28 = .ok (.putfield 62, 3) := by decide +kernel
theorem dX11_putByte_31 : decode cX11_putByte 31 = .ok (.return_, 1) := by decide +kernel
theorem dX11_putName_0 : decode cX11_putName 0 = .ok (.lload_n 1, 1) := by decide +kernel
theorem dX11_putName_1 : decode cX11_putName 1 = .ok (.invokestatic 308, 3) := by decide +kernel
theorem dX11_putName_4 : decode cX11_putName 4 = .ok (.istore_n 3, 1) := by decide +kernel
theorem dX11_putName_5 : decode cX11_putName 5 = .ok (.iconst 0, 1) := by decide +kernel
theorem dX11_putName_6 : decode cX11_putName 6 = .ok (.istore 4, 2) := by decide +kernel
theorem dX11_putName_8 : decode cX11_putName 8 = .ok (.iload 4, 2) := by decide +kernel
theorem dX11_putName_10 : decode cX11_putName 10 = .ok (.iload_n 3, 1) := by decide +kernel
theorem dX11_putName_11 : decode cX11_putName 11 = .ok (.if_icmp .ge 19, 3) := by decide +kernel
theorem dX11_putName_14 : decode cX11_putName 14 = .ok (.aload_n 0, 1) := by decide +kernel
theorem dX11_putName_15 : decode cX11_putName 15 = .ok (.lload_n 1, 1) := by decide +kernel
theorem dX11_putName_16 : decode cX11_putName 16 = .ok (.iload 4, 2) := by decide +kernel
theorem dX11_putName_18 : decode cX11_putName 18 = .ok (.invokestatic 312, 3) := by decide +kernel
theorem dX11_putName_21 : decode cX11_putName 21 = .ok (.invokevirtual 66, 3) := by decide +kernel
theorem dX11_putName_24 : decode cX11_putName 24 = .ok (.iinc 4 1, 3) := by decide +kernel
theorem dX11_putName_27 : decode cX11_putName 27 = .ok (.goto (-19), 3) := by decide +kernel
theorem dX11_putName_30 : decode cX11_putName 30 = .ok (.return_, 1) := by decide +kernel
theorem dX11_putNumber_0 : decode cX11_putNumber 0 = .ok (.iconst 1, 1) := by decide +kernel
theorem dX11_putNumber_1 : decode cX11_putNumber 1 = .ok (.istore_n 2, 1) := by decide +kernel
theorem dX11_putNumber_2 : decode cX11_putNumber 2 = .ok (.iconst 1, 1) := by decide +kernel
theorem dX11_putNumber_3 : decode cX11_putNumber 3 = .ok (.istore_n 3, 1) := by decide +kernel
theorem dX11_putNumber_4 : decode cX11_putNumber 4 = .ok (.iload_n 3, 1) := by decide +kernel
theorem dX11_putNumber_5 : decode cX11_putNumber 5 = .ok (.bipush 9, 2) := by decide +kernel
theorem dX11_putNumber_7 : decode cX11_putNumber 7 = .ok (.if_icmp .ge 22, 3) := by decide +kernel
theorem dX11_putNumber_10 : decode cX11_putNumber 10 = .ok (.iload_n 1, 1) := by decide +kernel
theorem dX11_putNumber_11 : decode cX11_putNumber 11 = .ok (.iload_n 2, 1) := by decide +kernel
theorem dX11_putNumber_12 : decode cX11_putNumber 12 = .ok (.idiv, 1) := by decide +kernel
theorem dX11_putNumber_13 : decode cX11_putNumber 13 = .ok (.bipush 10, 2) := by decide +kernel
theorem dX11_putNumber_15 : decode cX11_putNumber 15 = .ok (.if_icmp .lt 14, 3) := by decide +kernel
theorem dX11_putNumber_18 : decode cX11_putNumber 18 = .ok (.iload_n 2, 1) := by decide +kernel
theorem dX11_putNumber_19 : decode cX11_putNumber 19 = .ok (.bipush 10, 2) := by decide +kernel
theorem dX11_putNumber_21 : decode cX11_putNumber 21 = .ok (.imul, 1) := by decide +kernel
theorem dX11_putNumber_22 : decode cX11_putNumber 22 = .ok (.istore_n 2, 1) := by decide +kernel
theorem dX11_putNumber_23 : decode cX11_putNumber 23 = .ok (.iinc 3 1, 3) := by decide +kernel
theorem dX11_putNumber_26 : decode cX11_putNumber 26 = .ok (.goto (-22), 3) := by decide +kernel
theorem dX11_putNumber_29 : decode cX11_putNumber 29 = .ok (.iload_n 2, 1) := by decide +kernel
theorem dX11_putNumber_30 : decode cX11_putNumber 30 = .ok (.istore_n 3, 1) := by decide +kernel
theorem dX11_putNumber_31 : decode cX11_putNumber 31 = .ok (.iload_n 3, 1) := by decide +kernel
theorem dX11_putNumber_32 : decode cX11_putNumber 32 = .ok (.ifCond .le 24, 3) := by decide +kernel
theorem dX11_putNumber_35 : decode cX11_putNumber 35 = .ok (.aload_n 0, 1) := by decide +kernel
theorem dX11_putNumber_36 : decode cX11_putNumber 36 = .ok (.bipush 48, 2) := by decide +kernel
theorem dX11_putNumber_38 : decode cX11_putNumber 38 = .ok (.iload_n 1, 1) := by decide +kernel
theorem dX11_putNumber_39 : decode cX11_putNumber 39 = .ok (.iload_n 3, 1) := by decide +kernel
theorem dX11_putNumber_40 : decode cX11_putNumber 40 = .ok (.idiv, 1) := by decide +kernel
theorem dX11_putNumber_41 : decode cX11_putNumber 41 = .ok (.bipush 10, 2) := by decide +kernel
theorem dX11_putNumber_43 : decode cX11_putNumber 43 = .ok (.irem, 1) := by decide +kernel
theorem dX11_putNumber_44 : decode cX11_putNumber 44 = .ok (.iadd, 1) := by decide +kernel
theorem dX11_putNumber_45 : decode cX11_putNumber 45 = .ok (.invokevirtual 66, 3) := by decide +kernel
theorem dX11_putNumber_48 : decode cX11_putNumber 48 = .ok (.iload_n 3, 1) := by decide +kernel
theorem dX11_putNumber_49 : decode cX11_putNumber 49 = .ok (.bipush 10, 2) := by decide +kernel
theorem dX11_putNumber_51 : decode cX11_putNumber 51 = .ok (.idiv, 1) := by decide +kernel
theorem dX11_putNumber_52 : decode cX11_putNumber 52 = .ok (.istore_n 3, 1) := by decide +kernel
theorem dX11_putNumber_53 : decode cX11_putNumber 53 = .ok (.goto (-22), 3) := by decide +kernel
theorem dX11_putNumber_56 : decode cX11_putNumber 56 = .ok (.return_, 1) := by decide +kernel
theorem dX11_nameOf_0 : decode cX11_nameOf 0 = .ok (.aload_n 0, 1) := by decide +kernel
theorem dX11_nameOf_1 : decode cX11_nameOf 1 = .ok (.aload_n 1, 1) := by decide +kernel
theorem dX11_nameOf_2 : decode cX11_nameOf 2 = .ok (.getfield 280, 3) := by decide +kernel
theorem dX11_nameOf_5 : decode cX11_nameOf 5 = .ok (.aload_n 1, 1) := by decide +kernel
theorem dX11_nameOf_6 : decode cX11_nameOf 6 = .ok (.getfield 288, 3) := by decide +kernel
theorem dX11_nameOf_9 : decode cX11_nameOf 9 = .ok (.iload_n 2, 1) := by decide +kernel
theorem dX11_nameOf_10 : decode cX11_nameOf 10 = .ok (.iaload, 1) := by decide +kernel
theorem dX11_nameOf_11 : decode cX11_nameOf 11 = .ok (.invokevirtual 106, 3) := by decide +kernel
theorem dX11_nameOf_14 : decode cX11_nameOf 14 = .ok (.astore_n 3, 1) := by decide +kernel
theorem dX11_nameOf_15 : decode cX11_nameOf 15 = .ok (.aload_n 3, 1) := by decide +kernel
theorem dX11_nameOf_16 : decode cX11_nameOf 16 = .ok (.ifnonnull 7, 3) := by decide +kernel
theorem dX11_nameOf_19 : decode cX11_nameOf 19 = .ok (.aconst_null, 1) := by decide +kernel
theorem dX11_nameOf_20 : decode cX11_nameOf 20 = .ok (.goto 13, 3) := by decide +kernel
theorem dX11_nameOf_23 : decode cX11_nameOf 23 = .ok (.aload_n 3, 1) := by decide +kernel
theorem dX11_nameOf_24 : decode cX11_nameOf 24 = .ok (.aload_n 1, 1) := by decide +kernel
theorem dX11_nameOf_25 : decode cX11_nameOf 25 = .ok (.getfield 291, 3) := by decide +kernel
theorem dX11_nameOf_28 : decode cX11_nameOf 28 = .ok (.iload_n 2, 1) := by decide +kernel
theorem dX11_nameOf_29 : decode cX11_nameOf 29 = .ok (.iaload, 1) := by decide +kernel
theorem dX11_nameOf_30 : decode cX11_nameOf 30 = .ok (.invokevirtual 143, 3) := by decide +kernel
theorem dX11_nameOf_33 : decode cX11_nameOf 33 = .ok (.astore 4, 2) := by decide +kernel
theorem dX11_nameOf_35 : decode cX11_nameOf 35 = .ok (.aload 4, 2) := by decide +kernel
theorem dX11_nameOf_37 : decode cX11_nameOf 37 = .ok (.ifnonnull 7, 3) := by decide +kernel
theorem dX11_nameOf_40 : decode cX11_nameOf 40 = .ok (.lconst 0, 1) := by decide +kernel
theorem dX11_nameOf_41 : decode cX11_nameOf 41 = .ok (.goto 8, 3) := by decide +kernel
theorem dX11_nameOf_44 : decode cX11_nameOf 44 = .ok (.aload 4, 2) := by decide +kernel
theorem dX11_nameOf_46 : decode cX11_nameOf 46 = .ok (.getfield 147, 3) := by decide +kernel
theorem dX11_nameOf_49 : decode cX11_nameOf 49 = .ok (.lreturn, 1) := by decide +kernel
theorem dX11_letterOf_0 : decode cX11_letterOf 0 = .ok (.iload_n 2, 1) := by decide +kernel
theorem dX11_letterOf_1 : decode cX11_letterOf 1 = .ok (.ifCond .lt 11, 3) := by decide +kernel
theorem dX11_letterOf_4 : decode cX11_letterOf 4 = .ok (.iload_n 2, 1) := by decide +kernel
theorem dX11_letterOf_5 : decode cX11_letterOf 5 = .ok (.lload_n 0, 1) := by decide +kernel
theorem dX11_letterOf_6 : decode cX11_letterOf 6 = .ok (.invokestatic 308, 3) := by decide +kernel
theorem dX11_letterOf_9 : decode cX11_letterOf 9 = .ok (.if_icmp .lt 7, 3) := by decide +kernel
theorem dX11_letterOf_12 : decode cX11_letterOf 12 = .ok (.iconst (-1), 1) := by decide +kernel
theorem dX11_letterOf_13 : decode cX11_letterOf 13 = .ok (.goto 8, 3) := by decide +kernel
theorem dX11_letterOf_16 : decode cX11_letterOf 16 = .ok (.lload_n 0, 1) := by decide +kernel
theorem dX11_letterOf_17 : decode cX11_letterOf 17 = .ok (.iload_n 2, 1) := by decide +kernel
theorem dX11_letterOf_18 : decode cX11_letterOf 18 = .ok (.invokestatic 312, 3) := by decide +kernel
theorem dX11_letterOf_21 : decode cX11_letterOf 21 = .ok (.ireturn, 1) := by decide +kernel
theorem dX11_bookAt_0 : decode cX11_bookAt 0 = .ok (.iload_n 1, 1) := by decide +kernel
theorem dX11_bookAt_1 : decode cX11_bookAt 1 = .ok (.ifCond .lt 11, 3) := by decide +kernel
theorem dX11_bookAt_4 : decode cX11_bookAt 4 = .ok (.iload_n 1, 1) := by decide +kernel
theorem dX11_bookAt_5 : decode cX11_bookAt 5 = .ok (.aload_n 0, 1) := by decide +kernel
theorem dX11_bookAt_6 : decode cX11_bookAt 6 = .ok (.getfield 70, 3) := by decide +kernel
theorem dX11_bookAt_9 : decode cX11_bookAt 9 = .ok (.if_icmp .lt 7, 3) := by decide +kernel
theorem dX11_bookAt_12 : decode cX11_bookAt 12 = .ok (.aconst_null, 1) := by decide +kernel
theorem dX11_bookAt_13 : decode cX11_bookAt 13 = .ok (.goto 9, 3) := by decide +kernel
theorem dX11_bookAt_16 : decode cX11_bookAt 16 = .ok (.aload_n 0, 1) := by decide +kernel
theorem dX11_bookAt_17 : decode cX11_bookAt 17 = .ok (.getfield 38, 3) := by decide +kernel
theorem dX11_bookAt_20 : decode cX11_bookAt 20 = .ok (.iload_n 1, 1) := by decide +kernel
theorem dX11_bookAt_21 : decode cX11_bookAt 21 = .ok (.aaload, 1) := by decide +kernel
theorem dX11_bookAt_22 : decode cX11_bookAt 22 = .ok (.areturn, 1) := by decide +kernel
theorem dX11_enumOf_0 : decode cX11_enumOf 0 = .ok (.aload_n 0, 1) := by decide +kernel
theorem dX11_enumOf_1 : decode cX11_enumOf 1 = .ok (.iload_n 1, 1) := by decide +kernel
theorem dX11_enumOf_2 : decode cX11_enumOf 2 = .ok (.invokevirtual 90, 3) := by decide +kernel
theorem dX11_enumOf_5 : decode cX11_enumOf 5 = .ok (.astore_n 3, 1) := by decide +kernel
theorem dX11_enumOf_6 : decode cX11_enumOf 6 = .ok (.aload_n 3, 1) := by decide +kernel
theorem dX11_enumOf_7 : decode cX11_enumOf 7 = .ok (.ifnonnull 7, 3) := by decide +kernel
theorem dX11_enumOf_10 : decode cX11_enumOf 10 = .ok (.aconst_null, 1) := by decide +kernel
theorem dX11_enumOf_11 : decode cX11_enumOf 11 = .ok (.goto 8, 3) := by decide +kernel
theorem dX11_enumOf_14 : decode cX11_enumOf 14 = .ok (.aload_n 3, 1) := by decide +kernel
theorem dX11_enumOf_15 : decode cX11_enumOf 15 = .ok (.iload_n 2, 1) := by decide +kernel
theorem dX11_enumOf_16 : decode cX11_enumOf 16 = .ok (.invokevirtual 315, 3) := by decide +kernel
theorem dX11_enumOf_19 : decode cX11_enumOf 19 = .ok (.areturn, 1) := by decide +kernel
theorem dX11_hasAct_0 : decode cX11_hasAct 0 = .ok (.aload_n 0, 1) := by decide +kernel
theorem dX11_hasAct_1 : decode cX11_hasAct 1 = .ok (.iload_n 1, 1) := by decide +kernel
theorem dX11_hasAct_2 : decode cX11_hasAct 2 = .ok (.invokevirtual 90, 3) := by decide +kernel
theorem dX11_hasAct_5 : decode cX11_hasAct 5 = .ok (.astore_n 3, 1) := by decide +kernel
theorem dX11_hasAct_6 : decode cX11_hasAct 6 = .ok (.aload_n 3, 1) := by decide +kernel
theorem dX11_hasAct_7 : decode cX11_hasAct 7 = .ok (.ifnull 19, 3) := by decide +kernel
theorem dX11_hasAct_10 : decode cX11_hasAct 10 = .ok (.iload_n 2, 1) := by decide +kernel
theorem dX11_hasAct_11 : decode cX11_hasAct 11 = .ok (.ifCond .lt 15, 3) := by decide +kernel
theorem dX11_hasAct_14 : decode cX11_hasAct 14 = .ok (.iload_n 2, 1) := by decide +kernel
theorem dX11_hasAct_15 : decode cX11_hasAct 15 = .ok (.aload_n 3, 1) := by decide +kernel
theorem dX11_hasAct_16 : decode cX11_hasAct 16 = .ok (.getfield 97, 3) := by decide +kernel
theorem dX11_hasAct_19 : decode cX11_hasAct 19 = .ok (.if_icmp .ge 7, 3) := by decide +kernel
theorem dX11_hasAct_22 : decode cX11_hasAct 22 = .ok (.iconst 1, 1) := by decide +kernel
theorem dX11_hasAct_23 : decode cX11_hasAct 23 = .ok (.goto 4, 3) := by decide +kernel
theorem dX11_hasAct_26 : decode cX11_hasAct 26 = .ok (.iconst 0, 1) := by decide +kernel
theorem dX11_hasAct_27 : decode cX11_hasAct 27 = .ok (.ireturn, 1) := by decide +kernel
theorem dX11_setAt_0 : decode cX11_setAt 0 = .ok (.iload_n 1, 1) := by decide +kernel
theorem dX11_setAt_1 : decode cX11_setAt 1 = .ok (.ifCond .lt 11, 3) := by decide +kernel
theorem dX11_setAt_4 : decode cX11_setAt 4 = .ok (.iload_n 1, 1) := by decide +kernel
theorem dX11_setAt_5 : decode cX11_setAt 5 = .ok (.aload_n 0, 1) := by decide +kernel
theorem dX11_setAt_6 : decode cX11_setAt 6 = .ok (.getfield 213, 3) := by decide +kernel
theorem dX11_setAt_9 : decode cX11_setAt 9 = .ok (.if_icmp .lt 7, 3) := by decide +kernel
theorem dX11_setAt_12 : decode cX11_setAt 12 = .ok (.aconst_null, 1) := by decide +kernel
theorem dX11_setAt_13 : decode cX11_setAt 13 = .ok (.goto 9, 3) := by decide +kernel
theorem dX11_setAt_16 : decode cX11_setAt 16 = .ok (.aload_n 0, 1) := by decide +kernel
theorem dX11_setAt_17 : decode cX11_setAt 17 = .ok (.getfield 44, 3) := by decide +kernel
theorem dX11_setAt_20 : decode cX11_setAt 20 = .ok (.iload_n 1, 1) := by decide +kernel
theorem dX11_setAt_21 : decode cX11_setAt 21 = .ok (.aaload, 1) := by decide +kernel
theorem dX11_setAt_22 : decode cX11_setAt 22 = .ok (.areturn, 1) := by decide +kernel
theorem dX11_mapAt_0 : decode cX11_mapAt 0 = .ok (.iload_n 1, 1) := by decide +kernel
theorem dX11_mapAt_1 : decode cX11_mapAt 1 = .ok (.ifCond .lt 11, 3) := by decide +kernel
theorem dX11_mapAt_4 : decode cX11_mapAt 4 = .ok (.iload_n 1, 1) := by decide +kernel
theorem dX11_mapAt_5 : decode cX11_mapAt 5 = .ok (.aload_n 0, 1) := by decide +kernel
theorem dX11_mapAt_6 : decode cX11_mapAt 6 = .ok (.getfield 258, 3) := by decide +kernel
theorem dX11_mapAt_9 : decode cX11_mapAt 9 = .ok (.if_icmp .lt 7, 3) := by decide +kernel
theorem dX11_mapAt_12 : decode cX11_mapAt 12 = .ok (.aconst_null, 1) := by decide +kernel
theorem dX11_mapAt_13 : decode cX11_mapAt 13 = .ok (.goto 9, 3) := by decide +kernel
theorem dX11_mapAt_16 : decode cX11_mapAt 16 = .ok (.aload_n 0, 1) := by decide +kernel
theorem dX11_mapAt_17 : decode cX11_mapAt 17 = .ok (.getfield 48, 3) := by decide +kernel
theorem dX11_mapAt_20 : decode cX11_mapAt 20 = .ok (.iload_n 1, 1) := by decide +kernel
theorem dX11_mapAt_21 : decode cX11_mapAt 21 = .ok (.aaload, 1) := by decide +kernel
theorem dX11_mapAt_22 : decode cX11_mapAt 22 = .ok (.areturn, 1) := by decide +kernel
theorem dX11_messageAt_0 : decode cX11_messageAt 0 = .ok (.iload_n 1, 1) := by decide +kernel
theorem dX11_messageAt_1 : decode cX11_messageAt 1 = .ok (.ifCond .lt 11, 3) := by decide +kernel
theorem dX11_messageAt_4 : decode cX11_messageAt 4 = .ok (.iload_n 1, 1) := by decide +kernel
theorem dX11_messageAt_5 : decode cX11_messageAt 5 = .ok (.aload_n 0, 1) := by decide +kernel
theorem dX11_messageAt_6 : decode cX11_messageAt 6 = .ok (.getfield 270, 3) := by decide +kernel
theorem dX11_messageAt_9 : decode cX11_messageAt 9 = .ok (.if_icmp .lt 7, 3) := by decide +kernel
theorem dX11_messageAt_12 : decode cX11_messageAt 12 = .ok (.aconst_null, 1) := by decide +kernel
theorem dX11_messageAt_13 : decode cX11_messageAt 13 = .ok (.goto 9, 3) := by decide +kernel
theorem dX11_messageAt_16 : decode cX11_messageAt 16 = .ok (.aload_n 0, 1) := by decide +kernel
theorem dX11_messageAt_17 : decode cX11_messageAt 17 = .ok (.getfield 53, 3) := by decide +kernel
theorem dX11_messageAt_20 : decode cX11_messageAt 20 = .ok (.iload_n 1, 1) := by decide +kernel
theorem dX11_messageAt_21 : decode cX11_messageAt 21 = .ok (.aaload, 1) := by decide +kernel
theorem dX11_messageAt_22 : decode cX11_messageAt 22 = .ok (.areturn, 1) := by decide +kernel
theorem dX11_isConstant_0 : decode cX11_isConstant 0 = .ok (.aload_n 0, 1) := by decide +kernel
theorem dX11_isConstant_1 : decode cX11_isConstant 1 = .ok (.aload_n 1, 1) := by decide +kernel
theorem dX11_isConstant_2 : decode cX11_isConstant 2 = .ok (.getfield 237, 3) := by decide +kernel
theorem dX11_isConstant_5 : decode cX11_isConstant 5 = .ok (.aload_n 1, 1) := by decide +kernel
theorem dX11_isConstant_6 : decode cX11_isConstant 6 = .ok (.getfield 240, 3) := by decide +kernel
theorem dX11_isConstant_9 : decode cX11_isConstant 9 = .ok (.invokevirtual 106, 3) := by decide +kernel
theorem dX11_isConstant_12 : decode cX11_isConstant 12 = .ok (.astore_n 3, 1) := by decide +kernel
theorem dX11_isConstant_13 : decode cX11_isConstant 13 = .ok (.aload_n 3, 1) := by decide +kernel
theorem dX11_isConstant_14 : decode cX11_isConstant 14 = .ok (.ifnull 15, 3) := by decide +kernel
theorem dX11_isConstant_17 : decode cX11_isConstant 17 = .ok (.aload_n 3, 1) := by decide +kernel
theorem dX11_isConstant_18 : decode cX11_isConstant 18 = .ok (.iload_n 2, 1) := by decide +kernel
theorem dX11_isConstant_19 : decode cX11_isConstant 19 = .ok (.invokevirtual 143, 3) := by decide +kernel
theorem dX11_isConstant_22 : decode cX11_isConstant 22 = .ok (.ifnull 7, 3) := by decide +kernel
theorem dX11_isConstant_25 : decode cX11_isConstant 25 = .ok (.iconst 1, 1) := by decide +kernel
theorem dX11_isConstant_26 : decode cX11_isConstant 26 = .ok (.goto 4, 3) := by decide +kernel
theorem dX11_isConstant_29 : decode cX11_isConstant 29 = .ok (.iconst 0, 1) := by decide +kernel
theorem dX11_isConstant_30 : decode cX11_isConstant 30 = .ok (.ireturn, 1) := by decide +kernel
theorem dX11_keepSet_0 : decode cX11_keepSet 0 = .ok (.aload_n 0, 1) := by decide +kernel
theorem dX11_keepSet_1 : decode cX11_keepSet 1 = .ok (.getfield 44, 3) := by decide +kernel
theorem dX11_keepSet_4 : decode cX11_keepSet 4 = .ok (.aload_n 0, 1) := by decide +kernel
theorem dX11_keepSet_5 : decode cX11_keepSet 5 = .ok (.getfield 213, 3) := by decide +kernel
theorem dX11_keepSet_8 : decode cX11_keepSet 8 = .ok (.aload_n 1, 1) := by decide +kernel
theorem dX11_keepSet_9 : decode cX11_keepSet 9 = .ok (.aastore, 1) := by decide +kernel
theorem dX11_keepSet_10 : decode cX11_keepSet 10 = .ok (.aload_n 0, 1) := by decide +kernel
theorem dX11_keepSet_11 : decode cX11_keepSet 11 = .ok (.dup, 1) := by decide +kernel
theorem dX11_keepSet_12 : decode cX11_keepSet 12 = .ok (.getfield 213, 3) := by decide +kernel
theorem dX11_keepSet_15 : decode cX11_keepSet 15 = .ok (.iconst 1, 1) := by decide +kernel
theorem dX11_keepSet_16 : decode cX11_keepSet 16 = .ok (.iadd, 1) := by decide +kernel
theorem dX11_keepSet_17 : decode cX11_keepSet 17 = .ok (.putfield 213, 3) := by decide +kernel
theorem dX11_keepSet_20 : decode cX11_keepSet 20 = .ok (.aload_n 0, 1) := by decide +kernel
theorem dX11_keepSet_21 : decode cX11_keepSet 21 = .ok (.getfield 213, 3) := by decide +kernel
theorem dX11_keepSet_24 : decode cX11_keepSet 24 = .ok (.iconst 1, 1) := by decide +kernel
theorem dX11_keepSet_25 : decode cX11_keepSet 25 = .ok (.isub, 1) := by decide +kernel
theorem dX11_keepSet_26 : decode cX11_keepSet 26 = .ok (.ireturn, 1) := by decide +kernel
theorem dX11_joined_0 : decode cX11_joined 0 = .ok (.iload_n 2, 1) := by decide +kernel
theorem dX11_joined_1 : decode cX11_joined 1 = .ok (.tableswitch 41 0 2 #[27, 31, 35], 27) := by decide +kernel
theorem dX11_joined_28 : decode cX11_joined 28 = .ok (.iload_n 0, 1) := by decide +kernel
theorem dX11_joined_29 : decode cX11_joined 29 = .ok (.iload_n 1, 1) := by decide +kernel
theorem dX11_joined_30 : decode cX11_joined 30 = .ok (.ior, 1) := by decide +kernel
theorem dX11_joined_31 : decode cX11_joined 31 = .ok (.ireturn, 1) := by decide +kernel
theorem dX11_joined_32 : decode cX11_joined 32 = .ok (.iload_n 0, 1) := by decide +kernel
theorem dX11_joined_33 : decode cX11_joined 33 = .ok (.iload_n 1, 1) := by decide +kernel
theorem dX11_joined_34 : decode cX11_joined 34 = .ok (.iand, 1) := by decide +kernel
theorem dX11_joined_35 : decode cX11_joined 35 = .ok (.ireturn, 1) := by decide +kernel
theorem dX11_joined_36 : decode cX11_joined 36 = .ok (.iload_n 0, 1) := by decide +kernel
theorem dX11_joined_37 : decode cX11_joined 37 = .ok (.iload_n 1, 1) := by decide +kernel
theorem dX11_joined_38 : decode cX11_joined 38 = .ok (.iconst (-1), 1) := by decide +kernel
theorem dX11_joined_39 : decode cX11_joined 39 = .ok (.ixor, 1) := by decide +kernel
theorem dX11_joined_40 : decode cX11_joined 40 = .ok (.iand, 1) := by decide +kernel
theorem dX11_joined_41 : decode cX11_joined 41 = .ok (.ireturn, 1) := by decide +kernel
theorem dX11_joined_42 : decode cX11_joined 42 = .ok (.iload_n 0, 1) := by decide +kernel
theorem dX11_joined_43 : decode cX11_joined 43 = .ok (.iload_n 1, 1) := by decide +kernel
theorem dX11_joined_44 : decode cX11_joined 44 = .ok (.ixor, 1) := by decide +kernel
theorem dX11_joined_45 : decode cX11_joined 45 = .ok (.ireturn, 1) := by decide +kernel
theorem dX11_usedWell_0 : decode cX11_usedWell 0 = .ok (.aload_n 0, 1) := by decide +kernel
theorem dX11_usedWell_1 : decode cX11_usedWell 1 = .ok (.iload_n 1, 1) := by decide +kernel
theorem dX11_usedWell_2 : decode cX11_usedWell 2 = .ok (.invokevirtual 90, 3) := by decide +kernel
theorem dX11_usedWell_5 : decode cX11_usedWell 5 = .ok (.astore_n 3, 1) := by decide +kernel
theorem dX11_usedWell_6 : decode cX11_usedWell 6 = .ok (.aload_n 3, 1) := by decide +kernel
theorem dX11_usedWell_7 : decode cX11_usedWell 7 = .ok (.ifnull 19, 3) := by decide +kernel
theorem dX11_usedWell_10 : decode cX11_usedWell 10 = .ok (.aload_n 0, 1) := by decide +kernel
theorem dX11_usedWell_11 : decode cX11_usedWell 11 = .ok (.getfield 32, 3) := by decide +kernel
theorem dX11_usedWell_14 : decode cX11_usedWell 14 = .ok (.aload_n 3, 1) := by decide +kernel
theorem dX11_usedWell_15 : decode cX11_usedWell 15 = .ok (.iload_n 2, 1) := by decide +kernel
theorem dX11_usedWell_16 : decode cX11_usedWell 16 = .ok (.invokevirtual 319, 3) := by decide +kernel
theorem dX11_usedWell_19 : decode cX11_usedWell 19 = .ok (.ifCond .eq 7, 3) := by decide +kernel
theorem dX11_usedWell_22 : decode cX11_usedWell 22 = .ok (.iconst 1, 1) := by decide +kernel
theorem dX11_usedWell_23 : decode cX11_usedWell 23 = .ok (.goto 4, 3) := by decide +kernel
theorem dX11_usedWell_26 : decode cX11_usedWell 26 = .ok (.iconst 0, 1) := by decide +kernel
theorem dX11_usedWell_27 : decode cX11_usedWell 27 = .ok (.ireturn, 1) := by decide +kernel
theorem dX11_giveOut_0 : decode cX11_giveOut 0 = .ok (.aload_n 0, 1) := by decide +kernel
theorem dX11_giveOut_1 : decode cX11_giveOut 1 = .ok (.getfield 32, 3) := by decide +kernel
theorem dX11_giveOut_4 : decode cX11_giveOut 4 = .ok (.getfield 323, 3) := by decide +kernel
theorem dX11_giveOut_7 : decode cX11_giveOut 7 = .ok (.ifCond .eq 6, 3) := by decide +kernel
theorem dX11_giveOut_10 : decode cX11_giveOut 10 = .ok (.bipush (-3), 2) := by decide +kernel
theorem dX11_giveOut_12 : decode cX11_giveOut 12 = .ok (.ireturn, 1) := by decide +kernel
theorem dX11_giveOut_13 : decode cX11_giveOut 13 = .ok (.aload_n 0, 1) := by decide +kernel
theorem dX11_giveOut_14 : decode cX11_giveOut 14 = .ok (.iload_n 1, 1) := by decide +kernel
theorem dX11_giveOut_15 : decode cX11_giveOut 15 = .ok (.putfield 165, 3) := by decide +kernel
theorem dX11_giveOut_18 : decode cX11_giveOut 18 = .ok (.iconst 0, 1) := by decide +kernel
theorem dX11_giveOut_19 : decode cX11_giveOut 19 = .ok (.ireturn, 1) := by decide +kernel
theorem dX12_init_0 : decode cX12_init 0 = .ok (.aload_n 0, 1) := by decide +kernel
theorem dX12_init_1 : decode cX12_init 1 = .ok (.invokespecial 1, 3) := by decide +kernel
theorem dX12_init_4 : decode cX12_init 4 = .ok (.aload_n 0, 1) := by decide +kernel
theorem dX12_init_5 : decode cX12_init 5 = .ok (.sipush 3000, 3) := by decide +kernel
theorem dX12_init_8 : decode cX12_init 8 = .ok (.newarray .byte, 2) := by decide +kernel
theorem dX12_init_10 : decode cX12_init 10 = .ok (.putfield 7, 3) := by decide +kernel
theorem dX12_init_13 : decode cX12_init 13 = .ok (.aload_n 0, 1) := by decide +kernel
theorem dX12_init_14 : decode cX12_init 14 = .ok (.sipush 30000, 3) := by decide +kernel
theorem dX12_init_17 : decode cX12_init 17 = .ok (.newarray .byte, 2) := by decide +kernel
theorem dX12_init_19 : decode cX12_init 19 = .ok (.putfield 13, 3) := by decide +kernel
theorem dX12_init_22 : decode cX12_init 22 = .ok (.aload_n 0, 1) := by decide +kernel
theorem dX12_init_23 : decode cX12_init 23 = .ok (.bipush 10, 2) := by decide +kernel
theorem dX12_init_25 : decode cX12_init 25 = .ok (.newarray .int, 2) := by decide +kernel
theorem dX12_init_27 : decode cX12_init 27 = .ok (.putfield 16, 3) := by decide +kernel
theorem dX12_init_30 : decode cX12_init 30 = .ok (.aload_n 0, 1) := by decide +kernel
theorem dX12_init_31 : decode cX12_init 31 = .ok (.bipush 10, 2) := by decide +kernel
theorem dX12_init_33 : decode cX12_init 33 = .ok (.newarray .int, 2) := by decide +kernel
theorem dX12_init_35 : decode cX12_init 35 = .ok (.putfield 20, 3) := by decide +kernel
theorem dX12_init_38 : decode cX12_init 38 = .ok (.aload_n 0, 1) := by decide +kernel
theorem dX12_init_39 : decode cX12_init 39 = .ok (.bipush 40, 2) := by decide +kernel
theorem dX12_init_41 : decode cX12_init 41 = .ok (.newarray .int, 2) := by decide +kernel
theorem dX12_init_43 : decode cX12_init 43 = .ok (.putfield 23, 3) := by decide +kernel
theorem dX12_init_46 : decode cX12_init 46 = .ok (.aload_n 0, 1) := by decide +kernel
theorem dX12_init_47 : decode cX12_init 47 = .ok (.bipush 120, 2) := by decide +kernel
theorem dX12_init_49 : decode cX12_init 49 = .ok (.newarray .int, 2) := by decide +kernel
theorem dX12_init_51 : decode cX12_init 51 = .ok (.putfield 26, 3) := by decide +kernel
theorem dX12_init_54 : decode cX12_init 54 = .ok (.aload_n 0, 1) := by decide +kernel
theorem dX12_init_55 : decode cX12_init 55 = .ok (.bipush 120, 2) := by decide +kernel
theorem dX12_init_57 : decode cX12_init 57 = .ok (.newarray .int, 2) := by decide +kernel
theorem dX12_init_59 : decode cX12_init 59 = .ok (.putfield 29, 3) := by decide +kernel
theorem dX12_init_62 : decode cX12_init 62 = .ok (.aload_n 0, 1) := by decide +kernel
theorem dX12_init_63 : decode cX12_init 63 = .ok (.bipush 120, 2) := by decide +kernel
theorem dX12_init_65 : decode cX12_init 65 = .ok (.newarray .int, 2) := by decide +kernel
theorem dX12_init_67 : decode cX12_init 67 = .ok (.putfield 32, 3) := by decide +kernel
theorem dX12_init_70 : decode cX12_init 70 = .ok (.aload_n 0, 1) := by decide +kernel
theorem dX12_init_71 : decode cX12_init 71 = .ok (.bipush 120, 2) := by decide +kernel
theorem dX12_init_73 : decode cX12_init 73 = .ok (.newarray .int, 2) := by decide +kernel
theorem dX12_init_75 : decode cX12_init 75 = .ok (.putfield 35, 3) := by decide +kernel
theorem dX12_init_78 : decode cX12_init 78 = .ok (.aload_n 0, 1) := by decide +kernel
theorem dX12_init_79 : decode cX12_init 79 = .ok (.bipush 120, 2) := by decide +kernel
theorem dX12_init_81 : decode cX12_init 81 = .ok (.newarray .int, 2) := by decide +kernel
theorem dX12_init_83 : decode cX12_init 83 = .ok (.putfield 38, 3) := by decide +kernel
theorem dX12_init_86 : decode cX12_init 86 = .ok (.aload_n 0, 1) := by decide +kernel
theorem dX12_init_87 : decode cX12_init 87 = .ok (.bipush 120, 2) := by decide +kernel
theorem dX12_init_89 : decode cX12_init 89 = .ok (.newarray .int, 2) := by decide +kernel
theorem dX12_init_91 : decode cX12_init 91 = .ok (.putfield 41, 3) := by decide +kernel
theorem dX12_init_94 : decode cX12_init 94 = .ok (.aload_n 0, 1) := by decide +kernel
theorem dX12_init_95 : decode cX12_init 95 = .ok (.sipush 480, 3) := by decide +kernel
theorem dX12_init_98 : decode cX12_init 98 = .ok (.newarray .int, 2) := by decide +kernel
theorem dX12_init_100 : decode cX12_init 100 = .ok (.putfield 44, 3) := by decide +kernel
theorem dX12_init_103 : decode cX12_init 103 = .ok (.aload_n 0, 1) := by decide +kernel
theorem dX12_init_104 : decode cX12_init 104 = .ok (.sipush 2880, 3) := by decide +kernel
theorem dX12_init_107 : decode cX12_init 107 = .ok (.newarray .int, 2) := by decide +kernel
theorem dX12_init_109 : decode cX12_init 109 = .ok (.putfield 47, 3) := by decide +kernel
theorem dX12_init_112 : decode cX12_init 112 = .ok (.aload_n 0, 1) := by decide +kernel
theorem dX12_init_113 : decode cX12_init 113 = .ok (.sipush 2880, 3) := by decide +kernel
theorem dX12_init_116 : decode cX12_init 116 = .ok (.newarray .int, 2) := by decide +kernel
theorem dX12_init_118 : decode cX12_init 118 = .ok (.putfield 50, 3) := by decide +kernel
theorem dX12_init_121 : decode cX12_init 121 = .ok (.aload_n 0, 1) := by decide +kernel
theorem dX12_init_122 : decode cX12_init 122 = .ok (.sipush 11520, 3) := by decide +kernel
theorem dX12_init_125 : decode cX12_init 125 = .ok (.newarray .int, 2) := by decide +kernel
theorem dX12_init_127 : decode cX12_init 127 = .ok (.putfield 53, 3) := by decide +kernel
theorem dX12_init_130 : decode cX12_init 130 = .ok (.aload_n 0, 1) := by decide +kernel
theorem dX12_init_131 : decode cX12_init 131 = .ok (.sipush 480, 3) := by decide +kernel
theorem dX12_init_134 : decode cX12_init 134 = .ok (.newarray .int, 2) := by decide +kernel
theorem dX12_init_136 : decode cX12_init 136 = .ok (.putfield 56, 3) := by decide +kernel
theorem dX12_init_139 : decode cX12_init 139 = .ok (.aload_n 0, 1) := by decide +kernel
theorem dX12_init_140 : decode cX12_init 140 = .ok (.sipush 480, 3) := by decide +kernel
theorem dX12_init_143 : decode cX12_init 143 = .ok (.newarray .int, 2) := by decide +kernel
theorem dX12_init_145 : decode cX12_init 145 = .ok (.putfield 59, 3) := by decide +kernel
theorem dX12_init_148 : decode cX12_init 148 = .ok (.aload_n 0, 1) := by decide +kernel
theorem dX12_init_149 : decode cX12_init 149 = .ok (.sipush 5760, 3) := by decide +kernel
theorem dX12_init_152 : decode cX12_init 152 = .ok (.newarray .int, 2) := by decide +kernel
theorem dX12_init_154 : decode cX12_init 154 = .ok (.putfield 62, 3) := by decide +kernel
theorem dX12_init_157 : decode cX12_init 157 = .ok (.aload_n 0, 1) := by decide +kernel
theorem dX12_init_158 : decode cX12_init 158 = .ok (.sipush 360, 3) := by decide +kernel
theorem dX12_init_161 : decode cX12_init 161 = .ok (.newarray .int, 2) := by decide +kernel
theorem dX12_init_163 : decode cX12_init 163 = .ok (.putfield 65, 3) := by decide +kernel
theorem dX12_init_166 : decode cX12_init 166 = .ok (.aload_n 0, 1) := by decide +kernel
theorem dX12_init_167 : decode cX12_init 167 = .ok (.sipush 480, 3) := by decide +kernel
theorem dX12_init_170 : decode cX12_init 170 = .ok (.newarray .int, 2) := by decide +kernel
theorem dX12_init_172 : decode cX12_init 172 = .ok (.putfield 68, 3) := by decide +kernel
theorem dX12_init_175 : decode cX12_init 175 = .ok (.aload_n 0, 1) := by decide +kernel
theorem dX12_init_176 : decode cX12_init 176 = .ok (.sipush 480, 3) := by decide +kernel
theorem dX12_init_179 : decode cX12_init 179 = .ok (.newarray .int, 2) := by decide +kernel
theorem dX12_init_181 : decode cX12_init 181 = .ok (.putfield 71, 3) := by decide +kernel
theorem dX12_init_184 : decode cX12_init 184 = .ok (.aload_n 0, 1) := by decide +kernel
theorem dX12_init_185 : decode cX12_init 185 = .ok (.sipush 360, 3) := by decide +kernel
theorem dX12_init_188 : decode cX12_init 188 = .ok (.newarray .int, 2) := by decide +kernel
theorem dX12_init_190 : decode cX12_init 190 = .ok (.putfield 74, 3) := by decide +kernel
theorem dX12_init_193 : decode cX12_init 193 = .ok (.aload_n 0, 1) := by decide +kernel
theorem dX12_init_194 : decode cX12_init 194 = .ok (.sipush 360, 3) := by decide +kernel
theorem dX12_init_197 : decode cX12_init 197 = .ok (.newarray .int, 2) := by decide +kernel
theorem dX12_init_199 : decode cX12_init 199 = .ok (.putfield 77, 3) := by decide +kernel
theorem dX12_init_202 : decode cX12_init 202 = .ok (.aload_n 0, 1) := by decide +kernel
theorem dX12_init_203 : decode cX12_init 203 = .ok (.sipush 4320, 3) := by decide +kernel
theorem dX12_init_206 : decode cX12_init 206 = .ok (.newarray .int, 2) := by decide +kernel
theorem dX12_init_208 : decode cX12_init 208 = .ok (.putfield 80, 3) := by decide +kernel
theorem dX12_init_211 : decode cX12_init 211 = .ok (.aload_n 0, 1) := by decide +kernel
theorem dX12_init_212 : decode cX12_init 212 = .ok (.sipush 4320, 3) := by decide +kernel
theorem dX12_init_215 : decode cX12_init 215 = .ok (.newarray .int, 2) := by decide +kernel
theorem dX12_init_217 : decode cX12_init 217 = .ok (.putfield 83, 3) := by decide +kernel
theorem dX12_init_220 : decode cX12_init 220 = .ok (.aload_n 0, 1) := by decide +kernel
theorem dX12_init_221 : decode cX12_init 221 = .ok (.sipush 4320, 3) := by decide +kernel
theorem dX12_init_224 : decode cX12_init 224 = .ok (.newarray .int, 2) := by decide +kernel
theorem dX12_init_226 : decode cX12_init 226 = .ok (.putfield 86, 3) := by decide +kernel
theorem dX12_init_229 : decode cX12_init 229 = .ok (.aload_n 0, 1) := by decide +kernel
theorem dX12_init_230 : decode cX12_init 230 = .ok (.sipush 360, 3) := by decide +kernel
theorem dX12_init_233 : decode cX12_init 233 = .ok (.newarray .int, 2) := by decide +kernel
theorem dX12_init_235 : decode cX12_init 235 = .ok (.putfield 89, 3) := by decide +kernel
theorem dX12_init_238 : decode cX12_init 238 = .ok (.aload_n 0, 1) := by decide +kernel
theorem dX12_init_239 : decode cX12_init 239 = .ok (.sipush 31000, 3) := by decide +kernel
theorem dX12_init_242 : decode cX12_init 242 = .ok (.newarray .int, 2) := by decide +kernel
theorem dX12_init_244 : decode cX12_init 244 = .ok (.putfield 92, 3) := by decide +kernel
theorem dX12_init_247 : decode cX12_init 247 = .ok (.aload_n 0, 1) := by decide +kernel
theorem dX12_init_248 : decode cX12_init 248 = .ok (.sipush 31000, 3) := by decide +kernel
theorem dX12_init_251 : decode cX12_init 251 = .ok (.newarray .int, 2) := by decide +kernel
theorem dX12_init_253 : decode cX12_init 253 = .ok (.putfield 95, 3) := by decide +kernel
theorem dX12_init_256 : decode cX12_init 256 = .ok (.aload_n 0, 1) := by decide +kernel
theorem dX12_init_257 : decode cX12_init 257 = .ok (.sipush 31000, 3) := by decide +kernel
theorem dX12_init_260 : decode cX12_init 260 = .ok (.newarray .int, 2) := by decide +kernel
theorem dX12_init_262 : decode cX12_init 262 = .ok (.putfield 98, 3) := by decide +kernel
theorem dX12_init_265 : decode cX12_init 265 = .ok (.aload_n 0, 1) := by decide +kernel
theorem dX12_init_266 : decode cX12_init 266 = .ok (.sipush 31000, 3) := by decide +kernel
theorem dX12_init_269 : decode cX12_init 269 = .ok (.newarray .int, 2) := by decide +kernel
theorem dX12_init_271 : decode cX12_init 271 = .ok (.putfield 101, 3) := by decide +kernel
theorem dX12_init_274 : decode cX12_init 274 = .ok (.aload_n 0, 1) := by decide +kernel
theorem dX12_init_275 : decode cX12_init 275 = .ok (.sipush 31000, 3) := by decide +kernel
theorem dX12_init_278 : decode cX12_init 278 = .ok (.newarray .int, 2) := by decide +kernel
theorem dX12_init_280 : decode cX12_init 280 = .ok (.putfield 104, 3) := by decide +kernel
theorem dX12_init_283 : decode cX12_init 283 = .ok (.aload_n 0, 1) := by decide +kernel
theorem dX12_init_284 : decode cX12_init 284 = .ok (.sipush 3100, 3) := by decide +kernel
theorem dX12_init_287 : decode cX12_init 287 = .ok (.newarray .int, 2) := by decide +kernel
theorem dX12_init_289 : decode cX12_init 289 = .ok (.putfield 107, 3) := by decide +kernel
theorem dX12_init_292 : decode cX12_init 292 = .ok (.aload_n 0, 1) := by decide +kernel
theorem dX12_init_293 : decode cX12_init 293 = .ok (.sipush 3100, 3) := by decide +kernel
theorem dX12_init_296 : decode cX12_init 296 = .ok (.newarray .int, 2) := by decide +kernel
theorem dX12_init_298 : decode cX12_init 298 = .ok (.putfield 110, 3) := by decide +kernel
theorem dX12_init_301 : decode cX12_init 301 = .ok (.aload_n 0, 1) := by decide +kernel
theorem dX12_init_302 : decode cX12_init 302 = .ok (.sipush 3100, 3) := by decide +kernel
theorem dX12_init_305 : decode cX12_init 305 = .ok (.newarray .int, 2) := by decide +kernel
theorem dX12_init_307 : decode cX12_init 307 = .ok (.putfield 113, 3) := by decide +kernel
theorem dX12_init_310 : decode cX12_init 310 = .ok (.aload_n 0, 1) := by decide +kernel
theorem dX12_init_311 : decode cX12_init 311 = .ok (.sipush 1600, 3) := by decide +kernel
theorem dX12_init_314 : decode cX12_init 314 = .ok (.newarray .int, 2) := by decide +kernel
theorem dX12_init_316 : decode cX12_init 316 = .ok (.putfield 116, 3) := by decide +kernel
theorem dX12_init_319 : decode cX12_init 319 = .ok (.aload_n 0, 1) := by decide +kernel
theorem dX12_init_320 : decode cX12_init 320 = .ok (.bipush 120, 2) := by decide +kernel
theorem dX12_init_322 : decode cX12_init 322 = .ok (.newarray .int, 2) := by decide +kernel
theorem dX12_init_324 : decode cX12_init 324 = .ok (.putfield 119, 3) := by decide +kernel
theorem dX12_init_327 : decode cX12_init 327 = .ok (.aload_n 0, 1) := by decide +kernel
theorem dX12_init_328 : decode cX12_init 328 = .ok (.sipush 2880, 3) := by decide +kernel
theorem dX12_init_331 : decode cX12_init 331 = .ok (.newarray .int, 2) := by decide +kernel
theorem dX12_init_333 : decode cX12_init 333 = .ok (.putfield 122, 3) := by decide +kernel
theorem dX12_init_336 : decode cX12_init 336 = .ok (.aload_n 0, 1) := by decide +kernel
theorem dX12_init_337 : decode cX12_init 337 = .ok (.sipush 480, 3) := by decide +kernel
theorem dX12_init_340 : decode cX12_init 340 = .ok (.newarray .int, 2) := by decide +kernel
theorem dX12_init_342 : decode cX12_init 342 = .ok (.putfield 125, 3) := by decide +kernel
theorem dX12_init_345 : decode cX12_init 345 = .ok (.aload_n 0, 1) := by decide +kernel
theorem dX12_init_346 : decode cX12_init 346 = .ok (.sipush 5760, 3) := by decide +kernel
theorem dX12_init_349 : decode cX12_init 349 = .ok (.newarray .int, 2) := by decide +kernel
theorem dX12_init_351 : decode cX12_init 351 = .ok (.putfield 128, 3) := by decide +kernel
theorem dX12_init_354 : decode cX12_init 354 = .ok (.aload_n 0, 1) := by decide +kernel
theorem dX12_init_355 : decode cX12_init 355 = .ok (.sipush 480, 3) := by decide +kernel
theorem dX12_init_358 : decode cX12_init 358 = .ok (.newarray .int, 2) := by decide +kernel
theorem dX12_init_360 : decode cX12_init 360 = .ok (.putfield 131, 3) := by decide +kernel
theorem dX12_init_363 : decode cX12_init 363 = .ok (.aload_n 0, 1) := by decide +kernel
theorem dX12_init_364 : decode cX12_init 364 = .ok (.sipush 1600, 3) := by decide +kernel
theorem dX12_init_367 : decode cX12_init 367 = .ok (.newarray .int, 2) := by decide +kernel
theorem dX12_init_369 : decode cX12_init 369 = .ok (.putfield 134, 3) := by decide +kernel
theorem dX12_init_372 : decode cX12_init 372 = .ok (.aload_n 0, 1) := by decide +kernel
theorem dX12_init_373 : decode cX12_init 373 = .ok (.bipush 10, 2) := by decide +kernel
theorem dX12_init_375 : decode cX12_init 375 = .ok (.newarray .int, 2) := by decide +kernel
theorem dX12_init_377 : decode cX12_init 377 = .ok (.putfield 137, 3) := by decide +kernel
theorem dX12_init_380 : decode cX12_init 380 = .ok (.aload_n 0, 1) := by decide +kernel
theorem dX12_init_381 : decode cX12_init 381 = .ok (.sipush 31000, 3) := by decide +kernel
theorem dX12_init_384 : decode cX12_init 384 = .ok (.newarray .int, 2) := by decide +kernel
theorem dX12_init_386 : decode cX12_init 386 = .ok (.putfield 140, 3) := by decide +kernel
theorem dX12_init_389 : decode cX12_init 389 = .ok (.aload_n 0, 1) := by decide +kernel
theorem dX12_init_390 : decode cX12_init 390 = .ok (.sipush 31000, 3) := by decide +kernel
theorem dX12_init_393 : decode cX12_init 393 = .ok (.newarray .int, 2) := by decide +kernel
theorem dX12_init_395 : decode cX12_init 395 = .ok (.putfield 143, 3) := by decide +kernel
theorem dX12_init_398 : decode cX12_init 398 = .ok (.aload_n 0, 1) := by decide +kernel
theorem dX12_init_399 : decode cX12_init 399 = .ok (.bipush 10, 2) := by decide +kernel
theorem dX12_init_401 : decode cX12_init 401 = .ok (.newarray .int, 2) := by decide +kernel
theorem dX12_init_403 : decode cX12_init 403 = .ok (.putfield 146, 3) := by decide +kernel
theorem dX12_init_406 : decode cX12_init 406 = .ok (.aload_n 0, 1) := by decide +kernel
theorem dX12_init_407 : decode cX12_init 407 = .ok (.bipush 13, 2) := by decide +kernel
theorem dX12_init_409 : decode cX12_init 409 = .ok (.newarray .int, 2) := by decide +kernel
theorem dX12_init_411 : decode cX12_init 411 = .ok (.putfield 149, 3) := by decide +kernel
theorem dX12_init_414 : decode cX12_init 414 = .ok (.aload_n 0, 1) := by decide +kernel
theorem dX12_init_415 : decode cX12_init 415 = .ok (.bipush 40, 2) := by decide +kernel
theorem dX12_init_417 : decode cX12_init 417 = .ok (.newarray .int, 2) := by decide +kernel
theorem dX12_init_419 : decode cX12_init 419 = .ok (.putfield 152, 3) := by decide +kernel
theorem dX12_init_422 : decode cX12_init 422 = .ok (.aload_n 0, 1) := by decide +kernel
theorem dX12_init_423 : decode cX12_init 423 = .ok (.bipush 40, 2) := by decide +kernel
theorem dX12_init_425 : decode cX12_init 425 = .ok (.newarray .int, 2) := by decide +kernel
theorem dX12_init_427 : decode cX12_init 427 = .ok (.putfield 155, 3) := by decide +kernel
theorem dX12_init_430 : decode cX12_init 430 = .ok (.aload_n 0, 1) := by decide +kernel
theorem dX12_init_431 : decode cX12_init 431 = .ok (.bipush 40, 2) := by decide +kernel
theorem dX12_init_433 : decode cX12_init 433 = .ok (.newarray .int, 2) := by decide +kernel
theorem dX12_init_435 : decode cX12_init 435 = .ok (.putfield 158, 3) := by decide +kernel
theorem dX12_init_438 : decode cX12_init 438 = .ok (.aload_n 0, 1) := by decide +kernel
theorem dX12_init_439 : decode cX12_init 439 = .ok (.bipush 40, 2) := by decide +kernel
theorem dX12_init_441 : decode cX12_init 441 = .ok (.newarray .int, 2) := by decide +kernel
theorem dX12_init_443 : decode cX12_init 443 = .ok (.putfield 161, 3) := by decide +kernel
theorem dX12_init_446 : decode cX12_init 446 = .ok (.aload_n 0, 1) := by decide +kernel
theorem dX12_init_447 : decode cX12_init 447 = .ok (.bipush 10, 2) := by decide +kernel
theorem dX12_init_449 : decode cX12_init 449 = .ok (.newarray .int, 2) := by decide +kernel
theorem dX12_init_451 : decode cX12_init 451 = .ok (.putfield 164, 3) := by decide +kernel
theorem dX12_init_454 : decode cX12_init 454 = .ok (.aload_n 0, 1) := by decide +kernel
theorem dX12_init_455 : decode cX12_init 455 = .ok (.bipush 10, 2) := by decide +kernel
theorem dX12_init_457 : decode cX12_init 457 = .ok (.newarray .int, 2) := by decide +kernel
theorem dX12_init_459 : decode cX12_init 459 = .ok (.putfield 167, 3) := by decide +kernel
theorem dX12_init_462 : decode cX12_init 462 = .ok (.aload_n 0, 1) := by decide +kernel
theorem dX12_init_463 : decode cX12_init 463 = .ok (.sipush 240, 3) := by decide +kernel
theorem dX12_init_466 : decode cX12_init 466 = .ok (.newarray .int, 2) := by decide +kernel
theorem dX12_init_468 : decode cX12_init 468 = .ok (.putfield 170, 3) := by decide +kernel
theorem dX12_init_471 : decode cX12_init 471 = .ok (.aload_n 0, 1) := by decide +kernel
theorem dX12_init_472 : decode cX12_init 472 = .ok (.bipush 20, 2) := by decide +kernel
theorem dX12_init_474 : decode cX12_init 474 = .ok (.newarray .int, 2) := by decide +kernel
theorem dX12_init_476 : decode cX12_init 476 = .ok (.putfield 173, 3) := by decide +kernel
theorem dX12_init_479 : decode cX12_init 479 = .ok (.aload_n 0, 1) := by decide +kernel
theorem dX12_init_480 : decode cX12_init 480 = .ok (.bipush 20, 2) := by decide +kernel
theorem dX12_init_482 : decode cX12_init 482 = .ok (.newarray .int, 2) := by decide +kernel
theorem dX12_init_484 : decode cX12_init 484 = .ok (.putfield 176, 3) := by decide +kernel
theorem dX12_init_487 : decode cX12_init 487 = .ok (.aload_n 0, 1) := by decide +kernel
theorem dX12_init_488 : decode cX12_init 488 = .ok (.sipush 1220, 3) := by decide +kernel
theorem dX12_init_491 : decode cX12_init 491 = .ok (.newarray .int, 2) := by decide +kernel
theorem dX12_init_493 : decode cX12_init 493 = .ok (.putfield 179, 3) := by decide +kernel
theorem dX12_init_496 : decode cX12_init 496 = .ok (.aload_n 0, 1) := by decide +kernel
theorem dX12_init_497 : decode cX12_init 497 = .ok (.sipush 1220, 3) := by decide +kernel
theorem dX12_init_500 : decode cX12_init 500 = .ok (.newarray .int, 2) := by decide +kernel
theorem dX12_init_502 : decode cX12_init 502 = .ok (.putfield 182, 3) := by decide +kernel
theorem dX12_init_505 : decode cX12_init 505 = .ok (.aload_n 0, 1) := by decide +kernel
theorem dX12_init_506 : decode cX12_init 506 = .ok (.sipush 3000, 3) := by decide +kernel
theorem dX12_init_509 : decode cX12_init 509 = .ok (.newarray .byte, 2) := by decide +kernel
theorem dX12_init_511 : decode cX12_init 511 = .ok (.putfield 185, 3) := by decide +kernel
theorem dX12_init_514 : decode cX12_init 514 = .ok (.return_, 1) := by decide +kernel
theorem dX12_feed_0 : decode cX12_feed 0 = .ok (.iload_n 3, 1) := by decide +kernel
theorem dX12_feed_1 : decode cX12_feed 1 = .ok (.iconst 1, 1) := by decide +kernel
theorem dX12_feed_2 : decode cX12_feed 2 = .ok (.if_icmp .lt 9, 3) := by decide +kernel
theorem dX12_feed_5 : decode cX12_feed 5 = .ok (.iload_n 3, 1) := by decide +kernel
theorem dX12_feed_6 : decode cX12_feed 6 = .ok (.bipush 8, 2) := by decide +kernel
theorem dX12_feed_8 : decode cX12_feed 8 = .ok (.if_icmp .le 6, 3) := by decide +kernel
theorem dX12_feed_11 : decode cX12_feed 11 = .ok (.bipush (-4), 2) := by decide +kernel
theorem dX12_feed_13 : decode cX12_feed 13 = .ok (.ireturn, 1) := by decide +kernel
theorem dX12_feed_14 : decode cX12_feed 14 = .ok (.aload_n 0, 1) := by decide +kernel
theorem dX12_feed_15 : decode cX12_feed 15 = .ok (.getfield 192, 3) := by decide +kernel
theorem dX12_feed_18 : decode cX12_feed 18 = .ok (.iload_n 3, 1) := by decide +kernel
theorem dX12_feed_19 : decode cX12_feed 19 = .ok (.iadd, 1) := by decide +kernel
theorem dX12_feed_20 : decode cX12_feed 20 = .ok (.sipush 3000, 3) := by decide +kernel
theorem dX12_feed_23 : decode cX12_feed 23 = .ok (.if_icmp .le 6, 3) := by decide +kernel
theorem dX12_feed_26 : decode cX12_feed 26 = .ok (.bipush (-2), 2) := by decide +kernel
theorem dX12_feed_28 : decode cX12_feed 28 = .ok (.ireturn, 1) := by decide +kernel
theorem dX12_feed_29 : decode cX12_feed 29 = .ok (.iload_n 3, 1) := by decide +kernel
theorem dX12_feed_30 : decode cX12_feed 30 = .ok (.iconst 1, 1) := by decide +kernel
theorem dX12_feed_31 : decode cX12_feed 31 = .ok (.isub, 1) := by decide +kernel
theorem dX12_feed_32 : decode cX12_feed 32 = .ok (.istore 4, 2) := by decide +kernel
theorem dX12_feed_34 : decode cX12_feed 34 = .ok (.iload 4, 2) := by decide +kernel
theorem dX12_feed_36 : decode cX12_feed 36 = .ok (.ifCond .lt 37, 3) := by decide +kernel
theorem dX12_feed_39 : decode cX12_feed 39 = .ok (.aload_n 0, 1) := by decide +kernel
theorem dX12_feed_40 : decode cX12_feed 40 = .ok (.getfield 7, 3) := by decide +kernel
theorem dX12_feed_43 : decode cX12_feed 43 = .ok (.aload_n 0, 1) := by decide +kernel
theorem dX12_feed_44 : decode cX12_feed 44 = .ok (.getfield 192, 3) := by decide +kernel
theorem dX12_feed_47 : decode cX12_feed 47 = .ok (.lload_n 1, 1) := by decide +kernel
theorem dX12_feed_48 : decode cX12_feed 48 = .ok (.bipush 8, 2) := by decide +kernel
theorem dX12_feed_50 : decode cX12_feed 50 = .ok (.iload 4, 2) := by decide +kernel
theorem dX12_feed_52 : decode cX12_feed 52 = .ok (.imul, 1) := by decide +kernel
theorem dX12_feed_53 : decode cX12_feed 53 = .ok (.lshr, 1) := by decide +kernel
theorem dX12_feed_54 : decode cX12_feed 54 = .ok (.l2i, 1) := by decide +kernel
theorem dX12_feed_55 : decode cX12_feed 55 = .ok (.i2b, 1) := by decide +kernel
theorem dX12_feed_56 : decode cX12_feed 56 = .ok (.bastore, 1) := by decide +kernel
theorem dX12_feed_57 : decode cX12_feed 57 = .ok (.aload_n 0, 1) := by decide +kernel
theorem dX12_feed_58 : decode cX12_feed 58 = .ok (.dup, 1) := by decide +kernel
theorem dX12_feed_59 : decode cX12_feed 59 = .ok (.getfield 192, 3) := by decide +kernel
theorem dX12_feed_62 : decode cX12_feed 62 = .ok (.iconst 1, 1) := by decide +kernel
theorem dX12_feed_63 : decode cX12_feed 63 = .ok (.iadd, 1) := by decide +kernel
theorem dX12_feed_64 : decode cX12_feed 64 = .ok (.putfield 192, 3) := by decide +kernel
theorem dX12_feed_67 : decode cX12_feed 67 = .ok (.iinc 4 (-1), 3) := by decide +kernel
theorem dX12_feed_70 : decode cX12_feed 70 = .ok (.goto (-36), 3) := by decide +kernel
theorem dX12_feed_73 : decode cX12_feed 73 = .ok (.aload_n 0, 1) := by decide +kernel
theorem dX12_feed_74 : decode cX12_feed 74 = .ok (.getfield 192, 3) := by decide +kernel
theorem dX12_feed_77 : decode cX12_feed 77 = .ok (.ireturn, 1) := by decide +kernel
theorem dX12_cut_0 : decode cX12_cut 0 = .ok (.iload_n 1, 1) := by decide +kernel
theorem dX12_cut_1 : decode cX12_cut 1 = .ok (.ifCond .lt 11, 3) := by decide +kernel
theorem dX12_cut_4 : decode cX12_cut 4 = .ok (.iload_n 1, 1) := by decide +kernel
theorem dX12_cut_5 : decode cX12_cut 5 = .ok (.aload_n 0, 1) := by decide +kernel
theorem dX12_cut_6 : decode cX12_cut 6 = .ok (.getfield 192, 3) := by decide +kernel
theorem dX12_cut_9 : decode cX12_cut 9 = .ok (.if_icmp .le 6, 3) := by decide +kernel
theorem dX12_cut_12 : decode cX12_cut 12 = .ok (.bipush (-4), 2) := by decide +kernel
theorem dX12_cut_14 : decode cX12_cut 14 = .ok (.ireturn, 1) := by decide +kernel
theorem dX12_cut_15 : decode cX12_cut 15 = .ok (.aload_n 0, 1) := by decide +kernel
theorem dX12_cut_16 : decode cX12_cut 16 = .ok (.iload_n 1, 1) := by decide +kernel
theorem dX12_cut_17 : decode cX12_cut 17 = .ok (.putfield 192, 3) := by decide +kernel
theorem dX12_cut_20 : decode cX12_cut 20 = .ok (.iload_n 1, 1) := by decide +kernel
theorem dX12_cut_21 : decode cX12_cut 21 = .ok (.ireturn, 1) := by decide +kernel
theorem dX12_isLetter_0 : decode cX12_isLetter 0 = .ok (.iload_n 0, 1) := by decide +kernel
theorem dX12_isLetter_1 : decode cX12_isLetter 1 = .ok (.bipush 97, 2) := by decide +kernel
theorem dX12_isLetter_3 : decode cX12_isLetter 3 = .ok (.if_icmp .lt 9, 3) := by decide +kernel
theorem dX12_isLetter_6 : decode cX12_isLetter 6 = .ok (.iload_n 0, 1) := by decide +kernel
theorem dX12_isLetter_7 : decode cX12_isLetter 7 = .ok (.bipush 122, 2) := by decide +kernel
theorem dX12_isLetter_9 : decode cX12_isLetter 9 = .ok (.if_icmp .le 15, 3) := by decide +kernel
theorem dX12_isLetter_12 : decode cX12_isLetter 12 = .ok (.iload_n 0, 1) := by decide +kernel
theorem dX12_isLetter_13 : decode cX12_isLetter 13 = .ok (.bipush 65, 2) := by decide +kernel
theorem dX12_isLetter_15 : decode cX12_isLetter 15 = .ok (.if_icmp .lt 13, 3) := by decide +kernel
theorem dX12_isLetter_18 : decode cX12_isLetter 18 = .ok (.iload_n 0, 1) := by decide +kernel
theorem dX12_isLetter_19 : decode cX12_isLetter 19 = .ok (.bipush 90, 2) := by decide +kernel
theorem dX12_isLetter_21 : decode cX12_isLetter 21 = .ok (.if_icmp .gt 7, 3) := by decide +kernel
theorem dX12_isLetter_24 : decode cX12_isLetter 24 = .ok (.iconst 1, 1) := by decide +kernel
theorem dX12_isLetter_25 : decode cX12_isLetter 25 = .ok (.goto 4, 3) := by decide +kernel
theorem dX12_isLetter_28 : decode cX12_isLetter 28 = .ok (.iconst 0, 1) := by decide +kernel
theorem dX12_isLetter_29 : decode cX12_isLetter 29 = .ok (.ireturn, 1) := by decide +kernel
theorem dX12_isDigit_0 : decode cX12_isDigit 0 = .ok (.iload_n 0, 1) := by decide +kernel
theorem dX12_isDigit_1 : decode cX12_isDigit 1 = .ok (.bipush 48, 2) := by decide +kernel
theorem dX12_isDigit_3 : decode cX12_isDigit 3 = .ok (.if_icmp .lt 13, 3) := by decide +kernel
theorem dX12_isDigit_6 : decode cX12_isDigit 6 = .ok (.iload_n 0, 1) := by decide +kernel
theorem dX12_isDigit_7 : decode cX12_isDigit 7 = .ok (.bipush 57, 2) := by decide +kernel
theorem dX12_isDigit_9 : decode cX12_isDigit 9 = .ok (.if_icmp .gt 7, 3) := by decide +kernel
theorem dX12_isDigit_12 : decode cX12_isDigit 12 = .ok (.iconst 1, 1) := by decide +kernel
theorem dX12_isDigit_13 : decode cX12_isDigit 13 = .ok (.goto 4, 3) := by decide +kernel
theorem dX12_isDigit_16 : decode cX12_isDigit 16 = .ok (.iconst 0, 1) := by decide +kernel
theorem dX12_isDigit_17 : decode cX12_isDigit 17 = .ok (.ireturn, 1) := by decide +kernel
theorem dX12_at_0 : decode cX12_at 0 = .ok (.iload_n 1, 1) := by decide +kernel
theorem dX12_at_1 : decode cX12_at 1 = .ok (.aload_n 0, 1) := by decide +kernel
theorem dX12_at_2 : decode cX12_at 2 = .ok (.getfield 192, 3) := by decide +kernel
theorem dX12_at_5 : decode cX12_at 5 = .ok (.if_icmp .ge 16, 3) := by decide +kernel
theorem dX12_at_8 : decode cX12_at 8 = .ok (.aload_n 0, 1) := by decide +kernel
theorem dX12_at_9 : decode cX12_at 9 = .ok (.getfield 7, 3) := by decide +kernel
theorem dX12_at_12 : decode cX12_at 12 = .ok (.iload_n 1, 1) := by decide +kernel
theorem dX12_at_13 : decode cX12_at 13 = .ok (.baload, 1) := by decide +kernel
theorem dX12_at_14 : decode cX12_at 14 = .ok (.sipush 255, 3) := by decide +kernel
theorem dX12_at_17 : decode cX12_at 17 = .ok (.iand, 1) := by decide +kernel
theorem dX12_at_18 : decode cX12_at 18 = .ok (.goto 4, 3) := by decide +kernel
theorem dX12_at_21 : decode cX12_at 21 = .ok (.iconst 0, 1) := by decide +kernel
theorem dX12_at_22 : decode cX12_at 22 = .ok (.ireturn, 1) := by decide +kernel
theorem dX12_next_0 : decode cX12_next 0 = .ok (.aload_n 0, 1) := by decide +kernel
theorem dX12_next_1 : decode cX12_next 1 = .ok (.aload_n 0, 1) := by decide +kernel
theorem dX12_next_2 : decode cX12_next 2 = .ok (.getfield 195, 3) := by decide +kernel
theorem dX12_next_5 : decode cX12_next 5 = .ok (.putfield 198, 3) := by decide +kernel
theorem dX12_next_8 : decode cX12_next 8 = .ok (.aload_n 0, 1) := by decide +kernel
theorem dX12_next_9 : decode cX12_next 9 = .ok (.aload_n 0, 1) := by decide +kernel
theorem dX12_next_10 : decode cX12_next 10 = .ok (.getfield 198, 3) := by decide +kernel
theorem dX12_next_13 : decode cX12_next 13 = .ok (.invokevirtual 201, 3) := by decide +kernel
theorem dX12_next_16 : decode cX12_next 16 = .ok (.bipush 32, 2) := by decide +kernel
theorem dX12_next_18 : decode cX12_next 18 = .ok (.if_icmp .eq 16, 3) := by decide +kernel
theorem dX12_next_21 : decode cX12_next 21 = .ok (.aload_n 0, 1) := by decide +kernel
theorem dX12_next_22 : decode cX12_next 22 = .ok (.aload_n 0, 1) := by decide +kernel
theorem dX12_next_23 : decode cX12_next 23 = .ok (.getfield 198, 3) := by decide +kernel
theorem dX12_next_26 : decode cX12_next 26 = .ok (.invokevirtual 201, 3) := by decide +kernel
theorem dX12_next_29 : decode cX12_next 29 = .ok (.bipush 10, 2) := by decide +kernel
theorem dX12_next_31 : decode cX12_next 31 = .ok (.if_icmp .ne 16, 3) := by decide +kernel
theorem dX12_next_34 : decode cX12_next 34 = .ok (.aload_n 0, 1) := by decide +kernel
theorem dX12_next_35 : decode cX12_next 35 = .ok (.dup, 1) := by decide +kernel
theorem dX12_next_36 : decode cX12_next 36 = .ok (.getfield 198, 3) := by decide +kernel
theorem dX12_next_39 : decode cX12_next 39 = .ok (.iconst 1, 1) := by decide +kernel
theorem dX12_next_40 : decode cX12_next 40 = .ok (.iadd, 1) := by decide +kernel
theorem dX12_next_41 : decode cX12_next 41 = .ok (.putfield 198, 3) := by decide +kernel
theorem dX12_next_44 : decode cX12_next 44 = .ok (.goto (-36), 3) := by decide +kernel
theorem dX12_next_47 : decode cX12_next 47 = .ok (.aload_n 0, 1) := by decide +kernel
theorem dX12_next_48 : decode cX12_next 48 = .ok (.aload_n 0, 1) := by decide +kernel
theorem dX12_next_49 : decode cX12_next 49 = .ok (.getfield 198, 3) := by decide +kernel
theorem dX12_next_52 : decode cX12_next 52 = .ok (.putfield 195, 3) := by decide +kernel
theorem dX12_next_55 : decode cX12_next 55 = .ok (.aload_n 0, 1) := by decide +kernel
theorem dX12_next_56 : decode cX12_next 56 = .ok (.aload_n 0, 1) := by decide +kernel
theorem dX12_next_57 : decode cX12_next 57 = .ok (.getfield 198, 3) := by decide +kernel
theorem dX12_next_60 : decode cX12_next 60 = .ok (.invokevirtual 201, 3) := by decide +kernel
theorem dX12_next_63 : decode cX12_next 63 = .ok (.istore_n 1, 1) := by decide +kernel
theorem dX12_next_64 : decode cX12_next 64 = .ok (.aload_n 0, 1) := by decide +kernel
theorem dX12_next_65 : decode cX12_next 65 = .ok (.getfield 198, 3) := by decide +kernel
theorem dX12_next_68 : decode cX12_next 68 = .ok (.aload_n 0, 1) := by decide +kernel
theorem dX12_next_69 : decode cX12_next 69 = .ok (.getfield 192, 3) := by decide +kernel
theorem dX12_next_72 : decode cX12_next 72 = .ok (.if_icmp .lt 27, 3) := by decide +kernel
theorem dX12_next_75 : decode cX12_next 75 = .ok (.aload_n 0, 1) := by decide +kernel
theorem dX12_next_76 : decode cX12_next 76 = .ok (.aload_n 0, 1) := by decide +kernel
theorem dX12_next_77 : decode cX12_next 77 = .ok (.getfield 192, 3) := by decide +kernel
theorem dX12_next_80 : decode cX12_next 80 = .ok (.putfield 198, 3) := by decide +kernel
theorem dX12_next_83 : decode cX12_next 83 = .ok (.aload_n 0, 1) := by decide +kernel
theorem dX12_next_84 : decode cX12_next 84 = .ok (.aload_n 0, 1) := by decide +kernel
theorem dX12_next_85 : decode cX12_next 85 = .ok (.getfield 192, 3) := by decide +kernel
theorem dX12_next_88 : decode cX12_next 88 = .ok (.putfield 195, 3) := by decide +kernel
theorem dX12_next_91 : decode cX12_next 91 = .ok (.aload_n 0, 1) := by decide +kernel
theorem dX12_next_92 : decode cX12_next 92 = .ok (.iconst 0, 1) := by decide +kernel
theorem dX12_next_93 : decode cX12_next 93 = .ok (.putfield 205, 3) := by decide +kernel
theorem dX12_next_96 : decode cX12_next 96 = .ok (.goto 228, 3) := by decide +kernel
theorem dX12_next_99 : decode cX12_next 99 = .ok (.iload_n 1, 1) := by decide +kernel
theorem dX12_next_100 : decode cX12_next 100 = .ok (.invokestatic 208, 3) := by decide +kernel
theorem dX12_next_103 : decode cX12_next 103 = .ok (.ifCond .ne 10, 3) := by decide +kernel
theorem dX12_next_106 : decode cX12_next 106 = .ok (.iload_n 1, 1) := by decide +kernel
theorem dX12_next_107 : decode cX12_next 107 = .ok (.invokestatic 212, 3) := by decide +kernel
theorem dX12_next_110 : decode cX12_next 110 = .ok (.ifCond .eq 186, 3) := by decide +kernel
theorem dX12_next_113 : decode cX12_next 113 = .ok (.iconst 0, 1) := by decide +kernel
theorem dX12_next_114 : decode cX12_next 114 = .ok (.istore_n 2, 1) := by decide +kernel
theorem dX12_next_115 : decode cX12_next 115 = .ok (.aload_n 0, 1) := by decide +kernel
theorem dX12_next_116 : decode cX12_next 116 = .ok (.aload_n 0, 1) := by decide +kernel
theorem dX12_next_117 : decode cX12_next 117 = .ok (.getfield 195, 3) := by decide +kernel
theorem dX12_next_120 : decode cX12_next 120 = .ok (.invokevirtual 201, 3) := by decide +kernel
theorem dX12_next_123 : decode cX12_next 123 = .ok (.invokestatic 208, 3) := by decide +kernel
theorem dX12_next_126 : decode cX12_next 126 = .ok (.ifCond .ne 17, 3) := by decide +kernel
theorem dX12_next_129 : decode cX12_next 129 = .ok (.aload_n 0, 1) := by decide +kernel
theorem dX12_next_130 : decode cX12_next 130 = .ok (.aload_n 0, 1) := by decide +kernel
theorem dX12_next_131 : decode cX12_next 131 = .ok (.getfield 195, 3) := by decide +kernel
theorem dX12_next_134 : decode cX12_next 134 = .ok (.invokevirtual 201, 3) := by decide +kernel
theorem dX12_next_137 : decode cX12_next 137 = .ok (.invokestatic 212, 3) := by decide +kernel
theorem dX12_next_140 : decode cX12_next 140 = .ok (.ifCond .eq 40, 3) := by decide +kernel
theorem dX12_next_143 : decode cX12_next 143 = .ok (.iload_n 2, 1) := by decide +kernel
theorem dX12_next_144 : decode cX12_next 144 = .ok (.ifCond .ne 17, 3) := by decide +kernel
theorem dX12_next_147 : decode cX12_next 147 = .ok (.aload_n 0, 1) := by decide +kernel
theorem dX12_next_148 : decode cX12_next 148 = .ok (.aload_n 0, 1) := by decide +kernel
theorem dX12_next_149 : decode cX12_next 149 = .ok (.getfield 195, 3) := by decide +kernel
theorem dX12_next_152 : decode cX12_next 152 = .ok (.invokevirtual 201, 3) := by decide +kernel
theorem dX12_next_155 : decode cX12_next 155 = .ok (.invokestatic 208, 3) := by decide +kernel
theorem dX12_next_158 : decode cX12_next 158 = .ok (.ifCond .eq 7, 3) := by decide +kernel
theorem dX12_next_161 : decode cX12_next 161 = .ok (.iconst 1, 1) := by decide +kernel
theorem dX12_next_162 : decode cX12_next 162 = .ok (.goto 4, 3) := by decide +kernel
theorem dX12_next_165 : decode cX12_next 165 = .ok (.iconst 0, 1) := by decide +kernel
theorem dX12_next_166 : decode cX12_next 166 = .ok (.istore_n 2, 1) := by decide +kernel
theorem dX12_next_167 : decode cX12_next 167 = .ok (.aload_n 0, 1) := by decide +kernel
theorem dX12_next_168 : decode cX12_next 168 = .ok (.dup, 1) := by decide +kernel
theorem dX12_next_169 : decode cX12_next 169 = .ok (.getfield 195, 3) := by decide +kernel
theorem dX12_next_172 : decode cX12_next 172 = .ok (.iconst 1, 1) := by decide +kernel
theorem dX12_next_173 : decode cX12_next 173 = .ok (.iadd, 1) := by decide +kernel
theorem dX12_next_174 : decode cX12_next 174 = .ok (.putfield 195, 3) := by decide +kernel
theorem dX12_next_177 : decode cX12_next 177 = .ok (.goto (-62), 3) := by decide +kernel
theorem dX12_next_180 : decode cX12_next 180 = .ok (.iload_n 1, 1) := by decide +kernel
theorem dX12_next_181 : decode cX12_next 181 = .ok (.invokestatic 208, 3) := by decide +kernel
theorem dX12_next_184 : decode cX12_next 184 = .ok (.istore_n 3, 1) := by decide +kernel
theorem dX12_next_185 : decode cX12_next 185 = .ok (.aload_n 0, 1) := by decide +kernel
theorem dX12_next_186 : decode cX12_next 186 = .ok (.iload_n 3, 1) := by decide +kernel
theorem dX12_next_187 : decode cX12_next 187 = .ok (.ifCond .eq 25, 3) := by decide +kernel
theorem dX12_next_190 : decode cX12_next 190 = .ok (.aload_n 0, 1) := by decide +kernel
theorem dX12_next_191 : decode cX12_next 191 = .ok (.getfield 195, 3) := by decide +kernel
theorem dX12_next_194 : decode cX12_next 194 = .ok (.aload_n 0, 1) := by decide +kernel
theorem dX12_next_195 : decode cX12_next 195 = .ok (.getfield 198, 3) := by decide +kernel
theorem dX12_next_198 : decode cX12_next 198 = .ok (.isub, 1) := by decide +kernel
theorem dX12_next_199 : decode cX12_next 199 = .ok (.bipush 10, 2) := by decide +kernel
theorem dX12_next_201 : decode cX12_next 201 = .ok (.if_icmp .le 7, 3) := by decide +kernel
theorem dX12_next_204 : decode cX12_next 204 = .ok (.iconst 1, 1) := by decide +kernel
theorem dX12_next_205 : decode cX12_next 205 = .ok (.goto 30, 3) := by decide +kernel
theorem dX12_next_208 : decode cX12_next 208 = .ok (.iconst 2, 1) := by decide +kernel
theorem dX12_next_209 : decode cX12_next 209 = .ok (.goto 26, 3) := by decide +kernel
theorem dX12_next_212 : decode cX12_next 212 = .ok (.iload_n 2, 1) := by decide +kernel
theorem dX12_next_213 : decode cX12_next 213 = .ok (.ifCond .ne 17, 3) := by decide +kernel
theorem dX12_next_216 : decode cX12_next 216 = .ok (.aload_n 0, 1) := by decide +kernel
theorem dX12_next_217 : decode cX12_next 217 = .ok (.getfield 195, 3) := by decide +kernel
theorem dX12_next_220 : decode cX12_next 220 = .ok (.aload_n 0, 1) := by decide +kernel
theorem dX12_next_221 : decode cX12_next 221 = .ok (.getfield 198, 3) := by decide +kernel
theorem dX12_next_224 : decode cX12_next 224 = .ok (.isub, 1) := by decide +kernel
theorem dX12_next_225 : decode cX12_next 225 = .ok (.bipush 9, 2) := by decide +kernel
theorem dX12_next_227 : decode cX12_next 227 = .ok (.if_icmp .le 7, 3) := by decide +kernel
theorem dX12_next_230 : decode cX12_next 230 = .ok (.iconst 1, 1) := by decide +kernel
theorem dX12_next_231 : decode cX12_next 231 = .ok (.goto 4, 3) := by decide +kernel
theorem dX12_next_234 : decode cX12_next 234 = .ok (.iconst 3, 1) := by decide +kernel
theorem dX12_next_235 : decode cX12_next 235 = .ok (.putfield 205, 3) := by decide +kernel
theorem dX12_next_238 : decode cX12_next 238 = .ok (.aload_n 0, 1) := by decide +kernel
theorem dX12_next_239 : decode cX12_next 239 = .ok (.iconst 0, 1) := by decide +kernel
theorem dX12_next_240 : decode cX12_next 240 = .ok (.putfield 215, 3) := by decide +kernel
theorem dX12_next_243 : decode cX12_next 243 = .ok (.aload_n 0, 1) := by decide +kernel
theorem dX12_next_244 : decode cX12_next 244 = .ok (.getfield 198, 3) := by decide +kernel
theorem dX12_next_247 : decode cX12_next 247 = .ok (.istore 4, 2) := by decide +kernel
theorem dX12_next_249 : decode cX12_next 249 = .ok (.iload 4, 2) := by decide +kernel
theorem dX12_next_251 : decode cX12_next 251 = .ok (.aload_n 0, 1) := by decide +kernel
theorem dX12_next_252 : decode cX12_next 252 = .ok (.getfield 195, 3) := by decide +kernel
theorem dX12_next_255 : decode cX12_next 255 = .ok (.if_icmp .ge 38, 3) := by decide +kernel
theorem dX12_next_258 : decode cX12_next 258 = .ok (.aload_n 0, 1) := by decide +kernel
theorem dX12_next_259 : decode cX12_next 259 = .ok (.getfield 205, 3) := by decide +kernel
theorem dX12_next_262 : decode cX12_next 262 = .ok (.iconst 3, 1) := by decide +kernel
theorem dX12_next_263 : decode cX12_next 263 = .ok (.if_icmp .ne 30, 3) := by decide +kernel
theorem dX12_next_266 : decode cX12_next 266 = .ok (.aload_n 0, 1) := by decide +kernel
theorem dX12_next_267 : decode cX12_next 267 = .ok (.bipush 10, 2) := by decide +kernel
theorem dX12_next_269 : decode cX12_next 269 = .ok (.aload_n 0, 1) := by decide +kernel
theorem dX12_next_270 : decode cX12_next 270 = .ok (.getfield 215, 3) := by decide +kernel
theorem dX12_next_273 : decode cX12_next 273 = .ok (.imul, 1) := by decide +kernel
theorem dX12_next_274 : decode cX12_next 274 = .ok (.aload_n 0, 1) := by decide +kernel
theorem dX12_next_275 : decode cX12_next 275 = .ok (.iload 4, 2) := by decide +kernel
theorem dX12_next_277 : decode cX12_next 277 = .ok (.invokevirtual 201, 3) := by decide +kernel
theorem dX12_next_280 : decode cX12_next 280 = .ok (.iadd, 1) := by decide +kernel
theorem dX12_next_281 : decode cX12_next 281 = .ok (.bipush 48, 2) := by decide +kernel
theorem dX12_next_283 : decode cX12_next 283 = .ok (.isub, 1) := by decide +kernel
theorem dX12_next_284 : decode cX12_next 284 = .ok (.putfield 215, 3) := by decide +kernel
theorem dX12_next_287 : decode cX12_next 287 = .ok (.iinc 4 1, 3) := by decide +kernel
theorem dX12_next_290 : decode cX12_next 290 = .ok (.goto (-41), 3) := by decide +kernel
theorem dX12_next_293 : decode cX12_next 293 = .ok (.goto 31, 3) := by decide +kernel
theorem dX12_next_296 : decode cX12_next 296 = .ok (.aload_n 0, 1) := by decide +kernel
theorem dX12_next_297 : decode cX12_next 297 = .ok (.dup, 1) := by decide +kernel
theorem dX12_next_298 : decode cX12_next 298 = .ok (.getfield 195, 3) := by decide +kernel
theorem dX12_next_301 : decode cX12_next 301 = .ok (.iconst 1, 1) := by decide +kernel
theorem dX12_next_302 : decode cX12_next 302 = .ok (.iadd, 1) := by decide +kernel
theorem dX12_next_303 : decode cX12_next 303 = .ok (.putfield 195, 3) := by decide +kernel
theorem dX12_next_306 : decode cX12_next 306 = .ok (.aload_n 0, 1) := by decide +kernel
theorem dX12_next_307 : decode cX12_next 307 = .ok (.ldc 218, 2) := by decide +kernel
theorem dX12_next_309 : decode cX12_next 309 = .ok (.iload_n 1, 1) := by decide +kernel
theorem dX12_next_310 : decode cX12_next 310 = .ok (.invokevirtual 220, 3) := by decide +kernel
theorem dX12_next_313 : decode cX12_next 313 = .ok (.ifCond .lt 7, 3) := by decide +kernel
theorem dX12_next_316 : decode cX12_next 316 = .ok (.iconst 4, 1) := by decide +kernel
theorem dX12_next_317 : decode cX12_next 317 = .ok (.goto 4, 3) := by decide +kernel
theorem dX12_next_320 : decode cX12_next 320 = .ok (.iconst 1, 1) := by decide +kernel
theorem dX12_next_321 : decode cX12_next 321 = .ok (.putfield 205, 3) := by decide +kernel
theorem dX12_next_324 : decode cX12_next 324 = .ok (.return_, 1) := by decide +kernel
theorem dX12_isSign_0 : decode cX12_isSign 0 = .ok (.aload_n 0, 1) := by decide +kernel
theorem dX12_isSign_1 : decode cX12_isSign 1 = .ok (.getfield 205, 3) := by decide +kernel
theorem dX12_isSign_4 : decode cX12_isSign 4 = .ok (.iconst 4, 1) := by decide +kernel
theorem dX12_isSign_5 : decode cX12_isSign 5 = .ok (.if_icmp .ne 19, 3) := by decide +kernel
theorem dX12_isSign_8 : decode cX12_isSign 8 = .ok (.aload_n 0, 1) := by decide +kernel
theorem dX12_isSign_9 : decode cX12_isSign 9 = .ok (.aload_n 0, 1) := by decide +kernel
theorem dX12_isSign_10 : decode cX12_isSign 10 = .ok (.getfield 198, 3) := by decide +kernel
theorem dX12_isSign_13 : decode cX12_isSign 13 = .ok (.invokevirtual 201, 3) := by decide +kernel
theorem dX12_isSign_16 : decode cX12_isSign 16 = .ok (.iload_n 1, 1) := by decide +kernel
theorem dX12_isSign_17 : decode cX12_isSign 17 = .ok (.if_icmp .ne 7, 3) := by decide +kernel
theorem dX12_isSign_20 : decode cX12_isSign 20 = .ok (.iconst 1, 1) := by decide +kernel
theorem dX12_isSign_21 : decode cX12_isSign 21 = .ok (.goto 4, 3) := by decide +kernel
theorem dX12_isSign_24 : decode cX12_isSign 24 = .ok (.iconst 0, 1) := by decide +kernel
theorem dX12_isSign_25 : decode cX12_isSign 25 = .ok (.ireturn, 1) := by decide +kernel
theorem dX12_isWord_0 : decode cX12_isWord 0 = .ok (.aload_n 0, 1) := by decide +kernel
theorem dX12_isWord_1 : decode cX12_isWord 1 = .ok (.getfield 205, 3) := by decide +kernel
theorem dX12_isWord_4 : decode cX12_isWord 4 = .ok (.iconst 2, 1) := by decide +kernel
theorem dX12_isWord_5 : decode cX12_isWord 5 = .ok (.if_icmp .ne 23, 3) := by decide +kernel
theorem dX12_isWord_8 : decode cX12_isWord 8 = .ok (.aload_n 0, 1) := by decide +kernel
theorem dX12_isWord_9 : decode cX12_isWord 9 = .ok (.getfield 195, 3) := by decide +kernel
theorem dX12_isWord_12 : decode cX12_isWord 12 = .ok (.aload_n 0, 1) := by decide +kernel
theorem dX12_isWord_13 : decode cX12_isWord 13 = .ok (.getfield 198, 3) := by decide +kernel
theorem dX12_isWord_16 : decode cX12_isWord 16 = .ok (.isub, 1) := by decide +kernel
theorem dX12_isWord_17 : decode cX12_isWord 17 = .ok (.aload_n 1, 1) := by decide +kernel
theorem dX12_isWord_18 : decode cX12_isWord 18 = .ok (.invokevirtual 225, 3) := by decide +kernel
theorem dX12_isWord_21 : decode cX12_isWord 21 = .ok (.if_icmp .ne 7, 3) := by decide +kernel
theorem dX12_isWord_24 : decode cX12_isWord 24 = .ok (.iconst 1, 1) := by decide +kernel
theorem dX12_isWord_25 : decode cX12_isWord 25 = .ok (.goto 4, 3) := by decide +kernel
theorem dX12_isWord_28 : decode cX12_isWord 28 = .ok (.iconst 0, 1) := by decide +kernel
theorem dX12_isWord_29 : decode cX12_isWord 29 = .ok (.istore_n 2, 1) := by decide +kernel
theorem dX12_isWord_30 : decode cX12_isWord 30 = .ok (.iconst 0, 1) := by decide +kernel
theorem dX12_isWord_31 : decode cX12_isWord 31 = .ok (.istore_n 3, 1) := by decide +kernel
theorem dX12_isWord_32 : decode cX12_isWord 32 = .ok (.iload_n 3, 1) := by decide +kernel
theorem dX12_isWord_33 : decode cX12_isWord 33 = .ok (.aload_n 1, 1) := by decide +kernel
theorem dX12_isWord_34 : decode cX12_isWord 34 = .ok (.invokevirtual 225, 3) := by decide +kernel
theorem dX12_isWord_37 : decode cX12_isWord 37 = .ok (.if_icmp .ge 37, 3) := by decide +kernel
theorem dX12_isWord_40 : decode cX12_isWord 40 = .ok (.iload_n 2, 1) := by decide +kernel
theorem dX12_isWord_41 : decode cX12_isWord 41 = .ok (.ifCond .eq 33, 3) := by decide +kernel
theorem dX12_isWord_44 : decode cX12_isWord 44 = .ok (.aload_n 0, 1) := by decide +kernel
theorem dX12_isWord_45 : decode cX12_isWord 45 = .ok (.aload_n 0, 1) := by decide +kernel
theorem dX12_isWord_46 : decode cX12_isWord 46 = .ok (.getfield 198, 3) := by decide +kernel
theorem dX12_isWord_49 : decode cX12_isWord 49 = .ok (.iload_n 3, 1) := by decide +kernel
theorem dX12_isWord_50 : decode cX12_isWord 50 = .ok (.iadd, 1) := by decide +kernel
theorem dX12_isWord_51 : decode cX12_isWord 51 = .ok (.invokevirtual 201, 3) := by decide +kernel
theorem dX12_isWord_54 : decode cX12_isWord 54 = .ok (.aload_n 1, 1) := by decide +kernel
theorem dX12_isWord_55 : decode cX12_isWord 55 = .ok (.iload_n 3, 1) := by decide +kernel
theorem dX12_isWord_56 : decode cX12_isWord 56 = .ok (.invokevirtual 229, 3) := by decide +kernel
theorem dX12_isWord_59 : decode cX12_isWord 59 = .ok (.if_icmp .ne 7, 3) := by decide +kernel
theorem dX12_isWord_62 : decode cX12_isWord 62 = .ok (.iconst 1, 1) := by decide +kernel
theorem dX12_isWord_63 : decode cX12_isWord 63 = .ok (.goto 4, 3) := by decide +kernel
theorem dX12_isWord_66 : decode cX12_isWord 66 = .ok (.iconst 0, 1) := by decide +kernel
theorem dX12_isWord_67 : decode cX12_isWord 67 = .ok (.istore_n 2, 1) := by decide +kernel
theorem dX12_isWord_68 : decode cX12_isWord 68 = .ok (.iinc 3 1, 3) := by decide +kernel
theorem dX12_isWord_71 : decode cX12_isWord 71 = .ok (.goto (-39), 3) := by decide +kernel
theorem dX12_isWord_74 : decode cX12_isWord 74 = .ok (.iload_n 2, 1) := by decide +kernel
theorem dX12_isWord_75 : decode cX12_isWord 75 = .ok (.ireturn, 1) := by decide +kernel
theorem dX12_isKeyword_0 : decode cX12_isKeyword 0 = .ok (.aload_n 0, 1) := by decide +kernel
theorem dX12_isKeyword_1 : decode cX12_isKeyword 1 = .ok (.ldc 233, 2) := by decide +kernel
theorem dX12_isKeyword_3 : decode cX12_isKeyword 3 = .ok (.invokevirtual 235, 3) := by decide +kernel
theorem dX12_isKeyword_6 : decode cX12_isKeyword 6 = .ok (.ifCond .ne 103, 3) := by decide +kernel
theorem dX12_isKeyword_9 : decode cX12_isKeyword 9 = .ok (.aload_n 0, 1) := by decide +kernel
theorem dX12_isKeyword_10 : decode cX12_isKeyword 10 = .ok (.ldc 239, 2) := by decide +kernel
theorem dX12_isKeyword_12 : decode cX12_isKeyword 12 = .ok (.invokevirtual 235, 3) := by decide +kernel
theorem dX12_isKeyword_15 : decode cX12_isKeyword 15 = .ok (.ifCond .ne 94, 3) := by decide +kernel
theorem dX12_isKeyword_18 : decode cX12_isKeyword 18 = .ok (.aload_n 0, 1) := by decide +kernel
theorem dX12_isKeyword_19 : decode cX12_isKeyword 19 = .ok (.ldc 241, 2) := by decide +kernel
theorem dX12_isKeyword_21 : decode cX12_isKeyword 21 = .ok (.invokevirtual 235, 3) := by decide +kernel
theorem dX12_isKeyword_24 : decode cX12_isKeyword 24 = .ok (.ifCond .ne 85, 3) := by decide +kernel
theorem dX12_isKeyword_27 : decode cX12_isKeyword 27 = .ok (.aload_n 0, 1) := by decide +kernel
theorem dX12_isKeyword_28 : decode cX12_isKeyword 28 = .ok (.ldc 243, 2) := by decide +kernel
theorem dX12_isKeyword_30 : decode cX12_isKeyword 30 = .ok (.invokevirtual 235, 3) := by decide +kernel
theorem dX12_isKeyword_33 : decode cX12_isKeyword 33 = .ok (.ifCond .ne 76, 3) := by decide +kernel
theorem dX12_isKeyword_36 : decode cX12_isKeyword 36 = .ok (.aload_n 0, 1) := by decide +kernel
theorem dX12_isKeyword_37 : decode cX12_isKeyword 37 = .ok (.ldc 244, 2) := by decide +kernel
theorem dX12_isKeyword_39 : decode cX12_isKeyword 39 = .ok (.invokevirtual 235, 3) := by decide +kernel
theorem dX12_isKeyword_42 : decode cX12_isKeyword 42 = .ok (.ifCond .ne 67, 3) := by decide +kernel
theorem dX12_isKeyword_45 : decode cX12_isKeyword 45 = .ok (.aload_n 0, 1) := by decide +kernel
theorem dX12_isKeyword_46 : decode cX12_isKeyword 46 = .ok (.ldc 245, 2) := by decide +kernel
theorem dX12_isKeyword_48 : decode cX12_isKeyword 48 = .ok (.invokevirtual 235, 3) := by decide +kernel
theorem dX12_isKeyword_51 : decode cX12_isKeyword 51 = .ok (.ifCond .ne 58, 3) := by decide +kernel
theorem dX12_isKeyword_54 : decode cX12_isKeyword 54 = .ok (.aload_n 0, 1) := by decide +kernel
theorem dX12_isKeyword_55 : decode cX12_isKeyword 55 = .ok (.ldc 247, 2) := by decide +kernel
theorem dX12_isKeyword_57 : decode cX12_isKeyword 57 = .ok (.invokevirtual 235, 3) := by decide +kernel
theorem dX12_isKeyword_60 : decode cX12_isKeyword 60 = .ok (.ifCond .ne 49, 3) := by decide +kernel
theorem dX12_isKeyword_63 : decode cX12_isKeyword 63 = .ok (.aload_n 0, 1) := by decide +kernel
theorem dX12_isKeyword_64 : decode cX12_isKeyword 64 = .ok (.ldc 249, 2) := by decide +kernel
theorem dX12_isKeyword_66 : decode cX12_isKeyword 66 = .ok (.invokevirtual 235, 3) := by decide +kernel
theorem dX12_isKeyword_69 : decode cX12_isKeyword 69 = .ok (.ifCond .ne 40, 3) := by decide +kernel
theorem dX12_isKeyword_72 : decode cX12_isKeyword 72 = .ok (.aload_n 0, 1) := by decide +kernel
theorem dX12_isKeyword_73 : decode cX12_isKeyword 73 = .ok (.ldc 251, 2) := by decide +kernel
theorem dX12_isKeyword_75 : decode cX12_isKeyword 75 = .ok (.invokevirtual 235, 3) := by decide +kernel
theorem dX12_isKeyword_78 : decode cX12_isKeyword 78 = .ok (.ifCond .ne 31, 3) := by decide +kernel
theorem dX12_isKeyword_81 : decode cX12_isKeyword 81 = .ok (.aload_n 0, 1) := by decide +kernel
theorem dX12_isKeyword_82 : decode cX12_isKeyword 82 = .ok (.ldc 253, 2) := by decide +kernel
theorem dX12_isKeyword_84 : decode cX12_isKeyword 84 = .ok (.invokevirtual 235, 3) := by decide +kernel
theorem dX12_isKeyword_87 : decode cX12_isKeyword 87 = .ok (.ifCond .ne 22, 3) := by decide +kernel
theorem dX12_isKeyword_90 : decode cX12_isKeyword 90 = .ok (.aload_n 0, 1) := by decide +kernel
theorem dX12_isKeyword_91 : decode cX12_isKeyword 91 = .ok (.ldc 255, 2) := by decide +kernel
theorem dX12_isKeyword_93 : decode cX12_isKeyword 93 = .ok (.invokevirtual 235, 3) := by decide +kernel
theorem dX12_isKeyword_96 : decode cX12_isKeyword 96 = .ok (.ifCond .ne 13, 3) := by decide +kernel
theorem dX12_isKeyword_99 : decode cX12_isKeyword 99 = .ok (.aload_n 0, 1) := by decide +kernel
theorem dX12_isKeyword_100 : decode cX12_isKeyword 100 = .ok (.ldc_w 257, 3) := by decide +kernel
theorem dX12_isKeyword_103 : decode cX12_isKeyword 103 = .ok (.invokevirtual 235, 3) := by decide +kernel
theorem dX12_isKeyword_106 : decode cX12_isKeyword 106 = .ok (.ifCond .eq 7, 3) := by decide +kernel
theorem dX12_isKeyword_109 : decode cX12_isKeyword 109 = .ok (.iconst 1, 1) := by decide +kernel
theorem dX12_isKeyword_110 : decode cX12_isKeyword 110 = .ok (.goto 4, 3) := by decide +kernel
theorem dX12_isKeyword_113 : decode cX12_isKeyword 113 = .ok (.iconst 0, 1) := by decide +kernel
theorem dX12_isKeyword_114 : decode cX12_isKeyword 114 = .ok (.ireturn, 1) := by decide +kernel
theorem dX12_isName_0 : decode cX12_isName 0 = .ok (.aload_n 0, 1) := by decide +kernel
theorem dX12_isName_1 : decode cX12_isName 1 = .ok (.getfield 205, 3) := by decide +kernel
theorem dX12_isName_4 : decode cX12_isName 4 = .ok (.iconst 2, 1) := by decide +kernel
theorem dX12_isName_5 : decode cX12_isName 5 = .ok (.if_icmp .ne 14, 3) := by decide +kernel
theorem dX12_isName_8 : decode cX12_isName 8 = .ok (.aload_n 0, 1) := by decide +kernel
theorem dX12_isName_9 : decode cX12_isName 9 = .ok (.invokevirtual 259, 3) := by decide +kernel
theorem dX12_isName_12 : decode cX12_isName 12 = .ok (.ifCond .ne 7, 3) := by decide +kernel
theorem dX12_isName_15 : decode cX12_isName 15 = .ok (.iconst 1, 1) := by decide +kernel
theorem dX12_isName_16 : decode cX12_isName 16 = .ok (.goto 4, 3) := by decide +kernel
theorem dX12_isName_19 : decode cX12_isName 19 = .ok (.iconst 0, 1) := by decide +kernel
theorem dX12_isName_20 : decode cX12_isName 20 = .ok (.ireturn, 1) := by decide +kernel
theorem dX12_nameHere_0 : decode cX12_nameHere 0 = .ok (.bipush 16, 2) := by decide +kernel
theorem dX12_nameHere_2 : decode cX12_nameHere 2 = .ok (.sipush 3000, 3) := by decide +kernel
theorem dX12_nameHere_5 : decode cX12_nameHere 5 = .ok (.aload_n 0, 1) := by decide +kernel
theorem dX12_nameHere_6 : decode cX12_nameHere 6 = .ok (.getfield 263, 3) := by decide +kernel
theorem dX12_nameHere_9 : decode cX12_nameHere 9 = .ok (.imul, 1) := by decide +kernel
theorem dX12_nameHere_10 : decode cX12_nameHere 10 = .ok (.aload_n 0, 1) := by decide +kernel
theorem dX12_nameHere_11 : decode cX12_nameHere 11 = .ok (.getfield 198, 3) := by decide +kernel
theorem dX12_nameHere_14 : decode cX12_nameHere 14 = .ok (.iadd, 1) := by decide +kernel
theorem dX12_nameHere_15 : decode cX12_nameHere 15 = .ok (.imul, 1) := by decide +kernel
theorem dX12_nameHere_16 : decode cX12_nameHere 16 = .ok (.aload_n 0, 1) := by decide +kernel
theorem dX12_nameHere_17 : decode cX12_nameHere 17 = .ok (.getfield 195, 3) := by decide +kernel
theorem dX12_nameHere_20 : decode cX12_nameHere 20 = .ok (.iadd, 1) := by decide +kernel
theorem dX12_nameHere_21 : decode cX12_nameHere 21 = .ok (.aload_n 0, 1) := by decide +kernel
theorem dX12_nameHere_22 : decode cX12_nameHere 22 = .ok (.getfield 198, 3) := by decide +kernel
theorem dX12_nameHere_25 : decode cX12_nameHere 25 = .ok (.isub, 1) := by decide +kernel
theorem dX12_nameHere_26 : decode cX12_nameHere 26 = .ok (.ireturn, 1) := by decide +kernel
theorem dX12_isSame_0 : decode cX12_isSame 0 = .ok (.iload_n 1, 1) := by decide +kernel
theorem dX12_isSame_1 : decode cX12_isSame 1 = .ok (.bipush 16, 2) := by decide +kernel
theorem dX12_isSame_3 : decode cX12_isSame 3 = .ok (.irem, 1) := by decide +kernel
theorem dX12_isSame_4 : decode cX12_isSame 4 = .ok (.istore_n 3, 1) := by decide +kernel
theorem dX12_isSame_5 : decode cX12_isSame 5 = .ok (.iload_n 3, 1) := by decide +kernel
theorem dX12_isSame_6 : decode cX12_isSame 6 = .ok (.iload_n 2, 1) := by decide +kernel
theorem dX12_isSame_7 : decode cX12_isSame 7 = .ok (.bipush 16, 2) := by decide +kernel
theorem dX12_isSame_9 : decode cX12_isSame 9 = .ok (.irem, 1) := by decide +kernel
theorem dX12_isSame_10 : decode cX12_isSame 10 = .ok (.if_icmp .eq 5, 3) := by decide +kernel
theorem dX12_isSame_13 : decode cX12_isSame 13 = .ok (.iconst 0, 1) := by decide +kernel
theorem dX12_isSame_14 : decode cX12_isSame 14 = .ok (.ireturn, 1) := by decide +kernel
theorem dX12_isSame_15 : decode cX12_isSame 15 = .ok (.iconst 0, 1) := by decide +kernel
theorem dX12_isSame_16 : decode cX12_isSame 16 = .ok (.istore 4, 2) := by decide +kernel
theorem dX12_isSame_18 : decode cX12_isSame 18 = .ok (.iload 4, 2) := by decide +kernel
theorem dX12_isSame_20 : decode cX12_isSame 20 = .ok (.iload_n 3, 1) := by decide +kernel
theorem dX12_isSame_21 : decode cX12_isSame 21 = .ok (.if_icmp .ge 38, 3) := by decide +kernel
theorem dX12_isSame_24 : decode cX12_isSame 24 = .ok (.aload_n 0, 1) := by decide +kernel
theorem dX12_isSame_25 : decode cX12_isSame 25 = .ok (.getfield 13, 3) := by decide +kernel
theorem dX12_isSame_28 : decode cX12_isSame 28 = .ok (.iload_n 1, 1) := by decide +kernel
theorem dX12_isSame_29 : decode cX12_isSame 29 = .ok (.bipush 16, 2) := by decide +kernel
theorem dX12_isSame_31 : decode cX12_isSame 31 = .ok (.idiv, 1) := by decide +kernel
theorem dX12_isSame_32 : decode cX12_isSame 32 = .ok (.iload 4, 2) := by decide +kernel
theorem dX12_isSame_34 : decode cX12_isSame 34 = .ok (.iadd, 1) := by decide +kernel
theorem dX12_isSame_35 : decode cX12_isSame 35 = .ok (.baload, 1) := by decide +kernel
theorem dX12_isSame_36 : decode cX12_isSame 36 = .ok (.aload_n 0, 1) := by decide +kernel
theorem dX12_isSame_37 : decode cX12_isSame 37 = .ok (.getfield 13, 3) := by decide +kernel
theorem dX12_isSame_40 : decode cX12_isSame 40 = .ok (.iload_n 2, 1) := by decide +kernel
theorem dX12_isSame_41 : decode cX12_isSame 41 = .ok (.bipush 16, 2) := by decide +kernel
theorem dX12_isSame_43 : decode cX12_isSame 43 = .ok (.idiv, 1) := by decide +kernel
theorem dX12_isSame_44 : decode cX12_isSame 44 = .ok (.iload 4, 2) := by decide +kernel
theorem dX12_isSame_46 : decode cX12_isSame 46 = .ok (.iadd, 1) := by decide +kernel
theorem dX12_isSame_47 : decode cX12_isSame 47 = .ok (.baload, 1) := by decide +kernel
theorem dX12_isSame_48 : decode cX12_isSame 48 = .ok (.if_icmp .eq 5, 3) := by decide +kernel
theorem dX12_isSame_51 : decode cX12_isSame 51 = .ok (.iconst 0, 1) := by decide +kernel
theorem dX12_isSame_52 : decode cX12_isSame 52 = .ok (.ireturn, 1) := by decide +kernel
theorem dX12_isSame_53 : decode cX12_isSame 53 = .ok (.iinc 4 1, 3) := by decide +kernel
theorem dX12_isSame_56 : decode cX12_isSame 56 = .ok (.goto (-38), 3) := by decide +kernel
theorem dX12_isSame_59 : decode cX12_isSame 59 = .ok (.iconst 1, 1) := by decide +kernel
theorem dX12_isSame_60 : decode cX12_isSame 60 = .ok (.ireturn, 1) := by decide +kernel
theorem dX12_isTwo_0 : decode cX12_isTwo 0 = .ok (.iload_n 0, 1) := by decide +kernel
theorem dX12_isTwo_1 : decode cX12_isTwo 1 = .ok (.iconst 2, 1) := by decide +kernel
theorem dX12_isTwo_2 : decode cX12_isTwo 2 = .ok (.if_icmp .lt 12, 3) := by decide +kernel
theorem dX12_isTwo_5 : decode cX12_isTwo 5 = .ok (.iload_n 0, 1) := by decide +kernel
theorem dX12_isTwo_6 : decode cX12_isTwo 6 = .ok (.iconst 5, 1) := by decide +kernel
theorem dX12_isTwo_7 : decode cX12_isTwo 7 = .ok (.if_icmp .gt 7, 3) := by decide +kernel
theorem dX12_isTwo_10 : decode cX12_isTwo 10 = .ok (.iconst 1, 1) := by decide +kernel
theorem dX12_isTwo_11 : decode cX12_isTwo 11 = .ok (.goto 4, 3) := by decide +kernel
theorem dX12_isTwo_14 : decode cX12_isTwo 14 = .ok (.iconst 0, 1) := by decide +kernel
theorem dX12_isTwo_15 : decode cX12_isTwo 15 = .ok (.ireturn, 1) := by decide +kernel
theorem dX12_expression_0 : decode cX12_expression 0 = .ok (.aload_n 0, 1) := by decide +kernel
theorem dX12_expression_1 : decode cX12_expression 1 = .ok (.getfield 92, 3) := by decide +kernel
theorem dX12_expression_4 : decode cX12_expression 4 = .ok (.aload_n 0, 1) := by decide +kernel
theorem dX12_expression_5 : decode cX12_expression 5 = .ok (.getfield 266, 3) := by decide +kernel
theorem dX12_expression_8 : decode cX12_expression 8 = .ok (.iload_n 1, 1) := by decide +kernel
theorem dX12_expression_9 : decode cX12_expression 9 = .ok (.iastore, 1) := by decide +kernel
theorem dX12_expression_10 : decode cX12_expression 10 = .ok (.aload_n 0, 1) := by decide +kernel
theorem dX12_expression_11 : decode cX12_expression 11 = .ok (.getfield 95, 3) := by decide +kernel
theorem dX12_expression_14 : decode cX12_expression 14 = .ok (.aload_n 0, 1) := by decide +kernel
theorem dX12_expression_15 : decode cX12_expression 15 = .ok (.getfield 266, 3) := by decide +kernel
theorem dX12_expression_18 : decode cX12_expression 18 = .ok (.iload_n 2, 1) := by decide +kernel
theorem dX12_expression_19 : decode cX12_expression 19 = .ok (.iastore, 1) := by decide +kernel
theorem dX12_expression_20 : decode cX12_expression 20 = .ok (.aload_n 0, 1) := by decide +kernel
theorem dX12_expression_21 : decode cX12_expression 21 = .ok (.getfield 98, 3) := by decide +kernel
theorem dX12_expression_24 : decode cX12_expression 24 = .ok (.aload_n 0, 1) := by decide +kernel
theorem dX12_expression_25 : decode cX12_expression 25 = .ok (.getfield 266, 3) := by decide +kernel
theorem dX12_expression_28 : decode cX12_expression 28 = .ok (.iload_n 3, 1) := by decide +kernel
theorem dX12_expression_29 : decode cX12_expression 29 = .ok (.iastore, 1) := by decide +kernel
theorem dX12_expression_30 : decode cX12_expression 30 = .ok (.aload_n 0, 1) := by decide +kernel
theorem dX12_expression_31 : decode cX12_expression 31 = .ok (.getfield 104, 3) := by decide +kernel
theorem dX12_expression_34 : decode cX12_expression 34 = .ok (.aload_n 0, 1) := by decide +kernel
theorem dX12_expression_35 : decode cX12_expression 35 = .ok (.getfield 266, 3) := by decide +kernel
theorem dX12_expression_38 : decode cX12_expression 38 = .ok (.aload_n 0, 1) := by decide +kernel
theorem dX12_expression_39 : decode cX12_expression 39 = .ok (.getfield 269, 3) := by decide +kernel
theorem dX12_expression_42 : decode cX12_expression 42 = .ok (.iastore, 1) := by decide +kernel
theorem dX12_expression_43 : decode cX12_expression 43 = .ok (.iload_n 1, 1) := by decide +kernel
theorem dX12_expression_44 : decode cX12_expression 44 = .ok (.invokestatic 272, 3) := by decide +kernel
theorem dX12_expression_47 : decode cX12_expression 47 = .ok (.ifCond .eq 13, 3) := by decide +kernel
theorem dX12_expression_50 : decode cX12_expression 50 = .ok (.aload_n 0, 1) := by decide +kernel
theorem dX12_expression_51 : decode cX12_expression 51 = .ok (.getfield 101, 3) := by decide +kernel
theorem dX12_expression_54 : decode cX12_expression 54 = .ok (.iload_n 2, 1) := by decide +kernel
theorem dX12_expression_55 : decode cX12_expression 55 = .ok (.aload_n 0, 1) := by decide +kernel
theorem dX12_expression_56 : decode cX12_expression 56 = .ok (.getfield 266, 3) := by decide +kernel
theorem dX12_expression_59 : decode cX12_expression 59 = .ok (.iastore, 1) := by decide +kernel
theorem dX12_expression_60 : decode cX12_expression 60 = .ok (.aload_n 0, 1) := by decide +kernel
theorem dX12_expression_61 : decode cX12_expression 61 = .ok (.dup, 1) := by decide +kernel
theorem dX12_expression_62 : decode cX12_expression 62 = .ok (.getfield 266, 3) := by decide +kernel
theorem dX12_expression_65 : decode cX12_expression 65 = .ok (.iconst 1, 1) := by decide +kernel
theorem dX12_expression_66 : decode cX12_expression 66 = .ok (.iadd, 1) := by decide +kernel
theorem dX12_expression_67 : decode cX12_expression 67 = .ok (.putfield 266, 3) := by decide +kernel
theorem dX12_expression_70 : decode cX12_expression 70 = .ok (.aload_n 0, 1) := by decide +kernel
theorem dX12_expression_71 : decode cX12_expression 71 = .ok (.getfield 266, 3) := by decide +kernel
theorem dX12_expression_74 : decode cX12_expression 74 = .ok (.iconst 1, 1) := by decide +kernel
theorem dX12_expression_75 : decode cX12_expression 75 = .ok (.isub, 1) := by decide +kernel
theorem dX12_expression_76 : decode cX12_expression 76 = .ok (.ireturn, 1) := by decide +kernel
theorem dX12_fault_0 : decode cX12_fault 0 = .ok (.aload_n 0, 1) := by decide +kernel
theorem dX12_fault_1 : decode cX12_fault 1 = .ok (.getfield 275, 3) := by decide +kernel
theorem dX12_fault_4 : decode cX12_fault 4 = .ok (.ifCond .ne 28, 3) := by decide +kernel
theorem dX12_fault_7 : decode cX12_fault 7 = .ok (.aload_n 0, 1) := by decide +kernel
theorem dX12_fault_8 : decode cX12_fault 8 = .ok (.aload_n 0, 1) := by decide +kernel
theorem dX12_fault_9 : decode cX12_fault 9 = .ok (.getfield 205, 3) := by decide +kernel
theorem dX12_fault_12 : decode cX12_fault 12 = .ok (.iconst 1, 1) := by decide +kernel
theorem dX12_fault_13 : decode cX12_fault 13 = .ok (.if_icmp .ne 7, 3) := by decide +kernel
theorem dX12_fault_16 : decode cX12_fault 16 = .ok (.iconst 1, 1) := by decide +kernel
theorem dX12_fault_17 : decode cX12_fault 17 = .ok (.goto 4, 3) := by decide +kernel
theorem dX12_fault_20 : decode cX12_fault 20 = .ok (.iload_n 1, 1) := by decide +kernel
theorem dX12_fault_21 : decode cX12_fault 21 = .ok (.putfield 275, 3) := by decide +kernel
theorem dX12_fault_24 : decode cX12_fault 24 = .ok (.aload_n 0, 1) := by decide +kernel
theorem dX12_fault_25 : decode cX12_fault 25 = .ok (.aload_n 0, 1) := by decide +kernel
theorem dX12_fault_26 : decode cX12_fault 26 = .ok (.getfield 198, 3) := by decide +kernel
theorem dX12_fault_29 : decode cX12_fault 29 = .ok (.putfield 278, 3) := by decide +kernel
theorem dX12_fault_32 : decode cX12_fault 32 = .ok (.iconst (-1), 1) := by decide +kernel
theorem dX12_fault_33 : decode cX12_fault 33 = .ok (.ireturn, 1) := by decide +kernel
theorem dX12_sign_0 : decode cX12_sign 0 = .ok (.aload_n 0, 1) := by decide +kernel
theorem dX12_sign_1 : decode cX12_sign 1 = .ok (.getfield 275, 3) := by decide +kernel
theorem dX12_sign_4 : decode cX12_sign 4 = .ok (.ifCond .le 4, 3) := by decide +kernel
theorem dX12_sign_7 : decode cX12_sign 7 = .ok (.return_, 1) := by decide +kernel
theorem dX12_sign_8 : decode cX12_sign 8 = .ok (.aload_n 0, 1) := by decide +kernel
theorem dX12_sign_9 : decode cX12_sign 9 = .ok (.iload_n 1, 1) := by decide +kernel
theorem dX12_sign_10 : decode cX12_sign 10 = .ok (.invokevirtual 281, 3) := by decide +kernel
theorem dX12_sign_13 : decode cX12_sign 13 = .ok (.ifCond .eq 10, 3) := by decide +kernel
theorem dX12_sign_16 : decode cX12_sign 16 = .ok (.aload_n 0, 1) := by decide +kernel
theorem dX12_sign_17 : decode cX12_sign 17 = .ok (.invokevirtual 285, 3) := by decide +kernel
theorem dX12_sign_20 : decode cX12_sign 20 = .ok (.goto 9, 3) := by decide +kernel
theorem dX12_sign_23 : decode cX12_sign 23 = .ok (.aload_n 0, 1) := by decide +kernel
theorem dX12_sign_24 : decode cX12_sign 24 = .ok (.iconst 2, 1) := by decide +kernel
theorem dX12_sign_25 : decode cX12_sign 25 = .ok (.invokevirtual 288, 3) := by decide +kernel
theorem dX12_sign_28 : decode cX12_sign 28 = .ok (.istore_n 2, 1) := by decide +kernel
theorem dX12_sign_29 : decode cX12_sign 29 = .ok (.return_, 1) := by decide +kernel
theorem dX12_newName_0 : decode cX12_newName 0 = .ok (.aload_n 0, 1) := by decide +kernel
theorem dX12_newName_1 : decode cX12_newName 1 = .ok (.getfield 275, 3) := by decide +kernel
theorem dX12_newName_4 : decode cX12_newName 4 = .ok (.ifCond .le 5, 3) := by decide +kernel
theorem dX12_newName_7 : decode cX12_newName 7 = .ok (.iconst (-1), 1) := by decide +kernel
theorem dX12_newName_8 : decode cX12_newName 8 = .ok (.ireturn, 1) := by decide +kernel
theorem dX12_newName_9 : decode cX12_newName 9 = .ok (.aload_n 0, 1) := by decide +kernel
theorem dX12_newName_10 : decode cX12_newName 10 = .ok (.invokevirtual 291, 3) := by decide +kernel
theorem dX12_newName_13 : decode cX12_newName 13 = .ok (.ifCond .ne 9, 3) := by decide +kernel
theorem dX12_newName_16 : decode cX12_newName 16 = .ok (.aload_n 0, 1) := by decide +kernel
theorem dX12_newName_17 : decode cX12_newName 17 = .ok (.iconst 2, 1) := by decide +kernel
theorem dX12_newName_18 : decode cX12_newName 18 = .ok (.invokevirtual 288, 3) := by decide +kernel
theorem dX12_newName_21 : decode cX12_newName 21 = .ok (.ireturn, 1) := by decide +kernel
theorem dX12_newName_22 : decode cX12_newName 22 = .ok (.iload_n 1, 1) := by decide +kernel
theorem dX12_newName_23 : decode cX12_newName 23 = .ok (.ifCond .eq 9, 3) := by decide +kernel
theorem dX12_newName_26 : decode cX12_newName 26 = .ok (.aload_n 0, 1) := by decide +kernel
theorem dX12_newName_27 : decode cX12_newName 27 = .ok (.iconst 3, 1) := by decide +kernel
theorem dX12_newName_28 : decode cX12_newName 28 = .ok (.invokevirtual 288, 3) := by decide +kernel
theorem dX12_newName_31 : decode cX12_newName 31 = .ok (.ireturn, 1) := by decide +kernel
theorem dX12_newName_32 : decode cX12_newName 32 = .ok (.aload_n 0, 1) := by decide +kernel
theorem dX12_newName_33 : decode cX12_newName 33 = .ok (.invokevirtual 294, 3) := by decide +kernel
theorem dX12_newName_36 : decode cX12_newName 36 = .ok (.ireturn, 1) := by decide +kernel
theorem dX12_tells_0 : decode cX12_tells 0 = .ok (.aload_n 0, 1) := by decide +kernel
theorem dX12_tells_1 : decode cX12_tells 1 = .ok (.getfield 205, 3) := by decide +kernel
theorem dX12_tells_4 : decode cX12_tells 4 = .ok (.iconst 2, 1) := by decide +kernel
theorem dX12_tells_5 : decode cX12_tells 5 = .ok (.if_icmp .eq 5, 3) := by decide +kernel
theorem dX12_tells_8 : decode cX12_tells 8 = .ok (.iconst 0, 1) := by decide +kernel
theorem dX12_tells_9 : decode cX12_tells 9 = .ok (.ireturn, 1) := by decide +kernel
theorem dX12_tells_10 : decode cX12_tells 10 = .ok (.aload_n 0, 1) := by decide +kernel
theorem dX12_tells_11 : decode cX12_tells 11 = .ok (.invokevirtual 294, 3) := by decide +kernel
theorem dX12_tells_14 : decode cX12_tells 14 = .ok (.istore_n 1, 1) := by decide +kernel
theorem dX12_tells_15 : decode cX12_tells 15 = .ok (.iconst 0, 1) := by decide +kernel
theorem dX12_tells_16 : decode cX12_tells 16 = .ok (.istore_n 2, 1) := by decide +kernel
theorem dX12_tells_17 : decode cX12_tells 17 = .ok (.iconst 0, 1) := by decide +kernel
theorem dX12_tells_18 : decode cX12_tells 18 = .ok (.istore_n 3, 1) := by decide +kernel
theorem dX12_tells_19 : decode cX12_tells 19 = .ok (.iload_n 3, 1) := by decide +kernel
theorem dX12_tells_20 : decode cX12_tells 20 = .ok (.aload_n 0, 1) := by decide +kernel
theorem dX12_tells_21 : decode cX12_tells 21 = .ok (.getfield 29, 3) := by decide +kernel
theorem dX12_tells_24 : decode cX12_tells 24 = .ok (.aload_n 0, 1) := by decide +kernel
theorem dX12_tells_25 : decode cX12_tells 25 = .ok (.getfield 269, 3) := by decide +kernel
theorem dX12_tells_28 : decode cX12_tells 28 = .ok (.iaload, 1) := by decide +kernel
theorem dX12_tells_29 : decode cX12_tells 29 = .ok (.if_icmp .ge 41, 3) := by decide +kernel
theorem dX12_tells_32 : decode cX12_tells 32 = .ok (.iload_n 2, 1) := by decide +kernel
theorem dX12_tells_33 : decode cX12_tells 33 = .ok (.ifCond .ne 25, 3) := by decide +kernel
theorem dX12_tells_36 : decode cX12_tells 36 = .ok (.aload_n 0, 1) := by decide +kernel
theorem dX12_tells_37 : decode cX12_tells 37 = .ok (.iload_n 1, 1) := by decide +kernel
theorem dX12_tells_38 : decode cX12_tells 38 = .ok (.aload_n 0, 1) := by decide +kernel
theorem dX12_tells_39 : decode cX12_tells 39 = .ok (.getfield 47, 3) := by decide +kernel
theorem dX12_tells_42 : decode cX12_tells 42 = .ok (.bipush 24, 2) := by decide +kernel
theorem dX12_tells_44 : decode cX12_tells 44 = .ok (.aload_n 0, 1) := by decide +kernel
