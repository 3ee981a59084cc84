theorem dX12_isItem_53 : decode cX12_isItem 53 = .ok (.ireturn, 1) := by decide +kernel
theorem dX12_state_0 : decode cX12_state 0 = .ok (.aload_n 0, 1) := by decide +kernel
theorem dX12_state_1 : decode cX12_state 1 = .ok (.iload_n 1, 1) := by decide +kernel
theorem dX12_state_2 : decode cX12_state 2 = .ok (.iload_n 2, 1) := by decide +kernel
theorem dX12_state_3 : decode cX12_state 3 = .ok (.invokevirtual 448, 3) := by decide +kernel
theorem dX12_state_6 : decode cX12_state 6 = .ok (.ifCond .eq 18, 3) := by decide +kernel
theorem dX12_state_9 : decode cX12_state 9 = .ok (.aload_n 0, 1) := by decide +kernel
theorem dX12_state_10 : decode cX12_state 10 = .ok (.getfield 116, 3) := by decide +kernel
theorem dX12_state_13 : decode cX12_state 13 = .ok (.sipush 160, 3) := by decide +kernel
theorem dX12_state_16 : decode cX12_state 16 = .ok (.iload_n 1, 1) := by decide +kernel
theorem dX12_state_17 : decode cX12_state 17 = .ok (.imul, 1) := by decide +kernel
theorem dX12_state_18 : decode cX12_state 18 = .ok (.iload_n 2, 1) := by decide +kernel
theorem dX12_state_19 : decode cX12_state 19 = .ok (.iadd, 1) := by decide +kernel
theorem dX12_state_20 : decode cX12_state 20 = .ok (.iaload, 1) := by decide +kernel
theorem dX12_state_21 : decode cX12_state 21 = .ok (.goto 4, 3) := by decide +kernel
theorem dX12_state_24 : decode cX12_state 24 = .ok (.iconst (-1), 1) := by decide +kernel
theorem dX12_state_25 : decode cX12_state 25 = .ok (.ireturn, 1) := by decide +kernel
theorem dX12_letter_0 : decode cX12_letter 0 = .ok (.iload_n 3, 1) := by decide +kernel
theorem dX12_letter_1 : decode cX12_letter 1 = .ok (.iconst (-1), 1) := by decide +kernel
theorem dX12_letter_2 : decode cX12_letter 2 = .ok (.if_icmp .ne 15, 3) := by decide +kernel
theorem dX12_letter_5 : decode cX12_letter 5 = .ok (.aload_n 0, 1) := by decide +kernel
theorem dX12_letter_6 : decode cX12_letter 6 = .ok (.iload_n 1, 1) := by decide +kernel
theorem dX12_letter_7 : decode cX12_letter 7 = .ok (.iload_n 2, 1) := by decide +kernel
theorem dX12_letter_8 : decode cX12_letter 8 = .ok (.invokevirtual 439, 3) := by decide +kernel
theorem dX12_letter_11 : decode cX12_letter 11 = .ok (.ifCond .eq 16, 3) := by decide +kernel
theorem dX12_letter_14 : decode cX12_letter 14 = .ok (.goto 15, 3) := by decide +kernel
theorem dX12_letter_17 : decode cX12_letter 17 = .ok (.aload_n 0, 1) := by decide +kernel
theorem dX12_letter_18 : decode cX12_letter 18 = .ok (.iload_n 1, 1) := by decide +kernel
theorem dX12_letter_19 : decode cX12_letter 19 = .ok (.iload_n 2, 1) := by decide +kernel
theorem dX12_letter_20 : decode cX12_letter 20 = .ok (.iload_n 3, 1) := by decide +kernel
theorem dX12_letter_21 : decode cX12_letter 21 = .ok (.invokevirtual 451, 3) := by decide +kernel
theorem dX12_letter_24 : decode cX12_letter 24 = .ok (.ifCond .ne 5, 3) := by decide +kernel
theorem dX12_letter_27 : decode cX12_letter 27 = .ok (.iconst (-1), 1) := by decide +kernel
theorem dX12_letter_28 : decode cX12_letter 28 = .ok (.ireturn, 1) := by decide +kernel
theorem dX12_letter_29 : decode cX12_letter 29 = .ok (.bipush 12, 2) := by decide +kernel
theorem dX12_letter_31 : decode cX12_letter 31 = .ok (.iload_n 1, 1) := by decide +kernel
theorem dX12_letter_32 : decode cX12_letter 32 = .ok (.imul, 1) := by decide +kernel
theorem dX12_letter_33 : decode cX12_letter 33 = .ok (.iload_n 2, 1) := by decide +kernel
theorem dX12_letter_34 : decode cX12_letter 34 = .ok (.iadd, 1) := by decide +kernel
theorem dX12_letter_35 : decode cX12_letter 35 = .ok (.istore 5, 2) := by decide +kernel
theorem dX12_letter_37 : decode cX12_letter 37 = .ok (.iload_n 3, 1) := by decide +kernel
theorem dX12_letter_38 : decode cX12_letter 38 = .ok (.iconst (-1), 1) := by decide +kernel
theorem dX12_letter_39 : decode cX12_letter 39 = .ok (.if_icmp .ne 13, 3) := by decide +kernel
theorem dX12_letter_42 : decode cX12_letter 42 = .ok (.aload_n 0, 1) := by decide +kernel
theorem dX12_letter_43 : decode cX12_letter 43 = .ok (.getfield 26, 3) := by decide +kernel
theorem dX12_letter_46 : decode cX12_letter 46 = .ok (.iload 5, 2) := by decide +kernel
theorem dX12_letter_48 : decode cX12_letter 48 = .ok (.iaload, 1) := by decide +kernel
theorem dX12_letter_49 : decode cX12_letter 49 = .ok (.goto 15, 3) := by decide +kernel
theorem dX12_letter_52 : decode cX12_letter 52 = .ok (.aload_n 0, 1) := by decide +kernel
theorem dX12_letter_53 : decode cX12_letter 53 = .ok (.getfield 47, 3) := by decide +kernel
theorem dX12_letter_56 : decode cX12_letter 56 = .ok (.bipush 24, 2) := by decide +kernel
theorem dX12_letter_58 : decode cX12_letter 58 = .ok (.iload 5, 2) := by decide +kernel
theorem dX12_letter_60 : decode cX12_letter 60 = .ok (.imul, 1) := by decide +kernel
theorem dX12_letter_61 : decode cX12_letter 61 = .ok (.iload_n 3, 1) := by decide +kernel
theorem dX12_letter_62 : decode cX12_letter 62 = .ok (.iadd, 1) := by decide +kernel
theorem dX12_letter_63 : decode cX12_letter 63 = .ok (.iaload, 1) := by decide +kernel
theorem dX12_letter_64 : decode cX12_letter 64 = .ok (.istore 6, 2) := by decide +kernel
theorem dX12_letter_66 : decode cX12_letter 66 = .ok (.iload 4, 2) := by decide +kernel
theorem dX12_letter_68 : decode cX12_letter 68 = .ok (.ifCond .lt 29, 3) := by decide +kernel
theorem dX12_letter_71 : decode cX12_letter 71 = .ok (.iload 4, 2) := by decide +kernel
theorem dX12_letter_73 : decode cX12_letter 73 = .ok (.iload 6, 2) := by decide +kernel
theorem dX12_letter_75 : decode cX12_letter 75 = .ok (.bipush 16, 2) := by decide +kernel
theorem dX12_letter_77 : decode cX12_letter 77 = .ok (.irem, 1) := by decide +kernel
theorem dX12_letter_78 : decode cX12_letter 78 = .ok (.if_icmp .ge 19, 3) := by decide +kernel
theorem dX12_letter_81 : decode cX12_letter 81 = .ok (.aload_n 0, 1) := by decide +kernel
theorem dX12_letter_82 : decode cX12_letter 82 = .ok (.getfield 13, 3) := by decide +kernel
theorem dX12_letter_85 : decode cX12_letter 85 = .ok (.iload 6, 2) := by decide +kernel
theorem dX12_letter_87 : decode cX12_letter 87 = .ok (.bipush 16, 2) := by decide +kernel
theorem dX12_letter_89 : decode cX12_letter 89 = .ok (.idiv, 1) := by decide +kernel
theorem dX12_letter_90 : decode cX12_letter 90 = .ok (.iload 4, 2) := by decide +kernel
theorem dX12_letter_92 : decode cX12_letter 92 = .ok (.iadd, 1) := by decide +kernel
theorem dX12_letter_93 : decode cX12_letter 93 = .ok (.baload, 1) := by decide +kernel
theorem dX12_letter_94 : decode cX12_letter 94 = .ok (.goto 4, 3) := by decide +kernel
theorem dX12_letter_97 : decode cX12_letter 97 = .ok (.iconst (-1), 1) := by decide +kernel
theorem dX12_letter_98 : decode cX12_letter 98 = .ok (.ireturn, 1) := by decide +kernel
theorem dX12_body_0 : decode cX12_body 0 = .ok (.iload_n 3, 1) := by decide +kernel
theorem dX12_body_1 : decode cX12_body 1 = .ok (.iconst (-1), 1) := by decide +kernel
theorem dX12_body_2 : decode cX12_body 2 = .ok (.if_icmp .ne 15, 3) := by decide +kernel
theorem dX12_body_5 : decode cX12_body 5 = .ok (.aload_n 0, 1) := by decide +kernel
theorem dX12_body_6 : decode cX12_body 6 = .ok (.iload_n 1, 1) := by decide +kernel
theorem dX12_body_7 : decode cX12_body 7 = .ok (.iload_n 2, 1) := by decide +kernel
theorem dX12_body_8 : decode cX12_body 8 = .ok (.invokevirtual 439, 3) := by decide +kernel
theorem dX12_body_11 : decode cX12_body 11 = .ok (.ifCond .eq 32, 3) := by decide +kernel
theorem dX12_body_14 : decode cX12_body 14 = .ok (.goto 13, 3) := by decide +kernel
theorem dX12_body_17 : decode cX12_body 17 = .ok (.aload_n 0, 1) := by decide +kernel
theorem dX12_body_18 : decode cX12_body 18 = .ok (.iload_n 1, 1) := by decide +kernel
theorem dX12_body_19 : decode cX12_body 19 = .ok (.iload_n 2, 1) := by decide +kernel
theorem dX12_body_20 : decode cX12_body 20 = .ok (.iload_n 3, 1) := by decide +kernel
theorem dX12_body_21 : decode cX12_body 21 = .ok (.invokevirtual 451, 3) := by decide +kernel
theorem dX12_body_24 : decode cX12_body 24 = .ok (.ifCond .eq 19, 3) := by decide +kernel
theorem dX12_body_27 : decode cX12_body 27 = .ok (.iload 4, 2) := by decide +kernel
theorem dX12_body_29 : decode cX12_body 29 = .ok (.ifCond .lt 14, 3) := by decide +kernel
theorem dX12_body_32 : decode cX12_body 32 = .ok (.iload 4, 2) := by decide +kernel
theorem dX12_body_34 : decode cX12_body 34 = .ok (.aload_n 0, 1) := by decide +kernel
theorem dX12_body_35 : decode cX12_body 35 = .ok (.getfield 20, 3) := by decide +kernel
theorem dX12_body_38 : decode cX12_body 38 = .ok (.iload_n 1, 1) := by decide +kernel
theorem dX12_body_39 : decode cX12_body 39 = .ok (.iaload, 1) := by decide +kernel
theorem dX12_body_40 : decode cX12_body 40 = .ok (.if_icmp .lt 5, 3) := by decide +kernel
theorem dX12_body_43 : decode cX12_body 43 = .ok (.iconst (-1), 1) := by decide +kernel
theorem dX12_body_44 : decode cX12_body 44 = .ok (.ireturn, 1) := by decide +kernel
theorem dX12_body_45 : decode cX12_body 45 = .ok (.bipush 12, 2) := by decide +kernel
theorem dX12_body_47 : decode cX12_body 47 = .ok (.iload_n 1, 1) := by decide +kernel
theorem dX12_body_48 : decode cX12_body 48 = .ok (.imul, 1) := by decide +kernel
theorem dX12_body_49 : decode cX12_body 49 = .ok (.iload_n 2, 1) := by decide +kernel
theorem dX12_body_50 : decode cX12_body 50 = .ok (.iadd, 1) := by decide +kernel
theorem dX12_body_51 : decode cX12_body 51 = .ok (.istore 5, 2) := by decide +kernel
theorem dX12_body_53 : decode cX12_body 53 = .ok (.iload_n 3, 1) := by decide +kernel
theorem dX12_body_54 : decode cX12_body 54 = .ok (.iconst (-1), 1) := by decide +kernel
theorem dX12_body_55 : decode cX12_body 55 = .ok (.if_icmp .ne 18, 3) := by decide +kernel
theorem dX12_body_58 : decode cX12_body 58 = .ok (.aload_n 0, 1) := by decide +kernel
theorem dX12_body_59 : decode cX12_body 59 = .ok (.getfield 44, 3) := by decide +kernel
theorem dX12_body_62 : decode cX12_body 62 = .ok (.iconst 4, 1) := by decide +kernel
theorem dX12_body_63 : decode cX12_body 63 = .ok (.iload 5, 2) := by decide +kernel
theorem dX12_body_65 : decode cX12_body 65 = .ok (.imul, 1) := by decide +kernel
theorem dX12_body_66 : decode cX12_body 66 = .ok (.iload 4, 2) := by decide +kernel
theorem dX12_body_68 : decode cX12_body 68 = .ok (.iadd, 1) := by decide +kernel
theorem dX12_body_69 : decode cX12_body 69 = .ok (.iaload, 1) := by decide +kernel
theorem dX12_body_70 : decode cX12_body 70 = .ok (.goto 20, 3) := by decide +kernel
theorem dX12_body_73 : decode cX12_body 73 = .ok (.aload_n 0, 1) := by decide +kernel
theorem dX12_body_74 : decode cX12_body 74 = .ok (.getfield 53, 3) := by decide +kernel
theorem dX12_body_77 : decode cX12_body 77 = .ok (.iconst 4, 1) := by decide +kernel
theorem dX12_body_78 : decode cX12_body 78 = .ok (.bipush 24, 2) := by decide +kernel
theorem dX12_body_80 : decode cX12_body 80 = .ok (.iload 5, 2) := by decide +kernel
theorem dX12_body_82 : decode cX12_body 82 = .ok (.imul, 1) := by decide +kernel
theorem dX12_body_83 : decode cX12_body 83 = .ok (.iload_n 3, 1) := by decide +kernel
theorem dX12_body_84 : decode cX12_body 84 = .ok (.iadd, 1) := by decide +kernel
theorem dX12_body_85 : decode cX12_body 85 = .ok (.imul, 1) := by decide +kernel
theorem dX12_body_86 : decode cX12_body 86 = .ok (.iload 4, 2) := by decide +kernel
theorem dX12_body_88 : decode cX12_body 88 = .ok (.iadd, 1) := by decide +kernel
theorem dX12_body_89 : decode cX12_body 89 = .ok (.iaload, 1) := by decide +kernel
theorem dX12_body_90 : decode cX12_body 90 = .ok (.iconst (-1), 1) := by decide +kernel
theorem dX12_body_91 : decode cX12_body 91 = .ok (.if_icmp .eq 7, 3) := by decide +kernel
theorem dX12_body_94 : decode cX12_body 94 = .ok (.iconst 1, 1) := by decide +kernel
theorem dX12_body_95 : decode cX12_body 95 = .ok (.goto 4, 3) := by decide +kernel
theorem dX12_body_98 : decode cX12_body 98 = .ok (.iconst 0, 1) := by decide +kernel
theorem dX12_body_99 : decode cX12_body 99 = .ok (.ireturn, 1) := by decide +kernel
theorem dX12_use__0 : decode cX12_use_ 0 = .ok (.aload_n 0, 1) := by decide +kernel
theorem dX12_use__1 : decode cX12_use_ 1 = .ok (.iload_n 1, 1) := by decide +kernel
theorem dX12_use__2 : decode cX12_use_ 2 = .ok (.iload_n 2, 1) := by decide +kernel
theorem dX12_use__3 : decode cX12_use_ 3 = .ok (.invokevirtual 439, 3) := by decide +kernel
theorem dX12_use__6 : decode cX12_use_ 6 = .ok (.ifCond .eq 12, 3) := by decide +kernel
theorem dX12_use__9 : decode cX12_use_ 9 = .ok (.aload_n 0, 1) := by decide +kernel
theorem dX12_use__10 : decode cX12_use_ 10 = .ok (.iload_n 1, 1) := by decide +kernel
theorem dX12_use__11 : decode cX12_use_ 11 = .ok (.iload_n 2, 1) := by decide +kernel
theorem dX12_use__12 : decode cX12_use_ 12 = .ok (.invokevirtual 455, 3) := by decide +kernel
theorem dX12_use__15 : decode cX12_use_ 15 = .ok (.goto 4, 3) := by decide +kernel
theorem dX12_use__18 : decode cX12_use_ 18 = .ok (.iconst (-1), 1) := by decide +kernel
theorem dX12_use__19 : decode cX12_use_ 19 = .ok (.ireturn, 1) := by decide +kernel
theorem dX12_argument_0 : decode cX12_argument 0 = .ok (.aload_n 0, 1) := by decide +kernel
theorem dX12_argument_1 : decode cX12_argument 1 = .ok (.iload_n 1, 1) := by decide +kernel
theorem dX12_argument_2 : decode cX12_argument 2 = .ok (.iload_n 2, 1) := by decide +kernel
theorem dX12_argument_3 : decode cX12_argument 3 = .ok (.iload_n 3, 1) := by decide +kernel
theorem dX12_argument_4 : decode cX12_argument 4 = .ok (.invokevirtual 451, 3) := by decide +kernel
theorem dX12_argument_7 : decode cX12_argument 7 = .ok (.ifCond .ne 5, 3) := by decide +kernel
theorem dX12_argument_10 : decode cX12_argument 10 = .ok (.iconst (-1), 1) := by decide +kernel
theorem dX12_argument_11 : decode cX12_argument 11 = .ok (.ireturn, 1) := by decide +kernel
theorem dX12_argument_12 : decode cX12_argument 12 = .ok (.aload_n 0, 1) := by decide +kernel
theorem dX12_argument_13 : decode cX12_argument 13 = .ok (.iload_n 1, 1) := by decide +kernel
theorem dX12_argument_14 : decode cX12_argument 14 = .ok (.iload_n 2, 1) := by decide +kernel
theorem dX12_argument_15 : decode cX12_argument 15 = .ok (.invokevirtual 455, 3) := by decide +kernel
theorem dX12_argument_18 : decode cX12_argument 18 = .ok (.istore 4, 2) := by decide +kernel
theorem dX12_argument_20 : decode cX12_argument 20 = .ok (.aload_n 0, 1) := by decide +kernel
theorem dX12_argument_21 : decode cX12_argument 21 = .ok (.aload_n 0, 1) := by decide +kernel
theorem dX12_argument_22 : decode cX12_argument 22 = .ok (.getfield 122, 3) := by decide +kernel
theorem dX12_argument_25 : decode cX12_argument 25 = .ok (.bipush 24, 2) := by decide +kernel
theorem dX12_argument_27 : decode cX12_argument 27 = .ok (.bipush 12, 2) := by decide +kernel
theorem dX12_argument_29 : decode cX12_argument 29 = .ok (.iload_n 1, 1) := by decide +kernel
theorem dX12_argument_30 : decode cX12_argument 30 = .ok (.imul, 1) := by decide +kernel
theorem dX12_argument_31 : decode cX12_argument 31 = .ok (.iload_n 2, 1) := by decide +kernel
theorem dX12_argument_32 : decode cX12_argument 32 = .ok (.iadd, 1) := by decide +kernel
theorem dX12_argument_33 : decode cX12_argument 33 = .ok (.imul, 1) := by decide +kernel
theorem dX12_argument_34 : decode cX12_argument 34 = .ok (.iload_n 3, 1) := by decide +kernel
theorem dX12_argument_35 : decode cX12_argument 35 = .ok (.iadd, 1) := by decide +kernel
theorem dX12_argument_36 : decode cX12_argument 36 = .ok (.iaload, 1) := by decide +kernel
theorem dX12_argument_37 : decode cX12_argument 37 = .ok (.invokevirtual 458, 3) := by decide +kernel
theorem dX12_argument_40 : decode cX12_argument 40 = .ok (.ireturn, 1) := by decide +kernel
theorem dX12_act_0 : decode cX12_act 0 = .ok (.aload_n 0, 1) := by decide +kernel
theorem dX12_act_1 : decode cX12_act 1 = .ok (.iload_n 1, 1) := by decide +kernel
theorem dX12_act_2 : decode cX12_act 2 = .ok (.iload_n 2, 1) := by decide +kernel
theorem dX12_act_3 : decode cX12_act 3 = .ok (.iload_n 3, 1) := by decide +kernel
theorem dX12_act_4 : decode cX12_act 4 = .ok (.invokevirtual 451, 3) := by decide +kernel
theorem dX12_act_7 : decode cX12_act 7 = .ok (.ifCond .eq 19, 3) := by decide +kernel
theorem dX12_act_10 : decode cX12_act 10 = .ok (.iload 4, 2) := by decide +kernel
theorem dX12_act_12 : decode cX12_act 12 = .ok (.ifCond .lt 14, 3) := by decide +kernel
theorem dX12_act_15 : decode cX12_act 15 = .ok (.iload 4, 2) := by decide +kernel
theorem dX12_act_17 : decode cX12_act 17 = .ok (.aload_n 0, 1) := by decide +kernel
theorem dX12_act_18 : decode cX12_act 18 = .ok (.getfield 20, 3) := by decide +kernel
theorem dX12_act_21 : decode cX12_act 21 = .ok (.iload_n 1, 1) := by decide +kernel
theorem dX12_act_22 : decode cX12_act 22 = .ok (.iaload, 1) := by decide +kernel
theorem dX12_act_23 : decode cX12_act 23 = .ok (.if_icmp .lt 5, 3) := by decide +kernel
theorem dX12_act_26 : decode cX12_act 26 = .ok (.iconst (-1), 1) := by decide +kernel
theorem dX12_act_27 : decode cX12_act 27 = .ok (.ireturn, 1) := by decide +kernel
theorem dX12_act_28 : decode cX12_act 28 = .ok (.bipush 24, 2) := by decide +kernel
theorem dX12_act_30 : decode cX12_act 30 = .ok (.bipush 12, 2) := by decide +kernel
theorem dX12_act_32 : decode cX12_act 32 = .ok (.iload_n 1, 1) := by decide +kernel
theorem dX12_act_33 : decode cX12_act 33 = .ok (.imul, 1) := by decide +kernel
theorem dX12_act_34 : decode cX12_act 34 = .ok (.iload_n 2, 1) := by decide +kernel
theorem dX12_act_35 : decode cX12_act 35 = .ok (.iadd, 1) := by decide +kernel
theorem dX12_act_36 : decode cX12_act 36 = .ok (.imul, 1) := by decide +kernel
theorem dX12_act_37 : decode cX12_act 37 = .ok (.iload_n 3, 1) := by decide +kernel
theorem dX12_act_38 : decode cX12_act 38 = .ok (.iadd, 1) := by decide +kernel
theorem dX12_act_39 : decode cX12_act 39 = .ok (.istore 5, 2) := by decide +kernel
theorem dX12_act_41 : decode cX12_act 41 = .ok (.aload_n 0, 1) := by decide +kernel
theorem dX12_act_42 : decode cX12_act 42 = .ok (.iload_n 1, 1) := by decide +kernel
theorem dX12_act_43 : decode cX12_act 43 = .ok (.iload_n 2, 1) := by decide +kernel
theorem dX12_act_44 : decode cX12_act 44 = .ok (.invokevirtual 455, 3) := by decide +kernel
theorem dX12_act_47 : decode cX12_act 47 = .ok (.bipush (-3), 2) := by decide +kernel
theorem dX12_act_49 : decode cX12_act 49 = .ok (.if_icmp .ne 6, 3) := by decide +kernel
theorem dX12_act_52 : decode cX12_act 52 = .ok (.bipush (-3), 2) := by decide +kernel
theorem dX12_act_54 : decode cX12_act 54 = .ok (.ireturn, 1) := by decide +kernel
theorem dX12_act_55 : decode cX12_act 55 = .ok (.aload_n 0, 1) := by decide +kernel
theorem dX12_act_56 : decode cX12_act 56 = .ok (.getfield 53, 3) := by decide +kernel
theorem dX12_act_59 : decode cX12_act 59 = .ok (.iconst 4, 1) := by decide +kernel
theorem dX12_act_60 : decode cX12_act 60 = .ok (.iload 5, 2) := by decide +kernel
theorem dX12_act_62 : decode cX12_act 62 = .ok (.imul, 1) := by decide +kernel
theorem dX12_act_63 : decode cX12_act 63 = .ok (.iload 4, 2) := by decide +kernel
theorem dX12_act_65 : decode cX12_act 65 = .ok (.iadd, 1) := by decide +kernel
theorem dX12_act_66 : decode cX12_act 66 = .ok (.iaload, 1) := by decide +kernel
theorem dX12_act_67 : decode cX12_act 67 = .ok (.iconst (-1), 1) := by decide +kernel
theorem dX12_act_68 : decode cX12_act 68 = .ok (.if_icmp .eq 18, 3) := by decide +kernel
theorem dX12_act_71 : decode cX12_act 71 = .ok (.aload_n 0, 1) := by decide +kernel
theorem dX12_act_72 : decode cX12_act 72 = .ok (.getfield 53, 3) := by decide +kernel
theorem dX12_act_75 : decode cX12_act 75 = .ok (.iconst 4, 1) := by decide +kernel
theorem dX12_act_76 : decode cX12_act 76 = .ok (.iload 5, 2) := by decide +kernel
theorem dX12_act_78 : decode cX12_act 78 = .ok (.imul, 1) := by decide +kernel
theorem dX12_act_79 : decode cX12_act 79 = .ok (.iload 4, 2) := by decide +kernel
theorem dX12_act_81 : decode cX12_act 81 = .ok (.iadd, 1) := by decide +kernel
theorem dX12_act_82 : decode cX12_act 82 = .ok (.iaload, 1) := by decide +kernel
theorem dX12_act_83 : decode cX12_act 83 = .ok (.goto 19, 3) := by decide +kernel
theorem dX12_act_86 : decode cX12_act 86 = .ok (.aload_n 0, 1) := by decide +kernel
theorem dX12_act_87 : decode cX12_act 87 = .ok (.getfield 44, 3) := by decide +kernel
theorem dX12_act_90 : decode cX12_act 90 = .ok (.iconst 4, 1) := by decide +kernel
theorem dX12_act_91 : decode cX12_act 91 = .ok (.bipush 12, 2) := by decide +kernel
theorem dX12_act_93 : decode cX12_act 93 = .ok (.iload_n 1, 1) := by decide +kernel
theorem dX12_act_94 : decode cX12_act 94 = .ok (.imul, 1) := by decide +kernel
theorem dX12_act_95 : decode cX12_act 95 = .ok (.iload_n 2, 1) := by decide +kernel
theorem dX12_act_96 : decode cX12_act 96 = .ok (.iadd, 1) := by decide +kernel
theorem dX12_act_97 : decode cX12_act 97 = .ok (.imul, 1) := by decide +kernel
theorem dX12_act_98 : decode cX12_act 98 = .ok (.iload 4, 2) := by decide +kernel
theorem dX12_act_100 : decode cX12_act 100 = .ok (.iadd, 1) := by decide +kernel
theorem dX12_act_101 : decode cX12_act 101 = .ok (.iaload, 1) := by decide +kernel
theorem dX12_act_102 : decode cX12_act 102 = .ok (.istore 6, 2) := by decide +kernel
theorem dX12_act_104 : decode cX12_act 104 = .ok (.iload 6, 2) := by decide +kernel
theorem dX12_act_106 : decode cX12_act 106 = .ok (.iconst (-1), 1) := by decide +kernel
theorem dX12_act_107 : decode cX12_act 107 = .ok (.if_icmp .ne 12, 3) := by decide +kernel
theorem dX12_act_110 : decode cX12_act 110 = .ok (.aload_n 0, 1) := by decide +kernel
theorem dX12_act_111 : decode cX12_act 111 = .ok (.iconst 5, 1) := by decide +kernel
theorem dX12_act_112 : decode cX12_act 112 = .ok (.iconst (-1), 1) := by decide +kernel
theorem dX12_act_113 : decode cX12_act 113 = .ok (.invokevirtual 407, 3) := by decide +kernel
theorem dX12_act_116 : decode cX12_act 116 = .ok (.goto 13, 3) := by decide +kernel
theorem dX12_act_119 : decode cX12_act 119 = .ok (.aload_n 0, 1) := by decide +kernel
theorem dX12_act_120 : decode cX12_act 120 = .ok (.iload 6, 2) := by decide +kernel
theorem dX12_act_122 : decode cX12_act 122 = .ok (.iload 5, 2) := by decide +kernel
theorem dX12_act_124 : decode cX12_act 124 = .ok (.iload 4, 2) := by decide +kernel
theorem dX12_act_126 : decode cX12_act 126 = .ok (.invokevirtual 422, 3) := by decide +kernel
theorem dX12_act_129 : decode cX12_act 129 = .ok (.istore 7, 2) := by decide +kernel
theorem dX12_act_131 : decode cX12_act 131 = .ok (.aload_n 0, 1) := by decide +kernel
theorem dX12_act_132 : decode cX12_act 132 = .ok (.iload 7, 2) := by decide +kernel
theorem dX12_act_134 : decode cX12_act 134 = .ok (.invokevirtual 458, 3) := by decide +kernel
theorem dX12_act_137 : decode cX12_act 137 = .ok (.ireturn, 1) := by decide +kernel
theorem dX12_entry_0 : decode cX12_entry 0 = .ok (.aload_n 0, 1) := by decide +kernel
theorem dX12_entry_1 : decode cX12_entry 1 = .ok (.iload_n 1, 1) := by decide +kernel
theorem dX12_entry_2 : decode cX12_entry 2 = .ok (.iload_n 2, 1) := by decide +kernel
theorem dX12_entry_3 : decode cX12_entry 3 = .ok (.invokevirtual 439, 3) := by decide +kernel
theorem dX12_entry_6 : decode cX12_entry 6 = .ok (.ifCond .eq 22, 3) := by decide +kernel
theorem dX12_entry_9 : decode cX12_entry 9 = .ok (.iload_n 3, 1) := by decide +kernel
theorem dX12_entry_10 : decode cX12_entry 10 = .ok (.ifCond .lt 18, 3) := by decide +kernel
theorem dX12_entry_13 : decode cX12_entry 13 = .ok (.iload_n 3, 1) := by decide +kernel
theorem dX12_entry_14 : decode cX12_entry 14 = .ok (.aload_n 0, 1) := by decide +kernel
theorem dX12_entry_15 : decode cX12_entry 15 = .ok (.getfield 32, 3) := by decide +kernel
theorem dX12_entry_18 : decode cX12_entry 18 = .ok (.bipush 12, 2) := by decide +kernel
theorem dX12_entry_20 : decode cX12_entry 20 = .ok (.iload_n 1, 1) := by decide +kernel
theorem dX12_entry_21 : decode cX12_entry 21 = .ok (.imul, 1) := by decide +kernel
theorem dX12_entry_22 : decode cX12_entry 22 = .ok (.iload_n 2, 1) := by decide +kernel
theorem dX12_entry_23 : decode cX12_entry 23 = .ok (.iadd, 1) := by decide +kernel
theorem dX12_entry_24 : decode cX12_entry 24 = .ok (.iaload, 1) := by decide +kernel
theorem dX12_entry_25 : decode cX12_entry 25 = .ok (.if_icmp .lt 5, 3) := by decide +kernel
theorem dX12_entry_28 : decode cX12_entry 28 = .ok (.iconst (-1), 1) := by decide +kernel
theorem dX12_entry_29 : decode cX12_entry 29 = .ok (.ireturn, 1) := by decide +kernel
theorem dX12_entry_30 : decode cX12_entry 30 = .ok (.iconst 4, 1) := by decide +kernel
theorem dX12_entry_31 : decode cX12_entry 31 = .ok (.bipush 12, 2) := by decide +kernel
theorem dX12_entry_33 : decode cX12_entry 33 = .ok (.iload_n 1, 1) := by decide +kernel
theorem dX12_entry_34 : decode cX12_entry 34 = .ok (.imul, 1) := by decide +kernel
theorem dX12_entry_35 : decode cX12_entry 35 = .ok (.iload_n 2, 1) := by decide +kernel
theorem dX12_entry_36 : decode cX12_entry 36 = .ok (.iadd, 1) := by decide +kernel
theorem dX12_entry_37 : decode cX12_entry 37 = .ok (.imul, 1) := by decide +kernel
theorem dX12_entry_38 : decode cX12_entry 38 = .ok (.iload_n 3, 1) := by decide +kernel
theorem dX12_entry_39 : decode cX12_entry 39 = .ok (.iadd, 1) := by decide +kernel
theorem dX12_entry_40 : decode cX12_entry 40 = .ok (.istore 5, 2) := by decide +kernel
theorem dX12_entry_42 : decode cX12_entry 42 = .ok (.iload 4, 2) := by decide +kernel
theorem dX12_entry_44 : decode cX12_entry 44 = .ok (.ifCond .lt 15, 3) := by decide +kernel
theorem dX12_entry_47 : decode cX12_entry 47 = .ok (.iload 4, 2) := by decide +kernel
theorem dX12_entry_49 : decode cX12_entry 49 = .ok (.aload_n 0, 1) := by decide +kernel
theorem dX12_entry_50 : decode cX12_entry 50 = .ok (.getfield 59, 3) := by decide +kernel
theorem dX12_entry_53 : decode cX12_entry 53 = .ok (.iload 5, 2) := by decide +kernel
theorem dX12_entry_55 : decode cX12_entry 55 = .ok (.iaload, 1) := by decide +kernel
theorem dX12_entry_56 : decode cX12_entry 56 = .ok (.if_icmp .lt 5, 3) := by decide +kernel
theorem dX12_entry_59 : decode cX12_entry 59 = .ok (.iconst (-1), 1) := by decide +kernel
theorem dX12_entry_60 : decode cX12_entry 60 = .ok (.ireturn, 1) := by decide +kernel
theorem dX12_entry_61 : decode cX12_entry 61 = .ok (.aload_n 0, 1) := by decide +kernel
theorem dX12_entry_62 : decode cX12_entry 62 = .ok (.iload_n 1, 1) := by decide +kernel
theorem dX12_entry_63 : decode cX12_entry 63 = .ok (.iload_n 2, 1) := by decide +kernel
theorem dX12_entry_64 : decode cX12_entry 64 = .ok (.invokevirtual 455, 3) := by decide +kernel
theorem dX12_entry_67 : decode cX12_entry 67 = .ok (.istore 6, 2) := by decide +kernel
theorem dX12_entry_69 : decode cX12_entry 69 = .ok (.aload_n 0, 1) := by decide +kernel
theorem dX12_entry_70 : decode cX12_entry 70 = .ok (.aload_n 0, 1) := by decide +kernel
theorem dX12_entry_71 : decode cX12_entry 71 = .ok (.getfield 128, 3) := by decide +kernel
theorem dX12_entry_74 : decode cX12_entry 74 = .ok (.bipush 12, 2) := by decide +kernel
theorem dX12_entry_76 : decode cX12_entry 76 = .ok (.iload 5, 2) := by decide +kernel
theorem dX12_entry_78 : decode cX12_entry 78 = .ok (.imul, 1) := by decide +kernel
theorem dX12_entry_79 : decode cX12_entry 79 = .ok (.iload 4, 2) := by decide +kernel
theorem dX12_entry_81 : decode cX12_entry 81 = .ok (.iadd, 1) := by decide +kernel
theorem dX12_entry_82 : decode cX12_entry 82 = .ok (.iaload, 1) := by decide +kernel
theorem dX12_entry_83 : decode cX12_entry 83 = .ok (.invokevirtual 458, 3) := by decide +kernel
theorem dX12_entry_86 : decode cX12_entry 86 = .ok (.ireturn, 1) := by decide +kernel
theorem dX12_holder_0 : decode cX12_holder 0 = .ok (.aload_n 0, 1) := by decide +kernel
theorem dX12_holder_1 : decode cX12_holder 1 = .ok (.iload_n 1, 1) := by decide +kernel
theorem dX12_holder_2 : decode cX12_holder 2 = .ok (.iload_n 2, 1) := by decide +kernel
theorem dX12_holder_3 : decode cX12_holder 3 = .ok (.invokevirtual 439, 3) := by decide +kernel
theorem dX12_holder_6 : decode cX12_holder 6 = .ok (.ifCond .eq 22, 3) := by decide +kernel
theorem dX12_holder_9 : decode cX12_holder 9 = .ok (.iload_n 3, 1) := by decide +kernel
theorem dX12_holder_10 : decode cX12_holder 10 = .ok (.ifCond .lt 18, 3) := by decide +kernel
theorem dX12_holder_13 : decode cX12_holder 13 = .ok (.iload_n 3, 1) := by decide +kernel
theorem dX12_holder_14 : decode cX12_holder 14 = .ok (.aload_n 0, 1) := by decide +kernel
theorem dX12_holder_15 : decode cX12_holder 15 = .ok (.getfield 38, 3) := by decide +kernel
theorem dX12_holder_18 : decode cX12_holder 18 = .ok (.bipush 12, 2) := by decide +kernel
theorem dX12_holder_20 : decode cX12_holder 20 = .ok (.iload_n 1, 1) := by decide +kernel
theorem dX12_holder_21 : decode cX12_holder 21 = .ok (.imul, 1) := by decide +kernel
theorem dX12_holder_22 : decode cX12_holder 22 = .ok (.iload_n 2, 1) := by decide +kernel
theorem dX12_holder_23 : decode cX12_holder 23 = .ok (.iadd, 1) := by decide +kernel
theorem dX12_holder_24 : decode cX12_holder 24 = .ok (.iaload, 1) := by decide +kernel
theorem dX12_holder_25 : decode cX12_holder 25 = .ok (.if_icmp .lt 5, 3) := by decide +kernel
theorem dX12_holder_28 : decode cX12_holder 28 = .ok (.iconst (-1), 1) := by decide +kernel
theorem dX12_holder_29 : decode cX12_holder 29 = .ok (.ireturn, 1) := by decide +kernel
theorem dX12_holder_30 : decode cX12_holder 30 = .ok (.aload_n 0, 1) := by decide +kernel
theorem dX12_holder_31 : decode cX12_holder 31 = .ok (.iload_n 1, 1) := by decide +kernel
theorem dX12_holder_32 : decode cX12_holder 32 = .ok (.bipush 100, 2) := by decide +kernel
theorem dX12_holder_34 : decode cX12_holder 34 = .ok (.iconst 4, 1) := by decide +kernel
theorem dX12_holder_35 : decode cX12_holder 35 = .ok (.iload_n 2, 1) := by decide +kernel
theorem dX12_holder_36 : decode cX12_holder 36 = .ok (.imul, 1) := by decide +kernel
theorem dX12_holder_37 : decode cX12_holder 37 = .ok (.iadd, 1) := by decide +kernel
theorem dX12_holder_38 : decode cX12_holder 38 = .ok (.iload_n 3, 1) := by decide +kernel
theorem dX12_holder_39 : decode cX12_holder 39 = .ok (.iadd, 1) := by decide +kernel
theorem dX12_holder_40 : decode cX12_holder 40 = .ok (.invokevirtual 455, 3) := by decide +kernel
theorem dX12_holder_43 : decode cX12_holder 43 = .ok (.istore 4, 2) := by decide +kernel
theorem dX12_holder_45 : decode cX12_holder 45 = .ok (.aload_n 0, 1) := by decide +kernel
theorem dX12_holder_46 : decode cX12_holder 46 = .ok (.aload_n 0, 1) := by decide +kernel
theorem dX12_holder_47 : decode cX12_holder 47 = .ok (.getfield 131, 3) := by decide +kernel
theorem dX12_holder_50 : decode cX12_holder 50 = .ok (.iconst 4, 1) := by decide +kernel
theorem dX12_holder_51 : decode cX12_holder 51 = .ok (.bipush 12, 2) := by decide +kernel
theorem dX12_holder_53 : decode cX12_holder 53 = .ok (.iload_n 1, 1) := by decide +kernel
theorem dX12_holder_54 : decode cX12_holder 54 = .ok (.imul, 1) := by decide +kernel
theorem dX12_holder_55 : decode cX12_holder 55 = .ok (.iload_n 2, 1) := by decide +kernel
theorem dX12_holder_56 : decode cX12_holder 56 = .ok (.iadd, 1) := by decide +kernel
theorem dX12_holder_57 : decode cX12_holder 57 = .ok (.imul, 1) := by decide +kernel
theorem dX12_holder_58 : decode cX12_holder 58 = .ok (.iload_n 3, 1) := by decide +kernel
theorem dX12_holder_59 : decode cX12_holder 59 = .ok (.iadd, 1) := by decide +kernel
theorem dX12_holder_60 : decode cX12_holder 60 = .ok (.iaload, 1) := by decide +kernel
theorem dX12_holder_61 : decode cX12_holder 61 = .ok (.invokevirtual 458, 3) := by decide +kernel
theorem dX12_holder_64 : decode cX12_holder 64 = .ok (.ireturn, 1) := by decide +kernel
theorem dX12_branch_0 : decode cX12_branch 0 = .ok (.aload_n 0, 1) := by decide +kernel
theorem dX12_branch_1 : decode cX12_branch 1 = .ok (.iload_n 1, 1) := by decide +kernel
theorem dX12_branch_2 : decode cX12_branch 2 = .ok (.iload_n 2, 1) := by decide +kernel
theorem dX12_branch_3 : decode cX12_branch 3 = .ok (.iload 4, 2) := by decide +kernel
theorem dX12_branch_5 : decode cX12_branch 5 = .ok (.invokevirtual 451, 3) := by decide +kernel
theorem dX12_branch_8 : decode cX12_branch 8 = .ok (.ifCond .eq 22, 3) := by decide +kernel
theorem dX12_branch_11 : decode cX12_branch 11 = .ok (.iload_n 3, 1) := by decide +kernel
theorem dX12_branch_12 : decode cX12_branch 12 = .ok (.ifCond .lt 18, 3) := by decide +kernel
theorem dX12_branch_15 : decode cX12_branch 15 = .ok (.iload_n 3, 1) := by decide +kernel
theorem dX12_branch_16 : decode cX12_branch 16 = .ok (.aload_n 0, 1) := by decide +kernel
theorem dX12_branch_17 : decode cX12_branch 17 = .ok (.getfield 41, 3) := by decide +kernel
theorem dX12_branch_20 : decode cX12_branch 20 = .ok (.bipush 12, 2) := by decide +kernel
theorem dX12_branch_22 : decode cX12_branch 22 = .ok (.iload_n 1, 1) := by decide +kernel
theorem dX12_branch_23 : decode cX12_branch 23 = .ok (.imul, 1) := by decide +kernel
theorem dX12_branch_24 : decode cX12_branch 24 = .ok (.iload_n 2, 1) := by decide +kernel
theorem dX12_branch_25 : decode cX12_branch 25 = .ok (.iadd, 1) := by decide +kernel
theorem dX12_branch_26 : decode cX12_branch 26 = .ok (.iaload, 1) := by decide +kernel
theorem dX12_branch_27 : decode cX12_branch 27 = .ok (.if_icmp .lt 5, 3) := by decide +kernel
theorem dX12_branch_30 : decode cX12_branch 30 = .ok (.iconst (-1), 1) := by decide +kernel
theorem dX12_branch_31 : decode cX12_branch 31 = .ok (.ireturn, 1) := by decide +kernel
theorem dX12_branch_32 : decode cX12_branch 32 = .ok (.aload_n 0, 1) := by decide +kernel
theorem dX12_branch_33 : decode cX12_branch 33 = .ok (.iload_n 1, 1) := by decide +kernel
theorem dX12_branch_34 : decode cX12_branch 34 = .ok (.iload_n 2, 1) := by decide +kernel
theorem dX12_branch_35 : decode cX12_branch 35 = .ok (.invokevirtual 455, 3) := by decide +kernel
theorem dX12_branch_38 : decode cX12_branch 38 = .ok (.bipush (-3), 2) := by decide +kernel
theorem dX12_branch_40 : decode cX12_branch 40 = .ok (.if_icmp .ne 6, 3) := by decide +kernel
theorem dX12_branch_43 : decode cX12_branch 43 = .ok (.bipush (-3), 2) := by decide +kernel
theorem dX12_branch_45 : decode cX12_branch 45 = .ok (.ireturn, 1) := by decide +kernel
theorem dX12_branch_46 : decode cX12_branch 46 = .ok (.iconst 3, 1) := by decide +kernel
theorem dX12_branch_47 : decode cX12_branch 47 = .ok (.bipush 12, 2) := by decide +kernel
theorem dX12_branch_49 : decode cX12_branch 49 = .ok (.iload_n 1, 1) := by decide +kernel
theorem dX12_branch_50 : decode cX12_branch 50 = .ok (.imul, 1) := by decide +kernel
theorem dX12_branch_51 : decode cX12_branch 51 = .ok (.iload_n 2, 1) := by decide +kernel
theorem dX12_branch_52 : decode cX12_branch 52 = .ok (.iadd, 1) := by decide +kernel
theorem dX12_branch_53 : decode cX12_branch 53 = .ok (.imul, 1) := by decide +kernel
theorem dX12_branch_54 : decode cX12_branch 54 = .ok (.iload_n 3, 1) := by decide +kernel
theorem dX12_branch_55 : decode cX12_branch 55 = .ok (.iadd, 1) := by decide +kernel
theorem dX12_branch_56 : decode cX12_branch 56 = .ok (.istore 5, 2) := by decide +kernel
theorem dX12_branch_58 : decode cX12_branch 58 = .ok (.aload_n 0, 1) := by decide +kernel
theorem dX12_branch_59 : decode cX12_branch 59 = .ok (.getfield 89, 3) := by decide +kernel
theorem dX12_branch_62 : decode cX12_branch 62 = .ok (.iload 5, 2) := by decide +kernel
theorem dX12_branch_64 : decode cX12_branch 64 = .ok (.iaload, 1) := by decide +kernel
theorem dX12_branch_65 : decode cX12_branch 65 = .ok (.istore 6, 2) := by decide +kernel
theorem dX12_branch_67 : decode cX12_branch 67 = .ok (.iconst 0, 1) := by decide +kernel
theorem dX12_branch_68 : decode cX12_branch 68 = .ok (.istore 7, 2) := by decide +kernel
theorem dX12_branch_70 : decode cX12_branch 70 = .ok (.iload 7, 2) := by decide +kernel
theorem dX12_branch_72 : decode cX12_branch 72 = .ok (.aload_n 0, 1) := by decide +kernel
theorem dX12_branch_73 : decode cX12_branch 73 = .ok (.getfield 77, 3) := by decide +kernel
theorem dX12_branch_76 : decode cX12_branch 76 = .ok (.iload 5, 2) := by decide +kernel
theorem dX12_branch_78 : decode cX12_branch 78 = .ok (.iaload, 1) := by decide +kernel
theorem dX12_branch_79 : decode cX12_branch 79 = .ok (.if_icmp .ge 42, 3) := by decide +kernel
theorem dX12_branch_82 : decode cX12_branch 82 = .ok (.aload_n 0, 1) := by decide +kernel
theorem dX12_branch_83 : decode cX12_branch 83 = .ok (.getfield 83, 3) := by decide +kernel
theorem dX12_branch_86 : decode cX12_branch 86 = .ok (.bipush 12, 2) := by decide +kernel
theorem dX12_branch_88 : decode cX12_branch 88 = .ok (.iload 5, 2) := by decide +kernel
theorem dX12_branch_90 : decode cX12_branch 90 = .ok (.imul, 1) := by decide +kernel
theorem dX12_branch_91 : decode cX12_branch 91 = .ok (.iload 7, 2) := by decide +kernel
theorem dX12_branch_93 : decode cX12_branch 93 = .ok (.iadd, 1) := by decide +kernel
theorem dX12_branch_94 : decode cX12_branch 94 = .ok (.iaload, 1) := by decide +kernel
theorem dX12_branch_95 : decode cX12_branch 95 = .ok (.iload 4, 2) := by decide +kernel
theorem dX12_branch_97 : decode cX12_branch 97 = .ok (.if_icmp .ne 18, 3) := by decide +kernel
theorem dX12_branch_100 : decode cX12_branch 100 = .ok (.aload_n 0, 1) := by decide +kernel
theorem dX12_branch_101 : decode cX12_branch 101 = .ok (.getfield 86, 3) := by decide +kernel
theorem dX12_branch_104 : decode cX12_branch 104 = .ok (.bipush 12, 2) := by decide +kernel
theorem dX12_branch_106 : decode cX12_branch 106 = .ok (.iload 5, 2) := by decide +kernel
theorem dX12_branch_108 : decode cX12_branch 108 = .ok (.imul, 1) := by decide +kernel
theorem dX12_branch_109 : decode cX12_branch 109 = .ok (.iload 7, 2) := by decide +kernel
theorem dX12_branch_111 : decode cX12_branch 111 = .ok (.iadd, 1) := by decide +kernel
theorem dX12_branch_112 : decode cX12_branch 112 = .ok (.iaload, 1) := by decide +kernel
theorem dX12_branch_113 : decode cX12_branch 113 = .ok (.istore 6, 2) := by decide +kernel
theorem dX12_branch_115 : decode cX12_branch 115 = .ok (.iinc 7 1, 3) := by decide +kernel
theorem dX12_branch_118 : decode cX12_branch 118 = .ok (.goto (-48), 3) := by decide +kernel
theorem dX12_branch_121 : decode cX12_branch 121 = .ok (.aload_n 0, 1) := by decide +kernel
theorem dX12_branch_122 : decode cX12_branch 122 = .ok (.iload 6, 2) := by decide +kernel
theorem dX12_branch_124 : decode cX12_branch 124 = .ok (.iconst (-1), 1) := by decide +kernel
theorem dX12_branch_125 : decode cX12_branch 125 = .ok (.iconst (-1), 1) := by decide +kernel
theorem dX12_branch_126 : decode cX12_branch 126 = .ok (.invokevirtual 422, 3) := by decide +kernel
theorem dX12_branch_129 : decode cX12_branch 129 = .ok (.istore 7, 2) := by decide +kernel
theorem dX12_branch_131 : decode cX12_branch 131 = .ok (.aload_n 0, 1) := by decide +kernel
theorem dX12_branch_132 : decode cX12_branch 132 = .ok (.iload 7, 2) := by decide +kernel
theorem dX12_branch_134 : decode cX12_branch 134 = .ok (.invokevirtual 458, 3) := by decide +kernel
theorem dX12_branch_137 : decode cX12_branch 137 = .ok (.ireturn, 1) := by decide +kernel
theorem dX12_out_0 : decode cX12_out 0 = .ok (.aload_n 0, 1) := by decide +kernel
theorem dX12_out_1 : decode cX12_out 1 = .ok (.getfield 442, 3) := by decide +kernel
theorem dX12_out_4 : decode cX12_out 4 = .ok (.ireturn, 1) := by decide +kernel
theorem dX12_cause_0 : decode cX12_cause 0 = .ok (.iload_n 1, 1) := by decide +kernel
theorem dX12_cause_1 : decode cX12_cause 1 = .ok (.ifCond .lt 20, 3) := by decide +kernel
theorem dX12_cause_4 : decode cX12_cause 4 = .ok (.iload_n 1, 1) := by decide +kernel
theorem dX12_cause_5 : decode cX12_cause 5 = .ok (.aload_n 0, 1) := by decide +kernel
theorem dX12_cause_6 : decode cX12_cause 6 = .ok (.getfield 404, 3) := by decide +kernel
theorem dX12_cause_9 : decode cX12_cause 9 = .ok (.if_icmp .ge 12, 3) := by decide +kernel
theorem dX12_cause_12 : decode cX12_cause 12 = .ok (.iload_n 2, 1) := by decide +kernel
theorem dX12_cause_13 : decode cX12_cause 13 = .ok (.ifCond .lt 8, 3) := by decide +kernel
theorem dX12_cause_16 : decode cX12_cause 16 = .ok (.iload_n 2, 1) := by decide +kernel
theorem dX12_cause_17 : decode cX12_cause 17 = .ok (.iconst 1, 1) := by decide +kernel
theorem dX12_cause_18 : decode cX12_cause 18 = .ok (.if_icmp .le 5, 3) := by decide +kernel
theorem dX12_cause_21 : decode cX12_cause 21 = .ok (.iconst (-1), 1) := by decide +kernel
theorem dX12_cause_22 : decode cX12_cause 22 = .ok (.ireturn, 1) := by decide +kernel
theorem dX12_cause_23 : decode cX12_cause 23 = .ok (.aload_n 0, 1) := by decide +kernel
theorem dX12_cause_24 : decode cX12_cause 24 = .ok (.getfield 404, 3) := by decide +kernel
theorem dX12_cause_27 : decode cX12_cause 27 = .ok (.iconst 1, 1) := by decide +kernel
theorem dX12_cause_28 : decode cX12_cause 28 = .ok (.isub, 1) := by decide +kernel
theorem dX12_cause_29 : decode cX12_cause 29 = .ok (.iload_n 1, 1) := by decide +kernel
theorem dX12_cause_30 : decode cX12_cause 30 = .ok (.isub, 1) := by decide +kernel
theorem dX12_cause_31 : decode cX12_cause 31 = .ok (.istore_n 3, 1) := by decide +kernel
theorem dX12_cause_32 : decode cX12_cause 32 = .ok (.iload_n 2, 1) := by decide +kernel
theorem dX12_cause_33 : decode cX12_cause 33 = .ok (.ifCond .ne 12, 3) := by decide +kernel
theorem dX12_cause_36 : decode cX12_cause 36 = .ok (.aload_n 0, 1) := by decide +kernel
theorem dX12_cause_37 : decode cX12_cause 37 = .ok (.getfield 152, 3) := by decide +kernel
theorem dX12_cause_40 : decode cX12_cause 40 = .ok (.iload_n 3, 1) := by decide +kernel
theorem dX12_cause_41 : decode cX12_cause 41 = .ok (.iaload, 1) := by decide +kernel
theorem dX12_cause_42 : decode cX12_cause 42 = .ok (.goto 9, 3) := by decide +kernel
theorem dX12_cause_45 : decode cX12_cause 45 = .ok (.aload_n 0, 1) := by decide +kernel
theorem dX12_cause_46 : decode cX12_cause 46 = .ok (.getfield 155, 3) := by decide +kernel
theorem dX12_cause_49 : decode cX12_cause 49 = .ok (.iload_n 3, 1) := by decide +kernel
theorem dX12_cause_50 : decode cX12_cause 50 = .ok (.iaload, 1) := by decide +kernel
theorem dX12_cause_51 : decode cX12_cause 51 = .ok (.ireturn, 1) := by decide +kernel
theorem dX12_start_0 : decode cX12_start 0 = .ok (.iload_n 1, 1) := by decide +kernel
theorem dX12_start_1 : decode cX12_start 1 = .ok (.ifCond .lt 40, 3) := by decide +kernel
theorem dX12_start_4 : decode cX12_start 4 = .ok (.iload_n 1, 1) := by decide +kernel
theorem dX12_start_5 : decode cX12_start 5 = .ok (.aload_n 0, 1) := by decide +kernel
theorem dX12_start_6 : decode cX12_start 6 = .ok (.getfield 392, 3) := by decide +kernel
theorem dX12_start_9 : decode cX12_start 9 = .ok (.if_icmp .ge 32, 3) := by decide +kernel
theorem dX12_start_12 : decode cX12_start 12 = .ok (.iload_n 2, 1) := by decide +kernel
theorem dX12_start_13 : decode cX12_start 13 = .ok (.ifCond .lt 28, 3) := by decide +kernel
theorem dX12_start_16 : decode cX12_start 16 = .ok (.iload_n 2, 1) := by decide +kernel
theorem dX12_start_17 : decode cX12_start 17 = .ok (.aload_n 0, 1) := by decide +kernel
theorem dX12_start_18 : decode cX12_start 18 = .ok (.getfield 137, 3) := by decide +kernel
theorem dX12_start_21 : decode cX12_start 21 = .ok (.iload_n 1, 1) := by decide +kernel
theorem dX12_start_22 : decode cX12_start 22 = .ok (.iaload, 1) := by decide +kernel
theorem dX12_start_23 : decode cX12_start 23 = .ok (.if_icmp .ge 18, 3) := by decide +kernel
theorem dX12_start_26 : decode cX12_start 26 = .ok (.aload_n 0, 1) := by decide +kernel
theorem dX12_start_27 : decode cX12_start 27 = .ok (.getfield 134, 3) := by decide +kernel
theorem dX12_start_30 : decode cX12_start 30 = .ok (.sipush 160, 3) := by decide +kernel
theorem dX12_start_33 : decode cX12_start 33 = .ok (.iload_n 1, 1) := by decide +kernel
theorem dX12_start_34 : decode cX12_start 34 = .ok (.imul, 1) := by decide +kernel
theorem dX12_start_35 : decode cX12_start 35 = .ok (.iload_n 2, 1) := by decide +kernel
theorem dX12_start_36 : decode cX12_start 36 = .ok (.iadd, 1) := by decide +kernel
theorem dX12_start_37 : decode cX12_start 37 = .ok (.iaload, 1) := by decide +kernel
theorem dX12_start_38 : decode cX12_start 38 = .ok (.goto 4, 3) := by decide +kernel
theorem dX12_start_41 : decode cX12_start 41 = .ok (.iconst (-1), 1) := by decide +kernel
theorem dX12_start_42 : decode cX12_start 42 = .ok (.ireturn, 1) := by decide +kernel
theorem dX12_seen_0 : decode cX12_seen 0 = .ok (.iload_n 1, 1) := by decide +kernel
theorem dX12_seen_1 : decode cX12_seen 1 = .ok (.ifCond .lt 34, 3) := by decide +kernel
theorem dX12_seen_4 : decode cX12_seen 4 = .ok (.iload_n 1, 1) := by decide +kernel
theorem dX12_seen_5 : decode cX12_seen 5 = .ok (.aload_n 0, 1) := by decide +kernel
theorem dX12_seen_6 : decode cX12_seen 6 = .ok (.getfield 392, 3) := by decide +kernel
theorem dX12_seen_9 : decode cX12_seen 9 = .ok (.if_icmp .ge 26, 3) := by decide +kernel
theorem dX12_seen_12 : decode cX12_seen 12 = .ok (.iload_n 2, 1) := by decide +kernel
theorem dX12_seen_13 : decode cX12_seen 13 = .ok (.ifCond .lt 22, 3) := by decide +kernel
theorem dX12_seen_16 : decode cX12_seen 16 = .ok (.iload_n 2, 1) := by decide +kernel
theorem dX12_seen_17 : decode cX12_seen 17 = .ok (.aload_n 0, 1) := by decide +kernel
theorem dX12_seen_18 : decode cX12_seen 18 = .ok (.getfield 146, 3) := by decide +kernel
theorem dX12_seen_21 : decode cX12_seen 21 = .ok (.iload_n 1, 1) := by decide +kernel
theorem dX12_seen_22 : decode cX12_seen 22 = .ok (.iaload, 1) := by decide +kernel
theorem dX12_seen_23 : decode cX12_seen 23 = .ok (.if_icmp .ge 12, 3) := by decide +kernel
theorem dX12_seen_26 : decode cX12_seen 26 = .ok (.iload_n 3, 1) := by decide +kernel
theorem dX12_seen_27 : decode cX12_seen 27 = .ok (.ifCond .lt 8, 3) := by decide +kernel
theorem dX12_seen_30 : decode cX12_seen 30 = .ok (.iload_n 3, 1) := by decide +kernel
theorem dX12_seen_31 : decode cX12_seen 31 = .ok (.iconst 1, 1) := by decide +kernel
theorem dX12_seen_32 : decode cX12_seen 32 = .ok (.if_icmp .le 5, 3) := by decide +kernel
theorem dX12_seen_35 : decode cX12_seen 35 = .ok (.iconst (-1), 1) := by decide +kernel
theorem dX12_seen_36 : decode cX12_seen 36 = .ok (.ireturn, 1) := by decide +kernel
theorem dX12_seen_37 : decode cX12_seen 37 = .ok (.iload_n 3, 1) := by decide +kernel
theorem dX12_seen_38 : decode cX12_seen 38 = .ok (.ifCond .ne 18, 3) := by decide +kernel
theorem dX12_seen_41 : decode cX12_seen 41 = .ok (.aload_n 0, 1) := by decide +kernel
theorem dX12_seen_42 : decode cX12_seen 42 = .ok (.getfield 140, 3) := by decide +kernel
theorem dX12_seen_45 : decode cX12_seen 45 = .ok (.sipush 3100, 3) := by decide +kernel
theorem dX12_seen_48 : decode cX12_seen 48 = .ok (.iload_n 1, 1) := by decide +kernel
theorem dX12_seen_49 : decode cX12_seen 49 = .ok (.imul, 1) := by decide +kernel
theorem dX12_seen_50 : decode cX12_seen 50 = .ok (.iload_n 2, 1) := by decide +kernel
theorem dX12_seen_51 : decode cX12_seen 51 = .ok (.iadd, 1) := by decide +kernel
theorem dX12_seen_52 : decode cX12_seen 52 = .ok (.iaload, 1) := by decide +kernel
theorem dX12_seen_53 : decode cX12_seen 53 = .ok (.goto 15, 3) := by decide +kernel
theorem dX12_seen_56 : decode cX12_seen 56 = .ok (.aload_n 0, 1) := by decide +kernel
theorem dX12_seen_57 : decode cX12_seen 57 = .ok (.getfield 143, 3) := by decide +kernel
theorem dX12_seen_60 : decode cX12_seen 60 = .ok (.sipush 3100, 3) := by decide +kernel
theorem dX12_seen_63 : decode cX12_seen 63 = .ok (.iload_n 1, 1) := by decide +kernel
theorem dX12_seen_64 : decode cX12_seen 64 = .ok (.imul, 1) := by decide +kernel
theorem dX12_seen_65 : decode cX12_seen 65 = .ok (.iload_n 2, 1) := by decide +kernel
theorem dX12_seen_66 : decode cX12_seen 66 = .ok (.iadd, 1) := by decide +kernel
theorem dX12_seen_67 : decode cX12_seen 67 = .ok (.iaload, 1) := by decide +kernel
theorem dX12_seen_68 : decode cX12_seen 68 = .ok (.ireturn, 1) := by decide +kernel
theorem dX12_set_0 : decode cX12_set 0 = .ok (.aload_n 0, 1) := by decide +kernel
theorem dX12_set_1 : decode cX12_set 1 = .ok (.iload_n 1, 1) := by decide +kernel
theorem dX12_set_2 : decode cX12_set 2 = .ok (.iload_n 2, 1) := by decide +kernel
theorem dX12_set_3 : decode cX12_set 3 = .ok (.invokevirtual 439, 3) := by decide +kernel
theorem dX12_set_6 : decode cX12_set 6 = .ok (.ifCond .ne 5, 3) := by decide +kernel
theorem dX12_set_9 : decode cX12_set 9 = .ok (.iconst (-1), 1) := by decide +kernel
theorem dX12_set_10 : decode cX12_set 10 = .ok (.ireturn, 1) := by decide +kernel
theorem dX12_set_11 : decode cX12_set 11 = .ok (.aload_n 0, 1) := by decide +kernel
theorem dX12_set_12 : decode cX12_set 12 = .ok (.getfield 461, 3) := by decide +kernel
theorem dX12_set_15 : decode cX12_set 15 = .ok (.bipush 40, 2) := by decide +kernel
theorem dX12_set_17 : decode cX12_set 17 = .ok (.if_icmp .ne 6, 3) := by decide +kernel
theorem dX12_set_20 : decode cX12_set 20 = .ok (.bipush (-2), 2) := by decide +kernel
theorem dX12_set_22 : decode cX12_set 22 = .ok (.ireturn, 1) := by decide +kernel
theorem dX12_set_23 : decode cX12_set 23 = .ok (.aload_n 0, 1) := by decide +kernel
theorem dX12_set_24 : decode cX12_set 24 = .ok (.iload_n 1, 1) := by decide +kernel
theorem dX12_set_25 : decode cX12_set 25 = .ok (.iload_n 2, 1) := by decide +kernel
theorem dX12_set_26 : decode cX12_set 26 = .ok (.invokevirtual 455, 3) := by decide +kernel
theorem dX12_set_29 : decode cX12_set 29 = .ok (.bipush (-3), 2) := by decide +kernel
theorem dX12_set_31 : decode cX12_set 31 = .ok (.if_icmp .ne 6, 3) := by decide +kernel
theorem dX12_set_34 : decode cX12_set 34 = .ok (.bipush (-3), 2) := by decide +kernel
theorem dX12_set_36 : decode cX12_set 36 = .ok (.ireturn, 1) := by decide +kernel
theorem dX12_set_37 : decode cX12_set 37 = .ok (.aload_n 0, 1) := by decide +kernel
theorem dX12_set_38 : decode cX12_set 38 = .ok (.getfield 158, 3) := by decide +kernel
theorem dX12_set_41 : decode cX12_set 41 = .ok (.aload_n 0, 1) := by decide +kernel
theorem dX12_set_42 : decode cX12_set 42 = .ok (.getfield 461, 3) := by decide +kernel
theorem dX12_set_45 : decode cX12_set 45 = .ok (.bipush 12, 2) := by decide +kernel
theorem dX12_set_47 : decode cX12_set 47 = .ok (.iload_n 1, 1) := by decide +kernel
theorem dX12_set_48 : decode cX12_set 48 = .ok (.imul, 1) := by decide +kernel
theorem dX12_set_49 : decode cX12_set 49 = .ok (.iload_n 2, 1) := by decide +kernel
theorem dX12_set_50 : decode cX12_set 50 = .ok (.iadd, 1) := by decide +kernel
theorem dX12_set_51 : decode cX12_set 51 = .ok (.iastore, 1) := by decide +kernel
theorem dX12_set_52 : decode cX12_set 52 = .ok (.aload_n 0, 1) := by decide +kernel
theorem dX12_set_53 : decode cX12_set 53 = .ok (.getfield 161, 3) := by decide +kernel
theorem dX12_set_56 : decode cX12_set 56 = .ok (.aload_n 0, 1) := by decide +kernel
theorem dX12_set_57 : decode cX12_set 57 = .ok (.getfield 461, 3) := by decide +kernel
theorem dX12_set_60 : decode cX12_set 60 = .ok (.iconst 0, 1) := by decide +kernel
theorem dX12_set_61 : decode cX12_set 61 = .ok (.iastore, 1) := by decide +kernel
theorem dX12_set_62 : decode cX12_set 62 = .ok (.aload_n 0, 1) := by decide +kernel
theorem dX12_set_63 : decode cX12_set 63 = .ok (.dup, 1) := by decide +kernel
theorem dX12_set_64 : decode cX12_set 64 = .ok (.getfield 461, 3) := by decide +kernel
theorem dX12_set_67 : decode cX12_set 67 = .ok (.iconst 1, 1) := by decide +kernel
theorem dX12_set_68 : decode cX12_set 68 = .ok (.iadd, 1) := by decide +kernel
theorem dX12_set_69 : decode cX12_set 69 = .ok (.putfield 461, 3) := by decide +kernel
theorem dX12_set_72 : decode cX12_set 72 = .ok (.aload_n 0, 1) := by decide +kernel
theorem dX12_set_73 : decode cX12_set 73 = .ok (.getfield 461, 3) := by decide +kernel
theorem dX12_set_76 : decode cX12_set 76 = .ok (.iconst 1, 1) := by decide +kernel
theorem dX12_set_77 : decode cX12_set 77 = .ok (.isub, 1) := by decide +kernel
theorem dX12_set_78 : decode cX12_set 78 = .ok (.ireturn, 1) := by decide +kernel
theorem dX12_isIn_0 : decode cX12_isIn 0 = .ok (.iload_n 1, 1) := by decide +kernel
theorem dX12_isIn_1 : decode cX12_isIn 1 = .ok (.ifCond .lt 34, 3) := by decide +kernel
theorem dX12_isIn_4 : decode cX12_isIn 4 = .ok (.iload_n 1, 1) := by decide +kernel
theorem dX12_isIn_5 : decode cX12_isIn 5 = .ok (.aload_n 0, 1) := by decide +kernel
theorem dX12_isIn_6 : decode cX12_isIn 6 = .ok (.getfield 461, 3) := by decide +kernel
theorem dX12_isIn_9 : decode cX12_isIn 9 = .ok (.if_icmp .ge 26, 3) := by decide +kernel
theorem dX12_isIn_12 : decode cX12_isIn 12 = .ok (.iload_n 2, 1) := by decide +kernel
theorem dX12_isIn_13 : decode cX12_isIn 13 = .ok (.ifCond .lt 22, 3) := by decide +kernel
theorem dX12_isIn_16 : decode cX12_isIn 16 = .ok (.iload_n 2, 1) := by decide +kernel
theorem dX12_isIn_17 : decode cX12_isIn 17 = .ok (.aload_n 0, 1) := by decide +kernel
theorem dX12_isIn_18 : decode cX12_isIn 18 = .ok (.getfield 29, 3) := by decide +kernel
theorem dX12_isIn_21 : decode cX12_isIn 21 = .ok (.aload_n 0, 1) := by decide +kernel
theorem dX12_isIn_22 : decode cX12_isIn 22 = .ok (.getfield 158, 3) := by decide +kernel
theorem dX12_isIn_25 : decode cX12_isIn 25 = .ok (.iload_n 1, 1) := by decide +kernel
theorem dX12_isIn_26 : decode cX12_isIn 26 = .ok (.iaload, 1) := by decide +kernel
theorem dX12_isIn_27 : decode cX12_isIn 27 = .ok (.iaload, 1) := by decide +kernel
theorem dX12_isIn_28 : decode cX12_isIn 28 = .ok (.if_icmp .ge 7, 3) := by decide +kernel
theorem dX12_isIn_31 : decode cX12_isIn 31 = .ok (.iconst 1, 1) := by decide +kernel
theorem dX12_isIn_32 : decode cX12_isIn 32 = .ok (.goto 4, 3) := by decide +kernel
theorem dX12_isIn_35 : decode cX12_isIn 35 = .ok (.iconst 0, 1) := by decide +kernel
theorem dX12_isIn_36 : decode cX12_isIn 36 = .ok (.ireturn, 1) := by decide +kernel
theorem dX12_add_0 : decode cX12_add 0 = .ok (.aload_n 0, 1) := by decide +kernel
theorem dX12_add_1 : decode cX12_add 1 = .ok (.iload_n 1, 1) := by decide +kernel
theorem dX12_add_2 : decode cX12_add 2 = .ok (.iload_n 2, 1) := by decide +kernel
theorem dX12_add_3 : decode cX12_add 3 = .ok (.invokevirtual 464, 3) := by decide +kernel
theorem dX12_add_6 : decode cX12_add 6 = .ok (.ifCond .ne 5, 3) := by decide +kernel
theorem dX12_add_9 : decode cX12_add 9 = .ok (.iconst (-1), 1) := by decide +kernel
theorem dX12_add_10 : decode cX12_add 10 = .ok (.ireturn, 1) := by decide +kernel
theorem dX12_add_11 : decode cX12_add 11 = .ok (.aload_n 0, 1) := by decide +kernel
theorem dX12_add_12 : decode cX12_add 12 = .ok (.getfield 161, 3) := by decide +kernel
theorem dX12_add_15 : decode cX12_add 15 = .ok (.iload_n 1, 1) := by decide +kernel
theorem dX12_add_16 : decode cX12_add 16 = .ok (.iaload, 1) := by decide +kernel
theorem dX12_add_17 : decode cX12_add 17 = .ok (.iload_n 2, 1) := by decide +kernel
theorem dX12_add_18 : decode cX12_add 18 = .ok (.ishr, 1) := by decide +kernel
theorem dX12_add_19 : decode cX12_add 19 = .ok (.iconst 1, 1) := by decide +kernel
theorem dX12_add_20 : decode cX12_add 20 = .ok (.iand, 1) := by decide +kernel
theorem dX12_add_21 : decode cX12_add 21 = .ok (.istore_n 3, 1) := by decide +kernel
theorem dX12_add_22 : decode cX12_add 22 = .ok (.aload_n 0, 1) := by decide +kernel
theorem dX12_add_23 : decode cX12_add 23 = .ok (.getfield 161, 3) := by decide +kernel
theorem dX12_add_26 : decode cX12_add 26 = .ok (.iload_n 1, 1) := by decide +kernel
theorem dX12_add_27 : decode cX12_add 27 = .ok (.dup2, 1) := by decide +kernel
theorem dX12_add_28 : decode cX12_add 28 = .ok (.iaload, 1) := by decide +kernel
theorem dX12_add_29 : decode cX12_add 29 = .ok (.iconst 1, 1) := by decide +kernel
theorem dX12_add_30 : decode cX12_add 30 = .ok (.iload_n 2, 1) := by decide +kernel
theorem dX12_add_31 : decode cX12_add 31 = .ok (.ishl, 1) := by decide +kernel
theorem dX12_add_32 : decode cX12_add 32 = .ok (.ior, 1) := by decide +kernel
theorem dX12_add_33 : decode cX12_add 33 = .ok (.iastore, 1) := by decide +kernel
theorem dX12_add_34 : decode cX12_add 34 = .ok (.iconst 1, 1) := by decide +kernel
theorem dX12_add_35 : decode cX12_add 35 = .ok (.iload_n 3, 1) := by decide +kernel
theorem dX12_add_36 : decode cX12_add 36 = .ok (.isub, 1) := by decide +kernel
theorem dX12_add_37 : decode cX12_add 37 = .ok (.ireturn, 1) := by decide +kernel
theorem dX12_take_0 : decode cX12_take 0 = .ok (.aload_n 0, 1) := by decide +kernel
theorem dX12_take_1 : decode cX12_take 1 = .ok (.iload_n 1, 1) := by decide +kernel
theorem dX12_take_2 : decode cX12_take 2 = .ok (.iload_n 2, 1) := by decide +kernel
theorem dX12_take_3 : decode cX12_take 3 = .ok (.invokevirtual 464, 3) := by decide +kernel
theorem dX12_take_6 : decode cX12_take 6 = .ok (.ifCond .ne 5, 3) := by decide +kernel
theorem dX12_take_9 : decode cX12_take 9 = .ok (.iconst (-1), 1) := by decide +kernel
theorem dX12_take_10 : decode cX12_take 10 = .ok (.ireturn, 1) := by decide +kernel
theorem dX12_take_11 : decode cX12_take 11 = .ok (.aload_n 0, 1) := by decide +kernel
theorem dX12_take_12 : decode cX12_take 12 = .ok (.getfield 161, 3) := by decide +kernel
theorem dX12_take_15 : decode cX12_take 15 = .ok (.iload_n 1, 1) := by decide +kernel
theorem dX12_take_16 : decode cX12_take 16 = .ok (.iaload, 1) := by decide +kernel
theorem dX12_take_17 : decode cX12_take 17 = .ok (.iload_n 2, 1) := by decide +kernel
theorem dX12_take_18 : decode cX12_take 18 = .ok (.ishr, 1) := by decide +kernel
theorem dX12_take_19 : decode cX12_take 19 = .ok (.iconst 1, 1) := by decide +kernel
theorem dX12_take_20 : decode cX12_take 20 = .ok (.iand, 1) := by decide +kernel
theorem dX12_take_21 : decode cX12_take 21 = .ok (.istore_n 3, 1) := by decide +kernel
theorem dX12_take_22 : decode cX12_take 22 = .ok (.aload_n 0, 1) := by decide +kernel
theorem dX12_take_23 : decode cX12_take 23 = .ok (.getfield 161, 3) := by decide +kernel
theorem dX12_take_26 : decode cX12_take 26 = .ok (.iload_n 1, 1) := by decide +kernel
theorem dX12_take_27 : decode cX12_take 27 = .ok (.dup2, 1) := by decide +kernel
theorem dX12_take_28 : decode cX12_take 28 = .ok (.iaload, 1) := by decide +kernel
theorem dX12_take_29 : decode cX12_take 29 = .ok (.iconst 1, 1) := by decide +kernel
theorem dX12_take_30 : decode cX12_take 30 = .ok (.iload_n 2, 1) := by decide +kernel
theorem dX12_take_31 : decode cX12_take 31 = .ok (.ishl, 1) := by decide +kernel
theorem dX12_take_32 : decode cX12_take 32 = .ok (.iconst (-1), 1) := by decide +kernel
theorem dX12_take_33 : decode cX12_take 33 = .ok (.ixor, 1) := by decide +kernel
theorem dX12_take_34 : decode cX12_take 34 = .ok (.iand, 1) := by decide +kernel
theorem dX12_take_35 : decode cX12_take 35 = .ok (.iastore, 1) := by decide +kernel
theorem dX12_take_36 : decode cX12_take 36 = .ok (.iload_n 3, 1) := by decide +kernel
theorem dX12_take_37 : decode cX12_take 37 = .ok (.ireturn, 1) := by decide +kernel
theorem dX12_join_0 : decode cX12_join 0 = .ok (.iload_n 1, 1) := by decide +kernel
theorem dX12_join_1 : decode cX12_join 1 = .ok (.ifCond .lt 23, 3) := by decide +kernel
theorem dX12_join_4 : decode cX12_join 4 = .ok (.iload_n 1, 1) := by decide +kernel
theorem dX12_join_5 : decode cX12_join 5 = .ok (.aload_n 0, 1) := by decide +kernel
theorem dX12_join_6 : decode cX12_join 6 = .ok (.getfield 461, 3) := by decide +kernel
theorem dX12_join_9 : decode cX12_join 9 = .ok (.if_icmp .ge 15, 3) := by decide +kernel
theorem dX12_join_12 : decode cX12_join 12 = .ok (.iload_n 2, 1) := by decide +kernel
theorem dX12_join_13 : decode cX12_join 13 = .ok (.ifCond .lt 11, 3) := by decide +kernel
theorem dX12_join_16 : decode cX12_join 16 = .ok (.iload_n 2, 1) := by decide +kernel
theorem dX12_join_17 : decode cX12_join 17 = .ok (.aload_n 0, 1) := by decide +kernel
theorem dX12_join_18 : decode cX12_join 18 = .ok (.getfield 461, 3) := by decide +kernel
theorem dX12_join_21 : decode cX12_join 21 = .ok (.if_icmp .lt 5, 3) := by decide +kernel
theorem dX12_join_24 : decode cX12_join 24 = .ok (.iconst (-1), 1) := by decide +kernel
theorem dX12_join_25 : decode cX12_join 25 = .ok (.ireturn, 1) := by decide +kernel
theorem dX12_join_26 : decode cX12_join 26 = .ok (.aload_n 0, 1) := by decide +kernel
theorem dX12_join_27 : decode cX12_join 27 = .ok (.getfield 158, 3) := by decide +kernel
theorem dX12_join_30 : decode cX12_join 30 = .ok (.iload_n 1, 1) := by decide +kernel
theorem dX12_join_31 : decode cX12_join 31 = .ok (.iaload, 1) := by decide +kernel
theorem dX12_join_32 : decode cX12_join 32 = .ok (.aload_n 0, 1) := by decide +kernel
theorem dX12_join_33 : decode cX12_join 33 = .ok (.getfield 158, 3) := by decide +kernel
theorem dX12_join_36 : decode cX12_join 36 = .ok (.iload_n 2, 1) := by decide +kernel
theorem dX12_join_37 : decode cX12_join 37 = .ok (.iaload, 1) := by decide +kernel
theorem dX12_join_38 : decode cX12_join 38 = .ok (.if_icmp .ne 12, 3) := by decide +kernel
theorem dX12_join_41 : decode cX12_join 41 = .ok (.iload_n 3, 1) := by decide +kernel
theorem dX12_join_42 : decode cX12_join 42 = .ok (.ifCond .lt 8, 3) := by decide +kernel
theorem dX12_join_45 : decode cX12_join 45 = .ok (.iload_n 3, 1) := by decide +kernel
theorem dX12_join_46 : decode cX12_join 46 = .ok (.iconst 3, 1) := by decide +kernel
theorem dX12_join_47 : decode cX12_join 47 = .ok (.if_icmp .le 6, 3) := by decide +kernel
theorem dX12_join_50 : decode cX12_join 50 = .ok (.bipush (-4), 2) := by decide +kernel
theorem dX12_join_52 : decode cX12_join 52 = .ok (.ireturn, 1) := by decide +kernel
theorem dX12_join_53 : decode cX12_join 53 = .ok (.aload_n 0, 1) := by decide +kernel
theorem dX12_join_54 : decode cX12_join 54 = .ok (.getfield 461, 3) := by decide +kernel
theorem dX12_join_57 : decode cX12_join 57 = .ok (.bipush 40, 2) := by decide +kernel
theorem dX12_join_59 : decode cX12_join 59 = .ok (.if_icmp .ne 6, 3) := by decide +kernel
theorem dX12_join_62 : decode cX12_join 62 = .ok (.bipush (-2), 2) := by decide +kernel
theorem dX12_join_64 : decode cX12_join 64 = .ok (.ireturn, 1) := by decide +kernel
theorem dX12_join_65 : decode cX12_join 65 = .ok (.aload_n 0, 1) := by decide +kernel
theorem dX12_join_66 : decode cX12_join 66 = .ok (.getfield 161, 3) := by decide +kernel
theorem dX12_join_69 : decode cX12_join 69 = .ok (.iload_n 1, 1) := by decide +kernel
theorem dX12_join_70 : decode cX12_join 70 = .ok (.iaload, 1) := by decide +kernel
theorem dX12_join_71 : decode cX12_join 71 = .ok (.istore 4, 2) := by decide +kernel
theorem dX12_join_73 : decode cX12_join 73 = .ok (.aload_n 0, 1) := by decide +kernel
theorem dX12_join_74 : decode cX12_join 74 = .ok (.getfield 161, 3) := by decide +kernel
theorem dX12_join_77 : decode cX12_join 77 = .ok (.iload_n 2, 1) := by decide +kernel
theorem dX12_join_78 : decode cX12_join 78 = .ok (.iaload, 1) := by decide +kernel
theorem dX12_join_79 : decode cX12_join 79 = .ok (.istore 5, 2) := by decide +kernel
theorem dX12_join_81 : decode cX12_join 81 = .ok (.aload_n 0, 1) := by decide +kernel
theorem dX12_join_82 : decode cX12_join 82 = .ok (.getfield 158, 3) := by decide +kernel
theorem dX12_join_85 : decode cX12_join 85 = .ok (.aload_n 0, 1) := by decide +kernel
theorem dX12_join_86 : decode cX12_join 86 = .ok (.getfield 461, 3) := by decide +kernel
theorem dX12_join_89 : decode cX12_join 89 = .ok (.aload_n 0, 1) := by decide +kernel
theorem dX12_join_90 : decode cX12_join 90 = .ok (.getfield 158, 3) := by decide +kernel
theorem dX12_join_93 : decode cX12_join 93 = .ok (.iload_n 1, 1) := by decide +kernel
theorem dX12_join_94 : decode cX12_join 94 = .ok (.iaload, 1) := by decide +kernel
theorem dX12_join_95 : decode cX12_join 95 = .ok (.iastore, 1) := by decide +kernel
theorem dX12_join_96 : decode cX12_join 96 = .ok (.aload_n 0, 1) := by decide +kernel
theorem dX12_join_97 : decode cX12_join 97 = .ok (.getfield 161, 3) := by decide +kernel
theorem dX12_join_100 : decode cX12_join 100 = .ok (.aload_n 0, 1) := by decide +kernel
theorem dX12_join_101 : decode cX12_join 101 = .ok (.getfield 461, 3) := by decide +kernel
theorem dX12_join_104 : decode cX12_join 104 = .ok (.iload_n 3, 1) := by decide +kernel
theorem dX12_join_105 : decode cX12_join 105 = .ok (.ifCond .ne 11, 3) := by decide +kernel
theorem dX12_join_108 : decode cX12_join 108 = .ok (.iload 4, 2) := by decide +kernel
theorem dX12_join_110 : decode cX12_join 110 = .ok (.iload 5, 2) := by decide +kernel
theorem dX12_join_112 : decode cX12_join 112 = .ok (.ior, 1) := by decide +kernel
theorem dX12_join_113 : decode cX12_join 113 = .ok (.goto 36, 3) := by decide +kernel
theorem dX12_join_116 : decode cX12_join 116 = .ok (.iload_n 3, 1) := by decide +kernel
theorem dX12_join_117 : decode cX12_join 117 = .ok (.iconst 1, 1) := by decide +kernel
theorem dX12_join_118 : decode cX12_join 118 = .ok (.if_icmp .ne 11, 3) := by decide +kernel
theorem dX12_join_121 : decode cX12_join 121 = .ok (.iload 4, 2) := by decide +kernel
theorem dX12_join_123 : decode cX12_join 123 = .ok (.iload 5, 2) := by decide +kernel
theorem dX12_join_125 : decode cX12_join 125 = .ok (.iand, 1) := by decide +kernel
theorem dX12_join_126 : decode cX12_join 126 = .ok (.goto 23, 3) := by decide +kernel
theorem dX12_join_129 : decode cX12_join 129 = .ok (.iload_n 3, 1) := by decide +kernel
theorem dX12_join_130 : decode cX12_join 130 = .ok (.iconst 2, 1) := by decide +kernel
theorem dX12_join_131 : decode cX12_join 131 = .ok (.if_icmp .ne 13, 3) := by decide +kernel
theorem dX12_join_134 : decode cX12_join 134 = .ok (.iload 4, 2) := by decide +kernel
theorem dX12_join_136 : decode cX12_join 136 = .ok (.iload 5, 2) := by decide +kernel
theorem dX12_join_138 : decode cX12_join 138 = .ok (.iconst (-1), 1) := by decide +kernel
theorem dX12_join_139 : decode cX12_join 139 = .ok (.ixor, 1) := by decide +kernel
theorem dX12_join_140 : decode cX12_join 140 = .ok (.iand, 1) := by decide +kernel
theorem dX12_join_141 : decode cX12_join 141 = .ok (.goto 8, 3) := by decide +kernel
theorem dX12_join_144 : decode cX12_join 144 = .ok (.iload 4, 2) := by decide +kernel
theorem dX12_join_146 : decode cX12_join 146 = .ok (.iload 5, 2) := by decide +kernel
theorem dX12_join_148 : decode cX12_join 148 = .ok (.ixor, 1) := by decide +kernel
theorem dX12_join_149 : decode cX12_join 149 = .ok (.iastore, 1) := by decide +kernel
theorem dX12_join_150 : decode cX12_join 150 = .ok (.aload_n 0, 1) := by decide +kernel
theorem dX12_join_151 : decode cX12_join 151 = .ok (.dup, 1) := by decide +kernel
theorem dX12_join_152 : decode cX12_join 152 = .ok (.getfield 461, 3) := by decide +kernel
theorem dX12_join_155 : decode cX12_join 155 = .ok (.iconst 1, 1) := by decide +kernel
theorem dX12_join_156 : decode cX12_join 156 = .ok (.iadd, 1) := by decide +kernel
theorem dX12_join_157 : decode cX12_join 157 = .ok (.putfield 461, 3) := by decide +kernel
theorem dX12_join_160 : decode cX12_join 160 = .ok (.aload_n 0, 1) := by decide +kernel
theorem dX12_join_161 : decode cX12_join 161 = .ok (.getfield 461, 3) := by decide +kernel
theorem dX12_join_164 : decode cX12_join 164 = .ok (.iconst 1, 1) := by decide +kernel
theorem dX12_join_165 : decode cX12_join 165 = .ok (.isub, 1) := by decide +kernel
theorem dX12_join_166 : decode cX12_join 166 = .ok (.ireturn, 1) := by decide +kernel
theorem dX12_member_0 : decode cX12_member 0 = .ok (.iload_n 1, 1) := by decide +kernel
theorem dX12_member_1 : decode cX12_member 1 = .ok (.ifCond .lt 16, 3) := by decide +kernel
theorem dX12_member_4 : decode cX12_member 4 = .ok (.iload_n 1, 1) := by decide +kernel
theorem dX12_member_5 : decode cX12_member 5 = .ok (.aload_n 0, 1) := by decide +kernel
theorem dX12_member_6 : decode cX12_member 6 = .ok (.getfield 461, 3) := by decide +kernel
theorem dX12_member_9 : decode cX12_member 9 = .ok (.if_icmp .ge 8, 3) := by decide +kernel
theorem dX12_member_12 : decode cX12_member 12 = .ok (.iload_n 2, 1) := by decide +kernel
theorem dX12_member_13 : decode cX12_member 13 = .ok (.iconst (-1), 1) := by decide +kernel
theorem dX12_member_14 : decode cX12_member 14 = .ok (.if_icmp .ge 5, 3) := by decide +kernel
theorem dX12_member_17 : decode cX12_member 17 = .ok (.iconst (-1), 1) := by decide +kernel
theorem dX12_member_18 : decode cX12_member 18 = .ok (.ireturn, 1) := by decide +kernel
theorem dX12_member_19 : decode cX12_member 19 = .ok (.iconst 0, 1) := by decide +kernel
theorem dX12_member_20 : decode cX12_member 20 = .ok (.istore_n 3, 1) := by decide +kernel
theorem dX12_member_21 : decode cX12_member 21 = .ok (.iconst 0, 1) := by decide +kernel
theorem dX12_member_22 : decode cX12_member 22 = .ok (.istore 4, 2) := by decide +kernel
theorem dX12_member_24 : decode cX12_member 24 = .ok (.iload 4, 2) := by decide +kernel
theorem dX12_member_26 : decode cX12_member 26 = .ok (.bipush 24, 2) := by decide +kernel
theorem dX12_member_28 : decode cX12_member 28 = .ok (.if_icmp .ge 37, 3) := by decide +kernel
theorem dX12_member_31 : decode cX12_member 31 = .ok (.aload_n 0, 1) := by decide +kernel
theorem dX12_member_32 : decode cX12_member 32 = .ok (.getfield 161, 3) := by decide +kernel
theorem dX12_member_35 : decode cX12_member 35 = .ok (.iload_n 1, 1) := by decide +kernel
theorem dX12_member_36 : decode cX12_member 36 = .ok (.iaload, 1) := by decide +kernel
theorem dX12_member_37 : decode cX12_member 37 = .ok (.iload 4, 2) := by decide +kernel
theorem dX12_member_39 : decode cX12_member 39 = .ok (.ishr, 1) := by decide +kernel
theorem dX12_member_40 : decode cX12_member 40 = .ok (.iconst 1, 1) := by decide +kernel
theorem dX12_member_41 : decode cX12_member 41 = .ok (.iand, 1) := by decide +kernel
theorem dX12_member_42 : decode cX12_member 42 = .ok (.ifCond .ne 6, 3) := by decide +kernel
theorem dX12_member_45 : decode cX12_member 45 = .ok (.goto 14, 3) := by decide +kernel
theorem dX12_member_48 : decode cX12_member 48 = .ok (.iload_n 3, 1) := by decide +kernel
theorem dX12_member_49 : decode cX12_member 49 = .ok (.iload_n 2, 1) := by decide +kernel
theorem dX12_member_50 : decode cX12_member 50 = .ok (.if_icmp .ne 6, 3) := by decide +kernel
theorem dX12_member_53 : decode cX12_member 53 = .ok (.iload 4, 2) := by decide +kernel
theorem dX12_member_55 : decode cX12_member 55 = .ok (.ireturn, 1) := by decide +kernel
theorem dX12_member_56 : decode cX12_member 56 = .ok (.iinc 3 1, 3) := by decide +kernel
theorem dX12_member_59 : decode cX12_member 59 = .ok (.iinc 4 1, 3) := by decide +kernel
theorem dX12_member_62 : decode cX12_member 62 = .ok (.goto (-38), 3) := by decide +kernel
theorem dX12_member_65 : decode cX12_member 65 = .ok (.iload_n 2, 1) := by decide +kernel
theorem dX12_member_66 : decode cX12_member 66 = .ok (.iconst (-1), 1) := by decide +kernel
theorem dX12_member_67 : decode cX12_member 67 = .ok (.if_icmp .ne 7, 3) := by decide +kernel
theorem dX12_member_70 : decode cX12_member 70 = .ok (.iload_n 3, 1) := by decide +kernel
theorem dX12_member_71 : decode cX12_member 71 = .ok (.goto 4, 3) := by decide +kernel
theorem dX12_member_74 : decode cX12_member 74 = .ok (.iconst (-1), 1) := by decide +kernel
theorem dX12_member_75 : decode cX12_member 75 = .ok (.ireturn, 1) := by decide +kernel
theorem dX12_map_0 : decode cX12_map 0 = .ok (.aload_n 0, 1) := by decide +kernel
theorem dX12_map_1 : decode cX12_map 1 = .ok (.iload_n 1, 1) := by decide +kernel
theorem dX12_map_2 : decode cX12_map 2 = .ok (.iload_n 2, 1) := by decide +kernel
theorem dX12_map_3 : decode cX12_map 3 = .ok (.invokevirtual 439, 3) := by decide +kernel
theorem dX12_map_6 : decode cX12_map 6 = .ok (.ifCond .ne 5, 3) := by decide +kernel
theorem dX12_map_9 : decode cX12_map 9 = .ok (.iconst (-1), 1) := by decide +kernel
theorem dX12_map_10 : decode cX12_map 10 = .ok (.ireturn, 1) := by decide +kernel
theorem dX12_map_11 : decode cX12_map 11 = .ok (.aload_n 0, 1) := by decide +kernel
theorem dX12_map_12 : decode cX12_map 12 = .ok (.getfield 467, 3) := by decide +kernel
theorem dX12_map_15 : decode cX12_map 15 = .ok (.bipush 10, 2) := by decide +kernel
theorem dX12_map_17 : decode cX12_map 17 = .ok (.if_icmp .ne 6, 3) := by decide +kernel
theorem dX12_map_20 : decode cX12_map 20 = .ok (.bipush (-2), 2) := by decide +kernel
theorem dX12_map_22 : decode cX12_map 22 = .ok (.ireturn, 1) := by decide +kernel
theorem dX12_map_23 : decode cX12_map 23 = .ok (.aload_n 0, 1) := by decide +kernel
theorem dX12_map_24 : decode cX12_map 24 = .ok (.iload_n 1, 1) := by decide +kernel
theorem dX12_map_25 : decode cX12_map 25 = .ok (.iload_n 2, 1) := by decide +kernel
theorem dX12_map_26 : decode cX12_map 26 = .ok (.invokevirtual 455, 3) := by decide +kernel
theorem dX12_map_29 : decode cX12_map 29 = .ok (.bipush (-3), 2) := by decide +kernel
theorem dX12_map_31 : decode cX12_map 31 = .ok (.if_icmp .ne 6, 3) := by decide +kernel
theorem dX12_map_34 : decode cX12_map 34 = .ok (.bipush (-3), 2) := by decide +kernel
theorem dX12_map_36 : decode cX12_map 36 = .ok (.ireturn, 1) := by decide +kernel
theorem dX12_map_37 : decode cX12_map 37 = .ok (.aload_n 0, 1) := by decide +kernel
theorem dX12_map_38 : decode cX12_map 38 = .ok (.getfield 164, 3) := by decide +kernel
theorem dX12_map_41 : decode cX12_map 41 = .ok (.aload_n 0, 1) := by decide +kernel
theorem dX12_map_42 : decode cX12_map 42 = .ok (.getfield 467, 3) := by decide +kernel
theorem dX12_map_45 : decode cX12_map 45 = .ok (.bipush 12, 2) := by decide +kernel
theorem dX12_map_47 : decode cX12_map 47 = .ok (.iload_n 1, 1) := by decide +kernel
theorem dX12_map_48 : decode cX12_map 48 = .ok (.imul, 1) := by decide +kernel
theorem dX12_map_49 : decode cX12_map 49 = .ok (.iload_n 2, 1) := by decide +kernel
theorem dX12_map_50 : decode cX12_map 50 = .ok (.iadd, 1) := by decide +kernel
theorem dX12_map_51 : decode cX12_map 51 = .ok (.iastore, 1) := by decide +kernel
theorem dX12_map_52 : decode cX12_map 52 = .ok (.aload_n 0, 1) := by decide +kernel
theorem dX12_map_53 : decode cX12_map 53 = .ok (.getfield 167, 3) := by decide +kernel
theorem dX12_map_56 : decode cX12_map 56 = .ok (.aload_n 0, 1) := by decide +kernel
theorem dX12_map_57 : decode cX12_map 57 = .ok (.getfield 467, 3) := by decide +kernel
theorem dX12_map_60 : decode cX12_map 60 = .ok (.iconst 0, 1) := by decide +kernel
theorem dX12_map_61 : decode cX12_map 61 = .ok (.iastore, 1) := by decide +kernel
theorem dX12_map_62 : decode cX12_map 62 = .ok (.aload_n 0, 1) := by decide +kernel
theorem dX12_map_63 : decode cX12_map 63 = .ok (.dup, 1) := by decide +kernel
theorem dX12_map_64 : decode cX12_map 64 = .ok (.getfield 467, 3) := by decide +kernel
theorem dX12_map_67 : decode cX12_map 67 = .ok (.iconst 1, 1) := by decide +kernel
theorem dX12_map_68 : decode cX12_map 68 = .ok (.iadd, 1) := by decide +kernel
theorem dX12_map_69 : decode cX12_map 69 = .ok (.putfield 467, 3) := by decide +kernel
theorem dX12_map_72 : decode cX12_map 72 = .ok (.aload_n 0, 1) := by decide +kernel
theorem dX12_map_73 : decode cX12_map 73 = .ok (.getfield 467, 3) := by decide +kernel
theorem dX12_map_76 : decode cX12_map 76 = .ok (.iconst 1, 1) := by decide +kernel
theorem dX12_map_77 : decode cX12_map 77 = .ok (.isub, 1) := by decide +kernel
theorem dX12_map_78 : decode cX12_map 78 = .ok (.ireturn, 1) := by decide +kernel
theorem dX12_isMapped_0 : decode cX12_isMapped 0 = .ok (.iload_n 1, 1) := by decide +kernel
theorem dX12_isMapped_1 : decode cX12_isMapped 1 = .ok (.ifCond .lt 34, 3) := by decide +kernel
theorem dX12_isMapped_4 : decode cX12_isMapped 4 = .ok (.iload_n 1, 1) := by decide +kernel
theorem dX12_isMapped_5 : decode cX12_isMapped 5 = .ok (.aload_n 0, 1) := by decide +kernel
theorem dX12_isMapped_6 : decode cX12_isMapped 6 = .ok (.getfield 467, 3) := by decide +kernel
theorem dX12_isMapped_9 : decode cX12_isMapped 9 = .ok (.if_icmp .ge 26, 3) := by decide +kernel
theorem dX12_isMapped_12 : decode cX12_isMapped 12 = .ok (.iload_n 2, 1) := by decide +kernel
theorem dX12_isMapped_13 : decode cX12_isMapped 13 = .ok (.ifCond .lt 22, 3) := by decide +kernel
theorem dX12_isMapped_16 : decode cX12_isMapped 16 = .ok (.iload_n 2, 1) := by decide +kernel
theorem dX12_isMapped_17 : decode cX12_isMapped 17 = .ok (.aload_n 0, 1) := by decide +kernel
theorem dX12_isMapped_18 : decode cX12_isMapped 18 = .ok (.getfield 29, 3) := by decide +kernel
theorem dX12_isMapped_21 : decode cX12_isMapped 21 = .ok (.aload_n 0, 1) := by decide +kernel
theorem dX12_isMapped_22 : decode cX12_isMapped 22 = .ok (.getfield 164, 3) := by decide +kernel
theorem dX12_isMapped_25 : decode cX12_isMapped 25 = .ok (.iload_n 1, 1) := by decide +kernel
theorem dX12_isMapped_26 : decode cX12_isMapped 26 = .ok (.iaload, 1) := by decide +kernel
theorem dX12_isMapped_27 : decode cX12_isMapped 27 = .ok (.iaload, 1) := by decide +kernel
theorem dX12_isMapped_28 : decode cX12_isMapped 28 = .ok (.if_icmp .ge 7, 3) := by decide +kernel
theorem dX12_isMapped_31 : decode cX12_isMapped 31 = .ok (.iconst 1, 1) := by decide +kernel
theorem dX12_isMapped_32 : decode cX12_isMapped 32 = .ok (.goto 4, 3) := by decide +kernel
theorem dX12_isMapped_35 : decode cX12_isMapped 35 = .ok (.iconst 0, 1) := by decide +kernel
theorem dX12_isMapped_36 : decode cX12_isMapped 36 = .ok (.ireturn, 1) := by decide +kernel
theorem dX12_put_0 : decode cX12_put 0 = .ok (.aload_n 0, 1) := by decide +kernel
theorem dX12_put_1 : decode cX12_put 1 = .ok (.iload_n 1, 1) := by decide +kernel
theorem dX12_put_2 : decode cX12_put 2 = .ok (.iload_n 2, 1) := by decide +kernel
theorem dX12_put_3 : decode cX12_put 3 = .ok (.invokevirtual 470, 3) := by decide +kernel
theorem dX12_put_6 : decode cX12_put 6 = .ok (.ifCond .ne 5, 3) := by decide +kernel
theorem dX12_put_9 : decode cX12_put 9 = .ok (.iconst (-1), 1) := by decide +kernel
theorem dX12_put_10 : decode cX12_put 10 = .ok (.ireturn, 1) := by decide +kernel
theorem dX12_put_11 : decode cX12_put 11 = .ok (.aload_n 0, 1) := by decide +kernel
theorem dX12_put_12 : decode cX12_put 12 = .ok (.getfield 167, 3) := by decide +kernel
theorem dX12_put_15 : decode cX12_put 15 = .ok (.iload_n 1, 1) := by decide +kernel
theorem dX12_put_16 : decode cX12_put 16 = .ok (.iaload, 1) := by decide +kernel
theorem dX12_put_17 : decode cX12_put 17 = .ok (.iload_n 2, 1) := by decide +kernel
theorem dX12_put_18 : decode cX12_put 18 = .ok (.ishr, 1) := by decide +kernel
theorem dX12_put_19 : decode cX12_put 19 = .ok (.iconst 1, 1) := by decide +kernel
theorem dX12_put_20 : decode cX12_put 20 = .ok (.iand, 1) := by decide +kernel
theorem dX12_put_21 : decode cX12_put 21 = .ok (.istore 4, 2) := by decide +kernel
theorem dX12_put_23 : decode cX12_put 23 = .ok (.aload_n 0, 1) := by decide +kernel
theorem dX12_put_24 : decode cX12_put 24 = .ok (.getfield 167, 3) := by decide +kernel
theorem dX12_put_27 : decode cX12_put 27 = .ok (.iload_n 1, 1) := by decide +kernel
theorem dX12_put_28 : decode cX12_put 28 = .ok (.dup2, 1) := by decide +kernel
theorem dX12_put_29 : decode cX12_put 29 = .ok (.iaload, 1) := by decide +kernel
theorem dX12_put_30 : decode cX12_put 30 = .ok (.iconst 1, 1) := by decide +kernel
theorem dX12_put_31 : decode cX12_put 31 = .ok (.iload_n 2, 1) := by decide +kernel
theorem dX12_put_32 : decode cX12_put 32 = .ok (.ishl, 1) := by decide +kernel
theorem dX12_put_33 : decode cX12_put 33 = .ok (.ior, 1) := by decide +kernel
theorem dX12_put_34 : decode cX12_put 34 = .ok (.iastore, 1) := by decide +kernel
theorem dX12_put_35 : decode cX12_put 35 = .ok (.aload_n 0, 1) := by decide +kernel
theorem dX12_put_36 : decode cX12_put 36 = .ok (.getfield 170, 3) := by decide +kernel
theorem dX12_put_39 : decode cX12_put 39 = .ok (.bipush 24, 2) := by decide +kernel
theorem dX12_put_41 : decode cX12_put 41 = .ok (.iload_n 1, 1) := by decide +kernel
theorem dX12_put_42 : decode cX12_put 42 = .ok (.imul, 1) := by decide +kernel
theorem dX12_put_43 : decode cX12_put 43 = .ok (.iload_n 2, 1) := by decide +kernel
theorem dX12_put_44 : decode cX12_put 44 = .ok (.iadd, 1) := by decide +kernel
theorem dX12_put_45 : decode cX12_put 45 = .ok (.iload_n 3, 1) := by decide +kernel
theorem dX12_put_46 : decode cX12_put 46 = .ok (.iastore, 1) := by decide +kernel
theorem dX12_put_47 : decode cX12_put 47 = .ok (.iconst 1, 1) := by decide +kernel
theorem dX12_put_48 : decode cX12_put 48 = .ok (.iload 4, 2) := by decide +kernel
theorem dX12_put_50 : decode cX12_put 50 = .ok (.isub, 1) := by decide +kernel
theorem dX12_put_51 : decode cX12_put 51 = .ok (.ireturn, 1) := by decide +kernel
theorem dX12_get_0 : decode cX12_get 0 = .ok (.aload_n 0, 1) := by decide +kernel
theorem dX12_get_1 : decode cX12_get 1 = .ok (.iload_n 1, 1) := by decide +kernel
theorem dX12_get_2 : decode cX12_get 2 = .ok (.iload_n 2, 1) := by decide +kernel
theorem dX12_get_3 : decode cX12_get 3 = .ok (.invokevirtual 470, 3) := by decide +kernel
theorem dX12_get_6 : decode cX12_get 6 = .ok (.ifCond .ne 5, 3) := by decide +kernel
theorem dX12_get_9 : decode cX12_get 9 = .ok (.iconst (-1), 1) := by decide +kernel
theorem dX12_get_10 : decode cX12_get 10 = .ok (.ireturn, 1) := by decide +kernel
theorem dX12_get_11 : decode cX12_get 11 = .ok (.aload_n 0, 1) := by decide +kernel
theorem dX12_get_12 : decode cX12_get 12 = .ok (.getfield 167, 3) := by decide +kernel
theorem dX12_get_15 : decode cX12_get 15 = .ok (.iload_n 1, 1) := by decide +kernel
theorem dX12_get_16 : decode cX12_get 16 = .ok (.iaload, 1) := by decide +kernel
theorem dX12_get_17 : decode cX12_get 17 = .ok (.iload_n 2, 1) := by decide +kernel
theorem dX12_get_18 : decode cX12_get 18 = .ok (.ishr, 1) := by decide +kernel
theorem dX12_get_19 : decode cX12_get 19 = .ok (.iconst 1, 1) := by decide +kernel
theorem dX12_get_20 : decode cX12_get 20 = .ok (.iand, 1) := by decide +kernel
theorem dX12_get_21 : decode cX12_get 21 = .ok (.ifCond .ne 5, 3) := by decide +kernel
theorem dX12_get_24 : decode cX12_get 24 = .ok (.iconst 0, 1) := by decide +kernel
theorem dX12_get_25 : decode cX12_get 25 = .ok (.ireturn, 1) := by decide +kernel
theorem dX12_get_26 : decode cX12_get 26 = .ok (.aload_n 0, 1) := by decide +kernel
theorem dX12_get_27 : decode cX12_get 27 = .ok (.aload_n 0, 1) := by decide +kernel
theorem dX12_get_28 : decode cX12_get 28 = .ok (.getfield 170, 3) := by decide +kernel
theorem dX12_get_31 : decode cX12_get 31 = .ok (.bipush 24, 2) := by decide +kernel
theorem dX12_get_33 : decode cX12_get 33 = .ok (.iload_n 1, 1) := by decide +kernel
theorem dX12_get_34 : decode cX12_get 34 = .ok (.imul, 1) := by decide +kernel
theorem dX12_get_35 : decode cX12_get 35 = .ok (.iload_n 2, 1) := by decide +kernel
theorem dX12_get_36 : decode cX12_get 36 = .ok (.iadd, 1) := by decide +kernel
theorem dX12_get_37 : decode cX12_get 37 = .ok (.iaload, 1) := by decide +kernel
theorem dX12_get_38 : decode cX12_get 38 = .ok (.putfield 442, 3) := by decide +kernel
theorem dX12_get_41 : decode cX12_get 41 = .ok (.iconst 1, 1) := by decide +kernel
theorem dX12_get_42 : decode cX12_get 42 = .ok (.ireturn, 1) := by decide +kernel
theorem dX12_constantHere_0 : decode cX12_constantHere 0 = .ok (.aload_n 0, 1) := by decide +kernel
theorem dX12_constantHere_1 : decode cX12_constantHere 1 = .ok (.invokevirtual 291, 3) := by decide +kernel
theorem dX12_constantHere_4 : decode cX12_constantHere 4 = .ok (.ifCond .ne 5, 3) := by decide +kernel
theorem dX12_constantHere_7 : decode cX12_constantHere 7 = .ok (.iconst (-1), 1) := by decide +kernel
theorem dX12_constantHere_8 : decode cX12_constantHere 8 = .ok (.ireturn, 1) := by decide +kernel
theorem dX12_constantHere_9 : decode cX12_constantHere 9 = .ok (.bipush 12, 2) := by decide +kernel
theorem dX12_constantHere_11 : decode cX12_constantHere 11 = .ok (.iload_n 1, 1) := by decide +kernel
theorem dX12_constantHere_12 : decode cX12_constantHere 12 = .ok (.imul, 1) := by decide +kernel
theorem dX12_constantHere_13 : decode cX12_constantHere 13 = .ok (.istore_n 2, 1) := by decide +kernel
theorem dX12_constantHere_14 : decode cX12_constantHere 14 = .ok (.iload_n 2, 1) := by decide +kernel
theorem dX12_constantHere_15 : decode cX12_constantHere 15 = .ok (.bipush 12, 2) := by decide +kernel
theorem dX12_constantHere_17 : decode cX12_constantHere 17 = .ok (.iload_n 1, 1) := by decide +kernel
theorem dX12_constantHere_18 : decode cX12_constantHere 18 = .ok (.imul, 1) := by decide +kernel
theorem dX12_constantHere_19 : decode cX12_constantHere 19 = .ok (.aload_n 0, 1) := by decide +kernel
theorem dX12_constantHere_20 : decode cX12_constantHere 20 = .ok (.getfield 16, 3) := by decide +kernel
theorem dX12_constantHere_23 : decode cX12_constantHere 23 = .ok (.iload_n 1, 1) := by decide +kernel
theorem dX12_constantHere_24 : decode cX12_constantHere 24 = .ok (.iaload, 1) := by decide +kernel
theorem dX12_constantHere_25 : decode cX12_constantHere 25 = .ok (.iadd, 1) := by decide +kernel
theorem dX12_constantHere_26 : decode cX12_constantHere 26 = .ok (.if_icmp .ge 133, 3) := by decide +kernel
theorem dX12_constantHere_29 : decode cX12_constantHere 29 = .ok (.bipush 24, 2) := by decide +kernel
theorem dX12_constantHere_31 : decode cX12_constantHere 31 = .ok (.iload_n 2, 1) := by decide +kernel
theorem dX12_constantHere_32 : decode cX12_constantHere 32 = .ok (.imul, 1) := by decide +kernel
theorem dX12_constantHere_33 : decode cX12_constantHere 33 = .ok (.istore_n 3, 1) := by decide +kernel
theorem dX12_constantHere_34 : decode cX12_constantHere 34 = .ok (.iload_n 3, 1) := by decide +kernel
theorem dX12_constantHere_35 : decode cX12_constantHere 35 = .ok (.bipush 24, 2) := by decide +kernel
theorem dX12_constantHere_37 : decode cX12_constantHere 37 = .ok (.iload_n 2, 1) := by decide +kernel
theorem dX12_constantHere_38 : decode cX12_constantHere 38 = .ok (.imul, 1) := by decide +kernel
theorem dX12_constantHere_39 : decode cX12_constantHere 39 = .ok (.aload_n 0, 1) := by decide +kernel
theorem dX12_constantHere_40 : decode cX12_constantHere 40 = .ok (.getfield 29, 3) := by decide +kernel
theorem dX12_constantHere_43 : decode cX12_constantHere 43 = .ok (.iload_n 2, 1) := by decide +kernel
theorem dX12_constantHere_44 : decode cX12_constantHere 44 = .ok (.iaload, 1) := by decide +kernel
theorem dX12_constantHere_45 : decode cX12_constantHere 45 = .ok (.iadd, 1) := by decide +kernel
theorem dX12_constantHere_46 : decode cX12_constantHere 46 = .ok (.if_icmp .ge 107, 3) := by decide +kernel
theorem dX12_constantHere_49 : decode cX12_constantHere 49 = .ok (.aload_n 0, 1) := by decide +kernel
theorem dX12_constantHere_50 : decode cX12_constantHere 50 = .ok (.getfield 47, 3) := by decide +kernel
theorem dX12_constantHere_53 : decode cX12_constantHere 53 = .ok (.iload_n 3, 1) := by decide +kernel
theorem dX12_constantHere_54 : decode cX12_constantHere 54 = .ok (.iaload, 1) := by decide +kernel
theorem dX12_constantHere_55 : decode cX12_constantHere 55 = .ok (.istore 4, 2) := by decide +kernel
theorem dX12_constantHere_57 : decode cX12_constantHere 57 = .ok (.iload 4, 2) := by decide +kernel
theorem dX12_constantHere_59 : decode cX12_constantHere 59 = .ok (.bipush 16, 2) := by decide +kernel
theorem dX12_constantHere_61 : decode cX12_constantHere 61 = .ok (.irem, 1) := by decide +kernel
theorem dX12_constantHere_62 : decode cX12_constantHere 62 = .ok (.aload_n 0, 1) := by decide +kernel
theorem dX12_constantHere_63 : decode cX12_constantHere 63 = .ok (.getfield 195, 3) := by decide +kernel
theorem dX12_constantHere_66 : decode cX12_constantHere 66 = .ok (.aload_n 0, 1) := by decide +kernel
theorem dX12_constantHere_67 : decode cX12_constantHere 67 = .ok (.getfield 198, 3) := by decide +kernel
theorem dX12_constantHere_70 : decode cX12_constantHere 70 = .ok (.isub, 1) := by decide +kernel
theorem dX12_constantHere_71 : decode cX12_constantHere 71 = .ok (.if_icmp .ne 7, 3) := by decide +kernel
theorem dX12_constantHere_74 : decode cX12_constantHere 74 = .ok (.iconst 1, 1) := by decide +kernel
theorem dX12_constantHere_75 : decode cX12_constantHere 75 = .ok (.goto 4, 3) := by decide +kernel
theorem dX12_constantHere_78 : decode cX12_constantHere 78 = .ok (.iconst 0, 1) := by decide +kernel
theorem dX12_constantHere_79 : decode cX12_constantHere 79 = .ok (.istore 5, 2) := by decide +kernel
theorem dX12_constantHere_81 : decode cX12_constantHere 81 = .ok (.iconst 0, 1) := by decide +kernel
theorem dX12_constantHere_82 : decode cX12_constantHere 82 = .ok (.istore 6, 2) := by decide +kernel
theorem dX12_constantHere_84 : decode cX12_constantHere 84 = .ok (.iload 6, 2) := by decide +kernel
theorem dX12_constantHere_86 : decode cX12_constantHere 86 = .ok (.iload 4, 2) := by decide +kernel
theorem dX12_constantHere_88 : decode cX12_constantHere 88 = .ok (.bipush 16, 2) := by decide +kernel
theorem dX12_constantHere_90 : decode cX12_constantHere 90 = .ok (.irem, 1) := by decide +kernel
theorem dX12_constantHere_91 : decode cX12_constantHere 91 = .ok (.if_icmp .ge 49, 3) := by decide +kernel
theorem dX12_constantHere_94 : decode cX12_constantHere 94 = .ok (.iload 5, 2) := by decide +kernel
theorem dX12_constantHere_96 : decode cX12_constantHere 96 = .ok (.ifCond .eq 44, 3) := by decide +kernel
theorem dX12_constantHere_99 : decode cX12_constantHere 99 = .ok (.aload_n 0, 1) := by decide +kernel
theorem dX12_constantHere_100 : decode cX12_constantHere 100 = .ok (.getfield 13, 3) := by decide +kernel
theorem dX12_constantHere_103 : decode cX12_constantHere 103 = .ok (.iload 4, 2) := by decide +kernel
theorem dX12_constantHere_105 : decode cX12_constantHere 105 = .ok (.bipush 16, 2) := by decide +kernel
theorem dX12_constantHere_107 : decode cX12_constantHere 107 = .ok (.idiv, 1) := by decide +kernel
theorem dX12_constantHere_108 : decode cX12_constantHere 108 = .ok (.iload 6, 2) := by decide +kernel
theorem dX12_constantHere_110 : decode cX12_constantHere 110 = .ok (.iadd, 1) := by decide +kernel
theorem dX12_constantHere_111 : decode cX12_constantHere 111 = .ok (.baload, 1) := by decide +kernel
theorem dX12_constantHere_112 : decode cX12_constantHere 112 = .ok (.aload_n 0, 1) := by decide +kernel
theorem dX12_constantHere_113 : decode cX12_constantHere 113 = .ok (.getfield 7, 3) := by decide +kernel
theorem dX12_constantHere_116 : decode cX12_constantHere 116 = .ok (.aload_n 0, 1) := by decide +kernel
theorem dX12_constantHere_117 : decode cX12_constantHere 117 = .ok (.getfield 198, 3) := by decide +kernel
theorem dX12_constantHere_120 : decode cX12_constantHere 120 = .ok (.iload 6, 2) := by decide +kernel
theorem dX12_constantHere_122 : decode cX12_constantHere 122 = .ok (.iadd, 1) := by decide +kernel
theorem dX12_constantHere_123 : decode cX12_constantHere 123 = .ok (.baload, 1) := by decide +kernel
theorem dX12_constantHere_124 : decode cX12_constantHere 124 = .ok (.if_icmp .ne 7, 3) := by decide +kernel
theorem dX12_constantHere_127 : decode cX12_constantHere 127 = .ok (.iconst 1, 1) := by decide +kernel
theorem dX12_constantHere_128 : decode cX12_constantHere 128 = .ok (.goto 4, 3) := by decide +kernel
theorem dX12_constantHere_131 : decode cX12_constantHere 131 = .ok (.iconst 0, 1) := by decide +kernel
theorem dX12_constantHere_132 : decode cX12_constantHere 132 = .ok (.istore 5, 2) := by decide +kernel
theorem dX12_constantHere_134 : decode cX12_constantHere 134 = .ok (.iinc 6 1, 3) := by decide +kernel
theorem dX12_constantHere_137 : decode cX12_constantHere 137 = .ok (.goto (-53), 3) := by decide +kernel
theorem dX12_constantHere_140 : decode cX12_constantHere 140 = .ok (.iload 5, 2) := by decide +kernel
theorem dX12_constantHere_142 : decode cX12_constantHere 142 = .ok (.ifCond .eq 5, 3) := by decide +kernel
theorem dX12_constantHere_145 : decode cX12_constantHere 145 = .ok (.iload_n 3, 1) := by decide +kernel
theorem dX12_constantHere_146 : decode cX12_constantHere 146 = .ok (.ireturn, 1) := by decide +kernel
theorem dX12_constantHere_147 : decode cX12_constantHere 147 = .ok (.iinc 3 1, 3) := by decide +kernel
theorem dX12_constantHere_150 : decode cX12_constantHere 150 = .ok (.goto (-116), 3) := by decide +kernel
theorem dX12_constantHere_153 : decode cX12_constantHere 153 = .ok (.iinc 2 1, 3) := by decide +kernel
theorem dX12_constantHere_156 : decode cX12_constantHere 156 = .ok (.goto (-142), 3) := by decide +kernel
theorem dX12_constantHere_159 : decode cX12_constantHere 159 = .ok (.iconst (-1), 1) := by decide +kernel
theorem dX12_constantHere_160 : decode cX12_constantHere 160 = .ok (.ireturn, 1) := by decide +kernel
theorem dX12_encode_0 : decode cX12_encode 0 = .ok (.iload_n 1, 1) := by decide +kernel
theorem dX12_encode_1 : decode cX12_encode 1 = .ok (.ifCond .lt 11, 3) := by decide +kernel
theorem dX12_encode_4 : decode cX12_encode 4 = .ok (.iload_n 1, 1) := by decide +kernel
theorem dX12_encode_5 : decode cX12_encode 5 = .ok (.aload_n 0, 1) := by decide +kernel
theorem dX12_encode_6 : decode cX12_encode 6 = .ok (.getfield 392, 3) := by decide +kernel
theorem dX12_encode_9 : decode cX12_encode 9 = .ok (.if_icmp .lt 5, 3) := by decide +kernel
theorem dX12_encode_12 : decode cX12_encode 12 = .ok (.iconst (-1), 1) := by decide +kernel
theorem dX12_encode_13 : decode cX12_encode 13 = .ok (.ireturn, 1) := by decide +kernel
theorem dX12_encode_14 : decode cX12_encode 14 = .ok (.aload_n 0, 1) := by decide +kernel
theorem dX12_encode_15 : decode cX12_encode 15 = .ok (.getfield 473, 3) := by decide +kernel
theorem dX12_encode_18 : decode cX12_encode 18 = .ok (.bipush 20, 2) := by decide +kernel
theorem dX12_encode_20 : decode cX12_encode 20 = .ok (.if_icmp .ne 6, 3) := by decide +kernel
theorem dX12_encode_23 : decode cX12_encode 23 = .ok (.bipush (-2), 2) := by decide +kernel
theorem dX12_encode_25 : decode cX12_encode 25 = .ok (.ireturn, 1) := by decide +kernel
theorem dX12_encode_26 : decode cX12_encode 26 = .ok (.bipush 61, 2) := by decide +kernel
theorem dX12_encode_28 : decode cX12_encode 28 = .ok (.aload_n 0, 1) := by decide +kernel
theorem dX12_encode_29 : decode cX12_encode 29 = .ok (.getfield 473, 3) := by decide +kernel
theorem dX12_encode_32 : decode cX12_encode 32 = .ok (.imul, 1) := by decide +kernel
theorem dX12_encode_33 : decode cX12_encode 33 = .ok (.istore_n 2, 1) := by decide +kernel
theorem dX12_encode_34 : decode cX12_encode 34 = .ok (.iconst 0, 1) := by decide +kernel
theorem dX12_encode_35 : decode cX12_encode 35 = .ok (.istore_n 3, 1) := by decide +kernel
theorem dX12_encode_36 : decode cX12_encode 36 = .ok (.iconst 0, 1) := by decide +kernel
theorem dX12_encode_37 : decode cX12_encode 37 = .ok (.istore 4, 2) := by decide +kernel
theorem dX12_encode_39 : decode cX12_encode 39 = .ok (.iconst 1, 1) := by decide +kernel
theorem dX12_encode_40 : decode cX12_encode 40 = .ok (.istore 5, 2) := by decide +kernel
theorem dX12_encode_42 : decode cX12_encode 42 = .ok (.aload_n 0, 1) := by decide +kernel
theorem dX12_encode_43 : decode cX12_encode 43 = .ok (.iconst 0, 1) := by decide +kernel
theorem dX12_encode_44 : decode cX12_encode 44 = .ok (.putfield 195, 3) := by decide +kernel
theorem dX12_encode_47 : decode cX12_encode 47 = .ok (.aload_n 0, 1) := by decide +kernel
theorem dX12_encode_48 : decode cX12_encode 48 = .ok (.invokevirtual 285, 3) := by decide +kernel
theorem dX12_encode_51 : decode cX12_encode 51 = .ok (.iload 5, 2) := by decide +kernel
theorem dX12_encode_53 : decode cX12_encode 53 = .ok (.ifCond .eq 106, 3) := by decide +kernel
theorem dX12_encode_56 : decode cX12_encode 56 = .ok (.aload_n 0, 1) := by decide +kernel
theorem dX12_encode_57 : decode cX12_encode 57 = .ok (.getfield 205, 3) := by decide +kernel
theorem dX12_encode_60 : decode cX12_encode 60 = .ok (.ifCond .eq 99, 3) := by decide +kernel
theorem dX12_encode_63 : decode cX12_encode 63 = .ok (.iload 4, 2) := by decide +kernel
theorem dX12_encode_65 : decode cX12_encode 65 = .ok (.ifCond .eq 31, 3) := by decide +kernel
theorem dX12_encode_68 : decode cX12_encode 68 = .ok (.aload_n 0, 1) := by decide +kernel
theorem dX12_encode_69 : decode cX12_encode 69 = .ok (.getfield 205, 3) := by decide +kernel
theorem dX12_encode_72 : decode cX12_encode 72 = .ok (.iconst 3, 1) := by decide +kernel
theorem dX12_encode_73 : decode cX12_encode 73 = .ok (.if_icmp .ne 23, 3) := by decide +kernel
theorem dX12_encode_76 : decode cX12_encode 76 = .ok (.aload_n 0, 1) := by decide +kernel
theorem dX12_encode_77 : decode cX12_encode 77 = .ok (.getfield 182, 3) := by decide +kernel
theorem dX12_encode_80 : decode cX12_encode 80 = .ok (.iload_n 2, 1) := by decide +kernel
theorem dX12_encode_81 : decode cX12_encode 81 = .ok (.iload_n 3, 1) := by decide +kernel
theorem dX12_encode_82 : decode cX12_encode 82 = .ok (.iadd, 1) := by decide +kernel
theorem dX12_encode_83 : decode cX12_encode 83 = .ok (.iconst 1, 1) := by decide +kernel
theorem dX12_encode_84 : decode cX12_encode 84 = .ok (.isub, 1) := by decide +kernel
theorem dX12_encode_85 : decode cX12_encode 85 = .ok (.aload_n 0, 1) := by decide +kernel
theorem dX12_encode_86 : decode cX12_encode 86 = .ok (.getfield 215, 3) := by decide +kernel
theorem dX12_encode_89 : decode cX12_encode 89 = .ok (.iastore, 1) := by decide +kernel
theorem dX12_encode_90 : decode cX12_encode 90 = .ok (.iconst 0, 1) := by decide +kernel
theorem dX12_encode_91 : decode cX12_encode 91 = .ok (.istore 4, 2) := by decide +kernel
theorem dX12_encode_93 : decode cX12_encode 93 = .ok (.goto 54, 3) := by decide +kernel
theorem dX12_encode_96 : decode cX12_encode 96 = .ok (.aload_n 0, 1) := by decide +kernel
theorem dX12_encode_97 : decode cX12_encode 97 = .ok (.iload_n 1, 1) := by decide +kernel
theorem dX12_encode_98 : decode cX12_encode 98 = .ok (.invokevirtual 476, 3) := by decide +kernel
theorem dX12_encode_101 : decode cX12_encode 101 = .ok (.istore 6, 2) := by decide +kernel
theorem dX12_encode_103 : decode cX12_encode 103 = .ok (.iload 6, 2) := by decide +kernel
theorem dX12_encode_105 : decode cX12_encode 105 = .ok (.iconst (-1), 1) := by decide +kernel
theorem dX12_encode_106 : decode cX12_encode 106 = .ok (.if_icmp .eq 13, 3) := by decide +kernel
theorem dX12_encode_109 : decode cX12_encode 109 = .ok (.iload_n 3, 1) := by decide +kernel
theorem dX12_encode_110 : decode cX12_encode 110 = .ok (.bipush 60, 2) := by decide +kernel
theorem dX12_encode_112 : decode cX12_encode 112 = .ok (.if_icmp .ge 7, 3) := by decide +kernel
theorem dX12_encode_115 : decode cX12_encode 115 = .ok (.iconst 1, 1) := by decide +kernel
theorem dX12_encode_116 : decode cX12_encode 116 = .ok (.goto 4, 3) := by decide +kernel
theorem dX12_encode_119 : decode cX12_encode 119 = .ok (.iconst 0, 1) := by decide +kernel
theorem dX12_encode_120 : decode cX12_encode 120 = .ok (.istore 5, 2) := by decide +kernel
theorem dX12_encode_122 : decode cX12_encode 122 = .ok (.aload_n 0, 1) := by decide +kernel
theorem dX12_encode_123 : decode cX12_encode 123 = .ok (.getfield 179, 3) := by decide +kernel
theorem dX12_encode_126 : decode cX12_encode 126 = .ok (.iload_n 2, 1) := by decide +kernel
theorem dX12_encode_127 : decode cX12_encode 127 = .ok (.iload_n 3, 1) := by decide +kernel
theorem dX12_encode_128 : decode cX12_encode 128 = .ok (.iadd, 1) := by decide +kernel
theorem dX12_encode_129 : decode cX12_encode 129 = .ok (.iload 6, 2) := by decide +kernel
theorem dX12_encode_131 : decode cX12_encode 131 = .ok (.iastore, 1) := by decide +kernel
theorem dX12_encode_132 : decode cX12_encode 132 = .ok (.aload_n 0, 1) := by decide +kernel
theorem dX12_encode_133 : decode cX12_encode 133 = .ok (.getfield 182, 3) := by decide +kernel
theorem dX12_encode_136 : decode cX12_encode 136 = .ok (.iload_n 2, 1) := by decide +kernel
theorem dX12_encode_137 : decode cX12_encode 137 = .ok (.iload_n 3, 1) := by decide +kernel
theorem dX12_encode_138 : decode cX12_encode 138 = .ok (.iadd, 1) := by decide +kernel
theorem dX12_encode_139 : decode cX12_encode 139 = .ok (.iconst 0, 1) := by decide +kernel
theorem dX12_encode_140 : decode cX12_encode 140 = .ok (.iastore, 1) := by decide +kernel
theorem dX12_encode_141 : decode cX12_encode 141 = .ok (.iinc 3 1, 3) := by decide +kernel
theorem dX12_encode_144 : decode cX12_encode 144 = .ok (.iconst 1, 1) := by decide +kernel
theorem dX12_encode_145 : decode cX12_encode 145 = .ok (.istore 4, 2) := by decide +kernel
theorem dX12_encode_147 : decode cX12_encode 147 = .ok (.iload 5, 2) := by decide +kernel
theorem dX12_encode_149 : decode cX12_encode 149 = .ok (.ifCond .eq (-98), 3) := by decide +kernel
theorem dX12_encode_152 : decode cX12_encode 152 = .ok (.aload_n 0, 1) := by decide +kernel
theorem dX12_encode_153 : decode cX12_encode 153 = .ok (.invokevirtual 285, 3) := by decide +kernel
theorem dX12_encode_156 : decode cX12_encode 156 = .ok (.goto (-105), 3) := by decide +kernel
theorem dX12_encode_159 : decode cX12_encode 159 = .ok (.aload_n 0, 1) := by decide +kernel
theorem dX12_encode_160 : decode cX12_encode 160 = .ok (.iconst 0, 1) := by decide +kernel
theorem dX12_encode_161 : decode cX12_encode 161 = .ok (.putfield 192, 3) := by decide +kernel
theorem dX12_encode_164 : decode cX12_encode 164 = .ok (.iload 5, 2) := by decide +kernel
theorem dX12_encode_166 : decode cX12_encode 166 = .ok (.ifCond .eq 7, 3) := by decide +kernel
theorem dX12_encode_169 : decode cX12_encode 169 = .ok (.iload_n 3, 1) := by decide +kernel
theorem dX12_encode_170 : decode cX12_encode 170 = .ok (.ifCond .ne 11, 3) := by decide +kernel
theorem dX12_encode_173 : decode cX12_encode 173 = .ok (.bipush (-10), 2) := by decide +kernel
theorem dX12_encode_175 : decode cX12_encode 175 = .ok (.aload_n 0, 1) := by decide +kernel
theorem dX12_encode_176 : decode cX12_encode 176 = .ok (.getfield 198, 3) := by decide +kernel
theorem dX12_encode_179 : decode cX12_encode 179 = .ok (.isub, 1) := by decide +kernel
theorem dX12_encode_180 : decode cX12_encode 180 = .ok (.ireturn, 1) := by decide +kernel
theorem dX12_encode_181 : decode cX12_encode 181 = .ok (.aload_n 0, 1) := by decide +kernel
theorem dX12_encode_182 : decode cX12_encode 182 = .ok (.getfield 173, 3) := by decide +kernel
theorem dX12_encode_185 : decode cX12_encode 185 = .ok (.aload_n 0, 1) := by decide +kernel
theorem dX12_encode_186 : decode cX12_encode 186 = .ok (.getfield 473, 3) := by decide +kernel
theorem dX12_encode_189 : decode cX12_encode 189 = .ok (.iload_n 1, 1) := by decide +kernel
theorem dX12_encode_190 : decode cX12_encode 190 = .ok (.iastore, 1) := by decide +kernel
theorem dX12_encode_191 : decode cX12_encode 191 = .ok (.aload_n 0, 1) := by decide +kernel
theorem dX12_encode_192 : decode cX12_encode 192 = .ok (.getfield 176, 3) := by decide +kernel
theorem dX12_encode_195 : decode cX12_encode 195 = .ok (.aload_n 0, 1) := by decide +kernel
theorem dX12_encode_196 : decode cX12_encode 196 = .ok (.getfield 473, 3) := by decide +kernel
theorem dX12_encode_199 : decode cX12_encode 199 = .ok (.iload_n 3, 1) := by decide +kernel
theorem dX12_encode_200 : decode cX12_encode 200 = .ok (.iastore, 1) := by decide +kernel
theorem dX12_encode_201 : decode cX12_encode 201 = .ok (.aload_n 0, 1) := by decide +kernel
theorem dX12_encode_202 : decode cX12_encode 202 = .ok (.dup, 1) := by decide +kernel
theorem dX12_encode_203 : decode cX12_encode 203 = .ok (.getfield 473, 3) := by decide +kernel
theorem dX12_encode_206 : decode cX12_encode 206 = .ok (.iconst 1, 1) := by decide +kernel
theorem dX12_encode_207 : decode cX12_encode 207 = .ok (.iadd, 1) := by decide +kernel
theorem dX12_encode_208 : decode cX12_encode 208 = .ok (.putfield 473, 3) := by decide +kernel
theorem dX12_encode_211 : decode cX12_encode 211 = .ok (.aload_n 0, 1) := by decide +kernel
theorem dX12_encode_212 : decode cX12_encode 212 = .ok (.getfield 473, 3) := by decide +kernel
theorem dX12_encode_215 : decode cX12_encode 215 = .ok (.iconst 1, 1) := by decide +kernel
theorem dX12_encode_216 : decode cX12_encode 216 = .ok (.isub, 1) := by decide +kernel
theorem dX12_encode_217 : decode cX12_encode 217 = .ok (.ireturn, 1) := by decide +kernel
theorem dX12_signal_0 : decode cX12_signal 0 = .ok (.iload_n 1, 1) := by decide +kernel
theorem dX12_signal_1 : decode cX12_signal 1 = .ok (.ifCond .lt 25, 3) := by decide +kernel
theorem dX12_signal_4 : decode cX12_signal 4 = .ok (.iload_n 1, 1) := by decide +kernel
theorem dX12_signal_5 : decode cX12_signal 5 = .ok (.aload_n 0, 1) := by decide +kernel
theorem dX12_signal_6 : decode cX12_signal 6 = .ok (.getfield 473, 3) := by decide +kernel
theorem dX12_signal_9 : decode cX12_signal 9 = .ok (.if_icmp .ge 17, 3) := by decide +kernel
theorem dX12_signal_12 : decode cX12_signal 12 = .ok (.iload_n 2, 1) := by decide +kernel
theorem dX12_signal_13 : decode cX12_signal 13 = .ok (.ifCond .lt 13, 3) := by decide +kernel
theorem dX12_signal_16 : decode cX12_signal 16 = .ok (.iload_n 2, 1) := by decide +kernel
theorem dX12_signal_17 : decode cX12_signal 17 = .ok (.aload_n 0, 1) := by decide +kernel
theorem dX12_signal_18 : decode cX12_signal 18 = .ok (.getfield 176, 3) := by decide +kernel
theorem dX12_signal_21 : decode cX12_signal 21 = .ok (.iload_n 1, 1) := by decide +kernel
theorem dX12_signal_22 : decode cX12_signal 22 = .ok (.iaload, 1) := by decide +kernel
theorem dX12_signal_23 : decode cX12_signal 23 = .ok (.if_icmp .lt 5, 3) := by decide +kernel
theorem dX12_signal_26 : decode cX12_signal 26 = .ok (.iconst (-1), 1) := by decide +kernel
theorem dX12_signal_27 : decode cX12_signal 27 = .ok (.ireturn, 1) := by decide +kernel
theorem dX12_signal_28 : decode cX12_signal 28 = .ok (.aload_n 0, 1) := by decide +kernel
theorem dX12_signal_29 : decode cX12_signal 29 = .ok (.getfield 179, 3) := by decide +kernel
theorem dX12_signal_32 : decode cX12_signal 32 = .ok (.bipush 61, 2) := by decide +kernel
theorem dX12_signal_34 : decode cX12_signal 34 = .ok (.iload_n 1, 1) := by decide +kernel
theorem dX12_signal_35 : decode cX12_signal 35 = .ok (.imul, 1) := by decide +kernel
theorem dX12_signal_36 : decode cX12_signal 36 = .ok (.iload_n 2, 1) := by decide +kernel
theorem dX12_signal_37 : decode cX12_signal 37 = .ok (.iadd, 1) := by decide +kernel
theorem dX12_signal_38 : decode cX12_signal 38 = .ok (.iaload, 1) := by decide +kernel
theorem dX12_signal_39 : decode cX12_signal 39 = .ok (.istore 4, 2) := by decide +kernel
theorem dX12_signal_41 : decode cX12_signal 41 = .ok (.iload_n 3, 1) := by decide +kernel
theorem dX12_signal_42 : decode cX12_signal 42 = .ok (.tableswitch 64 0 3 #[30, 39, 45, 57], 30) := by decide +kernel
theorem dX12_signal_72 : decode cX12_signal 72 = .ok (.iload 4, 2) := by decide +kernel
theorem dX12_signal_74 : decode cX12_signal 74 = .ok (.bipush 24, 2) := by decide +kernel
theorem dX12_signal_76 : decode cX12_signal 76 = .ok (.idiv, 1) := by decide +kernel
theorem dX12_signal_77 : decode cX12_signal 77 = .ok (.bipush 12, 2) := by decide +kernel
theorem dX12_signal_79 : decode cX12_signal 79 = .ok (.irem, 1) := by decide +kernel
theorem dX12_signal_80 : decode cX12_signal 80 = .ok (.ireturn, 1) := by decide +kernel
theorem dX12_signal_81 : decode cX12_signal 81 = .ok (.iload 4, 2) := by decide +kernel
theorem dX12_signal_83 : decode cX12_signal 83 = .ok (.bipush 24, 2) := by decide +kernel
theorem dX12_signal_85 : decode cX12_signal 85 = .ok (.irem, 1) := by decide +kernel
theorem dX12_signal_86 : decode cX12_signal 86 = .ok (.ireturn, 1) := by decide +kernel
theorem dX12_signal_87 : decode cX12_signal 87 = .ok (.aload_n 0, 1) := by decide +kernel
theorem dX12_signal_88 : decode cX12_signal 88 = .ok (.getfield 182, 3) := by decide +kernel
theorem dX12_signal_91 : decode cX12_signal 91 = .ok (.bipush 61, 2) := by decide +kernel
theorem dX12_signal_93 : decode cX12_signal 93 = .ok (.iload_n 1, 1) := by decide +kernel
theorem dX12_signal_94 : decode cX12_signal 94 = .ok (.imul, 1) := by decide +kernel
theorem dX12_signal_95 : decode cX12_signal 95 = .ok (.iload_n 2, 1) := by decide +kernel
theorem dX12_signal_96 : decode cX12_signal 96 = .ok (.iadd, 1) := by decide +kernel
theorem dX12_signal_97 : decode cX12_signal 97 = .ok (.iaload, 1) := by decide +kernel
theorem dX12_signal_98 : decode cX12_signal 98 = .ok (.ireturn, 1) := by decide +kernel
theorem dX12_signal_99 : decode cX12_signal 99 = .ok (.aload_n 0, 1) := by decide +kernel
theorem dX12_signal_100 : decode cX12_signal 100 = .ok (.getfield 173, 3) := by decide +kernel
theorem dX12_signal_103 : decode cX12_signal 103 = .ok (.iload_n 1, 1) := by decide +kernel
theorem dX12_signal_104 : decode cX12_signal 104 = .ok (.iaload, 1) := by decide +kernel
theorem dX12_signal_105 : decode cX12_signal 105 = .ok (.ireturn, 1) := by decide +kernel
theorem dX12_signal_106 : decode cX12_signal 106 = .ok (.iconst (-1), 1) := by decide +kernel
theorem dX12_signal_107 : decode cX12_signal 107 = .ok (.ireturn, 1) := by decide +kernel
theorem dX12_put__0 : decode cX12_put_ 0 = .ok (.aload_n 0, 1) := by decide +kernel
theorem dX12_put__1 : decode cX12_put_ 1 = .ok (.getfield 185, 3) := by decide +kernel
theorem dX12_put__4 : decode cX12_put_ 4 = .ok (.aload_n 0, 1) := by decide +kernel
theorem dX12_put__5 : decode cX12_put_ 5 = .ok (.getfield 479, 3) := by decide +kernel
theorem dX12_put__8 : decode cX12_put_ 8 = .ok (.iload_n 1, 1) := by decide +kernel
theorem dX12_put__9 : decode cX12_put_ 9 = .ok (.i2b, 1) := by decide +kernel
theorem dX12_put__10 : decode cX12_put_ 10 = .ok (.bastore, 1) := by decide +kernel
theorem dX12_put__11 : decode cX12_put_ 11 = .ok (.aload_n 0, 1) := by decide +kernel
theorem dX12_put__12 : decode cX12_put_ 12 = .ok (.dup, 1) := by decide +kernel
theorem dX12_put__13 : decode cX12_put_ 13 = .ok (.getfield 479, 3) := by decide +kernel
theorem dX12_put__16 : decode cX12_put_ 16 = .ok (.iconst 1, 1) := by decide +kernel
theorem dX12_put__17 : decode cX12_put_ 17 = .ok (.iadd, 1) := by decide +kernel
theorem dX12_put__18 : decode cX12_put_ 18 = .ok (.putfield 479, 3) := by decide +kernel
theorem dX12_put__21 : decode cX12_put_ 21 = .ok (.return_, 1) := by decide +kernel
theorem dX12_decode_0 : decode cX12_decode 0 = .ok (.iload_n 1, 1) := by decide +kernel
theorem dX12_decode_1 : decode cX12_decode 1 = .ok (.ifCond .lt 11, 3) := by decide +kernel
theorem dX12_decode_4 : decode cX12_decode 4 = .ok (.iload_n 1, 1) := by decide +kernel
theorem dX12_decode_5 : decode cX12_decode 5 = .ok (.aload_n 0, 1) := by decide +kernel
theorem dX12_decode_6 : decode cX12_decode 6 = .ok (.getfield 473, 3) := by decide +kernel
theorem dX12_decode_9 : decode cX12_decode 9 = .ok (.if_icmp .lt 5, 3) := by decide +kernel
theorem dX12_decode_12 : decode cX12_decode 12 = .ok (.iconst (-1), 1) := by decide +kernel
theorem dX12_decode_13 : decode cX12_decode 13 = .ok (.ireturn, 1) := by decide +kernel
theorem dX12_decode_14 : decode cX12_decode 14 = .ok (.aload_n 0, 1) := by decide +kernel
theorem dX12_decode_15 : decode cX12_decode 15 = .ok (.iconst 0, 1) := by decide +kernel
theorem dX12_decode_16 : decode cX12_decode 16 = .ok (.putfield 479, 3) := by decide +kernel
theorem dX12_decode_19 : decode cX12_decode 19 = .ok (.bipush 61, 2) := by decide +kernel
theorem dX12_decode_21 : decode cX12_decode 21 = .ok (.iload_n 1, 1) := by decide +kernel
theorem dX12_decode_22 : decode cX12_decode 22 = .ok (.imul, 1) := by decide +kernel
theorem dX12_decode_23 : decode cX12_decode 23 = .ok (.istore_n 2, 1) := by decide +kernel
theorem dX12_decode_24 : decode cX12_decode 24 = .ok (.iload_n 2, 1) := by decide +kernel
theorem dX12_decode_25 : decode cX12_decode 25 = .ok (.bipush 61, 2) := by decide +kernel
theorem dX12_decode_27 : decode cX12_decode 27 = .ok (.iload_n 1, 1) := by decide +kernel
theorem dX12_decode_28 : decode cX12_decode 28 = .ok (.imul, 1) := by decide +kernel
theorem dX12_decode_29 : decode cX12_decode 29 = .ok (.aload_n 0, 1) := by decide +kernel
theorem dX12_decode_30 : decode cX12_decode 30 = .ok (.getfield 176, 3) := by decide +kernel
theorem dX12_decode_33 : decode cX12_decode 33 = .ok (.iload_n 1, 1) := by decide +kernel
theorem dX12_decode_34 : decode cX12_decode 34 = .ok (.iaload, 1) := by decide +kernel
theorem dX12_decode_35 : decode cX12_decode 35 = .ok (.iadd, 1) := by decide +kernel
theorem dX12_decode_36 : decode cX12_decode 36 = .ok (.if_icmp .ge 147, 3) := by decide +kernel
theorem dX12_decode_39 : decode cX12_decode 39 = .ok (.aload_n 0, 1) := by decide +kernel
theorem dX12_decode_40 : decode cX12_decode 40 = .ok (.getfield 479, 3) := by decide +kernel
theorem dX12_decode_43 : decode cX12_decode 43 = .ok (.ifCond .le 9, 3) := by decide +kernel
theorem dX12_decode_46 : decode cX12_decode 46 = .ok (.aload_n 0, 1) := by decide +kernel
theorem dX12_decode_47 : decode cX12_decode 47 = .ok (.bipush 32, 2) := by decide +kernel
theorem dX12_decode_49 : decode cX12_decode 49 = .ok (.invokevirtual 482, 3) := by decide +kernel
theorem dX12_decode_52 : decode cX12_decode 52 = .ok (.aload_n 0, 1) := by decide +kernel
theorem dX12_decode_53 : decode cX12_decode 53 = .ok (.getfield 47, 3) := by decide +kernel
theorem dX12_decode_56 : decode cX12_decode 56 = .ok (.aload_n 0, 1) := by decide +kernel
theorem dX12_decode_57 : decode cX12_decode 57 = .ok (.getfield 179, 3) := by decide +kernel
theorem dX12_decode_60 : decode cX12_decode 60 = .ok (.iload_n 2, 1) := by decide +kernel
theorem dX12_decode_61 : decode cX12_decode 61 = .ok (.iaload, 1) := by decide +kernel
theorem dX12_decode_62 : decode cX12_decode 62 = .ok (.iaload, 1) := by decide +kernel
theorem dX12_decode_63 : decode cX12_decode 63 = .ok (.istore_n 3, 1) := by decide +kernel
theorem dX12_decode_64 : decode cX12_decode 64 = .ok (.iconst 0, 1) := by decide +kernel
theorem dX12_decode_65 : decode cX12_decode 65 = .ok (.istore 4, 2) := by decide +kernel
theorem dX12_decode_67 : decode cX12_decode 67 = .ok (.iload 4, 2) := by decide +kernel
theorem dX12_decode_69 : decode cX12_decode 69 = .ok (.iload_n 3, 1) := by decide +kernel
theorem dX12_decode_70 : decode cX12_decode 70 = .ok (.bipush 16, 2) := by decide +kernel
theorem dX12_decode_72 : decode cX12_decode 72 = .ok (.irem, 1) := by decide +kernel
theorem dX12_decode_73 : decode cX12_decode 73 = .ok (.if_icmp .ge 25, 3) := by decide +kernel
theorem dX12_decode_76 : decode cX12_decode 76 = .ok (.aload_n 0, 1) := by decide +kernel
theorem dX12_decode_77 : decode cX12_decode 77 = .ok (.aload_n 0, 1) := by decide +kernel
theorem dX12_decode_78 : decode cX12_decode 78 = .ok (.getfield 13, 3) := by decide +kernel
theorem dX12_decode_81 : decode cX12_decode 81 = .ok (.iload_n 3, 1) := by decide +kernel
theorem dX12_decode_82 : decode cX12_decode 82 = .ok (.bipush 16, 2) := by decide +kernel
theorem dX12_decode_84 : decode cX12_decode 84 = .ok (.idiv, 1) := by decide +kernel
theorem dX12_decode_85 : decode cX12_decode 85 = .ok (.iload 4, 2) := by decide +kernel
theorem dX12_decode_87 : decode cX12_decode 87 = .ok (.iadd, 1) := by decide +kernel
theorem dX12_decode_88 : decode cX12_decode 88 = .ok (.baload, 1) := by decide +kernel
theorem dX12_decode_89 : decode cX12_decode 89 = .ok (.invokevirtual 482, 3) := by decide +kernel
theorem dX12_decode_92 : decode cX12_decode 92 = .ok (.iinc 4 1, 3) := by decide +kernel
theorem dX12_decode_95 : decode cX12_decode 95 = .ok (.goto (-28), 3) := by decide +kernel
theorem dX12_decode_98 : decode cX12_decode 98 = .ok (.aload_n 0, 1) := by decide +kernel
theorem dX12_decode_99 : decode cX12_decode 99 = .ok (.getfield 182, 3) := by decide +kernel
theorem dX12_decode_102 : decode cX12_decode 102 = .ok (.iload_n 2, 1) := by decide +kernel
theorem dX12_decode_103 : decode cX12_decode 103 = .ok (.iaload, 1) := by decide +kernel
theorem dX12_decode_104 : decode cX12_decode 104 = .ok (.ifCond .ne 6, 3) := by decide +kernel
theorem dX12_decode_107 : decode cX12_decode 107 = .ok (.goto 70, 3) := by decide +kernel
theorem dX12_decode_110 : decode cX12_decode 110 = .ok (.aload_n 0, 1) := by decide +kernel
theorem dX12_decode_111 : decode cX12_decode 111 = .ok (.bipush 32, 2) := by decide +kernel
theorem dX12_decode_113 : decode cX12_decode 113 = .ok (.invokevirtual 482, 3) := by decide +kernel
theorem dX12_decode_116 : decode cX12_decode 116 = .ok (.iconst 1, 1) := by decide +kernel
theorem dX12_decode_117 : decode cX12_decode 117 = .ok (.istore 4, 2) := by decide +kernel
theorem dX12_decode_119 : decode cX12_decode 119 = .ok (.aload_n 0, 1) := by decide +kernel
theorem dX12_decode_120 : decode cX12_decode 120 = .ok (.getfield 182, 3) := by decide +kernel
theorem dX12_decode_123 : decode cX12_decode 123 = .ok (.iload_n 2, 1) := by decide +kernel
theorem dX12_decode_124 : decode cX12_decode 124 = .ok (.iaload, 1) := by decide +kernel
theorem dX12_decode_125 : decode cX12_decode 125 = .ok (.iload 4, 2) := by decide +kernel
theorem dX12_decode_127 : decode cX12_decode 127 = .ok (.idiv, 1) := by decide +kernel
theorem dX12_decode_128 : decode cX12_decode 128 = .ok (.bipush 9, 2) := by decide +kernel
theorem dX12_decode_130 : decode cX12_decode 130 = .ok (.if_icmp .le 13, 3) := by decide +kernel
theorem dX12_decode_133 : decode cX12_decode 133 = .ok (.iload 4, 2) := by decide +kernel
theorem dX12_decode_135 : decode cX12_decode 135 = .ok (.bipush 10, 2) := by decide +kernel
theorem dX12_decode_137 : decode cX12_decode 137 = .ok (.imul, 1) := by decide +kernel
theorem dX12_decode_138 : decode cX12_decode 138 = .ok (.istore 4, 2) := by decide +kernel
theorem dX12_decode_140 : decode cX12_decode 140 = .ok (.goto (-21), 3) := by decide +kernel
theorem dX12_decode_143 : decode cX12_decode 143 = .ok (.iload 4, 2) := by decide +kernel
theorem dX12_decode_145 : decode cX12_decode 145 = .ok (.ifCond .le 32, 3) := by decide +kernel
theorem dX12_decode_148 : decode cX12_decode 148 = .ok (.aload_n 0, 1) := by decide +kernel
theorem dX12_decode_149 : decode cX12_decode 149 = .ok (.bipush 48, 2) := by decide +kernel
theorem dX12_decode_151 : decode cX12_decode 151 = .ok (.aload_n 0, 1) := by decide +kernel
theorem dX12_decode_152 : decode cX12_decode 152 = .ok (.getfield 182, 3) := by decide +kernel
theorem dX12_decode_155 : decode cX12_decode 155 = .ok (.iload_n 2, 1) := by decide +kernel
theorem dX12_decode_156 : decode cX12_decode 156 = .ok (.iaload, 1) := by decide +kernel
theorem dX12_decode_157 : decode cX12_decode 157 = .ok (.iload 4, 2) := by decide +kernel
theorem dX12_decode_159 : decode cX12_decode 159 = .ok (.idiv, 1) := by decide +kernel
theorem dX12_decode_160 : decode cX12_decode 160 = .ok (.bipush 10, 2) := by decide +kernel
theorem dX12_decode_162 : decode cX12_decode 162 = .ok (.irem, 1) := by decide +kernel
theorem dX12_decode_163 : decode cX12_decode 163 = .ok (.iadd, 1) := by decide +kernel
theorem dX12_decode_164 : decode cX12_decode 164 = .ok (.invokevirtual 482, 3) := by decide +kernel
theorem dX12_decode_167 : decode cX12_decode 167 = .ok (.iload 4, 2) := by decide +kernel
theorem dX12_decode_169 : decode cX12_decode 169 = .ok (.bipush 10, 2) := by decide +kernel
theorem dX12_decode_171 : decode cX12_decode 171 = .ok (.idiv, 1) := by decide +kernel
theorem dX12_decode_172 : decode cX12_decode 172 = .ok (.istore 4, 2) := by decide +kernel
theorem dX12_decode_174 : decode cX12_decode 174 = .ok (.goto (-31), 3) := by decide +kernel
theorem dX12_decode_177 : decode cX12_decode 177 = .ok (.iinc 2 1, 3) := by decide +kernel
theorem dX12_decode_180 : decode cX12_decode 180 = .ok (.goto (-156), 3) := by decide +kernel
theorem dX12_decode_183 : decode cX12_decode 183 = .ok (.aload_n 0, 1) := by decide +kernel
theorem dX12_decode_184 : decode cX12_decode 184 = .ok (.aload_n 0, 1) := by decide +kernel
theorem dX12_decode_185 : decode cX12_decode 185 = .ok (.getfield 479, 3) := by decide +kernel
theorem dX12_decode_188 : decode cX12_decode 188 = .ok (.putfield 192, 3) := by decide +kernel
theorem dX12_decode_191 : decode cX12_decode 191 = .ok (.iconst 0, 1) := by decide +kernel
theorem dX12_decode_192 : decode cX12_decode 192 = .ok (.istore_n 2, 1) := by decide +kernel
theorem dX12_decode_193 : decode cX12_decode 193 = .ok (.iload_n 2, 1) := by decide +kernel
theorem dX12_decode_194 : decode cX12_decode 194 = .ok (.aload_n 0, 1) := by decide +kernel
theorem dX12_decode_195 : decode cX12_decode 195 = .ok (.getfield 479, 3) := by decide +kernel
theorem dX12_decode_198 : decode cX12_decode 198 = .ok (.if_icmp .ge 21, 3) := by decide +kernel
theorem dX12_decode_201 : decode cX12_decode 201 = .ok (.aload_n 0, 1) := by decide +kernel
theorem dX12_decode_202 : decode cX12_decode 202 = .ok (.getfield 7, 3) := by decide +kernel
theorem dX12_decode_205 : decode cX12_decode 205 = .ok (.iload_n 2, 1) := by decide +kernel
theorem dX12_decode_206 : decode cX12_decode 206 = .ok (.aload_n 0, 1) := by decide +kernel
theorem dX12_decode_207 : decode cX12_decode 207 = .ok (.getfield 185, 3) := by decide +kernel
theorem dX12_decode_210 : decode cX12_decode 210 = .ok (.iload_n 2, 1) := by decide +kernel
theorem dX12_decode_211 : decode cX12_decode 211 = .ok (.baload, 1) := by decide +kernel
theorem dX12_decode_212 : decode cX12_decode 212 = .ok (.bastore, 1) := by decide +kernel
theorem dX12_decode_213 : decode cX12_decode 213 = .ok (.iinc 2 1, 3) := by decide +kernel
theorem dX12_decode_216 : decode cX12_decode 216 = .ok (.goto (-23), 3) := by decide +kernel
theorem dX12_decode_219 : decode cX12_decode 219 = .ok (.aload_n 0, 1) := by decide +kernel
theorem dX12_decode_220 : decode cX12_decode 220 = .ok (.getfield 479, 3) := by decide +kernel
theorem dX12_decode_223 : decode cX12_decode 223 = .ok (.ireturn, 1) := by decide +kernel
theorem dJ11_isValidCodePoint_9a6ad_0 : decode cJ11_isValidCodePoint_9a6ad 0 = .ok (.iload_n 0, 1) := by decide +kernel
theorem dJ11_isValidCodePoint_9a6ad_1 : decode cJ11_isValidCodePoint_9a6ad 1 = .ok (.bipush 16, 2) := by decide +kernel
theorem dJ11_isValidCodePoint_9a6ad_3 : decode cJ11_isValidCodePoint_9a6ad 3 = .ok (.iushr, 1) := by decide +kernel
theorem dJ11_isValidCodePoint_9a6ad_4 : decode cJ11_isValidCodePoint_9a6ad 4 = .ok (.istore_n 1, 1) := by decide +kernel
theorem dJ11_isValidCodePoint_9a6ad_5 : decode cJ11_isValidCodePoint_9a6ad 5 = .ok (.iload_n 1, 1) := by decide +kernel
theorem dJ11_isValidCodePoint_9a6ad_6 : decode cJ11_isValidCodePoint_9a6ad 6 = .ok (.bipush 17, 2) := by decide +kernel
theorem dJ11_isValidCodePoint_9a6ad_8 : decode cJ11_isValidCodePoint_9a6ad 8 = .ok (.if_icmp .ge 7, 3) := by decide +kernel
theorem dJ11_isValidCodePoint_9a6ad_11 : decode cJ11_isValidCodePoint_9a6ad 11 = .ok (.iconst 1, 1) := by decide +kernel
theorem dJ11_isValidCodePoint_9a6ad_12 : decode cJ11_isValidCodePoint_9a6ad 12 = .ok (.goto 4, 3) := by decide +kernel
theorem dJ11_isValidCodePoint_9a6ad_15 : decode cJ11_isValidCodePoint_9a6ad 15 = .ok (.iconst 0, 1) := by decide +kernel
theorem dJ11_isValidCodePoint_9a6ad_16 : decode cJ11_isValidCodePoint_9a6ad 16 = .ok (.ireturn, 1) := by decide +kernel
theorem dJ11_highSurrogate_5068e_0 : decode cJ11_highSurrogate_5068e 0 = .ok (.iload_n 0, 1) := by decide +kernel
theorem dJ11_highSurrogate_5068e_1 : decode cJ11_highSurrogate_5068e 1 = .ok (.bipush 10, 2) := by decide +kernel
theorem dJ11_highSurrogate_5068e_3 : decode cJ11_highSurrogate_5068e 3 = .ok (.iushr, 1) := by decide +kernel
theorem dJ11_highSurrogate_5068e_4 : decode cJ11_highSurrogate_5068e 4 = .ok (.ldc 110, 2) := by decide +kernel
theorem dJ11_highSurrogate_5068e_6 : decode cJ11_highSurrogate_5068e 6 = .ok (.iadd, 1) := by decide +kernel
theorem dJ11_highSurrogate_5068e_7 : decode cJ11_highSurrogate_5068e 7 = .ok (.i2c, 1) := by decide +kernel
theorem dJ11_highSurrogate_5068e_8 : decode cJ11_highSurrogate_5068e 8 = .ok (.ireturn, 1) := by decide +kernel
theorem dJ11_lowSurrogate_5068e_0 : decode cJ11_lowSurrogate_5068e 0 = .ok (.iload_n 0, 1) := by decide +kernel
theorem dJ11_lowSurrogate_5068e_1 : decode cJ11_lowSurrogate_5068e 1 = .ok (.sipush 1023, 3) := by decide +kernel
theorem dJ11_lowSurrogate_5068e_4 : decode cJ11_lowSurrogate_5068e 4 = .ok (.iand, 1) := by decide +kernel
theorem dJ11_lowSurrogate_5068e_5 : decode cJ11_lowSurrogate_5068e 5 = .ok (.ldc 76, 2) := by decide +kernel
theorem dJ11_lowSurrogate_5068e_7 : decode cJ11_lowSurrogate_5068e 7 = .ok (.iadd, 1) := by decide +kernel
theorem dJ11_lowSurrogate_5068e_8 : decode cJ11_lowSurrogate_5068e 8 = .ok (.i2c, 1) := by decide +kernel
theorem dJ11_lowSurrogate_5068e_9 : decode cJ11_lowSurrogate_5068e 9 = .ok (.ireturn, 1) := by decide +kernel
theorem dJ6_bitCount_0f7a4_0 : decode cJ6_bitCount_0f7a4 0 = .ok (.iload_n 0, 1) := by decide +kernel
theorem dJ6_bitCount_0f7a4_1 : decode cJ6_bitCount_0f7a4 1 = .ok (.iload_n 0, 1) := by decide +kernel
theorem dJ6_bitCount_0f7a4_2 : decode cJ6_bitCount_0f7a4 2 = .ok (.iconst 1, 1) := by decide +kernel
theorem dJ6_bitCount_0f7a4_3 : decode cJ6_bitCount_0f7a4 3 = .ok (.iushr, 1) := by decide +kernel
theorem dJ6_bitCount_0f7a4_4 : decode cJ6_bitCount_0f7a4 4 = .ok (.ldc_w 265, 3) := by decide +kernel
theorem dJ6_bitCount_0f7a4_7 : decode cJ6_bitCount_0f7a4 7 = .ok (.iand, 1) := by decide +kernel
theorem dJ6_bitCount_0f7a4_8 : decode cJ6_bitCount_0f7a4 8 = .ok (.isub, 1) := by decide +kernel
theorem dJ6_bitCount_0f7a4_9 : decode cJ6_bitCount_0f7a4 9 = .ok (.istore_n 0, 1) := by decide +kernel
theorem dJ6_bitCount_0f7a4_10 : decode cJ6_bitCount_0f7a4 10 = .ok (.iload_n 0, 1) := by decide +kernel
theorem dJ6_bitCount_0f7a4_11 : decode cJ6_bitCount_0f7a4 11 = .ok (.ldc_w 266, 3) := by decide +kernel
theorem dJ6_bitCount_0f7a4_14 : decode cJ6_bitCount_0f7a4 14 = .ok (.iand, 1) := by decide +kernel
theorem dJ6_bitCount_0f7a4_15 : decode cJ6_bitCount_0f7a4 15 = .ok (.iload_n 0, 1) := by decide +kernel
theorem dJ6_bitCount_0f7a4_16 : decode cJ6_bitCount_0f7a4 16 = .ok (.iconst 2, 1) := by decide +kernel
theorem dJ6_bitCount_0f7a4_17 : decode cJ6_bitCount_0f7a4 17 = .ok (.iushr, 1) := by decide +kernel
theorem dJ6_bitCount_0f7a4_18 : decode cJ6_bitCount_0f7a4 18 = .ok (.ldc_w 266, 3) := by decide +kernel
theorem dJ6_bitCount_0f7a4_21 : decode cJ6_bitCount_0f7a4 21 = .ok (.iand, 1) := by decide +kernel
theorem dJ6_bitCount_0f7a4_22 : decode cJ6_bitCount_0f7a4 22 = .ok (.iadd, 1) := by decide +kernel
theorem dJ6_bitCount_0f7a4_23 : decode cJ6_bitCount_0f7a4 23 = .ok (.istore_n 0, 1) := by decide +kernel
theorem dJ6_bitCount_0f7a4_24 : decode cJ6_bitCount_0f7a4 24 = .ok (.iload_n 0, 1) := by decide +kernel
theorem dJ6_bitCount_0f7a4_25 : decode cJ6_bitCount_0f7a4 25 = .ok (.iload_n 0, 1) := by decide +kernel
theorem dJ6_bitCount_0f7a4_26 : decode cJ6_bitCount_0f7a4 26 = .ok (.iconst 4, 1) := by decide +kernel
theorem dJ6_bitCount_0f7a4_27 : decode cJ6_bitCount_0f7a4 27 = .ok (.iushr, 1) := by decide +kernel
theorem dJ6_bitCount_0f7a4_28 : decode cJ6_bitCount_0f7a4 28 = .ok (.iadd, 1) := by decide +kernel
theorem dJ6_bitCount_0f7a4_29 : decode cJ6_bitCount_0f7a4 29 = .ok (.ldc_w 267, 3) := by decide +kernel
theorem dJ6_bitCount_0f7a4_32 : decode cJ6_bitCount_0f7a4 32 = .ok (.iand, 1) := by decide +kernel
theorem dJ6_bitCount_0f7a4_33 : decode cJ6_bitCount_0f7a4 33 = .ok (.istore_n 0, 1) := by decide +kernel
theorem dJ6_bitCount_0f7a4_34 : decode cJ6_bitCount_0f7a4 34 = .ok (.iload_n 0, 1) := by decide +kernel
theorem dJ6_bitCount_0f7a4_35 : decode cJ6_bitCount_0f7a4 35 = .ok (.iload_n 0, 1) := by decide +kernel
theorem dJ6_bitCount_0f7a4_36 : decode cJ6_bitCount_0f7a4 36 = .ok (.bipush 8, 2) := by decide +kernel
theorem dJ6_bitCount_0f7a4_38 : decode cJ6_bitCount_0f7a4 38 = .ok (.iushr, 1) := by decide +kernel
theorem dJ6_bitCount_0f7a4_39 : decode cJ6_bitCount_0f7a4 39 = .ok (.iadd, 1) := by decide +kernel
theorem dJ6_bitCount_0f7a4_40 : decode cJ6_bitCount_0f7a4 40 = .ok (.istore_n 0, 1) := by decide +kernel
theorem dJ6_bitCount_0f7a4_41 : decode cJ6_bitCount_0f7a4 41 = .ok (.iload_n 0, 1) := by decide +kernel
theorem dJ6_bitCount_0f7a4_42 : decode cJ6_bitCount_0f7a4 42 = .ok (.iload_n 0, 1) := by decide +kernel
theorem dJ6_bitCount_0f7a4_43 : decode cJ6_bitCount_0f7a4 43 = .ok (.bipush 16, 2) := by decide +kernel
theorem dJ6_bitCount_0f7a4_45 : decode cJ6_bitCount_0f7a4 45 = .ok (.iushr, 1) := by decide +kernel
theorem dJ6_bitCount_0f7a4_46 : decode cJ6_bitCount_0f7a4 46 = .ok (.iadd, 1) := by decide +kernel
theorem dJ6_bitCount_0f7a4_47 : decode cJ6_bitCount_0f7a4 47 = .ok (.istore_n 0, 1) := by decide +kernel
theorem dJ6_bitCount_0f7a4_48 : decode cJ6_bitCount_0f7a4 48 = .ok (.iload_n 0, 1) := by decide +kernel
theorem dJ6_bitCount_0f7a4_49 : decode cJ6_bitCount_0f7a4 49 = .ok (.bipush 63, 2) := by decide +kernel
theorem dJ6_bitCount_0f7a4_51 : decode cJ6_bitCount_0f7a4 51 = .ok (.iand, 1) := by decide +kernel
theorem dJ6_bitCount_0f7a4_52 : decode cJ6_bitCount_0f7a4 52 = .ok (.ireturn, 1) := by decide +kernel
theorem dJ9_max_7cf53_0 : decode cJ9_max_7cf53 0 = .ok (.iload_n 0, 1) := by decide +kernel
theorem dJ9_max_7cf53_1 : decode cJ9_max_7cf53 1 = .ok (.iload_n 1, 1) := by decide +kernel
theorem dJ9_max_7cf53_2 : decode cJ9_max_7cf53 2 = .ok (.if_icmp .lt 7, 3) := by decide +kernel
theorem dJ9_max_7cf53_5 : decode cJ9_max_7cf53 5 = .ok (.iload_n 0, 1) := by decide +kernel
theorem dJ9_max_7cf53_6 : decode cJ9_max_7cf53 6 = .ok (.goto 4, 3) := by decide +kernel
theorem dJ9_max_7cf53_9 : decode cJ9_max_7cf53 9 = .ok (.iload_n 1, 1) := by decide +kernel
theorem dJ9_max_7cf53_10 : decode cJ9_max_7cf53 10 = .ok (.ireturn, 1) := by decide +kernel
theorem dJ9_min_7cf53_0 : decode cJ9_min_7cf53 0 = .ok (.iload_n 0, 1) := by decide +kernel
theorem dJ9_min_7cf53_1 : decode cJ9_min_7cf53 1 = .ok (.iload_n 1, 1) := by decide +kernel
theorem dJ9_min_7cf53_2 : decode cJ9_min_7cf53 2 = .ok (.if_icmp .gt 7, 3) := by decide +kernel
theorem dJ9_min_7cf53_5 : decode cJ9_min_7cf53 5 = .ok (.iload_n 0, 1) := by decide +kernel
theorem dJ9_min_7cf53_6 : decode cJ9_min_7cf53 6 = .ok (.goto 4, 3) := by decide +kernel
theorem dJ9_min_7cf53_9 : decode cJ9_min_7cf53 9 = .ok (.iload_n 1, 1) := by decide +kernel
theorem dJ9_min_7cf53_10 : decode cJ9_min_7cf53 10 = .ok (.ireturn, 1) := by decide +kernel
theorem dJ0_length_8abf5_0 : decode cJ0_length_8abf5 0 = .ok (.aload_n 0, 1) := by decide +kernel
theorem dJ0_length_8abf5_1 : decode cJ0_length_8abf5 1 = .ok (.getfield 9, 3) := by decide +kernel
theorem dJ0_length_8abf5_4 : decode cJ0_length_8abf5 4 = .ok (.arraylength, 1) := by decide +kernel
theorem dJ0_length_8abf5_5 : decode cJ0_length_8abf5 5 = .ok (.aload_n 0, 1) := by decide +kernel
theorem dJ0_length_8abf5_6 : decode cJ0_length_8abf5 6 = .ok (.invokevirtual 335, 3) := by decide +kernel
theorem dJ0_length_8abf5_9 : decode cJ0_length_8abf5 9 = .ok (.ishr, 1) := by decide +kernel
theorem dJ0_length_8abf5_10 : decode cJ0_length_8abf5 10 = .ok (.ireturn, 1) := by decide +kernel
theorem dJ0_charAt_5068e_0 : decode cJ0_charAt_5068e 0 = .ok (.aload_n 0, 1) := by decide +kernel
theorem dJ0_charAt_5068e_1 : decode cJ0_charAt_5068e 1 = .ok (.invokevirtual 492, 3) := by decide +kernel
theorem dJ0_charAt_5068e_4 : decode cJ0_charAt_5068e 4 = .ok (.ifCond .eq 12, 3) := by decide +kernel
theorem dJ0_charAt_5068e_7 : decode cJ0_charAt_5068e 7 = .ok (.aload_n 0, 1) := by decide +kernel
theorem dJ0_charAt_5068e_8 : decode cJ0_charAt_5068e 8 = .ok (.getfield 9, 3) := by decide +kernel
theorem dJ0_charAt_5068e_11 : decode cJ0_charAt_5068e 11 = .ok (.iload_n 1, 1) := by decide +kernel
theorem dJ0_charAt_5068e_12 : decode cJ0_charAt_5068e 12 = .ok (.invokestatic 495, 3) := by decide +kernel
theorem dJ0_charAt_5068e_15 : decode cJ0_charAt_5068e 15 = .ok (.ireturn, 1) := by decide +kernel
theorem dJ0_charAt_5068e_16 : decode cJ0_charAt_5068e 16 = .ok (.aload_n 0, 1) := by decide +kernel
theorem dJ0_charAt_5068e_17 : decode cJ0_charAt_5068e 17 = .ok (.getfield 9, 3) := by decide +kernel
theorem dJ0_charAt_5068e_20 : decode cJ0_charAt_5068e 20 = .ok (.iload_n 1, 1) := by decide +kernel
theorem dJ0_charAt_5068e_21 : decode cJ0_charAt_5068e 21 = .ok (.invokestatic 498, 3) := by decide +kernel
theorem dJ0_charAt_5068e_24 : decode cJ0_charAt_5068e 24 = .ok (.ireturn, 1) := by decide +kernel
theorem dJ0_indexOf_0f7a4_0 : decode cJ0_indexOf_0f7a4 0 = .ok (.aload_n 0, 1) := by decide +kernel
theorem dJ0_indexOf_0f7a4_1 : decode cJ0_indexOf_0f7a4 1 = .ok (.iload_n 1, 1) := by decide +kernel
theorem dJ0_indexOf_0f7a4_2 : decode cJ0_indexOf_0f7a4 2 = .ok (.iconst 0, 1) := by decide +kernel
theorem dJ0_indexOf_0f7a4_3 : decode cJ0_indexOf_0f7a4 3 = .ok (.invokevirtual 633, 3) := by decide +kernel
theorem dJ0_indexOf_0f7a4_6 : decode cJ0_indexOf_0f7a4 6 = .ok (.ireturn, 1) := by decide +kernel
theorem dJ0_indexOf_7cf53_0 : decode cJ0_indexOf_7cf53 0 = .ok (.aload_n 0, 1) := by decide +kernel
theorem dJ0_indexOf_7cf53_1 : decode cJ0_indexOf_7cf53 1 = .ok (.invokevirtual 492, 3) := by decide +kernel
theorem dJ0_indexOf_7cf53_4 : decode cJ0_indexOf_7cf53 4 = .ok (.ifCond .eq 19, 3) := by decide +kernel
theorem dJ0_indexOf_7cf53_7 : decode cJ0_indexOf_7cf53 7 = .ok (.aload_n 0, 1) := by decide +kernel
theorem dJ0_indexOf_7cf53_8 : decode cJ0_indexOf_7cf53 8 = .ok (.getfield 9, 3) := by decide +kernel
theorem dJ0_indexOf_7cf53_11 : decode cJ0_indexOf_7cf53 11 = .ok (.iload_n 1, 1) := by decide +kernel
theorem dJ0_indexOf_7cf53_12 : decode cJ0_indexOf_7cf53 12 = .ok (.iload_n 2, 1) := by decide +kernel
theorem dJ0_indexOf_7cf53_13 : decode cJ0_indexOf_7cf53 13 = .ok (.aload_n 0, 1) := by decide +kernel
theorem dJ0_indexOf_7cf53_14 : decode cJ0_indexOf_7cf53 14 = .ok (.invokevirtual 505, 3) := by decide +kernel
theorem dJ0_indexOf_7cf53_17 : decode cJ0_indexOf_7cf53 17 = .ok (.invokestatic 637, 3) := by decide +kernel
theorem dJ0_indexOf_7cf53_20 : decode cJ0_indexOf_7cf53 20 = .ok (.goto 16, 3) := by decide +kernel
theorem dJ0_indexOf_7cf53_23 : decode cJ0_indexOf_7cf53 23 = .ok (.aload_n 0, 1) := by decide +kernel
theorem dJ0_indexOf_7cf53_24 : decode cJ0_indexOf_7cf53 24 = .ok (.getfield 9, 3) := by decide +kernel
theorem dJ0_indexOf_7cf53_27 : decode cJ0_indexOf_7cf53 27 = .ok (.iload_n 1, 1) := by decide +kernel
theorem dJ0_indexOf_7cf53_28 : decode cJ0_indexOf_7cf53 28 = .ok (.iload_n 2, 1) := by decide +kernel
theorem dJ0_indexOf_7cf53_29 : decode cJ0_indexOf_7cf53 29 = .ok (.aload_n 0, 1) := by decide +kernel
theorem dJ0_indexOf_7cf53_30 : decode cJ0_indexOf_7cf53 30 = .ok (.invokevirtual 505, 3) := by decide +kernel
theorem dJ0_indexOf_7cf53_33 : decode cJ0_indexOf_7cf53 33 = .ok (.invokestatic 640, 3) := by decide +kernel
theorem dJ0_indexOf_7cf53_36 : decode cJ0_indexOf_7cf53 36 = .ok (.ireturn, 1) := by decide +kernel
theorem dJ0_coder_7d493_0 : decode cJ0_coder_7d493 0 = .ok (.getstatic 38, 3) := by decide +kernel
theorem dJ0_coder_7d493_3 : decode cJ0_coder_7d493 3 = .ok (.ifCond .eq 10, 3) := by decide +kernel
theorem dJ0_coder_7d493_6 : decode cJ0_coder_7d493 6 = .ok (.aload_n 0, 1) := by decide +kernel
theorem dJ0_coder_7d493_7 : decode cJ0_coder_7d493 7 = .ok (.getfield 15, 3) := by decide +kernel
theorem dJ0_coder_7d493_10 : decode cJ0_coder_7d493 10 = .ok (.goto 4, 3) := by decide +kernel
theorem dJ0_coder_7d493_13 : decode cJ0_coder_7d493 13 = .ok (.iconst 1, 1) := by decide +kernel
theorem dJ0_coder_7d493_14 : decode cJ0_coder_7d493 14 = .ok (.ireturn, 1) := by decide +kernel
theorem dJ0_isLatin1_aae02_0 : decode cJ0_isLatin1_aae02 0 = .ok (.getstatic 38, 3) := by decide +kernel
theorem dJ0_isLatin1_aae02_3 : decode cJ0_isLatin1_aae02 3 = .ok (.ifCond .eq 14, 3) := by decide +kernel
theorem dJ0_isLatin1_aae02_6 : decode cJ0_isLatin1_aae02 6 = .ok (.aload_n 0, 1) := by decide +kernel
theorem dJ0_isLatin1_aae02_7 : decode cJ0_isLatin1_aae02 7 = .ok (.getfield 15, 3) := by decide +kernel
theorem dJ0_isLatin1_aae02_10 : decode cJ0_isLatin1_aae02 10 = .ok (.ifCond .ne 7, 3) := by decide +kernel
theorem dJ0_isLatin1_aae02_13 : decode cJ0_isLatin1_aae02 13 = .ok (.iconst 1, 1) := by decide +kernel
theorem dJ0_isLatin1_aae02_14 : decode cJ0_isLatin1_aae02 14 = .ok (.goto 4, 3) := by decide +kernel
theorem dJ0_isLatin1_aae02_17 : decode cJ0_isLatin1_aae02 17 = .ok (.iconst 0, 1) := by decide +kernel
theorem dJ0_isLatin1_aae02_18 : decode cJ0_isLatin1_aae02 18 = .ok (.ireturn, 1) := by decide +kernel
theorem dJ0_checkIndex_df160_0 : decode cJ0_checkIndex_df160 0 = .ok (.iload_n 0, 1) := by decide +kernel
theorem dJ0_checkIndex_df160_1 : decode cJ0_checkIndex_df160 1 = .ok (.iload_n 1, 1) := by decide +kernel
theorem dJ0_checkIndex_df160_2 : decode cJ0_checkIndex_df160 2 = .ok (.getstatic 1053, 3) := by decide +kernel
theorem dJ0_checkIndex_df160_5 : decode cJ0_checkIndex_df160 5 = .ok (.invokestatic 1059, 3) := by decide +kernel
theorem dJ0_checkIndex_df160_8 : decode cJ0_checkIndex_df160 8 = .ok (.pop, 1) := by decide +kernel
theorem dJ0_checkIndex_df160_9 : decode cJ0_checkIndex_df160 9 = .ok (.return_, 1) := by decide +kernel
theorem dJ0_checkBoundsBeginEnd_23922_0 : decode cJ0_checkBoundsBeginEnd_23922 0 = .ok (.iload_n 0, 1) := by decide +kernel
theorem dJ0_checkBoundsBeginEnd_23922_1 : decode cJ0_checkBoundsBeginEnd_23922 1 = .ok (.iload_n 1, 1) := by decide +kernel
theorem dJ0_checkBoundsBeginEnd_23922_2 : decode cJ0_checkBoundsBeginEnd_23922 2 = .ok (.iload_n 2, 1) := by decide +kernel
theorem dJ0_checkBoundsBeginEnd_23922_3 : decode cJ0_checkBoundsBeginEnd_23922 3 = .ok (.getstatic 1053, 3) := by decide +kernel
theorem dJ0_checkBoundsBeginEnd_23922_6 : decode cJ0_checkBoundsBeginEnd_23922 6 = .ok (.invokestatic 1062, 3) := by decide +kernel
theorem dJ0_checkBoundsBeginEnd_23922_9 : decode cJ0_checkBoundsBeginEnd_23922 9 = .ok (.pop, 1) := by decide +kernel
theorem dJ0_checkBoundsBeginEnd_23922_10 : decode cJ0_checkBoundsBeginEnd_23922 10 = .ok (.return_, 1) := by decide +kernel
theorem dJ1_charAt_3b067_0 : decode cJ1_charAt_3b067 0 = .ok (.iload_n 1, 1) := by decide +kernel
theorem dJ1_charAt_3b067_1 : decode cJ1_charAt_3b067 1 = .ok (.aload_n 0, 1) := by decide +kernel
theorem dJ1_charAt_3b067_2 : decode cJ1_charAt_3b067 2 = .ok (.arraylength, 1) := by decide +kernel
theorem dJ1_charAt_3b067_3 : decode cJ1_charAt_3b067 3 = .ok (.invokestatic 9, 3) := by decide +kernel
theorem dJ1_charAt_3b067_6 : decode cJ1_charAt_3b067 6 = .ok (.aload_n 0, 1) := by decide +kernel
theorem dJ1_charAt_3b067_7 : decode cJ1_charAt_3b067 7 = .ok (.iload_n 1, 1) := by decide +kernel
theorem dJ1_charAt_3b067_8 : decode cJ1_charAt_3b067 8 = .ok (.baload, 1) := by decide +kernel
theorem dJ1_charAt_3b067_9 : decode cJ1_charAt_3b067 9 = .ok (.sipush 255, 3) := by decide +kernel
theorem dJ1_charAt_3b067_12 : decode cJ1_charAt_3b067 12 = .ok (.iand, 1) := by decide +kernel
theorem dJ1_charAt_3b067_13 : decode cJ1_charAt_3b067 13 = .ok (.i2c, 1) := by decide +kernel
theorem dJ1_charAt_3b067_14 : decode cJ1_charAt_3b067 14 = .ok (.ireturn, 1) := by decide +kernel
theorem dJ1_canEncode_9a6ad_0 : decode cJ1_canEncode_9a6ad 0 = .ok (.iload_n 0, 1) := by decide +kernel
theorem dJ1_canEncode_9a6ad_1 : decode cJ1_canEncode_9a6ad 1 = .ok (.ifCond .lt 14, 3) := by decide +kernel
theorem dJ1_canEncode_9a6ad_4 : decode cJ1_canEncode_9a6ad 4 = .ok (.iload_n 0, 1) := by decide +kernel
theorem dJ1_canEncode_9a6ad_5 : decode cJ1_canEncode_9a6ad 5 = .ok (.sipush 255, 3) := by decide +kernel
theorem dJ1_canEncode_9a6ad_8 : decode cJ1_canEncode_9a6ad 8 = .ok (.if_icmp .gt 7, 3) := by decide +kernel
theorem dJ1_canEncode_9a6ad_11 : decode cJ1_canEncode_9a6ad 11 = .ok (.iconst 1, 1) := by decide +kernel
theorem dJ1_canEncode_9a6ad_12 : decode cJ1_canEncode_9a6ad 12 = .ok (.goto 4, 3) := by decide +kernel
theorem dJ1_canEncode_9a6ad_15 : decode cJ1_canEncode_9a6ad 15 = .ok (.iconst 0, 1) := by decide +kernel
theorem dJ1_canEncode_9a6ad_16 : decode cJ1_canEncode_9a6ad 16 = .ok (.ireturn, 1) := by decide +kernel
theorem dJ1_indexOf_4cfef_0 : decode cJ1_indexOf_4cfef 0 = .ok (.iload_n 1, 1) := by decide +kernel
theorem dJ1_indexOf_4cfef_1 : decode cJ1_indexOf_4cfef 1 = .ok (.invokestatic 88, 3) := by decide +kernel
theorem dJ1_indexOf_4cfef_4 : decode cJ1_indexOf_4cfef 4 = .ok (.ifCond .ne 5, 3) := by decide +kernel
theorem dJ1_indexOf_4cfef_7 : decode cJ1_indexOf_4cfef 7 = .ok (.iconst (-1), 1) := by decide +kernel
theorem dJ1_indexOf_4cfef_8 : decode cJ1_indexOf_4cfef 8 = .ok (.ireturn, 1) := by decide +kernel
theorem dJ1_indexOf_4cfef_9 : decode cJ1_indexOf_4cfef 9 = .ok (.iload_n 2, 1) := by decide +kernel
theorem dJ1_indexOf_4cfef_10 : decode cJ1_indexOf_4cfef 10 = .ok (.iconst 0, 1) := by decide +kernel
theorem dJ1_indexOf_4cfef_11 : decode cJ1_indexOf_4cfef 11 = .ok (.invokestatic 92, 3) := by decide +kernel
theorem dJ1_indexOf_4cfef_14 : decode cJ1_indexOf_4cfef 14 = .ok (.istore_n 2, 1) := by decide +kernel
theorem dJ1_indexOf_4cfef_15 : decode cJ1_indexOf_4cfef 15 = .ok (.iload_n 3, 1) := by decide +kernel
theorem dJ1_indexOf_4cfef_16 : decode cJ1_indexOf_4cfef 16 = .ok (.aload_n 0, 1) := by decide +kernel
theorem dJ1_indexOf_4cfef_17 : decode cJ1_indexOf_4cfef 17 = .ok (.arraylength, 1) := by decide +kernel
theorem dJ1_indexOf_4cfef_18 : decode cJ1_indexOf_4cfef 18 = .ok (.invokestatic 38, 3) := by decide +kernel
theorem dJ1_indexOf_4cfef_21 : decode cJ1_indexOf_4cfef 21 = .ok (.istore_n 3, 1) := by decide +kernel
theorem dJ1_indexOf_4cfef_22 : decode cJ1_indexOf_4cfef 22 = .ok (.iload_n 2, 1) := by decide +kernel
theorem dJ1_indexOf_4cfef_23 : decode cJ1_indexOf_4cfef 23 = .ok (.iload_n 3, 1) := by decide +kernel
theorem dJ1_indexOf_4cfef_24 : decode cJ1_indexOf_4cfef 24 = .ok (.if_icmp .lt 5, 3) := by decide +kernel
theorem dJ1_indexOf_4cfef_27 : decode cJ1_indexOf_4cfef 27 = .ok (.iconst (-1), 1) := by decide +kernel
theorem dJ1_indexOf_4cfef_28 : decode cJ1_indexOf_4cfef 28 = .ok (.ireturn, 1) := by decide +kernel
theorem dJ1_indexOf_4cfef_29 : decode cJ1_indexOf_4cfef 29 = .ok (.aload_n 0, 1) := by decide +kernel
theorem dJ1_indexOf_4cfef_30 : decode cJ1_indexOf_4cfef 30 = .ok (.iload_n 1, 1) := by decide +kernel
theorem dJ1_indexOf_4cfef_31 : decode cJ1_indexOf_4cfef 31 = .ok (.iload_n 2, 1) := by decide +kernel
theorem dJ1_indexOf_4cfef_32 : decode cJ1_indexOf_4cfef 32 = .ok (.iload_n 3, 1) := by decide +kernel
theorem dJ1_indexOf_4cfef_33 : decode cJ1_indexOf_4cfef 33 = .ok (.invokestatic 95, 3) := by decide +kernel
theorem dJ1_indexOf_4cfef_36 : decode cJ1_indexOf_4cfef 36 = .ok (.ireturn, 1) := by decide +kernel
theorem dJ1_indexOfChar_4cfef_0 : decode cJ1_indexOfChar_4cfef 0 = .ok (.iload_n 1, 1) := by decide +kernel
theorem dJ1_indexOfChar_4cfef_1 : decode cJ1_indexOfChar_4cfef 1 = .ok (.i2b, 1) := by decide +kernel
theorem dJ1_indexOfChar_4cfef_2 : decode cJ1_indexOfChar_4cfef 2 = .ok (.istore 4, 2) := by decide +kernel
theorem dJ1_indexOfChar_4cfef_4 : decode cJ1_indexOfChar_4cfef 4 = .ok (.iload_n 2, 1) := by decide +kernel
theorem dJ1_indexOfChar_4cfef_5 : decode cJ1_indexOfChar_4cfef 5 = .ok (.istore 5, 2) := by decide +kernel
theorem dJ1_indexOfChar_4cfef_7 : decode cJ1_indexOfChar_4cfef 7 = .ok (.iload 5, 2) := by decide +kernel
theorem dJ1_indexOfChar_4cfef_9 : decode cJ1_indexOfChar_4cfef 9 = .ok (.iload_n 3, 1) := by decide +kernel
theorem dJ1_indexOfChar_4cfef_10 : decode cJ1_indexOfChar_4cfef 10 = .ok (.if_icmp .ge 21, 3) := by decide +kernel
theorem dJ1_indexOfChar_4cfef_13 : decode cJ1_indexOfChar_4cfef 13 = .ok (.aload_n 0, 1) := by decide +kernel
theorem dJ1_indexOfChar_4cfef_14 : decode cJ1_indexOfChar_4cfef 14 = .ok (.iload 5, 2) := by decide +kernel
theorem dJ1_indexOfChar_4cfef_16 : decode cJ1_indexOfChar_4cfef 16 = .ok (.baload, 1) := by decide +kernel
theorem dJ1_indexOfChar_4cfef_17 : decode cJ1_indexOfChar_4cfef 17 = .ok (.iload 4, 2) := by decide +kernel
theorem dJ1_indexOfChar_4cfef_19 : decode cJ1_indexOfChar_4cfef 19 = .ok (.if_icmp .ne 6, 3) := by decide +kernel
theorem dJ1_indexOfChar_4cfef_22 : decode cJ1_indexOfChar_4cfef 22 = .ok (.iload 5, 2) := by decide +kernel
theorem dJ1_indexOfChar_4cfef_24 : decode cJ1_indexOfChar_4cfef 24 = .ok (.ireturn, 1) := by decide +kernel
theorem dJ1_indexOfChar_4cfef_25 : decode cJ1_indexOfChar_4cfef 25 = .ok (.iinc 5 1, 3) := by decide +kernel
theorem dJ1_indexOfChar_4cfef_28 : decode cJ1_indexOfChar_4cfef 28 = .ok (.goto (-21), 3) := by decide +kernel
theorem dJ1_indexOfChar_4cfef_31 : decode cJ1_indexOfChar_4cfef 31 = .ok (.iconst (-1), 1) := by decide +kernel
theorem dJ1_indexOfChar_4cfef_32 : decode cJ1_indexOfChar_4cfef 32 = .ok (.ireturn, 1) := by decide +kernel
theorem dJ2_getChar_3b067_0 : decode cJ2_getChar_3b067 0 = .ok (.getstatic 44, 3) := by decide +kernel
theorem dJ2_getChar_3b067_3 : decode cJ2_getChar_3b067 3 = .ok (.ifCond .ne 25, 3) := by decide +kernel
theorem dJ2_getChar_3b067_6 : decode cJ2_getChar_3b067 6 = .ok (.iload_n 1, 1) := by decide +kernel
theorem dJ2_getChar_3b067_7 : decode cJ2_getChar_3b067 7 = .ok (.ifCond .lt 11, 3) := by decide +kernel
theorem dJ2_getChar_3b067_10 : decode cJ2_getChar_3b067 10 = .ok (.iload_n 1, 1) := by decide +kernel
theorem dJ2_getChar_3b067_11 : decode cJ2_getChar_3b067 11 = .ok (.aload_n 0, 1) := by decide +kernel
theorem dJ2_getChar_3b067_12 : decode cJ2_getChar_3b067 12 = .ok (.invokestatic 48, 3) := by decide +kernel
theorem dJ2_getChar_3b067_15 : decode cJ2_getChar_3b067 15 = .ok (.if_icmp .lt 13, 3) := by decide +kernel
theorem dJ2_getChar_3b067_18 : decode cJ2_getChar_3b067 18 = .ok (.new 52, 3) := by decide +kernel
theorem dJ2_getChar_3b067_21 : decode cJ2_getChar_3b067 21 = .ok (.dup, 1) := by decide +kernel
theorem dJ2_getChar_3b067_22 : decode cJ2_getChar_3b067 22 = .ok (.ldc 54, 2) := by decide +kernel
theorem dJ2_getChar_3b067_24 : decode cJ2_getChar_3b067 24 = .ok (.invokespecial 56, 3) := by decide +kernel
theorem dJ2_getChar_3b067_27 : decode cJ2_getChar_3b067 27 = .ok (.athrow, 1) := by decide +kernel
theorem dJ2_getChar_3b067_28 : decode cJ2_getChar_3b067 28 = .ok (.iload_n 1, 1) := by decide +kernel
theorem dJ2_getChar_3b067_29 : decode cJ2_getChar_3b067 29 = .ok (.iconst 1, 1) := by decide +kernel
theorem dJ2_getChar_3b067_30 : decode cJ2_getChar_3b067 30 = .ok (.ishl, 1) := by decide +kernel
theorem dJ2_getChar_3b067_31 : decode cJ2_getChar_3b067 31 = .ok (.istore_n 1, 1) := by decide +kernel
theorem dJ2_getChar_3b067_32 : decode cJ2_getChar_3b067 32 = .ok (.aload_n 0, 1) := by decide +kernel
theorem dJ2_getChar_3b067_33 : decode cJ2_getChar_3b067 33 = .ok (.iload_n 1, 1) := by decide +kernel
theorem dJ2_getChar_3b067_34 : decode cJ2_getChar_3b067 34 = .ok (.iinc 1 1, 3) := by decide +kernel
theorem dJ2_getChar_3b067_37 : decode cJ2_getChar_3b067 37 = .ok (.baload, 1) := by decide +kernel
theorem dJ2_getChar_3b067_38 : decode cJ2_getChar_3b067 38 = .ok (.sipush 255, 3) := by decide +kernel
theorem dJ2_getChar_3b067_41 : decode cJ2_getChar_3b067 41 = .ok (.iand, 1) := by decide +kernel
theorem dJ2_getChar_3b067_42 : decode cJ2_getChar_3b067 42 = .ok (.getstatic 59, 3) := by decide +kernel
theorem dJ2_getChar_3b067_45 : decode cJ2_getChar_3b067 45 = .ok (.ishl, 1) := by decide +kernel
theorem dJ2_getChar_3b067_46 : decode cJ2_getChar_3b067 46 = .ok (.aload_n 0, 1) := by decide +kernel
theorem dJ2_getChar_3b067_47 : decode cJ2_getChar_3b067 47 = .ok (.iload_n 1, 1) := by decide +kernel
theorem dJ2_getChar_3b067_48 : decode cJ2_getChar_3b067 48 = .ok (.baload, 1) := by decide +kernel
theorem dJ2_getChar_3b067_49 : decode cJ2_getChar_3b067 49 = .ok (.sipush 255, 3) := by decide +kernel
theorem dJ2_getChar_3b067_52 : decode cJ2_getChar_3b067 52 = .ok (.iand, 1) := by decide +kernel
theorem dJ2_getChar_3b067_53 : decode cJ2_getChar_3b067 53 = .ok (.getstatic 63, 3) := by decide +kernel
theorem dJ2_getChar_3b067_56 : decode cJ2_getChar_3b067 56 = .ok (.ishl, 1) := by decide +kernel
theorem dJ2_getChar_3b067_57 : decode cJ2_getChar_3b067 57 = .ok (.ior, 1) := by decide +kernel
theorem dJ2_getChar_3b067_58 : decode cJ2_getChar_3b067 58 = .ok (.i2c, 1) := by decide +kernel
theorem dJ2_getChar_3b067_59 : decode cJ2_getChar_3b067 59 = .ok (.ireturn, 1) := by decide +kernel
theorem dJ2_length_9d52b_0 : decode cJ2_length_9d52b 0 = .ok (.aload_n 0, 1) := by decide +kernel
theorem dJ2_length_9d52b_1 : decode cJ2_length_9d52b 1 = .ok (.arraylength, 1) := by decide +kernel
theorem dJ2_length_9d52b_2 : decode cJ2_length_9d52b 2 = .ok (.iconst 1, 1) := by decide +kernel
theorem dJ2_length_9d52b_3 : decode cJ2_length_9d52b 3 = .ok (.ishr, 1) := by decide +kernel
theorem dJ2_length_9d52b_4 : decode cJ2_length_9d52b 4 = .ok (.ireturn, 1) := by decide +kernel
theorem dJ2_indexOf_4cfef_0 : decode cJ2_indexOf_4cfef 0 = .ok (.iload_n 2, 1) := by decide +kernel
theorem dJ2_indexOf_4cfef_1 : decode cJ2_indexOf_4cfef 1 = .ok (.iconst 0, 1) := by decide +kernel
theorem dJ2_indexOf_4cfef_2 : decode cJ2_indexOf_4cfef 2 = .ok (.invokestatic 224, 3) := by decide +kernel
theorem dJ2_indexOf_4cfef_5 : decode cJ2_indexOf_4cfef 5 = .ok (.istore_n 2, 1) := by decide +kernel
theorem dJ2_indexOf_4cfef_6 : decode cJ2_indexOf_4cfef 6 = .ok (.iload_n 3, 1) := by decide +kernel
theorem dJ2_indexOf_4cfef_7 : decode cJ2_indexOf_4cfef 7 = .ok (.aload_n 0, 1) := by decide +kernel
theorem dJ2_indexOf_4cfef_8 : decode cJ2_indexOf_4cfef 8 = .ok (.arraylength, 1) := by decide +kernel
theorem dJ2_indexOf_4cfef_9 : decode cJ2_indexOf_4cfef 9 = .ok (.iconst 1, 1) := by decide +kernel
theorem dJ2_indexOf_4cfef_10 : decode cJ2_indexOf_4cfef 10 = .ok (.ishr, 1) := by decide +kernel
theorem dJ2_indexOf_4cfef_11 : decode cJ2_indexOf_4cfef 11 = .ok (.invokestatic 183, 3) := by decide +kernel
theorem dJ2_indexOf_4cfef_14 : decode cJ2_indexOf_4cfef 14 = .ok (.istore_n 3, 1) := by decide +kernel
theorem dJ2_indexOf_4cfef_15 : decode cJ2_indexOf_4cfef 15 = .ok (.iload_n 2, 1) := by decide +kernel
theorem dJ2_indexOf_4cfef_16 : decode cJ2_indexOf_4cfef 16 = .ok (.iload_n 3, 1) := by decide +kernel
theorem dJ2_indexOf_4cfef_17 : decode cJ2_indexOf_4cfef 17 = .ok (.if_icmp .lt 5, 3) := by decide +kernel
theorem dJ2_indexOf_4cfef_20 : decode cJ2_indexOf_4cfef 20 = .ok (.iconst (-1), 1) := by decide +kernel
theorem dJ2_indexOf_4cfef_21 : decode cJ2_indexOf_4cfef 21 = .ok (.ireturn, 1) := by decide +kernel
theorem dJ2_indexOf_4cfef_22 : decode cJ2_indexOf_4cfef 22 = .ok (.iload_n 1, 1) := by decide +kernel
theorem dJ2_indexOf_4cfef_23 : decode cJ2_indexOf_4cfef 23 = .ok (.ldc 227, 2) := by decide +kernel
theorem dJ2_indexOf_4cfef_25 : decode cJ2_indexOf_4cfef 25 = .ok (.if_icmp .ge 11, 3) := by decide +kernel
theorem dJ2_indexOf_4cfef_28 : decode cJ2_indexOf_4cfef 28 = .ok (.aload_n 0, 1) := by decide +kernel
theorem dJ2_indexOf_4cfef_29 : decode cJ2_indexOf_4cfef 29 = .ok (.iload_n 1, 1) := by decide +kernel
theorem dJ2_indexOf_4cfef_30 : decode cJ2_indexOf_4cfef 30 = .ok (.iload_n 2, 1) := by decide +kernel
theorem dJ2_indexOf_4cfef_31 : decode cJ2_indexOf_4cfef 31 = .ok (.iload_n 3, 1) := by decide +kernel
theorem dJ2_indexOf_4cfef_32 : decode cJ2_indexOf_4cfef 32 = .ok (.invokestatic 228, 3) := by decide +kernel
theorem dJ2_indexOf_4cfef_35 : decode cJ2_indexOf_4cfef 35 = .ok (.ireturn, 1) := by decide +kernel
theorem dJ2_indexOf_4cfef_36 : decode cJ2_indexOf_4cfef 36 = .ok (.aload_n 0, 1) := by decide +kernel
theorem dJ2_indexOf_4cfef_37 : decode cJ2_indexOf_4cfef 37 = .ok (.iload_n 1, 1) := by decide +kernel
theorem dJ2_indexOf_4cfef_38 : decode cJ2_indexOf_4cfef 38 = .ok (.iload_n 2, 1) := by decide +kernel
theorem dJ2_indexOf_4cfef_39 : decode cJ2_indexOf_4cfef 39 = .ok (.iload_n 3, 1) := by decide +kernel
theorem dJ2_indexOf_4cfef_40 : decode cJ2_indexOf_4cfef 40 = .ok (.invokestatic 232, 3) := by decide +kernel
theorem dJ2_indexOf_4cfef_43 : decode cJ2_indexOf_4cfef 43 = .ok (.ireturn, 1) := by decide +kernel
theorem dJ2_indexOfChar_4cfef_0 : decode cJ2_indexOfChar_4cfef 0 = .ok (.iload_n 2, 1) := by decide +kernel
theorem dJ2_indexOfChar_4cfef_1 : decode cJ2_indexOfChar_4cfef 1 = .ok (.iload_n 3, 1) := by decide +kernel
theorem dJ2_indexOfChar_4cfef_2 : decode cJ2_indexOfChar_4cfef 2 = .ok (.aload_n 0, 1) := by decide +kernel
theorem dJ2_indexOfChar_4cfef_3 : decode cJ2_indexOfChar_4cfef 3 = .ok (.invokestatic 96, 3) := by decide +kernel
theorem dJ2_indexOfChar_4cfef_6 : decode cJ2_indexOfChar_4cfef 6 = .ok (.aload_n 0, 1) := by decide +kernel
theorem dJ2_indexOfChar_4cfef_7 : decode cJ2_indexOfChar_4cfef 7 = .ok (.iload_n 1, 1) := by decide +kernel
theorem dJ2_indexOfChar_4cfef_8 : decode cJ2_indexOfChar_4cfef 8 = .ok (.iload_n 2, 1) := by decide +kernel
theorem dJ2_indexOfChar_4cfef_9 : decode cJ2_indexOfChar_4cfef 9 = .ok (.iload_n 3, 1) := by decide +kernel
theorem dJ2_indexOfChar_4cfef_10 : decode cJ2_indexOfChar_4cfef 10 = .ok (.invokestatic 244, 3) := by decide +kernel
theorem dJ2_indexOfChar_4cfef_13 : decode cJ2_indexOfChar_4cfef 13 = .ok (.ireturn, 1) := by decide +kernel
theorem dJ2_indexOfCharUnsafe_4cfef_0 : decode cJ2_indexOfCharUnsafe_4cfef 0 = .ok (.iload_n 2, 1) := by decide +kernel
theorem dJ2_indexOfCharUnsafe_4cfef_1 : decode cJ2_indexOfCharUnsafe_4cfef 1 = .ok (.istore 4, 2) := by decide +kernel
theorem dJ2_indexOfCharUnsafe_4cfef_3 : decode cJ2_indexOfCharUnsafe_4cfef 3 = .ok (.iload 4, 2) := by decide +kernel
theorem dJ2_indexOfCharUnsafe_4cfef_5 : decode cJ2_indexOfCharUnsafe_4cfef 5 = .ok (.iload_n 3, 1) := by decide +kernel
theorem dJ2_indexOfCharUnsafe_4cfef_6 : decode cJ2_indexOfCharUnsafe_4cfef 6 = .ok (.if_icmp .ge 22, 3) := by decide +kernel
theorem dJ2_indexOfCharUnsafe_4cfef_9 : decode cJ2_indexOfCharUnsafe_4cfef 9 = .ok (.aload_n 0, 1) := by decide +kernel
theorem dJ2_indexOfCharUnsafe_4cfef_10 : decode cJ2_indexOfCharUnsafe_4cfef 10 = .ok (.iload 4, 2) := by decide +kernel
theorem dJ2_indexOfCharUnsafe_4cfef_12 : decode cJ2_indexOfCharUnsafe_4cfef 12 = .ok (.invokestatic 71, 3) := by decide +kernel
theorem dJ2_indexOfCharUnsafe_4cfef_15 : decode cJ2_indexOfCharUnsafe_4cfef 15 = .ok (.iload_n 1, 1) := by decide +kernel
theorem dJ2_indexOfCharUnsafe_4cfef_16 : decode cJ2_indexOfCharUnsafe_4cfef 16 = .ok (.if_icmp .ne 6, 3) := by decide +kernel
theorem dJ2_indexOfCharUnsafe_4cfef_19 : decode cJ2_indexOfCharUnsafe_4cfef 19 = .ok (.iload 4, 2) := by decide +kernel
theorem dJ2_indexOfCharUnsafe_4cfef_21 : decode cJ2_indexOfCharUnsafe_4cfef 21 = .ok (.ireturn, 1) := by decide +kernel
theorem dJ2_indexOfCharUnsafe_4cfef_22 : decode cJ2_indexOfCharUnsafe_4cfef 22 = .ok (.iinc 4 1, 3) := by decide +kernel
theorem dJ2_indexOfCharUnsafe_4cfef_25 : decode cJ2_indexOfCharUnsafe_4cfef 25 = .ok (.goto (-22), 3) := by decide +kernel
theorem dJ2_indexOfCharUnsafe_4cfef_28 : decode cJ2_indexOfCharUnsafe_4cfef 28 = .ok (.iconst (-1), 1) := by decide +kernel
theorem dJ2_indexOfCharUnsafe_4cfef_29 : decode cJ2_indexOfCharUnsafe_4cfef 29 = .ok (.ireturn, 1) := by decide +kernel
theorem dJ2_indexOfSupplementary_4cfef_0 : decode cJ2_indexOfSupplementary_4cfef 0 = .ok (.iload_n 1, 1) := by decide +kernel
theorem dJ2_indexOfSupplementary_4cfef_1 : decode cJ2_indexOfSupplementary_4cfef 1 = .ok (.invokestatic 164, 3) := by decide +kernel
theorem dJ2_indexOfSupplementary_4cfef_4 : decode cJ2_indexOfSupplementary_4cfef 4 = .ok (.ifCond .eq 65, 3) := by decide +kernel
theorem dJ2_indexOfSupplementary_4cfef_7 : decode cJ2_indexOfSupplementary_4cfef 7 = .ok (.iload_n 1, 1) := by decide +kernel
theorem dJ2_indexOfSupplementary_4cfef_8 : decode cJ2_indexOfSupplementary_4cfef 8 = .ok (.invokestatic 157, 3) := by decide +kernel
theorem dJ2_indexOfSupplementary_4cfef_11 : decode cJ2_indexOfSupplementary_4cfef 11 = .ok (.istore 4, 2) := by decide +kernel
theorem dJ2_indexOfSupplementary_4cfef_13 : decode cJ2_indexOfSupplementary_4cfef 13 = .ok (.iload_n 1, 1) := by decide +kernel
theorem dJ2_indexOfSupplementary_4cfef_14 : decode cJ2_indexOfSupplementary_4cfef 14 = .ok (.invokestatic 161, 3) := by decide +kernel
theorem dJ2_indexOfSupplementary_4cfef_17 : decode cJ2_indexOfSupplementary_4cfef 17 = .ok (.istore 5, 2) := by decide +kernel
theorem dJ2_indexOfSupplementary_4cfef_19 : decode cJ2_indexOfSupplementary_4cfef 19 = .ok (.iload_n 2, 1) := by decide +kernel
theorem dJ2_indexOfSupplementary_4cfef_20 : decode cJ2_indexOfSupplementary_4cfef 20 = .ok (.iload_n 3, 1) := by decide +kernel
theorem dJ2_indexOfSupplementary_4cfef_21 : decode cJ2_indexOfSupplementary_4cfef 21 = .ok (.aload_n 0, 1) := by decide +kernel
theorem dJ2_indexOfSupplementary_4cfef_22 : decode cJ2_indexOfSupplementary_4cfef 22 = .ok (.invokestatic 96, 3) := by decide +kernel
theorem dJ2_indexOfSupplementary_4cfef_25 : decode cJ2_indexOfSupplementary_4cfef 25 = .ok (.iload_n 2, 1) := by decide +kernel
theorem dJ2_indexOfSupplementary_4cfef_26 : decode cJ2_indexOfSupplementary_4cfef 26 = .ok (.istore 6, 2) := by decide +kernel
theorem dJ2_indexOfSupplementary_4cfef_28 : decode cJ2_indexOfSupplementary_4cfef 28 = .ok (.iload 6, 2) := by decide +kernel
theorem dJ2_indexOfSupplementary_4cfef_30 : decode cJ2_indexOfSupplementary_4cfef 30 = .ok (.iload_n 3, 1) := by decide +kernel
theorem dJ2_indexOfSupplementary_4cfef_31 : decode cJ2_indexOfSupplementary_4cfef 31 = .ok (.iconst 1, 1) := by decide +kernel
theorem dJ2_indexOfSupplementary_4cfef_32 : decode cJ2_indexOfSupplementary_4cfef 32 = .ok (.isub, 1) := by decide +kernel
theorem dJ2_indexOfSupplementary_4cfef_33 : decode cJ2_indexOfSupplementary_4cfef 33 = .ok (.if_icmp .ge 36, 3) := by decide +kernel
theorem dJ2_indexOfSupplementary_4cfef_36 : decode cJ2_indexOfSupplementary_4cfef 36 = .ok (.aload_n 0, 1) := by decide +kernel
theorem dJ2_indexOfSupplementary_4cfef_37 : decode cJ2_indexOfSupplementary_4cfef 37 = .ok (.iload 6, 2) := by decide +kernel
theorem dJ2_indexOfSupplementary_4cfef_39 : decode cJ2_indexOfSupplementary_4cfef 39 = .ok (.invokestatic 71, 3) := by decide +kernel
theorem dJ2_indexOfSupplementary_4cfef_42 : decode cJ2_indexOfSupplementary_4cfef 42 = .ok (.iload 4, 2) := by decide +kernel
theorem dJ2_indexOfSupplementary_4cfef_44 : decode cJ2_indexOfSupplementary_4cfef 44 = .ok (.if_icmp .ne 19, 3) := by decide +kernel
theorem dJ2_indexOfSupplementary_4cfef_47 : decode cJ2_indexOfSupplementary_4cfef 47 = .ok (.aload_n 0, 1) := by decide +kernel
theorem dJ2_indexOfSupplementary_4cfef_48 : decode cJ2_indexOfSupplementary_4cfef 48 = .ok (.iload 6, 2) := by decide +kernel
theorem dJ2_indexOfSupplementary_4cfef_50 : decode cJ2_indexOfSupplementary_4cfef 50 = .ok (.iconst 1, 1) := by decide +kernel
theorem dJ2_indexOfSupplementary_4cfef_51 : decode cJ2_indexOfSupplementary_4cfef 51 = .ok (.iadd, 1) := by decide +kernel
theorem dJ2_indexOfSupplementary_4cfef_52 : decode cJ2_indexOfSupplementary_4cfef 52 = .ok (.invokestatic 71, 3) := by decide +kernel
theorem dJ2_indexOfSupplementary_4cfef_55 : decode cJ2_indexOfSupplementary_4cfef 55 = .ok (.iload 5, 2) := by decide +kernel
theorem dJ2_indexOfSupplementary_4cfef_57 : decode cJ2_indexOfSupplementary_4cfef 57 = .ok (.if_icmp .ne 6, 3) := by decide +kernel
theorem dJ2_indexOfSupplementary_4cfef_60 : decode cJ2_indexOfSupplementary_4cfef 60 = .ok (.iload 6, 2) := by decide +kernel
theorem dJ2_indexOfSupplementary_4cfef_62 : decode cJ2_indexOfSupplementary_4cfef 62 = .ok (.ireturn, 1) := by decide +kernel
theorem dJ2_indexOfSupplementary_4cfef_63 : decode cJ2_indexOfSupplementary_4cfef 63 = .ok (.iinc 6 1, 3) := by decide +kernel
theorem dJ2_indexOfSupplementary_4cfef_66 : decode cJ2_indexOfSupplementary_4cfef 66 = .ok (.goto (-38), 3) := by decide +kernel
theorem dJ2_indexOfSupplementary_4cfef_69 : decode cJ2_indexOfSupplementary_4cfef 69 = .ok (.iconst (-1), 1) := by decide +kernel
theorem dJ2_indexOfSupplementary_4cfef_70 : decode cJ2_indexOfSupplementary_4cfef 70 = .ok (.ireturn, 1) := by decide +kernel
theorem dJ2_charAt_3b067_0 : decode cJ2_charAt_3b067 0 = .ok (.iload_n 1, 1) := by decide +kernel
theorem dJ2_charAt_3b067_1 : decode cJ2_charAt_3b067 1 = .ok (.aload_n 0, 1) := by decide +kernel
theorem dJ2_charAt_3b067_2 : decode cJ2_charAt_3b067 2 = .ok (.invokestatic 67, 3) := by decide +kernel
theorem dJ2_charAt_3b067_5 : decode cJ2_charAt_3b067 5 = .ok (.aload_n 0, 1) := by decide +kernel
theorem dJ2_charAt_3b067_6 : decode cJ2_charAt_3b067 6 = .ok (.iload_n 1, 1) := by decide +kernel
theorem dJ2_charAt_3b067_7 : decode cJ2_charAt_3b067 7 = .ok (.invokestatic 71, 3) := by decide +kernel
theorem dJ2_charAt_3b067_10 : decode cJ2_charAt_3b067 10 = .ok (.ireturn, 1) := by decide +kernel
theorem dJ2_checkIndex_2214a_0 : decode cJ2_checkIndex_2214a 0 = .ok (.iload_n 0, 1) := by decide +kernel
theorem dJ2_checkIndex_2214a_1 : decode cJ2_checkIndex_2214a 1 = .ok (.aload_n 1, 1) := by decide +kernel
theorem dJ2_checkIndex_2214a_2 : decode cJ2_checkIndex_2214a 2 = .ok (.invokestatic 48, 3) := by decide +kernel
theorem dJ2_checkIndex_2214a_5 : decode cJ2_checkIndex_2214a 5 = .ok (.invokestatic 414, 3) := by decide +kernel
theorem dJ2_checkIndex_2214a_8 : decode cJ2_checkIndex_2214a 8 = .ok (.return_, 1) := by decide +kernel
theorem dJ2_checkBoundsBeginEnd_d044e_0 : decode cJ2_checkBoundsBeginEnd_d044e 0 = .ok (.iload_n 0, 1) := by decide +kernel
theorem dJ2_checkBoundsBeginEnd_d044e_1 : decode cJ2_checkBoundsBeginEnd_d044e 1 = .ok (.iload_n 1, 1) := by decide +kernel
theorem dJ2_checkBoundsBeginEnd_d044e_2 : decode cJ2_checkBoundsBeginEnd_d044e 2 = .ok (.aload_n 2, 1) := by decide +kernel
theorem dJ2_checkBoundsBeginEnd_d044e_3 : decode cJ2_checkBoundsBeginEnd_d044e 3 = .ok (.invokestatic 48, 3) := by decide +kernel
theorem dJ2_checkBoundsBeginEnd_d044e_6 : decode cJ2_checkBoundsBeginEnd_d044e 6 = .ok (.invokestatic 241, 3) := by decide +kernel
theorem dJ2_checkBoundsBeginEnd_d044e_9 : decode cJ2_checkBoundsBeginEnd_d044e 9 = .ok (.return_, 1) := by decide +kernel
theorem dJ7_fill_53178_0 : decode cJ7_fill_53178 0 = .ok (.iconst 0, 1) := by decide +kernel
theorem dJ7_fill_53178_1 : decode cJ7_fill_53178 1 = .ok (.istore_n 2, 1) := by decide +kernel
theorem dJ7_fill_53178_2 : decode cJ7_fill_53178 2 = .ok (.aload_n 0, 1) := by decide +kernel
theorem dJ7_fill_53178_3 : decode cJ7_fill_53178 3 = .ok (.arraylength, 1) := by decide +kernel
theorem dJ7_fill_53178_4 : decode cJ7_fill_53178 4 = .ok (.istore_n 3, 1) := by decide +kernel
theorem dJ7_fill_53178_5 : decode cJ7_fill_53178 5 = .ok (.iload_n 2, 1) := by decide +kernel
theorem dJ7_fill_53178_6 : decode cJ7_fill_53178 6 = .ok (.iload_n 3, 1) := by decide +kernel
theorem dJ7_fill_53178_7 : decode cJ7_fill_53178 7 = .ok (.if_icmp .ge 13, 3) := by decide +kernel
theorem dJ7_fill_53178_10 : decode cJ7_fill_53178 10 = .ok (.aload_n 0, 1) := by decide +kernel
theorem dJ7_fill_53178_11 : decode cJ7_fill_53178 11 = .ok (.iload_n 2, 1) := by decide +kernel
theorem dJ7_fill_53178_12 : decode cJ7_fill_53178 12 = .ok (.iload_n 1, 1) := by decide +kernel
theorem dJ7_fill_53178_13 : decode cJ7_fill_53178 13 = .ok (.iastore, 1) := by decide +kernel
theorem dJ7_fill_53178_14 : decode cJ7_fill_53178 14 = .ok (.iinc 2 1, 3) := by decide +kernel
theorem dJ7_fill_53178_17 : decode cJ7_fill_53178 17 = .ok (.goto (-12), 3) := by decide +kernel
theorem dJ7_fill_53178_20 : decode cJ7_fill_53178 20 = .ok (.return_, 1) := by decide +kernel
theorem dJ3_checkIndex_8e157_0 : decode cJ3_checkIndex_8e157 0 = .ok (.iload_n 0, 1) := by decide +kernel
theorem dJ3_checkIndex_8e157_1 : decode cJ3_checkIndex_8e157 1 = .ok (.ifCond .lt 8, 3) := by decide +kernel
theorem dJ3_checkIndex_8e157_4 : decode cJ3_checkIndex_8e157 4 = .ok (.iload_n 0, 1) := by decide +kernel
theorem dJ3_checkIndex_8e157_5 : decode cJ3_checkIndex_8e157 5 = .ok (.iload_n 1, 1) := by decide +kernel
theorem dJ3_checkIndex_8e157_6 : decode cJ3_checkIndex_8e157 6 = .ok (.if_icmp .lt 10, 3) := by decide +kernel
theorem dJ3_checkIndex_8e157_9 : decode cJ3_checkIndex_8e157 9 = .ok (.aload_n 2, 1) := by decide +kernel
theorem dJ3_checkIndex_8e157_10 : decode cJ3_checkIndex_8e157 10 = .ok (.iload_n 0, 1) := by decide +kernel
theorem dJ3_checkIndex_8e157_11 : decode cJ3_checkIndex_8e157 11 = .ok (.iload_n 1, 1) := by decide +kernel
theorem dJ3_checkIndex_8e157_12 : decode cJ3_checkIndex_8e157 12 = .ok (.invokestatic 95, 3) := by decide +kernel
theorem dJ3_checkIndex_8e157_15 : decode cJ3_checkIndex_8e157 15 = .ok (.athrow, 1) := by decide +kernel
theorem dJ3_checkIndex_8e157_16 : decode cJ3_checkIndex_8e157 16 = .ok (.iload_n 0, 1) := by decide +kernel
theorem dJ3_checkIndex_8e157_17 : decode cJ3_checkIndex_8e157 17 = .ok (.ireturn, 1) := by decide +kernel
theorem dJ3_checkFromToIndex_8c36e_0 : decode cJ3_checkFromToIndex_8c36e 0 = .ok (.iload_n 0, 1) := by decide +kernel
theorem dJ3_checkFromToIndex_8c36e_1 : decode cJ3_checkFromToIndex_8c36e 1 = .ok (.ifCond .lt 13, 3) := by decide +kernel
theorem dJ3_checkFromToIndex_8c36e_4 : decode cJ3_checkFromToIndex_8c36e 4 = .ok (.iload_n 0, 1) := by decide +kernel
theorem dJ3_checkFromToIndex_8c36e_5 : decode cJ3_checkFromToIndex_8c36e 5 = .ok (.iload_n 1, 1) := by decide +kernel
theorem dJ3_checkFromToIndex_8c36e_6 : decode cJ3_checkFromToIndex_8c36e 6 = .ok (.if_icmp .gt 8, 3) := by decide +kernel
theorem dJ3_checkFromToIndex_8c36e_9 : decode cJ3_checkFromToIndex_8c36e 9 = .ok (.iload_n 1, 1) := by decide +kernel
theorem dJ3_checkFromToIndex_8c36e_10 : decode cJ3_checkFromToIndex_8c36e 10 = .ok (.iload_n 2, 1) := by decide +kernel
theorem dJ3_checkFromToIndex_8c36e_11 : decode cJ3_checkFromToIndex_8c36e 11 = .ok (.if_icmp .le 11, 3) := by decide +kernel
theorem dJ3_checkFromToIndex_8c36e_14 : decode cJ3_checkFromToIndex_8c36e 14 = .ok (.aload_n 3, 1) := by decide +kernel
theorem dJ3_checkFromToIndex_8c36e_15 : decode cJ3_checkFromToIndex_8c36e 15 = .ok (.iload_n 0, 1) := by decide +kernel
theorem dJ3_checkFromToIndex_8c36e_16 : decode cJ3_checkFromToIndex_8c36e 16 = .ok (.iload_n 1, 1) := by decide +kernel
theorem dJ3_checkFromToIndex_8c36e_17 : decode cJ3_checkFromToIndex_8c36e 17 = .ok (.iload_n 2, 1) := by decide +kernel
theorem dJ3_checkFromToIndex_8c36e_18 : decode cJ3_checkFromToIndex_8c36e 18 = .ok (.invokestatic 99, 3) := by decide +kernel
theorem dJ3_checkFromToIndex_8c36e_21 : decode cJ3_checkFromToIndex_8c36e 21 = .ok (.athrow, 1) := by decide +kernel
theorem dJ3_checkFromToIndex_8c36e_22 : decode cJ3_checkFromToIndex_8c36e 22 = .ok (.iload_n 0, 1) := by decide +kernel
theorem dJ3_checkFromToIndex_8c36e_23 : decode cJ3_checkFromToIndex_8c36e 23 = .ok (.ireturn, 1) := by decide +kernel
theorem dL_law_0 : decode cL_law 0 = .ok (.new 7, 3) := by decide +kernel
theorem dL_law_3 : decode cL_law 3 = .ok (.dup, 1) := by decide +kernel
theorem dL_law_4 : decode cL_law 4 = .ok (.invokespecial 9, 3) := by decide +kernel
theorem dL_law_7 : decode cL_law 7 = .ok (.astore_n 1, 1) := by decide +kernel
theorem dL_law_8 : decode cL_law 8 = .ok (.new 10, 3) := by decide +kernel
theorem dL_law_11 : decode cL_law 11 = .ok (.dup, 1) := by decide +kernel
theorem dL_law_12 : decode cL_law 12 = .ok (.invokespecial 12, 3) := by decide +kernel
theorem dL_law_15 : decode cL_law 15 = .ok (.astore_n 2, 1) := by decide +kernel
theorem dL_law_16 : decode cL_law 16 = .ok (.iconst 0, 1) := by decide +kernel
theorem dL_law_17 : decode cL_law 17 = .ok (.istore_n 3, 1) := by decide +kernel
theorem dL_law_18 : decode cL_law 18 = .ok (.iload_n 3, 1) := by decide +kernel
theorem dL_law_19 : decode cL_law 19 = .ok (.aload_n 0, 1) := by decide +kernel
theorem dL_law_20 : decode cL_law 20 = .ok (.arraylength, 1) := by decide +kernel
theorem dL_law_21 : decode cL_law 21 = .ok (.iconst 5, 1) := by decide +kernel
theorem dL_law_22 : decode cL_law 22 = .ok (.isub, 1) := by decide +kernel
theorem dL_law_23 : decode cL_law 23 = .ok (.if_icmp .gt 1251, 3) := by decide +kernel
theorem dL_law_26 : decode cL_law 26 = .ok (.aload_n 0, 1) := by decide +kernel
theorem dL_law_27 : decode cL_law 27 = .ok (.iload_n 3, 1) := by decide +kernel
theorem dL_law_28 : decode cL_law 28 = .ok (.iaload, 1) := by decide +kernel
theorem dL_law_29 : decode cL_law 29 = .ok (.bipush 31, 2) := by decide +kernel
theorem dL_law_31 : decode cL_law 31 = .ok (.iand, 1) := by decide +kernel
theorem dL_law_32 : decode cL_law 32 = .ok (.tableswitch 1236 0 29 #[136, 199, 222, 235, 248, 281, 324, 357, 410, 463, 496, 539, 592, 645, 688, 741, 754, 787, 820, 863, 896, 929, 962, 1005, 1038, 1071, 1114, 1147, 1170, 1213], 136) := by decide +kernel
theorem dL_law_168 : decode cL_law 168 = .ok (.aload_n 1, 1) := by decide +kernel
theorem dL_law_169 : decode cL_law 169 = .ok (.aload_n 0, 1) := by decide +kernel
theorem dL_law_170 : decode cL_law 170 = .ok (.iload_n 3, 1) := by decide +kernel
theorem dL_law_171 : decode cL_law 171 = .ok (.iconst 1, 1) := by decide +kernel
theorem dL_law_172 : decode cL_law 172 = .ok (.iadd, 1) := by decide +kernel
theorem dL_law_173 : decode cL_law 173 = .ok (.iaload, 1) := by decide +kernel
theorem dL_law_174 : decode cL_law 174 = .ok (.i2l, 1) := by decide +kernel
theorem dL_law_175 : decode cL_law 175 = .ok (.bipush 32, 2) := by decide +kernel
theorem dL_law_177 : decode cL_law 177 = .ok (.lshl, 1) := by decide +kernel
theorem dL_law_178 : decode cL_law 178 = .ok (.aload_n 0, 1) := by decide +kernel
theorem dL_law_179 : decode cL_law 179 = .ok (.iload_n 3, 1) := by decide +kernel
theorem dL_law_180 : decode cL_law 180 = .ok (.iconst 2, 1) := by decide +kernel
theorem dL_law_181 : decode cL_law 181 = .ok (.iadd, 1) := by decide +kernel
theorem dL_law_182 : decode cL_law 182 = .ok (.iaload, 1) := by decide +kernel
theorem dL_law_183 : decode cL_law 183 = .ok (.i2l, 1) := by decide +kernel
theorem dL_law_184 : decode cL_law 184 = .ok (.ldc2_w 13, 3) := by decide +kernel
theorem dL_law_187 : decode cL_law 187 = .ok (.land, 1) := by decide +kernel
theorem dL_law_188 : decode cL_law 188 = .ok (.lor, 1) := by decide +kernel
theorem dL_law_189 : decode cL_law 189 = .ok (.aload_n 0, 1) := by decide +kernel
theorem dL_law_190 : decode cL_law 190 = .ok (.iload_n 3, 1) := by decide +kernel
theorem dL_law_191 : decode cL_law 191 = .ok (.iconst 3, 1) := by decide +kernel
theorem dL_law_192 : decode cL_law 192 = .ok (.iadd, 1) := by decide +kernel
theorem dL_law_193 : decode cL_law 193 = .ok (.iaload, 1) := by decide +kernel
theorem dL_law_194 : decode cL_law 194 = .ok (.invokevirtual 15, 3) := by decide +kernel
theorem dL_law_197 : decode cL_law 197 = .ok (.aload_n 2, 1) := by decide +kernel
theorem dL_law_198 : decode cL_law 198 = .ok (.aload_n 0, 1) := by decide +kernel
theorem dL_law_199 : decode cL_law 199 = .ok (.iload_n 3, 1) := by decide +kernel
theorem dL_law_200 : decode cL_law 200 = .ok (.iconst 1, 1) := by decide +kernel
theorem dL_law_201 : decode cL_law 201 = .ok (.iadd, 1) := by decide +kernel
theorem dL_law_202 : decode cL_law 202 = .ok (.iaload, 1) := by decide +kernel
theorem dL_law_203 : decode cL_law 203 = .ok (.i2l, 1) := by decide +kernel
theorem dL_law_204 : decode cL_law 204 = .ok (.bipush 32, 2) := by decide +kernel
theorem dL_law_206 : decode cL_law 206 = .ok (.lshl, 1) := by decide +kernel
theorem dL_law_207 : decode cL_law 207 = .ok (.aload_n 0, 1) := by decide +kernel
theorem dL_law_208 : decode cL_law 208 = .ok (.iload_n 3, 1) := by decide +kernel
theorem dL_law_209 : decode cL_law 209 = .ok (.iconst 2, 1) := by decide +kernel
theorem dL_law_210 : decode cL_law 210 = .ok (.iadd, 1) := by decide +kernel
theorem dL_law_211 : decode cL_law 211 = .ok (.iaload, 1) := by decide +kernel
theorem dL_law_212 : decode cL_law 212 = .ok (.i2l, 1) := by decide +kernel
theorem dL_law_213 : decode cL_law 213 = .ok (.ldc2_w 13, 3) := by decide +kernel
theorem dL_law_216 : decode cL_law 216 = .ok (.land, 1) := by decide +kernel
theorem dL_law_217 : decode cL_law 217 = .ok (.lor, 1) := by decide +kernel
theorem dL_law_218 : decode cL_law 218 = .ok (.aload_n 0, 1) := by decide +kernel
theorem dL_law_219 : decode cL_law 219 = .ok (.iload_n 3, 1) := by decide +kernel
theorem dL_law_220 : decode cL_law 220 = .ok (.iconst 3, 1) := by decide +kernel
theorem dL_law_221 : decode cL_law 221 = .ok (.iadd, 1) := by decide +kernel
theorem dL_law_222 : decode cL_law 222 = .ok (.iaload, 1) := by decide +kernel
theorem dL_law_223 : decode cL_law 223 = .ok (.invokevirtual 19, 3) := by decide +kernel
theorem dL_law_226 : decode cL_law 226 = .ok (.if_icmp .eq 1042, 3) := by decide +kernel
theorem dL_law_229 : decode cL_law 229 = .ok (.iconst 0, 1) := by decide +kernel
theorem dL_law_230 : decode cL_law 230 = .ok (.ireturn, 1) := by decide +kernel
theorem dL_law_231 : decode cL_law 231 = .ok (.aload_n 1, 1) := by decide +kernel
theorem dL_law_232 : decode cL_law 232 = .ok (.aload_n 0, 1) := by decide +kernel
theorem dL_law_233 : decode cL_law 233 = .ok (.iload_n 3, 1) := by decide +kernel
theorem dL_law_234 : decode cL_law 234 = .ok (.iconst 1, 1) := by decide +kernel
theorem dL_law_235 : decode cL_law 235 = .ok (.iadd, 1) := by decide +kernel
theorem dL_law_236 : decode cL_law 236 = .ok (.iaload, 1) := by decide +kernel
theorem dL_law_237 : decode cL_law 237 = .ok (.invokevirtual 20, 3) := by decide +kernel
theorem dL_law_240 : decode cL_law 240 = .ok (.aload_n 2, 1) := by decide +kernel
theorem dL_law_241 : decode cL_law 241 = .ok (.aload_n 0, 1) := by decide +kernel
theorem dL_law_242 : decode cL_law 242 = .ok (.iload_n 3, 1) := by decide +kernel
theorem dL_law_243 : decode cL_law 243 = .ok (.iconst 1, 1) := by decide +kernel
theorem dL_law_244 : decode cL_law 244 = .ok (.iadd, 1) := by decide +kernel
theorem dL_law_245 : decode cL_law 245 = .ok (.iaload, 1) := by decide +kernel
theorem dL_law_246 : decode cL_law 246 = .ok (.invokevirtual 24, 3) := by decide +kernel
theorem dL_law_249 : decode cL_law 249 = .ok (.if_icmp .eq 1019, 3) := by decide +kernel
theorem dL_law_252 : decode cL_law 252 = .ok (.iconst 0, 1) := by decide +kernel
theorem dL_law_253 : decode cL_law 253 = .ok (.ireturn, 1) := by decide +kernel
theorem dL_law_254 : decode cL_law 254 = .ok (.aload_n 1, 1) := by decide +kernel
theorem dL_law_255 : decode cL_law 255 = .ok (.invokevirtual 25, 3) := by decide +kernel
theorem dL_law_258 : decode cL_law 258 = .ok (.aload_n 2, 1) := by decide +kernel
theorem dL_law_259 : decode cL_law 259 = .ok (.invokevirtual 29, 3) := by decide +kernel
theorem dL_law_262 : decode cL_law 262 = .ok (.if_icmp .eq 1006, 3) := by decide +kernel
theorem dL_law_265 : decode cL_law 265 = .ok (.iconst 0, 1) := by decide +kernel
theorem dL_law_266 : decode cL_law 266 = .ok (.ireturn, 1) := by decide +kernel
theorem dL_law_267 : decode cL_law 267 = .ok (.aload_n 1, 1) := by decide +kernel
theorem dL_law_268 : decode cL_law 268 = .ok (.invokevirtual 30, 3) := by decide +kernel
theorem dL_law_271 : decode cL_law 271 = .ok (.aload_n 2, 1) := by decide +kernel
theorem dL_law_272 : decode cL_law 272 = .ok (.invokevirtual 33, 3) := by decide +kernel
theorem dL_law_275 : decode cL_law 275 = .ok (.if_icmp .eq 993, 3) := by decide +kernel
theorem dL_law_278 : decode cL_law 278 = .ok (.iconst 0, 1) := by decide +kernel
theorem dL_law_279 : decode cL_law 279 = .ok (.ireturn, 1) := by decide +kernel
theorem dL_law_280 : decode cL_law 280 = .ok (.aload_n 1, 1) := by decide +kernel
theorem dL_law_281 : decode cL_law 281 = .ok (.aload_n 0, 1) := by decide +kernel
theorem dL_law_282 : decode cL_law 282 = .ok (.iload_n 3, 1) := by decide +kernel
theorem dL_law_283 : decode cL_law 283 = .ok (.iconst 1, 1) := by decide +kernel
theorem dL_law_284 : decode cL_law 284 = .ok (.iadd, 1) := by decide +kernel
theorem dL_law_285 : decode cL_law 285 = .ok (.iaload, 1) := by decide +kernel
theorem dL_law_286 : decode cL_law 286 = .ok (.aload_n 0, 1) := by decide +kernel
theorem dL_law_287 : decode cL_law 287 = .ok (.iload_n 3, 1) := by decide +kernel
theorem dL_law_288 : decode cL_law 288 = .ok (.iconst 2, 1) := by decide +kernel
theorem dL_law_289 : decode cL_law 289 = .ok (.iadd, 1) := by decide +kernel
theorem dL_law_290 : decode cL_law 290 = .ok (.iaload, 1) := by decide +kernel
theorem dL_law_291 : decode cL_law 291 = .ok (.invokevirtual 34, 3) := by decide +kernel
theorem dL_law_294 : decode cL_law 294 = .ok (.aload_n 2, 1) := by decide +kernel
theorem dL_law_295 : decode cL_law 295 = .ok (.aload_n 0, 1) := by decide +kernel
theorem dL_law_296 : decode cL_law 296 = .ok (.iload_n 3, 1) := by decide +kernel
theorem dL_law_297 : decode cL_law 297 = .ok (.iconst 1, 1) := by decide +kernel
theorem dL_law_298 : decode cL_law 298 = .ok (.iadd, 1) := by decide +kernel
theorem dL_law_299 : decode cL_law 299 = .ok (.iaload, 1) := by decide +kernel
theorem dL_law_300 : decode cL_law 300 = .ok (.aload_n 0, 1) := by decide +kernel
theorem dL_law_301 : decode cL_law 301 = .ok (.iload_n 3, 1) := by decide +kernel
theorem dL_law_302 : decode cL_law 302 = .ok (.iconst 2, 1) := by decide +kernel
theorem dL_law_303 : decode cL_law 303 = .ok (.iadd, 1) := by decide +kernel
theorem dL_law_304 : decode cL_law 304 = .ok (.iaload, 1) := by decide +kernel
theorem dL_law_305 : decode cL_law 305 = .ok (.invokevirtual 38, 3) := by decide +kernel
theorem dL_law_308 : decode cL_law 308 = .ok (.if_icmp .eq 960, 3) := by decide +kernel
theorem dL_law_311 : decode cL_law 311 = .ok (.iconst 0, 1) := by decide +kernel
theorem dL_law_312 : decode cL_law 312 = .ok (.ireturn, 1) := by decide +kernel
theorem dL_law_313 : decode cL_law 313 = .ok (.aload_n 1, 1) := by decide +kernel
theorem dL_law_314 : decode cL_law 314 = .ok (.aload_n 0, 1) := by decide +kernel
theorem dL_law_315 : decode cL_law 315 = .ok (.iload_n 3, 1) := by decide +kernel
theorem dL_law_316 : decode cL_law 316 = .ok (.iconst 1, 1) := by decide +kernel
theorem dL_law_317 : decode cL_law 317 = .ok (.iadd, 1) := by decide +kernel
theorem dL_law_318 : decode cL_law 318 = .ok (.iaload, 1) := by decide +kernel
theorem dL_law_319 : decode cL_law 319 = .ok (.aload_n 0, 1) := by decide +kernel
theorem dL_law_320 : decode cL_law 320 = .ok (.iload_n 3, 1) := by decide +kernel
theorem dL_law_321 : decode cL_law 321 = .ok (.iconst 2, 1) := by decide +kernel
theorem dL_law_322 : decode cL_law 322 = .ok (.iadd, 1) := by decide +kernel
theorem dL_law_323 : decode cL_law 323 = .ok (.iaload, 1) := by decide +kernel
theorem dL_law_324 : decode cL_law 324 = .ok (.aload_n 0, 1) := by decide +kernel
theorem dL_law_325 : decode cL_law 325 = .ok (.iload_n 3, 1) := by decide +kernel
theorem dL_law_326 : decode cL_law 326 = .ok (.iconst 3, 1) := by decide +kernel
theorem dL_law_327 : decode cL_law 327 = .ok (.iadd, 1) := by decide +kernel
theorem dL_law_328 : decode cL_law 328 = .ok (.iaload, 1) := by decide +kernel
theorem dL_law_329 : decode cL_law 329 = .ok (.invokevirtual 39, 3) := by decide +kernel
theorem dL_law_332 : decode cL_law 332 = .ok (.aload_n 2, 1) := by decide +kernel
theorem dL_law_333 : decode cL_law 333 = .ok (.aload_n 0, 1) := by decide +kernel
theorem dL_law_334 : decode cL_law 334 = .ok (.iload_n 3, 1) := by decide +kernel
theorem dL_law_335 : decode cL_law 335 = .ok (.iconst 1, 1) := by decide +kernel
theorem dL_law_336 : decode cL_law 336 = .ok (.iadd, 1) := by decide +kernel
theorem dL_law_337 : decode cL_law 337 = .ok (.iaload, 1) := by decide +kernel
theorem dL_law_338 : decode cL_law 338 = .ok (.aload_n 0, 1) := by decide +kernel
theorem dL_law_339 : decode cL_law 339 = .ok (.iload_n 3, 1) := by decide +kernel
theorem dL_law_340 : decode cL_law 340 = .ok (.iconst 2, 1) := by decide +kernel
theorem dL_law_341 : decode cL_law 341 = .ok (.iadd, 1) := by decide +kernel
theorem dL_law_342 : decode cL_law 342 = .ok (.iaload, 1) := by decide +kernel
theorem dL_law_343 : decode cL_law 343 = .ok (.aload_n 0, 1) := by decide +kernel
theorem dL_law_344 : decode cL_law 344 = .ok (.iload_n 3, 1) := by decide +kernel
theorem dL_law_345 : decode cL_law 345 = .ok (.iconst 3, 1) := by decide +kernel
theorem dL_law_346 : decode cL_law 346 = .ok (.iadd, 1) := by decide +kernel
theorem dL_law_347 : decode cL_law 347 = .ok (.iaload, 1) := by decide +kernel
theorem dL_law_348 : decode cL_law 348 = .ok (.invokevirtual 43, 3) := by decide +kernel
theorem dL_law_351 : decode cL_law 351 = .ok (.if_icmp .eq 917, 3) := by decide +kernel
theorem dL_law_354 : decode cL_law 354 = .ok (.iconst 0, 1) := by decide +kernel
theorem dL_law_355 : decode cL_law 355 = .ok (.ireturn, 1) := by decide +kernel
theorem dL_law_356 : decode cL_law 356 = .ok (.aload_n 1, 1) := by decide +kernel
theorem dL_law_357 : decode cL_law 357 = .ok (.aload_n 0, 1) := by decide +kernel
theorem dL_law_358 : decode cL_law 358 = .ok (.iload_n 3, 1) := by decide +kernel
theorem dL_law_359 : decode cL_law 359 = .ok (.iconst 1, 1) := by decide +kernel
theorem dL_law_360 : decode cL_law 360 = .ok (.iadd, 1) := by decide +kernel
theorem dL_law_361 : decode cL_law 361 = .ok (.iaload, 1) := by decide +kernel
theorem dL_law_362 : decode cL_law 362 = .ok (.aload_n 0, 1) := by decide +kernel
theorem dL_law_363 : decode cL_law 363 = .ok (.iload_n 3, 1) := by decide +kernel
theorem dL_law_364 : decode cL_law 364 = .ok (.iconst 2, 1) := by decide +kernel
theorem dL_law_365 : decode cL_law 365 = .ok (.iadd, 1) := by decide +kernel
theorem dL_law_366 : decode cL_law 366 = .ok (.iaload, 1) := by decide +kernel
theorem dL_law_367 : decode cL_law 367 = .ok (.invokevirtual 44, 3) := by decide +kernel
theorem dL_law_370 : decode cL_law 370 = .ok (.aload_n 2, 1) := by decide +kernel
theorem dL_law_371 : decode cL_law 371 = .ok (.aload_n 0, 1) := by decide +kernel
theorem dL_law_372 : decode cL_law 372 = .ok (.iload_n 3, 1) := by decide +kernel
theorem dL_law_373 : decode cL_law 373 = .ok (.iconst 1, 1) := by decide +kernel
theorem dL_law_374 : decode cL_law 374 = .ok (.iadd, 1) := by decide +kernel
theorem dL_law_375 : decode cL_law 375 = .ok (.iaload, 1) := by decide +kernel
theorem dL_law_376 : decode cL_law 376 = .ok (.aload_n 0, 1) := by decide +kernel
theorem dL_law_377 : decode cL_law 377 = .ok (.iload_n 3, 1) := by decide +kernel
theorem dL_law_378 : decode cL_law 378 = .ok (.iconst 2, 1) := by decide +kernel
theorem dL_law_379 : decode cL_law 379 = .ok (.iadd, 1) := by decide +kernel
theorem dL_law_380 : decode cL_law 380 = .ok (.iaload, 1) := by decide +kernel
theorem dL_law_381 : decode cL_law 381 = .ok (.invokevirtual 47, 3) := by decide +kernel
theorem dL_law_384 : decode cL_law 384 = .ok (.if_icmp .eq 884, 3) := by decide +kernel
theorem dL_law_387 : decode cL_law 387 = .ok (.iconst 0, 1) := by decide +kernel
theorem dL_law_388 : decode cL_law 388 = .ok (.ireturn, 1) := by decide +kernel
theorem dL_law_389 : decode cL_law 389 = .ok (.aload_n 1, 1) := by decide +kernel
theorem dL_law_390 : decode cL_law 390 = .ok (.aload_n 0, 1) := by decide +kernel
theorem dL_law_391 : decode cL_law 391 = .ok (.iload_n 3, 1) := by decide +kernel
theorem dL_law_392 : decode cL_law 392 = .ok (.iconst 1, 1) := by decide +kernel
theorem dL_law_393 : decode cL_law 393 = .ok (.iadd, 1) := by decide +kernel
theorem dL_law_394 : decode cL_law 394 = .ok (.iaload, 1) := by decide +kernel
theorem dL_law_395 : decode cL_law 395 = .ok (.aload_n 0, 1) := by decide +kernel
theorem dL_law_396 : decode cL_law 396 = .ok (.iload_n 3, 1) := by decide +kernel
theorem dL_law_397 : decode cL_law 397 = .ok (.iconst 2, 1) := by decide +kernel
theorem dL_law_398 : decode cL_law 398 = .ok (.iadd, 1) := by decide +kernel
theorem dL_law_399 : decode cL_law 399 = .ok (.iaload, 1) := by decide +kernel
theorem dL_law_400 : decode cL_law 400 = .ok (.aload_n 0, 1) := by decide +kernel
theorem dL_law_401 : decode cL_law 401 = .ok (.iload_n 3, 1) := by decide +kernel
theorem dL_law_402 : decode cL_law 402 = .ok (.iconst 3, 1) := by decide +kernel
theorem dL_law_403 : decode cL_law 403 = .ok (.iadd, 1) := by decide +kernel
theorem dL_law_404 : decode cL_law 404 = .ok (.iaload, 1) := by decide +kernel
theorem dL_law_405 : decode cL_law 405 = .ok (.aload_n 0, 1) := by decide +kernel
theorem dL_law_406 : decode cL_law 406 = .ok (.iload_n 3, 1) := by decide +kernel
theorem dL_law_407 : decode cL_law 407 = .ok (.iconst 4, 1) := by decide +kernel
theorem dL_law_408 : decode cL_law 408 = .ok (.iadd, 1) := by decide +kernel
theorem dL_law_409 : decode cL_law 409 = .ok (.iaload, 1) := by decide +kernel
theorem dL_law_410 : decode cL_law 410 = .ok (.invokevirtual 48, 3) := by decide +kernel
theorem dL_law_413 : decode cL_law 413 = .ok (.aload_n 2, 1) := by decide +kernel
theorem dL_law_414 : decode cL_law 414 = .ok (.aload_n 0, 1) := by decide +kernel
theorem dL_law_415 : decode cL_law 415 = .ok (.iload_n 3, 1) := by decide +kernel
theorem dL_law_416 : decode cL_law 416 = .ok (.iconst 1, 1) := by decide +kernel
theorem dL_law_417 : decode cL_law 417 = .ok (.iadd, 1) := by decide +kernel
theorem dL_law_418 : decode cL_law 418 = .ok (.iaload, 1) := by decide +kernel
theorem dL_law_419 : decode cL_law 419 = .ok (.aload_n 0, 1) := by decide +kernel
theorem dL_law_420 : decode cL_law 420 = .ok (.iload_n 3, 1) := by decide +kernel
theorem dL_law_421 : decode cL_law 421 = .ok (.iconst 2, 1) := by decide +kernel
theorem dL_law_422 : decode cL_law 422 = .ok (.iadd, 1) := by decide +kernel
theorem dL_law_423 : decode cL_law 423 = .ok (.iaload, 1) := by decide +kernel
theorem dL_law_424 : decode cL_law 424 = .ok (.aload_n 0, 1) := by decide +kernel
theorem dL_law_425 : decode cL_law 425 = .ok (.iload_n 3, 1) := by decide +kernel
theorem dL_law_426 : decode cL_law 426 = .ok (.iconst 3, 1) := by decide +kernel
theorem dL_law_427 : decode cL_law 427 = .ok (.iadd, 1) := by decide +kernel
theorem dL_law_428 : decode cL_law 428 = .ok (.iaload, 1) := by decide +kernel
theorem dL_law_429 : decode cL_law 429 = .ok (.aload_n 0, 1) := by decide +kernel
theorem dL_law_430 : decode cL_law 430 = .ok (.iload_n 3, 1) := by decide +kernel
theorem dL_law_431 : decode cL_law 431 = .ok (.iconst 4, 1) := by decide +kernel
theorem dL_law_432 : decode cL_law 432 = .ok (.iadd, 1) := by decide +kernel
theorem dL_law_433 : decode cL_law 433 = .ok (.iaload, 1) := by decide +kernel
theorem dL_law_434 : decode cL_law 434 = .ok (.invokevirtual 52, 3) := by decide +kernel
theorem dL_law_437 : decode cL_law 437 = .ok (.if_icmp .eq 831, 3) := by decide +kernel
theorem dL_law_440 : decode cL_law 440 = .ok (.iconst 0, 1) := by decide +kernel
theorem dL_law_441 : decode cL_law 441 = .ok (.ireturn, 1) := by decide +kernel
theorem dL_law_442 : decode cL_law 442 = .ok (.aload_n 1, 1) := by decide +kernel
theorem dL_law_443 : decode cL_law 443 = .ok (.aload_n 0, 1) := by decide +kernel
theorem dL_law_444 : decode cL_law 444 = .ok (.iload_n 3, 1) := by decide +kernel
theorem dL_law_445 : decode cL_law 445 = .ok (.iconst 1, 1) := by decide +kernel
theorem dL_law_446 : decode cL_law 446 = .ok (.iadd, 1) := by decide +kernel
theorem dL_law_447 : decode cL_law 447 = .ok (.iaload, 1) := by decide +kernel
theorem dL_law_448 : decode cL_law 448 = .ok (.aload_n 0, 1) := by decide +kernel
theorem dL_law_449 : decode cL_law 449 = .ok (.iload_n 3, 1) := by decide +kernel
theorem dL_law_450 : decode cL_law 450 = .ok (.iconst 2, 1) := by decide +kernel
theorem dL_law_451 : decode cL_law 451 = .ok (.iadd, 1) := by decide +kernel
theorem dL_law_452 : decode cL_law 452 = .ok (.iaload, 1) := by decide +kernel
theorem dL_law_453 : decode cL_law 453 = .ok (.aload_n 0, 1) := by decide +kernel
theorem dL_law_454 : decode cL_law 454 = .ok (.iload_n 3, 1) := by decide +kernel
theorem dL_law_455 : decode cL_law 455 = .ok (.iconst 3, 1) := by decide +kernel
theorem dL_law_456 : decode cL_law 456 = .ok (.iadd, 1) := by decide +kernel
theorem dL_law_457 : decode cL_law 457 = .ok (.iaload, 1) := by decide +kernel
theorem dL_law_458 : decode cL_law 458 = .ok (.aload_n 0, 1) := by decide +kernel
theorem dL_law_459 : decode cL_law 459 = .ok (.iload_n 3, 1) := by decide +kernel
theorem dL_law_460 : decode cL_law 460 = .ok (.iconst 4, 1) := by decide +kernel
theorem dL_law_461 : decode cL_law 461 = .ok (.iadd, 1) := by decide +kernel
theorem dL_law_462 : decode cL_law 462 = .ok (.iaload, 1) := by decide +kernel
theorem dL_law_463 : decode cL_law 463 = .ok (.invokevirtual 53, 3) := by decide +kernel
theorem dL_law_466 : decode cL_law 466 = .ok (.aload_n 2, 1) := by decide +kernel
theorem dL_law_467 : decode cL_law 467 = .ok (.aload_n 0, 1) := by decide +kernel
theorem dL_law_468 : decode cL_law 468 = .ok (.iload_n 3, 1) := by decide +kernel
theorem dL_law_469 : decode cL_law 469 = .ok (.iconst 1, 1) := by decide +kernel
theorem dL_law_470 : decode cL_law 470 = .ok (.iadd, 1) := by decide +kernel
theorem dL_law_471 : decode cL_law 471 = .ok (.iaload, 1) := by decide +kernel
theorem dL_law_472 : decode cL_law 472 = .ok (.aload_n 0, 1) := by decide +kernel
theorem dL_law_473 : decode cL_law 473 = .ok (.iload_n 3, 1) := by decide +kernel
theorem dL_law_474 : decode cL_law 474 = .ok (.iconst 2, 1) := by decide +kernel
theorem dL_law_475 : decode cL_law 475 = .ok (.iadd, 1) := by decide +kernel
theorem dL_law_476 : decode cL_law 476 = .ok (.iaload, 1) := by decide +kernel
theorem dL_law_477 : decode cL_law 477 = .ok (.aload_n 0, 1) := by decide +kernel
theorem dL_law_478 : decode cL_law 478 = .ok (.iload_n 3, 1) := by decide +kernel
theorem dL_law_479 : decode cL_law 479 = .ok (.iconst 3, 1) := by decide +kernel
theorem dL_law_480 : decode cL_law 480 = .ok (.iadd, 1) := by decide +kernel
theorem dL_law_481 : decode cL_law 481 = .ok (.iaload, 1) := by decide +kernel
theorem dL_law_482 : decode cL_law 482 = .ok (.aload_n 0, 1) := by decide +kernel
theorem dL_law_483 : decode cL_law 483 = .ok (.iload_n 3, 1) := by decide +kernel
theorem dL_law_484 : decode cL_law 484 = .ok (.iconst 4, 1) := by decide +kernel
theorem dL_law_485 : decode cL_law 485 = .ok (.iadd, 1) := by decide +kernel
theorem dL_law_486 : decode cL_law 486 = .ok (.iaload, 1) := by decide +kernel
theorem dL_law_487 : decode cL_law 487 = .ok (.invokevirtual 56, 3) := by decide +kernel
theorem dL_law_490 : decode cL_law 490 = .ok (.if_icmp .eq 778, 3) := by decide +kernel
theorem dL_law_493 : decode cL_law 493 = .ok (.iconst 0, 1) := by decide +kernel
theorem dL_law_494 : decode cL_law 494 = .ok (.ireturn, 1) := by decide +kernel
theorem dL_law_495 : decode cL_law 495 = .ok (.aload_n 1, 1) := by decide +kernel
theorem dL_law_496 : decode cL_law 496 = .ok (.aload_n 0, 1) := by decide +kernel
theorem dL_law_497 : decode cL_law 497 = .ok (.iload_n 3, 1) := by decide +kernel
theorem dL_law_498 : decode cL_law 498 = .ok (.iconst 1, 1) := by decide +kernel
theorem dL_law_499 : decode cL_law 499 = .ok (.iadd, 1) := by decide +kernel
theorem dL_law_500 : decode cL_law 500 = .ok (.iaload, 1) := by decide +kernel
theorem dL_law_501 : decode cL_law 501 = .ok (.aload_n 0, 1) := by decide +kernel
theorem dL_law_502 : decode cL_law 502 = .ok (.iload_n 3, 1) := by decide +kernel
theorem dL_law_503 : decode cL_law 503 = .ok (.iconst 2, 1) := by decide +kernel
theorem dL_law_504 : decode cL_law 504 = .ok (.iadd, 1) := by decide +kernel
theorem dL_law_505 : decode cL_law 505 = .ok (.iaload, 1) := by decide +kernel
theorem dL_law_506 : decode cL_law 506 = .ok (.invokevirtual 57, 3) := by decide +kernel
theorem dL_law_509 : decode cL_law 509 = .ok (.aload_n 2, 1) := by decide +kernel
theorem dL_law_510 : decode cL_law 510 = .ok (.aload_n 0, 1) := by decide +kernel
theorem dL_law_511 : decode cL_law 511 = .ok (.iload_n 3, 1) := by decide +kernel
theorem dL_law_512 : decode cL_law 512 = .ok (.iconst 1, 1) := by decide +kernel
theorem dL_law_513 : decode cL_law 513 = .ok (.iadd, 1) := by decide +kernel
theorem dL_law_514 : decode cL_law 514 = .ok (.iaload, 1) := by decide +kernel
theorem dL_law_515 : decode cL_law 515 = .ok (.aload_n 0, 1) := by decide +kernel
theorem dL_law_516 : decode cL_law 516 = .ok (.iload_n 3, 1) := by decide +kernel
theorem dL_law_517 : decode cL_law 517 = .ok (.iconst 2, 1) := by decide +kernel
theorem dL_law_518 : decode cL_law 518 = .ok (.iadd, 1) := by decide +kernel
theorem dL_law_519 : decode cL_law 519 = .ok (.iaload, 1) := by decide +kernel
theorem dL_law_520 : decode cL_law 520 = .ok (.invokevirtual 60, 3) := by decide +kernel
theorem dL_law_523 : decode cL_law 523 = .ok (.if_icmp .eq 745, 3) := by decide +kernel
theorem dL_law_526 : decode cL_law 526 = .ok (.iconst 0, 1) := by decide +kernel
theorem dL_law_527 : decode cL_law 527 = .ok (.ireturn, 1) := by decide +kernel
theorem dL_law_528 : decode cL_law 528 = .ok (.aload_n 1, 1) := by decide +kernel
theorem dL_law_529 : decode cL_law 529 = .ok (.aload_n 0, 1) := by decide +kernel
theorem dL_law_530 : decode cL_law 530 = .ok (.iload_n 3, 1) := by decide +kernel
theorem dL_law_531 : decode cL_law 531 = .ok (.iconst 1, 1) := by decide +kernel
theorem dL_law_532 : decode cL_law 532 = .ok (.iadd, 1) := by decide +kernel
theorem dL_law_533 : decode cL_law 533 = .ok (.iaload, 1) := by decide +kernel
theorem dL_law_534 : decode cL_law 534 = .ok (.aload_n 0, 1) := by decide +kernel
theorem dL_law_535 : decode cL_law 535 = .ok (.iload_n 3, 1) := by decide +kernel
theorem dL_law_536 : decode cL_law 536 = .ok (.iconst 2, 1) := by decide +kernel
theorem dL_law_537 : decode cL_law 537 = .ok (.iadd, 1) := by decide +kernel
theorem dL_law_538 : decode cL_law 538 = .ok (.iaload, 1) := by decide +kernel
theorem dL_law_539 : decode cL_law 539 = .ok (.aload_n 0, 1) := by decide +kernel
theorem dL_law_540 : decode cL_law 540 = .ok (.iload_n 3, 1) := by decide +kernel
theorem dL_law_541 : decode cL_law 541 = .ok (.iconst 3, 1) := by decide +kernel
theorem dL_law_542 : decode cL_law 542 = .ok (.iadd, 1) := by decide +kernel
theorem dL_law_543 : decode cL_law 543 = .ok (.iaload, 1) := by decide +kernel
theorem dL_law_544 : decode cL_law 544 = .ok (.invokevirtual 61, 3) := by decide +kernel
theorem dL_law_547 : decode cL_law 547 = .ok (.aload_n 2, 1) := by decide +kernel
theorem dL_law_548 : decode cL_law 548 = .ok (.aload_n 0, 1) := by decide +kernel
theorem dL_law_549 : decode cL_law 549 = .ok (.iload_n 3, 1) := by decide +kernel
theorem dL_law_550 : decode cL_law 550 = .ok (.iconst 1, 1) := by decide +kernel
theorem dL_law_551 : decode cL_law 551 = .ok (.iadd, 1) := by decide +kernel
theorem dL_law_552 : decode cL_law 552 = .ok (.iaload, 1) := by decide +kernel
theorem dL_law_553 : decode cL_law 553 = .ok (.aload_n 0, 1) := by decide +kernel
theorem dL_law_554 : decode cL_law 554 = .ok (.iload_n 3, 1) := by decide +kernel
theorem dL_law_555 : decode cL_law 555 = .ok (.iconst 2, 1) := by decide +kernel
theorem dL_law_556 : decode cL_law 556 = .ok (.iadd, 1) := by decide +kernel
theorem dL_law_557 : decode cL_law 557 = .ok (.iaload, 1) := by decide +kernel
theorem dL_law_558 : decode cL_law 558 = .ok (.aload_n 0, 1) := by decide +kernel
theorem dL_law_559 : decode cL_law 559 = .ok (.iload_n 3, 1) := by decide +kernel
theorem dL_law_560 : decode cL_law 560 = .ok (.iconst 3, 1) := by decide +kernel
theorem dL_law_561 : decode cL_law 561 = .ok (.iadd, 1) := by decide +kernel
theorem dL_law_562 : decode cL_law 562 = .ok (.iaload, 1) := by decide +kernel
theorem dL_law_563 : decode cL_law 563 = .ok (.invokevirtual 64, 3) := by decide +kernel
theorem dL_law_566 : decode cL_law 566 = .ok (.if_icmp .eq 702, 3) := by decide +kernel
theorem dL_law_569 : decode cL_law 569 = .ok (.iconst 0, 1) := by decide +kernel
theorem dL_law_570 : decode cL_law 570 = .ok (.ireturn, 1) := by decide +kernel
theorem dL_law_571 : decode cL_law 571 = .ok (.aload_n 1, 1) := by decide +kernel
theorem dL_law_572 : decode cL_law 572 = .ok (.aload_n 0, 1) := by decide +kernel
theorem dL_law_573 : decode cL_law 573 = .ok (.iload_n 3, 1) := by decide +kernel
theorem dL_law_574 : decode cL_law 574 = .ok (.iconst 1, 1) := by decide +kernel
theorem dL_law_575 : decode cL_law 575 = .ok (.iadd, 1) := by decide +kernel
theorem dL_law_576 : decode cL_law 576 = .ok (.iaload, 1) := by decide +kernel
theorem dL_law_577 : decode cL_law 577 = .ok (.aload_n 0, 1) := by decide +kernel
theorem dL_law_578 : decode cL_law 578 = .ok (.iload_n 3, 1) := by decide +kernel
theorem dL_law_579 : decode cL_law 579 = .ok (.iconst 2, 1) := by decide +kernel
theorem dL_law_580 : decode cL_law 580 = .ok (.iadd, 1) := by decide +kernel
theorem dL_law_581 : decode cL_law 581 = .ok (.iaload, 1) := by decide +kernel
theorem dL_law_582 : decode cL_law 582 = .ok (.aload_n 0, 1) := by decide +kernel
theorem dL_law_583 : decode cL_law 583 = .ok (.iload_n 3, 1) := by decide +kernel
theorem dL_law_584 : decode cL_law 584 = .ok (.iconst 3, 1) := by decide +kernel
theorem dL_law_585 : decode cL_law 585 = .ok (.iadd, 1) := by decide +kernel
theorem dL_law_586 : decode cL_law 586 = .ok (.iaload, 1) := by decide +kernel
theorem dL_law_587 : decode cL_law 587 = .ok (.aload_n 0, 1) := by decide +kernel
theorem dL_law_588 : decode cL_law 588 = .ok (.iload_n 3, 1) := by decide +kernel
theorem dL_law_589 : decode cL_law 589 = .ok (.iconst 4, 1) := by decide +kernel
theorem dL_law_590 : decode cL_law 590 = .ok (.iadd, 1) := by decide +kernel
theorem dL_law_591 : decode cL_law 591 = .ok (.iaload, 1) := by decide +kernel
theorem dL_law_592 : decode cL_law 592 = .ok (.invokevirtual 65, 3) := by decide +kernel
theorem dL_law_595 : decode cL_law 595 = .ok (.aload_n 2, 1) := by decide +kernel
theorem dL_law_596 : decode cL_law 596 = .ok (.aload_n 0, 1) := by decide +kernel
theorem dL_law_597 : decode cL_law 597 = .ok (.iload_n 3, 1) := by decide +kernel
theorem dL_law_598 : decode cL_law 598 = .ok (.iconst 1, 1) := by decide +kernel
theorem dL_law_599 : decode cL_law 599 = .ok (.iadd, 1) := by decide +kernel
theorem dL_law_600 : decode cL_law 600 = .ok (.iaload, 1) := by decide +kernel
theorem dL_law_601 : decode cL_law 601 = .ok (.aload_n 0, 1) := by decide +kernel
theorem dL_law_602 : decode cL_law 602 = .ok (.iload_n 3, 1) := by decide +kernel
theorem dL_law_603 : decode cL_law 603 = .ok (.iconst 2, 1) := by decide +kernel
theorem dL_law_604 : decode cL_law 604 = .ok (.iadd, 1) := by decide +kernel
theorem dL_law_605 : decode cL_law 605 = .ok (.iaload, 1) := by decide +kernel
theorem dL_law_606 : decode cL_law 606 = .ok (.aload_n 0, 1) := by decide +kernel
theorem dL_law_607 : decode cL_law 607 = .ok (.iload_n 3, 1) := by decide +kernel
theorem dL_law_608 : decode cL_law 608 = .ok (.iconst 3, 1) := by decide +kernel
theorem dL_law_609 : decode cL_law 609 = .ok (.iadd, 1) := by decide +kernel
theorem dL_law_610 : decode cL_law 610 = .ok (.iaload, 1) := by decide +kernel
theorem dL_law_611 : decode cL_law 611 = .ok (.aload_n 0, 1) := by decide +kernel
theorem dL_law_612 : decode cL_law 612 = .ok (.iload_n 3, 1) := by decide +kernel
theorem dL_law_613 : decode cL_law 613 = .ok (.iconst 4, 1) := by decide +kernel
theorem dL_law_614 : decode cL_law 614 = .ok (.iadd, 1) := by decide +kernel
theorem dL_law_615 : decode cL_law 615 = .ok (.iaload, 1) := by decide +kernel
theorem dL_law_616 : decode cL_law 616 = .ok (.invokevirtual 68, 3) := by decide +kernel
theorem dL_law_619 : decode cL_law 619 = .ok (.if_icmp .eq 649, 3) := by decide +kernel
theorem dL_law_622 : decode cL_law 622 = .ok (.iconst 0, 1) := by decide +kernel
theorem dL_law_623 : decode cL_law 623 = .ok (.ireturn, 1) := by decide +kernel
theorem dL_law_624 : decode cL_law 624 = .ok (.aload_n 1, 1) := by decide +kernel
theorem dL_law_625 : decode cL_law 625 = .ok (.aload_n 0, 1) := by decide +kernel
theorem dL_law_626 : decode cL_law 626 = .ok (.iload_n 3, 1) := by decide +kernel
theorem dL_law_627 : decode cL_law 627 = .ok (.iconst 1, 1) := by decide +kernel
theorem dL_law_628 : decode cL_law 628 = .ok (.iadd, 1) := by decide +kernel
theorem dL_law_629 : decode cL_law 629 = .ok (.iaload, 1) := by decide +kernel
theorem dL_law_630 : decode cL_law 630 = .ok (.aload_n 0, 1) := by decide +kernel
theorem dL_law_631 : decode cL_law 631 = .ok (.iload_n 3, 1) := by decide +kernel
theorem dL_law_632 : decode cL_law 632 = .ok (.iconst 2, 1) := by decide +kernel
theorem dL_law_633 : decode cL_law 633 = .ok (.iadd, 1) := by decide +kernel
theorem dL_law_634 : decode cL_law 634 = .ok (.iaload, 1) := by decide +kernel
theorem dL_law_635 : decode cL_law 635 = .ok (.aload_n 0, 1) := by decide +kernel
theorem dL_law_636 : decode cL_law 636 = .ok (.iload_n 3, 1) := by decide +kernel
theorem dL_law_637 : decode cL_law 637 = .ok (.iconst 3, 1) := by decide +kernel
theorem dL_law_638 : decode cL_law 638 = .ok (.iadd, 1) := by decide +kernel
theorem dL_law_639 : decode cL_law 639 = .ok (.iaload, 1) := by decide +kernel
theorem dL_law_640 : decode cL_law 640 = .ok (.aload_n 0, 1) := by decide +kernel
theorem dL_law_641 : decode cL_law 641 = .ok (.iload_n 3, 1) := by decide +kernel
theorem dL_law_642 : decode cL_law 642 = .ok (.iconst 4, 1) := by decide +kernel
theorem dL_law_643 : decode cL_law 643 = .ok (.iadd, 1) := by decide +kernel
theorem dL_law_644 : decode cL_law 644 = .ok (.iaload, 1) := by decide +kernel
theorem dL_law_645 : decode cL_law 645 = .ok (.invokevirtual 69, 3) := by decide +kernel
theorem dL_law_648 : decode cL_law 648 = .ok (.aload_n 2, 1) := by decide +kernel
theorem dL_law_649 : decode cL_law 649 = .ok (.aload_n 0, 1) := by decide +kernel
theorem dL_law_650 : decode cL_law 650 = .ok (.iload_n 3, 1) := by decide +kernel
theorem dL_law_651 : decode cL_law 651 = .ok (.iconst 1, 1) := by decide +kernel
theorem dL_law_652 : decode cL_law 652 = .ok (.iadd, 1) := by decide +kernel
theorem dL_law_653 : decode cL_law 653 = .ok (.iaload, 1) := by decide +kernel
theorem dL_law_654 : decode cL_law 654 = .ok (.aload_n 0, 1) := by decide +kernel
theorem dL_law_655 : decode cL_law 655 = .ok (.iload_n 3, 1) := by decide +kernel
theorem dL_law_656 : decode cL_law 656 = .ok (.iconst 2, 1) := by decide +kernel
theorem dL_law_657 : decode cL_law 657 = .ok (.iadd, 1) := by decide +kernel
theorem dL_law_658 : decode cL_law 658 = .ok (.iaload, 1) := by decide +kernel
theorem dL_law_659 : decode cL_law 659 = .ok (.aload_n 0, 1) := by decide +kernel
theorem dL_law_660 : decode cL_law 660 = .ok (.iload_n 3, 1) := by decide +kernel
theorem dL_law_661 : decode cL_law 661 = .ok (.iconst 3, 1) := by decide +kernel
theorem dL_law_662 : decode cL_law 662 = .ok (.iadd, 1) := by decide +kernel
theorem dL_law_663 : decode cL_law 663 = .ok (.iaload, 1) := by decide +kernel
theorem dL_law_664 : decode cL_law 664 = .ok (.aload_n 0, 1) := by decide +kernel
theorem dL_law_665 : decode cL_law 665 = .ok (.iload_n 3, 1) := by decide +kernel
theorem dL_law_666 : decode cL_law 666 = .ok (.iconst 4, 1) := by decide +kernel
theorem dL_law_667 : decode cL_law 667 = .ok (.iadd, 1) := by decide +kernel
theorem dL_law_668 : decode cL_law 668 = .ok (.iaload, 1) := by decide +kernel
theorem dL_law_669 : decode cL_law 669 = .ok (.invokevirtual 72, 3) := by decide +kernel
theorem dL_law_672 : decode cL_law 672 = .ok (.if_icmp .eq 596, 3) := by decide +kernel
theorem dL_law_675 : decode cL_law 675 = .ok (.iconst 0, 1) := by decide +kernel
theorem dL_law_676 : decode cL_law 676 = .ok (.ireturn, 1) := by decide +kernel
theorem dL_law_677 : decode cL_law 677 = .ok (.aload_n 1, 1) := by decide +kernel
theorem dL_law_678 : decode cL_law 678 = .ok (.aload_n 0, 1) := by decide +kernel
theorem dL_law_679 : decode cL_law 679 = .ok (.iload_n 3, 1) := by decide +kernel
theorem dL_law_680 : decode cL_law 680 = .ok (.iconst 1, 1) := by decide +kernel
theorem dL_law_681 : decode cL_law 681 = .ok (.iadd, 1) := by decide +kernel
theorem dL_law_682 : decode cL_law 682 = .ok (.iaload, 1) := by decide +kernel
theorem dL_law_683 : decode cL_law 683 = .ok (.aload_n 0, 1) := by decide +kernel
theorem dL_law_684 : decode cL_law 684 = .ok (.iload_n 3, 1) := by decide +kernel
theorem dL_law_685 : decode cL_law 685 = .ok (.iconst 2, 1) := by decide +kernel
theorem dL_law_686 : decode cL_law 686 = .ok (.iadd, 1) := by decide +kernel
theorem dL_law_687 : decode cL_law 687 = .ok (.iaload, 1) := by decide +kernel
theorem dL_law_688 : decode cL_law 688 = .ok (.aload_n 0, 1) := by decide +kernel
theorem dL_law_689 : decode cL_law 689 = .ok (.iload_n 3, 1) := by decide +kernel
theorem dL_law_690 : decode cL_law 690 = .ok (.iconst 3, 1) := by decide +kernel
theorem dL_law_691 : decode cL_law 691 = .ok (.iadd, 1) := by decide +kernel
theorem dL_law_692 : decode cL_law 692 = .ok (.iaload, 1) := by decide +kernel
theorem dL_law_693 : decode cL_law 693 = .ok (.invokevirtual 73, 3) := by decide +kernel
theorem dL_law_696 : decode cL_law 696 = .ok (.aload_n 2, 1) := by decide +kernel
theorem dL_law_697 : decode cL_law 697 = .ok (.aload_n 0, 1) := by decide +kernel
theorem dL_law_698 : decode cL_law 698 = .ok (.iload_n 3, 1) := by decide +kernel
theorem dL_law_699 : decode cL_law 699 = .ok (.iconst 1, 1) := by decide +kernel
theorem dL_law_700 : decode cL_law 700 = .ok (.iadd, 1) := by decide +kernel
theorem dL_law_701 : decode cL_law 701 = .ok (.iaload, 1) := by decide +kernel
theorem dL_law_702 : decode cL_law 702 = .ok (.aload_n 0, 1) := by decide +kernel
theorem dL_law_703 : decode cL_law 703 = .ok (.iload_n 3, 1) := by decide +kernel
theorem dL_law_704 : decode cL_law 704 = .ok (.iconst 2, 1) := by decide +kernel
theorem dL_law_705 : decode cL_law 705 = .ok (.iadd, 1) := by decide +kernel
theorem dL_law_706 : decode cL_law 706 = .ok (.iaload, 1) := by decide +kernel
theorem dL_law_707 : decode cL_law 707 = .ok (.aload_n 0, 1) := by decide +kernel
theorem dL_law_708 : decode cL_law 708 = .ok (.iload_n 3, 1) := by decide +kernel
theorem dL_law_709 : decode cL_law 709 = .ok (.iconst 3, 1) := by decide +kernel
theorem dL_law_710 : decode cL_law 710 = .ok (.iadd, 1) := by decide +kernel
theorem dL_law_711 : decode cL_law 711 = .ok (.iaload, 1) := by decide +kernel
theorem dL_law_712 : decode cL_law 712 = .ok (.invokevirtual 76, 3) := by decide +kernel
theorem dL_law_715 : decode cL_law 715 = .ok (.if_icmp .eq 553, 3) := by decide +kernel
theorem dL_law_718 : decode cL_law 718 = .ok (.iconst 0, 1) := by decide +kernel
theorem dL_law_719 : decode cL_law 719 = .ok (.ireturn, 1) := by decide +kernel
theorem dL_law_720 : decode cL_law 720 = .ok (.aload_n 1, 1) := by decide +kernel
theorem dL_law_721 : decode cL_law 721 = .ok (.aload_n 0, 1) := by decide +kernel
theorem dL_law_722 : decode cL_law 722 = .ok (.iload_n 3, 1) := by decide +kernel
theorem dL_law_723 : decode cL_law 723 = .ok (.iconst 1, 1) := by decide +kernel
theorem dL_law_724 : decode cL_law 724 = .ok (.iadd, 1) := by decide +kernel
theorem dL_law_725 : decode cL_law 725 = .ok (.iaload, 1) := by decide +kernel
theorem dL_law_726 : decode cL_law 726 = .ok (.aload_n 0, 1) := by decide +kernel
theorem dL_law_727 : decode cL_law 727 = .ok (.iload_n 3, 1) := by decide +kernel
theorem dL_law_728 : decode cL_law 728 = .ok (.iconst 2, 1) := by decide +kernel
theorem dL_law_729 : decode cL_law 729 = .ok (.iadd, 1) := by decide +kernel
theorem dL_law_730 : decode cL_law 730 = .ok (.iaload, 1) := by decide +kernel
theorem dL_law_731 : decode cL_law 731 = .ok (.aload_n 0, 1) := by decide +kernel
theorem dL_law_732 : decode cL_law 732 = .ok (.iload_n 3, 1) := by decide +kernel
theorem dL_law_733 : decode cL_law 733 = .ok (.iconst 3, 1) := by decide +kernel
theorem dL_law_734 : decode cL_law 734 = .ok (.iadd, 1) := by decide +kernel
theorem dL_law_735 : decode cL_law 735 = .ok (.iaload, 1) := by decide +kernel
theorem dL_law_736 : decode cL_law 736 = .ok (.aload_n 0, 1) := by decide +kernel
theorem dL_law_737 : decode cL_law 737 = .ok (.iload_n 3, 1) := by decide +kernel
theorem dL_law_738 : decode cL_law 738 = .ok (.iconst 4, 1) := by decide +kernel
theorem dL_law_739 : decode cL_law 739 = .ok (.iadd, 1) := by decide +kernel
theorem dL_law_740 : decode cL_law 740 = .ok (.iaload, 1) := by decide +kernel
theorem dL_law_741 : decode cL_law 741 = .ok (.invokevirtual 77, 3) := by decide +kernel
theorem dL_law_744 : decode cL_law 744 = .ok (.aload_n 2, 1) := by decide +kernel
theorem dL_law_745 : decode cL_law 745 = .ok (.aload_n 0, 1) := by decide +kernel
theorem dL_law_746 : decode cL_law 746 = .ok (.iload_n 3, 1) := by decide +kernel
theorem dL_law_747 : decode cL_law 747 = .ok (.iconst 1, 1) := by decide +kernel
theorem dL_law_748 : decode cL_law 748 = .ok (.iadd, 1) := by decide +kernel
theorem dL_law_749 : decode cL_law 749 = .ok (.iaload, 1) := by decide +kernel
theorem dL_law_750 : decode cL_law 750 = .ok (.aload_n 0, 1) := by decide +kernel
theorem dL_law_751 : decode cL_law 751 = .ok (.iload_n 3, 1) := by decide +kernel
theorem dL_law_752 : decode cL_law 752 = .ok (.iconst 2, 1) := by decide +kernel
theorem dL_law_753 : decode cL_law 753 = .ok (.iadd, 1) := by decide +kernel
theorem dL_law_754 : decode cL_law 754 = .ok (.iaload, 1) := by decide +kernel
theorem dL_law_755 : decode cL_law 755 = .ok (.aload_n 0, 1) := by decide +kernel
theorem dL_law_756 : decode cL_law 756 = .ok (.iload_n 3, 1) := by decide +kernel
theorem dL_law_757 : decode cL_law 757 = .ok (.iconst 3, 1) := by decide +kernel
theorem dL_law_758 : decode cL_law 758 = .ok (.iadd, 1) := by decide +kernel
theorem dL_law_759 : decode cL_law 759 = .ok (.iaload, 1) := by decide +kernel
theorem dL_law_760 : decode cL_law 760 = .ok (.aload_n 0, 1) := by decide +kernel
theorem dL_law_761 : decode cL_law 761 = .ok (.iload_n 3, 1) := by decide +kernel
theorem dL_law_762 : decode cL_law 762 = .ok (.iconst 4, 1) := by decide +kernel
theorem dL_law_763 : decode cL_law 763 = .ok (.iadd, 1) := by decide +kernel
theorem dL_law_764 : decode cL_law 764 = .ok (.iaload, 1) := by decide +kernel
theorem dL_law_765 : decode cL_law 765 = .ok (.invokevirtual 80, 3) := by decide +kernel
theorem dL_law_768 : decode cL_law 768 = .ok (.if_icmp .eq 500, 3) := by decide +kernel
theorem dL_law_771 : decode cL_law 771 = .ok (.iconst 0, 1) := by decide +kernel
theorem dL_law_772 : decode cL_law 772 = .ok (.ireturn, 1) := by decide +kernel
theorem dL_law_773 : decode cL_law 773 = .ok (.aload_n 1, 1) := by decide +kernel
theorem dL_law_774 : decode cL_law 774 = .ok (.invokevirtual 81, 3) := by decide +kernel
theorem dL_law_777 : decode cL_law 777 = .ok (.aload_n 2, 1) := by decide +kernel
theorem dL_law_778 : decode cL_law 778 = .ok (.invokevirtual 84, 3) := by decide +kernel
theorem dL_law_781 : decode cL_law 781 = .ok (.if_icmp .eq 487, 3) := by decide +kernel
theorem dL_law_784 : decode cL_law 784 = .ok (.iconst 0, 1) := by decide +kernel
theorem dL_law_785 : decode cL_law 785 = .ok (.ireturn, 1) := by decide +kernel
theorem dL_law_786 : decode cL_law 786 = .ok (.aload_n 1, 1) := by decide +kernel
theorem dL_law_787 : decode cL_law 787 = .ok (.aload_n 0, 1) := by decide +kernel
theorem dL_law_788 : decode cL_law 788 = .ok (.iload_n 3, 1) := by decide +kernel
theorem dL_law_789 : decode cL_law 789 = .ok (.iconst 1, 1) := by decide +kernel
theorem dL_law_790 : decode cL_law 790 = .ok (.iadd, 1) := by decide +kernel
theorem dL_law_791 : decode cL_law 791 = .ok (.iaload, 1) := by decide +kernel
theorem dL_law_792 : decode cL_law 792 = .ok (.aload_n 0, 1) := by decide +kernel
theorem dL_law_793 : decode cL_law 793 = .ok (.iload_n 3, 1) := by decide +kernel
theorem dL_law_794 : decode cL_law 794 = .ok (.iconst 2, 1) := by decide +kernel
theorem dL_law_795 : decode cL_law 795 = .ok (.iadd, 1) := by decide +kernel
theorem dL_law_796 : decode cL_law 796 = .ok (.iaload, 1) := by decide +kernel
theorem dL_law_797 : decode cL_law 797 = .ok (.invokevirtual 85, 3) := by decide +kernel
theorem dL_law_800 : decode cL_law 800 = .ok (.aload_n 2, 1) := by decide +kernel
theorem dL_law_801 : decode cL_law 801 = .ok (.aload_n 0, 1) := by decide +kernel
theorem dL_law_802 : decode cL_law 802 = .ok (.iload_n 3, 1) := by decide +kernel
theorem dL_law_803 : decode cL_law 803 = .ok (.iconst 1, 1) := by decide +kernel
theorem dL_law_804 : decode cL_law 804 = .ok (.iadd, 1) := by decide +kernel
theorem dL_law_805 : decode cL_law 805 = .ok (.iaload, 1) := by decide +kernel
theorem dL_law_806 : decode cL_law 806 = .ok (.aload_n 0, 1) := by decide +kernel
theorem dL_law_807 : decode cL_law 807 = .ok (.iload_n 3, 1) := by decide +kernel
theorem dL_law_808 : decode cL_law 808 = .ok (.iconst 2, 1) := by decide +kernel
theorem dL_law_809 : decode cL_law 809 = .ok (.iadd, 1) := by decide +kernel
theorem dL_law_810 : decode cL_law 810 = .ok (.iaload, 1) := by decide +kernel
theorem dL_law_811 : decode cL_law 811 = .ok (.invokevirtual 88, 3) := by decide +kernel
theorem dL_law_814 : decode cL_law 814 = .ok (.if_icmp .eq 454, 3) := by decide +kernel
theorem dL_law_817 : decode cL_law 817 = .ok (.iconst 0, 1) := by decide +kernel
theorem dL_law_818 : decode cL_law 818 = .ok (.ireturn, 1) := by decide +kernel
theorem dL_law_819 : decode cL_law 819 = .ok (.aload_n 1, 1) := by decide +kernel
theorem dL_law_820 : decode cL_law 820 = .ok (.aload_n 0, 1) := by decide +kernel
theorem dL_law_821 : decode cL_law 821 = .ok (.iload_n 3, 1) := by decide +kernel
theorem dL_law_822 : decode cL_law 822 = .ok (.iconst 1, 1) := by decide +kernel
theorem dL_law_823 : decode cL_law 823 = .ok (.iadd, 1) := by decide +kernel
theorem dL_law_824 : decode cL_law 824 = .ok (.iaload, 1) := by decide +kernel
theorem dL_law_825 : decode cL_law 825 = .ok (.aload_n 0, 1) := by decide +kernel
theorem dL_law_826 : decode cL_law 826 = .ok (.iload_n 3, 1) := by decide +kernel
theorem dL_law_827 : decode cL_law 827 = .ok (.iconst 2, 1) := by decide +kernel
theorem dL_law_828 : decode cL_law 828 = .ok (.iadd, 1) := by decide +kernel
theorem dL_law_829 : decode cL_law 829 = .ok (.iaload, 1) := by decide +kernel
theorem dL_law_830 : decode cL_law 830 = .ok (.invokevirtual 89, 3) := by decide +kernel
theorem dL_law_833 : decode cL_law 833 = .ok (.aload_n 2, 1) := by decide +kernel
theorem dL_law_834 : decode cL_law 834 = .ok (.aload_n 0, 1) := by decide +kernel
theorem dL_law_835 : decode cL_law 835 = .ok (.iload_n 3, 1) := by decide +kernel
theorem dL_law_836 : decode cL_law 836 = .ok (.iconst 1, 1) := by decide +kernel
theorem dL_law_837 : decode cL_law 837 = .ok (.iadd, 1) := by decide +kernel
theorem dL_law_838 : decode cL_law 838 = .ok (.iaload, 1) := by decide +kernel
theorem dL_law_839 : decode cL_law 839 = .ok (.aload_n 0, 1) := by decide +kernel
theorem dL_law_840 : decode cL_law 840 = .ok (.iload_n 3, 1) := by decide +kernel
theorem dL_law_841 : decode cL_law 841 = .ok (.iconst 2, 1) := by decide +kernel
theorem dL_law_842 : decode cL_law 842 = .ok (.iadd, 1) := by decide +kernel
theorem dL_law_843 : decode cL_law 843 = .ok (.iaload, 1) := by decide +kernel
theorem dL_law_844 : decode cL_law 844 = .ok (.invokevirtual 92, 3) := by decide +kernel
theorem dL_law_847 : decode cL_law 847 = .ok (.if_icmp .eq 421, 3) := by decide +kernel
theorem dL_law_850 : decode cL_law 850 = .ok (.iconst 0, 1) := by decide +kernel
theorem dL_law_851 : decode cL_law 851 = .ok (.ireturn, 1) := by decide +kernel
theorem dL_law_852 : decode cL_law 852 = .ok (.aload_n 1, 1) := by decide +kernel
theorem dL_law_853 : decode cL_law 853 = .ok (.aload_n 0, 1) := by decide +kernel
theorem dL_law_854 : decode cL_law 854 = .ok (.iload_n 3, 1) := by decide +kernel
theorem dL_law_855 : decode cL_law 855 = .ok (.iconst 1, 1) := by decide +kernel
theorem dL_law_856 : decode cL_law 856 = .ok (.iadd, 1) := by decide +kernel
theorem dL_law_857 : decode cL_law 857 = .ok (.iaload, 1) := by decide +kernel
theorem dL_law_858 : decode cL_law 858 = .ok (.aload_n 0, 1) := by decide +kernel
theorem dL_law_859 : decode cL_law 859 = .ok (.iload_n 3, 1) := by decide +kernel
theorem dL_law_860 : decode cL_law 860 = .ok (.iconst 2, 1) := by decide +kernel
theorem dL_law_861 : decode cL_law 861 = .ok (.iadd, 1) := by decide +kernel
theorem dL_law_862 : decode cL_law 862 = .ok (.iaload, 1) := by decide +kernel
theorem dL_law_863 : decode cL_law 863 = .ok (.aload_n 0, 1) := by decide +kernel
theorem dL_law_864 : decode cL_law 864 = .ok (.iload_n 3, 1) := by decide +kernel
theorem dL_law_865 : decode cL_law 865 = .ok (.iconst 3, 1) := by decide +kernel
theorem dL_law_866 : decode cL_law 866 = .ok (.iadd, 1) := by decide +kernel
theorem dL_law_867 : decode cL_law 867 = .ok (.iaload, 1) := by decide +kernel
theorem dL_law_868 : decode cL_law 868 = .ok (.invokevirtual 93, 3) := by decide +kernel
theorem dL_law_871 : decode cL_law 871 = .ok (.aload_n 2, 1) := by decide +kernel
theorem dL_law_872 : decode cL_law 872 = .ok (.aload_n 0, 1) := by decide +kernel
theorem dL_law_873 : decode cL_law 873 = .ok (.iload_n 3, 1) := by decide +kernel
theorem dL_law_874 : decode cL_law 874 = .ok (.iconst 1, 1) := by decide +kernel
theorem dL_law_875 : decode cL_law 875 = .ok (.iadd, 1) := by decide +kernel
theorem dL_law_876 : decode cL_law 876 = .ok (.iaload, 1) := by decide +kernel
theorem dL_law_877 : decode cL_law 877 = .ok (.aload_n 0, 1) := by decide +kernel
theorem dL_law_878 : decode cL_law 878 = .ok (.iload_n 3, 1) := by decide +kernel
theorem dL_law_879 : decode cL_law 879 = .ok (.iconst 2, 1) := by decide +kernel
theorem dL_law_880 : decode cL_law 880 = .ok (.iadd, 1) := by decide +kernel
theorem dL_law_881 : decode cL_law 881 = .ok (.iaload, 1) := by decide +kernel
theorem dL_law_882 : decode cL_law 882 = .ok (.aload_n 0, 1) := by decide +kernel
theorem dL_law_883 : decode cL_law 883 = .ok (.iload_n 3, 1) := by decide +kernel
theorem dL_law_884 : decode cL_law 884 = .ok (.iconst 3, 1) := by decide +kernel
theorem dL_law_885 : decode cL_law 885 = .ok (.iadd, 1) := by decide +kernel
theorem dL_law_886 : decode cL_law 886 = .ok (.iaload, 1) := by decide +kernel
theorem dL_law_887 : decode cL_law 887 = .ok (.invokevirtual 96, 3) := by decide +kernel
theorem dL_law_890 : decode cL_law 890 = .ok (.if_icmp .eq 378, 3) := by decide +kernel
theorem dL_law_893 : decode cL_law 893 = .ok (.iconst 0, 1) := by decide +kernel
theorem dL_law_894 : decode cL_law 894 = .ok (.ireturn, 1) := by decide +kernel
theorem dL_law_895 : decode cL_law 895 = .ok (.aload_n 1, 1) := by decide +kernel
theorem dL_law_896 : decode cL_law 896 = .ok (.aload_n 0, 1) := by decide +kernel
theorem dL_law_897 : decode cL_law 897 = .ok (.iload_n 3, 1) := by decide +kernel
theorem dL_law_898 : decode cL_law 898 = .ok (.iconst 1, 1) := by decide +kernel
theorem dL_law_899 : decode cL_law 899 = .ok (.iadd, 1) := by decide +kernel
theorem dL_law_900 : decode cL_law 900 = .ok (.iaload, 1) := by decide +kernel
theorem dL_law_901 : decode cL_law 901 = .ok (.aload_n 0, 1) := by decide +kernel
theorem dL_law_902 : decode cL_law 902 = .ok (.iload_n 3, 1) := by decide +kernel
theorem dL_law_903 : decode cL_law 903 = .ok (.iconst 2, 1) := by decide +kernel
theorem dL_law_904 : decode cL_law 904 = .ok (.iadd, 1) := by decide +kernel
theorem dL_law_905 : decode cL_law 905 = .ok (.iaload, 1) := by decide +kernel
theorem dL_law_906 : decode cL_law 906 = .ok (.invokevirtual 97, 3) := by decide +kernel
theorem dL_law_909 : decode cL_law 909 = .ok (.aload_n 2, 1) := by decide +kernel
theorem dL_law_910 : decode cL_law 910 = .ok (.aload_n 0, 1) := by decide +kernel
theorem dL_law_911 : decode cL_law 911 = .ok (.iload_n 3, 1) := by decide +kernel
theorem dL_law_912 : decode cL_law 912 = .ok (.iconst 1, 1) := by decide +kernel
theorem dL_law_913 : decode cL_law 913 = .ok (.iadd, 1) := by decide +kernel
theorem dL_law_914 : decode cL_law 914 = .ok (.iaload, 1) := by decide +kernel
theorem dL_law_915 : decode cL_law 915 = .ok (.aload_n 0, 1) := by decide +kernel
theorem dL_law_916 : decode cL_law 916 = .ok (.iload_n 3, 1) := by decide +kernel
theorem dL_law_917 : decode cL_law 917 = .ok (.iconst 2, 1) := by decide +kernel
theorem dL_law_918 : decode cL_law 918 = .ok (.iadd, 1) := by decide +kernel
theorem dL_law_919 : decode cL_law 919 = .ok (.iaload, 1) := by decide +kernel
theorem dL_law_920 : decode cL_law 920 = .ok (.invokevirtual 100, 3) := by decide +kernel
theorem dL_law_923 : decode cL_law 923 = .ok (.if_icmp .eq 345, 3) := by decide +kernel
theorem dL_law_926 : decode cL_law 926 = .ok (.iconst 0, 1) := by decide +kernel
theorem dL_law_927 : decode cL_law 927 = .ok (.ireturn, 1) := by decide +kernel
theorem dL_law_928 : decode cL_law 928 = .ok (.aload_n 1, 1) := by decide +kernel
theorem dL_law_929 : decode cL_law 929 = .ok (.aload_n 0, 1) := by decide +kernel
theorem dL_law_930 : decode cL_law 930 = .ok (.iload_n 3, 1) := by decide +kernel
theorem dL_law_931 : decode cL_law 931 = .ok (.iconst 1, 1) := by decide +kernel
theorem dL_law_932 : decode cL_law 932 = .ok (.iadd, 1) := by decide +kernel
theorem dL_law_933 : decode cL_law 933 = .ok (.iaload, 1) := by decide +kernel
theorem dL_law_934 : decode cL_law 934 = .ok (.aload_n 0, 1) := by decide +kernel
theorem dL_law_935 : decode cL_law 935 = .ok (.iload_n 3, 1) := by decide +kernel
theorem dL_law_936 : decode cL_law 936 = .ok (.iconst 2, 1) := by decide +kernel
theorem dL_law_937 : decode cL_law 937 = .ok (.iadd, 1) := by decide +kernel
theorem dL_law_938 : decode cL_law 938 = .ok (.iaload, 1) := by decide +kernel
theorem dL_law_939 : decode cL_law 939 = .ok (.invokevirtual 101, 3) := by decide +kernel
theorem dL_law_942 : decode cL_law 942 = .ok (.aload_n 2, 1) := by decide +kernel
theorem dL_law_943 : decode cL_law 943 = .ok (.aload_n 0, 1) := by decide +kernel
theorem dL_law_944 : decode cL_law 944 = .ok (.iload_n 3, 1) := by decide +kernel
theorem dL_law_945 : decode cL_law 945 = .ok (.iconst 1, 1) := by decide +kernel
theorem dL_law_946 : decode cL_law 946 = .ok (.iadd, 1) := by decide +kernel
theorem dL_law_947 : decode cL_law 947 = .ok (.iaload, 1) := by decide +kernel
theorem dL_law_948 : decode cL_law 948 = .ok (.aload_n 0, 1) := by decide +kernel
theorem dL_law_949 : decode cL_law 949 = .ok (.iload_n 3, 1) := by decide +kernel
theorem dL_law_950 : decode cL_law 950 = .ok (.iconst 2, 1) := by decide +kernel
theorem dL_law_951 : decode cL_law 951 = .ok (.iadd, 1) := by decide +kernel
theorem dL_law_952 : decode cL_law 952 = .ok (.iaload, 1) := by decide +kernel
theorem dL_law_953 : decode cL_law 953 = .ok (.invokevirtual 104, 3) := by decide +kernel
theorem dL_law_956 : decode cL_law 956 = .ok (.if_icmp .eq 312, 3) := by decide +kernel
theorem dL_law_959 : decode cL_law 959 = .ok (.iconst 0, 1) := by decide +kernel
theorem dL_law_960 : decode cL_law 960 = .ok (.ireturn, 1) := by decide +kernel
theorem dL_law_961 : decode cL_law 961 = .ok (.aload_n 1, 1) := by decide +kernel
theorem dL_law_962 : decode cL_law 962 = .ok (.aload_n 0, 1) := by decide +kernel
theorem dL_law_963 : decode cL_law 963 = .ok (.iload_n 3, 1) := by decide +kernel
theorem dL_law_964 : decode cL_law 964 = .ok (.iconst 1, 1) := by decide +kernel
theorem dL_law_965 : decode cL_law 965 = .ok (.iadd, 1) := by decide +kernel
theorem dL_law_966 : decode cL_law 966 = .ok (.iaload, 1) := by decide +kernel
theorem dL_law_967 : decode cL_law 967 = .ok (.aload_n 0, 1) := by decide +kernel
theorem dL_law_968 : decode cL_law 968 = .ok (.iload_n 3, 1) := by decide +kernel
theorem dL_law_969 : decode cL_law 969 = .ok (.iconst 2, 1) := by decide +kernel
theorem dL_law_970 : decode cL_law 970 = .ok (.iadd, 1) := by decide +kernel
theorem dL_law_971 : decode cL_law 971 = .ok (.iaload, 1) := by decide +kernel
theorem dL_law_972 : decode cL_law 972 = .ok (.invokevirtual 105, 3) := by decide +kernel
theorem dL_law_975 : decode cL_law 975 = .ok (.aload_n 2, 1) := by decide +kernel
theorem dL_law_976 : decode cL_law 976 = .ok (.aload_n 0, 1) := by decide +kernel
theorem dL_law_977 : decode cL_law 977 = .ok (.iload_n 3, 1) := by decide +kernel
theorem dL_law_978 : decode cL_law 978 = .ok (.iconst 1, 1) := by decide +kernel
theorem dL_law_979 : decode cL_law 979 = .ok (.iadd, 1) := by decide +kernel
theorem dL_law_980 : decode cL_law 980 = .ok (.iaload, 1) := by decide +kernel
theorem dL_law_981 : decode cL_law 981 = .ok (.aload_n 0, 1) := by decide +kernel
theorem dL_law_982 : decode cL_law 982 = .ok (.iload_n 3, 1) := by decide +kernel
theorem dL_law_983 : decode cL_law 983 = .ok (.iconst 2, 1) := by decide +kernel
theorem dL_law_984 : decode cL_law 984 = .ok (.iadd, 1) := by decide +kernel
theorem dL_law_985 : decode cL_law 985 = .ok (.iaload, 1) := by decide +kernel
theorem dL_law_986 : decode cL_law 986 = .ok (.invokevirtual 108, 3) := by decide +kernel
theorem dL_law_989 : decode cL_law 989 = .ok (.if_icmp .eq 279, 3) := by decide +kernel
theorem dL_law_992 : decode cL_law 992 = .ok (.iconst 0, 1) := by decide +kernel
theorem dL_law_993 : decode cL_law 993 = .ok (.ireturn, 1) := by decide +kernel
theorem dL_law_994 : decode cL_law 994 = .ok (.aload_n 1, 1) := by decide +kernel
theorem dL_law_995 : decode cL_law 995 = .ok (.aload_n 0, 1) := by decide +kernel
theorem dL_law_996 : decode cL_law 996 = .ok (.iload_n 3, 1) := by decide +kernel
theorem dL_law_997 : decode cL_law 997 = .ok (.iconst 1, 1) := by decide +kernel
theorem dL_law_998 : decode cL_law 998 = .ok (.iadd, 1) := by decide +kernel
theorem dL_law_999 : decode cL_law 999 = .ok (.iaload, 1) := by decide +kernel
theorem dL_law_1000 : decode cL_law 1000 = .ok (.aload_n 0, 1) := by decide +kernel
theorem dL_law_1001 : decode cL_law 1001 = .ok (.iload_n 3, 1) := by decide +kernel
theorem dL_law_1002 : decode cL_law 1002 = .ok (.iconst 2, 1) := by decide +kernel
theorem dL_law_1003 : decode cL_law 1003 = .ok (.iadd, 1) := by decide +kernel
theorem dL_law_1004 : decode cL_law 1004 = .ok (.iaload, 1) := by decide +kernel
theorem dL_law_1005 : decode cL_law 1005 = .ok (.aload_n 0, 1) := by decide +kernel
theorem dL_law_1006 : decode cL_law 1006 = .ok (.iload_n 3, 1) := by decide +kernel
theorem dL_law_1007 : decode cL_law 1007 = .ok (.iconst 3, 1) := by decide +kernel
theorem dL_law_1008 : decode cL_law 1008 = .ok (.iadd, 1) := by decide +kernel
theorem dL_law_1009 : decode cL_law 1009 = .ok (.iaload, 1) := by decide +kernel
theorem dL_law_1010 : decode cL_law 1010 = .ok (.invokevirtual 109, 3) := by decide +kernel
theorem dL_law_1013 : decode cL_law 1013 = .ok (.aload_n 2, 1) := by decide +kernel
theorem dL_law_1014 : decode cL_law 1014 = .ok (.aload_n 0, 1) := by decide +kernel
theorem dL_law_1015 : decode cL_law 1015 = .ok (.iload_n 3, 1) := by decide +kernel
theorem dL_law_1016 : decode cL_law 1016 = .ok (.iconst 1, 1) := by decide +kernel
theorem dL_law_1017 : decode cL_law 1017 = .ok (.iadd, 1) := by decide +kernel
theorem dL_law_1018 : decode cL_law 1018 = .ok (.iaload, 1) := by decide +kernel
theorem dL_law_1019 : decode cL_law 1019 = .ok (.aload_n 0, 1) := by decide +kernel
theorem dL_law_1020 : decode cL_law 1020 = .ok (.iload_n 3, 1) := by decide +kernel
theorem dL_law_1021 : decode cL_law 1021 = .ok (.iconst 2, 1) := by decide +kernel
theorem dL_law_1022 : decode cL_law 1022 = .ok (.iadd, 1) := by decide +kernel
theorem dL_law_1023 : decode cL_law 1023 = .ok (.iaload, 1) := by decide +kernel
theorem dL_law_1024 : decode cL_law 1024 = .ok (.aload_n 0, 1) := by decide +kernel
theorem dL_law_1025 : decode cL_law 1025 = .ok (.iload_n 3, 1) := by decide +kernel
theorem dL_law_1026 : decode cL_law 1026 = .ok (.iconst 3, 1) := by decide +kernel
theorem dL_law_1027 : decode cL_law 1027 = .ok (.iadd, 1) := by decide +kernel
theorem dL_law_1028 : decode cL_law 1028 = .ok (.iaload, 1) := by decide +kernel
theorem dL_law_1029 : decode cL_law 1029 = .ok (.invokevirtual 112, 3) := by decide +kernel
theorem dL_law_1032 : decode cL_law 1032 = .ok (.if_icmp .eq 236, 3) := by decide +kernel
theorem dL_law_1035 : decode cL_law 1035 = .ok (.iconst 0, 1) := by decide +kernel
theorem dL_law_1036 : decode cL_law 1036 = .ok (.ireturn, 1) := by decide +kernel
theorem dL_law_1037 : decode cL_law 1037 = .ok (.aload_n 1, 1) := by decide +kernel
theorem dL_law_1038 : decode cL_law 1038 = .ok (.aload_n 0, 1) := by decide +kernel
theorem dL_law_1039 : decode cL_law 1039 = .ok (.iload_n 3, 1) := by decide +kernel
theorem dL_law_1040 : decode cL_law 1040 = .ok (.iconst 1, 1) := by decide +kernel
theorem dL_law_1041 : decode cL_law 1041 = .ok (.iadd, 1) := by decide +kernel
theorem dL_law_1042 : decode cL_law 1042 = .ok (.iaload, 1) := by decide +kernel
theorem dL_law_1043 : decode cL_law 1043 = .ok (.aload_n 0, 1) := by decide +kernel
theorem dL_law_1044 : decode cL_law 1044 = .ok (.iload_n 3, 1) := by decide +kernel
theorem dL_law_1045 : decode cL_law 1045 = .ok (.iconst 2, 1) := by decide +kernel
theorem dL_law_1046 : decode cL_law 1046 = .ok (.iadd, 1) := by decide +kernel
theorem dL_law_1047 : decode cL_law 1047 = .ok (.iaload, 1) := by decide +kernel
theorem dL_law_1048 : decode cL_law 1048 = .ok (.invokevirtual 113, 3) := by decide +kernel
theorem dL_law_1051 : decode cL_law 1051 = .ok (.aload_n 2, 1) := by decide +kernel
theorem dL_law_1052 : decode cL_law 1052 = .ok (.aload_n 0, 1) := by decide +kernel
theorem dL_law_1053 : decode cL_law 1053 = .ok (.iload_n 3, 1) := by decide +kernel
theorem dL_law_1054 : decode cL_law 1054 = .ok (.iconst 1, 1) := by decide +kernel
theorem dL_law_1055 : decode cL_law 1055 = .ok (.iadd, 1) := by decide +kernel
theorem dL_law_1056 : decode cL_law 1056 = .ok (.iaload, 1) := by decide +kernel
theorem dL_law_1057 : decode cL_law 1057 = .ok (.aload_n 0, 1) := by decide +kernel
theorem dL_law_1058 : decode cL_law 1058 = .ok (.iload_n 3, 1) := by decide +kernel
theorem dL_law_1059 : decode cL_law 1059 = .ok (.iconst 2, 1) := by decide +kernel
theorem dL_law_1060 : decode cL_law 1060 = .ok (.iadd, 1) := by decide +kernel
theorem dL_law_1061 : decode cL_law 1061 = .ok (.iaload, 1) := by decide +kernel
theorem dL_law_1062 : decode cL_law 1062 = .ok (.invokevirtual 116, 3) := by decide +kernel
theorem dL_law_1065 : decode cL_law 1065 = .ok (.if_icmp .eq 203, 3) := by decide +kernel
theorem dL_law_1068 : decode cL_law 1068 = .ok (.iconst 0, 1) := by decide +kernel
theorem dL_law_1069 : decode cL_law 1069 = .ok (.ireturn, 1) := by decide +kernel
theorem dL_law_1070 : decode cL_law 1070 = .ok (.aload_n 1, 1) := by decide +kernel
theorem dL_law_1071 : decode cL_law 1071 = .ok (.aload_n 0, 1) := by decide +kernel
theorem dL_law_1072 : decode cL_law 1072 = .ok (.iload_n 3, 1) := by decide +kernel
theorem dL_law_1073 : decode cL_law 1073 = .ok (.iconst 1, 1) := by decide +kernel
theorem dL_law_1074 : decode cL_law 1074 = .ok (.iadd, 1) := by decide +kernel
theorem dL_law_1075 : decode cL_law 1075 = .ok (.iaload, 1) := by decide +kernel
theorem dL_law_1076 : decode cL_law 1076 = .ok (.aload_n 0, 1) := by decide +kernel
theorem dL_law_1077 : decode cL_law 1077 = .ok (.iload_n 3, 1) := by decide +kernel
theorem dL_law_1078 : decode cL_law 1078 = .ok (.iconst 2, 1) := by decide +kernel
theorem dL_law_1079 : decode cL_law 1079 = .ok (.iadd, 1) := by decide +kernel
theorem dL_law_1080 : decode cL_law 1080 = .ok (.iaload, 1) := by decide +kernel
theorem dL_law_1081 : decode cL_law 1081 = .ok (.invokevirtual 117, 3) := by decide +kernel
theorem dL_law_1084 : decode cL_law 1084 = .ok (.aload_n 2, 1) := by decide +kernel
theorem dL_law_1085 : decode cL_law 1085 = .ok (.aload_n 0, 1) := by decide +kernel
theorem dL_law_1086 : decode cL_law 1086 = .ok (.iload_n 3, 1) := by decide +kernel
theorem dL_law_1087 : decode cL_law 1087 = .ok (.iconst 1, 1) := by decide +kernel
theorem dL_law_1088 : decode cL_law 1088 = .ok (.iadd, 1) := by decide +kernel
theorem dL_law_1089 : decode cL_law 1089 = .ok (.iaload, 1) := by decide +kernel
theorem dL_law_1090 : decode cL_law 1090 = .ok (.aload_n 0, 1) := by decide +kernel
theorem dL_law_1091 : decode cL_law 1091 = .ok (.iload_n 3, 1) := by decide +kernel
theorem dL_law_1092 : decode cL_law 1092 = .ok (.iconst 2, 1) := by decide +kernel
theorem dL_law_1093 : decode cL_law 1093 = .ok (.iadd, 1) := by decide +kernel
theorem dL_law_1094 : decode cL_law 1094 = .ok (.iaload, 1) := by decide +kernel
theorem dL_law_1095 : decode cL_law 1095 = .ok (.invokevirtual 120, 3) := by decide +kernel
theorem dL_law_1098 : decode cL_law 1098 = .ok (.if_icmp .eq 170, 3) := by decide +kernel
theorem dL_law_1101 : decode cL_law 1101 = .ok (.iconst 0, 1) := by decide +kernel
theorem dL_law_1102 : decode cL_law 1102 = .ok (.ireturn, 1) := by decide +kernel
theorem dL_law_1103 : decode cL_law 1103 = .ok (.aload_n 1, 1) := by decide +kernel
theorem dL_law_1104 : decode cL_law 1104 = .ok (.aload_n 0, 1) := by decide +kernel
theorem dL_law_1105 : decode cL_law 1105 = .ok (.iload_n 3, 1) := by decide +kernel
theorem dL_law_1106 : decode cL_law 1106 = .ok (.iconst 1, 1) := by decide +kernel
theorem dL_law_1107 : decode cL_law 1107 = .ok (.iadd, 1) := by decide +kernel
theorem dL_law_1108 : decode cL_law 1108 = .ok (.iaload, 1) := by decide +kernel
theorem dL_law_1109 : decode cL_law 1109 = .ok (.aload_n 0, 1) := by decide +kernel
theorem dL_law_1110 : decode cL_law 1110 = .ok (.iload_n 3, 1) := by decide +kernel
theorem dL_law_1111 : decode cL_law 1111 = .ok (.iconst 2, 1) := by decide +kernel
theorem dL_law_1112 : decode cL_law 1112 = .ok (.iadd, 1) := by decide +kernel
theorem dL_law_1113 : decode cL_law 1113 = .ok (.iaload, 1) := by decide +kernel
theorem dL_law_1114 : decode cL_law 1114 = .ok (.aload_n 0, 1) := by decide +kernel
theorem dL_law_1115 : decode cL_law 1115 = .ok (.iload_n 3, 1) := by decide +kernel
theorem dL_law_1116 : decode cL_law 1116 = .ok (.iconst 3, 1) := by decide +kernel
theorem dL_law_1117 : decode cL_law 1117 = .ok (.iadd, 1) := by decide +kernel
theorem dL_law_1118 : decode cL_law 1118 = .ok (.iaload, 1) := by decide +kernel
theorem dL_law_1119 : decode cL_law 1119 = .ok (.invokevirtual 121, 3) := by decide +kernel
theorem dL_law_1122 : decode cL_law 1122 = .ok (.aload_n 2, 1) := by decide +kernel
theorem dL_law_1123 : decode cL_law 1123 = .ok (.aload_n 0, 1) := by decide +kernel
theorem dL_law_1124 : decode cL_law 1124 = .ok (.iload_n 3, 1) := by decide +kernel
theorem dL_law_1125 : decode cL_law 1125 = .ok (.iconst 1, 1) := by decide +kernel
theorem dL_law_1126 : decode cL_law 1126 = .ok (.iadd, 1) := by decide +kernel
theorem dL_law_1127 : decode cL_law 1127 = .ok (.iaload, 1) := by decide +kernel
theorem dL_law_1128 : decode cL_law 1128 = .ok (.aload_n 0, 1) := by decide +kernel
theorem dL_law_1129 : decode cL_law 1129 = .ok (.iload_n 3, 1) := by decide +kernel
theorem dL_law_1130 : decode cL_law 1130 = .ok (.iconst 2, 1) := by decide +kernel
theorem dL_law_1131 : decode cL_law 1131 = .ok (.iadd, 1) := by decide +kernel
theorem dL_law_1132 : decode cL_law 1132 = .ok (.iaload, 1) := by decide +kernel
theorem dL_law_1133 : decode cL_law 1133 = .ok (.aload_n 0, 1) := by decide +kernel
theorem dL_law_1134 : decode cL_law 1134 = .ok (.iload_n 3, 1) := by decide +kernel
theorem dL_law_1135 : decode cL_law 1135 = .ok (.iconst 3, 1) := by decide +kernel
theorem dL_law_1136 : decode cL_law 1136 = .ok (.iadd, 1) := by decide +kernel
theorem dL_law_1137 : decode cL_law 1137 = .ok (.iaload, 1) := by decide +kernel
theorem dL_law_1138 : decode cL_law 1138 = .ok (.invokevirtual 124, 3) := by decide +kernel
theorem dL_law_1141 : decode cL_law 1141 = .ok (.if_icmp .eq 127, 3) := by decide +kernel
theorem dL_law_1144 : decode cL_law 1144 = .ok (.iconst 0, 1) := by decide +kernel
theorem dL_law_1145 : decode cL_law 1145 = .ok (.ireturn, 1) := by decide +kernel
theorem dL_law_1146 : decode cL_law 1146 = .ok (.aload_n 1, 1) := by decide +kernel
theorem dL_law_1147 : decode cL_law 1147 = .ok (.aload_n 0, 1) := by decide +kernel
theorem dL_law_1148 : decode cL_law 1148 = .ok (.iload_n 3, 1) := by decide +kernel
theorem dL_law_1149 : decode cL_law 1149 = .ok (.iconst 1, 1) := by decide +kernel
theorem dL_law_1150 : decode cL_law 1150 = .ok (.iadd, 1) := by decide +kernel
theorem dL_law_1151 : decode cL_law 1151 = .ok (.iaload, 1) := by decide +kernel
theorem dL_law_1152 : decode cL_law 1152 = .ok (.aload_n 0, 1) := by decide +kernel
theorem dL_law_1153 : decode cL_law 1153 = .ok (.iload_n 3, 1) := by decide +kernel
theorem dL_law_1154 : decode cL_law 1154 = .ok (.iconst 2, 1) := by decide +kernel
theorem dL_law_1155 : decode cL_law 1155 = .ok (.iadd, 1) := by decide +kernel
theorem dL_law_1156 : decode cL_law 1156 = .ok (.iaload, 1) := by decide +kernel
theorem dL_law_1157 : decode cL_law 1157 = .ok (.invokevirtual 125, 3) := by decide +kernel
theorem dL_law_1160 : decode cL_law 1160 = .ok (.aload_n 2, 1) := by decide +kernel
theorem dL_law_1161 : decode cL_law 1161 = .ok (.aload_n 0, 1) := by decide +kernel
theorem dL_law_1162 : decode cL_law 1162 = .ok (.iload_n 3, 1) := by decide +kernel
theorem dL_law_1163 : decode cL_law 1163 = .ok (.iconst 1, 1) := by decide +kernel
theorem dL_law_1164 : decode cL_law 1164 = .ok (.iadd, 1) := by decide +kernel
theorem dL_law_1165 : decode cL_law 1165 = .ok (.iaload, 1) := by decide +kernel
theorem dL_law_1166 : decode cL_law 1166 = .ok (.aload_n 0, 1) := by decide +kernel
theorem dL_law_1167 : decode cL_law 1167 = .ok (.iload_n 3, 1) := by decide +kernel
theorem dL_law_1168 : decode cL_law 1168 = .ok (.iconst 2, 1) := by decide +kernel
theorem dL_law_1169 : decode cL_law 1169 = .ok (.iadd, 1) := by decide +kernel
theorem dL_law_1170 : decode cL_law 1170 = .ok (.iaload, 1) := by decide +kernel
theorem dL_law_1171 : decode cL_law 1171 = .ok (.invokevirtual 128, 3) := by decide +kernel
theorem dL_law_1174 : decode cL_law 1174 = .ok (.if_icmp .eq 94, 3) := by decide +kernel
theorem dL_law_1177 : decode cL_law 1177 = .ok (.iconst 0, 1) := by decide +kernel
theorem dL_law_1178 : decode cL_law 1178 = .ok (.ireturn, 1) := by decide +kernel
theorem dL_law_1179 : decode cL_law 1179 = .ok (.aload_n 1, 1) := by decide +kernel
theorem dL_law_1180 : decode cL_law 1180 = .ok (.aload_n 0, 1) := by decide +kernel
theorem dL_law_1181 : decode cL_law 1181 = .ok (.iload_n 3, 1) := by decide +kernel
theorem dL_law_1182 : decode cL_law 1182 = .ok (.iconst 1, 1) := by decide +kernel
theorem dL_law_1183 : decode cL_law 1183 = .ok (.iadd, 1) := by decide +kernel
theorem dL_law_1184 : decode cL_law 1184 = .ok (.iaload, 1) := by decide +kernel
theorem dL_law_1185 : decode cL_law 1185 = .ok (.invokevirtual 129, 3) := by decide +kernel
theorem dL_law_1188 : decode cL_law 1188 = .ok (.aload_n 2, 1) := by decide +kernel
theorem dL_law_1189 : decode cL_law 1189 = .ok (.aload_n 0, 1) := by decide +kernel
theorem dL_law_1190 : decode cL_law 1190 = .ok (.iload_n 3, 1) := by decide +kernel
theorem dL_law_1191 : decode cL_law 1191 = .ok (.iconst 1, 1) := by decide +kernel
theorem dL_law_1192 : decode cL_law 1192 = .ok (.iadd, 1) := by decide +kernel
theorem dL_law_1193 : decode cL_law 1193 = .ok (.iaload, 1) := by decide +kernel
theorem dL_law_1194 : decode cL_law 1194 = .ok (.invokevirtual 132, 3) := by decide +kernel
theorem dL_law_1197 : decode cL_law 1197 = .ok (.if_icmp .eq 71, 3) := by decide +kernel
theorem dL_law_1200 : decode cL_law 1200 = .ok (.iconst 0, 1) := by decide +kernel
theorem dL_law_1201 : decode cL_law 1201 = .ok (.ireturn, 1) := by decide +kernel
theorem dL_law_1202 : decode cL_law 1202 = .ok (.aload_n 1, 1) := by decide +kernel
theorem dL_law_1203 : decode cL_law 1203 = .ok (.aload_n 0, 1) := by decide +kernel
theorem dL_law_1204 : decode cL_law 1204 = .ok (.iload_n 3, 1) := by decide +kernel
theorem dL_law_1205 : decode cL_law 1205 = .ok (.iconst 1, 1) := by decide +kernel
theorem dL_law_1206 : decode cL_law 1206 = .ok (.iadd, 1) := by decide +kernel
theorem dL_law_1207 : decode cL_law 1207 = .ok (.iaload, 1) := by decide +kernel
theorem dL_law_1208 : decode cL_law 1208 = .ok (.aload_n 0, 1) := by decide +kernel
theorem dL_law_1209 : decode cL_law 1209 = .ok (.iload_n 3, 1) := by decide +kernel
theorem dL_law_1210 : decode cL_law 1210 = .ok (.iconst 2, 1) := by decide +kernel
theorem dL_law_1211 : decode cL_law 1211 = .ok (.iadd, 1) := by decide +kernel
theorem dL_law_1212 : decode cL_law 1212 = .ok (.iaload, 1) := by decide +kernel
theorem dL_law_1213 : decode cL_law 1213 = .ok (.aload_n 0, 1) := by decide +kernel
theorem dL_law_1214 : decode cL_law 1214 = .ok (.iload_n 3, 1) := by decide +kernel
theorem dL_law_1215 : decode cL_law 1215 = .ok (.iconst 3, 1) := by decide +kernel
theorem dL_law_1216 : decode cL_law 1216 = .ok (.iadd, 1) := by decide +kernel
theorem dL_law_1217 : decode cL_law 1217 = .ok (.iaload, 1) := by decide +kernel
theorem dL_law_1218 : decode cL_law 1218 = .ok (.invokevirtual 133, 3) := by decide +kernel
theorem dL_law_1221 : decode cL_law 1221 = .ok (.aload_n 2, 1) := by decide +kernel
theorem dL_law_1222 : decode cL_law 1222 = .ok (.aload_n 0, 1) := by decide +kernel
theorem dL_law_1223 : decode cL_law 1223 = .ok (.iload_n 3, 1) := by decide +kernel
theorem dL_law_1224 : decode cL_law 1224 = .ok (.iconst 1, 1) := by decide +kernel
theorem dL_law_1225 : decode cL_law 1225 = .ok (.iadd, 1) := by decide +kernel
theorem dL_law_1226 : decode cL_law 1226 = .ok (.iaload, 1) := by decide +kernel
theorem dL_law_1227 : decode cL_law 1227 = .ok (.aload_n 0, 1) := by decide +kernel
theorem dL_law_1228 : decode cL_law 1228 = .ok (.iload_n 3, 1) := by decide +kernel
theorem dL_law_1229 : decode cL_law 1229 = .ok (.iconst 2, 1) := by decide +kernel
theorem dL_law_1230 : decode cL_law 1230 = .ok (.iadd, 1) := by decide +kernel
theorem dL_law_1231 : decode cL_law 1231 = .ok (.iaload, 1) := by decide +kernel
theorem dL_law_1232 : decode cL_law 1232 = .ok (.aload_n 0, 1) := by decide +kernel
theorem dL_law_1233 : decode cL_law 1233 = .ok (.iload_n 3, 1) := by decide +kernel
theorem dL_law_1234 : decode cL_law 1234 = .ok (.iconst 3, 1) := by decide +kernel
theorem dL_law_1235 : decode cL_law 1235 = .ok (.iadd, 1) := by decide +kernel
theorem dL_law_1236 : decode cL_law 1236 = .ok (.iaload, 1) := by decide +kernel
theorem dL_law_1237 : decode cL_law 1237 = .ok (.invokevirtual 136, 3) := by decide +kernel
theorem dL_law_1240 : decode cL_law 1240 = .ok (.if_icmp .eq 28, 3) := by decide +kernel
theorem dL_law_1243 : decode cL_law 1243 = .ok (.iconst 0, 1) := by decide +kernel
theorem dL_law_1244 : decode cL_law 1244 = .ok (.ireturn, 1) := by decide +kernel
theorem dL_law_1245 : decode cL_law 1245 = .ok (.aload_n 1, 1) := by decide +kernel
theorem dL_law_1246 : decode cL_law 1246 = .ok (.aload_n 0, 1) := by decide +kernel
theorem dL_law_1247 : decode cL_law 1247 = .ok (.iload_n 3, 1) := by decide +kernel
theorem dL_law_1248 : decode cL_law 1248 = .ok (.iconst 1, 1) := by decide +kernel
theorem dL_law_1249 : decode cL_law 1249 = .ok (.iadd, 1) := by decide +kernel
theorem dL_law_1250 : decode cL_law 1250 = .ok (.iaload, 1) := by decide +kernel
theorem dL_law_1251 : decode cL_law 1251 = .ok (.invokevirtual 137, 3) := by decide +kernel
theorem dL_law_1254 : decode cL_law 1254 = .ok (.aload_n 2, 1) := by decide +kernel
theorem dL_law_1255 : decode cL_law 1255 = .ok (.aload_n 0, 1) := by decide +kernel
theorem dL_law_1256 : decode cL_law 1256 = .ok (.iload_n 3, 1) := by decide +kernel
theorem dL_law_1257 : decode cL_law 1257 = .ok (.iconst 1, 1) := by decide +kernel
theorem dL_law_1258 : decode cL_law 1258 = .ok (.iadd, 1) := by decide +kernel
theorem dL_law_1259 : decode cL_law 1259 = .ok (.iaload, 1) := by decide +kernel
theorem dL_law_1260 : decode cL_law 1260 = .ok (.invokevirtual 140, 3) := by decide +kernel
theorem dL_law_1263 : decode cL_law 1263 = .ok (.if_icmp .eq 5, 3) := by decide +kernel
theorem dL_law_1266 : decode cL_law 1266 = .ok (.iconst 0, 1) := by decide +kernel
theorem dL_law_1267 : decode cL_law 1267 = .ok (.ireturn, 1) := by decide +kernel
theorem dL_law_1268 : decode cL_law 1268 = .ok (.iinc 3 5, 3) := by decide +kernel
theorem dL_law_1271 : decode cL_law 1271 = .ok (.goto (-1253), 3) := by decide +kernel
theorem dL_law_1274 : decode cL_law 1274 = .ok (.iconst 1, 1) := by decide +kernel
theorem dL_law_1275 : decode cL_law 1275 = .ok (.ireturn, 1) := by decide +kernel
