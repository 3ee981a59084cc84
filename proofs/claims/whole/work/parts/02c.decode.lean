theorem dX12_tells_45 : decode cX12_tells 45 = .ok (.getfield 269, 3) := by decide +kernel
theorem dX12_tells_48 : decode cX12_tells 48 = .ok (.imul, 1) := by decide +kernel
theorem dX12_tells_49 : decode cX12_tells 49 = .ok (.iload_n 3, 1) := by decide +kernel
theorem dX12_tells_50 : decode cX12_tells 50 = .ok (.iadd, 1) := by decide +kernel
theorem dX12_tells_51 : decode cX12_tells 51 = .ok (.iaload, 1) := by decide +kernel
theorem dX12_tells_52 : decode cX12_tells 52 = .ok (.invokevirtual 297, 3) := by decide +kernel
theorem dX12_tells_55 : decode cX12_tells 55 = .ok (.ifCond .eq 7, 3) := by decide +kernel
theorem dX12_tells_58 : decode cX12_tells 58 = .ok (.iconst 1, 1) := by decide +kernel
theorem dX12_tells_59 : decode cX12_tells 59 = .ok (.goto 4, 3) := by decide +kernel
theorem dX12_tells_62 : decode cX12_tells 62 = .ok (.iconst 0, 1) := by decide +kernel
theorem dX12_tells_63 : decode cX12_tells 63 = .ok (.istore_n 2, 1) := by decide +kernel
theorem dX12_tells_64 : decode cX12_tells 64 = .ok (.iinc 3 1, 3) := by decide +kernel
theorem dX12_tells_67 : decode cX12_tells 67 = .ok (.goto (-48), 3) := by decide +kernel
theorem dX12_tells_70 : decode cX12_tells 70 = .ok (.iconst 0, 1) := by decide +kernel
theorem dX12_tells_71 : decode cX12_tells 71 = .ok (.istore_n 3, 1) := by decide +kernel
theorem dX12_tells_72 : decode cX12_tells 72 = .ok (.iload_n 3, 1) := by decide +kernel
theorem dX12_tells_73 : decode cX12_tells 73 = .ok (.aload_n 0, 1) := by decide +kernel
theorem dX12_tells_74 : decode cX12_tells 74 = .ok (.getfield 32, 3) := by decide +kernel
theorem dX12_tells_77 : decode cX12_tells 77 = .ok (.aload_n 0, 1) := by decide +kernel
theorem dX12_tells_78 : decode cX12_tells 78 = .ok (.getfield 269, 3) := by decide +kernel
theorem dX12_tells_81 : decode cX12_tells 81 = .ok (.iaload, 1) := by decide +kernel
theorem dX12_tells_82 : decode cX12_tells 82 = .ok (.if_icmp .ge 40, 3) := by decide +kernel
theorem dX12_tells_85 : decode cX12_tells 85 = .ok (.iload_n 2, 1) := by decide +kernel
theorem dX12_tells_86 : decode cX12_tells 86 = .ok (.ifCond .ne 24, 3) := by decide +kernel
theorem dX12_tells_89 : decode cX12_tells 89 = .ok (.aload_n 0, 1) := by decide +kernel
theorem dX12_tells_90 : decode cX12_tells 90 = .ok (.iload_n 1, 1) := by decide +kernel
theorem dX12_tells_91 : decode cX12_tells 91 = .ok (.aload_n 0, 1) := by decide +kernel
theorem dX12_tells_92 : decode cX12_tells 92 = .ok (.getfield 56, 3) := by decide +kernel
theorem dX12_tells_95 : decode cX12_tells 95 = .ok (.iconst 4, 1) := by decide +kernel
theorem dX12_tells_96 : decode cX12_tells 96 = .ok (.aload_n 0, 1) := by decide +kernel
theorem dX12_tells_97 : decode cX12_tells 97 = .ok (.getfield 269, 3) := by decide +kernel
theorem dX12_tells_100 : decode cX12_tells 100 = .ok (.imul, 1) := by decide +kernel
theorem dX12_tells_101 : decode cX12_tells 101 = .ok (.iload_n 3, 1) := by decide +kernel
theorem dX12_tells_102 : decode cX12_tells 102 = .ok (.iadd, 1) := by decide +kernel
theorem dX12_tells_103 : decode cX12_tells 103 = .ok (.iaload, 1) := by decide +kernel
theorem dX12_tells_104 : decode cX12_tells 104 = .ok (.invokevirtual 297, 3) := by decide +kernel
theorem dX12_tells_107 : decode cX12_tells 107 = .ok (.ifCond .eq 7, 3) := by decide +kernel
theorem dX12_tells_110 : decode cX12_tells 110 = .ok (.iconst 1, 1) := by decide +kernel
theorem dX12_tells_111 : decode cX12_tells 111 = .ok (.goto 4, 3) := by decide +kernel
theorem dX12_tells_114 : decode cX12_tells 114 = .ok (.iconst 0, 1) := by decide +kernel
theorem dX12_tells_115 : decode cX12_tells 115 = .ok (.istore_n 2, 1) := by decide +kernel
theorem dX12_tells_116 : decode cX12_tells 116 = .ok (.iinc 3 1, 3) := by decide +kernel
theorem dX12_tells_119 : decode cX12_tells 119 = .ok (.goto (-47), 3) := by decide +kernel
theorem dX12_tells_122 : decode cX12_tells 122 = .ok (.iconst 0, 1) := by decide +kernel
theorem dX12_tells_123 : decode cX12_tells 123 = .ok (.istore_n 3, 1) := by decide +kernel
theorem dX12_tells_124 : decode cX12_tells 124 = .ok (.iload_n 3, 1) := by decide +kernel
theorem dX12_tells_125 : decode cX12_tells 125 = .ok (.aload_n 0, 1) := by decide +kernel
theorem dX12_tells_126 : decode cX12_tells 126 = .ok (.getfield 38, 3) := by decide +kernel
theorem dX12_tells_129 : decode cX12_tells 129 = .ok (.aload_n 0, 1) := by decide +kernel
theorem dX12_tells_130 : decode cX12_tells 130 = .ok (.getfield 269, 3) := by decide +kernel
theorem dX12_tells_133 : decode cX12_tells 133 = .ok (.iaload, 1) := by decide +kernel
theorem dX12_tells_134 : decode cX12_tells 134 = .ok (.if_icmp .ge 40, 3) := by decide +kernel
theorem dX12_tells_137 : decode cX12_tells 137 = .ok (.iload_n 2, 1) := by decide +kernel
theorem dX12_tells_138 : decode cX12_tells 138 = .ok (.ifCond .ne 24, 3) := by decide +kernel
theorem dX12_tells_141 : decode cX12_tells 141 = .ok (.aload_n 0, 1) := by decide +kernel
theorem dX12_tells_142 : decode cX12_tells 142 = .ok (.iload_n 1, 1) := by decide +kernel
theorem dX12_tells_143 : decode cX12_tells 143 = .ok (.aload_n 0, 1) := by decide +kernel
theorem dX12_tells_144 : decode cX12_tells 144 = .ok (.getfield 68, 3) := by decide +kernel
theorem dX12_tells_147 : decode cX12_tells 147 = .ok (.iconst 4, 1) := by decide +kernel
theorem dX12_tells_148 : decode cX12_tells 148 = .ok (.aload_n 0, 1) := by decide +kernel
theorem dX12_tells_149 : decode cX12_tells 149 = .ok (.getfield 269, 3) := by decide +kernel
theorem dX12_tells_152 : decode cX12_tells 152 = .ok (.imul, 1) := by decide +kernel
theorem dX12_tells_153 : decode cX12_tells 153 = .ok (.iload_n 3, 1) := by decide +kernel
theorem dX12_tells_154 : decode cX12_tells 154 = .ok (.iadd, 1) := by decide +kernel
theorem dX12_tells_155 : decode cX12_tells 155 = .ok (.iaload, 1) := by decide +kernel
theorem dX12_tells_156 : decode cX12_tells 156 = .ok (.invokevirtual 297, 3) := by decide +kernel
theorem dX12_tells_159 : decode cX12_tells 159 = .ok (.ifCond .eq 7, 3) := by decide +kernel
theorem dX12_tells_162 : decode cX12_tells 162 = .ok (.iconst 1, 1) := by decide +kernel
theorem dX12_tells_163 : decode cX12_tells 163 = .ok (.goto 4, 3) := by decide +kernel
theorem dX12_tells_166 : decode cX12_tells 166 = .ok (.iconst 0, 1) := by decide +kernel
theorem dX12_tells_167 : decode cX12_tells 167 = .ok (.istore_n 2, 1) := by decide +kernel
theorem dX12_tells_168 : decode cX12_tells 168 = .ok (.iinc 3 1, 3) := by decide +kernel
theorem dX12_tells_171 : decode cX12_tells 171 = .ok (.goto (-47), 3) := by decide +kernel
theorem dX12_tells_174 : decode cX12_tells 174 = .ok (.iconst 0, 1) := by decide +kernel
theorem dX12_tells_175 : decode cX12_tells 175 = .ok (.istore_n 3, 1) := by decide +kernel
theorem dX12_tells_176 : decode cX12_tells 176 = .ok (.iload_n 3, 1) := by decide +kernel
theorem dX12_tells_177 : decode cX12_tells 177 = .ok (.aload_n 0, 1) := by decide +kernel
theorem dX12_tells_178 : decode cX12_tells 178 = .ok (.getfield 41, 3) := by decide +kernel
theorem dX12_tells_181 : decode cX12_tells 181 = .ok (.aload_n 0, 1) := by decide +kernel
theorem dX12_tells_182 : decode cX12_tells 182 = .ok (.getfield 269, 3) := by decide +kernel
theorem dX12_tells_185 : decode cX12_tells 185 = .ok (.iaload, 1) := by decide +kernel
theorem dX12_tells_186 : decode cX12_tells 186 = .ok (.if_icmp .ge 40, 3) := by decide +kernel
theorem dX12_tells_189 : decode cX12_tells 189 = .ok (.iload_n 2, 1) := by decide +kernel
theorem dX12_tells_190 : decode cX12_tells 190 = .ok (.ifCond .ne 24, 3) := by decide +kernel
theorem dX12_tells_193 : decode cX12_tells 193 = .ok (.aload_n 0, 1) := by decide +kernel
theorem dX12_tells_194 : decode cX12_tells 194 = .ok (.iload_n 1, 1) := by decide +kernel
theorem dX12_tells_195 : decode cX12_tells 195 = .ok (.aload_n 0, 1) := by decide +kernel
theorem dX12_tells_196 : decode cX12_tells 196 = .ok (.getfield 74, 3) := by decide +kernel
theorem dX12_tells_199 : decode cX12_tells 199 = .ok (.iconst 3, 1) := by decide +kernel
theorem dX12_tells_200 : decode cX12_tells 200 = .ok (.aload_n 0, 1) := by decide +kernel
theorem dX12_tells_201 : decode cX12_tells 201 = .ok (.getfield 269, 3) := by decide +kernel
theorem dX12_tells_204 : decode cX12_tells 204 = .ok (.imul, 1) := by decide +kernel
theorem dX12_tells_205 : decode cX12_tells 205 = .ok (.iload_n 3, 1) := by decide +kernel
theorem dX12_tells_206 : decode cX12_tells 206 = .ok (.iadd, 1) := by decide +kernel
theorem dX12_tells_207 : decode cX12_tells 207 = .ok (.iaload, 1) := by decide +kernel
theorem dX12_tells_208 : decode cX12_tells 208 = .ok (.invokevirtual 297, 3) := by decide +kernel
theorem dX12_tells_211 : decode cX12_tells 211 = .ok (.ifCond .eq 7, 3) := by decide +kernel
theorem dX12_tells_214 : decode cX12_tells 214 = .ok (.iconst 1, 1) := by decide +kernel
theorem dX12_tells_215 : decode cX12_tells 215 = .ok (.goto 4, 3) := by decide +kernel
theorem dX12_tells_218 : decode cX12_tells 218 = .ok (.iconst 0, 1) := by decide +kernel
theorem dX12_tells_219 : decode cX12_tells 219 = .ok (.istore_n 2, 1) := by decide +kernel
theorem dX12_tells_220 : decode cX12_tells 220 = .ok (.iinc 3 1, 3) := by decide +kernel
theorem dX12_tells_223 : decode cX12_tells 223 = .ok (.goto (-47), 3) := by decide +kernel
theorem dX12_tells_226 : decode cX12_tells 226 = .ok (.iload_n 2, 1) := by decide +kernel
theorem dX12_tells_227 : decode cX12_tells 227 = .ok (.ireturn, 1) := by decide +kernel
theorem dX12_enumOf_0 : decode cX12_enumOf 0 = .ok (.iconst 0, 1) := by decide +kernel
theorem dX12_enumOf_1 : decode cX12_enumOf 1 = .ok (.istore_n 2, 1) := by decide +kernel
theorem dX12_enumOf_2 : decode cX12_enumOf 2 = .ok (.iload_n 2, 1) := by decide +kernel
theorem dX12_enumOf_3 : decode cX12_enumOf 3 = .ok (.aload_n 0, 1) := by decide +kernel
theorem dX12_enumOf_4 : decode cX12_enumOf 4 = .ok (.getfield 16, 3) := by decide +kernel
theorem dX12_enumOf_7 : decode cX12_enumOf 7 = .ok (.aload_n 0, 1) := by decide +kernel
theorem dX12_enumOf_8 : decode cX12_enumOf 8 = .ok (.getfield 263, 3) := by decide +kernel
theorem dX12_enumOf_11 : decode cX12_enumOf 11 = .ok (.iaload, 1) := by decide +kernel
theorem dX12_enumOf_12 : decode cX12_enumOf 12 = .ok (.if_icmp .ge 33, 3) := by decide +kernel
theorem dX12_enumOf_15 : decode cX12_enumOf 15 = .ok (.aload_n 0, 1) := by decide +kernel
theorem dX12_enumOf_16 : decode cX12_enumOf 16 = .ok (.iload_n 1, 1) := by decide +kernel
theorem dX12_enumOf_17 : decode cX12_enumOf 17 = .ok (.aload_n 0, 1) := by decide +kernel
theorem dX12_enumOf_18 : decode cX12_enumOf 18 = .ok (.getfield 26, 3) := by decide +kernel
theorem dX12_enumOf_21 : decode cX12_enumOf 21 = .ok (.bipush 12, 2) := by decide +kernel
theorem dX12_enumOf_23 : decode cX12_enumOf 23 = .ok (.aload_n 0, 1) := by decide +kernel
theorem dX12_enumOf_24 : decode cX12_enumOf 24 = .ok (.getfield 263, 3) := by decide +kernel
theorem dX12_enumOf_27 : decode cX12_enumOf 27 = .ok (.imul, 1) := by decide +kernel
theorem dX12_enumOf_28 : decode cX12_enumOf 28 = .ok (.iload_n 2, 1) := by decide +kernel
theorem dX12_enumOf_29 : decode cX12_enumOf 29 = .ok (.iadd, 1) := by decide +kernel
theorem dX12_enumOf_30 : decode cX12_enumOf 30 = .ok (.iaload, 1) := by decide +kernel
theorem dX12_enumOf_31 : decode cX12_enumOf 31 = .ok (.invokevirtual 297, 3) := by decide +kernel
theorem dX12_enumOf_34 : decode cX12_enumOf 34 = .ok (.ifCond .eq 5, 3) := by decide +kernel
theorem dX12_enumOf_37 : decode cX12_enumOf 37 = .ok (.iload_n 2, 1) := by decide +kernel
theorem dX12_enumOf_38 : decode cX12_enumOf 38 = .ok (.ireturn, 1) := by decide +kernel
theorem dX12_enumOf_39 : decode cX12_enumOf 39 = .ok (.iinc 2 1, 3) := by decide +kernel
theorem dX12_enumOf_42 : decode cX12_enumOf 42 = .ok (.goto (-40), 3) := by decide +kernel
theorem dX12_enumOf_45 : decode cX12_enumOf 45 = .ok (.iconst (-1), 1) := by decide +kernel
theorem dX12_enumOf_46 : decode cX12_enumOf 46 = .ok (.ireturn, 1) := by decide +kernel
theorem dX12_readBook_0 : decode cX12_readBook 0 = .ok (.aload_n 0, 1) := by decide +kernel
theorem dX12_readBook_1 : decode cX12_readBook 1 = .ok (.iconst 0, 1) := by decide +kernel
theorem dX12_readBook_2 : decode cX12_readBook 2 = .ok (.putfield 275, 3) := by decide +kernel
theorem dX12_readBook_5 : decode cX12_readBook 5 = .ok (.aload_n 0, 1) := by decide +kernel
theorem dX12_readBook_6 : decode cX12_readBook 6 = .ok (.iconst 0, 1) := by decide +kernel
theorem dX12_readBook_7 : decode cX12_readBook 7 = .ok (.putfield 301, 3) := by decide +kernel
theorem dX12_readBook_10 : decode cX12_readBook 10 = .ok (.aload_n 0, 1) := by decide +kernel
theorem dX12_readBook_11 : decode cX12_readBook 11 = .ok (.iconst 0, 1) := by decide +kernel
theorem dX12_readBook_12 : decode cX12_readBook 12 = .ok (.putfield 195, 3) := by decide +kernel
theorem dX12_readBook_15 : decode cX12_readBook 15 = .ok (.aload_n 0, 1) := by decide +kernel
theorem dX12_readBook_16 : decode cX12_readBook 16 = .ok (.getfield 16, 3) := by decide +kernel
theorem dX12_readBook_19 : decode cX12_readBook 19 = .ok (.aload_n 0, 1) := by decide +kernel
theorem dX12_readBook_20 : decode cX12_readBook 20 = .ok (.getfield 263, 3) := by decide +kernel
theorem dX12_readBook_23 : decode cX12_readBook 23 = .ok (.iconst 0, 1) := by decide +kernel
theorem dX12_readBook_24 : decode cX12_readBook 24 = .ok (.iastore, 1) := by decide +kernel
theorem dX12_readBook_25 : decode cX12_readBook 25 = .ok (.aload_n 0, 1) := by decide +kernel
theorem dX12_readBook_26 : decode cX12_readBook 26 = .ok (.getfield 20, 3) := by decide +kernel
theorem dX12_readBook_29 : decode cX12_readBook 29 = .ok (.aload_n 0, 1) := by decide +kernel
theorem dX12_readBook_30 : decode cX12_readBook 30 = .ok (.getfield 263, 3) := by decide +kernel
theorem dX12_readBook_33 : decode cX12_readBook 33 = .ok (.iconst 0, 1) := by decide +kernel
theorem dX12_readBook_34 : decode cX12_readBook 34 = .ok (.iastore, 1) := by decide +kernel
theorem dX12_readBook_35 : decode cX12_readBook 35 = .ok (.aload_n 0, 1) := by decide +kernel
theorem dX12_readBook_36 : decode cX12_readBook 36 = .ok (.invokevirtual 285, 3) := by decide +kernel
theorem dX12_readBook_39 : decode cX12_readBook 39 = .ok (.aload_n 0, 1) := by decide +kernel
theorem dX12_readBook_40 : decode cX12_readBook 40 = .ok (.invokevirtual 304, 3) := by decide +kernel
theorem dX12_readBook_43 : decode cX12_readBook 43 = .ok (.aload_n 0, 1) := by decide +kernel
theorem dX12_readBook_44 : decode cX12_readBook 44 = .ok (.getfield 275, 3) := by decide +kernel
theorem dX12_readBook_47 : decode cX12_readBook 47 = .ok (.ifCond .ne 10, 3) := by decide +kernel
theorem dX12_readBook_50 : decode cX12_readBook 50 = .ok (.aload_n 0, 1) := by decide +kernel
theorem dX12_readBook_51 : decode cX12_readBook 51 = .ok (.getfield 205, 3) := by decide +kernel
theorem dX12_readBook_54 : decode cX12_readBook 54 = .ok (.ifCond .ne (-15), 3) := by decide +kernel
theorem dX12_readBook_57 : decode cX12_readBook 57 = .ok (.iconst 0, 1) := by decide +kernel
theorem dX12_readBook_58 : decode cX12_readBook 58 = .ok (.istore_n 1, 1) := by decide +kernel
theorem dX12_readBook_59 : decode cX12_readBook 59 = .ok (.iload_n 1, 1) := by decide +kernel
theorem dX12_readBook_60 : decode cX12_readBook 60 = .ok (.aload_n 0, 1) := by decide +kernel
theorem dX12_readBook_61 : decode cX12_readBook 61 = .ok (.getfield 301, 3) := by decide +kernel
theorem dX12_readBook_64 : decode cX12_readBook 64 = .ok (.if_icmp .ge 21, 3) := by decide +kernel
theorem dX12_readBook_67 : decode cX12_readBook 67 = .ok (.aload_n 0, 1) := by decide +kernel
theorem dX12_readBook_68 : decode cX12_readBook 68 = .ok (.getfield 275, 3) := by decide +kernel
theorem dX12_readBook_71 : decode cX12_readBook 71 = .ok (.ifCond .ne 14, 3) := by decide +kernel
theorem dX12_readBook_74 : decode cX12_readBook 74 = .ok (.aload_n 0, 1) := by decide +kernel
theorem dX12_readBook_75 : decode cX12_readBook 75 = .ok (.iload_n 1, 1) := by decide +kernel
theorem dX12_readBook_76 : decode cX12_readBook 76 = .ok (.invokevirtual 307, 3) := by decide +kernel
theorem dX12_readBook_79 : decode cX12_readBook 79 = .ok (.iinc 1 1, 3) := by decide +kernel
theorem dX12_readBook_82 : decode cX12_readBook 82 = .ok (.goto (-23), 3) := by decide +kernel
theorem dX12_readBook_85 : decode cX12_readBook 85 = .ok (.return_, 1) := by decide +kernel
theorem dX12_readEnum_0 : decode cX12_readEnum 0 = .ok (.aload_n 0, 1) := by decide +kernel
theorem dX12_readEnum_1 : decode cX12_readEnum 1 = .ok (.ldc 233, 2) := by decide +kernel
theorem dX12_readEnum_3 : decode cX12_readEnum 3 = .ok (.invokevirtual 235, 3) := by decide +kernel
theorem dX12_readEnum_6 : decode cX12_readEnum 6 = .ok (.ifCond .ne 10, 3) := by decide +kernel
theorem dX12_readEnum_9 : decode cX12_readEnum 9 = .ok (.aload_n 0, 1) := by decide +kernel
theorem dX12_readEnum_10 : decode cX12_readEnum 10 = .ok (.iconst 2, 1) := by decide +kernel
theorem dX12_readEnum_11 : decode cX12_readEnum 11 = .ok (.invokevirtual 288, 3) := by decide +kernel
theorem dX12_readEnum_14 : decode cX12_readEnum 14 = .ok (.istore_n 1, 1) := by decide +kernel
theorem dX12_readEnum_15 : decode cX12_readEnum 15 = .ok (.return_, 1) := by decide +kernel
theorem dX12_readEnum_16 : decode cX12_readEnum 16 = .ok (.aload_n 0, 1) := by decide +kernel
theorem dX12_readEnum_17 : decode cX12_readEnum 17 = .ok (.getfield 16, 3) := by decide +kernel
theorem dX12_readEnum_20 : decode cX12_readEnum 20 = .ok (.aload_n 0, 1) := by decide +kernel
theorem dX12_readEnum_21 : decode cX12_readEnum 21 = .ok (.getfield 263, 3) := by decide +kernel
theorem dX12_readEnum_24 : decode cX12_readEnum 24 = .ok (.iaload, 1) := by decide +kernel
theorem dX12_readEnum_25 : decode cX12_readEnum 25 = .ok (.bipush 12, 2) := by decide +kernel
theorem dX12_readEnum_27 : decode cX12_readEnum 27 = .ok (.if_icmp .ne 10, 3) := by decide +kernel
theorem dX12_readEnum_30 : decode cX12_readEnum 30 = .ok (.aload_n 0, 1) := by decide +kernel
theorem dX12_readEnum_31 : decode cX12_readEnum 31 = .ok (.iconst 5, 1) := by decide +kernel
theorem dX12_readEnum_32 : decode cX12_readEnum 32 = .ok (.invokevirtual 288, 3) := by decide +kernel
theorem dX12_readEnum_35 : decode cX12_readEnum 35 = .ok (.istore_n 1, 1) := by decide +kernel
theorem dX12_readEnum_36 : decode cX12_readEnum 36 = .ok (.return_, 1) := by decide +kernel
theorem dX12_readEnum_37 : decode cX12_readEnum 37 = .ok (.aload_n 0, 1) := by decide +kernel
theorem dX12_readEnum_38 : decode cX12_readEnum 38 = .ok (.invokevirtual 285, 3) := by decide +kernel
theorem dX12_readEnum_41 : decode cX12_readEnum 41 = .ok (.aload_n 0, 1) := by decide +kernel
theorem dX12_readEnum_42 : decode cX12_readEnum 42 = .ok (.bipush 12, 2) := by decide +kernel
theorem dX12_readEnum_44 : decode cX12_readEnum 44 = .ok (.aload_n 0, 1) := by decide +kernel
theorem dX12_readEnum_45 : decode cX12_readEnum 45 = .ok (.getfield 263, 3) := by decide +kernel
theorem dX12_readEnum_48 : decode cX12_readEnum 48 = .ok (.imul, 1) := by decide +kernel
theorem dX12_readEnum_49 : decode cX12_readEnum 49 = .ok (.aload_n 0, 1) := by decide +kernel
theorem dX12_readEnum_50 : decode cX12_readEnum 50 = .ok (.getfield 16, 3) := by decide +kernel
theorem dX12_readEnum_53 : decode cX12_readEnum 53 = .ok (.aload_n 0, 1) := by decide +kernel
theorem dX12_readEnum_54 : decode cX12_readEnum 54 = .ok (.getfield 263, 3) := by decide +kernel
theorem dX12_readEnum_57 : decode cX12_readEnum 57 = .ok (.iaload, 1) := by decide +kernel
theorem dX12_readEnum_58 : decode cX12_readEnum 58 = .ok (.iadd, 1) := by decide +kernel
theorem dX12_readEnum_59 : decode cX12_readEnum 59 = .ok (.putfield 269, 3) := by decide +kernel
theorem dX12_readEnum_62 : decode cX12_readEnum 62 = .ok (.aload_n 0, 1) := by decide +kernel
theorem dX12_readEnum_63 : decode cX12_readEnum 63 = .ok (.getfield 26, 3) := by decide +kernel
theorem dX12_readEnum_66 : decode cX12_readEnum 66 = .ok (.aload_n 0, 1) := by decide +kernel
theorem dX12_readEnum_67 : decode cX12_readEnum 67 = .ok (.getfield 269, 3) := by decide +kernel
theorem dX12_readEnum_70 : decode cX12_readEnum 70 = .ok (.aload_n 0, 1) := by decide +kernel
theorem dX12_readEnum_71 : decode cX12_readEnum 71 = .ok (.aload_n 0, 1) := by decide +kernel
theorem dX12_readEnum_72 : decode cX12_readEnum 72 = .ok (.invokevirtual 291, 3) := by decide +kernel
theorem dX12_readEnum_75 : decode cX12_readEnum 75 = .ok (.ifCond .eq 19, 3) := by decide +kernel
theorem dX12_readEnum_78 : decode cX12_readEnum 78 = .ok (.aload_n 0, 1) := by decide +kernel
theorem dX12_readEnum_79 : decode cX12_readEnum 79 = .ok (.aload_n 0, 1) := by decide +kernel
theorem dX12_readEnum_80 : decode cX12_readEnum 80 = .ok (.invokevirtual 294, 3) := by decide +kernel
theorem dX12_readEnum_83 : decode cX12_readEnum 83 = .ok (.invokevirtual 311, 3) := by decide +kernel
theorem dX12_readEnum_86 : decode cX12_readEnum 86 = .ok (.iconst (-1), 1) := by decide +kernel
theorem dX12_readEnum_87 : decode cX12_readEnum 87 = .ok (.if_icmp .eq 7, 3) := by decide +kernel
theorem dX12_readEnum_90 : decode cX12_readEnum 90 = .ok (.iconst 1, 1) := by decide +kernel
theorem dX12_readEnum_91 : decode cX12_readEnum 91 = .ok (.goto 4, 3) := by decide +kernel
theorem dX12_readEnum_94 : decode cX12_readEnum 94 = .ok (.iconst 0, 1) := by decide +kernel
theorem dX12_readEnum_95 : decode cX12_readEnum 95 = .ok (.invokevirtual 314, 3) := by decide +kernel
theorem dX12_readEnum_98 : decode cX12_readEnum 98 = .ok (.iastore, 1) := by decide +kernel
theorem dX12_readEnum_99 : decode cX12_readEnum 99 = .ok (.aload_n 0, 1) := by decide +kernel
theorem dX12_readEnum_100 : decode cX12_readEnum 100 = .ok (.getfield 275, 3) := by decide +kernel
theorem dX12_readEnum_103 : decode cX12_readEnum 103 = .ok (.ifCond .le 4, 3) := by decide +kernel
theorem dX12_readEnum_106 : decode cX12_readEnum 106 = .ok (.return_, 1) := by decide +kernel
theorem dX12_readEnum_107 : decode cX12_readEnum 107 = .ok (.aload_n 0, 1) := by decide +kernel
theorem dX12_readEnum_108 : decode cX12_readEnum 108 = .ok (.getfield 16, 3) := by decide +kernel
theorem dX12_readEnum_111 : decode cX12_readEnum 111 = .ok (.aload_n 0, 1) := by decide +kernel
theorem dX12_readEnum_112 : decode cX12_readEnum 112 = .ok (.getfield 263, 3) := by decide +kernel
theorem dX12_readEnum_115 : decode cX12_readEnum 115 = .ok (.dup2, 1) := by decide +kernel
theorem dX12_readEnum_116 : decode cX12_readEnum 116 = .ok (.iaload, 1) := by decide +kernel
theorem dX12_readEnum_117 : decode cX12_readEnum 117 = .ok (.iconst 1, 1) := by decide +kernel
theorem dX12_readEnum_118 : decode cX12_readEnum 118 = .ok (.iadd, 1) := by decide +kernel
theorem dX12_readEnum_119 : decode cX12_readEnum 119 = .ok (.iastore, 1) := by decide +kernel
theorem dX12_readEnum_120 : decode cX12_readEnum 120 = .ok (.aload_n 0, 1) := by decide +kernel
theorem dX12_readEnum_121 : decode cX12_readEnum 121 = .ok (.getfield 29, 3) := by decide +kernel
theorem dX12_readEnum_124 : decode cX12_readEnum 124 = .ok (.aload_n 0, 1) := by decide +kernel
theorem dX12_readEnum_125 : decode cX12_readEnum 125 = .ok (.getfield 269, 3) := by decide +kernel
theorem dX12_readEnum_128 : decode cX12_readEnum 128 = .ok (.iconst 0, 1) := by decide +kernel
theorem dX12_readEnum_129 : decode cX12_readEnum 129 = .ok (.iastore, 1) := by decide +kernel
theorem dX12_readEnum_130 : decode cX12_readEnum 130 = .ok (.aload_n 0, 1) := by decide +kernel
theorem dX12_readEnum_131 : decode cX12_readEnum 131 = .ok (.getfield 32, 3) := by decide +kernel
theorem dX12_readEnum_134 : decode cX12_readEnum 134 = .ok (.aload_n 0, 1) := by decide +kernel
theorem dX12_readEnum_135 : decode cX12_readEnum 135 = .ok (.getfield 269, 3) := by decide +kernel
theorem dX12_readEnum_138 : decode cX12_readEnum 138 = .ok (.iconst 0, 1) := by decide +kernel
theorem dX12_readEnum_139 : decode cX12_readEnum 139 = .ok (.iastore, 1) := by decide +kernel
theorem dX12_readEnum_140 : decode cX12_readEnum 140 = .ok (.aload_n 0, 1) := by decide +kernel
theorem dX12_readEnum_141 : decode cX12_readEnum 141 = .ok (.getfield 35, 3) := by decide +kernel
theorem dX12_readEnum_144 : decode cX12_readEnum 144 = .ok (.aload_n 0, 1) := by decide +kernel
theorem dX12_readEnum_145 : decode cX12_readEnum 145 = .ok (.getfield 269, 3) := by decide +kernel
theorem dX12_readEnum_148 : decode cX12_readEnum 148 = .ok (.iconst 0, 1) := by decide +kernel
theorem dX12_readEnum_149 : decode cX12_readEnum 149 = .ok (.iastore, 1) := by decide +kernel
theorem dX12_readEnum_150 : decode cX12_readEnum 150 = .ok (.aload_n 0, 1) := by decide +kernel
theorem dX12_readEnum_151 : decode cX12_readEnum 151 = .ok (.getfield 38, 3) := by decide +kernel
theorem dX12_readEnum_154 : decode cX12_readEnum 154 = .ok (.aload_n 0, 1) := by decide +kernel
theorem dX12_readEnum_155 : decode cX12_readEnum 155 = .ok (.getfield 269, 3) := by decide +kernel
theorem dX12_readEnum_158 : decode cX12_readEnum 158 = .ok (.iconst 0, 1) := by decide +kernel
theorem dX12_readEnum_159 : decode cX12_readEnum 159 = .ok (.iastore, 1) := by decide +kernel
theorem dX12_readEnum_160 : decode cX12_readEnum 160 = .ok (.aload_n 0, 1) := by decide +kernel
theorem dX12_readEnum_161 : decode cX12_readEnum 161 = .ok (.getfield 41, 3) := by decide +kernel
theorem dX12_readEnum_164 : decode cX12_readEnum 164 = .ok (.aload_n 0, 1) := by decide +kernel
theorem dX12_readEnum_165 : decode cX12_readEnum 165 = .ok (.getfield 269, 3) := by decide +kernel
theorem dX12_readEnum_168 : decode cX12_readEnum 168 = .ok (.iconst 0, 1) := by decide +kernel
theorem dX12_readEnum_169 : decode cX12_readEnum 169 = .ok (.iastore, 1) := by decide +kernel
theorem dX12_readEnum_170 : decode cX12_readEnum 170 = .ok (.iconst 0, 1) := by decide +kernel
theorem dX12_readEnum_171 : decode cX12_readEnum 171 = .ok (.istore_n 1, 1) := by decide +kernel
theorem dX12_readEnum_172 : decode cX12_readEnum 172 = .ok (.iload_n 1, 1) := by decide +kernel
theorem dX12_readEnum_173 : decode cX12_readEnum 173 = .ok (.iconst 4, 1) := by decide +kernel
theorem dX12_readEnum_174 : decode cX12_readEnum 174 = .ok (.if_icmp .ge 23, 3) := by decide +kernel
theorem dX12_readEnum_177 : decode cX12_readEnum 177 = .ok (.aload_n 0, 1) := by decide +kernel
theorem dX12_readEnum_178 : decode cX12_readEnum 178 = .ok (.getfield 44, 3) := by decide +kernel
theorem dX12_readEnum_181 : decode cX12_readEnum 181 = .ok (.iconst 4, 1) := by decide +kernel
theorem dX12_readEnum_182 : decode cX12_readEnum 182 = .ok (.aload_n 0, 1) := by decide +kernel
theorem dX12_readEnum_183 : decode cX12_readEnum 183 = .ok (.getfield 269, 3) := by decide +kernel
theorem dX12_readEnum_186 : decode cX12_readEnum 186 = .ok (.imul, 1) := by decide +kernel
theorem dX12_readEnum_187 : decode cX12_readEnum 187 = .ok (.iload_n 1, 1) := by decide +kernel
theorem dX12_readEnum_188 : decode cX12_readEnum 188 = .ok (.iadd, 1) := by decide +kernel
theorem dX12_readEnum_189 : decode cX12_readEnum 189 = .ok (.iconst (-1), 1) := by decide +kernel
theorem dX12_readEnum_190 : decode cX12_readEnum 190 = .ok (.iastore, 1) := by decide +kernel
theorem dX12_readEnum_191 : decode cX12_readEnum 191 = .ok (.iinc 1 1, 3) := by decide +kernel
theorem dX12_readEnum_194 : decode cX12_readEnum 194 = .ok (.goto (-22), 3) := by decide +kernel
theorem dX12_readEnum_197 : decode cX12_readEnum 197 = .ok (.aload_n 0, 1) := by decide +kernel
theorem dX12_readEnum_198 : decode cX12_readEnum 198 = .ok (.invokevirtual 285, 3) := by decide +kernel
theorem dX12_readEnum_201 : decode cX12_readEnum 201 = .ok (.aload_n 0, 1) := by decide +kernel
theorem dX12_readEnum_202 : decode cX12_readEnum 202 = .ok (.bipush 123, 2) := by decide +kernel
theorem dX12_readEnum_204 : decode cX12_readEnum 204 = .ok (.invokevirtual 318, 3) := by decide +kernel
theorem dX12_readEnum_207 : decode cX12_readEnum 207 = .ok (.aload_n 0, 1) := by decide +kernel
theorem dX12_readEnum_208 : decode cX12_readEnum 208 = .ok (.invokevirtual 322, 3) := by decide +kernel
theorem dX12_readEnum_211 : decode cX12_readEnum 211 = .ok (.aload_n 0, 1) := by decide +kernel
theorem dX12_readEnum_212 : decode cX12_readEnum 212 = .ok (.getfield 275, 3) := by decide +kernel
theorem dX12_readEnum_215 : decode cX12_readEnum 215 = .ok (.ifCond .ne 23, 3) := by decide +kernel
theorem dX12_readEnum_218 : decode cX12_readEnum 218 = .ok (.aload_n 0, 1) := by decide +kernel
theorem dX12_readEnum_219 : decode cX12_readEnum 219 = .ok (.bipush 44, 2) := by decide +kernel
theorem dX12_readEnum_221 : decode cX12_readEnum 221 = .ok (.invokevirtual 281, 3) := by decide +kernel
theorem dX12_readEnum_224 : decode cX12_readEnum 224 = .ok (.ifCond .eq 14, 3) := by decide +kernel
theorem dX12_readEnum_227 : decode cX12_readEnum 227 = .ok (.aload_n 0, 1) := by decide +kernel
theorem dX12_readEnum_228 : decode cX12_readEnum 228 = .ok (.invokevirtual 285, 3) := by decide +kernel
theorem dX12_readEnum_231 : decode cX12_readEnum 231 = .ok (.aload_n 0, 1) := by decide +kernel
theorem dX12_readEnum_232 : decode cX12_readEnum 232 = .ok (.invokevirtual 322, 3) := by decide +kernel
theorem dX12_readEnum_235 : decode cX12_readEnum 235 = .ok (.goto (-24), 3) := by decide +kernel
theorem dX12_readEnum_238 : decode cX12_readEnum 238 = .ok (.aload_n 0, 1) := by decide +kernel
theorem dX12_readEnum_239 : decode cX12_readEnum 239 = .ok (.bipush 59, 2) := by decide +kernel
theorem dX12_readEnum_241 : decode cX12_readEnum 241 = .ok (.invokevirtual 318, 3) := by decide +kernel
theorem dX12_readEnum_244 : decode cX12_readEnum 244 = .ok (.aload_n 0, 1) := by decide +kernel
theorem dX12_readEnum_245 : decode cX12_readEnum 245 = .ok (.getfield 275, 3) := by decide +kernel
theorem dX12_readEnum_248 : decode cX12_readEnum 248 = .ok (.ifCond .ne 19, 3) := by decide +kernel
theorem dX12_readEnum_251 : decode cX12_readEnum 251 = .ok (.aload_n 0, 1) := by decide +kernel
theorem dX12_readEnum_252 : decode cX12_readEnum 252 = .ok (.bipush 125, 2) := by decide +kernel
theorem dX12_readEnum_254 : decode cX12_readEnum 254 = .ok (.invokevirtual 281, 3) := by decide +kernel
theorem dX12_readEnum_257 : decode cX12_readEnum 257 = .ok (.ifCond .ne 10, 3) := by decide +kernel
theorem dX12_readEnum_260 : decode cX12_readEnum 260 = .ok (.aload_n 0, 1) := by decide +kernel
theorem dX12_readEnum_261 : decode cX12_readEnum 261 = .ok (.invokevirtual 325, 3) := by decide +kernel
theorem dX12_readEnum_264 : decode cX12_readEnum 264 = .ok (.goto (-20), 3) := by decide +kernel
theorem dX12_readEnum_267 : decode cX12_readEnum 267 = .ok (.aload_n 0, 1) := by decide +kernel
theorem dX12_readEnum_268 : decode cX12_readEnum 268 = .ok (.bipush 125, 2) := by decide +kernel
theorem dX12_readEnum_270 : decode cX12_readEnum 270 = .ok (.invokevirtual 318, 3) := by decide +kernel
theorem dX12_readEnum_273 : decode cX12_readEnum 273 = .ok (.return_, 1) := by decide +kernel
theorem dX12_readConstant_0 : decode cX12_readConstant 0 = .ok (.aload_n 0, 1) := by decide +kernel
theorem dX12_readConstant_1 : decode cX12_readConstant 1 = .ok (.getfield 275, 3) := by decide +kernel
theorem dX12_readConstant_4 : decode cX12_readConstant 4 = .ok (.ifCond .le 4, 3) := by decide +kernel
theorem dX12_readConstant_7 : decode cX12_readConstant 7 = .ok (.return_, 1) := by decide +kernel
theorem dX12_readConstant_8 : decode cX12_readConstant 8 = .ok (.bipush 24, 2) := by decide +kernel
theorem dX12_readConstant_10 : decode cX12_readConstant 10 = .ok (.aload_n 0, 1) := by decide +kernel
theorem dX12_readConstant_11 : decode cX12_readConstant 11 = .ok (.getfield 269, 3) := by decide +kernel
theorem dX12_readConstant_14 : decode cX12_readConstant 14 = .ok (.imul, 1) := by decide +kernel
theorem dX12_readConstant_15 : decode cX12_readConstant 15 = .ok (.aload_n 0, 1) := by decide +kernel
theorem dX12_readConstant_16 : decode cX12_readConstant 16 = .ok (.getfield 29, 3) := by decide +kernel
theorem dX12_readConstant_19 : decode cX12_readConstant 19 = .ok (.aload_n 0, 1) := by decide +kernel
theorem dX12_readConstant_20 : decode cX12_readConstant 20 = .ok (.getfield 269, 3) := by decide +kernel
theorem dX12_readConstant_23 : decode cX12_readConstant 23 = .ok (.iaload, 1) := by decide +kernel
theorem dX12_readConstant_24 : decode cX12_readConstant 24 = .ok (.iadd, 1) := by decide +kernel
theorem dX12_readConstant_25 : decode cX12_readConstant 25 = .ok (.istore_n 1, 1) := by decide +kernel
theorem dX12_readConstant_26 : decode cX12_readConstant 26 = .ok (.aload_n 0, 1) := by decide +kernel
theorem dX12_readConstant_27 : decode cX12_readConstant 27 = .ok (.aload_n 0, 1) := by decide +kernel
theorem dX12_readConstant_28 : decode cX12_readConstant 28 = .ok (.invokevirtual 328, 3) := by decide +kernel
theorem dX12_readConstant_31 : decode cX12_readConstant 31 = .ok (.invokevirtual 314, 3) := by decide +kernel
theorem dX12_readConstant_34 : decode cX12_readConstant 34 = .ok (.istore_n 2, 1) := by decide +kernel
theorem dX12_readConstant_35 : decode cX12_readConstant 35 = .ok (.aload_n 0, 1) := by decide +kernel
theorem dX12_readConstant_36 : decode cX12_readConstant 36 = .ok (.getfield 275, 3) := by decide +kernel
theorem dX12_readConstant_39 : decode cX12_readConstant 39 = .ok (.ifCond .le 4, 3) := by decide +kernel
theorem dX12_readConstant_42 : decode cX12_readConstant 42 = .ok (.return_, 1) := by decide +kernel
theorem dX12_readConstant_43 : decode cX12_readConstant 43 = .ok (.aload_n 0, 1) := by decide +kernel
theorem dX12_readConstant_44 : decode cX12_readConstant 44 = .ok (.getfield 29, 3) := by decide +kernel
theorem dX12_readConstant_47 : decode cX12_readConstant 47 = .ok (.aload_n 0, 1) := by decide +kernel
theorem dX12_readConstant_48 : decode cX12_readConstant 48 = .ok (.getfield 269, 3) := by decide +kernel
theorem dX12_readConstant_51 : decode cX12_readConstant 51 = .ok (.iaload, 1) := by decide +kernel
theorem dX12_readConstant_52 : decode cX12_readConstant 52 = .ok (.bipush 24, 2) := by decide +kernel
theorem dX12_readConstant_54 : decode cX12_readConstant 54 = .ok (.if_icmp .ne 10, 3) := by decide +kernel
theorem dX12_readConstant_57 : decode cX12_readConstant 57 = .ok (.aload_n 0, 1) := by decide +kernel
theorem dX12_readConstant_58 : decode cX12_readConstant 58 = .ok (.iconst 5, 1) := by decide +kernel
theorem dX12_readConstant_59 : decode cX12_readConstant 59 = .ok (.invokevirtual 288, 3) := by decide +kernel
theorem dX12_readConstant_62 : decode cX12_readConstant 62 = .ok (.istore_n 3, 1) := by decide +kernel
theorem dX12_readConstant_63 : decode cX12_readConstant 63 = .ok (.return_, 1) := by decide +kernel
theorem dX12_readConstant_64 : decode cX12_readConstant 64 = .ok (.aload_n 0, 1) := by decide +kernel
theorem dX12_readConstant_65 : decode cX12_readConstant 65 = .ok (.getfield 47, 3) := by decide +kernel
theorem dX12_readConstant_68 : decode cX12_readConstant 68 = .ok (.iload_n 1, 1) := by decide +kernel
theorem dX12_readConstant_69 : decode cX12_readConstant 69 = .ok (.iload_n 2, 1) := by decide +kernel
theorem dX12_readConstant_70 : decode cX12_readConstant 70 = .ok (.iastore, 1) := by decide +kernel
theorem dX12_readConstant_71 : decode cX12_readConstant 71 = .ok (.aload_n 0, 1) := by decide +kernel
theorem dX12_readConstant_72 : decode cX12_readConstant 72 = .ok (.getfield 29, 3) := by decide +kernel
theorem dX12_readConstant_75 : decode cX12_readConstant 75 = .ok (.aload_n 0, 1) := by decide +kernel
theorem dX12_readConstant_76 : decode cX12_readConstant 76 = .ok (.getfield 269, 3) := by decide +kernel
theorem dX12_readConstant_79 : decode cX12_readConstant 79 = .ok (.dup2, 1) := by decide +kernel
theorem dX12_readConstant_80 : decode cX12_readConstant 80 = .ok (.iaload, 1) := by decide +kernel
theorem dX12_readConstant_81 : decode cX12_readConstant 81 = .ok (.iconst 1, 1) := by decide +kernel
theorem dX12_readConstant_82 : decode cX12_readConstant 82 = .ok (.iadd, 1) := by decide +kernel
theorem dX12_readConstant_83 : decode cX12_readConstant 83 = .ok (.iastore, 1) := by decide +kernel
theorem dX12_readConstant_84 : decode cX12_readConstant 84 = .ok (.aload_n 0, 1) := by decide +kernel
theorem dX12_readConstant_85 : decode cX12_readConstant 85 = .ok (.getfield 50, 3) := by decide +kernel
theorem dX12_readConstant_88 : decode cX12_readConstant 88 = .ok (.iload_n 1, 1) := by decide +kernel
theorem dX12_readConstant_89 : decode cX12_readConstant 89 = .ok (.iconst (-1), 1) := by decide +kernel
theorem dX12_readConstant_90 : decode cX12_readConstant 90 = .ok (.iastore, 1) := by decide +kernel
theorem dX12_readConstant_91 : decode cX12_readConstant 91 = .ok (.iconst 0, 1) := by decide +kernel
theorem dX12_readConstant_92 : decode cX12_readConstant 92 = .ok (.istore_n 3, 1) := by decide +kernel
theorem dX12_readConstant_93 : decode cX12_readConstant 93 = .ok (.iload_n 3, 1) := by decide +kernel
theorem dX12_readConstant_94 : decode cX12_readConstant 94 = .ok (.iconst 4, 1) := by decide +kernel
theorem dX12_readConstant_95 : decode cX12_readConstant 95 = .ok (.if_icmp .ge 20, 3) := by decide +kernel
theorem dX12_readConstant_98 : decode cX12_readConstant 98 = .ok (.aload_n 0, 1) := by decide +kernel
theorem dX12_readConstant_99 : decode cX12_readConstant 99 = .ok (.getfield 53, 3) := by decide +kernel
theorem dX12_readConstant_102 : decode cX12_readConstant 102 = .ok (.iconst 4, 1) := by decide +kernel
theorem dX12_readConstant_103 : decode cX12_readConstant 103 = .ok (.iload_n 1, 1) := by decide +kernel
theorem dX12_readConstant_104 : decode cX12_readConstant 104 = .ok (.imul, 1) := by decide +kernel
theorem dX12_readConstant_105 : decode cX12_readConstant 105 = .ok (.iload_n 3, 1) := by decide +kernel
theorem dX12_readConstant_106 : decode cX12_readConstant 106 = .ok (.iadd, 1) := by decide +kernel
theorem dX12_readConstant_107 : decode cX12_readConstant 107 = .ok (.iconst (-1), 1) := by decide +kernel
theorem dX12_readConstant_108 : decode cX12_readConstant 108 = .ok (.iastore, 1) := by decide +kernel
theorem dX12_readConstant_109 : decode cX12_readConstant 109 = .ok (.iinc 3 1, 3) := by decide +kernel
theorem dX12_readConstant_112 : decode cX12_readConstant 112 = .ok (.goto (-19), 3) := by decide +kernel
theorem dX12_readConstant_115 : decode cX12_readConstant 115 = .ok (.aload_n 0, 1) := by decide +kernel
theorem dX12_readConstant_116 : decode cX12_readConstant 116 = .ok (.invokevirtual 285, 3) := by decide +kernel
theorem dX12_readConstant_119 : decode cX12_readConstant 119 = .ok (.aload_n 0, 1) := by decide +kernel
theorem dX12_readConstant_120 : decode cX12_readConstant 120 = .ok (.bipush 40, 2) := by decide +kernel
theorem dX12_readConstant_122 : decode cX12_readConstant 122 = .ok (.invokevirtual 281, 3) := by decide +kernel
theorem dX12_readConstant_125 : decode cX12_readConstant 125 = .ok (.ifCond .eq 26, 3) := by decide +kernel
theorem dX12_readConstant_128 : decode cX12_readConstant 128 = .ok (.aload_n 0, 1) := by decide +kernel
theorem dX12_readConstant_129 : decode cX12_readConstant 129 = .ok (.invokevirtual 285, 3) := by decide +kernel
theorem dX12_readConstant_132 : decode cX12_readConstant 132 = .ok (.aload_n 0, 1) := by decide +kernel
theorem dX12_readConstant_133 : decode cX12_readConstant 133 = .ok (.getfield 50, 3) := by decide +kernel
theorem dX12_readConstant_136 : decode cX12_readConstant 136 = .ok (.iload_n 1, 1) := by decide +kernel
theorem dX12_readConstant_137 : decode cX12_readConstant 137 = .ok (.aload_n 0, 1) := by decide +kernel
theorem dX12_readConstant_138 : decode cX12_readConstant 138 = .ok (.iconst 0, 1) := by decide +kernel
theorem dX12_readConstant_139 : decode cX12_readConstant 139 = .ok (.iconst 1, 1) := by decide +kernel
theorem dX12_readConstant_140 : decode cX12_readConstant 140 = .ok (.iconst 0, 1) := by decide +kernel
theorem dX12_readConstant_141 : decode cX12_readConstant 141 = .ok (.invokevirtual 331, 3) := by decide +kernel
theorem dX12_readConstant_144 : decode cX12_readConstant 144 = .ok (.iastore, 1) := by decide +kernel
theorem dX12_readConstant_145 : decode cX12_readConstant 145 = .ok (.aload_n 0, 1) := by decide +kernel
theorem dX12_readConstant_146 : decode cX12_readConstant 146 = .ok (.bipush 41, 2) := by decide +kernel
theorem dX12_readConstant_148 : decode cX12_readConstant 148 = .ok (.invokevirtual 318, 3) := by decide +kernel
theorem dX12_readConstant_151 : decode cX12_readConstant 151 = .ok (.aload_n 0, 1) := by decide +kernel
theorem dX12_readConstant_152 : decode cX12_readConstant 152 = .ok (.getfield 275, 3) := by decide +kernel
theorem dX12_readConstant_155 : decode cX12_readConstant 155 = .ok (.ifCond .gt 12, 3) := by decide +kernel
theorem dX12_readConstant_158 : decode cX12_readConstant 158 = .ok (.aload_n 0, 1) := by decide +kernel
theorem dX12_readConstant_159 : decode cX12_readConstant 159 = .ok (.bipush 123, 2) := by decide +kernel
theorem dX12_readConstant_161 : decode cX12_readConstant 161 = .ok (.invokevirtual 281, 3) := by decide +kernel
theorem dX12_readConstant_164 : decode cX12_readConstant 164 = .ok (.ifCond .ne 4, 3) := by decide +kernel
theorem dX12_readConstant_167 : decode cX12_readConstant 167 = .ok (.return_, 1) := by decide +kernel
theorem dX12_readConstant_168 : decode cX12_readConstant 168 = .ok (.aload_n 0, 1) := by decide +kernel
theorem dX12_readConstant_169 : decode cX12_readConstant 169 = .ok (.invokevirtual 285, 3) := by decide +kernel
theorem dX12_readConstant_172 : decode cX12_readConstant 172 = .ok (.aload_n 0, 1) := by decide +kernel
theorem dX12_readConstant_173 : decode cX12_readConstant 173 = .ok (.iload_n 1, 1) := by decide +kernel
theorem dX12_readConstant_174 : decode cX12_readConstant 174 = .ok (.invokevirtual 335, 3) := by decide +kernel
theorem dX12_readConstant_177 : decode cX12_readConstant 177 = .ok (.aload_n 0, 1) := by decide +kernel
theorem dX12_readConstant_178 : decode cX12_readConstant 178 = .ok (.getfield 275, 3) := by decide +kernel
theorem dX12_readConstant_181 : decode cX12_readConstant 181 = .ok (.ifCond .ne 12, 3) := by decide +kernel
theorem dX12_readConstant_184 : decode cX12_readConstant 184 = .ok (.aload_n 0, 1) := by decide +kernel
theorem dX12_readConstant_185 : decode cX12_readConstant 185 = .ok (.bipush 125, 2) := by decide +kernel
theorem dX12_readConstant_187 : decode cX12_readConstant 187 = .ok (.invokevirtual 281, 3) := by decide +kernel
theorem dX12_readConstant_190 : decode cX12_readConstant 190 = .ok (.ifCond .eq (-18), 3) := by decide +kernel
theorem dX12_readConstant_193 : decode cX12_readConstant 193 = .ok (.aload_n 0, 1) := by decide +kernel
theorem dX12_readConstant_194 : decode cX12_readConstant 194 = .ok (.bipush 125, 2) := by decide +kernel
theorem dX12_readConstant_196 : decode cX12_readConstant 196 = .ok (.invokevirtual 318, 3) := by decide +kernel
theorem dX12_readConstant_199 : decode cX12_readConstant 199 = .ok (.return_, 1) := by decide +kernel
theorem dX12_readAct_0 : decode cX12_readAct 0 = .ok (.aload_n 0, 1) := by decide +kernel
theorem dX12_readAct_1 : decode cX12_readAct 1 = .ok (.ldc 239, 2) := by decide +kernel
theorem dX12_readAct_3 : decode cX12_readAct 3 = .ok (.invokevirtual 235, 3) := by decide +kernel
theorem dX12_readAct_6 : decode cX12_readAct 6 = .ok (.ifCond .ne 10, 3) := by decide +kernel
theorem dX12_readAct_9 : decode cX12_readAct 9 = .ok (.aload_n 0, 1) := by decide +kernel
theorem dX12_readAct_10 : decode cX12_readAct 10 = .ok (.iconst 2, 1) := by decide +kernel
theorem dX12_readAct_11 : decode cX12_readAct 11 = .ok (.invokevirtual 288, 3) := by decide +kernel
theorem dX12_readAct_14 : decode cX12_readAct 14 = .ok (.istore_n 2, 1) := by decide +kernel
theorem dX12_readAct_15 : decode cX12_readAct 15 = .ok (.return_, 1) := by decide +kernel
theorem dX12_readAct_16 : decode cX12_readAct 16 = .ok (.aload_n 0, 1) := by decide +kernel
theorem dX12_readAct_17 : decode cX12_readAct 17 = .ok (.invokevirtual 285, 3) := by decide +kernel
theorem dX12_readAct_20 : decode cX12_readAct 20 = .ok (.aload_n 0, 1) := by decide +kernel
theorem dX12_readAct_21 : decode cX12_readAct 21 = .ok (.invokevirtual 291, 3) := by decide +kernel
theorem dX12_readAct_24 : decode cX12_readAct 24 = .ok (.ifCond .ne 10, 3) := by decide +kernel
theorem dX12_readAct_27 : decode cX12_readAct 27 = .ok (.aload_n 0, 1) := by decide +kernel
theorem dX12_readAct_28 : decode cX12_readAct 28 = .ok (.iconst 2, 1) := by decide +kernel
theorem dX12_readAct_29 : decode cX12_readAct 29 = .ok (.invokevirtual 288, 3) := by decide +kernel
theorem dX12_readAct_32 : decode cX12_readAct 32 = .ok (.istore_n 2, 1) := by decide +kernel
theorem dX12_readAct_33 : decode cX12_readAct 33 = .ok (.return_, 1) := by decide +kernel
theorem dX12_readAct_34 : decode cX12_readAct 34 = .ok (.iconst 0, 1) := by decide +kernel
theorem dX12_readAct_35 : decode cX12_readAct 35 = .ok (.istore_n 2, 1) := by decide +kernel
theorem dX12_readAct_36 : decode cX12_readAct 36 = .ok (.iload_n 2, 1) := by decide +kernel
theorem dX12_readAct_37 : decode cX12_readAct 37 = .ok (.aload_n 0, 1) := by decide +kernel
theorem dX12_readAct_38 : decode cX12_readAct 38 = .ok (.getfield 20, 3) := by decide +kernel
theorem dX12_readAct_41 : decode cX12_readAct 41 = .ok (.aload_n 0, 1) := by decide +kernel
theorem dX12_readAct_42 : decode cX12_readAct 42 = .ok (.getfield 263, 3) := by decide +kernel
theorem dX12_readAct_45 : decode cX12_readAct 45 = .ok (.iaload, 1) := by decide +kernel
theorem dX12_readAct_46 : decode cX12_readAct 46 = .ok (.if_icmp .ge 33, 3) := by decide +kernel
theorem dX12_readAct_49 : decode cX12_readAct 49 = .ok (.aload_n 0, 1) := by decide +kernel
theorem dX12_readAct_50 : decode cX12_readAct 50 = .ok (.aload_n 0, 1) := by decide +kernel
theorem dX12_readAct_51 : decode cX12_readAct 51 = .ok (.getfield 23, 3) := by decide +kernel
theorem dX12_readAct_54 : decode cX12_readAct 54 = .ok (.iconst 4, 1) := by decide +kernel
theorem dX12_readAct_55 : decode cX12_readAct 55 = .ok (.aload_n 0, 1) := by decide +kernel
theorem dX12_readAct_56 : decode cX12_readAct 56 = .ok (.getfield 263, 3) := by decide +kernel
theorem dX12_readAct_59 : decode cX12_readAct 59 = .ok (.imul, 1) := by decide +kernel
theorem dX12_readAct_60 : decode cX12_readAct 60 = .ok (.iload_n 2, 1) := by decide +kernel
theorem dX12_readAct_61 : decode cX12_readAct 61 = .ok (.iadd, 1) := by decide +kernel
theorem dX12_readAct_62 : decode cX12_readAct 62 = .ok (.iaload, 1) := by decide +kernel
theorem dX12_readAct_63 : decode cX12_readAct 63 = .ok (.aload_n 0, 1) := by decide +kernel
theorem dX12_readAct_64 : decode cX12_readAct 64 = .ok (.invokevirtual 294, 3) := by decide +kernel
theorem dX12_readAct_67 : decode cX12_readAct 67 = .ok (.invokevirtual 297, 3) := by decide +kernel
theorem dX12_readAct_70 : decode cX12_readAct 70 = .ok (.ifCond .ne 9, 3) := by decide +kernel
theorem dX12_readAct_73 : decode cX12_readAct 73 = .ok (.iinc 2 1, 3) := by decide +kernel
theorem dX12_readAct_76 : decode cX12_readAct 76 = .ok (.goto (-40), 3) := by decide +kernel
theorem dX12_readAct_79 : decode cX12_readAct 79 = .ok (.iload_n 2, 1) := by decide +kernel
theorem dX12_readAct_80 : decode cX12_readAct 80 = .ok (.aload_n 0, 1) := by decide +kernel
theorem dX12_readAct_81 : decode cX12_readAct 81 = .ok (.getfield 20, 3) := by decide +kernel
theorem dX12_readAct_84 : decode cX12_readAct 84 = .ok (.aload_n 0, 1) := by decide +kernel
theorem dX12_readAct_85 : decode cX12_readAct 85 = .ok (.getfield 263, 3) := by decide +kernel
theorem dX12_readAct_88 : decode cX12_readAct 88 = .ok (.iaload, 1) := by decide +kernel
theorem dX12_readAct_89 : decode cX12_readAct 89 = .ok (.if_icmp .ge 42, 3) := by decide +kernel
theorem dX12_readAct_92 : decode cX12_readAct 92 = .ok (.iload_n 1, 1) := by decide +kernel
theorem dX12_readAct_93 : decode cX12_readAct 93 = .ok (.iconst (-1), 1) := by decide +kernel
theorem dX12_readAct_94 : decode cX12_readAct 94 = .ok (.if_icmp .ne 19, 3) := by decide +kernel
theorem dX12_readAct_97 : decode cX12_readAct 97 = .ok (.aload_n 0, 1) := by decide +kernel
theorem dX12_readAct_98 : decode cX12_readAct 98 = .ok (.getfield 44, 3) := by decide +kernel
theorem dX12_readAct_101 : decode cX12_readAct 101 = .ok (.iconst 4, 1) := by decide +kernel
theorem dX12_readAct_102 : decode cX12_readAct 102 = .ok (.aload_n 0, 1) := by decide +kernel
theorem dX12_readAct_103 : decode cX12_readAct 103 = .ok (.getfield 269, 3) := by decide +kernel
theorem dX12_readAct_106 : decode cX12_readAct 106 = .ok (.imul, 1) := by decide +kernel
theorem dX12_readAct_107 : decode cX12_readAct 107 = .ok (.iload_n 2, 1) := by decide +kernel
theorem dX12_readAct_108 : decode cX12_readAct 108 = .ok (.iadd, 1) := by decide +kernel
theorem dX12_readAct_109 : decode cX12_readAct 109 = .ok (.iaload, 1) := by decide +kernel
theorem dX12_readAct_110 : decode cX12_readAct 110 = .ok (.goto 13, 3) := by decide +kernel
theorem dX12_readAct_113 : decode cX12_readAct 113 = .ok (.aload_n 0, 1) := by decide +kernel
theorem dX12_readAct_114 : decode cX12_readAct 114 = .ok (.getfield 53, 3) := by decide +kernel
theorem dX12_readAct_117 : decode cX12_readAct 117 = .ok (.iconst 4, 1) := by decide +kernel
theorem dX12_readAct_118 : decode cX12_readAct 118 = .ok (.iload_n 1, 1) := by decide +kernel
theorem dX12_readAct_119 : decode cX12_readAct 119 = .ok (.imul, 1) := by decide +kernel
theorem dX12_readAct_120 : decode cX12_readAct 120 = .ok (.iload_n 2, 1) := by decide +kernel
theorem dX12_readAct_121 : decode cX12_readAct 121 = .ok (.iadd, 1) := by decide +kernel
theorem dX12_readAct_122 : decode cX12_readAct 122 = .ok (.iaload, 1) := by decide +kernel
theorem dX12_readAct_123 : decode cX12_readAct 123 = .ok (.iconst (-1), 1) := by decide +kernel
theorem dX12_readAct_124 : decode cX12_readAct 124 = .ok (.if_icmp .eq 7, 3) := by decide +kernel
theorem dX12_readAct_127 : decode cX12_readAct 127 = .ok (.iconst 1, 1) := by decide +kernel
theorem dX12_readAct_128 : decode cX12_readAct 128 = .ok (.goto 4, 3) := by decide +kernel
theorem dX12_readAct_131 : decode cX12_readAct 131 = .ok (.iconst 0, 1) := by decide +kernel
theorem dX12_readAct_132 : decode cX12_readAct 132 = .ok (.istore_n 3, 1) := by decide +kernel
theorem dX12_readAct_133 : decode cX12_readAct 133 = .ok (.iload_n 3, 1) := by decide +kernel
theorem dX12_readAct_134 : decode cX12_readAct 134 = .ok (.ifCond .ne 8, 3) := by decide +kernel
theorem dX12_readAct_137 : decode cX12_readAct 137 = .ok (.iload_n 2, 1) := by decide +kernel
theorem dX12_readAct_138 : decode cX12_readAct 138 = .ok (.iconst 4, 1) := by decide +kernel
theorem dX12_readAct_139 : decode cX12_readAct 139 = .ok (.if_icmp .ne 19, 3) := by decide +kernel
theorem dX12_readAct_142 : decode cX12_readAct 142 = .ok (.aload_n 0, 1) := by decide +kernel
theorem dX12_readAct_143 : decode cX12_readAct 143 = .ok (.iload_n 3, 1) := by decide +kernel
theorem dX12_readAct_144 : decode cX12_readAct 144 = .ok (.ifCond .eq 7, 3) := by decide +kernel
theorem dX12_readAct_147 : decode cX12_readAct 147 = .ok (.iconst 3, 1) := by decide +kernel
theorem dX12_readAct_148 : decode cX12_readAct 148 = .ok (.goto 4, 3) := by decide +kernel
theorem dX12_readAct_151 : decode cX12_readAct 151 = .ok (.iconst 5, 1) := by decide +kernel
theorem dX12_readAct_152 : decode cX12_readAct 152 = .ok (.invokevirtual 288, 3) := by decide +kernel
theorem dX12_readAct_155 : decode cX12_readAct 155 = .ok (.istore 4, 2) := by decide +kernel
theorem dX12_readAct_157 : decode cX12_readAct 157 = .ok (.return_, 1) := by decide +kernel
theorem dX12_readAct_158 : decode cX12_readAct 158 = .ok (.iload_n 2, 1) := by decide +kernel
theorem dX12_readAct_159 : decode cX12_readAct 159 = .ok (.aload_n 0, 1) := by decide +kernel
theorem dX12_readAct_160 : decode cX12_readAct 160 = .ok (.getfield 20, 3) := by decide +kernel
theorem dX12_readAct_163 : decode cX12_readAct 163 = .ok (.aload_n 0, 1) := by decide +kernel
theorem dX12_readAct_164 : decode cX12_readAct 164 = .ok (.getfield 263, 3) := by decide +kernel
theorem dX12_readAct_167 : decode cX12_readAct 167 = .ok (.iaload, 1) := by decide +kernel
theorem dX12_readAct_168 : decode cX12_readAct 168 = .ok (.if_icmp .ne 33, 3) := by decide +kernel
theorem dX12_readAct_171 : decode cX12_readAct 171 = .ok (.aload_n 0, 1) := by decide +kernel
theorem dX12_readAct_172 : decode cX12_readAct 172 = .ok (.getfield 23, 3) := by decide +kernel
theorem dX12_readAct_175 : decode cX12_readAct 175 = .ok (.iconst 4, 1) := by decide +kernel
theorem dX12_readAct_176 : decode cX12_readAct 176 = .ok (.aload_n 0, 1) := by decide +kernel
theorem dX12_readAct_177 : decode cX12_readAct 177 = .ok (.getfield 263, 3) := by decide +kernel
theorem dX12_readAct_180 : decode cX12_readAct 180 = .ok (.imul, 1) := by decide +kernel
theorem dX12_readAct_181 : decode cX12_readAct 181 = .ok (.iload_n 2, 1) := by decide +kernel
theorem dX12_readAct_182 : decode cX12_readAct 182 = .ok (.iadd, 1) := by decide +kernel
theorem dX12_readAct_183 : decode cX12_readAct 183 = .ok (.aload_n 0, 1) := by decide +kernel
theorem dX12_readAct_184 : decode cX12_readAct 184 = .ok (.invokevirtual 294, 3) := by decide +kernel
theorem dX12_readAct_187 : decode cX12_readAct 187 = .ok (.iastore, 1) := by decide +kernel
theorem dX12_readAct_188 : decode cX12_readAct 188 = .ok (.aload_n 0, 1) := by decide +kernel
theorem dX12_readAct_189 : decode cX12_readAct 189 = .ok (.getfield 20, 3) := by decide +kernel
theorem dX12_readAct_192 : decode cX12_readAct 192 = .ok (.aload_n 0, 1) := by decide +kernel
theorem dX12_readAct_193 : decode cX12_readAct 193 = .ok (.getfield 263, 3) := by decide +kernel
theorem dX12_readAct_196 : decode cX12_readAct 196 = .ok (.dup2, 1) := by decide +kernel
theorem dX12_readAct_197 : decode cX12_readAct 197 = .ok (.iaload, 1) := by decide +kernel
theorem dX12_readAct_198 : decode cX12_readAct 198 = .ok (.iconst 1, 1) := by decide +kernel
theorem dX12_readAct_199 : decode cX12_readAct 199 = .ok (.iadd, 1) := by decide +kernel
theorem dX12_readAct_200 : decode cX12_readAct 200 = .ok (.iastore, 1) := by decide +kernel
theorem dX12_readAct_201 : decode cX12_readAct 201 = .ok (.aload_n 0, 1) := by decide +kernel
theorem dX12_readAct_202 : decode cX12_readAct 202 = .ok (.invokevirtual 285, 3) := by decide +kernel
theorem dX12_readAct_205 : decode cX12_readAct 205 = .ok (.aload_n 0, 1) := by decide +kernel
theorem dX12_readAct_206 : decode cX12_readAct 206 = .ok (.bipush 61, 2) := by decide +kernel
theorem dX12_readAct_208 : decode cX12_readAct 208 = .ok (.invokevirtual 318, 3) := by decide +kernel
theorem dX12_readAct_211 : decode cX12_readAct 211 = .ok (.aload_n 0, 1) := by decide +kernel
theorem dX12_readAct_212 : decode cX12_readAct 212 = .ok (.iconst 1, 1) := by decide +kernel
theorem dX12_readAct_213 : decode cX12_readAct 213 = .ok (.iconst 1, 1) := by decide +kernel
theorem dX12_readAct_214 : decode cX12_readAct 214 = .ok (.iload_n 1, 1) := by decide +kernel
theorem dX12_readAct_215 : decode cX12_readAct 215 = .ok (.iconst (-1), 1) := by decide +kernel
theorem dX12_readAct_216 : decode cX12_readAct 216 = .ok (.if_icmp .eq 7, 3) := by decide +kernel
theorem dX12_readAct_219 : decode cX12_readAct 219 = .ok (.iconst 1, 1) := by decide +kernel
theorem dX12_readAct_220 : decode cX12_readAct 220 = .ok (.goto 4, 3) := by decide +kernel
theorem dX12_readAct_223 : decode cX12_readAct 223 = .ok (.iconst 0, 1) := by decide +kernel
theorem dX12_readAct_224 : decode cX12_readAct 224 = .ok (.invokevirtual 331, 3) := by decide +kernel
theorem dX12_readAct_227 : decode cX12_readAct 227 = .ok (.istore 4, 2) := by decide +kernel
theorem dX12_readAct_229 : decode cX12_readAct 229 = .ok (.aload_n 0, 1) := by decide +kernel
theorem dX12_readAct_230 : decode cX12_readAct 230 = .ok (.bipush 59, 2) := by decide +kernel
theorem dX12_readAct_232 : decode cX12_readAct 232 = .ok (.invokevirtual 318, 3) := by decide +kernel
theorem dX12_readAct_235 : decode cX12_readAct 235 = .ok (.iload_n 1, 1) := by decide +kernel
theorem dX12_readAct_236 : decode cX12_readAct 236 = .ok (.iconst (-1), 1) := by decide +kernel
theorem dX12_readAct_237 : decode cX12_readAct 237 = .ok (.if_icmp .ne 21, 3) := by decide +kernel
theorem dX12_readAct_240 : decode cX12_readAct 240 = .ok (.aload_n 0, 1) := by decide +kernel
theorem dX12_readAct_241 : decode cX12_readAct 241 = .ok (.getfield 44, 3) := by decide +kernel
theorem dX12_readAct_244 : decode cX12_readAct 244 = .ok (.iconst 4, 1) := by decide +kernel
theorem dX12_readAct_245 : decode cX12_readAct 245 = .ok (.aload_n 0, 1) := by decide +kernel
theorem dX12_readAct_246 : decode cX12_readAct 246 = .ok (.getfield 269, 3) := by decide +kernel
theorem dX12_readAct_249 : decode cX12_readAct 249 = .ok (.imul, 1) := by decide +kernel
theorem dX12_readAct_250 : decode cX12_readAct 250 = .ok (.iload_n 2, 1) := by decide +kernel
theorem dX12_readAct_251 : decode cX12_readAct 251 = .ok (.iadd, 1) := by decide +kernel
theorem dX12_readAct_252 : decode cX12_readAct 252 = .ok (.iload 4, 2) := by decide +kernel
theorem dX12_readAct_254 : decode cX12_readAct 254 = .ok (.iastore, 1) := by decide +kernel
theorem dX12_readAct_255 : decode cX12_readAct 255 = .ok (.goto 15, 3) := by decide +kernel
theorem dX12_readAct_258 : decode cX12_readAct 258 = .ok (.aload_n 0, 1) := by decide +kernel
theorem dX12_readAct_259 : decode cX12_readAct 259 = .ok (.getfield 53, 3) := by decide +kernel
theorem dX12_readAct_262 : decode cX12_readAct 262 = .ok (.iconst 4, 1) := by decide +kernel
theorem dX12_readAct_263 : decode cX12_readAct 263 = .ok (.iload_n 1, 1) := by decide +kernel
theorem dX12_readAct_264 : decode cX12_readAct 264 = .ok (.imul, 1) := by decide +kernel
theorem dX12_readAct_265 : decode cX12_readAct 265 = .ok (.iload_n 2, 1) := by decide +kernel
theorem dX12_readAct_266 : decode cX12_readAct 266 = .ok (.iadd, 1) := by decide +kernel
theorem dX12_readAct_267 : decode cX12_readAct 267 = .ok (.iload 4, 2) := by decide +kernel
theorem dX12_readAct_269 : decode cX12_readAct 269 = .ok (.iastore, 1) := by decide +kernel
theorem dX12_readAct_270 : decode cX12_readAct 270 = .ok (.return_, 1) := by decide +kernel
theorem dX12_readMember_0 : decode cX12_readMember 0 = .ok (.aload_n 0, 1) := by decide +kernel
theorem dX12_readMember_1 : decode cX12_readMember 1 = .ok (.ldc 239, 2) := by decide +kernel
theorem dX12_readMember_3 : decode cX12_readMember 3 = .ok (.invokevirtual 235, 3) := by decide +kernel
theorem dX12_readMember_6 : decode cX12_readMember 6 = .ok (.ifCond .eq 11, 3) := by decide +kernel
theorem dX12_readMember_9 : decode cX12_readMember 9 = .ok (.aload_n 0, 1) := by decide +kernel
theorem dX12_readMember_10 : decode cX12_readMember 10 = .ok (.iconst (-1), 1) := by decide +kernel
theorem dX12_readMember_11 : decode cX12_readMember 11 = .ok (.invokevirtual 335, 3) := by decide +kernel
theorem dX12_readMember_14 : decode cX12_readMember 14 = .ok (.goto 243, 3) := by decide +kernel
theorem dX12_readMember_17 : decode cX12_readMember 17 = .ok (.aload_n 0, 1) := by decide +kernel
theorem dX12_readMember_18 : decode cX12_readMember 18 = .ok (.ldc 241, 2) := by decide +kernel
theorem dX12_readMember_20 : decode cX12_readMember 20 = .ok (.invokevirtual 235, 3) := by decide +kernel
theorem dX12_readMember_23 : decode cX12_readMember 23 = .ok (.ifCond .eq 10, 3) := by decide +kernel
theorem dX12_readMember_26 : decode cX12_readMember 26 = .ok (.aload_n 0, 1) := by decide +kernel
theorem dX12_readMember_27 : decode cX12_readMember 27 = .ok (.invokevirtual 338, 3) := by decide +kernel
theorem dX12_readMember_30 : decode cX12_readMember 30 = .ok (.goto 227, 3) := by decide +kernel
theorem dX12_readMember_33 : decode cX12_readMember 33 = .ok (.aload_n 0, 1) := by decide +kernel
theorem dX12_readMember_34 : decode cX12_readMember 34 = .ok (.ldc 243, 2) := by decide +kernel
theorem dX12_readMember_36 : decode cX12_readMember 36 = .ok (.invokevirtual 235, 3) := by decide +kernel
theorem dX12_readMember_39 : decode cX12_readMember 39 = .ok (.ifCond .eq 77, 3) := by decide +kernel
theorem dX12_readMember_42 : decode cX12_readMember 42 = .ok (.aload_n 0, 1) := by decide +kernel
theorem dX12_readMember_43 : decode cX12_readMember 43 = .ok (.getfield 35, 3) := by decide +kernel
theorem dX12_readMember_46 : decode cX12_readMember 46 = .ok (.aload_n 0, 1) := by decide +kernel
theorem dX12_readMember_47 : decode cX12_readMember 47 = .ok (.getfield 269, 3) := by decide +kernel
theorem dX12_readMember_50 : decode cX12_readMember 50 = .ok (.iaload, 1) := by decide +kernel
theorem dX12_readMember_51 : decode cX12_readMember 51 = .ok (.iconst 3, 1) := by decide +kernel
theorem dX12_readMember_52 : decode cX12_readMember 52 = .ok (.if_icmp .ne 10, 3) := by decide +kernel
theorem dX12_readMember_55 : decode cX12_readMember 55 = .ok (.aload_n 0, 1) := by decide +kernel
theorem dX12_readMember_56 : decode cX12_readMember 56 = .ok (.iconst 5, 1) := by decide +kernel
theorem dX12_readMember_57 : decode cX12_readMember 57 = .ok (.invokevirtual 288, 3) := by decide +kernel
theorem dX12_readMember_60 : decode cX12_readMember 60 = .ok (.istore_n 1, 1) := by decide +kernel
theorem dX12_readMember_61 : decode cX12_readMember 61 = .ok (.return_, 1) := by decide +kernel
theorem dX12_readMember_62 : decode cX12_readMember 62 = .ok (.aload_n 0, 1) := by decide +kernel
theorem dX12_readMember_63 : decode cX12_readMember 63 = .ok (.invokevirtual 285, 3) := by decide +kernel
theorem dX12_readMember_66 : decode cX12_readMember 66 = .ok (.aload_n 0, 1) := by decide +kernel
theorem dX12_readMember_67 : decode cX12_readMember 67 = .ok (.getfield 65, 3) := by decide +kernel
theorem dX12_readMember_70 : decode cX12_readMember 70 = .ok (.iconst 3, 1) := by decide +kernel
theorem dX12_readMember_71 : decode cX12_readMember 71 = .ok (.aload_n 0, 1) := by decide +kernel
theorem dX12_readMember_72 : decode cX12_readMember 72 = .ok (.getfield 269, 3) := by decide +kernel
theorem dX12_readMember_75 : decode cX12_readMember 75 = .ok (.imul, 1) := by decide +kernel
theorem dX12_readMember_76 : decode cX12_readMember 76 = .ok (.aload_n 0, 1) := by decide +kernel
theorem dX12_readMember_77 : decode cX12_readMember 77 = .ok (.getfield 35, 3) := by decide +kernel
theorem dX12_readMember_80 : decode cX12_readMember 80 = .ok (.aload_n 0, 1) := by decide +kernel
theorem dX12_readMember_81 : decode cX12_readMember 81 = .ok (.getfield 269, 3) := by decide +kernel
theorem dX12_readMember_84 : decode cX12_readMember 84 = .ok (.iaload, 1) := by decide +kernel
theorem dX12_readMember_85 : decode cX12_readMember 85 = .ok (.iadd, 1) := by decide +kernel
theorem dX12_readMember_86 : decode cX12_readMember 86 = .ok (.aload_n 0, 1) := by decide +kernel
theorem dX12_readMember_87 : decode cX12_readMember 87 = .ok (.iconst 0, 1) := by decide +kernel
theorem dX12_readMember_88 : decode cX12_readMember 88 = .ok (.iconst 0, 1) := by decide +kernel
theorem dX12_readMember_89 : decode cX12_readMember 89 = .ok (.iconst 0, 1) := by decide +kernel
theorem dX12_readMember_90 : decode cX12_readMember 90 = .ok (.invokevirtual 331, 3) := by decide +kernel
theorem dX12_readMember_93 : decode cX12_readMember 93 = .ok (.iastore, 1) := by decide +kernel
theorem dX12_readMember_94 : decode cX12_readMember 94 = .ok (.aload_n 0, 1) := by decide +kernel
theorem dX12_readMember_95 : decode cX12_readMember 95 = .ok (.getfield 35, 3) := by decide +kernel
theorem dX12_readMember_98 : decode cX12_readMember 98 = .ok (.aload_n 0, 1) := by decide +kernel
theorem dX12_readMember_99 : decode cX12_readMember 99 = .ok (.getfield 269, 3) := by decide +kernel
theorem dX12_readMember_102 : decode cX12_readMember 102 = .ok (.dup2, 1) := by decide +kernel
theorem dX12_readMember_103 : decode cX12_readMember 103 = .ok (.iaload, 1) := by decide +kernel
theorem dX12_readMember_104 : decode cX12_readMember 104 = .ok (.iconst 1, 1) := by decide +kernel
theorem dX12_readMember_105 : decode cX12_readMember 105 = .ok (.iadd, 1) := by decide +kernel
theorem dX12_readMember_106 : decode cX12_readMember 106 = .ok (.iastore, 1) := by decide +kernel
theorem dX12_readMember_107 : decode cX12_readMember 107 = .ok (.aload_n 0, 1) := by decide +kernel
theorem dX12_readMember_108 : decode cX12_readMember 108 = .ok (.bipush 59, 2) := by decide +kernel
theorem dX12_readMember_110 : decode cX12_readMember 110 = .ok (.invokevirtual 318, 3) := by decide +kernel
theorem dX12_readMember_113 : decode cX12_readMember 113 = .ok (.goto 144, 3) := by decide +kernel
theorem dX12_readMember_116 : decode cX12_readMember 116 = .ok (.aload_n 0, 1) := by decide +kernel
theorem dX12_readMember_117 : decode cX12_readMember 117 = .ok (.ldc 244, 2) := by decide +kernel
theorem dX12_readMember_119 : decode cX12_readMember 119 = .ok (.invokevirtual 235, 3) := by decide +kernel
theorem dX12_readMember_122 : decode cX12_readMember 122 = .ok (.ifCond .eq 113, 3) := by decide +kernel
theorem dX12_readMember_125 : decode cX12_readMember 125 = .ok (.aload_n 0, 1) := by decide +kernel
theorem dX12_readMember_126 : decode cX12_readMember 126 = .ok (.getfield 38, 3) := by decide +kernel
theorem dX12_readMember_129 : decode cX12_readMember 129 = .ok (.aload_n 0, 1) := by decide +kernel
theorem dX12_readMember_130 : decode cX12_readMember 130 = .ok (.getfield 269, 3) := by decide +kernel
theorem dX12_readMember_133 : decode cX12_readMember 133 = .ok (.iaload, 1) := by decide +kernel
theorem dX12_readMember_134 : decode cX12_readMember 134 = .ok (.iconst 4, 1) := by decide +kernel
theorem dX12_readMember_135 : decode cX12_readMember 135 = .ok (.if_icmp .ne 10, 3) := by decide +kernel
theorem dX12_readMember_138 : decode cX12_readMember 138 = .ok (.aload_n 0, 1) := by decide +kernel
theorem dX12_readMember_139 : decode cX12_readMember 139 = .ok (.iconst 5, 1) := by decide +kernel
theorem dX12_readMember_140 : decode cX12_readMember 140 = .ok (.invokevirtual 288, 3) := by decide +kernel
theorem dX12_readMember_143 : decode cX12_readMember 143 = .ok (.istore_n 1, 1) := by decide +kernel
theorem dX12_readMember_144 : decode cX12_readMember 144 = .ok (.return_, 1) := by decide +kernel
theorem dX12_readMember_145 : decode cX12_readMember 145 = .ok (.aload_n 0, 1) := by decide +kernel
theorem dX12_readMember_146 : decode cX12_readMember 146 = .ok (.invokevirtual 285, 3) := by decide +kernel
theorem dX12_readMember_149 : decode cX12_readMember 149 = .ok (.aload_n 0, 1) := by decide +kernel
theorem dX12_readMember_150 : decode cX12_readMember 150 = .ok (.aload_n 0, 1) := by decide +kernel
theorem dX12_readMember_151 : decode cX12_readMember 151 = .ok (.invokevirtual 328, 3) := by decide +kernel
theorem dX12_readMember_154 : decode cX12_readMember 154 = .ok (.invokevirtual 314, 3) := by decide +kernel
theorem dX12_readMember_157 : decode cX12_readMember 157 = .ok (.istore_n 1, 1) := by decide +kernel
theorem dX12_readMember_158 : decode cX12_readMember 158 = .ok (.aload_n 0, 1) := by decide +kernel
theorem dX12_readMember_159 : decode cX12_readMember 159 = .ok (.getfield 275, 3) := by decide +kernel
theorem dX12_readMember_162 : decode cX12_readMember 162 = .ok (.ifCond .le 4, 3) := by decide +kernel
theorem dX12_readMember_165 : decode cX12_readMember 165 = .ok (.return_, 1) := by decide +kernel
theorem dX12_readMember_166 : decode cX12_readMember 166 = .ok (.iconst 4, 1) := by decide +kernel
theorem dX12_readMember_167 : decode cX12_readMember 167 = .ok (.aload_n 0, 1) := by decide +kernel
theorem dX12_readMember_168 : decode cX12_readMember 168 = .ok (.getfield 269, 3) := by decide +kernel
theorem dX12_readMember_171 : decode cX12_readMember 171 = .ok (.imul, 1) := by decide +kernel
theorem dX12_readMember_172 : decode cX12_readMember 172 = .ok (.aload_n 0, 1) := by decide +kernel
theorem dX12_readMember_173 : decode cX12_readMember 173 = .ok (.getfield 38, 3) := by decide +kernel
theorem dX12_readMember_176 : decode cX12_readMember 176 = .ok (.aload_n 0, 1) := by decide +kernel
theorem dX12_readMember_177 : decode cX12_readMember 177 = .ok (.getfield 269, 3) := by decide +kernel
theorem dX12_readMember_180 : decode cX12_readMember 180 = .ok (.iaload, 1) := by decide +kernel
theorem dX12_readMember_181 : decode cX12_readMember 181 = .ok (.iadd, 1) := by decide +kernel
theorem dX12_readMember_182 : decode cX12_readMember 182 = .ok (.istore_n 2, 1) := by decide +kernel
theorem dX12_readMember_183 : decode cX12_readMember 183 = .ok (.aload_n 0, 1) := by decide +kernel
theorem dX12_readMember_184 : decode cX12_readMember 184 = .ok (.getfield 68, 3) := by decide +kernel
theorem dX12_readMember_187 : decode cX12_readMember 187 = .ok (.iload_n 2, 1) := by decide +kernel
theorem dX12_readMember_188 : decode cX12_readMember 188 = .ok (.iload_n 1, 1) := by decide +kernel
theorem dX12_readMember_189 : decode cX12_readMember 189 = .ok (.iastore, 1) := by decide +kernel
theorem dX12_readMember_190 : decode cX12_readMember 190 = .ok (.aload_n 0, 1) := by decide +kernel
theorem dX12_readMember_191 : decode cX12_readMember 191 = .ok (.getfield 38, 3) := by decide +kernel
theorem dX12_readMember_194 : decode cX12_readMember 194 = .ok (.aload_n 0, 1) := by decide +kernel
theorem dX12_readMember_195 : decode cX12_readMember 195 = .ok (.getfield 269, 3) := by decide +kernel
theorem dX12_readMember_198 : decode cX12_readMember 198 = .ok (.dup2, 1) := by decide +kernel
theorem dX12_readMember_199 : decode cX12_readMember 199 = .ok (.iaload, 1) := by decide +kernel
theorem dX12_readMember_200 : decode cX12_readMember 200 = .ok (.iconst 1, 1) := by decide +kernel
theorem dX12_readMember_201 : decode cX12_readMember 201 = .ok (.iadd, 1) := by decide +kernel
theorem dX12_readMember_202 : decode cX12_readMember 202 = .ok (.iastore, 1) := by decide +kernel
theorem dX12_readMember_203 : decode cX12_readMember 203 = .ok (.aload_n 0, 1) := by decide +kernel
theorem dX12_readMember_204 : decode cX12_readMember 204 = .ok (.invokevirtual 285, 3) := by decide +kernel
theorem dX12_readMember_207 : decode cX12_readMember 207 = .ok (.aload_n 0, 1) := by decide +kernel
theorem dX12_readMember_208 : decode cX12_readMember 208 = .ok (.bipush 61, 2) := by decide +kernel
theorem dX12_readMember_210 : decode cX12_readMember 210 = .ok (.invokevirtual 318, 3) := by decide +kernel
theorem dX12_readMember_213 : decode cX12_readMember 213 = .ok (.aload_n 0, 1) := by decide +kernel
theorem dX12_readMember_214 : decode cX12_readMember 214 = .ok (.getfield 71, 3) := by decide +kernel
theorem dX12_readMember_217 : decode cX12_readMember 217 = .ok (.iload_n 2, 1) := by decide +kernel
theorem dX12_readMember_218 : decode cX12_readMember 218 = .ok (.aload_n 0, 1) := by decide +kernel
theorem dX12_readMember_219 : decode cX12_readMember 219 = .ok (.iconst 0, 1) := by decide +kernel
theorem dX12_readMember_220 : decode cX12_readMember 220 = .ok (.iconst 0, 1) := by decide +kernel
theorem dX12_readMember_221 : decode cX12_readMember 221 = .ok (.iconst 0, 1) := by decide +kernel
theorem dX12_readMember_222 : decode cX12_readMember 222 = .ok (.invokevirtual 331, 3) := by decide +kernel
theorem dX12_readMember_225 : decode cX12_readMember 225 = .ok (.iastore, 1) := by decide +kernel
theorem dX12_readMember_226 : decode cX12_readMember 226 = .ok (.aload_n 0, 1) := by decide +kernel
theorem dX12_readMember_227 : decode cX12_readMember 227 = .ok (.bipush 59, 2) := by decide +kernel
theorem dX12_readMember_229 : decode cX12_readMember 229 = .ok (.invokevirtual 318, 3) := by decide +kernel
theorem dX12_readMember_232 : decode cX12_readMember 232 = .ok (.goto 25, 3) := by decide +kernel
theorem dX12_readMember_235 : decode cX12_readMember 235 = .ok (.aload_n 0, 1) := by decide +kernel
theorem dX12_readMember_236 : decode cX12_readMember 236 = .ok (.ldc 245, 2) := by decide +kernel
theorem dX12_readMember_238 : decode cX12_readMember 238 = .ok (.invokevirtual 235, 3) := by decide +kernel
theorem dX12_readMember_241 : decode cX12_readMember 241 = .ok (.ifCond .eq 10, 3) := by decide +kernel
theorem dX12_readMember_244 : decode cX12_readMember 244 = .ok (.aload_n 0, 1) := by decide +kernel
theorem dX12_readMember_245 : decode cX12_readMember 245 = .ok (.invokevirtual 341, 3) := by decide +kernel
theorem dX12_readMember_248 : decode cX12_readMember 248 = .ok (.goto 9, 3) := by decide +kernel
theorem dX12_readMember_251 : decode cX12_readMember 251 = .ok (.aload_n 0, 1) := by decide +kernel
theorem dX12_readMember_252 : decode cX12_readMember 252 = .ok (.iconst 2, 1) := by decide +kernel
theorem dX12_readMember_253 : decode cX12_readMember 253 = .ok (.invokevirtual 288, 3) := by decide +kernel
theorem dX12_readMember_256 : decode cX12_readMember 256 = .ok (.istore_n 1, 1) := by decide +kernel
theorem dX12_readMember_257 : decode cX12_readMember 257 = .ok (.return_, 1) := by decide +kernel
theorem dX12_readTable_0 : decode cX12_readTable 0 = .ok (.aload_n 0, 1) := by decide +kernel
theorem dX12_readTable_1 : decode cX12_readTable 1 = .ok (.getfield 32, 3) := by decide +kernel
theorem dX12_readTable_4 : decode cX12_readTable 4 = .ok (.aload_n 0, 1) := by decide +kernel
theorem dX12_readTable_5 : decode cX12_readTable 5 = .ok (.getfield 269, 3) := by decide +kernel
theorem dX12_readTable_8 : decode cX12_readTable 8 = .ok (.iaload, 1) := by decide +kernel
theorem dX12_readTable_9 : decode cX12_readTable 9 = .ok (.iconst 4, 1) := by decide +kernel
theorem dX12_readTable_10 : decode cX12_readTable 10 = .ok (.if_icmp .ne 10, 3) := by decide +kernel
theorem dX12_readTable_13 : decode cX12_readTable 13 = .ok (.aload_n 0, 1) := by decide +kernel
theorem dX12_readTable_14 : decode cX12_readTable 14 = .ok (.iconst 5, 1) := by decide +kernel
theorem dX12_readTable_15 : decode cX12_readTable 15 = .ok (.invokevirtual 288, 3) := by decide +kernel
theorem dX12_readTable_18 : decode cX12_readTable 18 = .ok (.istore_n 1, 1) := by decide +kernel
theorem dX12_readTable_19 : decode cX12_readTable 19 = .ok (.return_, 1) := by decide +kernel
theorem dX12_readTable_20 : decode cX12_readTable 20 = .ok (.aload_n 0, 1) := by decide +kernel
theorem dX12_readTable_21 : decode cX12_readTable 21 = .ok (.invokevirtual 285, 3) := by decide +kernel
theorem dX12_readTable_24 : decode cX12_readTable 24 = .ok (.aload_n 0, 1) := by decide +kernel
theorem dX12_readTable_25 : decode cX12_readTable 25 = .ok (.aload_n 0, 1) := by decide +kernel
theorem dX12_readTable_26 : decode cX12_readTable 26 = .ok (.invokevirtual 328, 3) := by decide +kernel
theorem dX12_readTable_29 : decode cX12_readTable 29 = .ok (.invokevirtual 314, 3) := by decide +kernel
theorem dX12_readTable_32 : decode cX12_readTable 32 = .ok (.istore_n 1, 1) := by decide +kernel
theorem dX12_readTable_33 : decode cX12_readTable 33 = .ok (.aload_n 0, 1) := by decide +kernel
theorem dX12_readTable_34 : decode cX12_readTable 34 = .ok (.getfield 275, 3) := by decide +kernel
theorem dX12_readTable_37 : decode cX12_readTable 37 = .ok (.ifCond .le 4, 3) := by decide +kernel
theorem dX12_readTable_40 : decode cX12_readTable 40 = .ok (.return_, 1) := by decide +kernel
theorem dX12_readTable_41 : decode cX12_readTable 41 = .ok (.iconst 4, 1) := by decide +kernel
theorem dX12_readTable_42 : decode cX12_readTable 42 = .ok (.aload_n 0, 1) := by decide +kernel
theorem dX12_readTable_43 : decode cX12_readTable 43 = .ok (.getfield 269, 3) := by decide +kernel
theorem dX12_readTable_46 : decode cX12_readTable 46 = .ok (.imul, 1) := by decide +kernel
theorem dX12_readTable_47 : decode cX12_readTable 47 = .ok (.aload_n 0, 1) := by decide +kernel
theorem dX12_readTable_48 : decode cX12_readTable 48 = .ok (.getfield 32, 3) := by decide +kernel
theorem dX12_readTable_51 : decode cX12_readTable 51 = .ok (.aload_n 0, 1) := by decide +kernel
theorem dX12_readTable_52 : decode cX12_readTable 52 = .ok (.getfield 269, 3) := by decide +kernel
theorem dX12_readTable_55 : decode cX12_readTable 55 = .ok (.iaload, 1) := by decide +kernel
theorem dX12_readTable_56 : decode cX12_readTable 56 = .ok (.iadd, 1) := by decide +kernel
theorem dX12_readTable_57 : decode cX12_readTable 57 = .ok (.istore_n 2, 1) := by decide +kernel
theorem dX12_readTable_58 : decode cX12_readTable 58 = .ok (.aload_n 0, 1) := by decide +kernel
theorem dX12_readTable_59 : decode cX12_readTable 59 = .ok (.getfield 56, 3) := by decide +kernel
theorem dX12_readTable_62 : decode cX12_readTable 62 = .ok (.iload_n 2, 1) := by decide +kernel
theorem dX12_readTable_63 : decode cX12_readTable 63 = .ok (.iload_n 1, 1) := by decide +kernel
theorem dX12_readTable_64 : decode cX12_readTable 64 = .ok (.iastore, 1) := by decide +kernel
theorem dX12_readTable_65 : decode cX12_readTable 65 = .ok (.aload_n 0, 1) := by decide +kernel
theorem dX12_readTable_66 : decode cX12_readTable 66 = .ok (.getfield 59, 3) := by decide +kernel
theorem dX12_readTable_69 : decode cX12_readTable 69 = .ok (.iload_n 2, 1) := by decide +kernel
theorem dX12_readTable_70 : decode cX12_readTable 70 = .ok (.iconst 0, 1) := by decide +kernel
theorem dX12_readTable_71 : decode cX12_readTable 71 = .ok (.iastore, 1) := by decide +kernel
theorem dX12_readTable_72 : decode cX12_readTable 72 = .ok (.aload_n 0, 1) := by decide +kernel
theorem dX12_readTable_73 : decode cX12_readTable 73 = .ok (.getfield 32, 3) := by decide +kernel
theorem dX12_readTable_76 : decode cX12_readTable 76 = .ok (.aload_n 0, 1) := by decide +kernel
theorem dX12_readTable_77 : decode cX12_readTable 77 = .ok (.getfield 269, 3) := by decide +kernel
theorem dX12_readTable_80 : decode cX12_readTable 80 = .ok (.dup2, 1) := by decide +kernel
theorem dX12_readTable_81 : decode cX12_readTable 81 = .ok (.iaload, 1) := by decide +kernel
theorem dX12_readTable_82 : decode cX12_readTable 82 = .ok (.iconst 1, 1) := by decide +kernel
theorem dX12_readTable_83 : decode cX12_readTable 83 = .ok (.iadd, 1) := by decide +kernel
theorem dX12_readTable_84 : decode cX12_readTable 84 = .ok (.iastore, 1) := by decide +kernel
theorem dX12_readTable_85 : decode cX12_readTable 85 = .ok (.aload_n 0, 1) := by decide +kernel
theorem dX12_readTable_86 : decode cX12_readTable 86 = .ok (.invokevirtual 285, 3) := by decide +kernel
theorem dX12_readTable_89 : decode cX12_readTable 89 = .ok (.aload_n 0, 1) := by decide +kernel
theorem dX12_readTable_90 : decode cX12_readTable 90 = .ok (.bipush 61, 2) := by decide +kernel
theorem dX12_readTable_92 : decode cX12_readTable 92 = .ok (.invokevirtual 318, 3) := by decide +kernel
theorem dX12_readTable_95 : decode cX12_readTable 95 = .ok (.aload_n 0, 1) := by decide +kernel
theorem dX12_readTable_96 : decode cX12_readTable 96 = .ok (.bipush 91, 2) := by decide +kernel
theorem dX12_readTable_98 : decode cX12_readTable 98 = .ok (.invokevirtual 318, 3) := by decide +kernel
theorem dX12_readTable_101 : decode cX12_readTable 101 = .ok (.aload_n 0, 1) := by decide +kernel
theorem dX12_readTable_102 : decode cX12_readTable 102 = .ok (.iload_n 2, 1) := by decide +kernel
theorem dX12_readTable_103 : decode cX12_readTable 103 = .ok (.invokevirtual 344, 3) := by decide +kernel
theorem dX12_readTable_106 : decode cX12_readTable 106 = .ok (.aload_n 0, 1) := by decide +kernel
theorem dX12_readTable_107 : decode cX12_readTable 107 = .ok (.getfield 275, 3) := by decide +kernel
theorem dX12_readTable_110 : decode cX12_readTable 110 = .ok (.ifCond .ne 24, 3) := by decide +kernel
theorem dX12_readTable_113 : decode cX12_readTable 113 = .ok (.aload_n 0, 1) := by decide +kernel
theorem dX12_readTable_114 : decode cX12_readTable 114 = .ok (.bipush 44, 2) := by decide +kernel
theorem dX12_readTable_116 : decode cX12_readTable 116 = .ok (.invokevirtual 281, 3) := by decide +kernel
theorem dX12_readTable_119 : decode cX12_readTable 119 = .ok (.ifCond .eq 15, 3) := by decide +kernel
theorem dX12_readTable_122 : decode cX12_readTable 122 = .ok (.aload_n 0, 1) := by decide +kernel
theorem dX12_readTable_123 : decode cX12_readTable 123 = .ok (.invokevirtual 285, 3) := by decide +kernel
theorem dX12_readTable_126 : decode cX12_readTable 126 = .ok (.aload_n 0, 1) := by decide +kernel
theorem dX12_readTable_127 : decode cX12_readTable 127 = .ok (.iload_n 2, 1) := by decide +kernel
theorem dX12_readTable_128 : decode cX12_readTable 128 = .ok (.invokevirtual 344, 3) := by decide +kernel
theorem dX12_readTable_131 : decode cX12_readTable 131 = .ok (.goto (-25), 3) := by decide +kernel
theorem dX12_readTable_134 : decode cX12_readTable 134 = .ok (.aload_n 0, 1) := by decide +kernel
theorem dX12_readTable_135 : decode cX12_readTable 135 = .ok (.bipush 93, 2) := by decide +kernel
theorem dX12_readTable_137 : decode cX12_readTable 137 = .ok (.invokevirtual 318, 3) := by decide +kernel
theorem dX12_readTable_140 : decode cX12_readTable 140 = .ok (.aload_n 0, 1) := by decide +kernel
theorem dX12_readTable_141 : decode cX12_readTable 141 = .ok (.bipush 59, 2) := by decide +kernel
theorem dX12_readTable_143 : decode cX12_readTable 143 = .ok (.invokevirtual 318, 3) := by decide +kernel
theorem dX12_readTable_146 : decode cX12_readTable 146 = .ok (.return_, 1) := by decide +kernel
theorem dX12_readEntry_0 : decode cX12_readEntry 0 = .ok (.aload_n 0, 1) := by decide +kernel
theorem dX12_readEntry_1 : decode cX12_readEntry 1 = .ok (.getfield 275, 3) := by decide +kernel
theorem dX12_readEntry_4 : decode cX12_readEntry 4 = .ok (.ifCond .le 4, 3) := by decide +kernel
theorem dX12_readEntry_7 : decode cX12_readEntry 7 = .ok (.return_, 1) := by decide +kernel
theorem dX12_readEntry_8 : decode cX12_readEntry 8 = .ok (.aload_n 0, 1) := by decide +kernel
theorem dX12_readEntry_9 : decode cX12_readEntry 9 = .ok (.getfield 59, 3) := by decide +kernel
theorem dX12_readEntry_12 : decode cX12_readEntry 12 = .ok (.iload_n 1, 1) := by decide +kernel
theorem dX12_readEntry_13 : decode cX12_readEntry 13 = .ok (.iaload, 1) := by decide +kernel
theorem dX12_readEntry_14 : decode cX12_readEntry 14 = .ok (.bipush 12, 2) := by decide +kernel
theorem dX12_readEntry_16 : decode cX12_readEntry 16 = .ok (.if_icmp .ne 17, 3) := by decide +kernel
theorem dX12_readEntry_19 : decode cX12_readEntry 19 = .ok (.aload_n 0, 1) := by decide +kernel
theorem dX12_readEntry_20 : decode cX12_readEntry 20 = .ok (.invokevirtual 347, 3) := by decide +kernel
theorem dX12_readEntry_23 : decode cX12_readEntry 23 = .ok (.ifCond .eq 10, 3) := by decide +kernel
theorem dX12_readEntry_26 : decode cX12_readEntry 26 = .ok (.aload_n 0, 1) := by decide +kernel
theorem dX12_readEntry_27 : decode cX12_readEntry 27 = .ok (.iconst 5, 1) := by decide +kernel
theorem dX12_readEntry_28 : decode cX12_readEntry 28 = .ok (.invokevirtual 288, 3) := by decide +kernel
theorem dX12_readEntry_31 : decode cX12_readEntry 31 = .ok (.istore_n 2, 1) := by decide +kernel
theorem dX12_readEntry_32 : decode cX12_readEntry 32 = .ok (.return_, 1) := by decide +kernel
theorem dX12_readEntry_33 : decode cX12_readEntry 33 = .ok (.aload_n 0, 1) := by decide +kernel
theorem dX12_readEntry_34 : decode cX12_readEntry 34 = .ok (.invokevirtual 347, 3) := by decide +kernel
theorem dX12_readEntry_37 : decode cX12_readEntry 37 = .ok (.ifCond .ne 10, 3) := by decide +kernel
theorem dX12_readEntry_40 : decode cX12_readEntry 40 = .ok (.aload_n 0, 1) := by decide +kernel
theorem dX12_readEntry_41 : decode cX12_readEntry 41 = .ok (.iconst 2, 1) := by decide +kernel
theorem dX12_readEntry_42 : decode cX12_readEntry 42 = .ok (.invokevirtual 288, 3) := by decide +kernel
theorem dX12_readEntry_45 : decode cX12_readEntry 45 = .ok (.istore_n 2, 1) := by decide +kernel
theorem dX12_readEntry_46 : decode cX12_readEntry 46 = .ok (.return_, 1) := by decide +kernel
theorem dX12_readEntry_47 : decode cX12_readEntry 47 = .ok (.bipush 12, 2) := by decide +kernel
theorem dX12_readEntry_49 : decode cX12_readEntry 49 = .ok (.iload_n 1, 1) := by decide +kernel
theorem dX12_readEntry_50 : decode cX12_readEntry 50 = .ok (.imul, 1) := by decide +kernel
theorem dX12_readEntry_51 : decode cX12_readEntry 51 = .ok (.aload_n 0, 1) := by decide +kernel
theorem dX12_readEntry_52 : decode cX12_readEntry 52 = .ok (.getfield 59, 3) := by decide +kernel
theorem dX12_readEntry_55 : decode cX12_readEntry 55 = .ok (.iload_n 1, 1) := by decide +kernel
theorem dX12_readEntry_56 : decode cX12_readEntry 56 = .ok (.iaload, 1) := by decide +kernel
theorem dX12_readEntry_57 : decode cX12_readEntry 57 = .ok (.iadd, 1) := by decide +kernel
theorem dX12_readEntry_58 : decode cX12_readEntry 58 = .ok (.istore_n 2, 1) := by decide +kernel
theorem dX12_readEntry_59 : decode cX12_readEntry 59 = .ok (.aload_n 0, 1) := by decide +kernel
theorem dX12_readEntry_60 : decode cX12_readEntry 60 = .ok (.getfield 59, 3) := by decide +kernel
theorem dX12_readEntry_63 : decode cX12_readEntry 63 = .ok (.iload_n 1, 1) := by decide +kernel
theorem dX12_readEntry_64 : decode cX12_readEntry 64 = .ok (.dup2, 1) := by decide +kernel
theorem dX12_readEntry_65 : decode cX12_readEntry 65 = .ok (.iaload, 1) := by decide +kernel
theorem dX12_readEntry_66 : decode cX12_readEntry 66 = .ok (.iconst 1, 1) := by decide +kernel
theorem dX12_readEntry_67 : decode cX12_readEntry 67 = .ok (.iadd, 1) := by decide +kernel
theorem dX12_readEntry_68 : decode cX12_readEntry 68 = .ok (.iastore, 1) := by decide +kernel
theorem dX12_readEntry_69 : decode cX12_readEntry 69 = .ok (.aload_n 0, 1) := by decide +kernel
theorem dX12_readEntry_70 : decode cX12_readEntry 70 = .ok (.getfield 62, 3) := by decide +kernel
theorem dX12_readEntry_73 : decode cX12_readEntry 73 = .ok (.iload_n 2, 1) := by decide +kernel
theorem dX12_readEntry_74 : decode cX12_readEntry 74 = .ok (.aload_n 0, 1) := by decide +kernel
theorem dX12_readEntry_75 : decode cX12_readEntry 75 = .ok (.iconst 0, 1) := by decide +kernel
theorem dX12_readEntry_76 : decode cX12_readEntry 76 = .ok (.iconst 0, 1) := by decide +kernel
theorem dX12_readEntry_77 : decode cX12_readEntry 77 = .ok (.iconst 0, 1) := by decide +kernel
theorem dX12_readEntry_78 : decode cX12_readEntry 78 = .ok (.invokevirtual 331, 3) := by decide +kernel
theorem dX12_readEntry_81 : decode cX12_readEntry 81 = .ok (.iastore, 1) := by decide +kernel
theorem dX12_readEntry_82 : decode cX12_readEntry 82 = .ok (.return_, 1) := by decide +kernel
theorem dX12_beginsExpr_0 : decode cX12_beginsExpr 0 = .ok (.aload_n 0, 1) := by decide +kernel
theorem dX12_beginsExpr_1 : decode cX12_beginsExpr 1 = .ok (.getfield 205, 3) := by decide +kernel
theorem dX12_beginsExpr_4 : decode cX12_beginsExpr 4 = .ok (.iconst 3, 1) := by decide +kernel
theorem dX12_beginsExpr_5 : decode cX12_beginsExpr 5 = .ok (.if_icmp .eq 37, 3) := by decide +kernel
theorem dX12_beginsExpr_8 : decode cX12_beginsExpr 8 = .ok (.aload_n 0, 1) := by decide +kernel
theorem dX12_beginsExpr_9 : decode cX12_beginsExpr 9 = .ok (.bipush 45, 2) := by decide +kernel
theorem dX12_beginsExpr_11 : decode cX12_beginsExpr 11 = .ok (.invokevirtual 281, 3) := by decide +kernel
theorem dX12_beginsExpr_14 : decode cX12_beginsExpr 14 = .ok (.ifCond .ne 28, 3) := by decide +kernel
theorem dX12_beginsExpr_17 : decode cX12_beginsExpr 17 = .ok (.aload_n 0, 1) := by decide +kernel
theorem dX12_beginsExpr_18 : decode cX12_beginsExpr 18 = .ok (.bipush 40, 2) := by decide +kernel
theorem dX12_beginsExpr_20 : decode cX12_beginsExpr 20 = .ok (.invokevirtual 281, 3) := by decide +kernel
theorem dX12_beginsExpr_23 : decode cX12_beginsExpr 23 = .ok (.ifCond .ne 19, 3) := by decide +kernel
theorem dX12_beginsExpr_26 : decode cX12_beginsExpr 26 = .ok (.aload_n 0, 1) := by decide +kernel
theorem dX12_beginsExpr_27 : decode cX12_beginsExpr 27 = .ok (.ldc 255, 2) := by decide +kernel
theorem dX12_beginsExpr_29 : decode cX12_beginsExpr 29 = .ok (.invokevirtual 235, 3) := by decide +kernel
theorem dX12_beginsExpr_32 : decode cX12_beginsExpr 32 = .ok (.ifCond .ne 10, 3) := by decide +kernel
theorem dX12_beginsExpr_35 : decode cX12_beginsExpr 35 = .ok (.aload_n 0, 1) := by decide +kernel
theorem dX12_beginsExpr_36 : decode cX12_beginsExpr 36 = .ok (.invokevirtual 291, 3) := by decide +kernel
theorem dX12_beginsExpr_39 : decode cX12_beginsExpr 39 = .ok (.ifCond .eq 7, 3) := by decide +kernel
theorem dX12_beginsExpr_42 : decode cX12_beginsExpr 42 = .ok (.iconst 1, 1) := by decide +kernel
theorem dX12_beginsExpr_43 : decode cX12_beginsExpr 43 = .ok (.goto 4, 3) := by decide +kernel
theorem dX12_beginsExpr_46 : decode cX12_beginsExpr 46 = .ok (.iconst 0, 1) := by decide +kernel
theorem dX12_beginsExpr_47 : decode cX12_beginsExpr 47 = .ok (.ireturn, 1) := by decide +kernel
theorem dX12_readSwitch_0 : decode cX12_readSwitch 0 = .ok (.aload_n 0, 1) := by decide +kernel
theorem dX12_readSwitch_1 : decode cX12_readSwitch 1 = .ok (.getfield 41, 3) := by decide +kernel
theorem dX12_readSwitch_4 : decode cX12_readSwitch 4 = .ok (.aload_n 0, 1) := by decide +kernel
theorem dX12_readSwitch_5 : decode cX12_readSwitch 5 = .ok (.getfield 269, 3) := by decide +kernel
theorem dX12_readSwitch_8 : decode cX12_readSwitch 8 = .ok (.iaload, 1) := by decide +kernel
theorem dX12_readSwitch_9 : decode cX12_readSwitch 9 = .ok (.iconst 3, 1) := by decide +kernel
theorem dX12_readSwitch_10 : decode cX12_readSwitch 10 = .ok (.if_icmp .ne 10, 3) := by decide +kernel
theorem dX12_readSwitch_13 : decode cX12_readSwitch 13 = .ok (.aload_n 0, 1) := by decide +kernel
theorem dX12_readSwitch_14 : decode cX12_readSwitch 14 = .ok (.iconst 5, 1) := by decide +kernel
theorem dX12_readSwitch_15 : decode cX12_readSwitch 15 = .ok (.invokevirtual 288, 3) := by decide +kernel
theorem dX12_readSwitch_18 : decode cX12_readSwitch 18 = .ok (.istore_n 1, 1) := by decide +kernel
theorem dX12_readSwitch_19 : decode cX12_readSwitch 19 = .ok (.return_, 1) := by decide +kernel
theorem dX12_readSwitch_20 : decode cX12_readSwitch 20 = .ok (.aload_n 0, 1) := by decide +kernel
theorem dX12_readSwitch_21 : decode cX12_readSwitch 21 = .ok (.invokevirtual 285, 3) := by decide +kernel
theorem dX12_readSwitch_24 : decode cX12_readSwitch 24 = .ok (.aload_n 0, 1) := by decide +kernel
theorem dX12_readSwitch_25 : decode cX12_readSwitch 25 = .ok (.aload_n 0, 1) := by decide +kernel
theorem dX12_readSwitch_26 : decode cX12_readSwitch 26 = .ok (.invokevirtual 328, 3) := by decide +kernel
theorem dX12_readSwitch_29 : decode cX12_readSwitch 29 = .ok (.invokevirtual 314, 3) := by decide +kernel
theorem dX12_readSwitch_32 : decode cX12_readSwitch 32 = .ok (.istore_n 1, 1) := by decide +kernel
theorem dX12_readSwitch_33 : decode cX12_readSwitch 33 = .ok (.aload_n 0, 1) := by decide +kernel
theorem dX12_readSwitch_34 : decode cX12_readSwitch 34 = .ok (.getfield 275, 3) := by decide +kernel
theorem dX12_readSwitch_37 : decode cX12_readSwitch 37 = .ok (.ifCond .le 4, 3) := by decide +kernel
theorem dX12_readSwitch_40 : decode cX12_readSwitch 40 = .ok (.return_, 1) := by decide +kernel
theorem dX12_readSwitch_41 : decode cX12_readSwitch 41 = .ok (.iconst 3, 1) := by decide +kernel
theorem dX12_readSwitch_42 : decode cX12_readSwitch 42 = .ok (.aload_n 0, 1) := by decide +kernel
theorem dX12_readSwitch_43 : decode cX12_readSwitch 43 = .ok (.getfield 269, 3) := by decide +kernel
theorem dX12_readSwitch_46 : decode cX12_readSwitch 46 = .ok (.imul, 1) := by decide +kernel
theorem dX12_readSwitch_47 : decode cX12_readSwitch 47 = .ok (.aload_n 0, 1) := by decide +kernel
theorem dX12_readSwitch_48 : decode cX12_readSwitch 48 = .ok (.getfield 41, 3) := by decide +kernel
theorem dX12_readSwitch_51 : decode cX12_readSwitch 51 = .ok (.aload_n 0, 1) := by decide +kernel
theorem dX12_readSwitch_52 : decode cX12_readSwitch 52 = .ok (.getfield 269, 3) := by decide +kernel
theorem dX12_readSwitch_55 : decode cX12_readSwitch 55 = .ok (.iaload, 1) := by decide +kernel
theorem dX12_readSwitch_56 : decode cX12_readSwitch 56 = .ok (.iadd, 1) := by decide +kernel
theorem dX12_readSwitch_57 : decode cX12_readSwitch 57 = .ok (.istore_n 2, 1) := by decide +kernel
theorem dX12_readSwitch_58 : decode cX12_readSwitch 58 = .ok (.aload_n 0, 1) := by decide +kernel
theorem dX12_readSwitch_59 : decode cX12_readSwitch 59 = .ok (.getfield 74, 3) := by decide +kernel
theorem dX12_readSwitch_62 : decode cX12_readSwitch 62 = .ok (.iload_n 2, 1) := by decide +kernel
theorem dX12_readSwitch_63 : decode cX12_readSwitch 63 = .ok (.iload_n 1, 1) := by decide +kernel
theorem dX12_readSwitch_64 : decode cX12_readSwitch 64 = .ok (.iastore, 1) := by decide +kernel
theorem dX12_readSwitch_65 : decode cX12_readSwitch 65 = .ok (.aload_n 0, 1) := by decide +kernel
theorem dX12_readSwitch_66 : decode cX12_readSwitch 66 = .ok (.getfield 77, 3) := by decide +kernel
theorem dX12_readSwitch_69 : decode cX12_readSwitch 69 = .ok (.iload_n 2, 1) := by decide +kernel
theorem dX12_readSwitch_70 : decode cX12_readSwitch 70 = .ok (.iconst 0, 1) := by decide +kernel
theorem dX12_readSwitch_71 : decode cX12_readSwitch 71 = .ok (.iastore, 1) := by decide +kernel
theorem dX12_readSwitch_72 : decode cX12_readSwitch 72 = .ok (.aload_n 0, 1) := by decide +kernel
theorem dX12_readSwitch_73 : decode cX12_readSwitch 73 = .ok (.getfield 41, 3) := by decide +kernel
theorem dX12_readSwitch_76 : decode cX12_readSwitch 76 = .ok (.aload_n 0, 1) := by decide +kernel
theorem dX12_readSwitch_77 : decode cX12_readSwitch 77 = .ok (.getfield 269, 3) := by decide +kernel
theorem dX12_readSwitch_80 : decode cX12_readSwitch 80 = .ok (.dup2, 1) := by decide +kernel
theorem dX12_readSwitch_81 : decode cX12_readSwitch 81 = .ok (.iaload, 1) := by decide +kernel
theorem dX12_readSwitch_82 : decode cX12_readSwitch 82 = .ok (.iconst 1, 1) := by decide +kernel
theorem dX12_readSwitch_83 : decode cX12_readSwitch 83 = .ok (.iadd, 1) := by decide +kernel
theorem dX12_readSwitch_84 : decode cX12_readSwitch 84 = .ok (.iastore, 1) := by decide +kernel
theorem dX12_readSwitch_85 : decode cX12_readSwitch 85 = .ok (.aload_n 0, 1) := by decide +kernel
theorem dX12_readSwitch_86 : decode cX12_readSwitch 86 = .ok (.invokevirtual 285, 3) := by decide +kernel
theorem dX12_readSwitch_89 : decode cX12_readSwitch 89 = .ok (.aload_n 0, 1) := by decide +kernel
theorem dX12_readSwitch_90 : decode cX12_readSwitch 90 = .ok (.bipush 123, 2) := by decide +kernel
theorem dX12_readSwitch_92 : decode cX12_readSwitch 92 = .ok (.invokevirtual 318, 3) := by decide +kernel
theorem dX12_readSwitch_95 : decode cX12_readSwitch 95 = .ok (.aload_n 0, 1) := by decide +kernel
theorem dX12_readSwitch_96 : decode cX12_readSwitch 96 = .ok (.getfield 275, 3) := by decide +kernel
theorem dX12_readSwitch_99 : decode cX12_readSwitch 99 = .ok (.ifCond .ne 20, 3) := by decide +kernel
theorem dX12_readSwitch_102 : decode cX12_readSwitch 102 = .ok (.aload_n 0, 1) := by decide +kernel
theorem dX12_readSwitch_103 : decode cX12_readSwitch 103 = .ok (.ldc 247, 2) := by decide +kernel
theorem dX12_readSwitch_105 : decode cX12_readSwitch 105 = .ok (.invokevirtual 235, 3) := by decide +kernel
theorem dX12_readSwitch_108 : decode cX12_readSwitch 108 = .ok (.ifCond .eq 11, 3) := by decide +kernel
theorem dX12_readSwitch_111 : decode cX12_readSwitch 111 = .ok (.aload_n 0, 1) := by decide +kernel
theorem dX12_readSwitch_112 : decode cX12_readSwitch 112 = .ok (.iload_n 2, 1) := by decide +kernel
theorem dX12_readSwitch_113 : decode cX12_readSwitch 113 = .ok (.invokevirtual 350, 3) := by decide +kernel
theorem dX12_readSwitch_116 : decode cX12_readSwitch 116 = .ok (.goto (-21), 3) := by decide +kernel
theorem dX12_readSwitch_119 : decode cX12_readSwitch 119 = .ok (.aload_n 0, 1) := by decide +kernel
theorem dX12_readSwitch_120 : decode cX12_readSwitch 120 = .ok (.getfield 275, 3) := by decide +kernel
theorem dX12_readSwitch_123 : decode cX12_readSwitch 123 = .ok (.ifCond .le 4, 3) := by decide +kernel
theorem dX12_readSwitch_126 : decode cX12_readSwitch 126 = .ok (.return_, 1) := by decide +kernel
theorem dX12_readSwitch_127 : decode cX12_readSwitch 127 = .ok (.aload_n 0, 1) := by decide +kernel
theorem dX12_readSwitch_128 : decode cX12_readSwitch 128 = .ok (.ldc 249, 2) := by decide +kernel
theorem dX12_readSwitch_130 : decode cX12_readSwitch 130 = .ok (.invokevirtual 235, 3) := by decide +kernel
theorem dX12_readSwitch_133 : decode cX12_readSwitch 133 = .ok (.ifCond .ne 10, 3) := by decide +kernel
theorem dX12_readSwitch_136 : decode cX12_readSwitch 136 = .ok (.aload_n 0, 1) := by decide +kernel
theorem dX12_readSwitch_137 : decode cX12_readSwitch 137 = .ok (.iconst 2, 1) := by decide +kernel
theorem dX12_readSwitch_138 : decode cX12_readSwitch 138 = .ok (.invokevirtual 288, 3) := by decide +kernel
theorem dX12_readSwitch_141 : decode cX12_readSwitch 141 = .ok (.istore_n 3, 1) := by decide +kernel
theorem dX12_readSwitch_142 : decode cX12_readSwitch 142 = .ok (.return_, 1) := by decide +kernel
theorem dX12_readSwitch_143 : decode cX12_readSwitch 143 = .ok (.aload_n 0, 1) := by decide +kernel
theorem dX12_readSwitch_144 : decode cX12_readSwitch 144 = .ok (.invokevirtual 285, 3) := by decide +kernel
theorem dX12_readSwitch_147 : decode cX12_readSwitch 147 = .ok (.aload_n 0, 1) := by decide +kernel
theorem dX12_readSwitch_148 : decode cX12_readSwitch 148 = .ok (.bipush 58, 2) := by decide +kernel
theorem dX12_readSwitch_150 : decode cX12_readSwitch 150 = .ok (.invokevirtual 318, 3) := by decide +kernel
theorem dX12_readSwitch_153 : decode cX12_readSwitch 153 = .ok (.aload_n 0, 1) := by decide +kernel
theorem dX12_readSwitch_154 : decode cX12_readSwitch 154 = .ok (.getfield 89, 3) := by decide +kernel
theorem dX12_readSwitch_157 : decode cX12_readSwitch 157 = .ok (.iload_n 2, 1) := by decide +kernel
theorem dX12_readSwitch_158 : decode cX12_readSwitch 158 = .ok (.aload_n 0, 1) := by decide +kernel
theorem dX12_readSwitch_159 : decode cX12_readSwitch 159 = .ok (.iconst 0, 1) := by decide +kernel
theorem dX12_readSwitch_160 : decode cX12_readSwitch 160 = .ok (.iconst 0, 1) := by decide +kernel
theorem dX12_readSwitch_161 : decode cX12_readSwitch 161 = .ok (.iconst 0, 1) := by decide +kernel
theorem dX12_readSwitch_162 : decode cX12_readSwitch 162 = .ok (.invokevirtual 331, 3) := by decide +kernel
theorem dX12_readSwitch_165 : decode cX12_readSwitch 165 = .ok (.iastore, 1) := by decide +kernel
theorem dX12_readSwitch_166 : decode cX12_readSwitch 166 = .ok (.aload_n 0, 1) := by decide +kernel
theorem dX12_readSwitch_167 : decode cX12_readSwitch 167 = .ok (.bipush 59, 2) := by decide +kernel
theorem dX12_readSwitch_169 : decode cX12_readSwitch 169 = .ok (.invokevirtual 318, 3) := by decide +kernel
theorem dX12_readSwitch_172 : decode cX12_readSwitch 172 = .ok (.aload_n 0, 1) := by decide +kernel
theorem dX12_readSwitch_173 : decode cX12_readSwitch 173 = .ok (.bipush 125, 2) := by decide +kernel
theorem dX12_readSwitch_175 : decode cX12_readSwitch 175 = .ok (.invokevirtual 318, 3) := by decide +kernel
theorem dX12_readSwitch_178 : decode cX12_readSwitch 178 = .ok (.return_, 1) := by decide +kernel
theorem dX12_readCase_0 : decode cX12_readCase 0 = .ok (.aload_n 0, 1) := by decide +kernel
theorem dX12_readCase_1 : decode cX12_readCase 1 = .ok (.getfield 77, 3) := by decide +kernel
theorem dX12_readCase_4 : decode cX12_readCase 4 = .ok (.iload_n 1, 1) := by decide +kernel
theorem dX12_readCase_5 : decode cX12_readCase 5 = .ok (.iaload, 1) := by decide +kernel
theorem dX12_readCase_6 : decode cX12_readCase 6 = .ok (.bipush 12, 2) := by decide +kernel
theorem dX12_readCase_8 : decode cX12_readCase 8 = .ok (.if_icmp .ne 10, 3) := by decide +kernel
theorem dX12_readCase_11 : decode cX12_readCase 11 = .ok (.aload_n 0, 1) := by decide +kernel
theorem dX12_readCase_12 : decode cX12_readCase 12 = .ok (.iconst 5, 1) := by decide +kernel
theorem dX12_readCase_13 : decode cX12_readCase 13 = .ok (.invokevirtual 288, 3) := by decide +kernel
theorem dX12_readCase_16 : decode cX12_readCase 16 = .ok (.istore_n 2, 1) := by decide +kernel
theorem dX12_readCase_17 : decode cX12_readCase 17 = .ok (.return_, 1) := by decide +kernel
theorem dX12_readCase_18 : decode cX12_readCase 18 = .ok (.aload_n 0, 1) := by decide +kernel
theorem dX12_readCase_19 : decode cX12_readCase 19 = .ok (.invokevirtual 285, 3) := by decide +kernel
theorem dX12_readCase_22 : decode cX12_readCase 22 = .ok (.iconst 0, 1) := by decide +kernel
theorem dX12_readCase_23 : decode cX12_readCase 23 = .ok (.istore_n 2, 1) := by decide +kernel
theorem dX12_readCase_24 : decode cX12_readCase 24 = .ok (.iconst 0, 1) := by decide +kernel
theorem dX12_readCase_25 : decode cX12_readCase 25 = .ok (.istore_n 3, 1) := by decide +kernel
theorem dX12_readCase_26 : decode cX12_readCase 26 = .ok (.iload_n 3, 1) := by decide +kernel
theorem dX12_readCase_27 : decode cX12_readCase 27 = .ok (.aload_n 0, 1) := by decide +kernel
theorem dX12_readCase_28 : decode cX12_readCase 28 = .ok (.getfield 77, 3) := by decide +kernel
theorem dX12_readCase_31 : decode cX12_readCase 31 = .ok (.iload_n 1, 1) := by decide +kernel
theorem dX12_readCase_32 : decode cX12_readCase 32 = .ok (.iaload, 1) := by decide +kernel
theorem dX12_readCase_33 : decode cX12_readCase 33 = .ok (.if_icmp .ge 48, 3) := by decide +kernel
theorem dX12_readCase_36 : decode cX12_readCase 36 = .ok (.aload_n 0, 1) := by decide +kernel
theorem dX12_readCase_37 : decode cX12_readCase 37 = .ok (.invokevirtual 291, 3) := by decide +kernel
theorem dX12_readCase_40 : decode cX12_readCase 40 = .ok (.ifCond .eq 41, 3) := by decide +kernel
theorem dX12_readCase_43 : decode cX12_readCase 43 = .ok (.iload_n 2, 1) := by decide +kernel
theorem dX12_readCase_44 : decode cX12_readCase 44 = .ok (.ifCond .ne 25, 3) := by decide +kernel
theorem dX12_readCase_47 : decode cX12_readCase 47 = .ok (.aload_n 0, 1) := by decide +kernel
theorem dX12_readCase_48 : decode cX12_readCase 48 = .ok (.aload_n 0, 1) := by decide +kernel
theorem dX12_readCase_49 : decode cX12_readCase 49 = .ok (.invokevirtual 294, 3) := by decide +kernel
theorem dX12_readCase_52 : decode cX12_readCase 52 = .ok (.aload_n 0, 1) := by decide +kernel
theorem dX12_readCase_53 : decode cX12_readCase 53 = .ok (.getfield 80, 3) := by decide +kernel
theorem dX12_readCase_56 : decode cX12_readCase 56 = .ok (.bipush 12, 2) := by decide +kernel
theorem dX12_readCase_58 : decode cX12_readCase 58 = .ok (.iload_n 1, 1) := by decide +kernel
theorem dX12_readCase_59 : decode cX12_readCase 59 = .ok (.imul, 1) := by decide +kernel
theorem dX12_readCase_60 : decode cX12_readCase 60 = .ok (.iload_n 3, 1) := by decide +kernel
theorem dX12_readCase_61 : decode cX12_readCase 61 = .ok (.iadd, 1) := by decide +kernel
theorem dX12_readCase_62 : decode cX12_readCase 62 = .ok (.iaload, 1) := by decide +kernel
theorem dX12_readCase_63 : decode cX12_readCase 63 = .ok (.invokevirtual 297, 3) := by decide +kernel
theorem dX12_readCase_66 : decode cX12_readCase 66 = .ok (.ifCond .eq 7, 3) := by decide +kernel
theorem dX12_readCase_69 : decode cX12_readCase 69 = .ok (.iconst 1, 1) := by decide +kernel
theorem dX12_readCase_70 : decode cX12_readCase 70 = .ok (.goto 4, 3) := by decide +kernel
theorem dX12_readCase_73 : decode cX12_readCase 73 = .ok (.iconst 0, 1) := by decide +kernel
theorem dX12_readCase_74 : decode cX12_readCase 74 = .ok (.istore_n 2, 1) := by decide +kernel
theorem dX12_readCase_75 : decode cX12_readCase 75 = .ok (.iinc 3 1, 3) := by decide +kernel
theorem dX12_readCase_78 : decode cX12_readCase 78 = .ok (.goto (-52), 3) := by decide +kernel
theorem dX12_readCase_81 : decode cX12_readCase 81 = .ok (.aload_n 0, 1) := by decide +kernel
theorem dX12_readCase_82 : decode cX12_readCase 82 = .ok (.iload_n 2, 1) := by decide +kernel
theorem dX12_readCase_83 : decode cX12_readCase 83 = .ok (.invokevirtual 314, 3) := by decide +kernel
theorem dX12_readCase_86 : decode cX12_readCase 86 = .ok (.istore_n 3, 1) := by decide +kernel
theorem dX12_readCase_87 : decode cX12_readCase 87 = .ok (.aload_n 0, 1) := by decide +kernel
theorem dX12_readCase_88 : decode cX12_readCase 88 = .ok (.getfield 275, 3) := by decide +kernel
theorem dX12_readCase_91 : decode cX12_readCase 91 = .ok (.ifCond .le 4, 3) := by decide +kernel
theorem dX12_readCase_94 : decode cX12_readCase 94 = .ok (.return_, 1) := by decide +kernel
theorem dX12_readCase_95 : decode cX12_readCase 95 = .ok (.bipush 12, 2) := by decide +kernel
theorem dX12_readCase_97 : decode cX12_readCase 97 = .ok (.iload_n 1, 1) := by decide +kernel
theorem dX12_readCase_98 : decode cX12_readCase 98 = .ok (.imul, 1) := by decide +kernel
theorem dX12_readCase_99 : decode cX12_readCase 99 = .ok (.aload_n 0, 1) := by decide +kernel
theorem dX12_readCase_100 : decode cX12_readCase 100 = .ok (.getfield 77, 3) := by decide +kernel
theorem dX12_readCase_103 : decode cX12_readCase 103 = .ok (.iload_n 1, 1) := by decide +kernel
theorem dX12_readCase_104 : decode cX12_readCase 104 = .ok (.iaload, 1) := by decide +kernel
theorem dX12_readCase_105 : decode cX12_readCase 105 = .ok (.iadd, 1) := by decide +kernel
theorem dX12_readCase_106 : decode cX12_readCase 106 = .ok (.istore 4, 2) := by decide +kernel
theorem dX12_readCase_108 : decode cX12_readCase 108 = .ok (.aload_n 0, 1) := by decide +kernel
theorem dX12_readCase_109 : decode cX12_readCase 109 = .ok (.getfield 80, 3) := by decide +kernel
theorem dX12_readCase_112 : decode cX12_readCase 112 = .ok (.iload 4, 2) := by decide +kernel
theorem dX12_readCase_114 : decode cX12_readCase 114 = .ok (.iload_n 3, 1) := by decide +kernel
theorem dX12_readCase_115 : decode cX12_readCase 115 = .ok (.iastore, 1) := by decide +kernel
theorem dX12_readCase_116 : decode cX12_readCase 116 = .ok (.aload_n 0, 1) := by decide +kernel
theorem dX12_readCase_117 : decode cX12_readCase 117 = .ok (.getfield 77, 3) := by decide +kernel
theorem dX12_readCase_120 : decode cX12_readCase 120 = .ok (.iload_n 1, 1) := by decide +kernel
theorem dX12_readCase_121 : decode cX12_readCase 121 = .ok (.dup2, 1) := by decide +kernel
theorem dX12_readCase_122 : decode cX12_readCase 122 = .ok (.iaload, 1) := by decide +kernel
theorem dX12_readCase_123 : decode cX12_readCase 123 = .ok (.iconst 1, 1) := by decide +kernel
theorem dX12_readCase_124 : decode cX12_readCase 124 = .ok (.iadd, 1) := by decide +kernel
theorem dX12_readCase_125 : decode cX12_readCase 125 = .ok (.iastore, 1) := by decide +kernel
theorem dX12_readCase_126 : decode cX12_readCase 126 = .ok (.aload_n 0, 1) := by decide +kernel
theorem dX12_readCase_127 : decode cX12_readCase 127 = .ok (.getfield 107, 3) := by decide +kernel
theorem dX12_readCase_130 : decode cX12_readCase 130 = .ok (.aload_n 0, 1) := by decide +kernel
theorem dX12_readCase_131 : decode cX12_readCase 131 = .ok (.getfield 301, 3) := by decide +kernel
theorem dX12_readCase_134 : decode cX12_readCase 134 = .ok (.iconst (-1), 1) := by decide +kernel
theorem dX12_readCase_135 : decode cX12_readCase 135 = .ok (.iload 4, 2) := by decide +kernel
theorem dX12_readCase_137 : decode cX12_readCase 137 = .ok (.isub, 1) := by decide +kernel
theorem dX12_readCase_138 : decode cX12_readCase 138 = .ok (.iastore, 1) := by decide +kernel
theorem dX12_readCase_139 : decode cX12_readCase 139 = .ok (.aload_n 0, 1) := by decide +kernel
theorem dX12_readCase_140 : decode cX12_readCase 140 = .ok (.getfield 110, 3) := by decide +kernel
theorem dX12_readCase_143 : decode cX12_readCase 143 = .ok (.aload_n 0, 1) := by decide +kernel
theorem dX12_readCase_144 : decode cX12_readCase 144 = .ok (.getfield 301, 3) := by decide +kernel
theorem dX12_readCase_147 : decode cX12_readCase 147 = .ok (.iconst (-1), 1) := by decide +kernel
theorem dX12_readCase_148 : decode cX12_readCase 148 = .ok (.iastore, 1) := by decide +kernel
theorem dX12_readCase_149 : decode cX12_readCase 149 = .ok (.aload_n 0, 1) := by decide +kernel
theorem dX12_readCase_150 : decode cX12_readCase 150 = .ok (.getfield 113, 3) := by decide +kernel
theorem dX12_readCase_153 : decode cX12_readCase 153 = .ok (.aload_n 0, 1) := by decide +kernel
theorem dX12_readCase_154 : decode cX12_readCase 154 = .ok (.getfield 301, 3) := by decide +kernel
theorem dX12_readCase_157 : decode cX12_readCase 157 = .ok (.iload_n 3, 1) := by decide +kernel
theorem dX12_readCase_158 : decode cX12_readCase 158 = .ok (.iastore, 1) := by decide +kernel
theorem dX12_readCase_159 : decode cX12_readCase 159 = .ok (.aload_n 0, 1) := by decide +kernel
theorem dX12_readCase_160 : decode cX12_readCase 160 = .ok (.dup, 1) := by decide +kernel
theorem dX12_readCase_161 : decode cX12_readCase 161 = .ok (.getfield 301, 3) := by decide +kernel
theorem dX12_readCase_164 : decode cX12_readCase 164 = .ok (.iconst 1, 1) := by decide +kernel
theorem dX12_readCase_165 : decode cX12_readCase 165 = .ok (.iadd, 1) := by decide +kernel
theorem dX12_readCase_166 : decode cX12_readCase 166 = .ok (.putfield 301, 3) := by decide +kernel
theorem dX12_readCase_169 : decode cX12_readCase 169 = .ok (.aload_n 0, 1) := by decide +kernel
theorem dX12_readCase_170 : decode cX12_readCase 170 = .ok (.invokevirtual 285, 3) := by decide +kernel
theorem dX12_readCase_173 : decode cX12_readCase 173 = .ok (.aload_n 0, 1) := by decide +kernel
theorem dX12_readCase_174 : decode cX12_readCase 174 = .ok (.bipush 58, 2) := by decide +kernel
theorem dX12_readCase_176 : decode cX12_readCase 176 = .ok (.invokevirtual 318, 3) := by decide +kernel
theorem dX12_readCase_179 : decode cX12_readCase 179 = .ok (.aload_n 0, 1) := by decide +kernel
theorem dX12_readCase_180 : decode cX12_readCase 180 = .ok (.getfield 86, 3) := by decide +kernel
theorem dX12_readCase_183 : decode cX12_readCase 183 = .ok (.iload 4, 2) := by decide +kernel
theorem dX12_readCase_185 : decode cX12_readCase 185 = .ok (.aload_n 0, 1) := by decide +kernel
theorem dX12_readCase_186 : decode cX12_readCase 186 = .ok (.iconst 0, 1) := by decide +kernel
theorem dX12_readCase_187 : decode cX12_readCase 187 = .ok (.iconst 0, 1) := by decide +kernel
theorem dX12_readCase_188 : decode cX12_readCase 188 = .ok (.iconst 0, 1) := by decide +kernel
theorem dX12_readCase_189 : decode cX12_readCase 189 = .ok (.invokevirtual 331, 3) := by decide +kernel
theorem dX12_readCase_192 : decode cX12_readCase 192 = .ok (.iastore, 1) := by decide +kernel
theorem dX12_readCase_193 : decode cX12_readCase 193 = .ok (.aload_n 0, 1) := by decide +kernel
theorem dX12_readCase_194 : decode cX12_readCase 194 = .ok (.bipush 59, 2) := by decide +kernel
theorem dX12_readCase_196 : decode cX12_readCase 196 = .ok (.invokevirtual 318, 3) := by decide +kernel
theorem dX12_readCase_199 : decode cX12_readCase 199 = .ok (.return_, 1) := by decide +kernel
theorem dX12_readExpr_0 : decode cX12_readExpr 0 = .ok (.aload_n 0, 1) := by decide +kernel
theorem dX12_readExpr_1 : decode cX12_readExpr 1 = .ok (.getfield 275, 3) := by decide +kernel
theorem dX12_readExpr_4 : decode cX12_readExpr 4 = .ok (.ifCond .le 5, 3) := by decide +kernel
theorem dX12_readExpr_7 : decode cX12_readExpr 7 = .ok (.iconst (-1), 1) := by decide +kernel
theorem dX12_readExpr_8 : decode cX12_readExpr 8 = .ok (.ireturn, 1) := by decide +kernel
theorem dX12_readExpr_9 : decode cX12_readExpr 9 = .ok (.aload_n 0, 1) := by decide +kernel
theorem dX12_readExpr_10 : decode cX12_readExpr 10 = .ok (.iload_n 1, 1) := by decide +kernel
theorem dX12_readExpr_11 : decode cX12_readExpr 11 = .ok (.putfield 353, 3) := by decide +kernel
theorem dX12_readExpr_14 : decode cX12_readExpr 14 = .ok (.aload_n 0, 1) := by decide +kernel
theorem dX12_readExpr_15 : decode cX12_readExpr 15 = .ok (.iload_n 2, 1) := by decide +kernel
theorem dX12_readExpr_16 : decode cX12_readExpr 16 = .ok (.putfield 357, 3) := by decide +kernel
theorem dX12_readExpr_19 : decode cX12_readExpr 19 = .ok (.aload_n 0, 1) := by decide +kernel
theorem dX12_readExpr_20 : decode cX12_readExpr 20 = .ok (.iload_n 3, 1) := by decide +kernel
theorem dX12_readExpr_21 : decode cX12_readExpr 21 = .ok (.putfield 360, 3) := by decide +kernel
theorem dX12_readExpr_24 : decode cX12_readExpr 24 = .ok (.aload_n 0, 1) := by decide +kernel
theorem dX12_readExpr_25 : decode cX12_readExpr 25 = .ok (.iconst 0, 1) := by decide +kernel
theorem dX12_readExpr_26 : decode cX12_readExpr 26 = .ok (.putfield 363, 3) := by decide +kernel
theorem dX12_readExpr_29 : decode cX12_readExpr 29 = .ok (.aload_n 0, 1) := by decide +kernel
theorem dX12_readExpr_30 : decode cX12_readExpr 30 = .ok (.invokevirtual 366, 3) := by decide +kernel
theorem dX12_readExpr_33 : decode cX12_readExpr 33 = .ok (.ireturn, 1) := by decide +kernel
theorem dX12_readSum_0 : decode cX12_readSum 0 = .ok (.aload_n 0, 1) := by decide +kernel
theorem dX12_readSum_1 : decode cX12_readSum 1 = .ok (.invokevirtual 369, 3) := by decide +kernel
theorem dX12_readSum_4 : decode cX12_readSum 4 = .ok (.istore_n 1, 1) := by decide +kernel
theorem dX12_readSum_5 : decode cX12_readSum 5 = .ok (.aload_n 0, 1) := by decide +kernel
theorem dX12_readSum_6 : decode cX12_readSum 6 = .ok (.getfield 275, 3) := by decide +kernel
theorem dX12_readSum_9 : decode cX12_readSum 9 = .ok (.ifCond .ne 63, 3) := by decide +kernel
theorem dX12_readSum_12 : decode cX12_readSum 12 = .ok (.aload_n 0, 1) := by decide +kernel
theorem dX12_readSum_13 : decode cX12_readSum 13 = .ok (.bipush 43, 2) := by decide +kernel
theorem dX12_readSum_15 : decode cX12_readSum 15 = .ok (.invokevirtual 281, 3) := by decide +kernel
theorem dX12_readSum_18 : decode cX12_readSum 18 = .ok (.ifCond .ne 12, 3) := by decide +kernel
theorem dX12_readSum_21 : decode cX12_readSum 21 = .ok (.aload_n 0, 1) := by decide +kernel
theorem dX12_readSum_22 : decode cX12_readSum 22 = .ok (.bipush 45, 2) := by decide +kernel
theorem dX12_readSum_24 : decode cX12_readSum 24 = .ok (.invokevirtual 281, 3) := by decide +kernel
theorem dX12_readSum_27 : decode cX12_readSum 27 = .ok (.ifCond .eq 45, 3) := by decide +kernel
theorem dX12_readSum_30 : decode cX12_readSum 30 = .ok (.aload_n 0, 1) := by decide +kernel
theorem dX12_readSum_31 : decode cX12_readSum 31 = .ok (.bipush 43, 2) := by decide +kernel
theorem dX12_readSum_33 : decode cX12_readSum 33 = .ok (.invokevirtual 281, 3) := by decide +kernel
theorem dX12_readSum_36 : decode cX12_readSum 36 = .ok (.ifCond .eq 7, 3) := by decide +kernel
theorem dX12_readSum_39 : decode cX12_readSum 39 = .ok (.iconst 2, 1) := by decide +kernel
theorem dX12_readSum_40 : decode cX12_readSum 40 = .ok (.goto 4, 3) := by decide +kernel
theorem dX12_readSum_43 : decode cX12_readSum 43 = .ok (.iconst 3, 1) := by decide +kernel
theorem dX12_readSum_44 : decode cX12_readSum 44 = .ok (.istore_n 2, 1) := by decide +kernel
theorem dX12_readSum_45 : decode cX12_readSum 45 = .ok (.aload_n 0, 1) := by decide +kernel
theorem dX12_readSum_46 : decode cX12_readSum 46 = .ok (.invokevirtual 285, 3) := by decide +kernel
theorem dX12_readSum_49 : decode cX12_readSum 49 = .ok (.aload_n 0, 1) := by decide +kernel
theorem dX12_readSum_50 : decode cX12_readSum 50 = .ok (.invokevirtual 369, 3) := by decide +kernel
theorem dX12_readSum_53 : decode cX12_readSum 53 = .ok (.istore_n 3, 1) := by decide +kernel
theorem dX12_readSum_54 : decode cX12_readSum 54 = .ok (.aload_n 0, 1) := by decide +kernel
theorem dX12_readSum_55 : decode cX12_readSum 55 = .ok (.getfield 275, 3) := by decide +kernel
theorem dX12_readSum_58 : decode cX12_readSum 58 = .ok (.ifCond .ne 11, 3) := by decide +kernel
theorem dX12_readSum_61 : decode cX12_readSum 61 = .ok (.aload_n 0, 1) := by decide +kernel
theorem dX12_readSum_62 : decode cX12_readSum 62 = .ok (.iload_n 2, 1) := by decide +kernel
theorem dX12_readSum_63 : decode cX12_readSum 63 = .ok (.iload_n 1, 1) := by decide +kernel
theorem dX12_readSum_64 : decode cX12_readSum 64 = .ok (.iload_n 3, 1) := by decide +kernel
theorem dX12_readSum_65 : decode cX12_readSum 65 = .ok (.invokevirtual 372, 3) := by decide +kernel
theorem dX12_readSum_68 : decode cX12_readSum 68 = .ok (.istore_n 1, 1) := by decide +kernel
theorem dX12_readSum_69 : decode cX12_readSum 69 = .ok (.goto (-64), 3) := by decide +kernel
theorem dX12_readSum_72 : decode cX12_readSum 72 = .ok (.iload_n 1, 1) := by decide +kernel
theorem dX12_readSum_73 : decode cX12_readSum 73 = .ok (.ireturn, 1) := by decide +kernel
theorem dX12_readTerm_0 : decode cX12_readTerm 0 = .ok (.aload_n 0, 1) := by decide +kernel
theorem dX12_readTerm_1 : decode cX12_readTerm 1 = .ok (.invokevirtual 376, 3) := by decide +kernel
theorem dX12_readTerm_4 : decode cX12_readTerm 4 = .ok (.istore_n 1, 1) := by decide +kernel
theorem dX12_readTerm_5 : decode cX12_readTerm 5 = .ok (.aload_n 0, 1) := by decide +kernel
theorem dX12_readTerm_6 : decode cX12_readTerm 6 = .ok (.getfield 275, 3) := by decide +kernel
theorem dX12_readTerm_9 : decode cX12_readTerm 9 = .ok (.ifCond .ne 63, 3) := by decide +kernel
theorem dX12_readTerm_12 : decode cX12_readTerm 12 = .ok (.aload_n 0, 1) := by decide +kernel
theorem dX12_readTerm_13 : decode cX12_readTerm 13 = .ok (.bipush 42, 2) := by decide +kernel
theorem dX12_readTerm_15 : decode cX12_readTerm 15 = .ok (.invokevirtual 281, 3) := by decide +kernel
theorem dX12_readTerm_18 : decode cX12_readTerm 18 = .ok (.ifCond .ne 12, 3) := by decide +kernel
theorem dX12_readTerm_21 : decode cX12_readTerm 21 = .ok (.aload_n 0, 1) := by decide +kernel
theorem dX12_readTerm_22 : decode cX12_readTerm 22 = .ok (.bipush 47, 2) := by decide +kernel
theorem dX12_readTerm_24 : decode cX12_readTerm 24 = .ok (.invokevirtual 281, 3) := by decide +kernel
theorem dX12_readTerm_27 : decode cX12_readTerm 27 = .ok (.ifCond .eq 45, 3) := by decide +kernel
theorem dX12_readTerm_30 : decode cX12_readTerm 30 = .ok (.aload_n 0, 1) := by decide +kernel
theorem dX12_readTerm_31 : decode cX12_readTerm 31 = .ok (.bipush 42, 2) := by decide +kernel
theorem dX12_readTerm_33 : decode cX12_readTerm 33 = .ok (.invokevirtual 281, 3) := by decide +kernel
theorem dX12_readTerm_36 : decode cX12_readTerm 36 = .ok (.ifCond .eq 7, 3) := by decide +kernel
theorem dX12_readTerm_39 : decode cX12_readTerm 39 = .ok (.iconst 4, 1) := by decide +kernel
theorem dX12_readTerm_40 : decode cX12_readTerm 40 = .ok (.goto 4, 3) := by decide +kernel
theorem dX12_readTerm_43 : decode cX12_readTerm 43 = .ok (.iconst 5, 1) := by decide +kernel
theorem dX12_readTerm_44 : decode cX12_readTerm 44 = .ok (.istore_n 2, 1) := by decide +kernel
theorem dX12_readTerm_45 : decode cX12_readTerm 45 = .ok (.aload_n 0, 1) := by decide +kernel
theorem dX12_readTerm_46 : decode cX12_readTerm 46 = .ok (.invokevirtual 285, 3) := by decide +kernel
theorem dX12_readTerm_49 : decode cX12_readTerm 49 = .ok (.aload_n 0, 1) := by decide +kernel
theorem dX12_readTerm_50 : decode cX12_readTerm 50 = .ok (.invokevirtual 376, 3) := by decide +kernel
theorem dX12_readTerm_53 : decode cX12_readTerm 53 = .ok (.istore_n 3, 1) := by decide +kernel
theorem dX12_readTerm_54 : decode cX12_readTerm 54 = .ok (.aload_n 0, 1) := by decide +kernel
theorem dX12_readTerm_55 : decode cX12_readTerm 55 = .ok (.getfield 275, 3) := by decide +kernel
theorem dX12_readTerm_58 : decode cX12_readTerm 58 = .ok (.ifCond .ne 11, 3) := by decide +kernel
theorem dX12_readTerm_61 : decode cX12_readTerm 61 = .ok (.aload_n 0, 1) := by decide +kernel
theorem dX12_readTerm_62 : decode cX12_readTerm 62 = .ok (.iload_n 2, 1) := by decide +kernel
theorem dX12_readTerm_63 : decode cX12_readTerm 63 = .ok (.iload_n 1, 1) := by decide +kernel
theorem dX12_readTerm_64 : decode cX12_readTerm 64 = .ok (.iload_n 3, 1) := by decide +kernel
theorem dX12_readTerm_65 : decode cX12_readTerm 65 = .ok (.invokevirtual 372, 3) := by decide +kernel
theorem dX12_readTerm_68 : decode cX12_readTerm 68 = .ok (.istore_n 1, 1) := by decide +kernel
theorem dX12_readTerm_69 : decode cX12_readTerm 69 = .ok (.goto (-64), 3) := by decide +kernel
theorem dX12_readTerm_72 : decode cX12_readTerm 72 = .ok (.iload_n 1, 1) := by decide +kernel
theorem dX12_readTerm_73 : decode cX12_readTerm 73 = .ok (.ireturn, 1) := by decide +kernel
theorem dX12_readFactor_0 : decode cX12_readFactor 0 = .ok (.aload_n 0, 1) := by decide +kernel
theorem dX12_readFactor_1 : decode cX12_readFactor 1 = .ok (.getfield 275, 3) := by decide +kernel
theorem dX12_readFactor_4 : decode cX12_readFactor 4 = .ok (.ifCond .le 5, 3) := by decide +kernel
theorem dX12_readFactor_7 : decode cX12_readFactor 7 = .ok (.iconst (-1), 1) := by decide +kernel
theorem dX12_readFactor_8 : decode cX12_readFactor 8 = .ok (.ireturn, 1) := by decide +kernel
theorem dX12_readFactor_9 : decode cX12_readFactor 9 = .ok (.aload_n 0, 1) := by decide +kernel
theorem dX12_readFactor_10 : decode cX12_readFactor 10 = .ok (.bipush 45, 2) := by decide +kernel
theorem dX12_readFactor_12 : decode cX12_readFactor 12 = .ok (.invokevirtual 281, 3) := by decide +kernel
theorem dX12_readFactor_15 : decode cX12_readFactor 15 = .ok (.ifCond .ne 12, 3) := by decide +kernel
theorem dX12_readFactor_18 : decode cX12_readFactor 18 = .ok (.aload_n 0, 1) := by decide +kernel
theorem dX12_readFactor_19 : decode cX12_readFactor 19 = .ok (.bipush 40, 2) := by decide +kernel
theorem dX12_readFactor_21 : decode cX12_readFactor 21 = .ok (.invokevirtual 281, 3) := by decide +kernel
theorem dX12_readFactor_24 : decode cX12_readFactor 24 = .ok (.ifCond .eq 98, 3) := by decide +kernel
theorem dX12_readFactor_27 : decode cX12_readFactor 27 = .ok (.aload_n 0, 1) := by decide +kernel
theorem dX12_readFactor_28 : decode cX12_readFactor 28 = .ok (.bipush 45, 2) := by decide +kernel
theorem dX12_readFactor_30 : decode cX12_readFactor 30 = .ok (.invokevirtual 281, 3) := by decide +kernel
theorem dX12_readFactor_33 : decode cX12_readFactor 33 = .ok (.istore_n 1, 1) := by decide +kernel
theorem dX12_readFactor_34 : decode cX12_readFactor 34 = .ok (.aload_n 0, 1) := by decide +kernel
theorem dX12_readFactor_35 : decode cX12_readFactor 35 = .ok (.getfield 363, 3) := by decide +kernel
theorem dX12_readFactor_38 : decode cX12_readFactor 38 = .ok (.bipush 12, 2) := by decide +kernel
theorem dX12_readFactor_40 : decode cX12_readFactor 40 = .ok (.if_icmp .ne 9, 3) := by decide +kernel
theorem dX12_readFactor_43 : decode cX12_readFactor 43 = .ok (.aload_n 0, 1) := by decide +kernel
theorem dX12_readFactor_44 : decode cX12_readFactor 44 = .ok (.iconst 5, 1) := by decide +kernel
theorem dX12_readFactor_45 : decode cX12_readFactor 45 = .ok (.invokevirtual 288, 3) := by decide +kernel
theorem dX12_readFactor_48 : decode cX12_readFactor 48 = .ok (.ireturn, 1) := by decide +kernel
theorem dX12_readFactor_49 : decode cX12_readFactor 49 = .ok (.aload_n 0, 1) := by decide +kernel
theorem dX12_readFactor_50 : decode cX12_readFactor 50 = .ok (.dup, 1) := by decide +kernel
theorem dX12_readFactor_51 : decode cX12_readFactor 51 = .ok (.getfield 363, 3) := by decide +kernel
theorem dX12_readFactor_54 : decode cX12_readFactor 54 = .ok (.iconst 1, 1) := by decide +kernel
theorem dX12_readFactor_55 : decode cX12_readFactor 55 = .ok (.iadd, 1) := by decide +kernel
theorem dX12_readFactor_56 : decode cX12_readFactor 56 = .ok (.putfield 363, 3) := by decide +kernel
theorem dX12_readFactor_59 : decode cX12_readFactor 59 = .ok (.aload_n 0, 1) := by decide +kernel
theorem dX12_readFactor_60 : decode cX12_readFactor 60 = .ok (.invokevirtual 285, 3) := by decide +kernel
theorem dX12_readFactor_63 : decode cX12_readFactor 63 = .ok (.iload_n 1, 1) := by decide +kernel
theorem dX12_readFactor_64 : decode cX12_readFactor 64 = .ok (.ifCond .eq 10, 3) := by decide +kernel
theorem dX12_readFactor_67 : decode cX12_readFactor 67 = .ok (.aload_n 0, 1) := by decide +kernel
theorem dX12_readFactor_68 : decode cX12_readFactor 68 = .ok (.invokevirtual 376, 3) := by decide +kernel
theorem dX12_readFactor_71 : decode cX12_readFactor 71 = .ok (.goto 7, 3) := by decide +kernel
theorem dX12_readFactor_74 : decode cX12_readFactor 74 = .ok (.aload_n 0, 1) := by decide +kernel
theorem dX12_readFactor_75 : decode cX12_readFactor 75 = .ok (.invokevirtual 366, 3) := by decide +kernel
theorem dX12_readFactor_78 : decode cX12_readFactor 78 = .ok (.istore_n 2, 1) := by decide +kernel
theorem dX12_readFactor_79 : decode cX12_readFactor 79 = .ok (.iload_n 1, 1) := by decide +kernel
theorem dX12_readFactor_80 : decode cX12_readFactor 80 = .ok (.ifCond .ne 9, 3) := by decide +kernel
theorem dX12_readFactor_83 : decode cX12_readFactor 83 = .ok (.aload_n 0, 1) := by decide +kernel
theorem dX12_readFactor_84 : decode cX12_readFactor 84 = .ok (.bipush 41, 2) := by decide +kernel
theorem dX12_readFactor_86 : decode cX12_readFactor 86 = .ok (.invokevirtual 318, 3) := by decide +kernel
theorem dX12_readFactor_89 : decode cX12_readFactor 89 = .ok (.aload_n 0, 1) := by decide +kernel
theorem dX12_readFactor_90 : decode cX12_readFactor 90 = .ok (.dup, 1) := by decide +kernel
theorem dX12_readFactor_91 : decode cX12_readFactor 91 = .ok (.getfield 363, 3) := by decide +kernel
theorem dX12_readFactor_94 : decode cX12_readFactor 94 = .ok (.iconst 1, 1) := by decide +kernel
theorem dX12_readFactor_95 : decode cX12_readFactor 95 = .ok (.isub, 1) := by decide +kernel
theorem dX12_readFactor_96 : decode cX12_readFactor 96 = .ok (.putfield 363, 3) := by decide +kernel
theorem dX12_readFactor_99 : decode cX12_readFactor 99 = .ok (.aload_n 0, 1) := by decide +kernel
theorem dX12_readFactor_100 : decode cX12_readFactor 100 = .ok (.getfield 275, 3) := by decide +kernel
theorem dX12_readFactor_103 : decode cX12_readFactor 103 = .ok (.ifCond .gt 7, 3) := by decide +kernel
theorem dX12_readFactor_106 : decode cX12_readFactor 106 = .ok (.iload_n 1, 1) := by decide +kernel
theorem dX12_readFactor_107 : decode cX12_readFactor 107 = .ok (.ifCond .ne 7, 3) := by decide +kernel
theorem dX12_readFactor_110 : decode cX12_readFactor 110 = .ok (.iload_n 2, 1) := by decide +kernel
theorem dX12_readFactor_111 : decode cX12_readFactor 111 = .ok (.goto 10, 3) := by decide +kernel
theorem dX12_readFactor_114 : decode cX12_readFactor 114 = .ok (.aload_n 0, 1) := by decide +kernel
theorem dX12_readFactor_115 : decode cX12_readFactor 115 = .ok (.iconst 1, 1) := by decide +kernel
theorem dX12_readFactor_116 : decode cX12_readFactor 116 = .ok (.iload_n 2, 1) := by decide +kernel
theorem dX12_readFactor_117 : decode cX12_readFactor 117 = .ok (.iconst 0, 1) := by decide +kernel
theorem dX12_readFactor_118 : decode cX12_readFactor 118 = .ok (.invokevirtual 372, 3) := by decide +kernel
theorem dX12_readFactor_121 : decode cX12_readFactor 121 = .ok (.ireturn, 1) := by decide +kernel
theorem dX12_readFactor_122 : decode cX12_readFactor 122 = .ok (.aload_n 0, 1) := by decide +kernel
theorem dX12_readFactor_123 : decode cX12_readFactor 123 = .ok (.getfield 205, 3) := by decide +kernel
theorem dX12_readFactor_126 : decode cX12_readFactor 126 = .ok (.iconst 3, 1) := by decide +kernel
theorem dX12_readFactor_127 : decode cX12_readFactor 127 = .ok (.if_icmp .ne 18, 3) := by decide +kernel
theorem dX12_readFactor_130 : decode cX12_readFactor 130 = .ok (.aload_n 0, 1) := by decide +kernel
theorem dX12_readFactor_131 : decode cX12_readFactor 131 = .ok (.aload_n 0, 1) := by decide +kernel
theorem dX12_readFactor_132 : decode cX12_readFactor 132 = .ok (.iconst 0, 1) := by decide +kernel
theorem dX12_readFactor_133 : decode cX12_readFactor 133 = .ok (.aload_n 0, 1) := by decide +kernel
theorem dX12_readFactor_134 : decode cX12_readFactor 134 = .ok (.getfield 215, 3) := by decide +kernel
theorem dX12_readFactor_137 : decode cX12_readFactor 137 = .ok (.iconst 0, 1) := by decide +kernel
theorem dX12_readFactor_138 : decode cX12_readFactor 138 = .ok (.invokevirtual 372, 3) := by decide +kernel
theorem dX12_readFactor_141 : decode cX12_readFactor 141 = .ok (.invokevirtual 379, 3) := by decide +kernel
theorem dX12_readFactor_144 : decode cX12_readFactor 144 = .ok (.ireturn, 1) := by decide +kernel
theorem dX12_readFactor_145 : decode cX12_readFactor 145 = .ok (.aload_n 0, 1) := by decide +kernel
theorem dX12_readFactor_146 : decode cX12_readFactor 146 = .ok (.getfield 353, 3) := by decide +kernel
theorem dX12_readFactor_149 : decode cX12_readFactor 149 = .ok (.ifCond .eq 25, 3) := by decide +kernel
theorem dX12_readFactor_152 : decode cX12_readFactor 152 = .ok (.aload_n 0, 1) := by decide +kernel
theorem dX12_readFactor_153 : decode cX12_readFactor 153 = .ok (.ldc 251, 2) := by decide +kernel
theorem dX12_readFactor_155 : decode cX12_readFactor 155 = .ok (.invokevirtual 235, 3) := by decide +kernel
theorem dX12_readFactor_158 : decode cX12_readFactor 158 = .ok (.ifCond .eq 16, 3) := by decide +kernel
theorem dX12_readFactor_161 : decode cX12_readFactor 161 = .ok (.aload_n 0, 1) := by decide +kernel
theorem dX12_readFactor_162 : decode cX12_readFactor 162 = .ok (.aload_n 0, 1) := by decide +kernel
theorem dX12_readFactor_163 : decode cX12_readFactor 163 = .ok (.bipush 6, 2) := by decide +kernel
theorem dX12_readFactor_165 : decode cX12_readFactor 165 = .ok (.iconst 0, 1) := by decide +kernel
theorem dX12_readFactor_166 : decode cX12_readFactor 166 = .ok (.iconst 0, 1) := by decide +kernel
theorem dX12_readFactor_167 : decode cX12_readFactor 167 = .ok (.invokevirtual 372, 3) := by decide +kernel
theorem dX12_readFactor_170 : decode cX12_readFactor 170 = .ok (.invokevirtual 379, 3) := by decide +kernel
theorem dX12_readFactor_173 : decode cX12_readFactor 173 = .ok (.ireturn, 1) := by decide +kernel
theorem dX12_readFactor_174 : decode cX12_readFactor 174 = .ok (.aload_n 0, 1) := by decide +kernel
theorem dX12_readFactor_175 : decode cX12_readFactor 175 = .ok (.getfield 357, 3) := by decide +kernel
theorem dX12_readFactor_178 : decode cX12_readFactor 178 = .ok (.ifCond .eq 25, 3) := by decide +kernel
theorem dX12_readFactor_181 : decode cX12_readFactor 181 = .ok (.aload_n 0, 1) := by decide +kernel
theorem dX12_readFactor_182 : decode cX12_readFactor 182 = .ok (.ldc 253, 2) := by decide +kernel
theorem dX12_readFactor_184 : decode cX12_readFactor 184 = .ok (.invokevirtual 235, 3) := by decide +kernel
theorem dX12_readFactor_187 : decode cX12_readFactor 187 = .ok (.ifCond .eq 16, 3) := by decide +kernel
theorem dX12_readFactor_190 : decode cX12_readFactor 190 = .ok (.aload_n 0, 1) := by decide +kernel
theorem dX12_readFactor_191 : decode cX12_readFactor 191 = .ok (.aload_n 0, 1) := by decide +kernel
theorem dX12_readFactor_192 : decode cX12_readFactor 192 = .ok (.bipush 7, 2) := by decide +kernel
theorem dX12_readFactor_194 : decode cX12_readFactor 194 = .ok (.iconst 0, 1) := by decide +kernel
theorem dX12_readFactor_195 : decode cX12_readFactor 195 = .ok (.iconst 0, 1) := by decide +kernel
theorem dX12_readFactor_196 : decode cX12_readFactor 196 = .ok (.invokevirtual 372, 3) := by decide +kernel
theorem dX12_readFactor_199 : decode cX12_readFactor 199 = .ok (.invokevirtual 379, 3) := by decide +kernel
theorem dX12_readFactor_202 : decode cX12_readFactor 202 = .ok (.ireturn, 1) := by decide +kernel
theorem dX12_readFactor_203 : decode cX12_readFactor 203 = .ok (.aload_n 0, 1) := by decide +kernel
theorem dX12_readFactor_204 : decode cX12_readFactor 204 = .ok (.getfield 360, 3) := by decide +kernel
theorem dX12_readFactor_207 : decode cX12_readFactor 207 = .ok (.ifCond .eq 26, 3) := by decide +kernel
theorem dX12_readFactor_210 : decode cX12_readFactor 210 = .ok (.aload_n 0, 1) := by decide +kernel
theorem dX12_readFactor_211 : decode cX12_readFactor 211 = .ok (.ldc_w 257, 3) := by decide +kernel
theorem dX12_readFactor_214 : decode cX12_readFactor 214 = .ok (.invokevirtual 235, 3) := by decide +kernel
theorem dX12_readFactor_217 : decode cX12_readFactor 217 = .ok (.ifCond .eq 16, 3) := by decide +kernel
theorem dX12_readFactor_220 : decode cX12_readFactor 220 = .ok (.aload_n 0, 1) := by decide +kernel
theorem dX12_readFactor_221 : decode cX12_readFactor 221 = .ok (.aload_n 0, 1) := by decide +kernel
theorem dX12_readFactor_222 : decode cX12_readFactor 222 = .ok (.bipush 8, 2) := by decide +kernel
theorem dX12_readFactor_224 : decode cX12_readFactor 224 = .ok (.iconst 0, 1) := by decide +kernel
theorem dX12_readFactor_225 : decode cX12_readFactor 225 = .ok (.iconst 0, 1) := by decide +kernel
theorem dX12_readFactor_226 : decode cX12_readFactor 226 = .ok (.invokevirtual 372, 3) := by decide +kernel
theorem dX12_readFactor_229 : decode cX12_readFactor 229 = .ok (.invokevirtual 379, 3) := by decide +kernel
theorem dX12_readFactor_232 : decode cX12_readFactor 232 = .ok (.ireturn, 1) := by decide +kernel
theorem dX12_readFactor_233 : decode cX12_readFactor 233 = .ok (.aload_n 0, 1) := by decide +kernel
theorem dX12_readFactor_234 : decode cX12_readFactor 234 = .ok (.ldc 255, 2) := by decide +kernel
theorem dX12_readFactor_236 : decode cX12_readFactor 236 = .ok (.invokevirtual 235, 3) := by decide +kernel
theorem dX12_readFactor_239 : decode cX12_readFactor 239 = .ok (.ifCond .eq 16, 3) := by decide +kernel
theorem dX12_readFactor_242 : decode cX12_readFactor 242 = .ok (.aload_n 0, 1) := by decide +kernel
theorem dX12_readFactor_243 : decode cX12_readFactor 243 = .ok (.aload_n 0, 1) := by decide +kernel
theorem dX12_readFactor_244 : decode cX12_readFactor 244 = .ok (.bipush 9, 2) := by decide +kernel
theorem dX12_readFactor_246 : decode cX12_readFactor 246 = .ok (.iconst 0, 1) := by decide +kernel
theorem dX12_readFactor_247 : decode cX12_readFactor 247 = .ok (.iconst 0, 1) := by decide +kernel
theorem dX12_readFactor_248 : decode cX12_readFactor 248 = .ok (.invokevirtual 372, 3) := by decide +kernel
theorem dX12_readFactor_251 : decode cX12_readFactor 251 = .ok (.invokevirtual 379, 3) := by decide +kernel
theorem dX12_readFactor_254 : decode cX12_readFactor 254 = .ok (.ireturn, 1) := by decide +kernel
theorem dX12_readFactor_255 : decode cX12_readFactor 255 = .ok (.aload_n 0, 1) := by decide +kernel
theorem dX12_readFactor_256 : decode cX12_readFactor 256 = .ok (.invokevirtual 382, 3) := by decide +kernel
theorem dX12_readFactor_259 : decode cX12_readFactor 259 = .ok (.ireturn, 1) := by decide +kernel
theorem dX12_taken_0 : decode cX12_taken 0 = .ok (.aload_n 0, 1) := by decide +kernel
theorem dX12_taken_1 : decode cX12_taken 1 = .ok (.invokevirtual 285, 3) := by decide +kernel
theorem dX12_taken_4 : decode cX12_taken 4 = .ok (.iload_n 1, 1) := by decide +kernel
theorem dX12_taken_5 : decode cX12_taken 5 = .ok (.ireturn, 1) := by decide +kernel
theorem dX12_readReference_0 : decode cX12_readReference 0 = .ok (.aload_n 0, 1) := by decide +kernel
theorem dX12_readReference_1 : decode cX12_readReference 1 = .ok (.invokevirtual 291, 3) := by decide +kernel
theorem dX12_readReference_4 : decode cX12_readReference 4 = .ok (.ifCond .ne 9, 3) := by decide +kernel
theorem dX12_readReference_7 : decode cX12_readReference 7 = .ok (.aload_n 0, 1) := by decide +kernel
theorem dX12_readReference_8 : decode cX12_readReference 8 = .ok (.iconst 2, 1) := by decide +kernel
theorem dX12_readReference_9 : decode cX12_readReference 9 = .ok (.invokevirtual 288, 3) := by decide +kernel
theorem dX12_readReference_12 : decode cX12_readReference 12 = .ok (.ireturn, 1) := by decide +kernel
theorem dX12_readReference_13 : decode cX12_readReference 13 = .ok (.aload_n 0, 1) := by decide +kernel
theorem dX12_readReference_14 : decode cX12_readReference 14 = .ok (.invokevirtual 294, 3) := by decide +kernel
theorem dX12_readReference_17 : decode cX12_readReference 17 = .ok (.istore_n 1, 1) := by decide +kernel
theorem dX12_readReference_18 : decode cX12_readReference 18 = .ok (.aload_n 0, 1) := by decide +kernel
theorem dX12_readReference_19 : decode cX12_readReference 19 = .ok (.getfield 301, 3) := by decide +kernel
theorem dX12_readReference_22 : decode cX12_readReference 22 = .ok (.istore_n 2, 1) := by decide +kernel
theorem dX12_readReference_23 : decode cX12_readReference 23 = .ok (.aload_n 0, 1) := by decide +kernel
theorem dX12_readReference_24 : decode cX12_readReference 24 = .ok (.dup, 1) := by decide +kernel
theorem dX12_readReference_25 : decode cX12_readReference 25 = .ok (.getfield 301, 3) := by decide +kernel
theorem dX12_readReference_28 : decode cX12_readReference 28 = .ok (.iconst 1, 1) := by decide +kernel
theorem dX12_readReference_29 : decode cX12_readReference 29 = .ok (.iadd, 1) := by decide +kernel
theorem dX12_readReference_30 : decode cX12_readReference 30 = .ok (.putfield 301, 3) := by decide +kernel
theorem dX12_readReference_33 : decode cX12_readReference 33 = .ok (.aload_n 0, 1) := by decide +kernel
theorem dX12_readReference_34 : decode cX12_readReference 34 = .ok (.getfield 110, 3) := by decide +kernel
theorem dX12_readReference_37 : decode cX12_readReference 37 = .ok (.iload_n 2, 1) := by decide +kernel
theorem dX12_readReference_38 : decode cX12_readReference 38 = .ok (.iconst (-1), 1) := by decide +kernel
theorem dX12_readReference_39 : decode cX12_readReference 39 = .ok (.iastore, 1) := by decide +kernel
theorem dX12_readReference_40 : decode cX12_readReference 40 = .ok (.aload_n 0, 1) := by decide +kernel
theorem dX12_readReference_41 : decode cX12_readReference 41 = .ok (.getfield 113, 3) := by decide +kernel
theorem dX12_readReference_44 : decode cX12_readReference 44 = .ok (.iload_n 2, 1) := by decide +kernel
theorem dX12_readReference_45 : decode cX12_readReference 45 = .ok (.iload_n 1, 1) := by decide +kernel
theorem dX12_readReference_46 : decode cX12_readReference 46 = .ok (.iastore, 1) := by decide +kernel
theorem dX12_readReference_47 : decode cX12_readReference 47 = .ok (.aload_n 0, 1) := by decide +kernel
theorem dX12_readReference_48 : decode cX12_readReference 48 = .ok (.invokevirtual 285, 3) := by decide +kernel
theorem dX12_readReference_51 : decode cX12_readReference 51 = .ok (.aload_n 0, 1) := by decide +kernel
theorem dX12_readReference_52 : decode cX12_readReference 52 = .ok (.bipush 46, 2) := by decide +kernel
theorem dX12_readReference_54 : decode cX12_readReference 54 = .ok (.invokevirtual 281, 3) := by decide +kernel
theorem dX12_readReference_57 : decode cX12_readReference 57 = .ok (.ifCond .eq 41, 3) := by decide +kernel
theorem dX12_readReference_60 : decode cX12_readReference 60 = .ok (.aload_n 0, 1) := by decide +kernel
theorem dX12_readReference_61 : decode cX12_readReference 61 = .ok (.invokevirtual 285, 3) := by decide +kernel
theorem dX12_readReference_64 : decode cX12_readReference 64 = .ok (.aload_n 0, 1) := by decide +kernel
theorem dX12_readReference_65 : decode cX12_readReference 65 = .ok (.invokevirtual 291, 3) := by decide +kernel
theorem dX12_readReference_68 : decode cX12_readReference 68 = .ok (.ifCond .ne 9, 3) := by decide +kernel
theorem dX12_readReference_71 : decode cX12_readReference 71 = .ok (.aload_n 0, 1) := by decide +kernel
theorem dX12_readReference_72 : decode cX12_readReference 72 = .ok (.iconst 2, 1) := by decide +kernel
theorem dX12_readReference_73 : decode cX12_readReference 73 = .ok (.invokevirtual 288, 3) := by decide +kernel
theorem dX12_readReference_76 : decode cX12_readReference 76 = .ok (.ireturn, 1) := by decide +kernel
theorem dX12_readReference_77 : decode cX12_readReference 77 = .ok (.aload_n 0, 1) := by decide +kernel
theorem dX12_readReference_78 : decode cX12_readReference 78 = .ok (.getfield 110, 3) := by decide +kernel
theorem dX12_readReference_81 : decode cX12_readReference 81 = .ok (.iload_n 2, 1) := by decide +kernel
theorem dX12_readReference_82 : decode cX12_readReference 82 = .ok (.iload_n 1, 1) := by decide +kernel
theorem dX12_readReference_83 : decode cX12_readReference 83 = .ok (.iastore, 1) := by decide +kernel
theorem dX12_readReference_84 : decode cX12_readReference 84 = .ok (.aload_n 0, 1) := by decide +kernel
theorem dX12_readReference_85 : decode cX12_readReference 85 = .ok (.getfield 113, 3) := by decide +kernel
theorem dX12_readReference_88 : decode cX12_readReference 88 = .ok (.iload_n 2, 1) := by decide +kernel
theorem dX12_readReference_89 : decode cX12_readReference 89 = .ok (.aload_n 0, 1) := by decide +kernel
theorem dX12_readReference_90 : decode cX12_readReference 90 = .ok (.invokevirtual 294, 3) := by decide +kernel
theorem dX12_readReference_93 : decode cX12_readReference 93 = .ok (.iastore, 1) := by decide +kernel
theorem dX12_readReference_94 : decode cX12_readReference 94 = .ok (.aload_n 0, 1) := by decide +kernel
theorem dX12_readReference_95 : decode cX12_readReference 95 = .ok (.invokevirtual 285, 3) := by decide +kernel
theorem dX12_readReference_98 : decode cX12_readReference 98 = .ok (.aload_n 0, 1) := by decide +kernel
theorem dX12_readReference_99 : decode cX12_readReference 99 = .ok (.bipush 10, 2) := by decide +kernel
theorem dX12_readReference_101 : decode cX12_readReference 101 = .ok (.iconst (-1), 1) := by decide +kernel
theorem dX12_readReference_102 : decode cX12_readReference 102 = .ok (.iconst (-1), 1) := by decide +kernel
theorem dX12_readReference_103 : decode cX12_readReference 103 = .ok (.invokevirtual 372, 3) := by decide +kernel
theorem dX12_readReference_106 : decode cX12_readReference 106 = .ok (.istore_n 3, 1) := by decide +kernel
theorem dX12_readReference_107 : decode cX12_readReference 107 = .ok (.aload_n 0, 1) := by decide +kernel
theorem dX12_readReference_108 : decode cX12_readReference 108 = .ok (.getfield 107, 3) := by decide +kernel
theorem dX12_readReference_111 : decode cX12_readReference 111 = .ok (.iload_n 2, 1) := by decide +kernel
theorem dX12_readReference_112 : decode cX12_readReference 112 = .ok (.iload_n 3, 1) := by decide +kernel
theorem dX12_readReference_113 : decode cX12_readReference 113 = .ok (.iastore, 1) := by decide +kernel
theorem dX12_readReference_114 : decode cX12_readReference 114 = .ok (.aload_n 0, 1) := by decide +kernel
theorem dX12_readReference_115 : decode cX12_readReference 115 = .ok (.getfield 275, 3) := by decide +kernel
theorem dX12_readReference_118 : decode cX12_readReference 118 = .ok (.ifCond .gt 12, 3) := by decide +kernel
theorem dX12_readReference_121 : decode cX12_readReference 121 = .ok (.aload_n 0, 1) := by decide +kernel
theorem dX12_readReference_122 : decode cX12_readReference 122 = .ok (.bipush 91, 2) := by decide +kernel
theorem dX12_readReference_124 : decode cX12_readReference 124 = .ok (.invokevirtual 281, 3) := by decide +kernel
theorem dX12_readReference_127 : decode cX12_readReference 127 = .ok (.ifCond .ne 5, 3) := by decide +kernel
theorem dX12_readReference_130 : decode cX12_readReference 130 = .ok (.iload_n 3, 1) := by decide +kernel
theorem dX12_readReference_131 : decode cX12_readReference 131 = .ok (.ireturn, 1) := by decide +kernel
theorem dX12_readReference_132 : decode cX12_readReference 132 = .ok (.aload_n 0, 1) := by decide +kernel
theorem dX12_readReference_133 : decode cX12_readReference 133 = .ok (.getfield 363, 3) := by decide +kernel
theorem dX12_readReference_136 : decode cX12_readReference 136 = .ok (.bipush 12, 2) := by decide +kernel
theorem dX12_readReference_138 : decode cX12_readReference 138 = .ok (.if_icmp .ne 9, 3) := by decide +kernel
theorem dX12_readReference_141 : decode cX12_readReference 141 = .ok (.aload_n 0, 1) := by decide +kernel
theorem dX12_readReference_142 : decode cX12_readReference 142 = .ok (.iconst 5, 1) := by decide +kernel
theorem dX12_readReference_143 : decode cX12_readReference 143 = .ok (.invokevirtual 288, 3) := by decide +kernel
theorem dX12_readReference_146 : decode cX12_readReference 146 = .ok (.ireturn, 1) := by decide +kernel
theorem dX12_readReference_147 : decode cX12_readReference 147 = .ok (.aload_n 0, 1) := by decide +kernel
theorem dX12_readReference_148 : decode cX12_readReference 148 = .ok (.dup, 1) := by decide +kernel
theorem dX12_readReference_149 : decode cX12_readReference 149 = .ok (.getfield 363, 3) := by decide +kernel
theorem dX12_readReference_152 : decode cX12_readReference 152 = .ok (.iconst 1, 1) := by decide +kernel
theorem dX12_readReference_153 : decode cX12_readReference 153 = .ok (.iadd, 1) := by decide +kernel
theorem dX12_readReference_154 : decode cX12_readReference 154 = .ok (.putfield 363, 3) := by decide +kernel
theorem dX12_readReference_157 : decode cX12_readReference 157 = .ok (.aload_n 0, 1) := by decide +kernel
theorem dX12_readReference_158 : decode cX12_readReference 158 = .ok (.invokevirtual 285, 3) := by decide +kernel
theorem dX12_readReference_161 : decode cX12_readReference 161 = .ok (.aload_n 0, 1) := by decide +kernel
theorem dX12_readReference_162 : decode cX12_readReference 162 = .ok (.invokevirtual 366, 3) := by decide +kernel
theorem dX12_readReference_165 : decode cX12_readReference 165 = .ok (.istore 4, 2) := by decide +kernel
theorem dX12_readReference_167 : decode cX12_readReference 167 = .ok (.aload_n 0, 1) := by decide +kernel
theorem dX12_readReference_168 : decode cX12_readReference 168 = .ok (.bipush 93, 2) := by decide +kernel
theorem dX12_readReference_170 : decode cX12_readReference 170 = .ok (.invokevirtual 318, 3) := by decide +kernel
theorem dX12_readReference_173 : decode cX12_readReference 173 = .ok (.aload_n 0, 1) := by decide +kernel
theorem dX12_readReference_174 : decode cX12_readReference 174 = .ok (.dup, 1) := by decide +kernel
theorem dX12_readReference_175 : decode cX12_readReference 175 = .ok (.getfield 363, 3) := by decide +kernel
theorem dX12_readReference_178 : decode cX12_readReference 178 = .ok (.iconst 1, 1) := by decide +kernel
theorem dX12_readReference_179 : decode cX12_readReference 179 = .ok (.isub, 1) := by decide +kernel
theorem dX12_readReference_180 : decode cX12_readReference 180 = .ok (.putfield 363, 3) := by decide +kernel
theorem dX12_readReference_183 : decode cX12_readReference 183 = .ok (.aload_n 0, 1) := by decide +kernel
theorem dX12_readReference_184 : decode cX12_readReference 184 = .ok (.getfield 275, 3) := by decide +kernel
theorem dX12_readReference_187 : decode cX12_readReference 187 = .ok (.ifCond .le 5, 3) := by decide +kernel
theorem dX12_readReference_190 : decode cX12_readReference 190 = .ok (.iload_n 3, 1) := by decide +kernel
theorem dX12_readReference_191 : decode cX12_readReference 191 = .ok (.ireturn, 1) := by decide +kernel
theorem dX12_readReference_192 : decode cX12_readReference 192 = .ok (.aload_n 0, 1) := by decide +kernel
theorem dX12_readReference_193 : decode cX12_readReference 193 = .ok (.getfield 92, 3) := by decide +kernel
theorem dX12_readReference_196 : decode cX12_readReference 196 = .ok (.iload_n 3, 1) := by decide +kernel
theorem dX12_readReference_197 : decode cX12_readReference 197 = .ok (.bipush 12, 2) := by decide +kernel
theorem dX12_readReference_199 : decode cX12_readReference 199 = .ok (.iastore, 1) := by decide +kernel
theorem dX12_readReference_200 : decode cX12_readReference 200 = .ok (.aload_n 0, 1) := by decide +kernel
theorem dX12_readReference_201 : decode cX12_readReference 201 = .ok (.getfield 98, 3) := by decide +kernel
theorem dX12_readReference_204 : decode cX12_readReference 204 = .ok (.iload_n 3, 1) := by decide +kernel
theorem dX12_readReference_205 : decode cX12_readReference 205 = .ok (.iload 4, 2) := by decide +kernel
theorem dX12_readReference_207 : decode cX12_readReference 207 = .ok (.iastore, 1) := by decide +kernel
theorem dX12_readReference_208 : decode cX12_readReference 208 = .ok (.iload_n 3, 1) := by decide +kernel
theorem dX12_readReference_209 : decode cX12_readReference 209 = .ok (.ireturn, 1) := by decide +kernel
theorem dX12_settle_0 : decode cX12_settle 0 = .ok (.aload_n 0, 1) := by decide +kernel
theorem dX12_settle_1 : decode cX12_settle 1 = .ok (.getfield 107, 3) := by decide +kernel
theorem dX12_settle_4 : decode cX12_settle 4 = .ok (.iload_n 1, 1) := by decide +kernel
theorem dX12_settle_5 : decode cX12_settle 5 = .ok (.iaload, 1) := by decide +kernel
theorem dX12_settle_6 : decode cX12_settle 6 = .ok (.istore_n 2, 1) := by decide +kernel
theorem dX12_settle_7 : decode cX12_settle 7 = .ok (.iload_n 2, 1) := by decide +kernel
theorem dX12_settle_8 : decode cX12_settle 8 = .ok (.ifCond .ge 14, 3) := by decide +kernel
theorem dX12_settle_11 : decode cX12_settle 11 = .ok (.iconst (-1), 1) := by decide +kernel
theorem dX12_settle_12 : decode cX12_settle 12 = .ok (.iload_n 2, 1) := by decide +kernel
theorem dX12_settle_13 : decode cX12_settle 13 = .ok (.isub, 1) := by decide +kernel
theorem dX12_settle_14 : decode cX12_settle 14 = .ok (.bipush 12, 2) := by decide +kernel
theorem dX12_settle_16 : decode cX12_settle 16 = .ok (.idiv, 1) := by decide +kernel
theorem dX12_settle_17 : decode cX12_settle 17 = .ok (.iconst 3, 1) := by decide +kernel
theorem dX12_settle_18 : decode cX12_settle 18 = .ok (.idiv, 1) := by decide +kernel
theorem dX12_settle_19 : decode cX12_settle 19 = .ok (.goto 9, 3) := by decide +kernel
theorem dX12_settle_22 : decode cX12_settle 22 = .ok (.aload_n 0, 1) := by decide +kernel
theorem dX12_settle_23 : decode cX12_settle 23 = .ok (.getfield 104, 3) := by decide +kernel
theorem dX12_settle_26 : decode cX12_settle 26 = .ok (.iload_n 2, 1) := by decide +kernel
theorem dX12_settle_27 : decode cX12_settle 27 = .ok (.iaload, 1) := by decide +kernel
theorem dX12_settle_28 : decode cX12_settle 28 = .ok (.istore_n 3, 1) := by decide +kernel
theorem dX12_settle_29 : decode cX12_settle 29 = .ok (.aload_n 0, 1) := by decide +kernel
theorem dX12_settle_30 : decode cX12_settle 30 = .ok (.getfield 110, 3) := by decide +kernel
theorem dX12_settle_33 : decode cX12_settle 33 = .ok (.iload_n 1, 1) := by decide +kernel
theorem dX12_settle_34 : decode cX12_settle 34 = .ok (.iaload, 1) := by decide +kernel
theorem dX12_settle_35 : decode cX12_settle 35 = .ok (.iconst (-1), 1) := by decide +kernel
theorem dX12_settle_36 : decode cX12_settle 36 = .ok (.if_icmp .ne 7, 3) := by decide +kernel
theorem dX12_settle_39 : decode cX12_settle 39 = .ok (.iload_n 3, 1) := by decide +kernel
theorem dX12_settle_40 : decode cX12_settle 40 = .ok (.goto 39, 3) := by decide +kernel
theorem dX12_settle_43 : decode cX12_settle 43 = .ok (.aload_n 0, 1) := by decide +kernel
theorem dX12_settle_44 : decode cX12_settle 44 = .ok (.aload_n 0, 1) := by decide +kernel
theorem dX12_settle_45 : decode cX12_settle 45 = .ok (.getfield 110, 3) := by decide +kernel
theorem dX12_settle_48 : decode cX12_settle 48 = .ok (.iload_n 1, 1) := by decide +kernel
theorem dX12_settle_49 : decode cX12_settle 49 = .ok (.iaload, 1) := by decide +kernel
theorem dX12_settle_50 : decode cX12_settle 50 = .ok (.invokevirtual 311, 3) := by decide +kernel
theorem dX12_settle_53 : decode cX12_settle 53 = .ok (.iconst (-1), 1) := by decide +kernel
theorem dX12_settle_54 : decode cX12_settle 54 = .ok (.if_icmp .ne 7, 3) := by decide +kernel
theorem dX12_settle_57 : decode cX12_settle 57 = .ok (.iconst (-1), 1) := by decide +kernel
theorem dX12_settle_58 : decode cX12_settle 58 = .ok (.goto 21, 3) := by decide +kernel
theorem dX12_settle_61 : decode cX12_settle 61 = .ok (.bipush 12, 2) := by decide +kernel
theorem dX12_settle_63 : decode cX12_settle 63 = .ok (.aload_n 0, 1) := by decide +kernel
theorem dX12_settle_64 : decode cX12_settle 64 = .ok (.getfield 263, 3) := by decide +kernel
theorem dX12_settle_67 : decode cX12_settle 67 = .ok (.imul, 1) := by decide +kernel
theorem dX12_settle_68 : decode cX12_settle 68 = .ok (.aload_n 0, 1) := by decide +kernel
theorem dX12_settle_69 : decode cX12_settle 69 = .ok (.aload_n 0, 1) := by decide +kernel
theorem dX12_settle_70 : decode cX12_settle 70 = .ok (.getfield 110, 3) := by decide +kernel
theorem dX12_settle_73 : decode cX12_settle 73 = .ok (.iload_n 1, 1) := by decide +kernel
theorem dX12_settle_74 : decode cX12_settle 74 = .ok (.iaload, 1) := by decide +kernel
theorem dX12_settle_75 : decode cX12_settle 75 = .ok (.invokevirtual 311, 3) := by decide +kernel
theorem dX12_settle_78 : decode cX12_settle 78 = .ok (.iadd, 1) := by decide +kernel
theorem dX12_settle_79 : decode cX12_settle 79 = .ok (.istore 4, 2) := by decide +kernel
theorem dX12_settle_81 : decode cX12_settle 81 = .ok (.iload 4, 2) := by decide +kernel
theorem dX12_settle_83 : decode cX12_settle 83 = .ok (.iconst (-1), 1) := by decide +kernel
theorem dX12_settle_84 : decode cX12_settle 84 = .ok (.if_icmp .ne 14, 3) := by decide +kernel
theorem dX12_settle_87 : decode cX12_settle 87 = .ok (.aload_n 0, 1) := by decide +kernel
theorem dX12_settle_88 : decode cX12_settle 88 = .ok (.aload_n 0, 1) := by decide +kernel
theorem dX12_settle_89 : decode cX12_settle 89 = .ok (.getfield 110, 3) := by decide +kernel
theorem dX12_settle_92 : decode cX12_settle 92 = .ok (.iload_n 1, 1) := by decide +kernel
theorem dX12_settle_93 : decode cX12_settle 93 = .ok (.iaload, 1) := by decide +kernel
theorem dX12_settle_94 : decode cX12_settle 94 = .ok (.invokevirtual 385, 3) := by decide +kernel
theorem dX12_settle_97 : decode cX12_settle 97 = .ok (.return_, 1) := by decide +kernel
theorem dX12_settle_98 : decode cX12_settle 98 = .ok (.aload_n 0, 1) := by decide +kernel
theorem dX12_settle_99 : decode cX12_settle 99 = .ok (.aload_n 0, 1) := by decide +kernel
theorem dX12_settle_100 : decode cX12_settle 100 = .ok (.getfield 47, 3) := by decide +kernel
theorem dX12_settle_103 : decode cX12_settle 103 = .ok (.bipush 24, 2) := by decide +kernel
theorem dX12_settle_105 : decode cX12_settle 105 = .ok (.iload 4, 2) := by decide +kernel
theorem dX12_settle_107 : decode cX12_settle 107 = .ok (.imul, 1) := by decide +kernel
theorem dX12_settle_108 : decode cX12_settle 108 = .ok (.aload_n 0, 1) := by decide +kernel
theorem dX12_settle_109 : decode cX12_settle 109 = .ok (.getfield 29, 3) := by decide +kernel
theorem dX12_settle_112 : decode cX12_settle 112 = .ok (.iload 4, 2) := by decide +kernel
theorem dX12_settle_114 : decode cX12_settle 114 = .ok (.iaload, 1) := by decide +kernel
theorem dX12_settle_115 : decode cX12_settle 115 = .ok (.aload_n 0, 1) := by decide +kernel
theorem dX12_settle_116 : decode cX12_settle 116 = .ok (.getfield 113, 3) := by decide +kernel
theorem dX12_settle_119 : decode cX12_settle 119 = .ok (.iload_n 1, 1) := by decide +kernel
theorem dX12_settle_120 : decode cX12_settle 120 = .ok (.iaload, 1) := by decide +kernel
theorem dX12_settle_121 : decode cX12_settle 121 = .ok (.invokevirtual 388, 3) := by decide +kernel
theorem dX12_settle_124 : decode cX12_settle 124 = .ok (.istore 5, 2) := by decide +kernel
theorem dX12_settle_126 : decode cX12_settle 126 = .ok (.iload_n 2, 1) := by decide +kernel
theorem dX12_settle_127 : decode cX12_settle 127 = .ok (.ifCond .ge 33, 3) := by decide +kernel
theorem dX12_settle_130 : decode cX12_settle 130 = .ok (.iload 5, 2) := by decide +kernel
theorem dX12_settle_132 : decode cX12_settle 132 = .ok (.iconst (-1), 1) := by decide +kernel
theorem dX12_settle_133 : decode cX12_settle 133 = .ok (.if_icmp .ne 16, 3) := by decide +kernel
theorem dX12_settle_136 : decode cX12_settle 136 = .ok (.aload_n 0, 1) := by decide +kernel
theorem dX12_settle_137 : decode cX12_settle 137 = .ok (.aload_n 0, 1) := by decide +kernel
theorem dX12_settle_138 : decode cX12_settle 138 = .ok (.getfield 113, 3) := by decide +kernel
theorem dX12_settle_141 : decode cX12_settle 141 = .ok (.iload_n 1, 1) := by decide +kernel
theorem dX12_settle_142 : decode cX12_settle 142 = .ok (.iaload, 1) := by decide +kernel
theorem dX12_settle_143 : decode cX12_settle 143 = .ok (.invokevirtual 385, 3) := by decide +kernel
theorem dX12_settle_146 : decode cX12_settle 146 = .ok (.goto 13, 3) := by decide +kernel
theorem dX12_settle_149 : decode cX12_settle 149 = .ok (.aload_n 0, 1) := by decide +kernel
theorem dX12_settle_150 : decode cX12_settle 150 = .ok (.getfield 83, 3) := by decide +kernel
theorem dX12_settle_153 : decode cX12_settle 153 = .ok (.iconst (-1), 1) := by decide +kernel
theorem dX12_settle_154 : decode cX12_settle 154 = .ok (.iload_n 2, 1) := by decide +kernel
theorem dX12_settle_155 : decode cX12_settle 155 = .ok (.isub, 1) := by decide +kernel
theorem dX12_settle_156 : decode cX12_settle 156 = .ok (.iload 5, 2) := by decide +kernel
theorem dX12_settle_158 : decode cX12_settle 158 = .ok (.iastore, 1) := by decide +kernel
theorem dX12_settle_159 : decode cX12_settle 159 = .ok (.return_, 1) := by decide +kernel
theorem dX12_settle_160 : decode cX12_settle 160 = .ok (.aload_n 0, 1) := by decide +kernel
theorem dX12_settle_161 : decode cX12_settle 161 = .ok (.getfield 104, 3) := by decide +kernel
theorem dX12_settle_164 : decode cX12_settle 164 = .ok (.iload_n 2, 1) := by decide +kernel
theorem dX12_settle_165 : decode cX12_settle 165 = .ok (.iload_n 3, 1) := by decide +kernel
theorem dX12_settle_166 : decode cX12_settle 166 = .ok (.iastore, 1) := by decide +kernel
theorem dX12_settle_167 : decode cX12_settle 167 = .ok (.aload_n 0, 1) := by decide +kernel
theorem dX12_settle_168 : decode cX12_settle 168 = .ok (.aload_n 0, 1) := by decide +kernel
theorem dX12_settle_169 : decode cX12_settle 169 = .ok (.getfield 56, 3) := by decide +kernel
theorem dX12_settle_172 : decode cX12_settle 172 = .ok (.iconst 4, 1) := by decide +kernel
theorem dX12_settle_173 : decode cX12_settle 173 = .ok (.iload 4, 2) := by decide +kernel
theorem dX12_settle_175 : decode cX12_settle 175 = .ok (.imul, 1) := by decide +kernel
theorem dX12_settle_176 : decode cX12_settle 176 = .ok (.aload_n 0, 1) := by decide +kernel
theorem dX12_settle_177 : decode cX12_settle 177 = .ok (.getfield 32, 3) := by decide +kernel
theorem dX12_settle_180 : decode cX12_settle 180 = .ok (.iload 4, 2) := by decide +kernel
theorem dX12_settle_182 : decode cX12_settle 182 = .ok (.iaload, 1) := by decide +kernel
theorem dX12_settle_183 : decode cX12_settle 183 = .ok (.aload_n 0, 1) := by decide +kernel
theorem dX12_settle_184 : decode cX12_settle 184 = .ok (.getfield 113, 3) := by decide +kernel
theorem dX12_settle_187 : decode cX12_settle 187 = .ok (.iload_n 1, 1) := by decide +kernel
theorem dX12_settle_188 : decode cX12_settle 188 = .ok (.iaload, 1) := by decide +kernel
theorem dX12_settle_189 : decode cX12_settle 189 = .ok (.invokevirtual 388, 3) := by decide +kernel
theorem dX12_settle_192 : decode cX12_settle 192 = .ok (.istore 6, 2) := by decide +kernel
theorem dX12_settle_194 : decode cX12_settle 194 = .ok (.aload_n 0, 1) := by decide +kernel
theorem dX12_settle_195 : decode cX12_settle 195 = .ok (.aload_n 0, 1) := by decide +kernel
theorem dX12_settle_196 : decode cX12_settle 196 = .ok (.getfield 68, 3) := by decide +kernel
theorem dX12_settle_199 : decode cX12_settle 199 = .ok (.iconst 4, 1) := by decide +kernel
theorem dX12_settle_200 : decode cX12_settle 200 = .ok (.iload 4, 2) := by decide +kernel
theorem dX12_settle_202 : decode cX12_settle 202 = .ok (.imul, 1) := by decide +kernel
theorem dX12_settle_203 : decode cX12_settle 203 = .ok (.aload_n 0, 1) := by decide +kernel
theorem dX12_settle_204 : decode cX12_settle 204 = .ok (.getfield 38, 3) := by decide +kernel
theorem dX12_settle_207 : decode cX12_settle 207 = .ok (.iload 4, 2) := by decide +kernel
theorem dX12_settle_209 : decode cX12_settle 209 = .ok (.iaload, 1) := by decide +kernel
theorem dX12_settle_210 : decode cX12_settle 210 = .ok (.aload_n 0, 1) := by decide +kernel
theorem dX12_settle_211 : decode cX12_settle 211 = .ok (.getfield 113, 3) := by decide +kernel
theorem dX12_settle_214 : decode cX12_settle 214 = .ok (.iload_n 1, 1) := by decide +kernel
theorem dX12_settle_215 : decode cX12_settle 215 = .ok (.iaload, 1) := by decide +kernel
theorem dX12_settle_216 : decode cX12_settle 216 = .ok (.invokevirtual 388, 3) := by decide +kernel
theorem dX12_settle_219 : decode cX12_settle 219 = .ok (.istore 7, 2) := by decide +kernel
theorem dX12_settle_221 : decode cX12_settle 221 = .ok (.aload_n 0, 1) := by decide +kernel
theorem dX12_settle_222 : decode cX12_settle 222 = .ok (.getfield 92, 3) := by decide +kernel
theorem dX12_settle_225 : decode cX12_settle 225 = .ok (.iload_n 2, 1) := by decide +kernel
theorem dX12_settle_226 : decode cX12_settle 226 = .ok (.iaload, 1) := by decide +kernel
theorem dX12_settle_227 : decode cX12_settle 227 = .ok (.bipush 12, 2) := by decide +kernel
theorem dX12_settle_229 : decode cX12_settle 229 = .ok (.if_icmp .ne 12, 3) := by decide +kernel
theorem dX12_settle_232 : decode cX12_settle 232 = .ok (.iload 6, 2) := by decide +kernel
theorem dX12_settle_234 : decode cX12_settle 234 = .ok (.iconst (-1), 1) := by decide +kernel
theorem dX12_settle_235 : decode cX12_settle 235 = .ok (.if_icmp .ne 31, 3) := by decide +kernel
theorem dX12_settle_238 : decode cX12_settle 238 = .ok (.goto 15, 3) := by decide +kernel
theorem dX12_settle_241 : decode cX12_settle 241 = .ok (.iload 5, 2) := by decide +kernel
theorem dX12_settle_243 : decode cX12_settle 243 = .ok (.iconst (-1), 1) := by decide +kernel
theorem dX12_settle_244 : decode cX12_settle 244 = .ok (.if_icmp .ne 22, 3) := by decide +kernel
theorem dX12_settle_247 : decode cX12_settle 247 = .ok (.iload 7, 2) := by decide +kernel
theorem dX12_settle_249 : decode cX12_settle 249 = .ok (.iconst (-1), 1) := by decide +kernel
theorem dX12_settle_250 : decode cX12_settle 250 = .ok (.if_icmp .ne 16, 3) := by decide +kernel
theorem dX12_settle_253 : decode cX12_settle 253 = .ok (.aload_n 0, 1) := by decide +kernel
theorem dX12_settle_254 : decode cX12_settle 254 = .ok (.aload_n 0, 1) := by decide +kernel
theorem dX12_settle_255 : decode cX12_settle 255 = .ok (.getfield 113, 3) := by decide +kernel
theorem dX12_settle_258 : decode cX12_settle 258 = .ok (.iload_n 1, 1) := by decide +kernel
theorem dX12_settle_259 : decode cX12_settle 259 = .ok (.iaload, 1) := by decide +kernel
theorem dX12_settle_260 : decode cX12_settle 260 = .ok (.invokevirtual 385, 3) := by decide +kernel
theorem dX12_settle_263 : decode cX12_settle 263 = .ok (.goto 79, 3) := by decide +kernel
theorem dX12_settle_266 : decode cX12_settle 266 = .ok (.aload_n 0, 1) := by decide +kernel
theorem dX12_settle_267 : decode cX12_settle 267 = .ok (.getfield 92, 3) := by decide +kernel
theorem dX12_settle_270 : decode cX12_settle 270 = .ok (.iload_n 2, 1) := by decide +kernel
theorem dX12_settle_271 : decode cX12_settle 271 = .ok (.iaload, 1) := by decide +kernel
theorem dX12_settle_272 : decode cX12_settle 272 = .ok (.bipush 12, 2) := by decide +kernel
theorem dX12_settle_274 : decode cX12_settle 274 = .ok (.if_icmp .ne 19, 3) := by decide +kernel
theorem dX12_settle_277 : decode cX12_settle 277 = .ok (.aload_n 0, 1) := by decide +kernel
theorem dX12_settle_278 : decode cX12_settle 278 = .ok (.getfield 95, 3) := by decide +kernel
theorem dX12_settle_281 : decode cX12_settle 281 = .ok (.iload_n 2, 1) := by decide +kernel
theorem dX12_settle_282 : decode cX12_settle 282 = .ok (.iconst 4, 1) := by decide +kernel
theorem dX12_settle_283 : decode cX12_settle 283 = .ok (.iload 4, 2) := by decide +kernel
theorem dX12_settle_285 : decode cX12_settle 285 = .ok (.imul, 1) := by decide +kernel
theorem dX12_settle_286 : decode cX12_settle 286 = .ok (.iload 6, 2) := by decide +kernel
theorem dX12_settle_288 : decode cX12_settle 288 = .ok (.iadd, 1) := by decide +kernel
theorem dX12_settle_289 : decode cX12_settle 289 = .ok (.iastore, 1) := by decide +kernel
theorem dX12_settle_290 : decode cX12_settle 290 = .ok (.goto 52, 3) := by decide +kernel
theorem dX12_settle_293 : decode cX12_settle 293 = .ok (.aload_n 0, 1) := by decide +kernel
theorem dX12_settle_294 : decode cX12_settle 294 = .ok (.getfield 92, 3) := by decide +kernel
theorem dX12_settle_297 : decode cX12_settle 297 = .ok (.iload_n 2, 1) := by decide +kernel
theorem dX12_settle_298 : decode cX12_settle 298 = .ok (.iload 5, 2) := by decide +kernel
theorem dX12_settle_300 : decode cX12_settle 300 = .ok (.iconst (-1), 1) := by decide +kernel
theorem dX12_settle_301 : decode cX12_settle 301 = .ok (.if_icmp .eq 8, 3) := by decide +kernel
theorem dX12_settle_304 : decode cX12_settle 304 = .ok (.bipush 10, 2) := by decide +kernel
theorem dX12_settle_306 : decode cX12_settle 306 = .ok (.goto 5, 3) := by decide +kernel
theorem dX12_settle_309 : decode cX12_settle 309 = .ok (.bipush 11, 2) := by decide +kernel
theorem dX12_settle_311 : decode cX12_settle 311 = .ok (.iastore, 1) := by decide +kernel
theorem dX12_settle_312 : decode cX12_settle 312 = .ok (.aload_n 0, 1) := by decide +kernel
theorem dX12_settle_313 : decode cX12_settle 313 = .ok (.getfield 95, 3) := by decide +kernel
theorem dX12_settle_316 : decode cX12_settle 316 = .ok (.iload_n 2, 1) := by decide +kernel
theorem dX12_settle_317 : decode cX12_settle 317 = .ok (.iload 5, 2) := by decide +kernel
theorem dX12_settle_319 : decode cX12_settle 319 = .ok (.iconst (-1), 1) := by decide +kernel
theorem dX12_settle_320 : decode cX12_settle 320 = .ok (.if_icmp .eq 14, 3) := by decide +kernel
theorem dX12_settle_323 : decode cX12_settle 323 = .ok (.bipush 24, 2) := by decide +kernel
theorem dX12_settle_325 : decode cX12_settle 325 = .ok (.iload 4, 2) := by decide +kernel
theorem dX12_settle_327 : decode cX12_settle 327 = .ok (.imul, 1) := by decide +kernel
theorem dX12_settle_328 : decode cX12_settle 328 = .ok (.iload 5, 2) := by decide +kernel
theorem dX12_settle_330 : decode cX12_settle 330 = .ok (.iadd, 1) := by decide +kernel
theorem dX12_settle_331 : decode cX12_settle 331 = .ok (.goto 10, 3) := by decide +kernel
theorem dX12_settle_334 : decode cX12_settle 334 = .ok (.iconst 4, 1) := by decide +kernel
theorem dX12_settle_335 : decode cX12_settle 335 = .ok (.iload 4, 2) := by decide +kernel
theorem dX12_settle_337 : decode cX12_settle 337 = .ok (.imul, 1) := by decide +kernel
theorem dX12_settle_338 : decode cX12_settle 338 = .ok (.iload 7, 2) := by decide +kernel
theorem dX12_settle_340 : decode cX12_settle 340 = .ok (.iadd, 1) := by decide +kernel
theorem dX12_settle_341 : decode cX12_settle 341 = .ok (.iastore, 1) := by decide +kernel
theorem dX12_settle_342 : decode cX12_settle 342 = .ok (.return_, 1) := by decide +kernel
theorem dX12_lacks_0 : decode cX12_lacks 0 = .ok (.aload_n 0, 1) := by decide +kernel
theorem dX12_lacks_1 : decode cX12_lacks 1 = .ok (.iconst 4, 1) := by decide +kernel
theorem dX12_lacks_2 : decode cX12_lacks 2 = .ok (.putfield 275, 3) := by decide +kernel
theorem dX12_lacks_5 : decode cX12_lacks 5 = .ok (.aload_n 0, 1) := by decide +kernel
theorem dX12_lacks_6 : decode cX12_lacks 6 = .ok (.iload_n 1, 1) := by decide +kernel
theorem dX12_lacks_7 : decode cX12_lacks 7 = .ok (.bipush 16, 2) := by decide +kernel
theorem dX12_lacks_9 : decode cX12_lacks 9 = .ok (.idiv, 1) := by decide +kernel
theorem dX12_lacks_10 : decode cX12_lacks 10 = .ok (.sipush 3000, 3) := by decide +kernel
theorem dX12_lacks_13 : decode cX12_lacks 13 = .ok (.aload_n 0, 1) := by decide +kernel
theorem dX12_lacks_14 : decode cX12_lacks 14 = .ok (.getfield 263, 3) := by decide +kernel
theorem dX12_lacks_17 : decode cX12_lacks 17 = .ok (.imul, 1) := by decide +kernel
theorem dX12_lacks_18 : decode cX12_lacks 18 = .ok (.isub, 1) := by decide +kernel
theorem dX12_lacks_19 : decode cX12_lacks 19 = .ok (.putfield 278, 3) := by decide +kernel
theorem dX12_lacks_22 : decode cX12_lacks 22 = .ok (.return_, 1) := by decide +kernel
theorem dX12_among_0 : decode cX12_among 0 = .ok (.iconst 0, 1) := by decide +kernel
theorem dX12_among_1 : decode cX12_among 1 = .ok (.istore 5, 2) := by decide +kernel
theorem dX12_among_3 : decode cX12_among 3 = .ok (.iload 5, 2) := by decide +kernel
theorem dX12_among_5 : decode cX12_among 5 = .ok (.iload_n 3, 1) := by decide +kernel
theorem dX12_among_6 : decode cX12_among 6 = .ok (.if_icmp .ge 27, 3) := by decide +kernel
theorem dX12_among_9 : decode cX12_among 9 = .ok (.aload_n 0, 1) := by decide +kernel
theorem dX12_among_10 : decode cX12_among 10 = .ok (.aload_n 1, 1) := by decide +kernel
theorem dX12_among_11 : decode cX12_among 11 = .ok (.iload_n 2, 1) := by decide +kernel
theorem dX12_among_12 : decode cX12_among 12 = .ok (.iload 5, 2) := by decide +kernel
theorem dX12_among_14 : decode cX12_among 14 = .ok (.iadd, 1) := by decide +kernel
theorem dX12_among_15 : decode cX12_among 15 = .ok (.iaload, 1) := by decide +kernel
theorem dX12_among_16 : decode cX12_among 16 = .ok (.iload 4, 2) := by decide +kernel
theorem dX12_among_18 : decode cX12_among 18 = .ok (.invokevirtual 297, 3) := by decide +kernel
theorem dX12_among_21 : decode cX12_among 21 = .ok (.ifCond .eq 6, 3) := by decide +kernel
theorem dX12_among_24 : decode cX12_among 24 = .ok (.iload 5, 2) := by decide +kernel
theorem dX12_among_26 : decode cX12_among 26 = .ok (.ireturn, 1) := by decide +kernel
theorem dX12_among_27 : decode cX12_among 27 = .ok (.iinc 5 1, 3) := by decide +kernel
theorem dX12_among_30 : decode cX12_among 30 = .ok (.goto (-27), 3) := by decide +kernel
theorem dX12_among_33 : decode cX12_among 33 = .ok (.iconst (-1), 1) := by decide +kernel
theorem dX12_among_34 : decode cX12_among 34 = .ok (.ireturn, 1) := by decide +kernel
theorem dX12_book_0 : decode cX12_book 0 = .ok (.aload_n 0, 1) := by decide +kernel
theorem dX12_book_1 : decode cX12_book 1 = .ok (.getfield 392, 3) := by decide +kernel
theorem dX12_book_4 : decode cX12_book 4 = .ok (.bipush 10, 2) := by decide +kernel
theorem dX12_book_6 : decode cX12_book 6 = .ok (.if_icmp .ne 6, 3) := by decide +kernel
theorem dX12_book_9 : decode cX12_book 9 = .ok (.bipush (-2), 2) := by decide +kernel
theorem dX12_book_11 : decode cX12_book 11 = .ok (.ireturn, 1) := by decide +kernel
theorem dX12_book_12 : decode cX12_book 12 = .ok (.aload_n 0, 1) := by decide +kernel
theorem dX12_book_13 : decode cX12_book 13 = .ok (.aload_n 0, 1) := by decide +kernel
theorem dX12_book_14 : decode cX12_book 14 = .ok (.getfield 392, 3) := by decide +kernel
theorem dX12_book_17 : decode cX12_book 17 = .ok (.putfield 263, 3) := by decide +kernel
theorem dX12_book_20 : decode cX12_book 20 = .ok (.iconst 0, 1) := by decide +kernel
theorem dX12_book_21 : decode cX12_book 21 = .ok (.istore_n 1, 1) := by decide +kernel
theorem dX12_book_22 : decode cX12_book 22 = .ok (.iload_n 1, 1) := by decide +kernel
theorem dX12_book_23 : decode cX12_book 23 = .ok (.aload_n 0, 1) := by decide +kernel
theorem dX12_book_24 : decode cX12_book 24 = .ok (.getfield 192, 3) := by decide +kernel
theorem dX12_book_27 : decode cX12_book 27 = .ok (.if_icmp .ge 30, 3) := by decide +kernel
theorem dX12_book_30 : decode cX12_book 30 = .ok (.aload_n 0, 1) := by decide +kernel
theorem dX12_book_31 : decode cX12_book 31 = .ok (.getfield 13, 3) := by decide +kernel
theorem dX12_book_34 : decode cX12_book 34 = .ok (.sipush 3000, 3) := by decide +kernel
theorem dX12_book_37 : decode cX12_book 37 = .ok (.aload_n 0, 1) := by decide +kernel
theorem dX12_book_38 : decode cX12_book 38 = .ok (.getfield 263, 3) := by decide +kernel
theorem dX12_book_41 : decode cX12_book 41 = .ok (.imul, 1) := by decide +kernel
theorem dX12_book_42 : decode cX12_book 42 = .ok (.iload_n 1, 1) := by decide +kernel
theorem dX12_book_43 : decode cX12_book 43 = .ok (.iadd, 1) := by decide +kernel
theorem dX12_book_44 : decode cX12_book 44 = .ok (.aload_n 0, 1) := by decide +kernel
theorem dX12_book_45 : decode cX12_book 45 = .ok (.getfield 7, 3) := by decide +kernel
theorem dX12_book_48 : decode cX12_book 48 = .ok (.iload_n 1, 1) := by decide +kernel
theorem dX12_book_49 : decode cX12_book 49 = .ok (.baload, 1) := by decide +kernel
theorem dX12_book_50 : decode cX12_book 50 = .ok (.bastore, 1) := by decide +kernel
theorem dX12_book_51 : decode cX12_book 51 = .ok (.iinc 1 1, 3) := by decide +kernel
theorem dX12_book_54 : decode cX12_book 54 = .ok (.goto (-32), 3) := by decide +kernel
theorem dX12_book_57 : decode cX12_book 57 = .ok (.aload_n 0, 1) := by decide +kernel
theorem dX12_book_58 : decode cX12_book 58 = .ok (.getfield 266, 3) := by decide +kernel
theorem dX12_book_61 : decode cX12_book 61 = .ok (.istore_n 1, 1) := by decide +kernel
theorem dX12_book_62 : decode cX12_book 62 = .ok (.aload_n 0, 1) := by decide +kernel
theorem dX12_book_63 : decode cX12_book 63 = .ok (.invokevirtual 395, 3) := by decide +kernel
theorem dX12_book_66 : decode cX12_book 66 = .ok (.aload_n 0, 1) := by decide +kernel
theorem dX12_book_67 : decode cX12_book 67 = .ok (.iconst 0, 1) := by decide +kernel
theorem dX12_book_68 : decode cX12_book 68 = .ok (.putfield 192, 3) := by decide +kernel
theorem dX12_book_71 : decode cX12_book 71 = .ok (.aload_n 0, 1) := by decide +kernel
theorem dX12_book_72 : decode cX12_book 72 = .ok (.getfield 275, 3) := by decide +kernel
theorem dX12_book_75 : decode cX12_book 75 = .ok (.ifCond .le 16, 3) := by decide +kernel
theorem dX12_book_78 : decode cX12_book 78 = .ok (.aload_n 0, 1) := by decide +kernel
theorem dX12_book_79 : decode cX12_book 79 = .ok (.iload_n 1, 1) := by decide +kernel
theorem dX12_book_80 : decode cX12_book 80 = .ok (.putfield 266, 3) := by decide +kernel
theorem dX12_book_83 : decode cX12_book 83 = .ok (.bipush (-10), 2) := by decide +kernel
theorem dX12_book_85 : decode cX12_book 85 = .ok (.aload_n 0, 1) := by decide +kernel
theorem dX12_book_86 : decode cX12_book 86 = .ok (.getfield 278, 3) := by decide +kernel
theorem dX12_book_89 : decode cX12_book 89 = .ok (.isub, 1) := by decide +kernel
theorem dX12_book_90 : decode cX12_book 90 = .ok (.ireturn, 1) := by decide +kernel
theorem dX12_book_91 : decode cX12_book 91 = .ok (.aload_n 0, 1) := by decide +kernel
theorem dX12_book_92 : decode cX12_book 92 = .ok (.aload_n 0, 1) := by decide +kernel
theorem dX12_book_93 : decode cX12_book 93 = .ok (.getfield 263, 3) := by decide +kernel
theorem dX12_book_96 : decode cX12_book 96 = .ok (.invokevirtual 398, 3) := by decide +kernel
theorem dX12_book_99 : decode cX12_book 99 = .ok (.aload_n 0, 1) := by decide +kernel
theorem dX12_book_100 : decode cX12_book 100 = .ok (.dup, 1) := by decide +kernel
theorem dX12_book_101 : decode cX12_book 101 = .ok (.getfield 392, 3) := by decide +kernel
theorem dX12_book_104 : decode cX12_book 104 = .ok (.iconst 1, 1) := by decide +kernel
theorem dX12_book_105 : decode cX12_book 105 = .ok (.iadd, 1) := by decide +kernel
theorem dX12_book_106 : decode cX12_book 106 = .ok (.putfield 392, 3) := by decide +kernel
theorem dX12_book_109 : decode cX12_book 109 = .ok (.aload_n 0, 1) := by decide +kernel
theorem dX12_book_110 : decode cX12_book 110 = .ok (.getfield 263, 3) := by decide +kernel
theorem dX12_book_113 : decode cX12_book 113 = .ok (.ireturn, 1) := by decide +kernel
theorem dX12_wrong_0 : decode cX12_wrong 0 = .ok (.aload_n 0, 1) := by decide +kernel
theorem dX12_wrong_1 : decode cX12_wrong 1 = .ok (.getfield 275, 3) := by decide +kernel
theorem dX12_wrong_4 : decode cX12_wrong 4 = .ok (.ireturn, 1) := by decide +kernel
theorem dX12_asleep_0 : decode cX12_asleep 0 = .ok (.iconst 0, 1) := by decide +kernel
theorem dX12_asleep_1 : decode cX12_asleep 1 = .ok (.istore_n 2, 1) := by decide +kernel
theorem dX12_asleep_2 : decode cX12_asleep 2 = .ok (.iload_n 2, 1) := by decide +kernel
theorem dX12_asleep_3 : decode cX12_asleep 3 = .ok (.sipush 160, 3) := by decide +kernel
theorem dX12_asleep_6 : decode cX12_asleep 6 = .ok (.if_icmp .ge 22, 3) := by decide +kernel
theorem dX12_asleep_9 : decode cX12_asleep 9 = .ok (.aload_n 0, 1) := by decide +kernel
theorem dX12_asleep_10 : decode cX12_asleep 10 = .ok (.getfield 116, 3) := by decide +kernel
theorem dX12_asleep_13 : decode cX12_asleep 13 = .ok (.sipush 160, 3) := by decide +kernel
theorem dX12_asleep_16 : decode cX12_asleep 16 = .ok (.iload_n 1, 1) := by decide +kernel
theorem dX12_asleep_17 : decode cX12_asleep 17 = .ok (.imul, 1) := by decide +kernel
theorem dX12_asleep_18 : decode cX12_asleep 18 = .ok (.iload_n 2, 1) := by decide +kernel
theorem dX12_asleep_19 : decode cX12_asleep 19 = .ok (.iadd, 1) := by decide +kernel
theorem dX12_asleep_20 : decode cX12_asleep 20 = .ok (.iconst 0, 1) := by decide +kernel
theorem dX12_asleep_21 : decode cX12_asleep 21 = .ok (.iastore, 1) := by decide +kernel
theorem dX12_asleep_22 : decode cX12_asleep 22 = .ok (.iinc 2 1, 3) := by decide +kernel
theorem dX12_asleep_25 : decode cX12_asleep 25 = .ok (.goto (-23), 3) := by decide +kernel
theorem dX12_asleep_28 : decode cX12_asleep 28 = .ok (.bipush 12, 2) := by decide +kernel
theorem dX12_asleep_30 : decode cX12_asleep 30 = .ok (.iload_n 1, 1) := by decide +kernel
theorem dX12_asleep_31 : decode cX12_asleep 31 = .ok (.imul, 1) := by decide +kernel
theorem dX12_asleep_32 : decode cX12_asleep 32 = .ok (.istore_n 2, 1) := by decide +kernel
theorem dX12_asleep_33 : decode cX12_asleep 33 = .ok (.iload_n 2, 1) := by decide +kernel
theorem dX12_asleep_34 : decode cX12_asleep 34 = .ok (.bipush 12, 2) := by decide +kernel
theorem dX12_asleep_36 : decode cX12_asleep 36 = .ok (.iload_n 1, 1) := by decide +kernel
theorem dX12_asleep_37 : decode cX12_asleep 37 = .ok (.imul, 1) := by decide +kernel
theorem dX12_asleep_38 : decode cX12_asleep 38 = .ok (.bipush 12, 2) := by decide +kernel
theorem dX12_asleep_40 : decode cX12_asleep 40 = .ok (.iadd, 1) := by decide +kernel
theorem dX12_asleep_41 : decode cX12_asleep 41 = .ok (.if_icmp .ge 40, 3) := by decide +kernel
theorem dX12_asleep_44 : decode cX12_asleep 44 = .ok (.aload_n 0, 1) := by decide +kernel
theorem dX12_asleep_45 : decode cX12_asleep 45 = .ok (.getfield 119, 3) := by decide +kernel
theorem dX12_asleep_48 : decode cX12_asleep 48 = .ok (.iload_n 2, 1) := by decide +kernel
theorem dX12_asleep_49 : decode cX12_asleep 49 = .ok (.iconst 0, 1) := by decide +kernel
theorem dX12_asleep_50 : decode cX12_asleep 50 = .ok (.iastore, 1) := by decide +kernel
theorem dX12_asleep_51 : decode cX12_asleep 51 = .ok (.iconst 0, 1) := by decide +kernel
theorem dX12_asleep_52 : decode cX12_asleep 52 = .ok (.istore_n 3, 1) := by decide +kernel
theorem dX12_asleep_53 : decode cX12_asleep 53 = .ok (.iload_n 3, 1) := by decide +kernel
theorem dX12_asleep_54 : decode cX12_asleep 54 = .ok (.iconst 4, 1) := by decide +kernel
theorem dX12_asleep_55 : decode cX12_asleep 55 = .ok (.if_icmp .ge 20, 3) := by decide +kernel
theorem dX12_asleep_58 : decode cX12_asleep 58 = .ok (.aload_n 0, 1) := by decide +kernel
theorem dX12_asleep_59 : decode cX12_asleep 59 = .ok (.getfield 125, 3) := by decide +kernel
theorem dX12_asleep_62 : decode cX12_asleep 62 = .ok (.iconst 4, 1) := by decide +kernel
theorem dX12_asleep_63 : decode cX12_asleep 63 = .ok (.iload_n 2, 1) := by decide +kernel
theorem dX12_asleep_64 : decode cX12_asleep 64 = .ok (.imul, 1) := by decide +kernel
theorem dX12_asleep_65 : decode cX12_asleep 65 = .ok (.iload_n 3, 1) := by decide +kernel
theorem dX12_asleep_66 : decode cX12_asleep 66 = .ok (.iadd, 1) := by decide +kernel
theorem dX12_asleep_67 : decode cX12_asleep 67 = .ok (.iconst 0, 1) := by decide +kernel
theorem dX12_asleep_68 : decode cX12_asleep 68 = .ok (.iastore, 1) := by decide +kernel
theorem dX12_asleep_69 : decode cX12_asleep 69 = .ok (.iinc 3 1, 3) := by decide +kernel
theorem dX12_asleep_72 : decode cX12_asleep 72 = .ok (.goto (-19), 3) := by decide +kernel
theorem dX12_asleep_75 : decode cX12_asleep 75 = .ok (.iinc 2 1, 3) := by decide +kernel
theorem dX12_asleep_78 : decode cX12_asleep 78 = .ok (.goto (-45), 3) := by decide +kernel
theorem dX12_asleep_81 : decode cX12_asleep 81 = .ok (.aload_n 0, 1) := by decide +kernel
theorem dX12_asleep_82 : decode cX12_asleep 82 = .ok (.getfield 137, 3) := by decide +kernel
theorem dX12_asleep_85 : decode cX12_asleep 85 = .ok (.iload_n 1, 1) := by decide +kernel
theorem dX12_asleep_86 : decode cX12_asleep 86 = .ok (.iconst 0, 1) := by decide +kernel
theorem dX12_asleep_87 : decode cX12_asleep 87 = .ok (.iastore, 1) := by decide +kernel
theorem dX12_asleep_88 : decode cX12_asleep 88 = .ok (.aload_n 0, 1) := by decide +kernel
theorem dX12_asleep_89 : decode cX12_asleep 89 = .ok (.getfield 146, 3) := by decide +kernel
theorem dX12_asleep_92 : decode cX12_asleep 92 = .ok (.iload_n 1, 1) := by decide +kernel
theorem dX12_asleep_93 : decode cX12_asleep 93 = .ok (.iconst 0, 1) := by decide +kernel
theorem dX12_asleep_94 : decode cX12_asleep 94 = .ok (.iastore, 1) := by decide +kernel
theorem dX12_asleep_95 : decode cX12_asleep 95 = .ok (.return_, 1) := by decide +kernel
theorem dX12_failing_0 : decode cX12_failing 0 = .ok (.aload_n 0, 1) := by decide +kernel
theorem dX12_failing_1 : decode cX12_failing 1 = .ok (.iconst 1, 1) := by decide +kernel
theorem dX12_failing_2 : decode cX12_failing 2 = .ok (.putfield 401, 3) := by decide +kernel
theorem dX12_failing_5 : decode cX12_failing 5 = .ok (.aload_n 0, 1) := by decide +kernel
theorem dX12_failing_6 : decode cX12_failing 6 = .ok (.iconst 1, 1) := by decide +kernel
theorem dX12_failing_7 : decode cX12_failing 7 = .ok (.putfield 404, 3) := by decide +kernel
theorem dX12_failing_10 : decode cX12_failing 10 = .ok (.aload_n 0, 1) := by decide +kernel
theorem dX12_failing_11 : decode cX12_failing 11 = .ok (.getfield 152, 3) := by decide +kernel
theorem dX12_failing_14 : decode cX12_failing 14 = .ok (.iconst 0, 1) := by decide +kernel
theorem dX12_failing_15 : decode cX12_failing 15 = .ok (.iload_n 1, 1) := by decide +kernel
theorem dX12_failing_16 : decode cX12_failing 16 = .ok (.iastore, 1) := by decide +kernel
theorem dX12_failing_17 : decode cX12_failing 17 = .ok (.aload_n 0, 1) := by decide +kernel
theorem dX12_failing_18 : decode cX12_failing 18 = .ok (.getfield 155, 3) := by decide +kernel
theorem dX12_failing_21 : decode cX12_failing 21 = .ok (.iconst 0, 1) := by decide +kernel
theorem dX12_failing_22 : decode cX12_failing 22 = .ok (.iload_n 2, 1) := by decide +kernel
theorem dX12_failing_23 : decode cX12_failing 23 = .ok (.iastore, 1) := by decide +kernel
theorem dX12_failing_24 : decode cX12_failing 24 = .ok (.iconst 0, 1) := by decide +kernel
theorem dX12_failing_25 : decode cX12_failing 25 = .ok (.ireturn, 1) := by decide +kernel
theorem dX12_use_0 : decode cX12_use 0 = .ok (.aload_n 0, 1) := by decide +kernel
theorem dX12_use_1 : decode cX12_use 1 = .ok (.getfield 116, 3) := by decide +kernel
theorem dX12_use_4 : decode cX12_use 4 = .ok (.sipush 160, 3) := by decide +kernel
theorem dX12_use_7 : decode cX12_use 7 = .ok (.aload_n 0, 1) := by decide +kernel
theorem dX12_use_8 : decode cX12_use 8 = .ok (.getfield 263, 3) := by decide +kernel
theorem dX12_use_11 : decode cX12_use 11 = .ok (.imul, 1) := by decide +kernel
theorem dX12_use_12 : decode cX12_use 12 = .ok (.iload_n 1, 1) := by decide +kernel
theorem dX12_use_13 : decode cX12_use 13 = .ok (.iadd, 1) := by decide +kernel
theorem dX12_use_14 : decode cX12_use 14 = .ok (.iaload, 1) := by decide +kernel
theorem dX12_use_15 : decode cX12_use 15 = .ok (.istore_n 2, 1) := by decide +kernel
theorem dX12_use_16 : decode cX12_use 16 = .ok (.iload_n 2, 1) := by decide +kernel
theorem dX12_use_17 : decode cX12_use 17 = .ok (.iconst 2, 1) := by decide +kernel
theorem dX12_use_18 : decode cX12_use 18 = .ok (.if_icmp .ne 13, 3) := by decide +kernel
theorem dX12_use_21 : decode cX12_use 21 = .ok (.aload_n 0, 1) := by decide +kernel
theorem dX12_use_22 : decode cX12_use 22 = .ok (.iconst 2, 1) := by decide +kernel
theorem dX12_use_23 : decode cX12_use 23 = .ok (.iload_n 1, 1) := by decide +kernel
theorem dX12_use_24 : decode cX12_use 24 = .ok (.invokevirtual 407, 3) := by decide +kernel
theorem dX12_use_27 : decode cX12_use 27 = .ok (.istore_n 3, 1) := by decide +kernel
theorem dX12_use_28 : decode cX12_use 28 = .ok (.goto 12, 3) := by decide +kernel
theorem dX12_use_31 : decode cX12_use 31 = .ok (.iload_n 2, 1) := by decide +kernel
theorem dX12_use_32 : decode cX12_use 32 = .ok (.ifCond .ne 8, 3) := by decide +kernel
theorem dX12_use_35 : decode cX12_use 35 = .ok (.aload_n 0, 1) := by decide +kernel
theorem dX12_use_36 : decode cX12_use 36 = .ok (.iload_n 1, 1) := by decide +kernel
theorem dX12_use_37 : decode cX12_use 37 = .ok (.invokevirtual 411, 3) := by decide +kernel
theorem dX12_use_40 : decode cX12_use 40 = .ok (.return_, 1) := by decide +kernel
theorem dX12_starts_0 : decode cX12_starts 0 = .ok (.aload_n 0, 1) := by decide +kernel
theorem dX12_starts_1 : decode cX12_starts 1 = .ok (.getfield 413, 3) := by decide +kernel
theorem dX12_starts_4 : decode cX12_starts 4 = .ok (.bipush 12, 2) := by decide +kernel
theorem dX12_starts_6 : decode cX12_starts 6 = .ok (.if_icmp .ne 12, 3) := by decide +kernel
theorem dX12_starts_9 : decode cX12_starts 9 = .ok (.aload_n 0, 1) := by decide +kernel
theorem dX12_starts_10 : decode cX12_starts 10 = .ok (.bipush 6, 2) := by decide +kernel
theorem dX12_starts_12 : decode cX12_starts 12 = .ok (.iconst (-1), 1) := by decide +kernel
theorem dX12_starts_13 : decode cX12_starts 13 = .ok (.invokevirtual 407, 3) := by decide +kernel
theorem dX12_starts_16 : decode cX12_starts 16 = .ok (.istore_n 2, 1) := by decide +kernel
theorem dX12_starts_17 : decode cX12_starts 17 = .ok (.return_, 1) := by decide +kernel
theorem dX12_starts_18 : decode cX12_starts 18 = .ok (.aload_n 0, 1) := by decide +kernel
theorem dX12_starts_19 : decode cX12_starts 19 = .ok (.getfield 116, 3) := by decide +kernel
theorem dX12_starts_22 : decode cX12_starts 22 = .ok (.sipush 160, 3) := by decide +kernel
theorem dX12_starts_25 : decode cX12_starts 25 = .ok (.aload_n 0, 1) := by decide +kernel
theorem dX12_starts_26 : decode cX12_starts 26 = .ok (.getfield 263, 3) := by decide +kernel
theorem dX12_starts_29 : decode cX12_starts 29 = .ok (.imul, 1) := by decide +kernel
theorem dX12_starts_30 : decode cX12_starts 30 = .ok (.iload_n 1, 1) := by decide +kernel
theorem dX12_starts_31 : decode cX12_starts 31 = .ok (.iadd, 1) := by decide +kernel
theorem dX12_starts_32 : decode cX12_starts 32 = .ok (.iconst 3, 1) := by decide +kernel
theorem dX12_starts_33 : decode cX12_starts 33 = .ok (.iastore, 1) := by decide +kernel
theorem dX12_starts_34 : decode cX12_starts 34 = .ok (.aload_n 0, 1) := by decide +kernel
theorem dX12_starts_35 : decode cX12_starts 35 = .ok (.getfield 134, 3) := by decide +kernel
theorem dX12_starts_38 : decode cX12_starts 38 = .ok (.sipush 160, 3) := by decide +kernel
theorem dX12_starts_41 : decode cX12_starts 41 = .ok (.aload_n 0, 1) := by decide +kernel
theorem dX12_starts_42 : decode cX12_starts 42 = .ok (.getfield 263, 3) := by decide +kernel
theorem dX12_starts_45 : decode cX12_starts 45 = .ok (.imul, 1) := by decide +kernel
theorem dX12_starts_46 : decode cX12_starts 46 = .ok (.aload_n 0, 1) := by decide +kernel
theorem dX12_starts_47 : decode cX12_starts 47 = .ok (.getfield 137, 3) := by decide +kernel
theorem dX12_starts_50 : decode cX12_starts 50 = .ok (.aload_n 0, 1) := by decide +kernel
theorem dX12_starts_51 : decode cX12_starts 51 = .ok (.getfield 263, 3) := by decide +kernel
theorem dX12_starts_54 : decode cX12_starts 54 = .ok (.iaload, 1) := by decide +kernel
theorem dX12_starts_55 : decode cX12_starts 55 = .ok (.iadd, 1) := by decide +kernel
theorem dX12_starts_56 : decode cX12_starts 56 = .ok (.iload_n 1, 1) := by decide +kernel
theorem dX12_starts_57 : decode cX12_starts 57 = .ok (.iastore, 1) := by decide +kernel
theorem dX12_starts_58 : decode cX12_starts 58 = .ok (.aload_n 0, 1) := by decide +kernel
theorem dX12_starts_59 : decode cX12_starts 59 = .ok (.getfield 137, 3) := by decide +kernel
theorem dX12_starts_62 : decode cX12_starts 62 = .ok (.aload_n 0, 1) := by decide +kernel
theorem dX12_starts_63 : decode cX12_starts 63 = .ok (.getfield 263, 3) := by decide +kernel
theorem dX12_starts_66 : decode cX12_starts 66 = .ok (.dup2, 1) := by decide +kernel
theorem dX12_starts_67 : decode cX12_starts 67 = .ok (.iaload, 1) := by decide +kernel
theorem dX12_starts_68 : decode cX12_starts 68 = .ok (.iconst 1, 1) := by decide +kernel
theorem dX12_starts_69 : decode cX12_starts 69 = .ok (.iadd, 1) := by decide +kernel
theorem dX12_starts_70 : decode cX12_starts 70 = .ok (.iastore, 1) := by decide +kernel
theorem dX12_starts_71 : decode cX12_starts 71 = .ok (.aload_n 0, 1) := by decide +kernel
theorem dX12_starts_72 : decode cX12_starts 72 = .ok (.getfield 149, 3) := by decide +kernel
theorem dX12_starts_75 : decode cX12_starts 75 = .ok (.aload_n 0, 1) := by decide +kernel
theorem dX12_starts_76 : decode cX12_starts 76 = .ok (.getfield 413, 3) := by decide +kernel
theorem dX12_starts_79 : decode cX12_starts 79 = .ok (.iload_n 1, 1) := by decide +kernel
theorem dX12_starts_80 : decode cX12_starts 80 = .ok (.iastore, 1) := by decide +kernel
theorem dX12_starts_81 : decode cX12_starts 81 = .ok (.aload_n 0, 1) := by decide +kernel
theorem dX12_starts_82 : decode cX12_starts 82 = .ok (.dup, 1) := by decide +kernel
theorem dX12_starts_83 : decode cX12_starts 83 = .ok (.getfield 413, 3) := by decide +kernel
theorem dX12_starts_86 : decode cX12_starts 86 = .ok (.iconst 1, 1) := by decide +kernel
theorem dX12_starts_87 : decode cX12_starts 87 = .ok (.iadd, 1) := by decide +kernel
theorem dX12_starts_88 : decode cX12_starts 88 = .ok (.putfield 413, 3) := by decide +kernel
theorem dX12_starts_91 : decode cX12_starts 91 = .ok (.iload_n 1, 1) := by decide +kernel
theorem dX12_starts_92 : decode cX12_starts 92 = .ok (.bipush 100, 2) := by decide +kernel
theorem dX12_starts_94 : decode cX12_starts 94 = .ok (.if_icmp .ge 19, 3) := by decide +kernel
theorem dX12_starts_97 : decode cX12_starts 97 = .ok (.aload_n 0, 1) := by decide +kernel
theorem dX12_starts_98 : decode cX12_starts 98 = .ok (.bipush 12, 2) := by decide +kernel
theorem dX12_starts_100 : decode cX12_starts 100 = .ok (.aload_n 0, 1) := by decide +kernel
theorem dX12_starts_101 : decode cX12_starts 101 = .ok (.getfield 263, 3) := by decide +kernel
theorem dX12_starts_104 : decode cX12_starts 104 = .ok (.imul, 1) := by decide +kernel
theorem dX12_starts_105 : decode cX12_starts 105 = .ok (.iload_n 1, 1) := by decide +kernel
theorem dX12_starts_106 : decode cX12_starts 106 = .ok (.iadd, 1) := by decide +kernel
theorem dX12_starts_107 : decode cX12_starts 107 = .ok (.invokevirtual 416, 3) := by decide +kernel
theorem dX12_starts_110 : decode cX12_starts 110 = .ok (.goto 19, 3) := by decide +kernel
theorem dX12_starts_113 : decode cX12_starts 113 = .ok (.aload_n 0, 1) := by decide +kernel
theorem dX12_starts_114 : decode cX12_starts 114 = .ok (.bipush 48, 2) := by decide +kernel
theorem dX12_starts_116 : decode cX12_starts 116 = .ok (.aload_n 0, 1) := by decide +kernel
theorem dX12_starts_117 : decode cX12_starts 117 = .ok (.getfield 263, 3) := by decide +kernel
theorem dX12_starts_120 : decode cX12_starts 120 = .ok (.imul, 1) := by decide +kernel
theorem dX12_starts_121 : decode cX12_starts 121 = .ok (.iload_n 1, 1) := by decide +kernel
theorem dX12_starts_122 : decode cX12_starts 122 = .ok (.iadd, 1) := by decide +kernel
theorem dX12_starts_123 : decode cX12_starts 123 = .ok (.bipush 100, 2) := by decide +kernel
theorem dX12_starts_125 : decode cX12_starts 125 = .ok (.isub, 1) := by decide +kernel
theorem dX12_starts_126 : decode cX12_starts 126 = .ok (.invokevirtual 419, 3) := by decide +kernel
theorem dX12_starts_129 : decode cX12_starts 129 = .ok (.aload_n 0, 1) := by decide +kernel
theorem dX12_starts_130 : decode cX12_starts 130 = .ok (.dup, 1) := by decide +kernel
theorem dX12_starts_131 : decode cX12_starts 131 = .ok (.getfield 413, 3) := by decide +kernel
theorem dX12_starts_134 : decode cX12_starts 134 = .ok (.iconst 1, 1) := by decide +kernel
theorem dX12_starts_135 : decode cX12_starts 135 = .ok (.isub, 1) := by decide +kernel
theorem dX12_starts_136 : decode cX12_starts 136 = .ok (.putfield 413, 3) := by decide +kernel
theorem dX12_starts_139 : decode cX12_starts 139 = .ok (.aload_n 0, 1) := by decide +kernel
theorem dX12_starts_140 : decode cX12_starts 140 = .ok (.getfield 116, 3) := by decide +kernel
theorem dX12_starts_143 : decode cX12_starts 143 = .ok (.sipush 160, 3) := by decide +kernel
theorem dX12_starts_146 : decode cX12_starts 146 = .ok (.aload_n 0, 1) := by decide +kernel
theorem dX12_starts_147 : decode cX12_starts 147 = .ok (.getfield 263, 3) := by decide +kernel
theorem dX12_starts_150 : decode cX12_starts 150 = .ok (.imul, 1) := by decide +kernel
theorem dX12_starts_151 : decode cX12_starts 151 = .ok (.iload_n 1, 1) := by decide +kernel
theorem dX12_starts_152 : decode cX12_starts 152 = .ok (.iadd, 1) := by decide +kernel
theorem dX12_starts_153 : decode cX12_starts 153 = .ok (.aload_n 0, 1) := by decide +kernel
theorem dX12_starts_154 : decode cX12_starts 154 = .ok (.getfield 401, 3) := by decide +kernel
theorem dX12_starts_157 : decode cX12_starts 157 = .ok (.ifCond .eq 7, 3) := by decide +kernel
theorem dX12_starts_160 : decode cX12_starts 160 = .ok (.iconst 2, 1) := by decide +kernel
theorem dX12_starts_161 : decode cX12_starts 161 = .ok (.goto 4, 3) := by decide +kernel
theorem dX12_starts_164 : decode cX12_starts 164 = .ok (.iconst 1, 1) := by decide +kernel
theorem dX12_starts_165 : decode cX12_starts 165 = .ok (.iastore, 1) := by decide +kernel
theorem dX12_starts_166 : decode cX12_starts 166 = .ok (.aload_n 0, 1) := by decide +kernel
theorem dX12_starts_167 : decode cX12_starts 167 = .ok (.getfield 401, 3) := by decide +kernel
theorem dX12_starts_170 : decode cX12_starts 170 = .ok (.ifCond .eq 33, 3) := by decide +kernel
theorem dX12_starts_173 : decode cX12_starts 173 = .ok (.aload_n 0, 1) := by decide +kernel
theorem dX12_starts_174 : decode cX12_starts 174 = .ok (.getfield 152, 3) := by decide +kernel
theorem dX12_starts_177 : decode cX12_starts 177 = .ok (.aload_n 0, 1) := by decide +kernel
theorem dX12_starts_178 : decode cX12_starts 178 = .ok (.getfield 404, 3) := by decide +kernel
theorem dX12_starts_181 : decode cX12_starts 181 = .ok (.iconst 1, 1) := by decide +kernel
theorem dX12_starts_182 : decode cX12_starts 182 = .ok (.iastore, 1) := by decide +kernel
theorem dX12_starts_183 : decode cX12_starts 183 = .ok (.aload_n 0, 1) := by decide +kernel
theorem dX12_starts_184 : decode cX12_starts 184 = .ok (.getfield 155, 3) := by decide +kernel
theorem dX12_starts_187 : decode cX12_starts 187 = .ok (.aload_n 0, 1) := by decide +kernel
theorem dX12_starts_188 : decode cX12_starts 188 = .ok (.getfield 404, 3) := by decide +kernel
theorem dX12_starts_191 : decode cX12_starts 191 = .ok (.iload_n 1, 1) := by decide +kernel
theorem dX12_starts_192 : decode cX12_starts 192 = .ok (.iastore, 1) := by decide +kernel
theorem dX12_starts_193 : decode cX12_starts 193 = .ok (.aload_n 0, 1) := by decide +kernel
theorem dX12_starts_194 : decode cX12_starts 194 = .ok (.dup, 1) := by decide +kernel
theorem dX12_starts_195 : decode cX12_starts 195 = .ok (.getfield 404, 3) := by decide +kernel
theorem dX12_starts_198 : decode cX12_starts 198 = .ok (.iconst 1, 1) := by decide +kernel
theorem dX12_starts_199 : decode cX12_starts 199 = .ok (.iadd, 1) := by decide +kernel
theorem dX12_starts_200 : decode cX12_starts 200 = .ok (.putfield 404, 3) := by decide +kernel
theorem dX12_starts_203 : decode cX12_starts 203 = .ok (.return_, 1) := by decide +kernel
theorem dX12_startsHolder_0 : decode cX12_startsHolder 0 = .ok (.aload_n 0, 1) := by decide +kernel
theorem dX12_startsHolder_1 : decode cX12_startsHolder 1 = .ok (.aload_n 0, 1) := by decide +kernel
theorem dX12_startsHolder_2 : decode cX12_startsHolder 2 = .ok (.getfield 71, 3) := by decide +kernel
theorem dX12_startsHolder_5 : decode cX12_startsHolder 5 = .ok (.iload_n 1, 1) := by decide +kernel
theorem dX12_startsHolder_6 : decode cX12_startsHolder 6 = .ok (.iaload, 1) := by decide +kernel
theorem dX12_startsHolder_7 : decode cX12_startsHolder 7 = .ok (.iconst (-1), 1) := by decide +kernel
theorem dX12_startsHolder_8 : decode cX12_startsHolder 8 = .ok (.iconst (-1), 1) := by decide +kernel
theorem dX12_startsHolder_9 : decode cX12_startsHolder 9 = .ok (.invokevirtual 422, 3) := by decide +kernel
theorem dX12_startsHolder_12 : decode cX12_startsHolder 12 = .ok (.istore_n 2, 1) := by decide +kernel
theorem dX12_startsHolder_13 : decode cX12_startsHolder 13 = .ok (.aload_n 0, 1) := by decide +kernel
theorem dX12_startsHolder_14 : decode cX12_startsHolder 14 = .ok (.getfield 401, 3) := by decide +kernel
theorem dX12_startsHolder_17 : decode cX12_startsHolder 17 = .ok (.ifCond .ne 10, 3) := by decide +kernel
theorem dX12_startsHolder_20 : decode cX12_startsHolder 20 = .ok (.aload_n 0, 1) := by decide +kernel
theorem dX12_startsHolder_21 : decode cX12_startsHolder 21 = .ok (.getfield 131, 3) := by decide +kernel
theorem dX12_startsHolder_24 : decode cX12_startsHolder 24 = .ok (.iload_n 1, 1) := by decide +kernel
theorem dX12_startsHolder_25 : decode cX12_startsHolder 25 = .ok (.iload_n 2, 1) := by decide +kernel
theorem dX12_startsHolder_26 : decode cX12_startsHolder 26 = .ok (.iastore, 1) := by decide +kernel
theorem dX12_startsHolder_27 : decode cX12_startsHolder 27 = .ok (.return_, 1) := by decide +kernel
theorem dX12_startsEnum_0 : decode cX12_startsEnum 0 = .ok (.iconst 0, 1) := by decide +kernel
theorem dX12_startsEnum_1 : decode cX12_startsEnum 1 = .ok (.istore_n 2, 1) := by decide +kernel
theorem dX12_startsEnum_2 : decode cX12_startsEnum 2 = .ok (.iload_n 2, 1) := by decide +kernel
theorem dX12_startsEnum_3 : decode cX12_startsEnum 3 = .ok (.aload_n 0, 1) := by decide +kernel
theorem dX12_startsEnum_4 : decode cX12_startsEnum 4 = .ok (.getfield 29, 3) := by decide +kernel
theorem dX12_startsEnum_7 : decode cX12_startsEnum 7 = .ok (.iload_n 1, 1) := by decide +kernel
theorem dX12_startsEnum_8 : decode cX12_startsEnum 8 = .ok (.iaload, 1) := by decide +kernel
theorem dX12_startsEnum_9 : decode cX12_startsEnum 9 = .ok (.if_icmp .ge 70, 3) := by decide +kernel
theorem dX12_startsEnum_12 : decode cX12_startsEnum 12 = .ok (.bipush 24, 2) := by decide +kernel
theorem dX12_startsEnum_14 : decode cX12_startsEnum 14 = .ok (.iload_n 1, 1) := by decide +kernel
theorem dX12_startsEnum_15 : decode cX12_startsEnum 15 = .ok (.imul, 1) := by decide +kernel
theorem dX12_startsEnum_16 : decode cX12_startsEnum 16 = .ok (.iload_n 2, 1) := by decide +kernel
theorem dX12_startsEnum_17 : decode cX12_startsEnum 17 = .ok (.iadd, 1) := by decide +kernel
theorem dX12_startsEnum_18 : decode cX12_startsEnum 18 = .ok (.istore_n 3, 1) := by decide +kernel
theorem dX12_startsEnum_19 : decode cX12_startsEnum 19 = .ok (.aload_n 0, 1) := by decide +kernel
theorem dX12_startsEnum_20 : decode cX12_startsEnum 20 = .ok (.getfield 50, 3) := by decide +kernel
theorem dX12_startsEnum_23 : decode cX12_startsEnum 23 = .ok (.iload_n 3, 1) := by decide +kernel
theorem dX12_startsEnum_24 : decode cX12_startsEnum 24 = .ok (.iaload, 1) := by decide +kernel
theorem dX12_startsEnum_25 : decode cX12_startsEnum 25 = .ok (.iconst (-1), 1) := by decide +kernel
theorem dX12_startsEnum_26 : decode cX12_startsEnum 26 = .ok (.if_icmp .ne 7, 3) := by decide +kernel
theorem dX12_startsEnum_29 : decode cX12_startsEnum 29 = .ok (.iconst 0, 1) := by decide +kernel
theorem dX12_startsEnum_30 : decode cX12_startsEnum 30 = .ok (.goto 15, 3) := by decide +kernel
theorem dX12_startsEnum_33 : decode cX12_startsEnum 33 = .ok (.aload_n 0, 1) := by decide +kernel
theorem dX12_startsEnum_34 : decode cX12_startsEnum 34 = .ok (.aload_n 0, 1) := by decide +kernel
theorem dX12_startsEnum_35 : decode cX12_startsEnum 35 = .ok (.getfield 50, 3) := by decide +kernel
theorem dX12_startsEnum_38 : decode cX12_startsEnum 38 = .ok (.iload_n 3, 1) := by decide +kernel
theorem dX12_startsEnum_39 : decode cX12_startsEnum 39 = .ok (.iaload, 1) := by decide +kernel
theorem dX12_startsEnum_40 : decode cX12_startsEnum 40 = .ok (.iload_n 3, 1) := by decide +kernel
theorem dX12_startsEnum_41 : decode cX12_startsEnum 41 = .ok (.iconst (-1), 1) := by decide +kernel
theorem dX12_startsEnum_42 : decode cX12_startsEnum 42 = .ok (.invokevirtual 422, 3) := by decide +kernel
theorem dX12_startsEnum_45 : decode cX12_startsEnum 45 = .ok (.istore 4, 2) := by decide +kernel
theorem dX12_startsEnum_47 : decode cX12_startsEnum 47 = .ok (.aload_n 0, 1) := by decide +kernel
theorem dX12_startsEnum_48 : decode cX12_startsEnum 48 = .ok (.getfield 401, 3) := by decide +kernel
theorem dX12_startsEnum_51 : decode cX12_startsEnum 51 = .ok (.ifCond .eq 4, 3) := by decide +kernel
theorem dX12_startsEnum_54 : decode cX12_startsEnum 54 = .ok (.return_, 1) := by decide +kernel
theorem dX12_startsEnum_55 : decode cX12_startsEnum 55 = .ok (.aload_n 0, 1) := by decide +kernel
theorem dX12_startsEnum_56 : decode cX12_startsEnum 56 = .ok (.getfield 122, 3) := by decide +kernel
theorem dX12_startsEnum_59 : decode cX12_startsEnum 59 = .ok (.iload_n 3, 1) := by decide +kernel
theorem dX12_startsEnum_60 : decode cX12_startsEnum 60 = .ok (.iload 4, 2) := by decide +kernel
theorem dX12_startsEnum_62 : decode cX12_startsEnum 62 = .ok (.iastore, 1) := by decide +kernel
theorem dX12_startsEnum_63 : decode cX12_startsEnum 63 = .ok (.aload_n 0, 1) := by decide +kernel
theorem dX12_startsEnum_64 : decode cX12_startsEnum 64 = .ok (.getfield 119, 3) := by decide +kernel
theorem dX12_startsEnum_67 : decode cX12_startsEnum 67 = .ok (.iload_n 1, 1) := by decide +kernel
theorem dX12_startsEnum_68 : decode cX12_startsEnum 68 = .ok (.dup2, 1) := by decide +kernel
theorem dX12_startsEnum_69 : decode cX12_startsEnum 69 = .ok (.iaload, 1) := by decide +kernel
theorem dX12_startsEnum_70 : decode cX12_startsEnum 70 = .ok (.iconst 1, 1) := by decide +kernel
theorem dX12_startsEnum_71 : decode cX12_startsEnum 71 = .ok (.iadd, 1) := by decide +kernel
theorem dX12_startsEnum_72 : decode cX12_startsEnum 72 = .ok (.iastore, 1) := by decide +kernel
theorem dX12_startsEnum_73 : decode cX12_startsEnum 73 = .ok (.iinc 2 1, 3) := by decide +kernel
theorem dX12_startsEnum_76 : decode cX12_startsEnum 76 = .ok (.goto (-74), 3) := by decide +kernel
theorem dX12_startsEnum_79 : decode cX12_startsEnum 79 = .ok (.iconst 4, 1) := by decide +kernel
theorem dX12_startsEnum_80 : decode cX12_startsEnum 80 = .ok (.iload_n 1, 1) := by decide +kernel
theorem dX12_startsEnum_81 : decode cX12_startsEnum 81 = .ok (.imul, 1) := by decide +kernel
theorem dX12_startsEnum_82 : decode cX12_startsEnum 82 = .ok (.istore_n 2, 1) := by decide +kernel
theorem dX12_startsEnum_83 : decode cX12_startsEnum 83 = .ok (.iload_n 2, 1) := by decide +kernel
theorem dX12_startsEnum_84 : decode cX12_startsEnum 84 = .ok (.iconst 4, 1) := by decide +kernel
theorem dX12_startsEnum_85 : decode cX12_startsEnum 85 = .ok (.iload_n 1, 1) := by decide +kernel
theorem dX12_startsEnum_86 : decode cX12_startsEnum 86 = .ok (.imul, 1) := by decide +kernel
theorem dX12_startsEnum_87 : decode cX12_startsEnum 87 = .ok (.aload_n 0, 1) := by decide +kernel
theorem dX12_startsEnum_88 : decode cX12_startsEnum 88 = .ok (.getfield 32, 3) := by decide +kernel
theorem dX12_startsEnum_91 : decode cX12_startsEnum 91 = .ok (.iload_n 1, 1) := by decide +kernel
theorem dX12_startsEnum_92 : decode cX12_startsEnum 92 = .ok (.iaload, 1) := by decide +kernel
theorem dX12_startsEnum_93 : decode cX12_startsEnum 93 = .ok (.iadd, 1) := by decide +kernel
theorem dX12_startsEnum_94 : decode cX12_startsEnum 94 = .ok (.if_icmp .ge 77, 3) := by decide +kernel
theorem dX12_startsEnum_97 : decode cX12_startsEnum 97 = .ok (.iconst 0, 1) := by decide +kernel
theorem dX12_startsEnum_98 : decode cX12_startsEnum 98 = .ok (.istore_n 3, 1) := by decide +kernel
theorem dX12_startsEnum_99 : decode cX12_startsEnum 99 = .ok (.iload_n 3, 1) := by decide +kernel
theorem dX12_startsEnum_100 : decode cX12_startsEnum 100 = .ok (.aload_n 0, 1) := by decide +kernel
theorem dX12_startsEnum_101 : decode cX12_startsEnum 101 = .ok (.getfield 59, 3) := by decide +kernel
theorem dX12_startsEnum_104 : decode cX12_startsEnum 104 = .ok (.iload_n 2, 1) := by decide +kernel
theorem dX12_startsEnum_105 : decode cX12_startsEnum 105 = .ok (.iaload, 1) := by decide +kernel
theorem dX12_startsEnum_106 : decode cX12_startsEnum 106 = .ok (.if_icmp .ge 59, 3) := by decide +kernel
theorem dX12_startsEnum_109 : decode cX12_startsEnum 109 = .ok (.aload_n 0, 1) := by decide +kernel
theorem dX12_startsEnum_110 : decode cX12_startsEnum 110 = .ok (.aload_n 0, 1) := by decide +kernel
theorem dX12_startsEnum_111 : decode cX12_startsEnum 111 = .ok (.getfield 62, 3) := by decide +kernel
theorem dX12_startsEnum_114 : decode cX12_startsEnum 114 = .ok (.bipush 12, 2) := by decide +kernel
theorem dX12_startsEnum_116 : decode cX12_startsEnum 116 = .ok (.iload_n 2, 1) := by decide +kernel
theorem dX12_startsEnum_117 : decode cX12_startsEnum 117 = .ok (.imul, 1) := by decide +kernel
theorem dX12_startsEnum_118 : decode cX12_startsEnum 118 = .ok (.iload_n 3, 1) := by decide +kernel
theorem dX12_startsEnum_119 : decode cX12_startsEnum 119 = .ok (.iadd, 1) := by decide +kernel
theorem dX12_startsEnum_120 : decode cX12_startsEnum 120 = .ok (.iaload, 1) := by decide +kernel
theorem dX12_startsEnum_121 : decode cX12_startsEnum 121 = .ok (.iconst (-1), 1) := by decide +kernel
theorem dX12_startsEnum_122 : decode cX12_startsEnum 122 = .ok (.iconst (-1), 1) := by decide +kernel
theorem dX12_startsEnum_123 : decode cX12_startsEnum 123 = .ok (.invokevirtual 422, 3) := by decide +kernel
theorem dX12_startsEnum_126 : decode cX12_startsEnum 126 = .ok (.istore 4, 2) := by decide +kernel
theorem dX12_startsEnum_128 : decode cX12_startsEnum 128 = .ok (.aload_n 0, 1) := by decide +kernel
theorem dX12_startsEnum_129 : decode cX12_startsEnum 129 = .ok (.getfield 401, 3) := by decide +kernel
theorem dX12_startsEnum_132 : decode cX12_startsEnum 132 = .ok (.ifCond .eq 4, 3) := by decide +kernel
theorem dX12_startsEnum_135 : decode cX12_startsEnum 135 = .ok (.return_, 1) := by decide +kernel
theorem dX12_startsEnum_136 : decode cX12_startsEnum 136 = .ok (.aload_n 0, 1) := by decide +kernel
theorem dX12_startsEnum_137 : decode cX12_startsEnum 137 = .ok (.getfield 128, 3) := by decide +kernel
theorem dX12_startsEnum_140 : decode cX12_startsEnum 140 = .ok (.bipush 12, 2) := by decide +kernel
theorem dX12_startsEnum_142 : decode cX12_startsEnum 142 = .ok (.iload_n 2, 1) := by decide +kernel
theorem dX12_startsEnum_143 : decode cX12_startsEnum 143 = .ok (.imul, 1) := by decide +kernel
theorem dX12_startsEnum_144 : decode cX12_startsEnum 144 = .ok (.iload_n 3, 1) := by decide +kernel
theorem dX12_startsEnum_145 : decode cX12_startsEnum 145 = .ok (.iadd, 1) := by decide +kernel
theorem dX12_startsEnum_146 : decode cX12_startsEnum 146 = .ok (.iload 4, 2) := by decide +kernel
theorem dX12_startsEnum_148 : decode cX12_startsEnum 148 = .ok (.iastore, 1) := by decide +kernel
theorem dX12_startsEnum_149 : decode cX12_startsEnum 149 = .ok (.aload_n 0, 1) := by decide +kernel
theorem dX12_startsEnum_150 : decode cX12_startsEnum 150 = .ok (.getfield 125, 3) := by decide +kernel
theorem dX12_startsEnum_153 : decode cX12_startsEnum 153 = .ok (.iload_n 2, 1) := by decide +kernel
theorem dX12_startsEnum_154 : decode cX12_startsEnum 154 = .ok (.dup2, 1) := by decide +kernel
theorem dX12_startsEnum_155 : decode cX12_startsEnum 155 = .ok (.iaload, 1) := by decide +kernel
theorem dX12_startsEnum_156 : decode cX12_startsEnum 156 = .ok (.iconst 1, 1) := by decide +kernel
theorem dX12_startsEnum_157 : decode cX12_startsEnum 157 = .ok (.iadd, 1) := by decide +kernel
theorem dX12_startsEnum_158 : decode cX12_startsEnum 158 = .ok (.iastore, 1) := by decide +kernel
theorem dX12_startsEnum_159 : decode cX12_startsEnum 159 = .ok (.iinc 3 1, 3) := by decide +kernel
theorem dX12_startsEnum_162 : decode cX12_startsEnum 162 = .ok (.goto (-63), 3) := by decide +kernel
theorem dX12_startsEnum_165 : decode cX12_startsEnum 165 = .ok (.iinc 2 1, 3) := by decide +kernel
theorem dX12_startsEnum_168 : decode cX12_startsEnum 168 = .ok (.goto (-85), 3) := by decide +kernel
theorem dX12_startsEnum_171 : decode cX12_startsEnum 171 = .ok (.iconst 0, 1) := by decide +kernel
theorem dX12_startsEnum_172 : decode cX12_startsEnum 172 = .ok (.istore_n 2, 1) := by decide +kernel
theorem dX12_startsEnum_173 : decode cX12_startsEnum 173 = .ok (.iload_n 2, 1) := by decide +kernel
theorem dX12_startsEnum_174 : decode cX12_startsEnum 174 = .ok (.aload_n 0, 1) := by decide +kernel
theorem dX12_startsEnum_175 : decode cX12_startsEnum 175 = .ok (.getfield 35, 3) := by decide +kernel
theorem dX12_startsEnum_178 : decode cX12_startsEnum 178 = .ok (.iload_n 1, 1) := by decide +kernel
theorem dX12_startsEnum_179 : decode cX12_startsEnum 179 = .ok (.iaload, 1) := by decide +kernel
theorem dX12_startsEnum_180 : decode cX12_startsEnum 180 = .ok (.if_icmp .ge 47, 3) := by decide +kernel
theorem dX12_startsEnum_183 : decode cX12_startsEnum 183 = .ok (.aload_n 0, 1) := by decide +kernel
theorem dX12_startsEnum_184 : decode cX12_startsEnum 184 = .ok (.aload_n 0, 1) := by decide +kernel
theorem dX12_startsEnum_185 : decode cX12_startsEnum 185 = .ok (.getfield 65, 3) := by decide +kernel
theorem dX12_startsEnum_188 : decode cX12_startsEnum 188 = .ok (.iconst 3, 1) := by decide +kernel
theorem dX12_startsEnum_189 : decode cX12_startsEnum 189 = .ok (.iload_n 1, 1) := by decide +kernel
theorem dX12_startsEnum_190 : decode cX12_startsEnum 190 = .ok (.imul, 1) := by decide +kernel
theorem dX12_startsEnum_191 : decode cX12_startsEnum 191 = .ok (.iload_n 2, 1) := by decide +kernel
theorem dX12_startsEnum_192 : decode cX12_startsEnum 192 = .ok (.iadd, 1) := by decide +kernel
theorem dX12_startsEnum_193 : decode cX12_startsEnum 193 = .ok (.iaload, 1) := by decide +kernel
theorem dX12_startsEnum_194 : decode cX12_startsEnum 194 = .ok (.iconst (-1), 1) := by decide +kernel
theorem dX12_startsEnum_195 : decode cX12_startsEnum 195 = .ok (.iconst (-1), 1) := by decide +kernel
theorem dX12_startsEnum_196 : decode cX12_startsEnum 196 = .ok (.invokevirtual 422, 3) := by decide +kernel
theorem dX12_startsEnum_199 : decode cX12_startsEnum 199 = .ok (.istore_n 3, 1) := by decide +kernel
theorem dX12_startsEnum_200 : decode cX12_startsEnum 200 = .ok (.aload_n 0, 1) := by decide +kernel
theorem dX12_startsEnum_201 : decode cX12_startsEnum 201 = .ok (.getfield 401, 3) := by decide +kernel
theorem dX12_startsEnum_204 : decode cX12_startsEnum 204 = .ok (.ifCond .eq 4, 3) := by decide +kernel
theorem dX12_startsEnum_207 : decode cX12_startsEnum 207 = .ok (.return_, 1) := by decide +kernel
theorem dX12_startsEnum_208 : decode cX12_startsEnum 208 = .ok (.iload_n 3, 1) := by decide +kernel
theorem dX12_startsEnum_209 : decode cX12_startsEnum 209 = .ok (.ifCond .ne 12, 3) := by decide +kernel
theorem dX12_startsEnum_212 : decode cX12_startsEnum 212 = .ok (.aload_n 0, 1) := by decide +kernel
theorem dX12_startsEnum_213 : decode cX12_startsEnum 213 = .ok (.iconst 3, 1) := by decide +kernel
theorem dX12_startsEnum_214 : decode cX12_startsEnum 214 = .ok (.iconst (-1), 1) := by decide +kernel
theorem dX12_startsEnum_215 : decode cX12_startsEnum 215 = .ok (.invokevirtual 407, 3) := by decide +kernel
theorem dX12_startsEnum_218 : decode cX12_startsEnum 218 = .ok (.istore 4, 2) := by decide +kernel
theorem dX12_startsEnum_220 : decode cX12_startsEnum 220 = .ok (.return_, 1) := by decide +kernel
theorem dX12_startsEnum_221 : decode cX12_startsEnum 221 = .ok (.iinc 2 1, 3) := by decide +kernel
theorem dX12_startsEnum_224 : decode cX12_startsEnum 224 = .ok (.goto (-51), 3) := by decide +kernel
theorem dX12_startsEnum_227 : decode cX12_startsEnum 227 = .ok (.return_, 1) := by decide +kernel
theorem dX12_sees_0 : decode cX12_sees 0 = .ok (.sipush 3100, 3) := by decide +kernel
theorem dX12_sees_3 : decode cX12_sees 3 = .ok (.aload_n 0, 1) := by decide +kernel
theorem dX12_sees_4 : decode cX12_sees 4 = .ok (.getfield 263, 3) := by decide +kernel
theorem dX12_sees_7 : decode cX12_sees 7 = .ok (.imul, 1) := by decide +kernel
theorem dX12_sees_8 : decode cX12_sees 8 = .ok (.aload_n 0, 1) := by decide +kernel
theorem dX12_sees_9 : decode cX12_sees 9 = .ok (.getfield 146, 3) := by decide +kernel
theorem dX12_sees_12 : decode cX12_sees 12 = .ok (.aload_n 0, 1) := by decide +kernel
theorem dX12_sees_13 : decode cX12_sees 13 = .ok (.getfield 263, 3) := by decide +kernel
theorem dX12_sees_16 : decode cX12_sees 16 = .ok (.iaload, 1) := by decide +kernel
theorem dX12_sees_17 : decode cX12_sees 17 = .ok (.iadd, 1) := by decide +kernel
theorem dX12_sees_18 : decode cX12_sees 18 = .ok (.istore_n 3, 1) := by decide +kernel
theorem dX12_sees_19 : decode cX12_sees 19 = .ok (.aload_n 0, 1) := by decide +kernel
theorem dX12_sees_20 : decode cX12_sees 20 = .ok (.getfield 140, 3) := by decide +kernel
theorem dX12_sees_23 : decode cX12_sees 23 = .ok (.iload_n 3, 1) := by decide +kernel
theorem dX12_sees_24 : decode cX12_sees 24 = .ok (.aload_n 0, 1) := by decide +kernel
theorem dX12_sees_25 : decode cX12_sees 25 = .ok (.getfield 413, 3) := by decide +kernel
theorem dX12_sees_28 : decode cX12_sees 28 = .ok (.ifCond .ne 7, 3) := by decide +kernel
theorem dX12_sees_31 : decode cX12_sees 31 = .ok (.iconst (-1), 1) := by decide +kernel
theorem dX12_sees_32 : decode cX12_sees 32 = .ok (.goto 14, 3) := by decide +kernel
theorem dX12_sees_35 : decode cX12_sees 35 = .ok (.aload_n 0, 1) := by decide +kernel
theorem dX12_sees_36 : decode cX12_sees 36 = .ok (.getfield 149, 3) := by decide +kernel
theorem dX12_sees_39 : decode cX12_sees 39 = .ok (.aload_n 0, 1) := by decide +kernel
theorem dX12_sees_40 : decode cX12_sees 40 = .ok (.getfield 413, 3) := by decide +kernel
theorem dX12_sees_43 : decode cX12_sees 43 = .ok (.iconst 1, 1) := by decide +kernel
theorem dX12_sees_44 : decode cX12_sees 44 = .ok (.isub, 1) := by decide +kernel
theorem dX12_sees_45 : decode cX12_sees 45 = .ok (.iaload, 1) := by decide +kernel
theorem dX12_sees_46 : decode cX12_sees 46 = .ok (.iastore, 1) := by decide +kernel
theorem dX12_sees_47 : decode cX12_sees 47 = .ok (.aload_n 0, 1) := by decide +kernel
theorem dX12_sees_48 : decode cX12_sees 48 = .ok (.getfield 143, 3) := by decide +kernel
theorem dX12_sees_51 : decode cX12_sees 51 = .ok (.iload_n 3, 1) := by decide +kernel
theorem dX12_sees_52 : decode cX12_sees 52 = .ok (.iload_n 1, 1) := by decide +kernel
theorem dX12_sees_53 : decode cX12_sees 53 = .ok (.iastore, 1) := by decide +kernel
theorem dX12_sees_54 : decode cX12_sees 54 = .ok (.aload_n 0, 1) := by decide +kernel
theorem dX12_sees_55 : decode cX12_sees 55 = .ok (.getfield 146, 3) := by decide +kernel
theorem dX12_sees_58 : decode cX12_sees 58 = .ok (.aload_n 0, 1) := by decide +kernel
theorem dX12_sees_59 : decode cX12_sees 59 = .ok (.getfield 263, 3) := by decide +kernel
theorem dX12_sees_62 : decode cX12_sees 62 = .ok (.dup2, 1) := by decide +kernel
theorem dX12_sees_63 : decode cX12_sees 63 = .ok (.iaload, 1) := by decide +kernel
theorem dX12_sees_64 : decode cX12_sees 64 = .ok (.iconst 1, 1) := by decide +kernel
theorem dX12_sees_65 : decode cX12_sees 65 = .ok (.iadd, 1) := by decide +kernel
theorem dX12_sees_66 : decode cX12_sees 66 = .ok (.iastore, 1) := by decide +kernel
theorem dX12_sees_67 : decode cX12_sees 67 = .ok (.iload_n 2, 1) := by decide +kernel
theorem dX12_sees_68 : decode cX12_sees 68 = .ok (.ireturn, 1) := by decide +kernel
theorem dX12_value_0 : decode cX12_value 0 = .ok (.aload_n 0, 1) := by decide +kernel
theorem dX12_value_1 : decode cX12_value 1 = .ok (.getfield 401, 3) := by decide +kernel
theorem dX12_value_4 : decode cX12_value 4 = .ok (.ifCond .eq 5, 3) := by decide +kernel
theorem dX12_value_7 : decode cX12_value 7 = .ok (.iconst 0, 1) := by decide +kernel
theorem dX12_value_8 : decode cX12_value 8 = .ok (.ireturn, 1) := by decide +kernel
theorem dX12_value_9 : decode cX12_value 9 = .ok (.aload_n 0, 1) := by decide +kernel
theorem dX12_value_10 : decode cX12_value 10 = .ok (.getfield 95, 3) := by decide +kernel
theorem dX12_value_13 : decode cX12_value 13 = .ok (.iload_n 1, 1) := by decide +kernel
theorem dX12_value_14 : decode cX12_value 14 = .ok (.iaload, 1) := by decide +kernel
theorem dX12_value_15 : decode cX12_value 15 = .ok (.istore 4, 2) := by decide +kernel
theorem dX12_value_17 : decode cX12_value 17 = .ok (.aload_n 0, 1) := by decide +kernel
theorem dX12_value_18 : decode cX12_value 18 = .ok (.getfield 92, 3) := by decide +kernel
theorem dX12_value_21 : decode cX12_value 21 = .ok (.iload_n 1, 1) := by decide +kernel
theorem dX12_value_22 : decode cX12_value 22 = .ok (.iaload, 1) := by decide +kernel
theorem dX12_value_23 : decode cX12_value 23 = .ok (.tableswitch 271 0 12 #[65, 68, 271, 271, 271, 271, 78, 85, 102, 90, 141, 200, 263], 65) := by decide +kernel
theorem dX12_value_88 : decode cX12_value 88 = .ok (.iload 4, 2) := by decide +kernel
theorem dX12_value_90 : decode cX12_value 90 = .ok (.ireturn, 1) := by decide +kernel
theorem dX12_value_91 : decode cX12_value 91 = .ok (.aload_n 0, 1) := by decide +kernel
theorem dX12_value_92 : decode cX12_value 92 = .ok (.iload 4, 2) := by decide +kernel
theorem dX12_value_94 : decode cX12_value 94 = .ok (.iload_n 2, 1) := by decide +kernel
theorem dX12_value_95 : decode cX12_value 95 = .ok (.iload_n 3, 1) := by decide +kernel
theorem dX12_value_96 : decode cX12_value 96 = .ok (.invokevirtual 422, 3) := by decide +kernel
theorem dX12_value_99 : decode cX12_value 99 = .ok (.ineg, 1) := by decide +kernel
theorem dX12_value_100 : decode cX12_value 100 = .ok (.ireturn, 1) := by decide +kernel
theorem dX12_value_101 : decode cX12_value 101 = .ok (.aload_n 0, 1) := by decide +kernel
theorem dX12_value_102 : decode cX12_value 102 = .ok (.getfield 122, 3) := by decide +kernel
theorem dX12_value_105 : decode cX12_value 105 = .ok (.iload_n 2, 1) := by decide +kernel
theorem dX12_value_106 : decode cX12_value 106 = .ok (.iaload, 1) := by decide +kernel
theorem dX12_value_107 : decode cX12_value 107 = .ok (.ireturn, 1) := by decide +kernel
theorem dX12_value_108 : decode cX12_value 108 = .ok (.iload_n 2, 1) := by decide +kernel
theorem dX12_value_109 : decode cX12_value 109 = .ok (.bipush 24, 2) := by decide +kernel
theorem dX12_value_111 : decode cX12_value 111 = .ok (.irem, 1) := by decide +kernel
theorem dX12_value_112 : decode cX12_value 112 = .ok (.ireturn, 1) := by decide +kernel
theorem dX12_value_113 : decode cX12_value 113 = .ok (.aload_n 0, 1) := by decide +kernel
theorem dX12_value_114 : decode cX12_value 114 = .ok (.getfield 29, 3) := by decide +kernel
theorem dX12_value_117 : decode cX12_value 117 = .ok (.aload_n 0, 1) := by decide +kernel
theorem dX12_value_118 : decode cX12_value 118 = .ok (.getfield 104, 3) := by decide +kernel
theorem dX12_value_121 : decode cX12_value 121 = .ok (.iload_n 1, 1) := by decide +kernel
theorem dX12_value_122 : decode cX12_value 122 = .ok (.iaload, 1) := by decide +kernel
theorem dX12_value_123 : decode cX12_value 123 = .ok (.iaload, 1) := by decide +kernel
theorem dX12_value_124 : decode cX12_value 124 = .ok (.ireturn, 1) := by decide +kernel
theorem dX12_value_125 : decode cX12_value 125 = .ok (.aload_n 0, 1) := by decide +kernel
theorem dX12_value_126 : decode cX12_value 126 = .ok (.getfield 44, 3) := by decide +kernel
theorem dX12_value_129 : decode cX12_value 129 = .ok (.iconst 4, 1) := by decide +kernel
theorem dX12_value_130 : decode cX12_value 130 = .ok (.iload_n 2, 1) := by decide +kernel
theorem dX12_value_131 : decode cX12_value 131 = .ok (.bipush 24, 2) := by decide +kernel
theorem dX12_value_133 : decode cX12_value 133 = .ok (.idiv, 1) := by decide +kernel
theorem dX12_value_134 : decode cX12_value 134 = .ok (.imul, 1) := by decide +kernel
theorem dX12_value_135 : decode cX12_value 135 = .ok (.iload_n 3, 1) := by decide +kernel
theorem dX12_value_136 : decode cX12_value 136 = .ok (.iadd, 1) := by decide +kernel
theorem dX12_value_137 : decode cX12_value 137 = .ok (.iaload, 1) := by decide +kernel
theorem dX12_value_138 : decode cX12_value 138 = .ok (.istore 5, 2) := by decide +kernel
theorem dX12_value_140 : decode cX12_value 140 = .ok (.iload 5, 2) := by decide +kernel
theorem dX12_value_142 : decode cX12_value 142 = .ok (.iconst (-1), 1) := by decide +kernel
theorem dX12_value_143 : decode cX12_value 143 = .ok (.if_icmp .ne 12, 3) := by decide +kernel
theorem dX12_value_146 : decode cX12_value 146 = .ok (.aload_n 0, 1) := by decide +kernel
theorem dX12_value_147 : decode cX12_value 147 = .ok (.iconst 5, 1) := by decide +kernel
theorem dX12_value_148 : decode cX12_value 148 = .ok (.iconst (-1), 1) := by decide +kernel
theorem dX12_value_149 : decode cX12_value 149 = .ok (.invokevirtual 407, 3) := by decide +kernel
theorem dX12_value_152 : decode cX12_value 152 = .ok (.goto 11, 3) := by decide +kernel
theorem dX12_value_155 : decode cX12_value 155 = .ok (.aload_n 0, 1) := by decide +kernel
theorem dX12_value_156 : decode cX12_value 156 = .ok (.iload 5, 2) := by decide +kernel
theorem dX12_value_158 : decode cX12_value 158 = .ok (.iload_n 2, 1) := by decide +kernel
theorem dX12_value_159 : decode cX12_value 159 = .ok (.iload_n 3, 1) := by decide +kernel
theorem dX12_value_160 : decode cX12_value 160 = .ok (.invokevirtual 422, 3) := by decide +kernel
theorem dX12_value_163 : decode cX12_value 163 = .ok (.ireturn, 1) := by decide +kernel
theorem dX12_value_164 : decode cX12_value 164 = .ok (.iload 4, 2) := by decide +kernel
theorem dX12_value_166 : decode cX12_value 166 = .ok (.bipush 24, 2) := by decide +kernel
theorem dX12_value_168 : decode cX12_value 168 = .ok (.idiv, 1) := by decide +kernel
theorem dX12_value_169 : decode cX12_value 169 = .ok (.istore 6, 2) := by decide +kernel
theorem dX12_value_171 : decode cX12_value 171 = .ok (.aload_n 0, 1) := by decide +kernel
theorem dX12_value_172 : decode cX12_value 172 = .ok (.iload 6, 2) := by decide +kernel
theorem dX12_value_174 : decode cX12_value 174 = .ok (.bipush 12, 2) := by decide +kernel
theorem dX12_value_176 : decode cX12_value 176 = .ok (.irem, 1) := by decide +kernel
theorem dX12_value_177 : decode cX12_value 177 = .ok (.invokevirtual 424, 3) := by decide +kernel
theorem dX12_value_180 : decode cX12_value 180 = .ok (.aload_n 0, 1) := by decide +kernel
theorem dX12_value_181 : decode cX12_value 181 = .ok (.getfield 401, 3) := by decide +kernel
theorem dX12_value_184 : decode cX12_value 184 = .ok (.ifCond .eq 5, 3) := by decide +kernel
theorem dX12_value_187 : decode cX12_value 187 = .ok (.iconst 0, 1) := by decide +kernel
theorem dX12_value_188 : decode cX12_value 188 = .ok (.ireturn, 1) := by decide +kernel
theorem dX12_value_189 : decode cX12_value 189 = .ok (.iload 4, 2) := by decide +kernel
theorem dX12_value_191 : decode cX12_value 191 = .ok (.bipush 24, 2) := by decide +kernel
theorem dX12_value_193 : decode cX12_value 193 = .ok (.irem, 1) := by decide +kernel
theorem dX12_value_194 : decode cX12_value 194 = .ok (.aload_n 0, 1) := by decide +kernel
theorem dX12_value_195 : decode cX12_value 195 = .ok (.getfield 119, 3) := by decide +kernel
theorem dX12_value_198 : decode cX12_value 198 = .ok (.iload 6, 2) := by decide +kernel
theorem dX12_value_200 : decode cX12_value 200 = .ok (.iaload, 1) := by decide +kernel
theorem dX12_value_201 : decode cX12_value 201 = .ok (.if_icmp .ge 11, 3) := by decide +kernel
theorem dX12_value_204 : decode cX12_value 204 = .ok (.iload 4, 2) := by decide +kernel
theorem dX12_value_206 : decode cX12_value 206 = .ok (.bipush 24, 2) := by decide +kernel
theorem dX12_value_208 : decode cX12_value 208 = .ok (.irem, 1) := by decide +kernel
theorem dX12_value_209 : decode cX12_value 209 = .ok (.goto 13, 3) := by decide +kernel
theorem dX12_value_212 : decode cX12_value 212 = .ok (.aload_n 0, 1) := by decide +kernel
theorem dX12_value_213 : decode cX12_value 213 = .ok (.iload 6, 2) := by decide +kernel
theorem dX12_value_215 : decode cX12_value 215 = .ok (.bipush 12, 2) := by decide +kernel
theorem dX12_value_217 : decode cX12_value 217 = .ok (.irem, 1) := by decide +kernel
theorem dX12_value_218 : decode cX12_value 218 = .ok (.iconst (-1), 1) := by decide +kernel
theorem dX12_value_219 : decode cX12_value 219 = .ok (.invokevirtual 427, 3) := by decide +kernel
theorem dX12_value_222 : decode cX12_value 222 = .ok (.ireturn, 1) := by decide +kernel
theorem dX12_value_223 : decode cX12_value 223 = .ok (.bipush 100, 2) := by decide +kernel
theorem dX12_value_225 : decode cX12_value 225 = .ok (.iload 4, 2) := by decide +kernel
theorem dX12_value_227 : decode cX12_value 227 = .ok (.bipush 48, 2) := by decide +kernel
theorem dX12_value_229 : decode cX12_value 229 = .ok (.irem, 1) := by decide +kernel
theorem dX12_value_230 : decode cX12_value 230 = .ok (.iadd, 1) := by decide +kernel
theorem dX12_value_231 : decode cX12_value 231 = .ok (.istore 7, 2) := by decide +kernel
theorem dX12_value_233 : decode cX12_value 233 = .ok (.aload_n 0, 1) := by decide +kernel
theorem dX12_value_234 : decode cX12_value 234 = .ok (.iload 7, 2) := by decide +kernel
theorem dX12_value_236 : decode cX12_value 236 = .ok (.invokevirtual 424, 3) := by decide +kernel
theorem dX12_value_239 : decode cX12_value 239 = .ok (.aload_n 0, 1) := by decide +kernel
theorem dX12_value_240 : decode cX12_value 240 = .ok (.getfield 401, 3) := by decide +kernel
theorem dX12_value_243 : decode cX12_value 243 = .ok (.ifCond .eq 5, 3) := by decide +kernel
theorem dX12_value_246 : decode cX12_value 246 = .ok (.iconst 0, 1) := by decide +kernel
theorem dX12_value_247 : decode cX12_value 247 = .ok (.ireturn, 1) := by decide +kernel
theorem dX12_value_248 : decode cX12_value 248 = .ok (.aload_n 0, 1) := by decide +kernel
theorem dX12_value_249 : decode cX12_value 249 = .ok (.getfield 116, 3) := by decide +kernel
theorem dX12_value_252 : decode cX12_value 252 = .ok (.sipush 160, 3) := by decide +kernel
theorem dX12_value_255 : decode cX12_value 255 = .ok (.aload_n 0, 1) := by decide +kernel
theorem dX12_value_256 : decode cX12_value 256 = .ok (.getfield 263, 3) := by decide +kernel
theorem dX12_value_259 : decode cX12_value 259 = .ok (.imul, 1) := by decide +kernel
theorem dX12_value_260 : decode cX12_value 260 = .ok (.iload 7, 2) := by decide +kernel
theorem dX12_value_262 : decode cX12_value 262 = .ok (.iadd, 1) := by decide +kernel
theorem dX12_value_263 : decode cX12_value 263 = .ok (.iaload, 1) := by decide +kernel
theorem dX12_value_264 : decode cX12_value 264 = .ok (.iconst 3, 1) := by decide +kernel
theorem dX12_value_265 : decode cX12_value 265 = .ok (.if_icmp .ne 13, 3) := by decide +kernel
theorem dX12_value_268 : decode cX12_value 268 = .ok (.aload_n 0, 1) := by decide +kernel
theorem dX12_value_269 : decode cX12_value 269 = .ok (.iload 7, 2) := by decide +kernel
theorem dX12_value_271 : decode cX12_value 271 = .ok (.iconst 0, 1) := by decide +kernel
theorem dX12_value_272 : decode cX12_value 272 = .ok (.invokevirtual 427, 3) := by decide +kernel
theorem dX12_value_275 : decode cX12_value 275 = .ok (.goto 10, 3) := by decide +kernel
theorem dX12_value_278 : decode cX12_value 278 = .ok (.aload_n 0, 1) := by decide +kernel
theorem dX12_value_279 : decode cX12_value 279 = .ok (.getfield 131, 3) := by decide +kernel
theorem dX12_value_282 : decode cX12_value 282 = .ok (.iload 4, 2) := by decide +kernel
theorem dX12_value_284 : decode cX12_value 284 = .ok (.iaload, 1) := by decide +kernel
theorem dX12_value_285 : decode cX12_value 285 = .ok (.ireturn, 1) := by decide +kernel
theorem dX12_value_286 : decode cX12_value 286 = .ok (.aload_n 0, 1) := by decide +kernel
theorem dX12_value_287 : decode cX12_value 287 = .ok (.iload_n 1, 1) := by decide +kernel
theorem dX12_value_288 : decode cX12_value 288 = .ok (.iload_n 2, 1) := by decide +kernel
theorem dX12_value_289 : decode cX12_value 289 = .ok (.iload_n 3, 1) := by decide +kernel
theorem dX12_value_290 : decode cX12_value 290 = .ok (.invokevirtual 430, 3) := by decide +kernel
theorem dX12_value_293 : decode cX12_value 293 = .ok (.ireturn, 1) := by decide +kernel
theorem dX12_value_294 : decode cX12_value 294 = .ok (.aload_n 0, 1) := by decide +kernel
theorem dX12_value_295 : decode cX12_value 295 = .ok (.iload_n 1, 1) := by decide +kernel
theorem dX12_value_296 : decode cX12_value 296 = .ok (.iload_n 2, 1) := by decide +kernel
theorem dX12_value_297 : decode cX12_value 297 = .ok (.iload_n 3, 1) := by decide +kernel
theorem dX12_value_298 : decode cX12_value 298 = .ok (.invokevirtual 433, 3) := by decide +kernel
theorem dX12_value_301 : decode cX12_value 301 = .ok (.ireturn, 1) := by decide +kernel
theorem dX12_entryOf_0 : decode cX12_entryOf 0 = .ok (.aload_n 0, 1) := by decide +kernel
theorem dX12_entryOf_1 : decode cX12_entryOf 1 = .ok (.getfield 95, 3) := by decide +kernel
theorem dX12_entryOf_4 : decode cX12_entryOf 4 = .ok (.iload_n 1, 1) := by decide +kernel
theorem dX12_entryOf_5 : decode cX12_entryOf 5 = .ok (.iaload, 1) := by decide +kernel
theorem dX12_entryOf_6 : decode cX12_entryOf 6 = .ok (.istore 4, 2) := by decide +kernel
theorem dX12_entryOf_8 : decode cX12_entryOf 8 = .ok (.iload 4, 2) := by decide +kernel
theorem dX12_entryOf_10 : decode cX12_entryOf 10 = .ok (.iconst 4, 1) := by decide +kernel
theorem dX12_entryOf_11 : decode cX12_entryOf 11 = .ok (.idiv, 1) := by decide +kernel
theorem dX12_entryOf_12 : decode cX12_entryOf 12 = .ok (.istore 5, 2) := by decide +kernel
theorem dX12_entryOf_14 : decode cX12_entryOf 14 = .ok (.aload_n 0, 1) := by decide +kernel
theorem dX12_entryOf_15 : decode cX12_entryOf 15 = .ok (.iload 5, 2) := by decide +kernel
theorem dX12_entryOf_17 : decode cX12_entryOf 17 = .ok (.bipush 12, 2) := by decide +kernel
theorem dX12_entryOf_19 : decode cX12_entryOf 19 = .ok (.irem, 1) := by decide +kernel
theorem dX12_entryOf_20 : decode cX12_entryOf 20 = .ok (.invokevirtual 424, 3) := by decide +kernel
theorem dX12_entryOf_23 : decode cX12_entryOf 23 = .ok (.aload_n 0, 1) := by decide +kernel
theorem dX12_entryOf_24 : decode cX12_entryOf 24 = .ok (.aload_n 0, 1) := by decide +kernel
theorem dX12_entryOf_25 : decode cX12_entryOf 25 = .ok (.getfield 98, 3) := by decide +kernel
theorem dX12_entryOf_28 : decode cX12_entryOf 28 = .ok (.iload_n 1, 1) := by decide +kernel
theorem dX12_entryOf_29 : decode cX12_entryOf 29 = .ok (.iaload, 1) := by decide +kernel
theorem dX12_entryOf_30 : decode cX12_entryOf 30 = .ok (.iload_n 2, 1) := by decide +kernel
theorem dX12_entryOf_31 : decode cX12_entryOf 31 = .ok (.iload_n 3, 1) := by decide +kernel
theorem dX12_entryOf_32 : decode cX12_entryOf 32 = .ok (.invokevirtual 422, 3) := by decide +kernel
theorem dX12_entryOf_35 : decode cX12_entryOf 35 = .ok (.istore 6, 2) := by decide +kernel
theorem dX12_entryOf_37 : decode cX12_entryOf 37 = .ok (.aload_n 0, 1) := by decide +kernel
theorem dX12_entryOf_38 : decode cX12_entryOf 38 = .ok (.getfield 401, 3) := by decide +kernel
theorem dX12_entryOf_41 : decode cX12_entryOf 41 = .ok (.ifCond .eq 5, 3) := by decide +kernel
theorem dX12_entryOf_44 : decode cX12_entryOf 44 = .ok (.iconst 0, 1) := by decide +kernel
theorem dX12_entryOf_45 : decode cX12_entryOf 45 = .ok (.ireturn, 1) := by decide +kernel
theorem dX12_entryOf_46 : decode cX12_entryOf 46 = .ok (.iload 6, 2) := by decide +kernel
theorem dX12_entryOf_48 : decode cX12_entryOf 48 = .ok (.ifCond .lt 15, 3) := by decide +kernel
theorem dX12_entryOf_51 : decode cX12_entryOf 51 = .ok (.iload 6, 2) := by decide +kernel
theorem dX12_entryOf_53 : decode cX12_entryOf 53 = .ok (.aload_n 0, 1) := by decide +kernel
theorem dX12_entryOf_54 : decode cX12_entryOf 54 = .ok (.getfield 59, 3) := by decide +kernel
theorem dX12_entryOf_57 : decode cX12_entryOf 57 = .ok (.iload 4, 2) := by decide +kernel
theorem dX12_entryOf_59 : decode cX12_entryOf 59 = .ok (.iaload, 1) := by decide +kernel
theorem dX12_entryOf_60 : decode cX12_entryOf 60 = .ok (.if_icmp .lt 10, 3) := by decide +kernel
theorem dX12_entryOf_63 : decode cX12_entryOf 63 = .ok (.aload_n 0, 1) := by decide +kernel
theorem dX12_entryOf_64 : decode cX12_entryOf 64 = .ok (.iconst 4, 1) := by decide +kernel
theorem dX12_entryOf_65 : decode cX12_entryOf 65 = .ok (.iconst (-1), 1) := by decide +kernel
theorem dX12_entryOf_66 : decode cX12_entryOf 66 = .ok (.invokevirtual 407, 3) := by decide +kernel
theorem dX12_entryOf_69 : decode cX12_entryOf 69 = .ok (.ireturn, 1) := by decide +kernel
theorem dX12_entryOf_70 : decode cX12_entryOf 70 = .ok (.iload 6, 2) := by decide +kernel
theorem dX12_entryOf_72 : decode cX12_entryOf 72 = .ok (.aload_n 0, 1) := by decide +kernel
theorem dX12_entryOf_73 : decode cX12_entryOf 73 = .ok (.getfield 125, 3) := by decide +kernel
theorem dX12_entryOf_76 : decode cX12_entryOf 76 = .ok (.iload 4, 2) := by decide +kernel
theorem dX12_entryOf_78 : decode cX12_entryOf 78 = .ok (.iaload, 1) := by decide +kernel
theorem dX12_entryOf_79 : decode cX12_entryOf 79 = .ok (.if_icmp .ge 19, 3) := by decide +kernel
theorem dX12_entryOf_82 : decode cX12_entryOf 82 = .ok (.aload_n 0, 1) := by decide +kernel
theorem dX12_entryOf_83 : decode cX12_entryOf 83 = .ok (.getfield 128, 3) := by decide +kernel
theorem dX12_entryOf_86 : decode cX12_entryOf 86 = .ok (.bipush 12, 2) := by decide +kernel
theorem dX12_entryOf_88 : decode cX12_entryOf 88 = .ok (.iload 4, 2) := by decide +kernel
theorem dX12_entryOf_90 : decode cX12_entryOf 90 = .ok (.imul, 1) := by decide +kernel
theorem dX12_entryOf_91 : decode cX12_entryOf 91 = .ok (.iload 6, 2) := by decide +kernel
theorem dX12_entryOf_93 : decode cX12_entryOf 93 = .ok (.iadd, 1) := by decide +kernel
theorem dX12_entryOf_94 : decode cX12_entryOf 94 = .ok (.iaload, 1) := by decide +kernel
theorem dX12_entryOf_95 : decode cX12_entryOf 95 = .ok (.goto 13, 3) := by decide +kernel
theorem dX12_entryOf_98 : decode cX12_entryOf 98 = .ok (.aload_n 0, 1) := by decide +kernel
theorem dX12_entryOf_99 : decode cX12_entryOf 99 = .ok (.iload 5, 2) := by decide +kernel
theorem dX12_entryOf_101 : decode cX12_entryOf 101 = .ok (.bipush 12, 2) := by decide +kernel
theorem dX12_entryOf_103 : decode cX12_entryOf 103 = .ok (.irem, 1) := by decide +kernel
theorem dX12_entryOf_104 : decode cX12_entryOf 104 = .ok (.iconst 0, 1) := by decide +kernel
theorem dX12_entryOf_105 : decode cX12_entryOf 105 = .ok (.invokevirtual 427, 3) := by decide +kernel
theorem dX12_entryOf_108 : decode cX12_entryOf 108 = .ok (.ireturn, 1) := by decide +kernel
theorem dX12_both_0 : decode cX12_both 0 = .ok (.iload_n 1, 1) := by decide +kernel
theorem dX12_both_1 : decode cX12_both 1 = .ok (.istore 4, 2) := by decide +kernel
theorem dX12_both_3 : decode cX12_both 3 = .ok (.aload_n 0, 1) := by decide +kernel
theorem dX12_both_4 : decode cX12_both 4 = .ok (.getfield 92, 3) := by decide +kernel
theorem dX12_both_7 : decode cX12_both 7 = .ok (.aload_n 0, 1) := by decide +kernel
theorem dX12_both_8 : decode cX12_both 8 = .ok (.getfield 95, 3) := by decide +kernel
theorem dX12_both_11 : decode cX12_both 11 = .ok (.iload 4, 2) := by decide +kernel
theorem dX12_both_13 : decode cX12_both 13 = .ok (.iaload, 1) := by decide +kernel
theorem dX12_both_14 : decode cX12_both 14 = .ok (.iaload, 1) := by decide +kernel
theorem dX12_both_15 : decode cX12_both 15 = .ok (.invokestatic 272, 3) := by decide +kernel
theorem dX12_both_18 : decode cX12_both 18 = .ok (.ifCond .eq 15, 3) := by decide +kernel
theorem dX12_both_21 : decode cX12_both 21 = .ok (.aload_n 0, 1) := by decide +kernel
theorem dX12_both_22 : decode cX12_both 22 = .ok (.getfield 95, 3) := by decide +kernel
theorem dX12_both_25 : decode cX12_both 25 = .ok (.iload 4, 2) := by decide +kernel
theorem dX12_both_27 : decode cX12_both 27 = .ok (.iaload, 1) := by decide +kernel
theorem dX12_both_28 : decode cX12_both 28 = .ok (.istore 4, 2) := by decide +kernel
theorem dX12_both_30 : decode cX12_both 30 = .ok (.goto (-27), 3) := by decide +kernel
theorem dX12_both_33 : decode cX12_both 33 = .ok (.aload_n 0, 1) := by decide +kernel
theorem dX12_both_34 : decode cX12_both 34 = .ok (.aload_n 0, 1) := by decide +kernel
theorem dX12_both_35 : decode cX12_both 35 = .ok (.getfield 95, 3) := by decide +kernel
theorem dX12_both_38 : decode cX12_both 38 = .ok (.iload 4, 2) := by decide +kernel
theorem dX12_both_40 : decode cX12_both 40 = .ok (.iaload, 1) := by decide +kernel
theorem dX12_both_41 : decode cX12_both 41 = .ok (.iload_n 2, 1) := by decide +kernel
theorem dX12_both_42 : decode cX12_both 42 = .ok (.iload_n 3, 1) := by decide +kernel
theorem dX12_both_43 : decode cX12_both 43 = .ok (.invokevirtual 422, 3) := by decide +kernel
theorem dX12_both_46 : decode cX12_both 46 = .ok (.istore 5, 2) := by decide +kernel
theorem dX12_both_48 : decode cX12_both 48 = .ok (.aload_n 0, 1) := by decide +kernel
theorem dX12_both_49 : decode cX12_both 49 = .ok (.aload_n 0, 1) := by decide +kernel
theorem dX12_both_50 : decode cX12_both 50 = .ok (.getfield 92, 3) := by decide +kernel
theorem dX12_both_53 : decode cX12_both 53 = .ok (.iload 4, 2) := by decide +kernel
theorem dX12_both_55 : decode cX12_both 55 = .ok (.iaload, 1) := by decide +kernel
theorem dX12_both_56 : decode cX12_both 56 = .ok (.iload 5, 2) := by decide +kernel
theorem dX12_both_58 : decode cX12_both 58 = .ok (.aload_n 0, 1) := by decide +kernel
theorem dX12_both_59 : decode cX12_both 59 = .ok (.aload_n 0, 1) := by decide +kernel
theorem dX12_both_60 : decode cX12_both 60 = .ok (.getfield 98, 3) := by decide +kernel
theorem dX12_both_63 : decode cX12_both 63 = .ok (.iload 4, 2) := by decide +kernel
theorem dX12_both_65 : decode cX12_both 65 = .ok (.iaload, 1) := by decide +kernel
theorem dX12_both_66 : decode cX12_both 66 = .ok (.iload_n 2, 1) := by decide +kernel
theorem dX12_both_67 : decode cX12_both 67 = .ok (.iload_n 3, 1) := by decide +kernel
theorem dX12_both_68 : decode cX12_both 68 = .ok (.invokevirtual 422, 3) := by decide +kernel
theorem dX12_both_71 : decode cX12_both 71 = .ok (.invokevirtual 436, 3) := by decide +kernel
theorem dX12_both_74 : decode cX12_both 74 = .ok (.istore 5, 2) := by decide +kernel
theorem dX12_both_76 : decode cX12_both 76 = .ok (.aload_n 0, 1) := by decide +kernel
theorem dX12_both_77 : decode cX12_both 77 = .ok (.getfield 401, 3) := by decide +kernel
theorem dX12_both_80 : decode cX12_both 80 = .ok (.ifCond .eq 5, 3) := by decide +kernel
theorem dX12_both_83 : decode cX12_both 83 = .ok (.iconst 0, 1) := by decide +kernel
theorem dX12_both_84 : decode cX12_both 84 = .ok (.ireturn, 1) := by decide +kernel
theorem dX12_both_85 : decode cX12_both 85 = .ok (.iload 4, 2) := by decide +kernel
theorem dX12_both_87 : decode cX12_both 87 = .ok (.iload_n 1, 1) := by decide +kernel
theorem dX12_both_88 : decode cX12_both 88 = .ok (.if_icmp .ne 6, 3) := by decide +kernel
theorem dX12_both_91 : decode cX12_both 91 = .ok (.iload 5, 2) := by decide +kernel
theorem dX12_both_93 : decode cX12_both 93 = .ok (.ireturn, 1) := by decide +kernel
theorem dX12_both_94 : decode cX12_both 94 = .ok (.aload_n 0, 1) := by decide +kernel
theorem dX12_both_95 : decode cX12_both 95 = .ok (.getfield 101, 3) := by decide +kernel
theorem dX12_both_98 : decode cX12_both 98 = .ok (.iload 4, 2) := by decide +kernel
theorem dX12_both_100 : decode cX12_both 100 = .ok (.iaload, 1) := by decide +kernel
theorem dX12_both_101 : decode cX12_both 101 = .ok (.istore 4, 2) := by decide +kernel
theorem dX12_both_103 : decode cX12_both 103 = .ok (.goto (-55), 3) := by decide +kernel
theorem dX12_joined_0 : decode cX12_joined 0 = .ok (.aload_n 0, 1) := by decide +kernel
theorem dX12_joined_1 : decode cX12_joined 1 = .ok (.getfield 401, 3) := by decide +kernel
theorem dX12_joined_4 : decode cX12_joined 4 = .ok (.ifCond .eq 5, 3) := by decide +kernel
theorem dX12_joined_7 : decode cX12_joined 7 = .ok (.iconst 0, 1) := by decide +kernel
theorem dX12_joined_8 : decode cX12_joined 8 = .ok (.ireturn, 1) := by decide +kernel
theorem dX12_joined_9 : decode cX12_joined 9 = .ok (.iload_n 1, 1) := by decide +kernel
theorem dX12_joined_10 : decode cX12_joined 10 = .ok (.tableswitch 38 2 4 #[26, 30, 34], 26) := by decide +kernel
theorem dX12_joined_36 : decode cX12_joined 36 = .ok (.iload_n 2, 1) := by decide +kernel
theorem dX12_joined_37 : decode cX12_joined 37 = .ok (.iload_n 3, 1) := by decide +kernel
theorem dX12_joined_38 : decode cX12_joined 38 = .ok (.iadd, 1) := by decide +kernel
theorem dX12_joined_39 : decode cX12_joined 39 = .ok (.ireturn, 1) := by decide +kernel
theorem dX12_joined_40 : decode cX12_joined 40 = .ok (.iload_n 2, 1) := by decide +kernel
theorem dX12_joined_41 : decode cX12_joined 41 = .ok (.iload_n 3, 1) := by decide +kernel
theorem dX12_joined_42 : decode cX12_joined 42 = .ok (.isub, 1) := by decide +kernel
theorem dX12_joined_43 : decode cX12_joined 43 = .ok (.ireturn, 1) := by decide +kernel
theorem dX12_joined_44 : decode cX12_joined 44 = .ok (.iload_n 2, 1) := by decide +kernel
theorem dX12_joined_45 : decode cX12_joined 45 = .ok (.iload_n 3, 1) := by decide +kernel
theorem dX12_joined_46 : decode cX12_joined 46 = .ok (.imul, 1) := by decide +kernel
theorem dX12_joined_47 : decode cX12_joined 47 = .ok (.ireturn, 1) := by decide +kernel
theorem dX12_joined_48 : decode cX12_joined 48 = .ok (.iload_n 3, 1) := by decide +kernel
theorem dX12_joined_49 : decode cX12_joined 49 = .ok (.ifCond .ne 10, 3) := by decide +kernel
theorem dX12_joined_52 : decode cX12_joined 52 = .ok (.aload_n 0, 1) := by decide +kernel
theorem dX12_joined_53 : decode cX12_joined 53 = .ok (.iconst 4, 1) := by decide +kernel
theorem dX12_joined_54 : decode cX12_joined 54 = .ok (.iconst (-1), 1) := by decide +kernel
theorem dX12_joined_55 : decode cX12_joined 55 = .ok (.invokevirtual 407, 3) := by decide +kernel
theorem dX12_joined_58 : decode cX12_joined 58 = .ok (.ireturn, 1) := by decide +kernel
theorem dX12_joined_59 : decode cX12_joined 59 = .ok (.iload_n 3, 1) := by decide +kernel
theorem dX12_joined_60 : decode cX12_joined 60 = .ok (.iconst (-1), 1) := by decide +kernel
theorem dX12_joined_61 : decode cX12_joined 61 = .ok (.if_icmp .ne 8, 3) := by decide +kernel
theorem dX12_joined_64 : decode cX12_joined 64 = .ok (.iload_n 2, 1) := by decide +kernel
theorem dX12_joined_65 : decode cX12_joined 65 = .ok (.ineg, 1) := by decide +kernel
theorem dX12_joined_66 : decode cX12_joined 66 = .ok (.goto 6, 3) := by decide +kernel
theorem dX12_joined_69 : decode cX12_joined 69 = .ok (.iload_n 2, 1) := by decide +kernel
theorem dX12_joined_70 : decode cX12_joined 70 = .ok (.iload_n 3, 1) := by decide +kernel
theorem dX12_joined_71 : decode cX12_joined 71 = .ok (.idiv, 1) := by decide +kernel
theorem dX12_joined_72 : decode cX12_joined 72 = .ok (.ireturn, 1) := by decide +kernel
theorem dX12_isEnum_0 : decode cX12_isEnum 0 = .ok (.iload_n 1, 1) := by decide +kernel
theorem dX12_isEnum_1 : decode cX12_isEnum 1 = .ok (.ifCond .lt 29, 3) := by decide +kernel
theorem dX12_isEnum_4 : decode cX12_isEnum 4 = .ok (.iload_n 1, 1) := by decide +kernel
theorem dX12_isEnum_5 : decode cX12_isEnum 5 = .ok (.aload_n 0, 1) := by decide +kernel
theorem dX12_isEnum_6 : decode cX12_isEnum 6 = .ok (.getfield 392, 3) := by decide +kernel
theorem dX12_isEnum_9 : decode cX12_isEnum 9 = .ok (.if_icmp .ge 21, 3) := by decide +kernel
theorem dX12_isEnum_12 : decode cX12_isEnum 12 = .ok (.iload_n 2, 1) := by decide +kernel
theorem dX12_isEnum_13 : decode cX12_isEnum 13 = .ok (.ifCond .lt 17, 3) := by decide +kernel
theorem dX12_isEnum_16 : decode cX12_isEnum 16 = .ok (.iload_n 2, 1) := by decide +kernel
theorem dX12_isEnum_17 : decode cX12_isEnum 17 = .ok (.aload_n 0, 1) := by decide +kernel
theorem dX12_isEnum_18 : decode cX12_isEnum 18 = .ok (.getfield 16, 3) := by decide +kernel
theorem dX12_isEnum_21 : decode cX12_isEnum 21 = .ok (.iload_n 1, 1) := by decide +kernel
theorem dX12_isEnum_22 : decode cX12_isEnum 22 = .ok (.iaload, 1) := by decide +kernel
theorem dX12_isEnum_23 : decode cX12_isEnum 23 = .ok (.if_icmp .ge 7, 3) := by decide +kernel
theorem dX12_isEnum_26 : decode cX12_isEnum 26 = .ok (.iconst 1, 1) := by decide +kernel
theorem dX12_isEnum_27 : decode cX12_isEnum 27 = .ok (.goto 4, 3) := by decide +kernel
theorem dX12_isEnum_30 : decode cX12_isEnum 30 = .ok (.iconst 0, 1) := by decide +kernel
theorem dX12_isEnum_31 : decode cX12_isEnum 31 = .ok (.ireturn, 1) := by decide +kernel
theorem dX12_isConstant_0 : decode cX12_isConstant 0 = .ok (.aload_n 0, 1) := by decide +kernel
theorem dX12_isConstant_1 : decode cX12_isConstant 1 = .ok (.iload_n 1, 1) := by decide +kernel
theorem dX12_isConstant_2 : decode cX12_isConstant 2 = .ok (.iload_n 2, 1) := by decide +kernel
theorem dX12_isConstant_3 : decode cX12_isConstant 3 = .ok (.invokevirtual 439, 3) := by decide +kernel
theorem dX12_isConstant_6 : decode cX12_isConstant 6 = .ok (.ifCond .eq 26, 3) := by decide +kernel
theorem dX12_isConstant_9 : decode cX12_isConstant 9 = .ok (.iload_n 3, 1) := by decide +kernel
theorem dX12_isConstant_10 : decode cX12_isConstant 10 = .ok (.ifCond .lt 22, 3) := by decide +kernel
theorem dX12_isConstant_13 : decode cX12_isConstant 13 = .ok (.iload_n 3, 1) := by decide +kernel
theorem dX12_isConstant_14 : decode cX12_isConstant 14 = .ok (.aload_n 0, 1) := by decide +kernel
theorem dX12_isConstant_15 : decode cX12_isConstant 15 = .ok (.getfield 29, 3) := by decide +kernel
theorem dX12_isConstant_18 : decode cX12_isConstant 18 = .ok (.bipush 12, 2) := by decide +kernel
theorem dX12_isConstant_20 : decode cX12_isConstant 20 = .ok (.iload_n 1, 1) := by decide +kernel
theorem dX12_isConstant_21 : decode cX12_isConstant 21 = .ok (.imul, 1) := by decide +kernel
theorem dX12_isConstant_22 : decode cX12_isConstant 22 = .ok (.iload_n 2, 1) := by decide +kernel
theorem dX12_isConstant_23 : decode cX12_isConstant 23 = .ok (.iadd, 1) := by decide +kernel
theorem dX12_isConstant_24 : decode cX12_isConstant 24 = .ok (.iaload, 1) := by decide +kernel
theorem dX12_isConstant_25 : decode cX12_isConstant 25 = .ok (.if_icmp .ge 7, 3) := by decide +kernel
theorem dX12_isConstant_28 : decode cX12_isConstant 28 = .ok (.iconst 1, 1) := by decide +kernel
theorem dX12_isConstant_29 : decode cX12_isConstant 29 = .ok (.goto 4, 3) := by decide +kernel
theorem dX12_isConstant_32 : decode cX12_isConstant 32 = .ok (.iconst 0, 1) := by decide +kernel
theorem dX12_isConstant_33 : decode cX12_isConstant 33 = .ok (.ireturn, 1) := by decide +kernel
theorem dX12_begin_0 : decode cX12_begin 0 = .ok (.aload_n 0, 1) := by decide +kernel
theorem dX12_begin_1 : decode cX12_begin 1 = .ok (.iload_n 1, 1) := by decide +kernel
theorem dX12_begin_2 : decode cX12_begin 2 = .ok (.putfield 263, 3) := by decide +kernel
theorem dX12_begin_5 : decode cX12_begin 5 = .ok (.aload_n 0, 1) := by decide +kernel
theorem dX12_begin_6 : decode cX12_begin 6 = .ok (.iconst 0, 1) := by decide +kernel
theorem dX12_begin_7 : decode cX12_begin 7 = .ok (.putfield 401, 3) := by decide +kernel
theorem dX12_begin_10 : decode cX12_begin 10 = .ok (.aload_n 0, 1) := by decide +kernel
theorem dX12_begin_11 : decode cX12_begin 11 = .ok (.iconst 0, 1) := by decide +kernel
theorem dX12_begin_12 : decode cX12_begin 12 = .ok (.putfield 413, 3) := by decide +kernel
theorem dX12_begin_15 : decode cX12_begin 15 = .ok (.return_, 1) := by decide +kernel
theorem dX12_ends_0 : decode cX12_ends 0 = .ok (.aload_n 0, 1) := by decide +kernel
theorem dX12_ends_1 : decode cX12_ends 1 = .ok (.getfield 401, 3) := by decide +kernel
theorem dX12_ends_4 : decode cX12_ends 4 = .ok (.ifCond .eq 6, 3) := by decide +kernel
theorem dX12_ends_7 : decode cX12_ends 7 = .ok (.bipush (-3), 2) := by decide +kernel
theorem dX12_ends_9 : decode cX12_ends 9 = .ok (.ireturn, 1) := by decide +kernel
theorem dX12_ends_10 : decode cX12_ends 10 = .ok (.aload_n 0, 1) := by decide +kernel
theorem dX12_ends_11 : decode cX12_ends 11 = .ok (.iload_n 1, 1) := by decide +kernel
theorem dX12_ends_12 : decode cX12_ends 12 = .ok (.putfield 442, 3) := by decide +kernel
theorem dX12_ends_15 : decode cX12_ends 15 = .ok (.iconst 0, 1) := by decide +kernel
theorem dX12_ends_16 : decode cX12_ends 16 = .ok (.ireturn, 1) := by decide +kernel
theorem dX12_uses_0 : decode cX12_uses 0 = .ok (.aload_n 0, 1) := by decide +kernel
theorem dX12_uses_1 : decode cX12_uses 1 = .ok (.iload_n 1, 1) := by decide +kernel
theorem dX12_uses_2 : decode cX12_uses 2 = .ok (.invokevirtual 445, 3) := by decide +kernel
theorem dX12_uses_5 : decode cX12_uses 5 = .ok (.aload_n 0, 1) := by decide +kernel
theorem dX12_uses_6 : decode cX12_uses 6 = .ok (.iload_n 2, 1) := by decide +kernel
theorem dX12_uses_7 : decode cX12_uses 7 = .ok (.invokevirtual 424, 3) := by decide +kernel
theorem dX12_uses_10 : decode cX12_uses 10 = .ok (.aload_n 0, 1) := by decide +kernel
theorem dX12_uses_11 : decode cX12_uses 11 = .ok (.getfield 401, 3) := by decide +kernel
theorem dX12_uses_14 : decode cX12_uses 14 = .ok (.ifCond .eq 8, 3) := by decide +kernel
theorem dX12_uses_17 : decode cX12_uses 17 = .ok (.bipush (-3), 2) := by decide +kernel
theorem dX12_uses_19 : decode cX12_uses 19 = .ok (.goto 4, 3) := by decide +kernel
theorem dX12_uses_22 : decode cX12_uses 22 = .ok (.iconst 0, 1) := by decide +kernel
theorem dX12_uses_23 : decode cX12_uses 23 = .ok (.ireturn, 1) := by decide +kernel
theorem dX12_told_0 : decode cX12_told 0 = .ok (.iload_n 1, 1) := by decide +kernel
theorem dX12_told_1 : decode cX12_told 1 = .ok (.ifCond .lt 11, 3) := by decide +kernel
theorem dX12_told_4 : decode cX12_told 4 = .ok (.iload_n 1, 1) := by decide +kernel
theorem dX12_told_5 : decode cX12_told 5 = .ok (.aload_n 0, 1) := by decide +kernel
theorem dX12_told_6 : decode cX12_told 6 = .ok (.getfield 392, 3) := by decide +kernel
theorem dX12_told_9 : decode cX12_told 9 = .ok (.if_icmp .lt 5, 3) := by decide +kernel
theorem dX12_told_12 : decode cX12_told 12 = .ok (.iconst (-1), 1) := by decide +kernel
theorem dX12_told_13 : decode cX12_told 13 = .ok (.ireturn, 1) := by decide +kernel
theorem dX12_told_14 : decode cX12_told 14 = .ok (.iload_n 2, 1) := by decide +kernel
theorem dX12_told_15 : decode cX12_told 15 = .ok (.tableswitch 57 0 3 #[29, 36, 43, 50], 29) := by decide +kernel
theorem dX12_told_44 : decode cX12_told 44 = .ok (.aload_n 0, 1) := by decide +kernel
theorem dX12_told_45 : decode cX12_told 45 = .ok (.getfield 16, 3) := by decide +kernel
theorem dX12_told_48 : decode cX12_told 48 = .ok (.iload_n 1, 1) := by decide +kernel
theorem dX12_told_49 : decode cX12_told 49 = .ok (.iaload, 1) := by decide +kernel
theorem dX12_told_50 : decode cX12_told 50 = .ok (.ireturn, 1) := by decide +kernel
theorem dX12_told_51 : decode cX12_told 51 = .ok (.aload_n 0, 1) := by decide +kernel
theorem dX12_told_52 : decode cX12_told 52 = .ok (.getfield 20, 3) := by decide +kernel
theorem dX12_told_55 : decode cX12_told 55 = .ok (.iload_n 1, 1) := by decide +kernel
theorem dX12_told_56 : decode cX12_told 56 = .ok (.iaload, 1) := by decide +kernel
theorem dX12_told_57 : decode cX12_told 57 = .ok (.ireturn, 1) := by decide +kernel
theorem dX12_told_58 : decode cX12_told 58 = .ok (.aload_n 0, 1) := by decide +kernel
theorem dX12_told_59 : decode cX12_told 59 = .ok (.getfield 137, 3) := by decide +kernel
theorem dX12_told_62 : decode cX12_told 62 = .ok (.iload_n 1, 1) := by decide +kernel
theorem dX12_told_63 : decode cX12_told 63 = .ok (.iaload, 1) := by decide +kernel
theorem dX12_told_64 : decode cX12_told 64 = .ok (.ireturn, 1) := by decide +kernel
theorem dX12_told_65 : decode cX12_told 65 = .ok (.aload_n 0, 1) := by decide +kernel
theorem dX12_told_66 : decode cX12_told 66 = .ok (.getfield 146, 3) := by decide +kernel
theorem dX12_told_69 : decode cX12_told 69 = .ok (.iload_n 1, 1) := by decide +kernel
theorem dX12_told_70 : decode cX12_told 70 = .ok (.iaload, 1) := by decide +kernel
theorem dX12_told_71 : decode cX12_told 71 = .ok (.ireturn, 1) := by decide +kernel
theorem dX12_told_72 : decode cX12_told 72 = .ok (.iconst (-1), 1) := by decide +kernel
theorem dX12_told_73 : decode cX12_told 73 = .ok (.ireturn, 1) := by decide +kernel
theorem dX12_about_0 : decode cX12_about 0 = .ok (.aload_n 0, 1) := by decide +kernel
theorem dX12_about_1 : decode cX12_about 1 = .ok (.iload_n 1, 1) := by decide +kernel
theorem dX12_about_2 : decode cX12_about 2 = .ok (.iload_n 2, 1) := by decide +kernel
theorem dX12_about_3 : decode cX12_about 3 = .ok (.invokevirtual 439, 3) := by decide +kernel
theorem dX12_about_6 : decode cX12_about 6 = .ok (.ifCond .ne 5, 3) := by decide +kernel
theorem dX12_about_9 : decode cX12_about 9 = .ok (.iconst (-1), 1) := by decide +kernel
theorem dX12_about_10 : decode cX12_about 10 = .ok (.ireturn, 1) := by decide +kernel
theorem dX12_about_11 : decode cX12_about 11 = .ok (.bipush 12, 2) := by decide +kernel
theorem dX12_about_13 : decode cX12_about 13 = .ok (.iload_n 1, 1) := by decide +kernel
theorem dX12_about_14 : decode cX12_about 14 = .ok (.imul, 1) := by decide +kernel
theorem dX12_about_15 : decode cX12_about 15 = .ok (.iload_n 2, 1) := by decide +kernel
theorem dX12_about_16 : decode cX12_about 16 = .ok (.iadd, 1) := by decide +kernel
theorem dX12_about_17 : decode cX12_about 17 = .ok (.istore 4, 2) := by decide +kernel
theorem dX12_about_19 : decode cX12_about 19 = .ok (.iload_n 3, 1) := by decide +kernel
theorem dX12_about_20 : decode cX12_about 20 = .ok (.tableswitch 76 0 4 #[36, 44, 52, 60, 68], 36) := by decide +kernel
theorem dX12_about_56 : decode cX12_about 56 = .ok (.aload_n 0, 1) := by decide +kernel
theorem dX12_about_57 : decode cX12_about 57 = .ok (.getfield 29, 3) := by decide +kernel
theorem dX12_about_60 : decode cX12_about 60 = .ok (.iload 4, 2) := by decide +kernel
theorem dX12_about_62 : decode cX12_about 62 = .ok (.iaload, 1) := by decide +kernel
theorem dX12_about_63 : decode cX12_about 63 = .ok (.ireturn, 1) := by decide +kernel
theorem dX12_about_64 : decode cX12_about 64 = .ok (.aload_n 0, 1) := by decide +kernel
theorem dX12_about_65 : decode cX12_about 65 = .ok (.getfield 32, 3) := by decide +kernel
theorem dX12_about_68 : decode cX12_about 68 = .ok (.iload 4, 2) := by decide +kernel
theorem dX12_about_70 : decode cX12_about 70 = .ok (.iaload, 1) := by decide +kernel
theorem dX12_about_71 : decode cX12_about 71 = .ok (.ireturn, 1) := by decide +kernel
theorem dX12_about_72 : decode cX12_about 72 = .ok (.aload_n 0, 1) := by decide +kernel
theorem dX12_about_73 : decode cX12_about 73 = .ok (.getfield 35, 3) := by decide +kernel
theorem dX12_about_76 : decode cX12_about 76 = .ok (.iload 4, 2) := by decide +kernel
theorem dX12_about_78 : decode cX12_about 78 = .ok (.iaload, 1) := by decide +kernel
theorem dX12_about_79 : decode cX12_about 79 = .ok (.ireturn, 1) := by decide +kernel
theorem dX12_about_80 : decode cX12_about 80 = .ok (.aload_n 0, 1) := by decide +kernel
theorem dX12_about_81 : decode cX12_about 81 = .ok (.getfield 38, 3) := by decide +kernel
theorem dX12_about_84 : decode cX12_about 84 = .ok (.iload 4, 2) := by decide +kernel
theorem dX12_about_86 : decode cX12_about 86 = .ok (.iaload, 1) := by decide +kernel
theorem dX12_about_87 : decode cX12_about 87 = .ok (.ireturn, 1) := by decide +kernel
theorem dX12_about_88 : decode cX12_about 88 = .ok (.aload_n 0, 1) := by decide +kernel
theorem dX12_about_89 : decode cX12_about 89 = .ok (.getfield 41, 3) := by decide +kernel
theorem dX12_about_92 : decode cX12_about 92 = .ok (.iload 4, 2) := by decide +kernel
theorem dX12_about_94 : decode cX12_about 94 = .ok (.iaload, 1) := by decide +kernel
theorem dX12_about_95 : decode cX12_about 95 = .ok (.ireturn, 1) := by decide +kernel
theorem dX12_about_96 : decode cX12_about 96 = .ok (.iconst (-1), 1) := by decide +kernel
theorem dX12_about_97 : decode cX12_about 97 = .ok (.ireturn, 1) := by decide +kernel
theorem dX12_isItem_0 : decode cX12_isItem 0 = .ok (.iload_n 2, 1) := by decide +kernel
theorem dX12_isItem_1 : decode cX12_isItem 1 = .ok (.bipush 100, 2) := by decide +kernel
theorem dX12_isItem_3 : decode cX12_isItem 3 = .ok (.if_icmp .ge 10, 3) := by decide +kernel
theorem dX12_isItem_6 : decode cX12_isItem 6 = .ok (.aload_n 0, 1) := by decide +kernel
theorem dX12_isItem_7 : decode cX12_isItem 7 = .ok (.iload_n 1, 1) := by decide +kernel
theorem dX12_isItem_8 : decode cX12_isItem 8 = .ok (.iload_n 2, 1) := by decide +kernel
theorem dX12_isItem_9 : decode cX12_isItem 9 = .ok (.invokevirtual 439, 3) := by decide +kernel
theorem dX12_isItem_12 : decode cX12_isItem 12 = .ok (.ireturn, 1) := by decide +kernel
theorem dX12_isItem_13 : decode cX12_isItem 13 = .ok (.iload_n 2, 1) := by decide +kernel
theorem dX12_isItem_14 : decode cX12_isItem 14 = .ok (.bipush 100, 2) := by decide +kernel
theorem dX12_isItem_16 : decode cX12_isItem 16 = .ok (.isub, 1) := by decide +kernel
theorem dX12_isItem_17 : decode cX12_isItem 17 = .ok (.istore_n 3, 1) := by decide +kernel
theorem dX12_isItem_18 : decode cX12_isItem 18 = .ok (.aload_n 0, 1) := by decide +kernel
theorem dX12_isItem_19 : decode cX12_isItem 19 = .ok (.iload_n 1, 1) := by decide +kernel
theorem dX12_isItem_20 : decode cX12_isItem 20 = .ok (.iload_n 3, 1) := by decide +kernel
theorem dX12_isItem_21 : decode cX12_isItem 21 = .ok (.iconst 4, 1) := by decide +kernel
theorem dX12_isItem_22 : decode cX12_isItem 22 = .ok (.idiv, 1) := by decide +kernel
theorem dX12_isItem_23 : decode cX12_isItem 23 = .ok (.invokevirtual 439, 3) := by decide +kernel
theorem dX12_isItem_26 : decode cX12_isItem 26 = .ok (.ifCond .eq 26, 3) := by decide +kernel
theorem dX12_isItem_29 : decode cX12_isItem 29 = .ok (.iload_n 3, 1) := by decide +kernel
theorem dX12_isItem_30 : decode cX12_isItem 30 = .ok (.iconst 4, 1) := by decide +kernel
theorem dX12_isItem_31 : decode cX12_isItem 31 = .ok (.irem, 1) := by decide +kernel
theorem dX12_isItem_32 : decode cX12_isItem 32 = .ok (.aload_n 0, 1) := by decide +kernel
theorem dX12_isItem_33 : decode cX12_isItem 33 = .ok (.getfield 38, 3) := by decide +kernel
theorem dX12_isItem_36 : decode cX12_isItem 36 = .ok (.bipush 12, 2) := by decide +kernel
theorem dX12_isItem_38 : decode cX12_isItem 38 = .ok (.iload_n 1, 1) := by decide +kernel
theorem dX12_isItem_39 : decode cX12_isItem 39 = .ok (.imul, 1) := by decide +kernel
theorem dX12_isItem_40 : decode cX12_isItem 40 = .ok (.iload_n 3, 1) := by decide +kernel
theorem dX12_isItem_41 : decode cX12_isItem 41 = .ok (.iconst 4, 1) := by decide +kernel
theorem dX12_isItem_42 : decode cX12_isItem 42 = .ok (.idiv, 1) := by decide +kernel
theorem dX12_isItem_43 : decode cX12_isItem 43 = .ok (.iadd, 1) := by decide +kernel
theorem dX12_isItem_44 : decode cX12_isItem 44 = .ok (.iaload, 1) := by decide +kernel
theorem dX12_isItem_45 : decode cX12_isItem 45 = .ok (.if_icmp .ge 7, 3) := by decide +kernel
theorem dX12_isItem_48 : decode cX12_isItem 48 = .ok (.iconst 1, 1) := by decide +kernel
theorem dX12_isItem_49 : decode cX12_isItem 49 = .ok (.goto 4, 3) := by decide +kernel
theorem dX12_isItem_52 : decode cX12_isItem 52 = .ok (.iconst 0, 1) := by decide +kernel
