theorem dX3_init_0 : decode cX3_init 0 = .ok (.aload_n 0, 1) := by decide +kernel
theorem dX3_init_1 : decode cX3_init 1 = .ok (.invokespecial 1, 3) := by decide +kernel
theorem dX3_init_4 : decode cX3_init 4 = .ok (.aload_n 0, 1) := by decide +kernel
theorem dX3_init_5 : decode cX3_init 5 = .ok (.iconst 5, 1) := by decide +kernel
theorem dX3_init_6 : decode cX3_init 6 = .ok (.newarray .int, 2) := by decide +kernel
theorem dX3_init_8 : decode cX3_init 8 = .ok (.putfield 7, 3) := by decide +kernel
theorem dX3_init_11 : decode cX3_init 11 = .ok (.aload_n 0, 1) := by decide +kernel
theorem dX3_init_12 : decode cX3_init 12 = .ok (.iconst 5, 1) := by decide +kernel
theorem dX3_init_13 : decode cX3_init 13 = .ok (.newarray .int, 2) := by decide +kernel
theorem dX3_init_15 : decode cX3_init 15 = .ok (.putfield 13, 3) := by decide +kernel
theorem dX3_init_18 : decode cX3_init 18 = .ok (.aload_n 0, 1) := by decide +kernel
theorem dX3_init_19 : decode cX3_init 19 = .ok (.iconst 5, 1) := by decide +kernel
theorem dX3_init_20 : decode cX3_init 20 = .ok (.newarray .int, 2) := by decide +kernel
theorem dX3_init_22 : decode cX3_init 22 = .ok (.putfield 16, 3) := by decide +kernel
theorem dX3_init_25 : decode cX3_init 25 = .ok (.aload_n 0, 1) := by decide +kernel
theorem dX3_init_26 : decode cX3_init 26 = .ok (.iconst 5, 1) := by decide +kernel
theorem dX3_init_27 : decode cX3_init 27 = .ok (.newarray .int, 2) := by decide +kernel
theorem dX3_init_29 : decode cX3_init 29 = .ok (.putfield 19, 3) := by decide +kernel
theorem dX3_init_32 : decode cX3_init 32 = .ok (.aload_n 0, 1) := by decide +kernel
theorem dX3_init_33 : decode cX3_init 33 = .ok (.iconst 5, 1) := by decide +kernel
theorem dX3_init_34 : decode cX3_init 34 = .ok (.newarray .int, 2) := by decide +kernel
theorem dX3_init_36 : decode cX3_init 36 = .ok (.putfield 22, 3) := by decide +kernel
theorem dX3_init_39 : decode cX3_init 39 = .ok (.aload_n 0, 1) := by decide +kernel
theorem dX3_init_40 : decode cX3_init 40 = .ok (.iconst 5, 1) := by decide +kernel
theorem dX3_init_41 : decode cX3_init 41 = .ok (.newarray .boolean, 2) := by decide +kernel
theorem dX3_init_43 : decode cX3_init 43 = .ok (.putfield 25, 3) := by decide +kernel
theorem dX3_init_46 : decode cX3_init 46 = .ok (.aload_n 0, 1) := by decide +kernel
theorem dX3_init_47 : decode cX3_init 47 = .ok (.iconst 2, 1) := by decide +kernel
theorem dX3_init_48 : decode cX3_init 48 = .ok (.newarray .boolean, 2) := by decide +kernel
theorem dX3_init_50 : decode cX3_init 50 = .ok (.putfield 29, 3) := by decide +kernel
theorem dX3_init_53 : decode cX3_init 53 = .ok (.aload_n 0, 1) := by decide +kernel
theorem dX3_init_54 : decode cX3_init 54 = .ok (.iconst 5, 1) := by decide +kernel
theorem dX3_init_55 : decode cX3_init 55 = .ok (.newarray .int, 2) := by decide +kernel
theorem dX3_init_57 : decode cX3_init 57 = .ok (.putfield 32, 3) := by decide +kernel
theorem dX3_init_60 : decode cX3_init 60 = .ok (.aload_n 0, 1) := by decide +kernel
theorem dX3_init_61 : decode cX3_init 61 = .ok (.iconst 5, 1) := by decide +kernel
theorem dX3_init_62 : decode cX3_init 62 = .ok (.newarray .int, 2) := by decide +kernel
theorem dX3_init_64 : decode cX3_init 64 = .ok (.putfield 35, 3) := by decide +kernel
theorem dX3_init_67 : decode cX3_init 67 = .ok (.aload_n 0, 1) := by decide +kernel
theorem dX3_init_68 : decode cX3_init 68 = .ok (.iconst 5, 1) := by decide +kernel
theorem dX3_init_69 : decode cX3_init 69 = .ok (.newarray .int, 2) := by decide +kernel
theorem dX3_init_71 : decode cX3_init 71 = .ok (.putfield 38, 3) := by decide +kernel
theorem dX3_init_74 : decode cX3_init 74 = .ok (.aload_n 0, 1) := by decide +kernel
theorem dX3_init_75 : decode cX3_init 75 = .ok (.iconst 5, 1) := by decide +kernel
theorem dX3_init_76 : decode cX3_init 76 = .ok (.newarray .boolean, 2) := by decide +kernel
theorem dX3_init_78 : decode cX3_init 78 = .ok (.putfield 41, 3) := by decide +kernel
theorem dX3_init_81 : decode cX3_init 81 = .ok (.aload_n 0, 1) := by decide +kernel
theorem dX3_init_82 : decode cX3_init 82 = .ok (.iconst 5, 1) := by decide +kernel
theorem dX3_init_83 : decode cX3_init 83 = .ok (.newarray .int, 2) := by decide +kernel
theorem dX3_init_85 : decode cX3_init 85 = .ok (.putfield 44, 3) := by decide +kernel
theorem dX3_init_88 : decode cX3_init 88 = .ok (.aload_n 0, 1) := by decide +kernel
theorem dX3_init_89 : decode cX3_init 89 = .ok (.iconst 5, 1) := by decide +kernel
theorem dX3_init_90 : decode cX3_init 90 = .ok (.newarray .int, 2) := by decide +kernel
theorem dX3_init_92 : decode cX3_init 92 = .ok (.putfield 47, 3) := by decide +kernel
theorem dX3_init_95 : decode cX3_init 95 = .ok (.aload_n 0, 1) := by decide +kernel
theorem dX3_init_96 : decode cX3_init 96 = .ok (.iconst 5, 1) := by decide +kernel
theorem dX3_init_97 : decode cX3_init 97 = .ok (.newarray .int, 2) := by decide +kernel
theorem dX3_init_99 : decode cX3_init 99 = .ok (.putfield 50, 3) := by decide +kernel
theorem dX3_init_102 : decode cX3_init 102 = .ok (.aload_n 0, 1) := by decide +kernel
theorem dX3_init_103 : decode cX3_init 103 = .ok (.bipush 10, 2) := by decide +kernel
theorem dX3_init_105 : decode cX3_init 105 = .ok (.newarray .int, 2) := by decide +kernel
theorem dX3_init_107 : decode cX3_init 107 = .ok (.putfield 53, 3) := by decide +kernel
theorem dX3_init_110 : decode cX3_init 110 = .ok (.aload_n 0, 1) := by decide +kernel
theorem dX3_init_111 : decode cX3_init 111 = .ok (.bipush 10, 2) := by decide +kernel
theorem dX3_init_113 : decode cX3_init 113 = .ok (.newarray .int, 2) := by decide +kernel
theorem dX3_init_115 : decode cX3_init 115 = .ok (.putfield 56, 3) := by decide +kernel
theorem dX3_init_118 : decode cX3_init 118 = .ok (.aload_n 0, 1) := by decide +kernel
theorem dX3_init_119 : decode cX3_init 119 = .ok (.bipush 10, 2) := by decide +kernel
theorem dX3_init_121 : decode cX3_init 121 = .ok (.newarray .int, 2) := by decide +kernel
theorem dX3_init_123 : decode cX3_init 123 = .ok (.putfield 59, 3) := by decide +kernel
theorem dX3_init_126 : decode cX3_init 126 = .ok (.aload_n 0, 1) := by decide +kernel
theorem dX3_init_127 : decode cX3_init 127 = .ok (.bipush 10, 2) := by decide +kernel
theorem dX3_init_129 : decode cX3_init 129 = .ok (.newarray .int, 2) := by decide +kernel
theorem dX3_init_131 : decode cX3_init 131 = .ok (.putfield 62, 3) := by decide +kernel
theorem dX3_init_134 : decode cX3_init 134 = .ok (.aload_n 0, 1) := by decide +kernel
theorem dX3_init_135 : decode cX3_init 135 = .ok (.bipush 10, 2) := by decide +kernel
theorem dX3_init_137 : decode cX3_init 137 = .ok (.newarray .int, 2) := by decide +kernel
theorem dX3_init_139 : decode cX3_init 139 = .ok (.putfield 65, 3) := by decide +kernel
theorem dX3_init_142 : decode cX3_init 142 = .ok (.aload_n 0, 1) := by decide +kernel
theorem dX3_init_143 : decode cX3_init 143 = .ok (.bipush 10, 2) := by decide +kernel
theorem dX3_init_145 : decode cX3_init 145 = .ok (.newarray .int, 2) := by decide +kernel
theorem dX3_init_147 : decode cX3_init 147 = .ok (.putfield 68, 3) := by decide +kernel
theorem dX3_init_150 : decode cX3_init 150 = .ok (.aload_n 0, 1) := by decide +kernel
theorem dX3_init_151 : decode cX3_init 151 = .ok (.bipush 10, 2) := by decide +kernel
theorem dX3_init_153 : decode cX3_init 153 = .ok (.newarray .int, 2) := by decide +kernel
theorem dX3_init_155 : decode cX3_init 155 = .ok (.putfield 71, 3) := by decide +kernel
theorem dX3_init_158 : decode cX3_init 158 = .ok (.aload_n 0, 1) := by decide +kernel
theorem dX3_init_159 : decode cX3_init 159 = .ok (.bipush 10, 2) := by decide +kernel
theorem dX3_init_161 : decode cX3_init 161 = .ok (.newarray .int, 2) := by decide +kernel
theorem dX3_init_163 : decode cX3_init 163 = .ok (.putfield 74, 3) := by decide +kernel
theorem dX3_init_166 : decode cX3_init 166 = .ok (.aload_n 0, 1) := by decide +kernel
theorem dX3_init_167 : decode cX3_init 167 = .ok (.bipush 80, 2) := by decide +kernel
theorem dX3_init_169 : decode cX3_init 169 = .ok (.newarray .int, 2) := by decide +kernel
theorem dX3_init_171 : decode cX3_init 171 = .ok (.putfield 77, 3) := by decide +kernel
theorem dX3_init_174 : decode cX3_init 174 = .ok (.aload_n 0, 1) := by decide +kernel
theorem dX3_init_175 : decode cX3_init 175 = .ok (.bipush 100, 2) := by decide +kernel
theorem dX3_init_177 : decode cX3_init 177 = .ok (.newarray .int, 2) := by decide +kernel
theorem dX3_init_179 : decode cX3_init 179 = .ok (.putfield 80, 3) := by decide +kernel
theorem dX3_init_182 : decode cX3_init 182 = .ok (.aload_n 0, 1) := by decide +kernel
theorem dX3_init_183 : decode cX3_init 183 = .ok (.bipush 100, 2) := by decide +kernel
theorem dX3_init_185 : decode cX3_init 185 = .ok (.newarray .boolean, 2) := by decide +kernel
theorem dX3_init_187 : decode cX3_init 187 = .ok (.putfield 83, 3) := by decide +kernel
theorem dX3_init_190 : decode cX3_init 190 = .ok (.aload_n 0, 1) := by decide +kernel
theorem dX3_init_191 : decode cX3_init 191 = .ok (.bipush 100, 2) := by decide +kernel
theorem dX3_init_193 : decode cX3_init 193 = .ok (.newarray .int, 2) := by decide +kernel
theorem dX3_init_195 : decode cX3_init 195 = .ok (.putfield 86, 3) := by decide +kernel
theorem dX3_init_198 : decode cX3_init 198 = .ok (.aload_n 0, 1) := by decide +kernel
theorem dX3_init_199 : decode cX3_init 199 = .ok (.bipush 100, 2) := by decide +kernel
theorem dX3_init_201 : decode cX3_init 201 = .ok (.newarray .int, 2) := by decide +kernel
theorem dX3_init_203 : decode cX3_init 203 = .ok (.putfield 89, 3) := by decide +kernel
theorem dX3_init_206 : decode cX3_init 206 = .ok (.aload_n 0, 1) := by decide +kernel
theorem dX3_init_207 : decode cX3_init 207 = .ok (.bipush 100, 2) := by decide +kernel
theorem dX3_init_209 : decode cX3_init 209 = .ok (.newarray .int, 2) := by decide +kernel
theorem dX3_init_211 : decode cX3_init 211 = .ok (.putfield 92, 3) := by decide +kernel
theorem dX3_init_214 : decode cX3_init 214 = .ok (.aload_n 0, 1) := by decide +kernel
theorem dX3_init_215 : decode cX3_init 215 = .ok (.iconst 5, 1) := by decide +kernel
theorem dX3_init_216 : decode cX3_init 216 = .ok (.newarray .int, 2) := by decide +kernel
theorem dX3_init_218 : decode cX3_init 218 = .ok (.putfield 95, 3) := by decide +kernel
theorem dX3_init_221 : decode cX3_init 221 = .ok (.aload_n 0, 1) := by decide +kernel
theorem dX3_init_222 : decode cX3_init 222 = .ok (.iconst 5, 1) := by decide +kernel
theorem dX3_init_223 : decode cX3_init 223 = .ok (.newarray .int, 2) := by decide +kernel
theorem dX3_init_225 : decode cX3_init 225 = .ok (.putfield 98, 3) := by decide +kernel
theorem dX3_init_228 : decode cX3_init 228 = .ok (.return_, 1) := by decide +kernel
theorem dX3_thrown_0 : decode cX3_thrown 0 = .ok (.aload_n 0, 1) := by decide +kernel
theorem dX3_thrown_1 : decode cX3_thrown 1 = .ok (.getfield 101, 3) := by decide +kernel
theorem dX3_thrown_4 : decode cX3_thrown 4 = .ok (.ireturn, 1) := by decide +kernel
theorem dX3_mix_0 : decode cX3_mix 0 = .ok (.iload_n 1, 1) := by decide +kernel
theorem dX3_mix_1 : decode cX3_mix 1 = .ok (.ldc 105, 2) := by decide +kernel
theorem dX3_mix_3 : decode cX3_mix 3 = .ok (.imul, 1) := by decide +kernel
theorem dX3_mix_4 : decode cX3_mix 4 = .ok (.istore_n 3, 1) := by decide +kernel
theorem dX3_mix_5 : decode cX3_mix 5 = .ok (.iload_n 3, 1) := by decide +kernel
theorem dX3_mix_6 : decode cX3_mix 6 = .ok (.iload_n 3, 1) := by decide +kernel
theorem dX3_mix_7 : decode cX3_mix 7 = .ok (.bipush 15, 2) := by decide +kernel
theorem dX3_mix_9 : decode cX3_mix 9 = .ok (.iushr, 1) := by decide +kernel
theorem dX3_mix_10 : decode cX3_mix 10 = .ok (.ixor, 1) := by decide +kernel
theorem dX3_mix_11 : decode cX3_mix 11 = .ok (.istore_n 3, 1) := by decide +kernel
theorem dX3_mix_12 : decode cX3_mix 12 = .ok (.iload_n 3, 1) := by decide +kernel
theorem dX3_mix_13 : decode cX3_mix 13 = .ok (.iload_n 2, 1) := by decide +kernel
theorem dX3_mix_14 : decode cX3_mix 14 = .ok (.ixor, 1) := by decide +kernel
theorem dX3_mix_15 : decode cX3_mix 15 = .ok (.ldc 106, 2) := by decide +kernel
theorem dX3_mix_17 : decode cX3_mix 17 = .ok (.imul, 1) := by decide +kernel
theorem dX3_mix_18 : decode cX3_mix 18 = .ok (.istore_n 3, 1) := by decide +kernel
theorem dX3_mix_19 : decode cX3_mix 19 = .ok (.iload_n 3, 1) := by decide +kernel
theorem dX3_mix_20 : decode cX3_mix 20 = .ok (.iload_n 3, 1) := by decide +kernel
theorem dX3_mix_21 : decode cX3_mix 21 = .ok (.bipush 13, 2) := by decide +kernel
theorem dX3_mix_23 : decode cX3_mix 23 = .ok (.iushr, 1) := by decide +kernel
theorem dX3_mix_24 : decode cX3_mix 24 = .ok (.ixor, 1) := by decide +kernel
theorem dX3_mix_25 : decode cX3_mix 25 = .ok (.ireturn, 1) := by decide +kernel
theorem dX3_isAway_0 : decode cX3_isAway 0 = .ok (.iload_n 1, 1) := by decide +kernel
theorem dX3_isAway_1 : decode cX3_isAway 1 = .ok (.ifCond .lt 17, 3) := by decide +kernel
theorem dX3_isAway_4 : decode cX3_isAway 4 = .ok (.iload_n 1, 1) := by decide +kernel
theorem dX3_isAway_5 : decode cX3_isAway 5 = .ok (.iconst 4, 1) := by decide +kernel
theorem dX3_isAway_6 : decode cX3_isAway 6 = .ok (.if_icmp .gt 12, 3) := by decide +kernel
theorem dX3_isAway_9 : decode cX3_isAway 9 = .ok (.aload_n 0, 1) := by decide +kernel
theorem dX3_isAway_10 : decode cX3_isAway 10 = .ok (.getfield 7, 3) := by decide +kernel
theorem dX3_isAway_13 : decode cX3_isAway 13 = .ok (.iload_n 1, 1) := by decide +kernel
theorem dX3_isAway_14 : decode cX3_isAway 14 = .ok (.iaload, 1) := by decide +kernel
theorem dX3_isAway_15 : decode cX3_isAway 15 = .ok (.ifCond .ne 7, 3) := by decide +kernel
theorem dX3_isAway_18 : decode cX3_isAway 18 = .ok (.iconst 1, 1) := by decide +kernel
theorem dX3_isAway_19 : decode cX3_isAway 19 = .ok (.goto 4, 3) := by decide +kernel
theorem dX3_isAway_22 : decode cX3_isAway 22 = .ok (.iconst 0, 1) := by decide +kernel
theorem dX3_isAway_23 : decode cX3_isAway 23 = .ok (.ireturn, 1) := by decide +kernel
theorem dX3_extra_0 : decode cX3_extra 0 = .ok (.bipush 40, 2) := by decide +kernel
theorem dX3_extra_2 : decode cX3_extra 2 = .ok (.iload_n 1, 1) := by decide +kernel
theorem dX3_extra_3 : decode cX3_extra 3 = .ok (.imul, 1) := by decide +kernel
theorem dX3_extra_4 : decode cX3_extra 4 = .ok (.ireturn, 1) := by decide +kernel
set_option maxRecDepth 20000 in
theorem ggX3_errorOf_X3_extra : GoodIn wsX3_errorOf wsX3_extra := goodIn_r _ [8] (by decide +kernel) (by decide +kernel)
set_option maxRecDepth 20000 in
theorem gX3_errorOf_X3_extra : GoodIn wsX3_errorOf (wsV RX3 110 RX3 yX3_extra wsX3_extra) := goodIn_app (goodIn_of _ (by decide +kernel)) ggX3_errorOf_X3_extra
theorem dX3_errorOf_0 : decode cX3_errorOf 0 = .ok (.aload_n 0, 1) := by decide +kernel
theorem dX3_errorOf_1 : decode cX3_errorOf 1 = .ok (.getfield 16, 3) := by decide +kernel
theorem dX3_errorOf_4 : decode cX3_errorOf 4 = .ok (.iload_n 1, 1) := by decide +kernel
theorem dX3_errorOf_5 : decode cX3_errorOf 5 = .ok (.iaload, 1) := by decide +kernel
theorem dX3_errorOf_6 : decode cX3_errorOf 6 = .ok (.aload_n 0, 1) := by decide +kernel
theorem dX3_errorOf_7 : decode cX3_errorOf 7 = .ok (.aload_n 0, 1) := by decide +kernel
theorem dX3_errorOf_8 : decode cX3_errorOf 8 = .ok (.getfield 107, 3) := by decide +kernel
theorem dX3_errorOf_11 : decode cX3_errorOf 11 = .ok (.invokevirtual 110, 3) := by decide +kernel
theorem dX3_errorOf_14 : decode cX3_errorOf 14 = .ok (.iadd, 1) := by decide +kernel
theorem dX3_errorOf_15 : decode cX3_errorOf 15 = .ok (.aload_n 0, 1) := by decide +kernel
theorem dX3_errorOf_16 : decode cX3_errorOf 16 = .ok (.getfield 22, 3) := by decide +kernel
theorem dX3_errorOf_19 : decode cX3_errorOf 19 = .ok (.iload_n 1, 1) := by decide +kernel
theorem dX3_errorOf_20 : decode cX3_errorOf 20 = .ok (.iaload, 1) := by decide +kernel
theorem dX3_errorOf_21 : decode cX3_errorOf 21 = .ok (.iadd, 1) := by decide +kernel
theorem dX3_errorOf_22 : decode cX3_errorOf 22 = .ok (.sipush 1000, 3) := by decide +kernel
theorem dX3_errorOf_25 : decode cX3_errorOf 25 = .ok (.isub, 1) := by decide +kernel
theorem dX3_errorOf_26 : decode cX3_errorOf 26 = .ok (.ireturn, 1) := by decide +kernel
set_option maxRecDepth 20000 in
theorem ggX3_level_X3_extra : GoodIn wsX3_level wsX3_extra := goodIn_r _ [8] (by decide +kernel) (by decide +kernel)
set_option maxRecDepth 20000 in
theorem gX3_level_X3_extra : GoodIn wsX3_level (wsV RX3 110 RX3 yX3_extra wsX3_extra) := goodIn_app (goodIn_of _ (by decide +kernel)) ggX3_level_X3_extra
theorem dX3_level_0 : decode cX3_level 0 = .ok (.aload_n 0, 1) := by decide +kernel
theorem dX3_level_1 : decode cX3_level 1 = .ok (.getfield 22, 3) := by decide +kernel
theorem dX3_level_4 : decode cX3_level 4 = .ok (.iload_n 1, 1) := by decide +kernel
theorem dX3_level_5 : decode cX3_level 5 = .ok (.sipush 1000, 3) := by decide +kernel
theorem dX3_level_8 : decode cX3_level 8 = .ok (.aload_n 0, 1) := by decide +kernel
theorem dX3_level_9 : decode cX3_level 9 = .ok (.getfield 16, 3) := by decide +kernel
theorem dX3_level_12 : decode cX3_level 12 = .ok (.iload_n 1, 1) := by decide +kernel
theorem dX3_level_13 : decode cX3_level 13 = .ok (.iaload, 1) := by decide +kernel
theorem dX3_level_14 : decode cX3_level 14 = .ok (.isub, 1) := by decide +kernel
theorem dX3_level_15 : decode cX3_level 15 = .ok (.aload_n 0, 1) := by decide +kernel
theorem dX3_level_16 : decode cX3_level 16 = .ok (.aload_n 0, 1) := by decide +kernel
theorem dX3_level_17 : decode cX3_level 17 = .ok (.getfield 107, 3) := by decide +kernel
theorem dX3_level_20 : decode cX3_level 20 = .ok (.invokevirtual 110, 3) := by decide +kernel
theorem dX3_level_23 : decode cX3_level 23 = .ok (.isub, 1) := by decide +kernel
theorem dX3_level_24 : decode cX3_level 24 = .ok (.iastore, 1) := by decide +kernel
theorem dX3_level_25 : decode cX3_level 25 = .ok (.return_, 1) := by decide +kernel
theorem dX3_empty_0 : decode cX3_empty 0 = .ok (.aload_n 0, 1) := by decide +kernel
theorem dX3_empty_1 : decode cX3_empty 1 = .ok (.getfield 53, 3) := by decide +kernel
theorem dX3_empty_4 : decode cX3_empty 4 = .ok (.iload_n 1, 1) := by decide +kernel
theorem dX3_empty_5 : decode cX3_empty 5 = .ok (.iconst 0, 1) := by decide +kernel
theorem dX3_empty_6 : decode cX3_empty 6 = .ok (.iastore, 1) := by decide +kernel
theorem dX3_empty_7 : decode cX3_empty 7 = .ok (.aload_n 0, 1) := by decide +kernel
theorem dX3_empty_8 : decode cX3_empty 8 = .ok (.getfield 56, 3) := by decide +kernel
theorem dX3_empty_11 : decode cX3_empty 11 = .ok (.iload_n 1, 1) := by decide +kernel
theorem dX3_empty_12 : decode cX3_empty 12 = .ok (.iconst 0, 1) := by decide +kernel
theorem dX3_empty_13 : decode cX3_empty 13 = .ok (.iastore, 1) := by decide +kernel
theorem dX3_empty_14 : decode cX3_empty 14 = .ok (.aload_n 0, 1) := by decide +kernel
theorem dX3_empty_15 : decode cX3_empty 15 = .ok (.getfield 59, 3) := by decide +kernel
theorem dX3_empty_18 : decode cX3_empty 18 = .ok (.iload_n 1, 1) := by decide +kernel
theorem dX3_empty_19 : decode cX3_empty 19 = .ok (.iconst 0, 1) := by decide +kernel
theorem dX3_empty_20 : decode cX3_empty 20 = .ok (.iastore, 1) := by decide +kernel
theorem dX3_empty_21 : decode cX3_empty 21 = .ok (.aload_n 0, 1) := by decide +kernel
theorem dX3_empty_22 : decode cX3_empty 22 = .ok (.getfield 62, 3) := by decide +kernel
theorem dX3_empty_25 : decode cX3_empty 25 = .ok (.iload_n 1, 1) := by decide +kernel
theorem dX3_empty_26 : decode cX3_empty 26 = .ok (.iconst 1, 1) := by decide +kernel
theorem dX3_empty_27 : decode cX3_empty 27 = .ok (.iastore, 1) := by decide +kernel
theorem dX3_empty_28 : decode cX3_empty 28 = .ok (.aload_n 0, 1) := by decide +kernel
theorem dX3_empty_29 : decode cX3_empty 29 = .ok (.getfield 65, 3) := by decide +kernel
theorem dX3_empty_32 : decode cX3_empty 32 = .ok (.iload_n 1, 1) := by decide +kernel
theorem dX3_empty_33 : decode cX3_empty 33 = .ok (.iconst 0, 1) := by decide +kernel
theorem dX3_empty_34 : decode cX3_empty 34 = .ok (.iastore, 1) := by decide +kernel
theorem dX3_empty_35 : decode cX3_empty 35 = .ok (.aload_n 0, 1) := by decide +kernel
theorem dX3_empty_36 : decode cX3_empty 36 = .ok (.getfield 68, 3) := by decide +kernel
theorem dX3_empty_39 : decode cX3_empty 39 = .ok (.iload_n 1, 1) := by decide +kernel
theorem dX3_empty_40 : decode cX3_empty 40 = .ok (.iconst 0, 1) := by decide +kernel
theorem dX3_empty_41 : decode cX3_empty 41 = .ok (.iastore, 1) := by decide +kernel
theorem dX3_empty_42 : decode cX3_empty 42 = .ok (.aload_n 0, 1) := by decide +kernel
theorem dX3_empty_43 : decode cX3_empty 43 = .ok (.getfield 74, 3) := by decide +kernel
theorem dX3_empty_46 : decode cX3_empty 46 = .ok (.iload_n 1, 1) := by decide +kernel
theorem dX3_empty_47 : decode cX3_empty 47 = .ok (.iconst 0, 1) := by decide +kernel
theorem dX3_empty_48 : decode cX3_empty 48 = .ok (.iastore, 1) := by decide +kernel
theorem dX3_empty_49 : decode cX3_empty 49 = .ok (.return_, 1) := by decide +kernel
set_option maxRecDepth 20000 in
theorem ggX3_plug_X3_empty : GoodIn wsX3_plug wsX3_empty := goodIn_r _ [18, 19, 20, 21, 22, 23, 24, 25, 26, 27, 28, 29, 30, 31, 32, 33, 34, 35, 36, 37, 38, 39, 40, 41, 42, 43, 44, 45, 46, 47, 48, 49, 50, 51, 52, 53, 54, 55, 56, 57, 58, 59, 60, 61, 62, 63, 64, 65, 66] (by decide +kernel) (by decide +kernel)
set_option maxRecDepth 20000 in
theorem gX3_plug_X3_empty : GoodIn wsX3_plug (wsV RX3 114 RX3 yX3_empty wsX3_empty) := goodIn_app (goodIn_of _ (by decide +kernel)) ggX3_plug_X3_empty
theorem dX3_plug_0 : decode cX3_plug 0 = .ok (.iload_n 1, 1) := by decide +kernel
theorem dX3_plug_1 : decode cX3_plug 1 = .ok (.ifCond .lt 23, 3) := by decide +kernel
theorem dX3_plug_4 : decode cX3_plug 4 = .ok (.iload_n 1, 1) := by decide +kernel
theorem dX3_plug_5 : decode cX3_plug 5 = .ok (.sipush 9999, 3) := by decide +kernel
theorem dX3_plug_8 : decode cX3_plug 8 = .ok (.if_icmp .gt 16, 3) := by decide +kernel
theorem dX3_plug_11 : decode cX3_plug 11 = .ok (.iload_n 2, 1) := by decide +kernel
theorem dX3_plug_12 : decode cX3_plug 12 = .ok (.bipush 100, 2) := by decide +kernel
theorem dX3_plug_14 : decode cX3_plug 14 = .ok (.if_icmp .lt 10, 3) := by decide +kernel
theorem dX3_plug_17 : decode cX3_plug 17 = .ok (.iload_n 2, 1) := by decide +kernel
theorem dX3_plug_18 : decode cX3_plug 18 = .ok (.sipush 600, 3) := by decide +kernel
theorem dX3_plug_21 : decode cX3_plug 21 = .ok (.if_icmp .le 7, 3) := by decide +kernel
theorem dX3_plug_24 : decode cX3_plug 24 = .ok (.iconst 1, 1) := by decide +kernel
theorem dX3_plug_25 : decode cX3_plug 25 = .ok (.goto 4, 3) := by decide +kernel
theorem dX3_plug_28 : decode cX3_plug 28 = .ok (.iconst 0, 1) := by decide +kernel
theorem dX3_plug_29 : decode cX3_plug 29 = .ok (.istore_n 3, 1) := by decide +kernel
theorem dX3_plug_30 : decode cX3_plug 30 = .ok (.iconst (-1), 1) := by decide +kernel
theorem dX3_plug_31 : decode cX3_plug 31 = .ok (.istore 4, 2) := by decide +kernel
theorem dX3_plug_33 : decode cX3_plug 33 = .ok (.iconst 4, 1) := by decide +kernel
theorem dX3_plug_34 : decode cX3_plug 34 = .ok (.istore 5, 2) := by decide +kernel
theorem dX3_plug_36 : decode cX3_plug 36 = .ok (.iload 5, 2) := by decide +kernel
theorem dX3_plug_38 : decode cX3_plug 38 = .ok (.ifCond .lt 59, 3) := by decide +kernel
theorem dX3_plug_41 : decode cX3_plug 41 = .ok (.iload_n 3, 1) := by decide +kernel
theorem dX3_plug_42 : decode cX3_plug 42 = .ok (.ifCond .ne 24, 3) := by decide +kernel
theorem dX3_plug_45 : decode cX3_plug 45 = .ok (.aload_n 0, 1) := by decide +kernel
theorem dX3_plug_46 : decode cX3_plug 46 = .ok (.getfield 7, 3) := by decide +kernel
theorem dX3_plug_49 : decode cX3_plug 49 = .ok (.iload 5, 2) := by decide +kernel
theorem dX3_plug_51 : decode cX3_plug 51 = .ok (.iaload, 1) := by decide +kernel
theorem dX3_plug_52 : decode cX3_plug 52 = .ok (.ifCond .eq 18, 3) := by decide +kernel
theorem dX3_plug_55 : decode cX3_plug 55 = .ok (.aload_n 0, 1) := by decide +kernel
theorem dX3_plug_56 : decode cX3_plug 56 = .ok (.getfield 13, 3) := by decide +kernel
theorem dX3_plug_59 : decode cX3_plug 59 = .ok (.iload 5, 2) := by decide +kernel
theorem dX3_plug_61 : decode cX3_plug 61 = .ok (.iaload, 1) := by decide +kernel
theorem dX3_plug_62 : decode cX3_plug 62 = .ok (.iload_n 1, 1) := by decide +kernel
theorem dX3_plug_63 : decode cX3_plug 63 = .ok (.if_icmp .ne 7, 3) := by decide +kernel
theorem dX3_plug_66 : decode cX3_plug 66 = .ok (.iconst 1, 1) := by decide +kernel
theorem dX3_plug_67 : decode cX3_plug 67 = .ok (.goto 4, 3) := by decide +kernel
theorem dX3_plug_70 : decode cX3_plug 70 = .ok (.iconst 0, 1) := by decide +kernel
theorem dX3_plug_71 : decode cX3_plug 71 = .ok (.istore_n 3, 1) := by decide +kernel
theorem dX3_plug_72 : decode cX3_plug 72 = .ok (.aload_n 0, 1) := by decide +kernel
theorem dX3_plug_73 : decode cX3_plug 73 = .ok (.getfield 7, 3) := by decide +kernel
theorem dX3_plug_76 : decode cX3_plug 76 = .ok (.iload 5, 2) := by decide +kernel
theorem dX3_plug_78 : decode cX3_plug 78 = .ok (.iaload, 1) := by decide +kernel
theorem dX3_plug_79 : decode cX3_plug 79 = .ok (.ifCond .ne 8, 3) := by decide +kernel
theorem dX3_plug_82 : decode cX3_plug 82 = .ok (.iload 5, 2) := by decide +kernel
theorem dX3_plug_84 : decode cX3_plug 84 = .ok (.goto 5, 3) := by decide +kernel
theorem dX3_plug_87 : decode cX3_plug 87 = .ok (.iload 4, 2) := by decide +kernel
theorem dX3_plug_89 : decode cX3_plug 89 = .ok (.istore 4, 2) := by decide +kernel
theorem dX3_plug_91 : decode cX3_plug 91 = .ok (.iinc 5 (-1), 3) := by decide +kernel
theorem dX3_plug_94 : decode cX3_plug 94 = .ok (.goto (-58), 3) := by decide +kernel
theorem dX3_plug_97 : decode cX3_plug 97 = .ok (.aload_n 0, 1) := by decide +kernel
theorem dX3_plug_98 : decode cX3_plug 98 = .ok (.iload_n 3, 1) := by decide +kernel
theorem dX3_plug_99 : decode cX3_plug 99 = .ok (.ifCond .eq 7, 3) := by decide +kernel
theorem dX3_plug_102 : decode cX3_plug 102 = .ok (.iconst 1, 1) := by decide +kernel
theorem dX3_plug_103 : decode cX3_plug 103 = .ok (.goto 13, 3) := by decide +kernel
theorem dX3_plug_106 : decode cX3_plug 106 = .ok (.iload 4, 2) := by decide +kernel
theorem dX3_plug_108 : decode cX3_plug 108 = .ok (.ifCond .ge 7, 3) := by decide +kernel
theorem dX3_plug_111 : decode cX3_plug 111 = .ok (.iconst 2, 1) := by decide +kernel
theorem dX3_plug_112 : decode cX3_plug 112 = .ok (.goto 4, 3) := by decide +kernel
theorem dX3_plug_115 : decode cX3_plug 115 = .ok (.iconst 0, 1) := by decide +kernel
theorem dX3_plug_116 : decode cX3_plug 116 = .ok (.putfield 101, 3) := by decide +kernel
theorem dX3_plug_119 : decode cX3_plug 119 = .ok (.aload_n 0, 1) := by decide +kernel
theorem dX3_plug_120 : decode cX3_plug 120 = .ok (.getfield 101, 3) := by decide +kernel
theorem dX3_plug_123 : decode cX3_plug 123 = .ok (.ifCond .eq 5, 3) := by decide +kernel
theorem dX3_plug_126 : decode cX3_plug 126 = .ok (.iconst 0, 1) := by decide +kernel
theorem dX3_plug_127 : decode cX3_plug 127 = .ok (.ireturn, 1) := by decide +kernel
theorem dX3_plug_128 : decode cX3_plug 128 = .ok (.aload_n 0, 1) := by decide +kernel
theorem dX3_plug_129 : decode cX3_plug 129 = .ok (.getfield 7, 3) := by decide +kernel
theorem dX3_plug_132 : decode cX3_plug 132 = .ok (.iload 4, 2) := by decide +kernel
theorem dX3_plug_134 : decode cX3_plug 134 = .ok (.iconst 1, 1) := by decide +kernel
theorem dX3_plug_135 : decode cX3_plug 135 = .ok (.iastore, 1) := by decide +kernel
theorem dX3_plug_136 : decode cX3_plug 136 = .ok (.aload_n 0, 1) := by decide +kernel
theorem dX3_plug_137 : decode cX3_plug 137 = .ok (.getfield 13, 3) := by decide +kernel
theorem dX3_plug_140 : decode cX3_plug 140 = .ok (.iload 4, 2) := by decide +kernel
theorem dX3_plug_142 : decode cX3_plug 142 = .ok (.iload_n 1, 1) := by decide +kernel
theorem dX3_plug_143 : decode cX3_plug 143 = .ok (.iastore, 1) := by decide +kernel
theorem dX3_plug_144 : decode cX3_plug 144 = .ok (.aload_n 0, 1) := by decide +kernel
theorem dX3_plug_145 : decode cX3_plug 145 = .ok (.getfield 16, 3) := by decide +kernel
theorem dX3_plug_148 : decode cX3_plug 148 = .ok (.iload 4, 2) := by decide +kernel
theorem dX3_plug_150 : decode cX3_plug 150 = .ok (.iload_n 2, 1) := by decide +kernel
theorem dX3_plug_151 : decode cX3_plug 151 = .ok (.iastore, 1) := by decide +kernel
theorem dX3_plug_152 : decode cX3_plug 152 = .ok (.aload_n 0, 1) := by decide +kernel
theorem dX3_plug_153 : decode cX3_plug 153 = .ok (.getfield 19, 3) := by decide +kernel
theorem dX3_plug_156 : decode cX3_plug 156 = .ok (.iload 4, 2) := by decide +kernel
theorem dX3_plug_158 : decode cX3_plug 158 = .ok (.iconst 0, 1) := by decide +kernel
theorem dX3_plug_159 : decode cX3_plug 159 = .ok (.iastore, 1) := by decide +kernel
theorem dX3_plug_160 : decode cX3_plug 160 = .ok (.aload_n 0, 1) := by decide +kernel
theorem dX3_plug_161 : decode cX3_plug 161 = .ok (.getfield 22, 3) := by decide +kernel
theorem dX3_plug_164 : decode cX3_plug 164 = .ok (.iload 4, 2) := by decide +kernel
theorem dX3_plug_166 : decode cX3_plug 166 = .ok (.iconst 0, 1) := by decide +kernel
theorem dX3_plug_167 : decode cX3_plug 167 = .ok (.iastore, 1) := by decide +kernel
theorem dX3_plug_168 : decode cX3_plug 168 = .ok (.aload_n 0, 1) := by decide +kernel
theorem dX3_plug_169 : decode cX3_plug 169 = .ok (.getfield 25, 3) := by decide +kernel
theorem dX3_plug_172 : decode cX3_plug 172 = .ok (.iload 4, 2) := by decide +kernel
theorem dX3_plug_174 : decode cX3_plug 174 = .ok (.iconst 0, 1) := by decide +kernel
theorem dX3_plug_175 : decode cX3_plug 175 = .ok (.bastore, 1) := by decide +kernel
theorem dX3_plug_176 : decode cX3_plug 176 = .ok (.aload_n 0, 1) := by decide +kernel
theorem dX3_plug_177 : decode cX3_plug 177 = .ok (.getfield 32, 3) := by decide +kernel
theorem dX3_plug_180 : decode cX3_plug 180 = .ok (.iload 4, 2) := by decide +kernel
theorem dX3_plug_182 : decode cX3_plug 182 = .ok (.iconst 0, 1) := by decide +kernel
theorem dX3_plug_183 : decode cX3_plug 183 = .ok (.iastore, 1) := by decide +kernel
theorem dX3_plug_184 : decode cX3_plug 184 = .ok (.aload_n 0, 1) := by decide +kernel
theorem dX3_plug_185 : decode cX3_plug 185 = .ok (.getfield 35, 3) := by decide +kernel
theorem dX3_plug_188 : decode cX3_plug 188 = .ok (.iload 4, 2) := by decide +kernel
theorem dX3_plug_190 : decode cX3_plug 190 = .ok (.iconst (-1), 1) := by decide +kernel
theorem dX3_plug_191 : decode cX3_plug 191 = .ok (.iastore, 1) := by decide +kernel
theorem dX3_plug_192 : decode cX3_plug 192 = .ok (.aload_n 0, 1) := by decide +kernel
theorem dX3_plug_193 : decode cX3_plug 193 = .ok (.getfield 38, 3) := by decide +kernel
theorem dX3_plug_196 : decode cX3_plug 196 = .ok (.iload 4, 2) := by decide +kernel
theorem dX3_plug_198 : decode cX3_plug 198 = .ok (.iconst 0, 1) := by decide +kernel
theorem dX3_plug_199 : decode cX3_plug 199 = .ok (.iastore, 1) := by decide +kernel
theorem dX3_plug_200 : decode cX3_plug 200 = .ok (.aload_n 0, 1) := by decide +kernel
theorem dX3_plug_201 : decode cX3_plug 201 = .ok (.getfield 41, 3) := by decide +kernel
theorem dX3_plug_204 : decode cX3_plug 204 = .ok (.iload 4, 2) := by decide +kernel
theorem dX3_plug_206 : decode cX3_plug 206 = .ok (.iconst 0, 1) := by decide +kernel
theorem dX3_plug_207 : decode cX3_plug 207 = .ok (.bastore, 1) := by decide +kernel
theorem dX3_plug_208 : decode cX3_plug 208 = .ok (.aload_n 0, 1) := by decide +kernel
theorem dX3_plug_209 : decode cX3_plug 209 = .ok (.getfield 47, 3) := by decide +kernel
theorem dX3_plug_212 : decode cX3_plug 212 = .ok (.iload 4, 2) := by decide +kernel
theorem dX3_plug_214 : decode cX3_plug 214 = .ok (.iconst 0, 1) := by decide +kernel
theorem dX3_plug_215 : decode cX3_plug 215 = .ok (.iastore, 1) := by decide +kernel
theorem dX3_plug_216 : decode cX3_plug 216 = .ok (.aload_n 0, 1) := by decide +kernel
theorem dX3_plug_217 : decode cX3_plug 217 = .ok (.getfield 50, 3) := by decide +kernel
theorem dX3_plug_220 : decode cX3_plug 220 = .ok (.iload 4, 2) := by decide +kernel
theorem dX3_plug_222 : decode cX3_plug 222 = .ok (.iconst 0, 1) := by decide +kernel
theorem dX3_plug_223 : decode cX3_plug 223 = .ok (.iastore, 1) := by decide +kernel
theorem dX3_plug_224 : decode cX3_plug 224 = .ok (.aload_n 0, 1) := by decide +kernel
theorem dX3_plug_225 : decode cX3_plug 225 = .ok (.iconst 2, 1) := by decide +kernel
theorem dX3_plug_226 : decode cX3_plug 226 = .ok (.iload 4, 2) := by decide +kernel
theorem dX3_plug_228 : decode cX3_plug 228 = .ok (.imul, 1) := by decide +kernel
theorem dX3_plug_229 : decode cX3_plug 229 = .ok (.invokevirtual 114, 3) := by decide +kernel
theorem dX3_plug_232 : decode cX3_plug 232 = .ok (.aload_n 0, 1) := by decide +kernel
theorem dX3_plug_233 : decode cX3_plug 233 = .ok (.iconst 2, 1) := by decide +kernel
theorem dX3_plug_234 : decode cX3_plug 234 = .ok (.iload 4, 2) := by decide +kernel
theorem dX3_plug_236 : decode cX3_plug 236 = .ok (.imul, 1) := by decide +kernel
theorem dX3_plug_237 : decode cX3_plug 237 = .ok (.iconst 1, 1) := by decide +kernel
theorem dX3_plug_238 : decode cX3_plug 238 = .ok (.iadd, 1) := by decide +kernel
theorem dX3_plug_239 : decode cX3_plug 239 = .ok (.invokevirtual 114, 3) := by decide +kernel
theorem dX3_plug_242 : decode cX3_plug 242 = .ok (.iload 4, 2) := by decide +kernel
theorem dX3_plug_244 : decode cX3_plug 244 = .ok (.ireturn, 1) := by decide +kernel
set_option maxRecDepth 20000 in
theorem ggX3_unplug_X3_isAway : GoodIn wsX3_unplug wsX3_isAway := goodIn_r _ [7, 2, 19, 20, 21, 22, 23, 24, 25, 26, 27, 28, 29, 30, 31, 32, 33, 34, 35, 36, 37, 38, 39, 40, 41, 42, 43, 44, 45, 46, 47, 48, 49, 50, 51, 52, 53, 54, 55, 56, 57, 58, 59] (by decide +kernel) (by decide +kernel)
set_option maxRecDepth 20000 in
theorem gX3_unplug_X3_isAway : GoodIn wsX3_unplug (wsV RX3 118 RX3 yX3_isAway wsX3_isAway) := goodIn_app (goodIn_of _ (by decide +kernel)) ggX3_unplug_X3_isAway
set_option maxRecDepth 20000 in
theorem ggX3_unplug_X3_empty : GoodIn wsX3_unplug wsX3_empty := goodIn_r _ [11, 12, 13, 14, 15, 16, 17, 18, 19, 20, 21, 22, 23, 24, 25, 26, 27, 28, 29, 30, 31, 32, 33, 34, 35, 36, 37, 38, 39, 40, 41, 42, 43, 44, 45, 46, 47, 48, 49, 50, 51, 52, 53, 54, 55, 56, 57, 58, 59] (by decide +kernel) (by decide +kernel)
set_option maxRecDepth 20000 in
theorem gX3_unplug_X3_empty : GoodIn wsX3_unplug (wsV RX3 114 RX3 yX3_empty wsX3_empty) := goodIn_app (goodIn_of _ (by decide +kernel)) ggX3_unplug_X3_empty
theorem dX3_unplug_0 : decode cX3_unplug 0 = .ok (.aload_n 0, 1) := by decide +kernel
theorem dX3_unplug_1 : decode cX3_unplug 1 = .ok (.aload_n 0, 1) := by decide +kernel
theorem dX3_unplug_2 : decode cX3_unplug 2 = .ok (.iload_n 1, 1) := by decide +kernel
theorem dX3_unplug_3 : decode cX3_unplug 3 = .ok (.invokevirtual 118, 3) := by decide +kernel
theorem dX3_unplug_6 : decode cX3_unplug 6 = .ok (.ifCond .eq 7, 3) := by decide +kernel
theorem dX3_unplug_9 : decode cX3_unplug 9 = .ok (.iconst 1, 1) := by decide +kernel
theorem dX3_unplug_10 : decode cX3_unplug 10 = .ok (.goto 4, 3) := by decide +kernel
theorem dX3_unplug_13 : decode cX3_unplug 13 = .ok (.iconst 0, 1) := by decide +kernel
theorem dX3_unplug_14 : decode cX3_unplug 14 = .ok (.putfield 101, 3) := by decide +kernel
theorem dX3_unplug_17 : decode cX3_unplug 17 = .ok (.aload_n 0, 1) := by decide +kernel
theorem dX3_unplug_18 : decode cX3_unplug 18 = .ok (.getfield 101, 3) := by decide +kernel
theorem dX3_unplug_21 : decode cX3_unplug 21 = .ok (.ifCond .ne 26, 3) := by decide +kernel
theorem dX3_unplug_24 : decode cX3_unplug 24 = .ok (.aload_n 0, 1) := by decide +kernel
theorem dX3_unplug_25 : decode cX3_unplug 25 = .ok (.getfield 7, 3) := by decide +kernel
theorem dX3_unplug_28 : decode cX3_unplug 28 = .ok (.iload_n 1, 1) := by decide +kernel
theorem dX3_unplug_29 : decode cX3_unplug 29 = .ok (.iconst 0, 1) := by decide +kernel
theorem dX3_unplug_30 : decode cX3_unplug 30 = .ok (.iastore, 1) := by decide +kernel
theorem dX3_unplug_31 : decode cX3_unplug 31 = .ok (.aload_n 0, 1) := by decide +kernel
theorem dX3_unplug_32 : decode cX3_unplug 32 = .ok (.iconst 2, 1) := by decide +kernel
theorem dX3_unplug_33 : decode cX3_unplug 33 = .ok (.iload_n 1, 1) := by decide +kernel
theorem dX3_unplug_34 : decode cX3_unplug 34 = .ok (.imul, 1) := by decide +kernel
theorem dX3_unplug_35 : decode cX3_unplug 35 = .ok (.invokevirtual 114, 3) := by decide +kernel
theorem dX3_unplug_38 : decode cX3_unplug 38 = .ok (.aload_n 0, 1) := by decide +kernel
theorem dX3_unplug_39 : decode cX3_unplug 39 = .ok (.iconst 2, 1) := by decide +kernel
theorem dX3_unplug_40 : decode cX3_unplug 40 = .ok (.iload_n 1, 1) := by decide +kernel
theorem dX3_unplug_41 : decode cX3_unplug 41 = .ok (.imul, 1) := by decide +kernel
theorem dX3_unplug_42 : decode cX3_unplug 42 = .ok (.iconst 1, 1) := by decide +kernel
theorem dX3_unplug_43 : decode cX3_unplug 43 = .ok (.iadd, 1) := by decide +kernel
theorem dX3_unplug_44 : decode cX3_unplug 44 = .ok (.invokevirtual 114, 3) := by decide +kernel
theorem dX3_unplug_47 : decode cX3_unplug 47 = .ok (.return_, 1) := by decide +kernel
set_option maxRecDepth 20000 in
theorem ggX3_noContainer_X3_isAway : GoodIn wsX3_noContainer wsX3_isAway := goodIn_r _ [5, 6, 7, 8, 9, 10, 11, 12, 13, 14, 15, 16, 17, 18, 19, 20, 21, 22, 23, 24, 25, 26, 27, 28, 29, 30, 31, 32, 33, 34, 35, 36, 37, 38, 39, 40, 41, 42, 43, 44, 45, 46, 47] (by decide +kernel) (by decide +kernel)
set_option maxRecDepth 20000 in
theorem gX3_noContainer_X3_isAway : GoodIn wsX3_noContainer (wsV RX3 118 RX3 yX3_isAway wsX3_isAway) := goodIn_app (goodIn_of _ (by decide +kernel)) ggX3_noContainer_X3_isAway
theorem dX3_noContainer_0 : decode cX3_noContainer 0 = .ok (.aload_n 0, 1) := by decide +kernel
theorem dX3_noContainer_1 : decode cX3_noContainer 1 = .ok (.iload_n 1, 1) := by decide +kernel
theorem dX3_noContainer_2 : decode cX3_noContainer 2 = .ok (.invokevirtual 118, 3) := by decide +kernel
theorem dX3_noContainer_5 : decode cX3_noContainer 5 = .ok (.ifCond .ne 12, 3) := by decide +kernel
theorem dX3_noContainer_8 : decode cX3_noContainer 8 = .ok (.iload_n 2, 1) := by decide +kernel
theorem dX3_noContainer_9 : decode cX3_noContainer 9 = .ok (.ifCond .lt 8, 3) := by decide +kernel
theorem dX3_noContainer_12 : decode cX3_noContainer 12 = .ok (.iload_n 2, 1) := by decide +kernel
theorem dX3_noContainer_13 : decode cX3_noContainer 13 = .ok (.iconst 1, 1) := by decide +kernel
theorem dX3_noContainer_14 : decode cX3_noContainer 14 = .ok (.if_icmp .le 7, 3) := by decide +kernel
theorem dX3_noContainer_17 : decode cX3_noContainer 17 = .ok (.iconst 1, 1) := by decide +kernel
theorem dX3_noContainer_18 : decode cX3_noContainer 18 = .ok (.goto 4, 3) := by decide +kernel
theorem dX3_noContainer_21 : decode cX3_noContainer 21 = .ok (.iconst 0, 1) := by decide +kernel
theorem dX3_noContainer_22 : decode cX3_noContainer 22 = .ok (.ireturn, 1) := by decide +kernel
set_option maxRecDepth 20000 in
theorem ggX3_contract_X3_noContainer : GoodIn wsX3_contract wsX3_noContainer := goodIn_r _ [10, 11, 12, 13, 9, 14, 15, 16, 17, 18, 19, 20, 21, 22, 23, 24, 25, 26, 27, 28, 29, 30, 31, 32, 33, 34, 35, 36, 37, 38, 39, 40, 41, 42, 43, 44, 45, 46, 47, 48, 49, 50, 51, 52, 53, 54, 55, 56] (by decide +kernel) (by decide +kernel)
set_option maxRecDepth 20000 in
theorem gX3_contract_X3_noContainer : GoodIn wsX3_contract (wsV RX3 122 RX3 yX3_noContainer wsX3_noContainer) := goodIn_app (goodIn_of _ (by decide +kernel)) ggX3_contract_X3_noContainer
theorem dX3_contract_0 : decode cX3_contract 0 = .ok (.aload_n 0, 1) := by decide +kernel
theorem dX3_contract_1 : decode cX3_contract 1 = .ok (.iload_n 1, 1) := by decide +kernel
theorem dX3_contract_2 : decode cX3_contract 2 = .ok (.iload_n 2, 1) := by decide +kernel
theorem dX3_contract_3 : decode cX3_contract 3 = .ok (.invokevirtual 122, 3) := by decide +kernel
theorem dX3_contract_6 : decode cX3_contract 6 = .ok (.ifCond .ne 32, 3) := by decide +kernel
theorem dX3_contract_9 : decode cX3_contract 9 = .ok (.iload_n 3, 1) := by decide +kernel
theorem dX3_contract_10 : decode cX3_contract 10 = .ok (.ifCond .lt 28, 3) := by decide +kernel
theorem dX3_contract_13 : decode cX3_contract 13 = .ok (.iload 4, 2) := by decide +kernel
theorem dX3_contract_15 : decode cX3_contract 15 = .ok (.ifCond .lt 23, 3) := by decide +kernel
theorem dX3_contract_18 : decode cX3_contract 18 = .ok (.iload 5, 2) := by decide +kernel
theorem dX3_contract_20 : decode cX3_contract 20 = .ok (.bipush 60, 2) := by decide +kernel
theorem dX3_contract_22 : decode cX3_contract 22 = .ok (.if_icmp .gt 16, 3) := by decide +kernel
theorem dX3_contract_25 : decode cX3_contract 25 = .ok (.iload 6, 2) := by decide +kernel
theorem dX3_contract_27 : decode cX3_contract 27 = .ok (.iconst 1, 1) := by decide +kernel
theorem dX3_contract_28 : decode cX3_contract 28 = .ok (.if_icmp .lt 10, 3) := by decide +kernel
theorem dX3_contract_31 : decode cX3_contract 31 = .ok (.iload 6, 2) := by decide +kernel
theorem dX3_contract_33 : decode cX3_contract 33 = .ok (.bipush 9, 2) := by decide +kernel
theorem dX3_contract_35 : decode cX3_contract 35 = .ok (.if_icmp .le 7, 3) := by decide +kernel
theorem dX3_contract_38 : decode cX3_contract 38 = .ok (.iconst 1, 1) := by decide +kernel
theorem dX3_contract_39 : decode cX3_contract 39 = .ok (.goto 4, 3) := by decide +kernel
theorem dX3_contract_42 : decode cX3_contract 42 = .ok (.iconst 0, 1) := by decide +kernel
theorem dX3_contract_43 : decode cX3_contract 43 = .ok (.istore 7, 2) := by decide +kernel
theorem dX3_contract_45 : decode cX3_contract 45 = .ok (.iload 7, 2) := by decide +kernel
theorem dX3_contract_47 : decode cX3_contract 47 = .ok (.ifCond .ne 25, 3) := by decide +kernel
theorem dX3_contract_50 : decode cX3_contract 50 = .ok (.iload_n 3, 1) := by decide +kernel
theorem dX3_contract_51 : decode cX3_contract 51 = .ok (.bipush 60, 2) := by decide +kernel
theorem dX3_contract_53 : decode cX3_contract 53 = .ok (.if_icmp .gt 19, 3) := by decide +kernel
theorem dX3_contract_56 : decode cX3_contract 56 = .ok (.iload 4, 2) := by decide +kernel
theorem dX3_contract_58 : decode cX3_contract 58 = .ok (.bipush 60, 2) := by decide +kernel
theorem dX3_contract_60 : decode cX3_contract 60 = .ok (.if_icmp .gt 12, 3) := by decide +kernel
theorem dX3_contract_63 : decode cX3_contract 63 = .ok (.iload 5, 2) := by decide +kernel
theorem dX3_contract_65 : decode cX3_contract 65 = .ok (.iload_n 3, 1) := by decide +kernel
theorem dX3_contract_66 : decode cX3_contract 66 = .ok (.iload 4, 2) := by decide +kernel
theorem dX3_contract_68 : decode cX3_contract 68 = .ok (.iadd, 1) := by decide +kernel
theorem dX3_contract_69 : decode cX3_contract 69 = .ok (.if_icmp .ge 7, 3) := by decide +kernel
theorem dX3_contract_72 : decode cX3_contract 72 = .ok (.iconst 1, 1) := by decide +kernel
theorem dX3_contract_73 : decode cX3_contract 73 = .ok (.goto 4, 3) := by decide +kernel
theorem dX3_contract_76 : decode cX3_contract 76 = .ok (.iconst 0, 1) := by decide +kernel
theorem dX3_contract_77 : decode cX3_contract 77 = .ok (.istore 7, 2) := by decide +kernel
theorem dX3_contract_79 : decode cX3_contract 79 = .ok (.aload_n 0, 1) := by decide +kernel
theorem dX3_contract_80 : decode cX3_contract 80 = .ok (.iload 7, 2) := by decide +kernel
theorem dX3_contract_82 : decode cX3_contract 82 = .ok (.ifCond .eq 7, 3) := by decide +kernel
theorem dX3_contract_85 : decode cX3_contract 85 = .ok (.iconst 1, 1) := by decide +kernel
theorem dX3_contract_86 : decode cX3_contract 86 = .ok (.goto 4, 3) := by decide +kernel
theorem dX3_contract_89 : decode cX3_contract 89 = .ok (.iconst 0, 1) := by decide +kernel
theorem dX3_contract_90 : decode cX3_contract 90 = .ok (.putfield 101, 3) := by decide +kernel
theorem dX3_contract_93 : decode cX3_contract 93 = .ok (.iload 7, 2) := by decide +kernel
theorem dX3_contract_95 : decode cX3_contract 95 = .ok (.ifCond .eq 4, 3) := by decide +kernel
theorem dX3_contract_98 : decode cX3_contract 98 = .ok (.return_, 1) := by decide +kernel
theorem dX3_contract_99 : decode cX3_contract 99 = .ok (.iload_n 3, 1) := by decide +kernel
theorem dX3_contract_100 : decode cX3_contract 100 = .ok (.iload 4, 2) := by decide +kernel
theorem dX3_contract_102 : decode cX3_contract 102 = .ok (.iadd, 1) := by decide +kernel
theorem dX3_contract_103 : decode cX3_contract 103 = .ok (.istore 8, 2) := by decide +kernel
theorem dX3_contract_105 : decode cX3_contract 105 = .ok (.iconst 0, 1) := by decide +kernel
theorem dX3_contract_106 : decode cX3_contract 106 = .ok (.istore 9, 2) := by decide +kernel
theorem dX3_contract_108 : decode cX3_contract 108 = .ok (.iload 9, 2) := by decide +kernel
theorem dX3_contract_110 : decode cX3_contract 110 = .ok (.bipush 10, 2) := by decide +kernel
theorem dX3_contract_112 : decode cX3_contract 112 = .ok (.if_icmp .ge 43, 3) := by decide +kernel
theorem dX3_contract_115 : decode cX3_contract 115 = .ok (.iload 8, 2) := by decide +kernel
theorem dX3_contract_117 : decode cX3_contract 117 = .ok (.iload 9, 2) := by decide +kernel
theorem dX3_contract_119 : decode cX3_contract 119 = .ok (.iconst 2, 1) := by decide +kernel
theorem dX3_contract_120 : decode cX3_contract 120 = .ok (.iload_n 1, 1) := by decide +kernel
theorem dX3_contract_121 : decode cX3_contract 121 = .ok (.imul, 1) := by decide +kernel
theorem dX3_contract_122 : decode cX3_contract 122 = .ok (.iload_n 2, 1) := by decide +kernel
theorem dX3_contract_123 : decode cX3_contract 123 = .ok (.iadd, 1) := by decide +kernel
theorem dX3_contract_124 : decode cX3_contract 124 = .ok (.if_icmp .ne 7, 3) := by decide +kernel
theorem dX3_contract_127 : decode cX3_contract 127 = .ok (.iconst 0, 1) := by decide +kernel
theorem dX3_contract_128 : decode cX3_contract 128 = .ok (.goto 18, 3) := by decide +kernel
theorem dX3_contract_131 : decode cX3_contract 131 = .ok (.aload_n 0, 1) := by decide +kernel
theorem dX3_contract_132 : decode cX3_contract 132 = .ok (.getfield 53, 3) := by decide +kernel
theorem dX3_contract_135 : decode cX3_contract 135 = .ok (.iload 9, 2) := by decide +kernel
theorem dX3_contract_137 : decode cX3_contract 137 = .ok (.iaload, 1) := by decide +kernel
theorem dX3_contract_138 : decode cX3_contract 138 = .ok (.aload_n 0, 1) := by decide +kernel
theorem dX3_contract_139 : decode cX3_contract 139 = .ok (.getfield 56, 3) := by decide +kernel
theorem dX3_contract_142 : decode cX3_contract 142 = .ok (.iload 9, 2) := by decide +kernel
theorem dX3_contract_144 : decode cX3_contract 144 = .ok (.iaload, 1) := by decide +kernel
theorem dX3_contract_145 : decode cX3_contract 145 = .ok (.iadd, 1) := by decide +kernel
theorem dX3_contract_146 : decode cX3_contract 146 = .ok (.iadd, 1) := by decide +kernel
theorem dX3_contract_147 : decode cX3_contract 147 = .ok (.istore 8, 2) := by decide +kernel
theorem dX3_contract_149 : decode cX3_contract 149 = .ok (.iinc 9 1, 3) := by decide +kernel
theorem dX3_contract_152 : decode cX3_contract 152 = .ok (.goto (-44), 3) := by decide +kernel
theorem dX3_contract_155 : decode cX3_contract 155 = .ok (.aload_n 0, 1) := by decide +kernel
theorem dX3_contract_156 : decode cX3_contract 156 = .ok (.iload 8, 2) := by decide +kernel
theorem dX3_contract_158 : decode cX3_contract 158 = .ok (.bipush 55, 2) := by decide +kernel
theorem dX3_contract_160 : decode cX3_contract 160 = .ok (.if_icmp .le 7, 3) := by decide +kernel
theorem dX3_contract_163 : decode cX3_contract 163 = .ok (.iconst 2, 1) := by decide +kernel
theorem dX3_contract_164 : decode cX3_contract 164 = .ok (.goto 4, 3) := by decide +kernel
theorem dX3_contract_167 : decode cX3_contract 167 = .ok (.iconst 0, 1) := by decide +kernel
theorem dX3_contract_168 : decode cX3_contract 168 = .ok (.putfield 101, 3) := by decide +kernel
theorem dX3_contract_171 : decode cX3_contract 171 = .ok (.aload_n 0, 1) := by decide +kernel
theorem dX3_contract_172 : decode cX3_contract 172 = .ok (.getfield 101, 3) := by decide +kernel
theorem dX3_contract_175 : decode cX3_contract 175 = .ok (.ifCond .ne 50, 3) := by decide +kernel
theorem dX3_contract_178 : decode cX3_contract 178 = .ok (.aload_n 0, 1) := by decide +kernel
theorem dX3_contract_179 : decode cX3_contract 179 = .ok (.getfield 53, 3) := by decide +kernel
theorem dX3_contract_182 : decode cX3_contract 182 = .ok (.iconst 2, 1) := by decide +kernel
theorem dX3_contract_183 : decode cX3_contract 183 = .ok (.iload_n 1, 1) := by decide +kernel
theorem dX3_contract_184 : decode cX3_contract 184 = .ok (.imul, 1) := by decide +kernel
theorem dX3_contract_185 : decode cX3_contract 185 = .ok (.iload_n 2, 1) := by decide +kernel
theorem dX3_contract_186 : decode cX3_contract 186 = .ok (.iadd, 1) := by decide +kernel
theorem dX3_contract_187 : decode cX3_contract 187 = .ok (.iload_n 3, 1) := by decide +kernel
theorem dX3_contract_188 : decode cX3_contract 188 = .ok (.iastore, 1) := by decide +kernel
theorem dX3_contract_189 : decode cX3_contract 189 = .ok (.aload_n 0, 1) := by decide +kernel
theorem dX3_contract_190 : decode cX3_contract 190 = .ok (.getfield 56, 3) := by decide +kernel
theorem dX3_contract_193 : decode cX3_contract 193 = .ok (.iconst 2, 1) := by decide +kernel
theorem dX3_contract_194 : decode cX3_contract 194 = .ok (.iload_n 1, 1) := by decide +kernel
theorem dX3_contract_195 : decode cX3_contract 195 = .ok (.imul, 1) := by decide +kernel
theorem dX3_contract_196 : decode cX3_contract 196 = .ok (.iload_n 2, 1) := by decide +kernel
theorem dX3_contract_197 : decode cX3_contract 197 = .ok (.iadd, 1) := by decide +kernel
theorem dX3_contract_198 : decode cX3_contract 198 = .ok (.iload 4, 2) := by decide +kernel
theorem dX3_contract_200 : decode cX3_contract 200 = .ok (.iastore, 1) := by decide +kernel
theorem dX3_contract_201 : decode cX3_contract 201 = .ok (.aload_n 0, 1) := by decide +kernel
theorem dX3_contract_202 : decode cX3_contract 202 = .ok (.getfield 59, 3) := by decide +kernel
theorem dX3_contract_205 : decode cX3_contract 205 = .ok (.iconst 2, 1) := by decide +kernel
theorem dX3_contract_206 : decode cX3_contract 206 = .ok (.iload_n 1, 1) := by decide +kernel
theorem dX3_contract_207 : decode cX3_contract 207 = .ok (.imul, 1) := by decide +kernel
theorem dX3_contract_208 : decode cX3_contract 208 = .ok (.iload_n 2, 1) := by decide +kernel
theorem dX3_contract_209 : decode cX3_contract 209 = .ok (.iadd, 1) := by decide +kernel
theorem dX3_contract_210 : decode cX3_contract 210 = .ok (.iload 5, 2) := by decide +kernel
theorem dX3_contract_212 : decode cX3_contract 212 = .ok (.iastore, 1) := by decide +kernel
theorem dX3_contract_213 : decode cX3_contract 213 = .ok (.aload_n 0, 1) := by decide +kernel
theorem dX3_contract_214 : decode cX3_contract 214 = .ok (.getfield 62, 3) := by decide +kernel
theorem dX3_contract_217 : decode cX3_contract 217 = .ok (.iconst 2, 1) := by decide +kernel
theorem dX3_contract_218 : decode cX3_contract 218 = .ok (.iload_n 1, 1) := by decide +kernel
theorem dX3_contract_219 : decode cX3_contract 219 = .ok (.imul, 1) := by decide +kernel
theorem dX3_contract_220 : decode cX3_contract 220 = .ok (.iload_n 2, 1) := by decide +kernel
theorem dX3_contract_221 : decode cX3_contract 221 = .ok (.iadd, 1) := by decide +kernel
theorem dX3_contract_222 : decode cX3_contract 222 = .ok (.iload 6, 2) := by decide +kernel
theorem dX3_contract_224 : decode cX3_contract 224 = .ok (.iastore, 1) := by decide +kernel
theorem dX3_contract_225 : decode cX3_contract 225 = .ok (.return_, 1) := by decide +kernel
set_option maxRecDepth 20000 in
theorem ggX3_drift_X3_isAway : GoodIn wsX3_drift wsX3_isAway := goodIn_r _ [7, 8, 9, 10, 11, 12, 13, 14, 15, 16, 17, 18, 19, 20, 21, 22, 23, 24, 25, 26, 27, 28, 29, 30, 31, 32, 33, 34, 35, 36, 37, 38, 39, 40, 41, 42, 43, 44, 45, 46, 47, 48, 49] (by decide +kernel) (by decide +kernel)
set_option maxRecDepth 20000 in
theorem gX3_drift_X3_isAway : GoodIn wsX3_drift (wsV RX3 118 RX3 yX3_isAway wsX3_isAway) := goodIn_app (goodIn_of _ (by decide +kernel)) ggX3_drift_X3_isAway
theorem dX3_drift_0 : decode cX3_drift 0 = .ok (.aload_n 0, 1) := by decide +kernel
theorem dX3_drift_1 : decode cX3_drift 1 = .ok (.iload_n 1, 1) := by decide +kernel
theorem dX3_drift_2 : decode cX3_drift 2 = .ok (.invokevirtual 118, 3) := by decide +kernel
theorem dX3_drift_5 : decode cX3_drift 5 = .ok (.ifCond .ne 14, 3) := by decide +kernel
theorem dX3_drift_8 : decode cX3_drift 8 = .ok (.iload_n 2, 1) := by decide +kernel
theorem dX3_drift_9 : decode cX3_drift 9 = .ok (.bipush (-2), 2) := by decide +kernel
theorem dX3_drift_11 : decode cX3_drift 11 = .ok (.if_icmp .lt 8, 3) := by decide +kernel
theorem dX3_drift_14 : decode cX3_drift 14 = .ok (.iload_n 2, 1) := by decide +kernel
theorem dX3_drift_15 : decode cX3_drift 15 = .ok (.iconst 2, 1) := by decide +kernel
theorem dX3_drift_16 : decode cX3_drift 16 = .ok (.if_icmp .le 7, 3) := by decide +kernel
theorem dX3_drift_19 : decode cX3_drift 19 = .ok (.iconst 1, 1) := by decide +kernel
theorem dX3_drift_20 : decode cX3_drift 20 = .ok (.goto 4, 3) := by decide +kernel
theorem dX3_drift_23 : decode cX3_drift 23 = .ok (.iconst 0, 1) := by decide +kernel
theorem dX3_drift_24 : decode cX3_drift 24 = .ok (.istore_n 3, 1) := by decide +kernel
theorem dX3_drift_25 : decode cX3_drift 25 = .ok (.aload_n 0, 1) := by decide +kernel
theorem dX3_drift_26 : decode cX3_drift 26 = .ok (.iload_n 3, 1) := by decide +kernel
theorem dX3_drift_27 : decode cX3_drift 27 = .ok (.ifCond .eq 7, 3) := by decide +kernel
theorem dX3_drift_30 : decode cX3_drift 30 = .ok (.iconst 1, 1) := by decide +kernel
theorem dX3_drift_31 : decode cX3_drift 31 = .ok (.goto 35, 3) := by decide +kernel
theorem dX3_drift_34 : decode cX3_drift 34 = .ok (.aload_n 0, 1) := by decide +kernel
theorem dX3_drift_35 : decode cX3_drift 35 = .ok (.getfield 16, 3) := by decide +kernel
theorem dX3_drift_38 : decode cX3_drift 38 = .ok (.iload_n 1, 1) := by decide +kernel
theorem dX3_drift_39 : decode cX3_drift 39 = .ok (.iaload, 1) := by decide +kernel
theorem dX3_drift_40 : decode cX3_drift 40 = .ok (.iload_n 2, 1) := by decide +kernel
theorem dX3_drift_41 : decode cX3_drift 41 = .ok (.iadd, 1) := by decide +kernel
theorem dX3_drift_42 : decode cX3_drift 42 = .ok (.bipush 100, 2) := by decide +kernel
theorem dX3_drift_44 : decode cX3_drift 44 = .ok (.if_icmp .lt 17, 3) := by decide +kernel
theorem dX3_drift_47 : decode cX3_drift 47 = .ok (.aload_n 0, 1) := by decide +kernel
theorem dX3_drift_48 : decode cX3_drift 48 = .ok (.getfield 16, 3) := by decide +kernel
theorem dX3_drift_51 : decode cX3_drift 51 = .ok (.iload_n 1, 1) := by decide +kernel
theorem dX3_drift_52 : decode cX3_drift 52 = .ok (.iaload, 1) := by decide +kernel
theorem dX3_drift_53 : decode cX3_drift 53 = .ok (.iload_n 2, 1) := by decide +kernel
theorem dX3_drift_54 : decode cX3_drift 54 = .ok (.iadd, 1) := by decide +kernel
theorem dX3_drift_55 : decode cX3_drift 55 = .ok (.sipush 600, 3) := by decide +kernel
theorem dX3_drift_58 : decode cX3_drift 58 = .ok (.if_icmp .le 7, 3) := by decide +kernel
theorem dX3_drift_61 : decode cX3_drift 61 = .ok (.iconst 1, 1) := by decide +kernel
theorem dX3_drift_62 : decode cX3_drift 62 = .ok (.goto 4, 3) := by decide +kernel
theorem dX3_drift_65 : decode cX3_drift 65 = .ok (.iconst 0, 1) := by decide +kernel
theorem dX3_drift_66 : decode cX3_drift 66 = .ok (.putfield 101, 3) := by decide +kernel
theorem dX3_drift_69 : decode cX3_drift 69 = .ok (.aload_n 0, 1) := by decide +kernel
theorem dX3_drift_70 : decode cX3_drift 70 = .ok (.getfield 101, 3) := by decide +kernel
theorem dX3_drift_73 : decode cX3_drift 73 = .ok (.ifCond .ne 13, 3) := by decide +kernel
theorem dX3_drift_76 : decode cX3_drift 76 = .ok (.aload_n 0, 1) := by decide +kernel
theorem dX3_drift_77 : decode cX3_drift 77 = .ok (.getfield 16, 3) := by decide +kernel
theorem dX3_drift_80 : decode cX3_drift 80 = .ok (.iload_n 1, 1) := by decide +kernel
theorem dX3_drift_81 : decode cX3_drift 81 = .ok (.dup2, 1) := by decide +kernel
theorem dX3_drift_82 : decode cX3_drift 82 = .ok (.iaload, 1) := by decide +kernel
theorem dX3_drift_83 : decode cX3_drift 83 = .ok (.iload_n 2, 1) := by decide +kernel
theorem dX3_drift_84 : decode cX3_drift 84 = .ok (.iadd, 1) := by decide +kernel
theorem dX3_drift_85 : decode cX3_drift 85 = .ok (.iastore, 1) := by decide +kernel
theorem dX3_drift_86 : decode cX3_drift 86 = .ok (.return_, 1) := by decide +kernel
set_option maxRecDepth 20000 in
theorem ggX3_send_X3_noContainer : GoodIn wsX3_send wsX3_noContainer := goodIn_r _ [10, 11, 12, 13, 9, 14, 15, 16, 17, 18, 19, 20, 21, 22, 23, 24, 25, 26, 27, 28, 29, 30, 31, 32, 33, 34, 35, 36, 37, 38, 39, 40, 41, 42, 43, 44, 45, 46, 47, 48, 49, 50, 51, 52, 53, 54, 55, 56] (by decide +kernel) (by decide +kernel)
set_option maxRecDepth 20000 in
theorem gX3_send_X3_noContainer : GoodIn wsX3_send (wsV RX3 122 RX3 yX3_noContainer wsX3_noContainer) := goodIn_app (goodIn_of _ (by decide +kernel)) ggX3_send_X3_noContainer
theorem dX3_send_0 : decode cX3_send 0 = .ok (.aload_n 0, 1) := by decide +kernel
theorem dX3_send_1 : decode cX3_send 1 = .ok (.aload_n 0, 1) := by decide +kernel
theorem dX3_send_2 : decode cX3_send 2 = .ok (.iload_n 1, 1) := by decide +kernel
theorem dX3_send_3 : decode cX3_send 3 = .ok (.iload_n 2, 1) := by decide +kernel
theorem dX3_send_4 : decode cX3_send 4 = .ok (.invokevirtual 122, 3) := by decide +kernel
theorem dX3_send_7 : decode cX3_send 7 = .ok (.ifCond .ne 14, 3) := by decide +kernel
theorem dX3_send_10 : decode cX3_send 10 = .ok (.iload_n 3, 1) := by decide +kernel
theorem dX3_send_11 : decode cX3_send 11 = .ok (.iconst 1, 1) := by decide +kernel
theorem dX3_send_12 : decode cX3_send 12 = .ok (.if_icmp .lt 9, 3) := by decide +kernel
theorem dX3_send_15 : decode cX3_send 15 = .ok (.iload_n 3, 1) := by decide +kernel
theorem dX3_send_16 : decode cX3_send 16 = .ok (.bipush 20, 2) := by decide +kernel
theorem dX3_send_18 : decode cX3_send 18 = .ok (.if_icmp .le 7, 3) := by decide +kernel
theorem dX3_send_21 : decode cX3_send 21 = .ok (.iconst 1, 1) := by decide +kernel
theorem dX3_send_22 : decode cX3_send 22 = .ok (.goto 32, 3) := by decide +kernel
theorem dX3_send_25 : decode cX3_send 25 = .ok (.aload_n 0, 1) := by decide +kernel
theorem dX3_send_26 : decode cX3_send 26 = .ok (.getfield 74, 3) := by decide +kernel
theorem dX3_send_29 : decode cX3_send 29 = .ok (.iconst 2, 1) := by decide +kernel
theorem dX3_send_30 : decode cX3_send 30 = .ok (.iload_n 1, 1) := by decide +kernel
theorem dX3_send_31 : decode cX3_send 31 = .ok (.imul, 1) := by decide +kernel
theorem dX3_send_32 : decode cX3_send 32 = .ok (.iload_n 2, 1) := by decide +kernel
theorem dX3_send_33 : decode cX3_send 33 = .ok (.iadd, 1) := by decide +kernel
theorem dX3_send_34 : decode cX3_send 34 = .ok (.iaload, 1) := by decide +kernel
theorem dX3_send_35 : decode cX3_send 35 = .ok (.bipush 8, 2) := by decide +kernel
theorem dX3_send_37 : decode cX3_send 37 = .ok (.if_icmp .eq 12, 3) := by decide +kernel
theorem dX3_send_40 : decode cX3_send 40 = .ok (.aload_n 0, 1) := by decide +kernel
theorem dX3_send_41 : decode cX3_send 41 = .ok (.getfield 126, 3) := by decide +kernel
theorem dX3_send_44 : decode cX3_send 44 = .ok (.bipush 100, 2) := by decide +kernel
theorem dX3_send_46 : decode cX3_send 46 = .ok (.if_icmp .ne 7, 3) := by decide +kernel
theorem dX3_send_49 : decode cX3_send 49 = .ok (.iconst 2, 1) := by decide +kernel
theorem dX3_send_50 : decode cX3_send 50 = .ok (.goto 4, 3) := by decide +kernel
theorem dX3_send_53 : decode cX3_send 53 = .ok (.iconst 0, 1) := by decide +kernel
theorem dX3_send_54 : decode cX3_send 54 = .ok (.putfield 101, 3) := by decide +kernel
theorem dX3_send_57 : decode cX3_send 57 = .ok (.aload_n 0, 1) := by decide +kernel
theorem dX3_send_58 : decode cX3_send 58 = .ok (.getfield 101, 3) := by decide +kernel
theorem dX3_send_61 : decode cX3_send 61 = .ok (.ifCond .eq 5, 3) := by decide +kernel
theorem dX3_send_64 : decode cX3_send 64 = .ok (.iconst 0, 1) := by decide +kernel
theorem dX3_send_65 : decode cX3_send 65 = .ok (.ireturn, 1) := by decide +kernel
theorem dX3_send_66 : decode cX3_send 66 = .ok (.iconst 2, 1) := by decide +kernel
theorem dX3_send_67 : decode cX3_send 67 = .ok (.iload_n 1, 1) := by decide +kernel
theorem dX3_send_68 : decode cX3_send 68 = .ok (.imul, 1) := by decide +kernel
theorem dX3_send_69 : decode cX3_send 69 = .ok (.iload_n 2, 1) := by decide +kernel
theorem dX3_send_70 : decode cX3_send 70 = .ok (.iadd, 1) := by decide +kernel
theorem dX3_send_71 : decode cX3_send 71 = .ok (.istore 4, 2) := by decide +kernel
theorem dX3_send_73 : decode cX3_send 73 = .ok (.aload_n 0, 1) := by decide +kernel
theorem dX3_send_74 : decode cX3_send 74 = .ok (.getfield 77, 3) := by decide +kernel
theorem dX3_send_77 : decode cX3_send 77 = .ok (.bipush 8, 2) := by decide +kernel
theorem dX3_send_79 : decode cX3_send 79 = .ok (.iload 4, 2) := by decide +kernel
theorem dX3_send_81 : decode cX3_send 81 = .ok (.imul, 1) := by decide +kernel
theorem dX3_send_82 : decode cX3_send 82 = .ok (.aload_n 0, 1) := by decide +kernel
theorem dX3_send_83 : decode cX3_send 83 = .ok (.getfield 74, 3) := by decide +kernel
theorem dX3_send_86 : decode cX3_send 86 = .ok (.iload 4, 2) := by decide +kernel
theorem dX3_send_88 : decode cX3_send 88 = .ok (.iaload, 1) := by decide +kernel
theorem dX3_send_89 : decode cX3_send 89 = .ok (.iadd, 1) := by decide +kernel
theorem dX3_send_90 : decode cX3_send 90 = .ok (.aload_n 0, 1) := by decide +kernel
theorem dX3_send_91 : decode cX3_send 91 = .ok (.getfield 126, 3) := by decide +kernel
theorem dX3_send_94 : decode cX3_send 94 = .ok (.iastore, 1) := by decide +kernel
theorem dX3_send_95 : decode cX3_send 95 = .ok (.aload_n 0, 1) := by decide +kernel
theorem dX3_send_96 : decode cX3_send 96 = .ok (.getfield 74, 3) := by decide +kernel
theorem dX3_send_99 : decode cX3_send 99 = .ok (.iload 4, 2) := by decide +kernel
theorem dX3_send_101 : decode cX3_send 101 = .ok (.dup2, 1) := by decide +kernel
theorem dX3_send_102 : decode cX3_send 102 = .ok (.iaload, 1) := by decide +kernel
theorem dX3_send_103 : decode cX3_send 103 = .ok (.iconst 1, 1) := by decide +kernel
theorem dX3_send_104 : decode cX3_send 104 = .ok (.iadd, 1) := by decide +kernel
theorem dX3_send_105 : decode cX3_send 105 = .ok (.iastore, 1) := by decide +kernel
theorem dX3_send_106 : decode cX3_send 106 = .ok (.aload_n 0, 1) := by decide +kernel
theorem dX3_send_107 : decode cX3_send 107 = .ok (.getfield 80, 3) := by decide +kernel
theorem dX3_send_110 : decode cX3_send 110 = .ok (.aload_n 0, 1) := by decide +kernel
theorem dX3_send_111 : decode cX3_send 111 = .ok (.getfield 126, 3) := by decide +kernel
theorem dX3_send_114 : decode cX3_send 114 = .ok (.iload_n 3, 1) := by decide +kernel
theorem dX3_send_115 : decode cX3_send 115 = .ok (.iastore, 1) := by decide +kernel
theorem dX3_send_116 : decode cX3_send 116 = .ok (.aload_n 0, 1) := by decide +kernel
theorem dX3_send_117 : decode cX3_send 117 = .ok (.dup, 1) := by decide +kernel
theorem dX3_send_118 : decode cX3_send 118 = .ok (.getfield 126, 3) := by decide +kernel
theorem dX3_send_121 : decode cX3_send 121 = .ok (.iconst 1, 1) := by decide +kernel
theorem dX3_send_122 : decode cX3_send 122 = .ok (.iadd, 1) := by decide +kernel
theorem dX3_send_123 : decode cX3_send 123 = .ok (.putfield 126, 3) := by decide +kernel
theorem dX3_send_126 : decode cX3_send 126 = .ok (.aload_n 0, 1) := by decide +kernel
theorem dX3_send_127 : decode cX3_send 127 = .ok (.getfield 126, 3) := by decide +kernel
theorem dX3_send_130 : decode cX3_send 130 = .ok (.iconst 1, 1) := by decide +kernel
theorem dX3_send_131 : decode cX3_send 131 = .ok (.isub, 1) := by decide +kernel
theorem dX3_send_132 : decode cX3_send 132 = .ok (.ireturn, 1) := by decide +kernel
set_option maxRecDepth 20000 in
theorem ggX3_key_X3_isAway : GoodIn wsX3_key wsX3_isAway := goodIn_r _ [7, 8, 9, 10, 11, 12, 13, 14, 15, 16, 17, 18, 19, 20, 21, 22, 23, 24, 25, 26, 27, 28, 29, 30, 31, 32, 33, 34, 35, 36, 37, 38, 39, 40, 41, 42, 43, 44, 45, 46, 47, 48, 49] (by decide +kernel) (by decide +kernel)
set_option maxRecDepth 20000 in
theorem gX3_key_X3_isAway : GoodIn wsX3_key (wsV RX3 118 RX3 yX3_isAway wsX3_isAway) := goodIn_app (goodIn_of _ (by decide +kernel)) ggX3_key_X3_isAway
theorem dX3_key_0 : decode cX3_key 0 = .ok (.aload_n 0, 1) := by decide +kernel
theorem dX3_key_1 : decode cX3_key 1 = .ok (.aload_n 0, 1) := by decide +kernel
theorem dX3_key_2 : decode cX3_key 2 = .ok (.iload_n 1, 1) := by decide +kernel
theorem dX3_key_3 : decode cX3_key 3 = .ok (.invokevirtual 118, 3) := by decide +kernel
theorem dX3_key_6 : decode cX3_key 6 = .ok (.ifCond .ne 13, 3) := by decide +kernel
theorem dX3_key_9 : decode cX3_key 9 = .ok (.iload_n 2, 1) := by decide +kernel
theorem dX3_key_10 : decode cX3_key 10 = .ok (.ifCond .lt 9, 3) := by decide +kernel
theorem dX3_key_13 : decode cX3_key 13 = .ok (.iload_n 2, 1) := by decide +kernel
theorem dX3_key_14 : decode cX3_key 14 = .ok (.bipush 99, 2) := by decide +kernel
theorem dX3_key_16 : decode cX3_key 16 = .ok (.if_icmp .le 7, 3) := by decide +kernel
theorem dX3_key_19 : decode cX3_key 19 = .ok (.iconst 1, 1) := by decide +kernel
theorem dX3_key_20 : decode cX3_key 20 = .ok (.goto 17, 3) := by decide +kernel
theorem dX3_key_23 : decode cX3_key 23 = .ok (.aload_n 0, 1) := by decide +kernel
theorem dX3_key_24 : decode cX3_key 24 = .ok (.getfield 35, 3) := by decide +kernel
theorem dX3_key_27 : decode cX3_key 27 = .ok (.iload_n 1, 1) := by decide +kernel
theorem dX3_key_28 : decode cX3_key 28 = .ok (.iaload, 1) := by decide +kernel
theorem dX3_key_29 : decode cX3_key 29 = .ok (.ifCond .lt 7, 3) := by decide +kernel
theorem dX3_key_32 : decode cX3_key 32 = .ok (.iconst 2, 1) := by decide +kernel
theorem dX3_key_33 : decode cX3_key 33 = .ok (.goto 4, 3) := by decide +kernel
theorem dX3_key_36 : decode cX3_key 36 = .ok (.iconst 0, 1) := by decide +kernel
theorem dX3_key_37 : decode cX3_key 37 = .ok (.putfield 101, 3) := by decide +kernel
theorem dX3_key_40 : decode cX3_key 40 = .ok (.aload_n 0, 1) := by decide +kernel
theorem dX3_key_41 : decode cX3_key 41 = .ok (.getfield 101, 3) := by decide +kernel
theorem dX3_key_44 : decode cX3_key 44 = .ok (.ifCond .ne 10, 3) := by decide +kernel
theorem dX3_key_47 : decode cX3_key 47 = .ok (.aload_n 0, 1) := by decide +kernel
theorem dX3_key_48 : decode cX3_key 48 = .ok (.getfield 35, 3) := by decide +kernel
theorem dX3_key_51 : decode cX3_key 51 = .ok (.iload_n 1, 1) := by decide +kernel
theorem dX3_key_52 : decode cX3_key 52 = .ok (.iload_n 2, 1) := by decide +kernel
theorem dX3_key_53 : decode cX3_key 53 = .ok (.iastore, 1) := by decide +kernel
theorem dX3_key_54 : decode cX3_key 54 = .ok (.return_, 1) := by decide +kernel
set_option maxRecDepth 20000 in
theorem ggX3_down_X3_isAway : GoodIn wsX3_down wsX3_isAway := goodIn_r _ [8, 9, 10, 11, 12, 13, 14, 15, 16, 17, 18, 19, 20, 21, 22, 23, 24, 25, 26, 27, 28, 29, 30, 31, 32, 33, 34, 35, 36, 37, 38, 39, 40, 41, 42, 43, 44, 45, 46, 47, 48, 49, 50] (by decide +kernel) (by decide +kernel)
set_option maxRecDepth 20000 in
theorem gX3_down_X3_isAway : GoodIn wsX3_down (wsV RX3 118 RX3 yX3_isAway wsX3_isAway) := goodIn_app (goodIn_of _ (by decide +kernel)) ggX3_down_X3_isAway
theorem dX3_down_0 : decode cX3_down 0 = .ok (.aload_n 0, 1) := by decide +kernel
theorem dX3_down_1 : decode cX3_down 1 = .ok (.aload_n 0, 1) := by decide +kernel
theorem dX3_down_2 : decode cX3_down 2 = .ok (.iload_n 1, 1) := by decide +kernel
theorem dX3_down_3 : decode cX3_down 3 = .ok (.invokevirtual 118, 3) := by decide +kernel
theorem dX3_down_6 : decode cX3_down 6 = .ok (.ifCond .eq 7, 3) := by decide +kernel
theorem dX3_down_9 : decode cX3_down 9 = .ok (.iconst 1, 1) := by decide +kernel
theorem dX3_down_10 : decode cX3_down 10 = .ok (.goto 4, 3) := by decide +kernel
theorem dX3_down_13 : decode cX3_down 13 = .ok (.iconst 0, 1) := by decide +kernel
theorem dX3_down_14 : decode cX3_down 14 = .ok (.putfield 101, 3) := by decide +kernel
theorem dX3_down_17 : decode cX3_down 17 = .ok (.aload_n 0, 1) := by decide +kernel
theorem dX3_down_18 : decode cX3_down 18 = .ok (.getfield 101, 3) := by decide +kernel
theorem dX3_down_21 : decode cX3_down 21 = .ok (.ifCond .ne 17, 3) := by decide +kernel
theorem dX3_down_24 : decode cX3_down 24 = .ok (.aload_n 0, 1) := by decide +kernel
theorem dX3_down_25 : decode cX3_down 25 = .ok (.getfield 44, 3) := by decide +kernel
theorem dX3_down_28 : decode cX3_down 28 = .ok (.iload_n 1, 1) := by decide +kernel
theorem dX3_down_29 : decode cX3_down 29 = .ok (.iload_n 2, 1) := by decide +kernel
theorem dX3_down_30 : decode cX3_down 30 = .ok (.iastore, 1) := by decide +kernel
theorem dX3_down_31 : decode cX3_down 31 = .ok (.aload_n 0, 1) := by decide +kernel
theorem dX3_down_32 : decode cX3_down 32 = .ok (.getfield 41, 3) := by decide +kernel
theorem dX3_down_35 : decode cX3_down 35 = .ok (.iload_n 1, 1) := by decide +kernel
theorem dX3_down_36 : decode cX3_down 36 = .ok (.iconst 1, 1) := by decide +kernel
theorem dX3_down_37 : decode cX3_down 37 = .ok (.bastore, 1) := by decide +kernel
theorem dX3_down_38 : decode cX3_down 38 = .ok (.return_, 1) := by decide +kernel
set_option maxRecDepth 20000 in
theorem ggX3_spoil_X3_isAway : GoodIn wsX3_spoil wsX3_isAway := goodIn_r _ [7, 8, 9, 10, 11, 12, 13, 14, 15, 16, 17, 18, 19, 20, 21, 22, 23, 24, 25, 26, 27, 28, 29, 30, 31, 32, 33, 34, 35, 36, 37, 38, 39, 40, 41, 42, 43, 44, 45, 46, 47, 48, 49] (by decide +kernel) (by decide +kernel)
set_option maxRecDepth 20000 in
theorem gX3_spoil_X3_isAway : GoodIn wsX3_spoil (wsV RX3 118 RX3 yX3_isAway wsX3_isAway) := goodIn_app (goodIn_of _ (by decide +kernel)) ggX3_spoil_X3_isAway
theorem dX3_spoil_0 : decode cX3_spoil 0 = .ok (.aload_n 0, 1) := by decide +kernel
theorem dX3_spoil_1 : decode cX3_spoil 1 = .ok (.aload_n 0, 1) := by decide +kernel
theorem dX3_spoil_2 : decode cX3_spoil 2 = .ok (.iload_n 1, 1) := by decide +kernel
theorem dX3_spoil_3 : decode cX3_spoil 3 = .ok (.invokevirtual 118, 3) := by decide +kernel
theorem dX3_spoil_6 : decode cX3_spoil 6 = .ok (.ifCond .eq 7, 3) := by decide +kernel
theorem dX3_spoil_9 : decode cX3_spoil 9 = .ok (.iconst 1, 1) := by decide +kernel
theorem dX3_spoil_10 : decode cX3_spoil 10 = .ok (.goto 4, 3) := by decide +kernel
theorem dX3_spoil_13 : decode cX3_spoil 13 = .ok (.iconst 0, 1) := by decide +kernel
theorem dX3_spoil_14 : decode cX3_spoil 14 = .ok (.putfield 101, 3) := by decide +kernel
theorem dX3_spoil_17 : decode cX3_spoil 17 = .ok (.aload_n 0, 1) := by decide +kernel
theorem dX3_spoil_18 : decode cX3_spoil 18 = .ok (.getfield 101, 3) := by decide +kernel
theorem dX3_spoil_21 : decode cX3_spoil 21 = .ok (.ifCond .ne 10, 3) := by decide +kernel
theorem dX3_spoil_24 : decode cX3_spoil 24 = .ok (.aload_n 0, 1) := by decide +kernel
theorem dX3_spoil_25 : decode cX3_spoil 25 = .ok (.getfield 25, 3) := by decide +kernel
theorem dX3_spoil_28 : decode cX3_spoil 28 = .ok (.iload_n 1, 1) := by decide +kernel
theorem dX3_spoil_29 : decode cX3_spoil 29 = .ok (.iconst 1, 1) := by decide +kernel
theorem dX3_spoil_30 : decode cX3_spoil 30 = .ok (.bastore, 1) := by decide +kernel
theorem dX3_spoil_31 : decode cX3_spoil 31 = .ok (.return_, 1) := by decide +kernel
theorem dX3_feeder_0 : decode cX3_feeder 0 = .ok (.aload_n 0, 1) := by decide +kernel
theorem dX3_feeder_1 : decode cX3_feeder 1 = .ok (.iload_n 1, 1) := by decide +kernel
theorem dX3_feeder_2 : decode cX3_feeder 2 = .ok (.ifCond .lt 8, 3) := by decide +kernel
theorem dX3_feeder_5 : decode cX3_feeder 5 = .ok (.iload_n 1, 1) := by decide +kernel
theorem dX3_feeder_6 : decode cX3_feeder 6 = .ok (.iconst 1, 1) := by decide +kernel
theorem dX3_feeder_7 : decode cX3_feeder 7 = .ok (.if_icmp .le 7, 3) := by decide +kernel
theorem dX3_feeder_10 : decode cX3_feeder 10 = .ok (.iconst 1, 1) := by decide +kernel
theorem dX3_feeder_11 : decode cX3_feeder 11 = .ok (.goto 4, 3) := by decide +kernel
theorem dX3_feeder_14 : decode cX3_feeder 14 = .ok (.iconst 0, 1) := by decide +kernel
theorem dX3_feeder_15 : decode cX3_feeder 15 = .ok (.putfield 101, 3) := by decide +kernel
theorem dX3_feeder_18 : decode cX3_feeder 18 = .ok (.aload_n 0, 1) := by decide +kernel
theorem dX3_feeder_19 : decode cX3_feeder 19 = .ok (.getfield 101, 3) := by decide +kernel
theorem dX3_feeder_22 : decode cX3_feeder 22 = .ok (.ifCond .ne 10, 3) := by decide +kernel
theorem dX3_feeder_25 : decode cX3_feeder 25 = .ok (.aload_n 0, 1) := by decide +kernel
theorem dX3_feeder_26 : decode cX3_feeder 26 = .ok (.getfield 29, 3) := by decide +kernel
theorem dX3_feeder_29 : decode cX3_feeder 29 = .ok (.iload_n 1, 1) := by decide +kernel
theorem dX3_feeder_30 : decode cX3_feeder 30 = .ok (.iload_n 2, 1) := by decide +kernel
theorem dX3_feeder_31 : decode cX3_feeder 31 = .ok (.bastore, 1) := by decide +kernel
theorem dX3_feeder_32 : decode cX3_feeder 32 = .ok (.return_, 1) := by decide +kernel
theorem dX3_discover_0 : decode cX3_discover 0 = .ok (.aload_n 0, 1) := by decide +kernel
theorem dX3_discover_1 : decode cX3_discover 1 = .ok (.iconst 0, 1) := by decide +kernel
theorem dX3_discover_2 : decode cX3_discover 2 = .ok (.putfield 101, 3) := by decide +kernel
theorem dX3_discover_5 : decode cX3_discover 5 = .ok (.aload_n 0, 1) := by decide +kernel
theorem dX3_discover_6 : decode cX3_discover 6 = .ok (.iconst 1, 1) := by decide +kernel
theorem dX3_discover_7 : decode cX3_discover 7 = .ok (.putfield 129, 3) := by decide +kernel
theorem dX3_discover_10 : decode cX3_discover 10 = .ok (.return_, 1) := by decide +kernel
set_option maxRecDepth 20000 in
theorem ggX3_darkFrame_X3_extra : GoodIn wsX3_darkFrame wsX3_extra := goodIn_r _ [9] (by decide +kernel) (by decide +kernel)
set_option maxRecDepth 20000 in
theorem gX3_darkFrame_X3_extra : GoodIn wsX3_darkFrame (wsV RX3 110 RX3 yX3_extra wsX3_extra) := goodIn_app (goodIn_of _ (by decide +kernel)) ggX3_darkFrame_X3_extra
theorem dX3_darkFrame_0 : decode cX3_darkFrame 0 = .ok (.aload_n 0, 1) := by decide +kernel
theorem dX3_darkFrame_1 : decode cX3_darkFrame 1 = .ok (.dup, 1) := by decide +kernel
theorem dX3_darkFrame_2 : decode cX3_darkFrame 2 = .ok (.getfield 133, 3) := by decide +kernel
theorem dX3_darkFrame_5 : decode cX3_darkFrame 5 = .ok (.iconst 1, 1) := by decide +kernel
theorem dX3_darkFrame_6 : decode cX3_darkFrame 6 = .ok (.iadd, 1) := by decide +kernel
theorem dX3_darkFrame_7 : decode cX3_darkFrame 7 = .ok (.putfield 133, 3) := by decide +kernel
theorem dX3_darkFrame_10 : decode cX3_darkFrame 10 = .ok (.iconst 1, 1) := by decide +kernel
theorem dX3_darkFrame_11 : decode cX3_darkFrame 11 = .ok (.aload_n 0, 1) := by decide +kernel
theorem dX3_darkFrame_12 : decode cX3_darkFrame 12 = .ok (.getfield 107, 3) := by decide +kernel
theorem dX3_darkFrame_15 : decode cX3_darkFrame 15 = .ok (.isub, 1) := by decide +kernel
theorem dX3_darkFrame_16 : decode cX3_darkFrame 16 = .ok (.istore_n 1, 1) := by decide +kernel
theorem dX3_darkFrame_17 : decode cX3_darkFrame 17 = .ok (.aload_n 0, 1) := by decide +kernel
theorem dX3_darkFrame_18 : decode cX3_darkFrame 18 = .ok (.getfield 133, 3) := by decide +kernel
theorem dX3_darkFrame_21 : decode cX3_darkFrame 21 = .ok (.iconst 2, 1) := by decide +kernel
theorem dX3_darkFrame_22 : decode cX3_darkFrame 22 = .ok (.if_icmp .le 58, 3) := by decide +kernel
theorem dX3_darkFrame_25 : decode cX3_darkFrame 25 = .ok (.aload_n 0, 1) := by decide +kernel
theorem dX3_darkFrame_26 : decode cX3_darkFrame 26 = .ok (.getfield 29, 3) := by decide +kernel
theorem dX3_darkFrame_29 : decode cX3_darkFrame 29 = .ok (.iload_n 1, 1) := by decide +kernel
theorem dX3_darkFrame_30 : decode cX3_darkFrame 30 = .ok (.baload, 1) := by decide +kernel
theorem dX3_darkFrame_31 : decode cX3_darkFrame 31 = .ok (.ifCond .ne 49, 3) := by decide +kernel
theorem dX3_darkFrame_34 : decode cX3_darkFrame 34 = .ok (.iconst 0, 1) := by decide +kernel
theorem dX3_darkFrame_35 : decode cX3_darkFrame 35 = .ok (.istore_n 2, 1) := by decide +kernel
theorem dX3_darkFrame_36 : decode cX3_darkFrame 36 = .ok (.iload_n 2, 1) := by decide +kernel
theorem dX3_darkFrame_37 : decode cX3_darkFrame 37 = .ok (.iconst 5, 1) := by decide +kernel
theorem dX3_darkFrame_38 : decode cX3_darkFrame 38 = .ok (.if_icmp .ge 32, 3) := by decide +kernel
theorem dX3_darkFrame_41 : decode cX3_darkFrame 41 = .ok (.aload_n 0, 1) := by decide +kernel
theorem dX3_darkFrame_42 : decode cX3_darkFrame 42 = .ok (.getfield 22, 3) := by decide +kernel
theorem dX3_darkFrame_45 : decode cX3_darkFrame 45 = .ok (.iload_n 2, 1) := by decide +kernel
theorem dX3_darkFrame_46 : decode cX3_darkFrame 46 = .ok (.dup2, 1) := by decide +kernel
theorem dX3_darkFrame_47 : decode cX3_darkFrame 47 = .ok (.iaload, 1) := by decide +kernel
theorem dX3_darkFrame_48 : decode cX3_darkFrame 48 = .ok (.aload_n 0, 1) := by decide +kernel
theorem dX3_darkFrame_49 : decode cX3_darkFrame 49 = .ok (.aload_n 0, 1) := by decide +kernel
theorem dX3_darkFrame_50 : decode cX3_darkFrame 50 = .ok (.getfield 107, 3) := by decide +kernel
theorem dX3_darkFrame_53 : decode cX3_darkFrame 53 = .ok (.invokevirtual 110, 3) := by decide +kernel
theorem dX3_darkFrame_56 : decode cX3_darkFrame 56 = .ok (.aload_n 0, 1) := by decide +kernel
theorem dX3_darkFrame_57 : decode cX3_darkFrame 57 = .ok (.iload_n 1, 1) := by decide +kernel
theorem dX3_darkFrame_58 : decode cX3_darkFrame 58 = .ok (.invokevirtual 110, 3) := by decide +kernel
theorem dX3_darkFrame_61 : decode cX3_darkFrame 61 = .ok (.isub, 1) := by decide +kernel
theorem dX3_darkFrame_62 : decode cX3_darkFrame 62 = .ok (.iadd, 1) := by decide +kernel
theorem dX3_darkFrame_63 : decode cX3_darkFrame 63 = .ok (.iastore, 1) := by decide +kernel
theorem dX3_darkFrame_64 : decode cX3_darkFrame 64 = .ok (.iinc 2 1, 3) := by decide +kernel
theorem dX3_darkFrame_67 : decode cX3_darkFrame 67 = .ok (.goto (-31), 3) := by decide +kernel
theorem dX3_darkFrame_70 : decode cX3_darkFrame 70 = .ok (.aload_n 0, 1) := by decide +kernel
theorem dX3_darkFrame_71 : decode cX3_darkFrame 71 = .ok (.iload_n 1, 1) := by decide +kernel
theorem dX3_darkFrame_72 : decode cX3_darkFrame 72 = .ok (.putfield 107, 3) := by decide +kernel
theorem dX3_darkFrame_75 : decode cX3_darkFrame 75 = .ok (.aload_n 0, 1) := by decide +kernel
theorem dX3_darkFrame_76 : decode cX3_darkFrame 76 = .ok (.iconst 0, 1) := by decide +kernel
theorem dX3_darkFrame_77 : decode cX3_darkFrame 77 = .ok (.putfield 133, 3) := by decide +kernel
theorem dX3_darkFrame_80 : decode cX3_darkFrame 80 = .ok (.return_, 1) := by decide +kernel
set_option maxRecDepth 20000 in
theorem ggX3_window_X3_mix : GoodIn wsX3_window wsX3_mix := goodIn_r _ [7, 8, 9] (by decide +kernel) (by decide +kernel)
set_option maxRecDepth 20000 in
theorem gX3_window_X3_mix : GoodIn wsX3_window (wsV RX3 136 RX3 yX3_mix wsX3_mix) := goodIn_app (goodIn_of _ (by decide +kernel)) ggX3_window_X3_mix
theorem dX3_window_0 : decode cX3_window 0 = .ok (.aload_n 0, 1) := by decide +kernel
theorem dX3_window_1 : decode cX3_window 1 = .ok (.aload_n 0, 1) := by decide +kernel
theorem dX3_window_2 : decode cX3_window 2 = .ok (.getfield 13, 3) := by decide +kernel
theorem dX3_window_5 : decode cX3_window 5 = .ok (.iload_n 1, 1) := by decide +kernel
theorem dX3_window_6 : decode cX3_window 6 = .ok (.iaload, 1) := by decide +kernel
theorem dX3_window_7 : decode cX3_window 7 = .ok (.aload_n 0, 1) := by decide +kernel
theorem dX3_window_8 : decode cX3_window 8 = .ok (.getfield 19, 3) := by decide +kernel
theorem dX3_window_11 : decode cX3_window 11 = .ok (.iload_n 1, 1) := by decide +kernel
theorem dX3_window_12 : decode cX3_window 12 = .ok (.iaload, 1) := by decide +kernel
theorem dX3_window_13 : decode cX3_window 13 = .ok (.invokevirtual 136, 3) := by decide +kernel
theorem dX3_window_16 : decode cX3_window 16 = .ok (.iconst 1, 1) := by decide +kernel
theorem dX3_window_17 : decode cX3_window 17 = .ok (.iushr, 1) := by decide +kernel
theorem dX3_window_18 : decode cX3_window 18 = .ok (.bipush 8, 2) := by decide +kernel
theorem dX3_window_20 : decode cX3_window 20 = .ok (.irem, 1) := by decide +kernel
theorem dX3_window_21 : decode cX3_window 21 = .ok (.ireturn, 1) := by decide +kernel
set_option maxRecDepth 20000 in
theorem ggX3_quietFrame_X3_window : GoodIn wsX3_quietFrame wsX3_window := goodIn_r _ [7, 8, 2, 9, 10, 11, 6, 12, 13, 14, 26, 27, 28, 29, 30, 31, 32, 33, 34, 35, 36, 37, 38, 39, 40, 41, 42, 43, 44, 45, 46, 47, 48, 49, 50, 51, 52, 53, 54, 55, 56, 57, 58, 59, 60, 61, 62, 63, 64, 65, 66] (by decide +kernel) (by decide +kernel)
set_option maxRecDepth 20000 in
theorem gX3_quietFrame_X3_window : GoodIn wsX3_quietFrame (wsV RX3 140 RX3 yX3_window wsX3_window) := goodIn_app (goodIn_of _ (by decide +kernel)) ggX3_quietFrame_X3_window
set_option maxRecDepth 20000 in
theorem ggX3_quietFrame_X3_level : GoodIn wsX3_quietFrame wsX3_level := goodIn_r _ [18, 19, 20, 21, 22, 23, 24, 6, 25, 26, 27, 28, 29, 30, 31, 32, 33, 34, 35, 36, 37, 38, 39, 40, 41, 42, 43, 44, 45, 46, 47, 48, 49, 50, 51, 52, 53, 54, 55, 56, 57, 58, 59, 60, 61, 62, 63, 64, 65, 66] (by decide +kernel) (by decide +kernel)
set_option maxRecDepth 20000 in
theorem gX3_quietFrame_X3_level : GoodIn wsX3_quietFrame (wsV RX3 143 RX3 yX3_level wsX3_level) := goodIn_app (goodIn_of _ (by decide +kernel)) ggX3_quietFrame_X3_level
theorem dX3_quietFrame_0 : decode cX3_quietFrame 0 = .ok (.iconst 0, 1) := by decide +kernel
theorem dX3_quietFrame_1 : decode cX3_quietFrame 1 = .ok (.istore_n 1, 1) := by decide +kernel
theorem dX3_quietFrame_2 : decode cX3_quietFrame 2 = .ok (.iconst 0, 1) := by decide +kernel
theorem dX3_quietFrame_3 : decode cX3_quietFrame 3 = .ok (.istore_n 2, 1) := by decide +kernel
theorem dX3_quietFrame_4 : decode cX3_quietFrame 4 = .ok (.iload_n 2, 1) := by decide +kernel
theorem dX3_quietFrame_5 : decode cX3_quietFrame 5 = .ok (.iconst 5, 1) := by decide +kernel
theorem dX3_quietFrame_6 : decode cX3_quietFrame 6 = .ok (.if_icmp .ge 95, 3) := by decide +kernel
theorem dX3_quietFrame_9 : decode cX3_quietFrame 9 = .ok (.aload_n 0, 1) := by decide +kernel
theorem dX3_quietFrame_10 : decode cX3_quietFrame 10 = .ok (.getfield 7, 3) := by decide +kernel
theorem dX3_quietFrame_13 : decode cX3_quietFrame 13 = .ok (.iload_n 2, 1) := by decide +kernel
theorem dX3_quietFrame_14 : decode cX3_quietFrame 14 = .ok (.iaload, 1) := by decide +kernel
theorem dX3_quietFrame_15 : decode cX3_quietFrame 15 = .ok (.iconst 1, 1) := by decide +kernel
theorem dX3_quietFrame_16 : decode cX3_quietFrame 16 = .ok (.if_icmp .ne 7, 3) := by decide +kernel
theorem dX3_quietFrame_19 : decode cX3_quietFrame 19 = .ok (.iconst 1, 1) := by decide +kernel
theorem dX3_quietFrame_20 : decode cX3_quietFrame 20 = .ok (.goto 4, 3) := by decide +kernel
theorem dX3_quietFrame_23 : decode cX3_quietFrame 23 = .ok (.iconst 0, 1) := by decide +kernel
theorem dX3_quietFrame_24 : decode cX3_quietFrame 24 = .ok (.istore_n 3, 1) := by decide +kernel
theorem dX3_quietFrame_25 : decode cX3_quietFrame 25 = .ok (.iconst 0, 1) := by decide +kernel
theorem dX3_quietFrame_26 : decode cX3_quietFrame 26 = .ok (.istore 4, 2) := by decide +kernel
theorem dX3_quietFrame_28 : decode cX3_quietFrame 28 = .ok (.iload 4, 2) := by decide +kernel
theorem dX3_quietFrame_30 : decode cX3_quietFrame 30 = .ok (.iconst 5, 1) := by decide +kernel
theorem dX3_quietFrame_31 : decode cX3_quietFrame 31 = .ok (.if_icmp .ge 50, 3) := by decide +kernel
theorem dX3_quietFrame_34 : decode cX3_quietFrame 34 = .ok (.iload_n 3, 1) := by decide +kernel
theorem dX3_quietFrame_35 : decode cX3_quietFrame 35 = .ok (.ifCond .eq 46, 3) := by decide +kernel
theorem dX3_quietFrame_38 : decode cX3_quietFrame 38 = .ok (.iload 4, 2) := by decide +kernel
theorem dX3_quietFrame_40 : decode cX3_quietFrame 40 = .ok (.iload_n 2, 1) := by decide +kernel
theorem dX3_quietFrame_41 : decode cX3_quietFrame 41 = .ok (.if_icmp .eq 28, 3) := by decide +kernel
theorem dX3_quietFrame_44 : decode cX3_quietFrame 44 = .ok (.aload_n 0, 1) := by decide +kernel
theorem dX3_quietFrame_45 : decode cX3_quietFrame 45 = .ok (.getfield 7, 3) := by decide +kernel
theorem dX3_quietFrame_48 : decode cX3_quietFrame 48 = .ok (.iload 4, 2) := by decide +kernel
theorem dX3_quietFrame_50 : decode cX3_quietFrame 50 = .ok (.iaload, 1) := by decide +kernel
theorem dX3_quietFrame_51 : decode cX3_quietFrame 51 = .ok (.iconst 1, 1) := by decide +kernel
theorem dX3_quietFrame_52 : decode cX3_quietFrame 52 = .ok (.if_icmp .ne 17, 3) := by decide +kernel
theorem dX3_quietFrame_55 : decode cX3_quietFrame 55 = .ok (.aload_n 0, 1) := by decide +kernel
theorem dX3_quietFrame_56 : decode cX3_quietFrame 56 = .ok (.iload 4, 2) := by decide +kernel
theorem dX3_quietFrame_58 : decode cX3_quietFrame 58 = .ok (.invokevirtual 140, 3) := by decide +kernel
theorem dX3_quietFrame_61 : decode cX3_quietFrame 61 = .ok (.aload_n 0, 1) := by decide +kernel
theorem dX3_quietFrame_62 : decode cX3_quietFrame 62 = .ok (.iload_n 2, 1) := by decide +kernel
theorem dX3_quietFrame_63 : decode cX3_quietFrame 63 = .ok (.invokevirtual 140, 3) := by decide +kernel
theorem dX3_quietFrame_66 : decode cX3_quietFrame 66 = .ok (.if_icmp .eq 7, 3) := by decide +kernel
theorem dX3_quietFrame_69 : decode cX3_quietFrame 69 = .ok (.iconst 1, 1) := by decide +kernel
theorem dX3_quietFrame_70 : decode cX3_quietFrame 70 = .ok (.goto 4, 3) := by decide +kernel
theorem dX3_quietFrame_73 : decode cX3_quietFrame 73 = .ok (.iconst 0, 1) := by decide +kernel
theorem dX3_quietFrame_74 : decode cX3_quietFrame 74 = .ok (.istore_n 3, 1) := by decide +kernel
theorem dX3_quietFrame_75 : decode cX3_quietFrame 75 = .ok (.iinc 4 1, 3) := by decide +kernel
theorem dX3_quietFrame_78 : decode cX3_quietFrame 78 = .ok (.goto (-50), 3) := by decide +kernel
theorem dX3_quietFrame_81 : decode cX3_quietFrame 81 = .ok (.iload_n 3, 1) := by decide +kernel
theorem dX3_quietFrame_82 : decode cX3_quietFrame 82 = .ok (.ifCond .eq 11, 3) := by decide +kernel
theorem dX3_quietFrame_85 : decode cX3_quietFrame 85 = .ok (.iload_n 1, 1) := by decide +kernel
theorem dX3_quietFrame_86 : decode cX3_quietFrame 86 = .ok (.iconst 1, 1) := by decide +kernel
theorem dX3_quietFrame_87 : decode cX3_quietFrame 87 = .ok (.iload_n 2, 1) := by decide +kernel
theorem dX3_quietFrame_88 : decode cX3_quietFrame 88 = .ok (.ishl, 1) := by decide +kernel
theorem dX3_quietFrame_89 : decode cX3_quietFrame 89 = .ok (.ior, 1) := by decide +kernel
theorem dX3_quietFrame_90 : decode cX3_quietFrame 90 = .ok (.goto 4, 3) := by decide +kernel
theorem dX3_quietFrame_93 : decode cX3_quietFrame 93 = .ok (.iload_n 1, 1) := by decide +kernel
theorem dX3_quietFrame_94 : decode cX3_quietFrame 94 = .ok (.istore_n 1, 1) := by decide +kernel
theorem dX3_quietFrame_95 : decode cX3_quietFrame 95 = .ok (.iinc 2 1, 3) := by decide +kernel
theorem dX3_quietFrame_98 : decode cX3_quietFrame 98 = .ok (.goto (-94), 3) := by decide +kernel
theorem dX3_quietFrame_101 : decode cX3_quietFrame 101 = .ok (.iconst 0, 1) := by decide +kernel
theorem dX3_quietFrame_102 : decode cX3_quietFrame 102 = .ok (.istore_n 2, 1) := by decide +kernel
theorem dX3_quietFrame_103 : decode cX3_quietFrame 103 = .ok (.iload_n 2, 1) := by decide +kernel
theorem dX3_quietFrame_104 : decode cX3_quietFrame 104 = .ok (.iconst 5, 1) := by decide +kernel
theorem dX3_quietFrame_105 : decode cX3_quietFrame 105 = .ok (.if_icmp .ge 53, 3) := by decide +kernel
theorem dX3_quietFrame_108 : decode cX3_quietFrame 108 = .ok (.iload_n 1, 1) := by decide +kernel
theorem dX3_quietFrame_109 : decode cX3_quietFrame 109 = .ok (.iload_n 2, 1) := by decide +kernel
theorem dX3_quietFrame_110 : decode cX3_quietFrame 110 = .ok (.ishr, 1) := by decide +kernel
theorem dX3_quietFrame_111 : decode cX3_quietFrame 111 = .ok (.iconst 1, 1) := by decide +kernel
theorem dX3_quietFrame_112 : decode cX3_quietFrame 112 = .ok (.iand, 1) := by decide +kernel
theorem dX3_quietFrame_113 : decode cX3_quietFrame 113 = .ok (.iconst 1, 1) := by decide +kernel
theorem dX3_quietFrame_114 : decode cX3_quietFrame 114 = .ok (.if_icmp .ne 18, 3) := by decide +kernel
theorem dX3_quietFrame_117 : decode cX3_quietFrame 117 = .ok (.aload_n 0, 1) := by decide +kernel
theorem dX3_quietFrame_118 : decode cX3_quietFrame 118 = .ok (.getfield 7, 3) := by decide +kernel
theorem dX3_quietFrame_121 : decode cX3_quietFrame 121 = .ok (.iload_n 2, 1) := by decide +kernel
theorem dX3_quietFrame_122 : decode cX3_quietFrame 122 = .ok (.iconst 2, 1) := by decide +kernel
theorem dX3_quietFrame_123 : decode cX3_quietFrame 123 = .ok (.iastore, 1) := by decide +kernel
theorem dX3_quietFrame_124 : decode cX3_quietFrame 124 = .ok (.aload_n 0, 1) := by decide +kernel
theorem dX3_quietFrame_125 : decode cX3_quietFrame 125 = .ok (.iload_n 2, 1) := by decide +kernel
theorem dX3_quietFrame_126 : decode cX3_quietFrame 126 = .ok (.invokevirtual 143, 3) := by decide +kernel
theorem dX3_quietFrame_129 : decode cX3_quietFrame 129 = .ok (.goto 23, 3) := by decide +kernel
theorem dX3_quietFrame_132 : decode cX3_quietFrame 132 = .ok (.aload_n 0, 1) := by decide +kernel
theorem dX3_quietFrame_133 : decode cX3_quietFrame 133 = .ok (.getfield 7, 3) := by decide +kernel
theorem dX3_quietFrame_136 : decode cX3_quietFrame 136 = .ok (.iload_n 2, 1) := by decide +kernel
theorem dX3_quietFrame_137 : decode cX3_quietFrame 137 = .ok (.iaload, 1) := by decide +kernel
theorem dX3_quietFrame_138 : decode cX3_quietFrame 138 = .ok (.iconst 1, 1) := by decide +kernel
theorem dX3_quietFrame_139 : decode cX3_quietFrame 139 = .ok (.if_icmp .ne 13, 3) := by decide +kernel
theorem dX3_quietFrame_142 : decode cX3_quietFrame 142 = .ok (.aload_n 0, 1) := by decide +kernel
theorem dX3_quietFrame_143 : decode cX3_quietFrame 143 = .ok (.getfield 19, 3) := by decide +kernel
theorem dX3_quietFrame_146 : decode cX3_quietFrame 146 = .ok (.iload_n 2, 1) := by decide +kernel
theorem dX3_quietFrame_147 : decode cX3_quietFrame 147 = .ok (.dup2, 1) := by decide +kernel
theorem dX3_quietFrame_148 : decode cX3_quietFrame 148 = .ok (.iaload, 1) := by decide +kernel
theorem dX3_quietFrame_149 : decode cX3_quietFrame 149 = .ok (.iconst 1, 1) := by decide +kernel
theorem dX3_quietFrame_150 : decode cX3_quietFrame 150 = .ok (.iadd, 1) := by decide +kernel
theorem dX3_quietFrame_151 : decode cX3_quietFrame 151 = .ok (.iastore, 1) := by decide +kernel
theorem dX3_quietFrame_152 : decode cX3_quietFrame 152 = .ok (.iinc 2 1, 3) := by decide +kernel
theorem dX3_quietFrame_155 : decode cX3_quietFrame 155 = .ok (.goto (-52), 3) := by decide +kernel
theorem dX3_quietFrame_158 : decode cX3_quietFrame 158 = .ok (.return_, 1) := by decide +kernel
set_option maxRecDepth 20000 in
theorem ggX3_look_X3_errorOf : GoodIn wsX3_look wsX3_errorOf := goodIn_r _ [8, 9, 10, 11, 12, 13, 14, 7, 15, 20, 21, 22, 23, 24, 25, 26, 27, 28, 29, 30, 31, 32, 33, 34, 35, 36, 37, 38, 39, 40, 41, 42, 43, 44, 45, 46, 47, 48, 49, 50, 51, 52, 53, 54, 55, 56, 57, 58, 59, 60] (by decide +kernel) (by decide +kernel)
set_option maxRecDepth 20000 in
theorem gX3_look_X3_errorOf : GoodIn wsX3_look (wsV RX3 146 RX3 yX3_errorOf wsX3_errorOf) := goodIn_app (goodIn_of _ (by decide +kernel)) ggX3_look_X3_errorOf
set_option maxRecDepth 20000 in
theorem ggX3_look_X3_level : GoodIn wsX3_look wsX3_level := goodIn_r _ [19, 11, 9, 10, 12, 13, 14, 7, 15, 20, 21, 22, 23, 24, 25, 26, 27, 28, 29, 30, 31, 32, 33, 34, 35, 36, 37, 38, 39, 40, 41, 42, 43, 44, 45, 46, 47, 48, 49, 50, 51, 52, 53, 54, 55, 56, 57, 58, 59, 60] (by decide +kernel) (by decide +kernel)
set_option maxRecDepth 20000 in
theorem gX3_look_X3_level : GoodIn wsX3_look (wsV RX3 143 RX3 yX3_level wsX3_level) := goodIn_app (goodIn_of _ (by decide +kernel)) ggX3_look_X3_level
theorem dX3_look_0 : decode cX3_look 0 = .ok (.aload_n 0, 1) := by decide +kernel
theorem dX3_look_1 : decode cX3_look 1 = .ok (.iload_n 1, 1) := by decide +kernel
theorem dX3_look_2 : decode cX3_look 2 = .ok (.invokevirtual 146, 3) := by decide +kernel
theorem dX3_look_5 : decode cX3_look 5 = .ok (.istore_n 2, 1) := by decide +kernel
theorem dX3_look_6 : decode cX3_look 6 = .ok (.iload_n 2, 1) := by decide +kernel
theorem dX3_look_7 : decode cX3_look 7 = .ok (.bipush 8, 2) := by decide +kernel
theorem dX3_look_9 : decode cX3_look 9 = .ok (.if_icmp .gt 9, 3) := by decide +kernel
theorem dX3_look_12 : decode cX3_look 12 = .ok (.iload_n 2, 1) := by decide +kernel
theorem dX3_look_13 : decode cX3_look 13 = .ok (.bipush (-8), 2) := by decide +kernel
theorem dX3_look_15 : decode cX3_look 15 = .ok (.if_icmp .ge 30, 3) := by decide +kernel
theorem dX3_look_18 : decode cX3_look 18 = .ok (.aload_n 0, 1) := by decide +kernel
theorem dX3_look_19 : decode cX3_look 19 = .ok (.getfield 7, 3) := by decide +kernel
theorem dX3_look_22 : decode cX3_look 22 = .ok (.iload_n 1, 1) := by decide +kernel
theorem dX3_look_23 : decode cX3_look 23 = .ok (.iconst 1, 1) := by decide +kernel
theorem dX3_look_24 : decode cX3_look 24 = .ok (.iastore, 1) := by decide +kernel
theorem dX3_look_25 : decode cX3_look 25 = .ok (.aload_n 0, 1) := by decide +kernel
theorem dX3_look_26 : decode cX3_look 26 = .ok (.getfield 19, 3) := by decide +kernel
theorem dX3_look_29 : decode cX3_look 29 = .ok (.iload_n 1, 1) := by decide +kernel
theorem dX3_look_30 : decode cX3_look 30 = .ok (.iconst 0, 1) := by decide +kernel
theorem dX3_look_31 : decode cX3_look 31 = .ok (.iastore, 1) := by decide +kernel
theorem dX3_look_32 : decode cX3_look 32 = .ok (.aload_n 0, 1) := by decide +kernel
theorem dX3_look_33 : decode cX3_look 33 = .ok (.dup, 1) := by decide +kernel
theorem dX3_look_34 : decode cX3_look 34 = .ok (.getfield 149, 3) := by decide +kernel
theorem dX3_look_37 : decode cX3_look 37 = .ok (.iconst 1, 1) := by decide +kernel
theorem dX3_look_38 : decode cX3_look 38 = .ok (.iadd, 1) := by decide +kernel
theorem dX3_look_39 : decode cX3_look 39 = .ok (.putfield 149, 3) := by decide +kernel
theorem dX3_look_42 : decode cX3_look 42 = .ok (.goto 19, 3) := by decide +kernel
theorem dX3_look_45 : decode cX3_look 45 = .ok (.iload_n 2, 1) := by decide +kernel
theorem dX3_look_46 : decode cX3_look 46 = .ok (.iconst 4, 1) := by decide +kernel
theorem dX3_look_47 : decode cX3_look 47 = .ok (.if_icmp .gt 9, 3) := by decide +kernel
theorem dX3_look_50 : decode cX3_look 50 = .ok (.iload_n 2, 1) := by decide +kernel
theorem dX3_look_51 : decode cX3_look 51 = .ok (.bipush (-4), 2) := by decide +kernel
theorem dX3_look_53 : decode cX3_look 53 = .ok (.if_icmp .ge 8, 3) := by decide +kernel
theorem dX3_look_56 : decode cX3_look 56 = .ok (.aload_n 0, 1) := by decide +kernel
theorem dX3_look_57 : decode cX3_look 57 = .ok (.iload_n 1, 1) := by decide +kernel
theorem dX3_look_58 : decode cX3_look 58 = .ok (.invokevirtual 143, 3) := by decide +kernel
theorem dX3_look_61 : decode cX3_look 61 = .ok (.return_, 1) := by decide +kernel
theorem dX3_wants_0 : decode cX3_wants 0 = .ok (.aload_n 0, 1) := by decide +kernel
theorem dX3_wants_1 : decode cX3_wants 1 = .ok (.getfield 7, 3) := by decide +kernel
theorem dX3_wants_4 : decode cX3_wants 4 = .ok (.iload_n 1, 1) := by decide +kernel
theorem dX3_wants_5 : decode cX3_wants 5 = .ok (.iconst 2, 1) := by decide +kernel
theorem dX3_wants_6 : decode cX3_wants 6 = .ok (.idiv, 1) := by decide +kernel
theorem dX3_wants_7 : decode cX3_wants 7 = .ok (.iaload, 1) := by decide +kernel
theorem dX3_wants_8 : decode cX3_wants 8 = .ok (.iconst 2, 1) := by decide +kernel
theorem dX3_wants_9 : decode cX3_wants 9 = .ok (.if_icmp .ne 37, 3) := by decide +kernel
theorem dX3_wants_12 : decode cX3_wants 12 = .ok (.aload_n 0, 1) := by decide +kernel
theorem dX3_wants_13 : decode cX3_wants 13 = .ok (.getfield 68, 3) := by decide +kernel
theorem dX3_wants_16 : decode cX3_wants 16 = .ok (.iload_n 1, 1) := by decide +kernel
theorem dX3_wants_17 : decode cX3_wants 17 = .ok (.iaload, 1) := by decide +kernel
theorem dX3_wants_18 : decode cX3_wants 18 = .ok (.aload_n 0, 1) := by decide +kernel
theorem dX3_wants_19 : decode cX3_wants 19 = .ok (.getfield 59, 3) := by decide +kernel
theorem dX3_wants_22 : decode cX3_wants 22 = .ok (.iload_n 1, 1) := by decide +kernel
theorem dX3_wants_23 : decode cX3_wants 23 = .ok (.iaload, 1) := by decide +kernel
theorem dX3_wants_24 : decode cX3_wants 24 = .ok (.if_icmp .ge 22, 3) := by decide +kernel
theorem dX3_wants_27 : decode cX3_wants 27 = .ok (.aload_n 0, 1) := by decide +kernel
theorem dX3_wants_28 : decode cX3_wants 28 = .ok (.getfield 68, 3) := by decide +kernel
theorem dX3_wants_31 : decode cX3_wants 31 = .ok (.iload_n 1, 1) := by decide +kernel
theorem dX3_wants_32 : decode cX3_wants 32 = .ok (.iaload, 1) := by decide +kernel
theorem dX3_wants_33 : decode cX3_wants 33 = .ok (.aload_n 0, 1) := by decide +kernel
theorem dX3_wants_34 : decode cX3_wants 34 = .ok (.getfield 65, 3) := by decide +kernel
theorem dX3_wants_37 : decode cX3_wants 37 = .ok (.iload_n 1, 1) := by decide +kernel
theorem dX3_wants_38 : decode cX3_wants 38 = .ok (.iaload, 1) := by decide +kernel
theorem dX3_wants_39 : decode cX3_wants 39 = .ok (.if_icmp .ge 7, 3) := by decide +kernel
theorem dX3_wants_42 : decode cX3_wants 42 = .ok (.iconst 1, 1) := by decide +kernel
theorem dX3_wants_43 : decode cX3_wants 43 = .ok (.goto 4, 3) := by decide +kernel
theorem dX3_wants_46 : decode cX3_wants 46 = .ok (.iconst 0, 1) := by decide +kernel
theorem dX3_wants_47 : decode cX3_wants 47 = .ok (.ireturn, 1) := by decide +kernel
set_option maxRecDepth 20000 in
theorem ggX3_map_X3_wants : GoodIn wsX3_map wsX3_wants := goodIn_r _ [13, 2, 6, 14, 3, 15, 16, 17, 18, 19, 20, 21, 22, 23, 24, 25, 26, 27, 28, 29, 30, 31, 32, 33, 34, 35, 36, 37, 38, 39, 40, 41, 42, 43, 44, 45, 46, 47, 48, 49, 50, 51, 52, 53, 54, 55] (by decide +kernel) (by decide +kernel)
set_option maxRecDepth 20000 in
theorem gX3_map_X3_wants : GoodIn wsX3_map (wsV RX3 155 RX3 yX3_wants wsX3_wants) := goodIn_app (goodIn_of _ (by decide +kernel)) ggX3_map_X3_wants
theorem dX3_map_0 : decode cX3_map 0 = .ok (.aload_n 0, 1) := by decide +kernel
theorem dX3_map_1 : decode cX3_map 1 = .ok (.bipush 60, 2) := by decide +kernel
theorem dX3_map_3 : decode cX3_map 3 = .ok (.putfield 152, 3) := by decide +kernel
theorem dX3_map_6 : decode cX3_map 6 = .ok (.iconst 0, 1) := by decide +kernel
theorem dX3_map_7 : decode cX3_map 7 = .ok (.istore_n 1, 1) := by decide +kernel
theorem dX3_map_8 : decode cX3_map 8 = .ok (.iload_n 1, 1) := by decide +kernel
theorem dX3_map_9 : decode cX3_map 9 = .ok (.iconst 5, 1) := by decide +kernel
theorem dX3_map_10 : decode cX3_map 10 = .ok (.if_icmp .ge 33, 3) := by decide +kernel
theorem dX3_map_13 : decode cX3_map 13 = .ok (.aload_n 0, 1) := by decide +kernel
theorem dX3_map_14 : decode cX3_map 14 = .ok (.dup, 1) := by decide +kernel
theorem dX3_map_15 : decode cX3_map 15 = .ok (.getfield 152, 3) := by decide +kernel
theorem dX3_map_18 : decode cX3_map 18 = .ok (.aload_n 0, 1) := by decide +kernel
theorem dX3_map_19 : decode cX3_map 19 = .ok (.getfield 7, 3) := by decide +kernel
theorem dX3_map_22 : decode cX3_map 22 = .ok (.iload_n 1, 1) := by decide +kernel
theorem dX3_map_23 : decode cX3_map 23 = .ok (.iaload, 1) := by decide +kernel
theorem dX3_map_24 : decode cX3_map 24 = .ok (.iconst 2, 1) := by decide +kernel
theorem dX3_map_25 : decode cX3_map 25 = .ok (.if_icmp .ne 7, 3) := by decide +kernel
theorem dX3_map_28 : decode cX3_map 28 = .ok (.iconst 1, 1) := by decide +kernel
theorem dX3_map_29 : decode cX3_map 29 = .ok (.goto 4, 3) := by decide +kernel
theorem dX3_map_32 : decode cX3_map 32 = .ok (.iconst 0, 1) := by decide +kernel
theorem dX3_map_33 : decode cX3_map 33 = .ok (.isub, 1) := by decide +kernel
theorem dX3_map_34 : decode cX3_map 34 = .ok (.putfield 152, 3) := by decide +kernel
theorem dX3_map_37 : decode cX3_map 37 = .ok (.iinc 1 1, 3) := by decide +kernel
theorem dX3_map_40 : decode cX3_map 40 = .ok (.goto (-32), 3) := by decide +kernel
theorem dX3_map_43 : decode cX3_map 43 = .ok (.iconst 0, 1) := by decide +kernel
theorem dX3_map_44 : decode cX3_map 44 = .ok (.istore_n 1, 1) := by decide +kernel
theorem dX3_map_45 : decode cX3_map 45 = .ok (.iload_n 1, 1) := by decide +kernel
theorem dX3_map_46 : decode cX3_map 46 = .ok (.bipush 10, 2) := by decide +kernel
theorem dX3_map_48 : decode cX3_map 48 = .ok (.if_icmp .ge 104, 3) := by decide +kernel
theorem dX3_map_51 : decode cX3_map 51 = .ok (.aload_n 0, 1) := by decide +kernel
theorem dX3_map_52 : decode cX3_map 52 = .ok (.getfield 65, 3) := by decide +kernel
theorem dX3_map_55 : decode cX3_map 55 = .ok (.iload_n 1, 1) := by decide +kernel
theorem dX3_map_56 : decode cX3_map 56 = .ok (.iaload, 1) := by decide +kernel
theorem dX3_map_57 : decode cX3_map 57 = .ok (.aload_n 0, 1) := by decide +kernel
theorem dX3_map_58 : decode cX3_map 58 = .ok (.getfield 53, 3) := by decide +kernel
theorem dX3_map_61 : decode cX3_map 61 = .ok (.iload_n 1, 1) := by decide +kernel
theorem dX3_map_62 : decode cX3_map 62 = .ok (.iaload, 1) := by decide +kernel
theorem dX3_map_63 : decode cX3_map 63 = .ok (.isub, 1) := by decide +kernel
theorem dX3_map_64 : decode cX3_map 64 = .ok (.istore_n 2, 1) := by decide +kernel
theorem dX3_map_65 : decode cX3_map 65 = .ok (.iload_n 2, 1) := by decide +kernel
theorem dX3_map_66 : decode cX3_map 66 = .ok (.ifCond .ge 7, 3) := by decide +kernel
theorem dX3_map_69 : decode cX3_map 69 = .ok (.iconst 0, 1) := by decide +kernel
theorem dX3_map_70 : decode cX3_map 70 = .ok (.goto 23, 3) := by decide +kernel
theorem dX3_map_73 : decode cX3_map 73 = .ok (.iload_n 2, 1) := by decide +kernel
theorem dX3_map_74 : decode cX3_map 74 = .ok (.aload_n 0, 1) := by decide +kernel
theorem dX3_map_75 : decode cX3_map 75 = .ok (.getfield 56, 3) := by decide +kernel
theorem dX3_map_78 : decode cX3_map 78 = .ok (.iload_n 1, 1) := by decide +kernel
theorem dX3_map_79 : decode cX3_map 79 = .ok (.iaload, 1) := by decide +kernel
theorem dX3_map_80 : decode cX3_map 80 = .ok (.if_icmp .ge 7, 3) := by decide +kernel
theorem dX3_map_83 : decode cX3_map 83 = .ok (.iload_n 2, 1) := by decide +kernel
theorem dX3_map_84 : decode cX3_map 84 = .ok (.goto 9, 3) := by decide +kernel
theorem dX3_map_87 : decode cX3_map 87 = .ok (.aload_n 0, 1) := by decide +kernel
theorem dX3_map_88 : decode cX3_map 88 = .ok (.getfield 56, 3) := by decide +kernel
theorem dX3_map_91 : decode cX3_map 91 = .ok (.iload_n 1, 1) := by decide +kernel
theorem dX3_map_92 : decode cX3_map 92 = .ok (.iaload, 1) := by decide +kernel
theorem dX3_map_93 : decode cX3_map 93 = .ok (.istore_n 3, 1) := by decide +kernel
theorem dX3_map_94 : decode cX3_map 94 = .ok (.aload_n 0, 1) := by decide +kernel
theorem dX3_map_95 : decode cX3_map 95 = .ok (.getfield 68, 3) := by decide +kernel
theorem dX3_map_98 : decode cX3_map 98 = .ok (.iload_n 1, 1) := by decide +kernel
theorem dX3_map_99 : decode cX3_map 99 = .ok (.aload_n 0, 1) := by decide +kernel
theorem dX3_map_100 : decode cX3_map 100 = .ok (.getfield 7, 3) := by decide +kernel
theorem dX3_map_103 : decode cX3_map 103 = .ok (.iload_n 1, 1) := by decide +kernel
theorem dX3_map_104 : decode cX3_map 104 = .ok (.iconst 2, 1) := by decide +kernel
theorem dX3_map_105 : decode cX3_map 105 = .ok (.idiv, 1) := by decide +kernel
theorem dX3_map_106 : decode cX3_map 106 = .ok (.iaload, 1) := by decide +kernel
theorem dX3_map_107 : decode cX3_map 107 = .ok (.iconst 2, 1) := by decide +kernel
theorem dX3_map_108 : decode cX3_map 108 = .ok (.if_icmp .ne 14, 3) := by decide +kernel
theorem dX3_map_111 : decode cX3_map 111 = .ok (.aload_n 0, 1) := by decide +kernel
theorem dX3_map_112 : decode cX3_map 112 = .ok (.getfield 53, 3) := by decide +kernel
theorem dX3_map_115 : decode cX3_map 115 = .ok (.iload_n 1, 1) := by decide +kernel
theorem dX3_map_116 : decode cX3_map 116 = .ok (.iaload, 1) := by decide +kernel
theorem dX3_map_117 : decode cX3_map 117 = .ok (.iload_n 3, 1) := by decide +kernel
theorem dX3_map_118 : decode cX3_map 118 = .ok (.iadd, 1) := by decide +kernel
theorem dX3_map_119 : decode cX3_map 119 = .ok (.goto 4, 3) := by decide +kernel
theorem dX3_map_122 : decode cX3_map 122 = .ok (.iconst 0, 1) := by decide +kernel
theorem dX3_map_123 : decode cX3_map 123 = .ok (.iastore, 1) := by decide +kernel
theorem dX3_map_124 : decode cX3_map 124 = .ok (.aload_n 0, 1) := by decide +kernel
theorem dX3_map_125 : decode cX3_map 125 = .ok (.getfield 71, 3) := by decide +kernel
theorem dX3_map_128 : decode cX3_map 128 = .ok (.iload_n 1, 1) := by decide +kernel
theorem dX3_map_129 : decode cX3_map 129 = .ok (.iconst 0, 1) := by decide +kernel
theorem dX3_map_130 : decode cX3_map 130 = .ok (.iastore, 1) := by decide +kernel
theorem dX3_map_131 : decode cX3_map 131 = .ok (.aload_n 0, 1) := by decide +kernel
theorem dX3_map_132 : decode cX3_map 132 = .ok (.dup, 1) := by decide +kernel
theorem dX3_map_133 : decode cX3_map 133 = .ok (.getfield 152, 3) := by decide +kernel
theorem dX3_map_136 : decode cX3_map 136 = .ok (.aload_n 0, 1) := by decide +kernel
theorem dX3_map_137 : decode cX3_map 137 = .ok (.getfield 68, 3) := by decide +kernel
theorem dX3_map_140 : decode cX3_map 140 = .ok (.iload_n 1, 1) := by decide +kernel
theorem dX3_map_141 : decode cX3_map 141 = .ok (.iaload, 1) := by decide +kernel
theorem dX3_map_142 : decode cX3_map 142 = .ok (.isub, 1) := by decide +kernel
theorem dX3_map_143 : decode cX3_map 143 = .ok (.putfield 152, 3) := by decide +kernel
theorem dX3_map_146 : decode cX3_map 146 = .ok (.iinc 1 1, 3) := by decide +kernel
theorem dX3_map_149 : decode cX3_map 149 = .ok (.goto (-104), 3) := by decide +kernel
theorem dX3_map_152 : decode cX3_map 152 = .ok (.iconst 1, 1) := by decide +kernel
theorem dX3_map_153 : decode cX3_map 153 = .ok (.istore_n 1, 1) := by decide +kernel
theorem dX3_map_154 : decode cX3_map 154 = .ok (.iload_n 1, 1) := by decide +kernel
theorem dX3_map_155 : decode cX3_map 155 = .ok (.ifCond .eq 120, 3) := by decide +kernel
theorem dX3_map_158 : decode cX3_map 158 = .ok (.aload_n 0, 1) := by decide +kernel
theorem dX3_map_159 : decode cX3_map 159 = .ok (.getfield 152, 3) := by decide +kernel
theorem dX3_map_162 : decode cX3_map 162 = .ok (.ifCond .le 113, 3) := by decide +kernel
theorem dX3_map_165 : decode cX3_map 165 = .ok (.iconst (-1), 1) := by decide +kernel
theorem dX3_map_166 : decode cX3_map 166 = .ok (.istore_n 2, 1) := by decide +kernel
theorem dX3_map_167 : decode cX3_map 167 = .ok (.iconst 0, 1) := by decide +kernel
theorem dX3_map_168 : decode cX3_map 168 = .ok (.istore_n 3, 1) := by decide +kernel
theorem dX3_map_169 : decode cX3_map 169 = .ok (.iload_n 3, 1) := by decide +kernel
theorem dX3_map_170 : decode cX3_map 170 = .ok (.bipush 10, 2) := by decide +kernel
theorem dX3_map_172 : decode cX3_map 172 = .ok (.if_icmp .ge 56, 3) := by decide +kernel
theorem dX3_map_175 : decode cX3_map 175 = .ok (.aload_n 0, 1) := by decide +kernel
theorem dX3_map_176 : decode cX3_map 176 = .ok (.iload_n 3, 1) := by decide +kernel
theorem dX3_map_177 : decode cX3_map 177 = .ok (.invokevirtual 155, 3) := by decide +kernel
theorem dX3_map_180 : decode cX3_map 180 = .ok (.ifCond .eq 40, 3) := by decide +kernel
theorem dX3_map_183 : decode cX3_map 183 = .ok (.iload_n 2, 1) := by decide +kernel
theorem dX3_map_184 : decode cX3_map 184 = .ok (.ifCond .lt 32, 3) := by decide +kernel
theorem dX3_map_187 : decode cX3_map 187 = .ok (.aload_n 0, 1) := by decide +kernel
theorem dX3_map_188 : decode cX3_map 188 = .ok (.getfield 71, 3) := by decide +kernel
theorem dX3_map_191 : decode cX3_map 191 = .ok (.iload_n 3, 1) := by decide +kernel
theorem dX3_map_192 : decode cX3_map 192 = .ok (.iaload, 1) := by decide +kernel
theorem dX3_map_193 : decode cX3_map 193 = .ok (.aload_n 0, 1) := by decide +kernel
theorem dX3_map_194 : decode cX3_map 194 = .ok (.getfield 62, 3) := by decide +kernel
theorem dX3_map_197 : decode cX3_map 197 = .ok (.iload_n 2, 1) := by decide +kernel
theorem dX3_map_198 : decode cX3_map 198 = .ok (.iaload, 1) := by decide +kernel
theorem dX3_map_199 : decode cX3_map 199 = .ok (.imul, 1) := by decide +kernel
theorem dX3_map_200 : decode cX3_map 200 = .ok (.aload_n 0, 1) := by decide +kernel
theorem dX3_map_201 : decode cX3_map 201 = .ok (.getfield 71, 3) := by decide +kernel
theorem dX3_map_204 : decode cX3_map 204 = .ok (.iload_n 2, 1) := by decide +kernel
theorem dX3_map_205 : decode cX3_map 205 = .ok (.iaload, 1) := by decide +kernel
theorem dX3_map_206 : decode cX3_map 206 = .ok (.aload_n 0, 1) := by decide +kernel
theorem dX3_map_207 : decode cX3_map 207 = .ok (.getfield 62, 3) := by decide +kernel
theorem dX3_map_210 : decode cX3_map 210 = .ok (.iload_n 3, 1) := by decide +kernel
theorem dX3_map_211 : decode cX3_map 211 = .ok (.iaload, 1) := by decide +kernel
theorem dX3_map_212 : decode cX3_map 212 = .ok (.imul, 1) := by decide +kernel
theorem dX3_map_213 : decode cX3_map 213 = .ok (.if_icmp .ge 7, 3) := by decide +kernel
theorem dX3_map_216 : decode cX3_map 216 = .ok (.iload_n 3, 1) := by decide +kernel
theorem dX3_map_217 : decode cX3_map 217 = .ok (.goto 4, 3) := by decide +kernel
theorem dX3_map_220 : decode cX3_map 220 = .ok (.iload_n 2, 1) := by decide +kernel
theorem dX3_map_221 : decode cX3_map 221 = .ok (.istore_n 2, 1) := by decide +kernel
theorem dX3_map_222 : decode cX3_map 222 = .ok (.iinc 3 1, 3) := by decide +kernel
theorem dX3_map_225 : decode cX3_map 225 = .ok (.goto (-56), 3) := by decide +kernel
theorem dX3_map_228 : decode cX3_map 228 = .ok (.iload_n 2, 1) := by decide +kernel
theorem dX3_map_229 : decode cX3_map 229 = .ok (.ifCond .lt 7, 3) := by decide +kernel
theorem dX3_map_232 : decode cX3_map 232 = .ok (.iconst 1, 1) := by decide +kernel
theorem dX3_map_233 : decode cX3_map 233 = .ok (.goto 4, 3) := by decide +kernel
theorem dX3_map_236 : decode cX3_map 236 = .ok (.iconst 0, 1) := by decide +kernel
theorem dX3_map_237 : decode cX3_map 237 = .ok (.istore_n 1, 1) := by decide +kernel
theorem dX3_map_238 : decode cX3_map 238 = .ok (.iload_n 1, 1) := by decide +kernel
theorem dX3_map_239 : decode cX3_map 239 = .ok (.ifCond .eq 33, 3) := by decide +kernel
theorem dX3_map_242 : decode cX3_map 242 = .ok (.aload_n 0, 1) := by decide +kernel
theorem dX3_map_243 : decode cX3_map 243 = .ok (.getfield 68, 3) := by decide +kernel
theorem dX3_map_246 : decode cX3_map 246 = .ok (.iload_n 2, 1) := by decide +kernel
theorem dX3_map_247 : decode cX3_map 247 = .ok (.dup2, 1) := by decide +kernel
theorem dX3_map_248 : decode cX3_map 248 = .ok (.iaload, 1) := by decide +kernel
theorem dX3_map_249 : decode cX3_map 249 = .ok (.iconst 1, 1) := by decide +kernel
theorem dX3_map_250 : decode cX3_map 250 = .ok (.iadd, 1) := by decide +kernel
theorem dX3_map_251 : decode cX3_map 251 = .ok (.iastore, 1) := by decide +kernel
theorem dX3_map_252 : decode cX3_map 252 = .ok (.aload_n 0, 1) := by decide +kernel
theorem dX3_map_253 : decode cX3_map 253 = .ok (.getfield 71, 3) := by decide +kernel
theorem dX3_map_256 : decode cX3_map 256 = .ok (.iload_n 2, 1) := by decide +kernel
theorem dX3_map_257 : decode cX3_map 257 = .ok (.dup2, 1) := by decide +kernel
theorem dX3_map_258 : decode cX3_map 258 = .ok (.iaload, 1) := by decide +kernel
theorem dX3_map_259 : decode cX3_map 259 = .ok (.iconst 1, 1) := by decide +kernel
theorem dX3_map_260 : decode cX3_map 260 = .ok (.iadd, 1) := by decide +kernel
theorem dX3_map_261 : decode cX3_map 261 = .ok (.iastore, 1) := by decide +kernel
theorem dX3_map_262 : decode cX3_map 262 = .ok (.aload_n 0, 1) := by decide +kernel
theorem dX3_map_263 : decode cX3_map 263 = .ok (.dup, 1) := by decide +kernel
theorem dX3_map_264 : decode cX3_map 264 = .ok (.getfield 152, 3) := by decide +kernel
theorem dX3_map_267 : decode cX3_map 267 = .ok (.iconst 1, 1) := by decide +kernel
theorem dX3_map_268 : decode cX3_map 268 = .ok (.isub, 1) := by decide +kernel
theorem dX3_map_269 : decode cX3_map 269 = .ok (.putfield 152, 3) := by decide +kernel
theorem dX3_map_272 : decode cX3_map 272 = .ok (.goto (-118), 3) := by decide +kernel
theorem dX3_map_275 : decode cX3_map 275 = .ok (.return_, 1) := by decide +kernel
set_option maxRecDepth 20000 in
theorem ggX3_bursts_X3_errorOf : GoodIn wsX3_bursts wsX3_errorOf := goodIn_r _ [10, 11, 12, 13, 14, 15, 16, 9, 17, 18, 19, 20, 21, 22, 23, 24, 25, 26, 27, 28, 29, 30, 31, 32, 33, 34, 35, 36, 37, 38, 39, 40, 41, 42, 43, 44, 45, 46, 47, 48, 49, 50, 51, 52, 53, 54, 55, 56, 57, 58] (by decide +kernel) (by decide +kernel)
set_option maxRecDepth 20000 in
theorem gX3_bursts_X3_errorOf : GoodIn wsX3_bursts (wsV RX3 146 RX3 yX3_errorOf wsX3_errorOf) := goodIn_app (goodIn_of _ (by decide +kernel)) ggX3_bursts_X3_errorOf
theorem dX3_bursts_0 : decode cX3_bursts 0 = .ok (.iconst 0, 1) := by decide +kernel
theorem dX3_bursts_1 : decode cX3_bursts 1 = .ok (.istore_n 1, 1) := by decide +kernel
theorem dX3_bursts_2 : decode cX3_bursts 2 = .ok (.iconst 0, 1) := by decide +kernel
theorem dX3_bursts_3 : decode cX3_bursts 3 = .ok (.istore_n 2, 1) := by decide +kernel
theorem dX3_bursts_4 : decode cX3_bursts 4 = .ok (.iload_n 2, 1) := by decide +kernel
theorem dX3_bursts_5 : decode cX3_bursts 5 = .ok (.iconst 5, 1) := by decide +kernel
theorem dX3_bursts_6 : decode cX3_bursts 6 = .ok (.if_icmp .ge 75, 3) := by decide +kernel
theorem dX3_bursts_9 : decode cX3_bursts 9 = .ok (.aload_n 0, 1) := by decide +kernel
theorem dX3_bursts_10 : decode cX3_bursts 10 = .ok (.getfield 7, 3) := by decide +kernel
theorem dX3_bursts_13 : decode cX3_bursts 13 = .ok (.iload_n 2, 1) := by decide +kernel
theorem dX3_bursts_14 : decode cX3_bursts 14 = .ok (.iaload, 1) := by decide +kernel
theorem dX3_bursts_15 : decode cX3_bursts 15 = .ok (.iconst 2, 1) := by decide +kernel
theorem dX3_bursts_16 : decode cX3_bursts 16 = .ok (.if_icmp .ne 59, 3) := by decide +kernel
theorem dX3_bursts_19 : decode cX3_bursts 19 = .ok (.aload_n 0, 1) := by decide +kernel
theorem dX3_bursts_20 : decode cX3_bursts 20 = .ok (.getfield 95, 3) := by decide +kernel
theorem dX3_bursts_23 : decode cX3_bursts 23 = .ok (.iload_n 2, 1) := by decide +kernel
theorem dX3_bursts_24 : decode cX3_bursts 24 = .ok (.iload_n 1, 1) := by decide +kernel
theorem dX3_bursts_25 : decode cX3_bursts 25 = .ok (.aload_n 0, 1) := by decide +kernel
theorem dX3_bursts_26 : decode cX3_bursts 26 = .ok (.iload_n 2, 1) := by decide +kernel
theorem dX3_bursts_27 : decode cX3_bursts 27 = .ok (.invokevirtual 146, 3) := by decide +kernel
theorem dX3_bursts_30 : decode cX3_bursts 30 = .ok (.iadd, 1) := by decide +kernel
theorem dX3_bursts_31 : decode cX3_bursts 31 = .ok (.iastore, 1) := by decide +kernel
theorem dX3_bursts_32 : decode cX3_bursts 32 = .ok (.aload_n 0, 1) := by decide +kernel
theorem dX3_bursts_33 : decode cX3_bursts 33 = .ok (.getfield 98, 3) := by decide +kernel
theorem dX3_bursts_36 : decode cX3_bursts 36 = .ok (.iload_n 2, 1) := by decide +kernel
theorem dX3_bursts_37 : decode cX3_bursts 37 = .ok (.bipush 16, 2) := by decide +kernel
theorem dX3_bursts_39 : decode cX3_bursts 39 = .ok (.bipush 16, 2) := by decide +kernel
theorem dX3_bursts_41 : decode cX3_bursts 41 = .ok (.aload_n 0, 1) := by decide +kernel
theorem dX3_bursts_42 : decode cX3_bursts 42 = .ok (.getfield 68, 3) := by decide +kernel
theorem dX3_bursts_45 : decode cX3_bursts 45 = .ok (.iconst 2, 1) := by decide +kernel
theorem dX3_bursts_46 : decode cX3_bursts 46 = .ok (.iload_n 2, 1) := by decide +kernel
theorem dX3_bursts_47 : decode cX3_bursts 47 = .ok (.imul, 1) := by decide +kernel
theorem dX3_bursts_48 : decode cX3_bursts 48 = .ok (.iaload, 1) := by decide +kernel
theorem dX3_bursts_49 : decode cX3_bursts 49 = .ok (.aload_n 0, 1) := by decide +kernel
theorem dX3_bursts_50 : decode cX3_bursts 50 = .ok (.getfield 68, 3) := by decide +kernel
theorem dX3_bursts_53 : decode cX3_bursts 53 = .ok (.iconst 2, 1) := by decide +kernel
theorem dX3_bursts_54 : decode cX3_bursts 54 = .ok (.iload_n 2, 1) := by decide +kernel
theorem dX3_bursts_55 : decode cX3_bursts 55 = .ok (.imul, 1) := by decide +kernel
theorem dX3_bursts_56 : decode cX3_bursts 56 = .ok (.iconst 1, 1) := by decide +kernel
theorem dX3_bursts_57 : decode cX3_bursts 57 = .ok (.iadd, 1) := by decide +kernel
theorem dX3_bursts_58 : decode cX3_bursts 58 = .ok (.iaload, 1) := by decide +kernel
theorem dX3_bursts_59 : decode cX3_bursts 59 = .ok (.iadd, 1) := by decide +kernel
theorem dX3_bursts_60 : decode cX3_bursts 60 = .ok (.imul, 1) := by decide +kernel
theorem dX3_bursts_61 : decode cX3_bursts 61 = .ok (.iadd, 1) := by decide +kernel
theorem dX3_bursts_62 : decode cX3_bursts 62 = .ok (.iastore, 1) := by decide +kernel
theorem dX3_bursts_63 : decode cX3_bursts 63 = .ok (.iload_n 1, 1) := by decide +kernel
theorem dX3_bursts_64 : decode cX3_bursts 64 = .ok (.aload_n 0, 1) := by decide +kernel
theorem dX3_bursts_65 : decode cX3_bursts 65 = .ok (.getfield 98, 3) := by decide +kernel
theorem dX3_bursts_68 : decode cX3_bursts 68 = .ok (.iload_n 2, 1) := by decide +kernel
theorem dX3_bursts_69 : decode cX3_bursts 69 = .ok (.iaload, 1) := by decide +kernel
theorem dX3_bursts_70 : decode cX3_bursts 70 = .ok (.bipush 32, 2) := by decide +kernel
theorem dX3_bursts_72 : decode cX3_bursts 72 = .ok (.iadd, 1) := by decide +kernel
theorem dX3_bursts_73 : decode cX3_bursts 73 = .ok (.iadd, 1) := by decide +kernel
theorem dX3_bursts_74 : decode cX3_bursts 74 = .ok (.istore_n 1, 1) := by decide +kernel
theorem dX3_bursts_75 : decode cX3_bursts 75 = .ok (.iinc 2 1, 3) := by decide +kernel
theorem dX3_bursts_78 : decode cX3_bursts 78 = .ok (.goto (-74), 3) := by decide +kernel
theorem dX3_bursts_81 : decode cX3_bursts 81 = .ok (.iconst 0, 1) := by decide +kernel
theorem dX3_bursts_82 : decode cX3_bursts 82 = .ok (.istore_n 2, 1) := by decide +kernel
theorem dX3_bursts_83 : decode cX3_bursts 83 = .ok (.iload_n 2, 1) := by decide +kernel
theorem dX3_bursts_84 : decode cX3_bursts 84 = .ok (.iconst 5, 1) := by decide +kernel
theorem dX3_bursts_85 : decode cX3_bursts 85 = .ok (.if_icmp .ge 112, 3) := by decide +kernel
theorem dX3_bursts_88 : decode cX3_bursts 88 = .ok (.iconst 0, 1) := by decide +kernel
theorem dX3_bursts_89 : decode cX3_bursts 89 = .ok (.istore_n 3, 1) := by decide +kernel
theorem dX3_bursts_90 : decode cX3_bursts 90 = .ok (.iload_n 3, 1) := by decide +kernel
theorem dX3_bursts_91 : decode cX3_bursts 91 = .ok (.iload_n 2, 1) := by decide +kernel
theorem dX3_bursts_92 : decode cX3_bursts 92 = .ok (.if_icmp .ge 99, 3) := by decide +kernel
theorem dX3_bursts_95 : decode cX3_bursts 95 = .ok (.aload_n 0, 1) := by decide +kernel
theorem dX3_bursts_96 : decode cX3_bursts 96 = .ok (.getfield 7, 3) := by decide +kernel
theorem dX3_bursts_99 : decode cX3_bursts 99 = .ok (.iload_n 2, 1) := by decide +kernel
theorem dX3_bursts_100 : decode cX3_bursts 100 = .ok (.iaload, 1) := by decide +kernel
theorem dX3_bursts_101 : decode cX3_bursts 101 = .ok (.iconst 2, 1) := by decide +kernel
theorem dX3_bursts_102 : decode cX3_bursts 102 = .ok (.if_icmp .ne 17, 3) := by decide +kernel
theorem dX3_bursts_105 : decode cX3_bursts 105 = .ok (.aload_n 0, 1) := by decide +kernel
theorem dX3_bursts_106 : decode cX3_bursts 106 = .ok (.getfield 7, 3) := by decide +kernel
theorem dX3_bursts_109 : decode cX3_bursts 109 = .ok (.iload_n 3, 1) := by decide +kernel
theorem dX3_bursts_110 : decode cX3_bursts 110 = .ok (.iaload, 1) := by decide +kernel
theorem dX3_bursts_111 : decode cX3_bursts 111 = .ok (.iconst 2, 1) := by decide +kernel
theorem dX3_bursts_112 : decode cX3_bursts 112 = .ok (.if_icmp .ne 7, 3) := by decide +kernel
theorem dX3_bursts_115 : decode cX3_bursts 115 = .ok (.iconst 1, 1) := by decide +kernel
theorem dX3_bursts_116 : decode cX3_bursts 116 = .ok (.goto 4, 3) := by decide +kernel
theorem dX3_bursts_119 : decode cX3_bursts 119 = .ok (.iconst 0, 1) := by decide +kernel
theorem dX3_bursts_120 : decode cX3_bursts 120 = .ok (.istore 4, 2) := by decide +kernel
theorem dX3_bursts_122 : decode cX3_bursts 122 = .ok (.aload_n 0, 1) := by decide +kernel
theorem dX3_bursts_123 : decode cX3_bursts 123 = .ok (.dup, 1) := by decide +kernel
theorem dX3_bursts_124 : decode cX3_bursts 124 = .ok (.getfield 158, 3) := by decide +kernel
theorem dX3_bursts_127 : decode cX3_bursts 127 = .ok (.iload 4, 2) := by decide +kernel
theorem dX3_bursts_129 : decode cX3_bursts 129 = .ok (.ifCond .eq 51, 3) := by decide +kernel
theorem dX3_bursts_132 : decode cX3_bursts 132 = .ok (.aload_n 0, 1) := by decide +kernel
theorem dX3_bursts_133 : decode cX3_bursts 133 = .ok (.getfield 95, 3) := by decide +kernel
theorem dX3_bursts_136 : decode cX3_bursts 136 = .ok (.iload_n 2, 1) := by decide +kernel
theorem dX3_bursts_137 : decode cX3_bursts 137 = .ok (.iaload, 1) := by decide +kernel
theorem dX3_bursts_138 : decode cX3_bursts 138 = .ok (.aload_n 0, 1) := by decide +kernel
theorem dX3_bursts_139 : decode cX3_bursts 139 = .ok (.getfield 95, 3) := by decide +kernel
theorem dX3_bursts_142 : decode cX3_bursts 142 = .ok (.iload_n 3, 1) := by decide +kernel
theorem dX3_bursts_143 : decode cX3_bursts 143 = .ok (.iaload, 1) := by decide +kernel
theorem dX3_bursts_144 : decode cX3_bursts 144 = .ok (.aload_n 0, 1) := by decide +kernel
theorem dX3_bursts_145 : decode cX3_bursts 145 = .ok (.getfield 98, 3) := by decide +kernel
theorem dX3_bursts_148 : decode cX3_bursts 148 = .ok (.iload_n 3, 1) := by decide +kernel
theorem dX3_bursts_149 : decode cX3_bursts 149 = .ok (.iaload, 1) := by decide +kernel
theorem dX3_bursts_150 : decode cX3_bursts 150 = .ok (.iadd, 1) := by decide +kernel
theorem dX3_bursts_151 : decode cX3_bursts 151 = .ok (.if_icmp .ge 29, 3) := by decide +kernel
theorem dX3_bursts_154 : decode cX3_bursts 154 = .ok (.aload_n 0, 1) := by decide +kernel
theorem dX3_bursts_155 : decode cX3_bursts 155 = .ok (.getfield 95, 3) := by decide +kernel
theorem dX3_bursts_158 : decode cX3_bursts 158 = .ok (.iload_n 3, 1) := by decide +kernel
theorem dX3_bursts_159 : decode cX3_bursts 159 = .ok (.iaload, 1) := by decide +kernel
theorem dX3_bursts_160 : decode cX3_bursts 160 = .ok (.aload_n 0, 1) := by decide +kernel
theorem dX3_bursts_161 : decode cX3_bursts 161 = .ok (.getfield 95, 3) := by decide +kernel
theorem dX3_bursts_164 : decode cX3_bursts 164 = .ok (.iload_n 2, 1) := by decide +kernel
theorem dX3_bursts_165 : decode cX3_bursts 165 = .ok (.iaload, 1) := by decide +kernel
theorem dX3_bursts_166 : decode cX3_bursts 166 = .ok (.aload_n 0, 1) := by decide +kernel
theorem dX3_bursts_167 : decode cX3_bursts 167 = .ok (.getfield 98, 3) := by decide +kernel
theorem dX3_bursts_170 : decode cX3_bursts 170 = .ok (.iload_n 2, 1) := by decide +kernel
theorem dX3_bursts_171 : decode cX3_bursts 171 = .ok (.iaload, 1) := by decide +kernel
theorem dX3_bursts_172 : decode cX3_bursts 172 = .ok (.iadd, 1) := by decide +kernel
theorem dX3_bursts_173 : decode cX3_bursts 173 = .ok (.if_icmp .ge 7, 3) := by decide +kernel
theorem dX3_bursts_176 : decode cX3_bursts 176 = .ok (.iconst 1, 1) := by decide +kernel
theorem dX3_bursts_177 : decode cX3_bursts 177 = .ok (.goto 4, 3) := by decide +kernel
theorem dX3_bursts_180 : decode cX3_bursts 180 = .ok (.iconst 0, 1) := by decide +kernel
theorem dX3_bursts_181 : decode cX3_bursts 181 = .ok (.iadd, 1) := by decide +kernel
theorem dX3_bursts_182 : decode cX3_bursts 182 = .ok (.putfield 158, 3) := by decide +kernel
theorem dX3_bursts_185 : decode cX3_bursts 185 = .ok (.iinc 3 1, 3) := by decide +kernel
theorem dX3_bursts_188 : decode cX3_bursts 188 = .ok (.goto (-98), 3) := by decide +kernel
theorem dX3_bursts_191 : decode cX3_bursts 191 = .ok (.iinc 2 1, 3) := by decide +kernel
theorem dX3_bursts_194 : decode cX3_bursts 194 = .ok (.goto (-111), 3) := by decide +kernel
theorem dX3_bursts_197 : decode cX3_bursts 197 = .ok (.return_, 1) := by decide +kernel
theorem dX3_loadOf_0 : decode cX3_loadOf 0 = .ok (.iconst 0, 1) := by decide +kernel
theorem dX3_loadOf_1 : decode cX3_loadOf 1 = .ok (.istore_n 2, 1) := by decide +kernel
theorem dX3_loadOf_2 : decode cX3_loadOf 2 = .ok (.iconst 0, 1) := by decide +kernel
theorem dX3_loadOf_3 : decode cX3_loadOf 3 = .ok (.istore_n 3, 1) := by decide +kernel
theorem dX3_loadOf_4 : decode cX3_loadOf 4 = .ok (.iload_n 3, 1) := by decide +kernel
theorem dX3_loadOf_5 : decode cX3_loadOf 5 = .ok (.aload_n 0, 1) := by decide +kernel
theorem dX3_loadOf_6 : decode cX3_loadOf 6 = .ok (.getfield 74, 3) := by decide +kernel
theorem dX3_loadOf_9 : decode cX3_loadOf 9 = .ok (.iload_n 1, 1) := by decide +kernel
theorem dX3_loadOf_10 : decode cX3_loadOf 10 = .ok (.iaload, 1) := by decide +kernel
theorem dX3_loadOf_11 : decode cX3_loadOf 11 = .ok (.if_icmp .ge 28, 3) := by decide +kernel
theorem dX3_loadOf_14 : decode cX3_loadOf 14 = .ok (.iload_n 2, 1) := by decide +kernel
theorem dX3_loadOf_15 : decode cX3_loadOf 15 = .ok (.aload_n 0, 1) := by decide +kernel
theorem dX3_loadOf_16 : decode cX3_loadOf 16 = .ok (.getfield 80, 3) := by decide +kernel
theorem dX3_loadOf_19 : decode cX3_loadOf 19 = .ok (.aload_n 0, 1) := by decide +kernel
theorem dX3_loadOf_20 : decode cX3_loadOf 20 = .ok (.getfield 77, 3) := by decide +kernel
theorem dX3_loadOf_23 : decode cX3_loadOf 23 = .ok (.bipush 8, 2) := by decide +kernel
theorem dX3_loadOf_25 : decode cX3_loadOf 25 = .ok (.iload_n 1, 1) := by decide +kernel
theorem dX3_loadOf_26 : decode cX3_loadOf 26 = .ok (.imul, 1) := by decide +kernel
theorem dX3_loadOf_27 : decode cX3_loadOf 27 = .ok (.iload_n 3, 1) := by decide +kernel
theorem dX3_loadOf_28 : decode cX3_loadOf 28 = .ok (.iadd, 1) := by decide +kernel
theorem dX3_loadOf_29 : decode cX3_loadOf 29 = .ok (.iaload, 1) := by decide +kernel
theorem dX3_loadOf_30 : decode cX3_loadOf 30 = .ok (.iaload, 1) := by decide +kernel
theorem dX3_loadOf_31 : decode cX3_loadOf 31 = .ok (.iadd, 1) := by decide +kernel
theorem dX3_loadOf_32 : decode cX3_loadOf 32 = .ok (.istore_n 2, 1) := by decide +kernel
theorem dX3_loadOf_33 : decode cX3_loadOf 33 = .ok (.iinc 3 1, 3) := by decide +kernel
theorem dX3_loadOf_36 : decode cX3_loadOf 36 = .ok (.goto (-32), 3) := by decide +kernel
theorem dX3_loadOf_39 : decode cX3_loadOf 39 = .ok (.iload_n 2, 1) := by decide +kernel
theorem dX3_loadOf_40 : decode cX3_loadOf 40 = .ok (.ireturn, 1) := by decide +kernel
theorem dX3_leave_0 : decode cX3_leave 0 = .ok (.aload_n 0, 1) := by decide +kernel
theorem dX3_leave_1 : decode cX3_leave 1 = .ok (.getfield 74, 3) := by decide +kernel
theorem dX3_leave_4 : decode cX3_leave 4 = .ok (.iload_n 1, 1) := by decide +kernel
theorem dX3_leave_5 : decode cX3_leave 5 = .ok (.dup2, 1) := by decide +kernel
theorem dX3_leave_6 : decode cX3_leave 6 = .ok (.iaload, 1) := by decide +kernel
theorem dX3_leave_7 : decode cX3_leave 7 = .ok (.iconst 1, 1) := by decide +kernel
theorem dX3_leave_8 : decode cX3_leave 8 = .ok (.isub, 1) := by decide +kernel
theorem dX3_leave_9 : decode cX3_leave 9 = .ok (.iastore, 1) := by decide +kernel
theorem dX3_leave_10 : decode cX3_leave 10 = .ok (.iconst 0, 1) := by decide +kernel
theorem dX3_leave_11 : decode cX3_leave 11 = .ok (.istore_n 2, 1) := by decide +kernel
theorem dX3_leave_12 : decode cX3_leave 12 = .ok (.iload_n 2, 1) := by decide +kernel
theorem dX3_leave_13 : decode cX3_leave 13 = .ok (.aload_n 0, 1) := by decide +kernel
theorem dX3_leave_14 : decode cX3_leave 14 = .ok (.getfield 74, 3) := by decide +kernel
theorem dX3_leave_17 : decode cX3_leave 17 = .ok (.iload_n 1, 1) := by decide +kernel
theorem dX3_leave_18 : decode cX3_leave 18 = .ok (.iaload, 1) := by decide +kernel
theorem dX3_leave_19 : decode cX3_leave 19 = .ok (.if_icmp .ge 33, 3) := by decide +kernel
theorem dX3_leave_22 : decode cX3_leave 22 = .ok (.aload_n 0, 1) := by decide +kernel
theorem dX3_leave_23 : decode cX3_leave 23 = .ok (.getfield 77, 3) := by decide +kernel
theorem dX3_leave_26 : decode cX3_leave 26 = .ok (.bipush 8, 2) := by decide +kernel
theorem dX3_leave_28 : decode cX3_leave 28 = .ok (.iload_n 1, 1) := by decide +kernel
theorem dX3_leave_29 : decode cX3_leave 29 = .ok (.imul, 1) := by decide +kernel
theorem dX3_leave_30 : decode cX3_leave 30 = .ok (.iload_n 2, 1) := by decide +kernel
theorem dX3_leave_31 : decode cX3_leave 31 = .ok (.iadd, 1) := by decide +kernel
theorem dX3_leave_32 : decode cX3_leave 32 = .ok (.aload_n 0, 1) := by decide +kernel
theorem dX3_leave_33 : decode cX3_leave 33 = .ok (.getfield 77, 3) := by decide +kernel
theorem dX3_leave_36 : decode cX3_leave 36 = .ok (.bipush 8, 2) := by decide +kernel
theorem dX3_leave_38 : decode cX3_leave 38 = .ok (.iload_n 1, 1) := by decide +kernel
theorem dX3_leave_39 : decode cX3_leave 39 = .ok (.imul, 1) := by decide +kernel
theorem dX3_leave_40 : decode cX3_leave 40 = .ok (.iload_n 2, 1) := by decide +kernel
theorem dX3_leave_41 : decode cX3_leave 41 = .ok (.iadd, 1) := by decide +kernel
theorem dX3_leave_42 : decode cX3_leave 42 = .ok (.iconst 1, 1) := by decide +kernel
theorem dX3_leave_43 : decode cX3_leave 43 = .ok (.iadd, 1) := by decide +kernel
theorem dX3_leave_44 : decode cX3_leave 44 = .ok (.iaload, 1) := by decide +kernel
theorem dX3_leave_45 : decode cX3_leave 45 = .ok (.iastore, 1) := by decide +kernel
theorem dX3_leave_46 : decode cX3_leave 46 = .ok (.iinc 2 1, 3) := by decide +kernel
theorem dX3_leave_49 : decode cX3_leave 49 = .ok (.goto (-37), 3) := by decide +kernel
theorem dX3_leave_52 : decode cX3_leave 52 = .ok (.return_, 1) := by decide +kernel
set_option maxRecDepth 20000 in
theorem ggX3_sendBlock_X3_leave : GoodIn wsX3_sendBlock wsX3_leave := goodIn_r _ [15, 16, 1, 17, 18, 19, 20, 21, 22, 23, 24, 25, 26, 27, 28, 29, 30, 31, 32, 33, 34, 35, 36, 37, 38, 39, 40, 41, 42, 43, 44, 45, 46, 47, 48, 49, 50, 51, 52, 53, 54, 55, 56, 57] (by decide +kernel) (by decide +kernel)
set_option maxRecDepth 20000 in
theorem gX3_sendBlock_X3_leave : GoodIn wsX3_sendBlock (wsV RX3 161 RX3 yX3_leave wsX3_leave) := goodIn_app (goodIn_of _ (by decide +kernel)) ggX3_sendBlock_X3_leave
theorem dX3_sendBlock_0 : decode cX3_sendBlock 0 = .ok (.aload_n 0, 1) := by decide +kernel
theorem dX3_sendBlock_1 : decode cX3_sendBlock 1 = .ok (.getfield 77, 3) := by decide +kernel
theorem dX3_sendBlock_4 : decode cX3_sendBlock 4 = .ok (.bipush 8, 2) := by decide +kernel
theorem dX3_sendBlock_6 : decode cX3_sendBlock 6 = .ok (.iload_n 1, 1) := by decide +kernel
theorem dX3_sendBlock_7 : decode cX3_sendBlock 7 = .ok (.imul, 1) := by decide +kernel
theorem dX3_sendBlock_8 : decode cX3_sendBlock 8 = .ok (.iaload, 1) := by decide +kernel
theorem dX3_sendBlock_9 : decode cX3_sendBlock 9 = .ok (.istore_n 2, 1) := by decide +kernel
theorem dX3_sendBlock_10 : decode cX3_sendBlock 10 = .ok (.aload_n 0, 1) := by decide +kernel
theorem dX3_sendBlock_11 : decode cX3_sendBlock 11 = .ok (.getfield 80, 3) := by decide +kernel
theorem dX3_sendBlock_14 : decode cX3_sendBlock 14 = .ok (.iload_n 2, 1) := by decide +kernel
theorem dX3_sendBlock_15 : decode cX3_sendBlock 15 = .ok (.dup2, 1) := by decide +kernel
theorem dX3_sendBlock_16 : decode cX3_sendBlock 16 = .ok (.iaload, 1) := by decide +kernel
theorem dX3_sendBlock_17 : decode cX3_sendBlock 17 = .ok (.iconst 1, 1) := by decide +kernel
theorem dX3_sendBlock_18 : decode cX3_sendBlock 18 = .ok (.isub, 1) := by decide +kernel
theorem dX3_sendBlock_19 : decode cX3_sendBlock 19 = .ok (.iastore, 1) := by decide +kernel
theorem dX3_sendBlock_20 : decode cX3_sendBlock 20 = .ok (.aload_n 0, 1) := by decide +kernel
theorem dX3_sendBlock_21 : decode cX3_sendBlock 21 = .ok (.getfield 83, 3) := by decide +kernel
theorem dX3_sendBlock_24 : decode cX3_sendBlock 24 = .ok (.iload_n 2, 1) := by decide +kernel
theorem dX3_sendBlock_25 : decode cX3_sendBlock 25 = .ok (.aload_n 0, 1) := by decide +kernel
theorem dX3_sendBlock_26 : decode cX3_sendBlock 26 = .ok (.getfield 83, 3) := by decide +kernel
theorem dX3_sendBlock_29 : decode cX3_sendBlock 29 = .ok (.iload_n 2, 1) := by decide +kernel
theorem dX3_sendBlock_30 : decode cX3_sendBlock 30 = .ok (.baload, 1) := by decide +kernel
theorem dX3_sendBlock_31 : decode cX3_sendBlock 31 = .ok (.ifCond .ne 14, 3) := by decide +kernel
theorem dX3_sendBlock_34 : decode cX3_sendBlock 34 = .ok (.aload_n 0, 1) := by decide +kernel
theorem dX3_sendBlock_35 : decode cX3_sendBlock 35 = .ok (.getfield 25, 3) := by decide +kernel
theorem dX3_sendBlock_38 : decode cX3_sendBlock 38 = .ok (.iload_n 1, 1) := by decide +kernel
theorem dX3_sendBlock_39 : decode cX3_sendBlock 39 = .ok (.iconst 2, 1) := by decide +kernel
theorem dX3_sendBlock_40 : decode cX3_sendBlock 40 = .ok (.idiv, 1) := by decide +kernel
theorem dX3_sendBlock_41 : decode cX3_sendBlock 41 = .ok (.baload, 1) := by decide +kernel
theorem dX3_sendBlock_42 : decode cX3_sendBlock 42 = .ok (.ifCond .eq 7, 3) := by decide +kernel
theorem dX3_sendBlock_45 : decode cX3_sendBlock 45 = .ok (.iconst 1, 1) := by decide +kernel
theorem dX3_sendBlock_46 : decode cX3_sendBlock 46 = .ok (.goto 4, 3) := by decide +kernel
theorem dX3_sendBlock_49 : decode cX3_sendBlock 49 = .ok (.iconst 0, 1) := by decide +kernel
theorem dX3_sendBlock_50 : decode cX3_sendBlock 50 = .ok (.bastore, 1) := by decide +kernel
theorem dX3_sendBlock_51 : decode cX3_sendBlock 51 = .ok (.aload_n 0, 1) := by decide +kernel
theorem dX3_sendBlock_52 : decode cX3_sendBlock 52 = .ok (.getfield 80, 3) := by decide +kernel
theorem dX3_sendBlock_55 : decode cX3_sendBlock 55 = .ok (.iload_n 2, 1) := by decide +kernel
theorem dX3_sendBlock_56 : decode cX3_sendBlock 56 = .ok (.iaload, 1) := by decide +kernel
theorem dX3_sendBlock_57 : decode cX3_sendBlock 57 = .ok (.ifCond .le 5, 3) := by decide +kernel
theorem dX3_sendBlock_60 : decode cX3_sendBlock 60 = .ok (.iconst 0, 1) := by decide +kernel
theorem dX3_sendBlock_61 : decode cX3_sendBlock 61 = .ok (.ireturn, 1) := by decide +kernel
theorem dX3_sendBlock_62 : decode cX3_sendBlock 62 = .ok (.aload_n 0, 1) := by decide +kernel
theorem dX3_sendBlock_63 : decode cX3_sendBlock 63 = .ok (.iload_n 1, 1) := by decide +kernel
theorem dX3_sendBlock_64 : decode cX3_sendBlock 64 = .ok (.invokevirtual 161, 3) := by decide +kernel
theorem dX3_sendBlock_67 : decode cX3_sendBlock 67 = .ok (.aload_n 0, 1) := by decide +kernel
theorem dX3_sendBlock_68 : decode cX3_sendBlock 68 = .ok (.getfield 83, 3) := by decide +kernel
theorem dX3_sendBlock_71 : decode cX3_sendBlock 71 = .ok (.iload_n 2, 1) := by decide +kernel
theorem dX3_sendBlock_72 : decode cX3_sendBlock 72 = .ok (.baload, 1) := by decide +kernel
theorem dX3_sendBlock_73 : decode cX3_sendBlock 73 = .ok (.ifCond .eq 15, 3) := by decide +kernel
theorem dX3_sendBlock_76 : decode cX3_sendBlock 76 = .ok (.aload_n 0, 1) := by decide +kernel
theorem dX3_sendBlock_77 : decode cX3_sendBlock 77 = .ok (.dup, 1) := by decide +kernel
theorem dX3_sendBlock_78 : decode cX3_sendBlock 78 = .ok (.getfield 164, 3) := by decide +kernel
theorem dX3_sendBlock_81 : decode cX3_sendBlock 81 = .ok (.iconst 1, 1) := by decide +kernel
theorem dX3_sendBlock_82 : decode cX3_sendBlock 82 = .ok (.iadd, 1) := by decide +kernel
theorem dX3_sendBlock_83 : decode cX3_sendBlock 83 = .ok (.putfield 164, 3) := by decide +kernel
theorem dX3_sendBlock_86 : decode cX3_sendBlock 86 = .ok (.iconst 0, 1) := by decide +kernel
theorem dX3_sendBlock_87 : decode cX3_sendBlock 87 = .ok (.ireturn, 1) := by decide +kernel
theorem dX3_sendBlock_88 : decode cX3_sendBlock 88 = .ok (.aload_n 0, 1) := by decide +kernel
theorem dX3_sendBlock_89 : decode cX3_sendBlock 89 = .ok (.getfield 86, 3) := by decide +kernel
theorem dX3_sendBlock_92 : decode cX3_sendBlock 92 = .ok (.aload_n 0, 1) := by decide +kernel
theorem dX3_sendBlock_93 : decode cX3_sendBlock 93 = .ok (.getfield 167, 3) := by decide +kernel
theorem dX3_sendBlock_96 : decode cX3_sendBlock 96 = .ok (.iload_n 2, 1) := by decide +kernel
theorem dX3_sendBlock_97 : decode cX3_sendBlock 97 = .ok (.iastore, 1) := by decide +kernel
theorem dX3_sendBlock_98 : decode cX3_sendBlock 98 = .ok (.aload_n 0, 1) := by decide +kernel
theorem dX3_sendBlock_99 : decode cX3_sendBlock 99 = .ok (.getfield 89, 3) := by decide +kernel
theorem dX3_sendBlock_102 : decode cX3_sendBlock 102 = .ok (.aload_n 0, 1) := by decide +kernel
theorem dX3_sendBlock_103 : decode cX3_sendBlock 103 = .ok (.getfield 167, 3) := by decide +kernel
theorem dX3_sendBlock_106 : decode cX3_sendBlock 106 = .ok (.iload_n 1, 1) := by decide +kernel
theorem dX3_sendBlock_107 : decode cX3_sendBlock 107 = .ok (.iastore, 1) := by decide +kernel
theorem dX3_sendBlock_108 : decode cX3_sendBlock 108 = .ok (.aload_n 0, 1) := by decide +kernel
theorem dX3_sendBlock_109 : decode cX3_sendBlock 109 = .ok (.getfield 92, 3) := by decide +kernel
theorem dX3_sendBlock_112 : decode cX3_sendBlock 112 = .ok (.aload_n 0, 1) := by decide +kernel
theorem dX3_sendBlock_113 : decode cX3_sendBlock 113 = .ok (.getfield 167, 3) := by decide +kernel
theorem dX3_sendBlock_116 : decode cX3_sendBlock 116 = .ok (.aload_n 0, 1) := by decide +kernel
theorem dX3_sendBlock_117 : decode cX3_sendBlock 117 = .ok (.getfield 170, 3) := by decide +kernel
theorem dX3_sendBlock_120 : decode cX3_sendBlock 120 = .ok (.iastore, 1) := by decide +kernel
theorem dX3_sendBlock_121 : decode cX3_sendBlock 121 = .ok (.aload_n 0, 1) := by decide +kernel
theorem dX3_sendBlock_122 : decode cX3_sendBlock 122 = .ok (.dup, 1) := by decide +kernel
theorem dX3_sendBlock_123 : decode cX3_sendBlock 123 = .ok (.getfield 167, 3) := by decide +kernel
theorem dX3_sendBlock_126 : decode cX3_sendBlock 126 = .ok (.iconst 1, 1) := by decide +kernel
theorem dX3_sendBlock_127 : decode cX3_sendBlock 127 = .ok (.iadd, 1) := by decide +kernel
theorem dX3_sendBlock_128 : decode cX3_sendBlock 128 = .ok (.putfield 167, 3) := by decide +kernel
theorem dX3_sendBlock_131 : decode cX3_sendBlock 131 = .ok (.iconst 1, 1) := by decide +kernel
theorem dX3_sendBlock_132 : decode cX3_sendBlock 132 = .ok (.ireturn, 1) := by decide +kernel
set_option maxRecDepth 20000 in
theorem ggX3_transport_X3_sendBlock : GoodIn wsX3_transport wsX3_sendBlock := goodIn_r _ [9, 10, 11, 12, 3, 13, 14, 15, 16, 17, 18, 19, 20, 21, 8, 22, 2, 27, 28, 29, 30, 31, 32, 33, 34, 35, 36, 37, 38, 39, 40, 41, 42, 43, 44, 45, 46, 47, 48, 49, 50, 51, 52, 53, 54, 55, 56, 57, 58, 59, 60, 61, 62, 63, 64, 65, 66, 67] (by decide +kernel) (by decide +kernel)
set_option maxRecDepth 20000 in
theorem gX3_transport_X3_sendBlock : GoodIn wsX3_transport (wsV RX3 173 RX3 yX3_sendBlock wsX3_sendBlock) := goodIn_app (goodIn_of _ (by decide +kernel)) ggX3_transport_X3_sendBlock
set_option maxRecDepth 20000 in
theorem ggX3_transport_X3_loadOf : GoodIn wsX3_transport wsX3_loadOf := goodIn_r _ [26, 2, 11, 10, 27, 28, 29, 30, 31, 32, 33, 34, 35, 36, 37, 38, 39, 40, 41, 42, 43, 44, 45, 46, 47, 48, 49, 50, 51, 52, 53, 54, 55, 56, 57, 58, 59, 60, 61, 62, 63, 64, 65, 66, 67] (by decide +kernel) (by decide +kernel)
set_option maxRecDepth 20000 in
theorem gX3_transport_X3_loadOf : GoodIn wsX3_transport (wsV RX3 176 RX3 yX3_loadOf wsX3_loadOf) := goodIn_app (goodIn_of _ (by decide +kernel)) ggX3_transport_X3_loadOf
theorem dX3_transport_0 : decode cX3_transport 0 = .ok (.iconst 0, 1) := by decide +kernel
theorem dX3_transport_1 : decode cX3_transport 1 = .ok (.istore_n 2, 1) := by decide +kernel
theorem dX3_transport_2 : decode cX3_transport 2 = .ok (.iconst 0, 1) := by decide +kernel
theorem dX3_transport_3 : decode cX3_transport 3 = .ok (.istore_n 3, 1) := by decide +kernel
theorem dX3_transport_4 : decode cX3_transport 4 = .ok (.iload_n 3, 1) := by decide +kernel
theorem dX3_transport_5 : decode cX3_transport 5 = .ok (.aload_n 0, 1) := by decide +kernel
theorem dX3_transport_6 : decode cX3_transport 6 = .ok (.getfield 68, 3) := by decide +kernel
theorem dX3_transport_9 : decode cX3_transport 9 = .ok (.iload_n 1, 1) := by decide +kernel
theorem dX3_transport_10 : decode cX3_transport 10 = .ok (.iaload, 1) := by decide +kernel
theorem dX3_transport_11 : decode cX3_transport 11 = .ok (.if_icmp .ge 34, 3) := by decide +kernel
theorem dX3_transport_14 : decode cX3_transport 14 = .ok (.aload_n 0, 1) := by decide +kernel
theorem dX3_transport_15 : decode cX3_transport 15 = .ok (.getfield 74, 3) := by decide +kernel
theorem dX3_transport_18 : decode cX3_transport 18 = .ok (.iload_n 1, 1) := by decide +kernel
theorem dX3_transport_19 : decode cX3_transport 19 = .ok (.iaload, 1) := by decide +kernel
theorem dX3_transport_20 : decode cX3_transport 20 = .ok (.ifCond .le 25, 3) := by decide +kernel
theorem dX3_transport_23 : decode cX3_transport 23 = .ok (.iload_n 2, 1) := by decide +kernel
theorem dX3_transport_24 : decode cX3_transport 24 = .ok (.aload_n 0, 1) := by decide +kernel
theorem dX3_transport_25 : decode cX3_transport 25 = .ok (.iload_n 1, 1) := by decide +kernel
theorem dX3_transport_26 : decode cX3_transport 26 = .ok (.invokevirtual 173, 3) := by decide +kernel
theorem dX3_transport_29 : decode cX3_transport 29 = .ok (.ifCond .eq 7, 3) := by decide +kernel
theorem dX3_transport_32 : decode cX3_transport 32 = .ok (.iconst 1, 1) := by decide +kernel
theorem dX3_transport_33 : decode cX3_transport 33 = .ok (.goto 4, 3) := by decide +kernel
theorem dX3_transport_36 : decode cX3_transport 36 = .ok (.iconst 0, 1) := by decide +kernel
theorem dX3_transport_37 : decode cX3_transport 37 = .ok (.iadd, 1) := by decide +kernel
theorem dX3_transport_38 : decode cX3_transport 38 = .ok (.istore_n 2, 1) := by decide +kernel
theorem dX3_transport_39 : decode cX3_transport 39 = .ok (.iinc 3 1, 3) := by decide +kernel
theorem dX3_transport_42 : decode cX3_transport 42 = .ok (.goto (-38), 3) := by decide +kernel
theorem dX3_transport_45 : decode cX3_transport 45 = .ok (.aload_n 0, 1) := by decide +kernel
theorem dX3_transport_46 : decode cX3_transport 46 = .ok (.getfield 25, 3) := by decide +kernel
theorem dX3_transport_49 : decode cX3_transport 49 = .ok (.iload_n 1, 1) := by decide +kernel
theorem dX3_transport_50 : decode cX3_transport 50 = .ok (.iconst 2, 1) := by decide +kernel
theorem dX3_transport_51 : decode cX3_transport 51 = .ok (.idiv, 1) := by decide +kernel
theorem dX3_transport_52 : decode cX3_transport 52 = .ok (.baload, 1) := by decide +kernel
theorem dX3_transport_53 : decode cX3_transport 53 = .ok (.ifCond .ne 14, 3) := by decide +kernel
theorem dX3_transport_56 : decode cX3_transport 56 = .ok (.aload_n 0, 1) := by decide +kernel
theorem dX3_transport_57 : decode cX3_transport 57 = .ok (.getfield 65, 3) := by decide +kernel
theorem dX3_transport_60 : decode cX3_transport 60 = .ok (.iload_n 1, 1) := by decide +kernel
theorem dX3_transport_61 : decode cX3_transport 61 = .ok (.aload_n 0, 1) := by decide +kernel
theorem dX3_transport_62 : decode cX3_transport 62 = .ok (.iload_n 1, 1) := by decide +kernel
theorem dX3_transport_63 : decode cX3_transport 63 = .ok (.invokevirtual 176, 3) := by decide +kernel
theorem dX3_transport_66 : decode cX3_transport 66 = .ok (.iastore, 1) := by decide +kernel
theorem dX3_transport_67 : decode cX3_transport 67 = .ok (.iload_n 2, 1) := by decide +kernel
theorem dX3_transport_68 : decode cX3_transport 68 = .ok (.ireturn, 1) := by decide +kernel
set_option maxRecDepth 20000 in
theorem ggX3_keys_X3_mix : GoodIn wsX3_keys wsX3_mix := goodIn_r _ [14, 15, 16] (by decide +kernel) (by decide +kernel)
set_option maxRecDepth 20000 in
theorem gX3_keys_X3_mix : GoodIn wsX3_keys (wsV RX3 136 RX3 yX3_mix wsX3_mix) := goodIn_app (goodIn_of _ (by decide +kernel)) ggX3_keys_X3_mix
theorem dX3_keys_0 : decode cX3_keys 0 = .ok (.aload_n 0, 1) := by decide +kernel
theorem dX3_keys_1 : decode cX3_keys 1 = .ok (.getfield 41, 3) := by decide +kernel
theorem dX3_keys_4 : decode cX3_keys 4 = .ok (.iload_n 1, 1) := by decide +kernel
theorem dX3_keys_5 : decode cX3_keys 5 = .ok (.baload, 1) := by decide +kernel
theorem dX3_keys_6 : decode cX3_keys 6 = .ok (.ifCond .eq 49, 3) := by decide +kernel
theorem dX3_keys_9 : decode cX3_keys 9 = .ok (.aload_n 0, 1) := by decide +kernel
theorem dX3_keys_10 : decode cX3_keys 10 = .ok (.getfield 50, 3) := by decide +kernel
theorem dX3_keys_13 : decode cX3_keys 13 = .ok (.iload_n 1, 1) := by decide +kernel
theorem dX3_keys_14 : decode cX3_keys 14 = .ok (.aload_n 0, 1) := by decide +kernel
theorem dX3_keys_15 : decode cX3_keys 15 = .ok (.getfield 44, 3) := by decide +kernel
theorem dX3_keys_18 : decode cX3_keys 18 = .ok (.iload_n 1, 1) := by decide +kernel
theorem dX3_keys_19 : decode cX3_keys 19 = .ok (.iaload, 1) := by decide +kernel
theorem dX3_keys_20 : decode cX3_keys 20 = .ok (.aload_n 0, 1) := by decide +kernel
theorem dX3_keys_21 : decode cX3_keys 21 = .ok (.aload_n 0, 1) := by decide +kernel
theorem dX3_keys_22 : decode cX3_keys 22 = .ok (.getfield 32, 3) := by decide +kernel
theorem dX3_keys_25 : decode cX3_keys 25 = .ok (.iload_n 1, 1) := by decide +kernel
theorem dX3_keys_26 : decode cX3_keys 26 = .ok (.iaload, 1) := by decide +kernel
theorem dX3_keys_27 : decode cX3_keys 27 = .ok (.aload_n 0, 1) := by decide +kernel
theorem dX3_keys_28 : decode cX3_keys 28 = .ok (.getfield 170, 3) := by decide +kernel
theorem dX3_keys_31 : decode cX3_keys 31 = .ok (.invokevirtual 136, 3) := by decide +kernel
theorem dX3_keys_34 : decode cX3_keys 34 = .ok (.ixor, 1) := by decide +kernel
theorem dX3_keys_35 : decode cX3_keys 35 = .ok (.iastore, 1) := by decide +kernel
theorem dX3_keys_36 : decode cX3_keys 36 = .ok (.aload_n 0, 1) := by decide +kernel
theorem dX3_keys_37 : decode cX3_keys 37 = .ok (.getfield 47, 3) := by decide +kernel
theorem dX3_keys_40 : decode cX3_keys 40 = .ok (.iload_n 1, 1) := by decide +kernel
theorem dX3_keys_41 : decode cX3_keys 41 = .ok (.aload_n 0, 1) := by decide +kernel
theorem dX3_keys_42 : decode cX3_keys 42 = .ok (.getfield 44, 3) := by decide +kernel
theorem dX3_keys_45 : decode cX3_keys 45 = .ok (.iload_n 1, 1) := by decide +kernel
theorem dX3_keys_46 : decode cX3_keys 46 = .ok (.iaload, 1) := by decide +kernel
theorem dX3_keys_47 : decode cX3_keys 47 = .ok (.iastore, 1) := by decide +kernel
theorem dX3_keys_48 : decode cX3_keys 48 = .ok (.aload_n 0, 1) := by decide +kernel
theorem dX3_keys_49 : decode cX3_keys 49 = .ok (.getfield 41, 3) := by decide +kernel
theorem dX3_keys_52 : decode cX3_keys 52 = .ok (.iload_n 1, 1) := by decide +kernel
theorem dX3_keys_53 : decode cX3_keys 53 = .ok (.iconst 0, 1) := by decide +kernel
theorem dX3_keys_54 : decode cX3_keys 54 = .ok (.bastore, 1) := by decide +kernel
theorem dX3_keys_55 : decode cX3_keys 55 = .ok (.aload_n 0, 1) := by decide +kernel
theorem dX3_keys_56 : decode cX3_keys 56 = .ok (.getfield 35, 3) := by decide +kernel
theorem dX3_keys_59 : decode cX3_keys 59 = .ok (.iload_n 1, 1) := by decide +kernel
theorem dX3_keys_60 : decode cX3_keys 60 = .ok (.iaload, 1) := by decide +kernel
theorem dX3_keys_61 : decode cX3_keys 61 = .ok (.ifCond .lt 43, 3) := by decide +kernel
theorem dX3_keys_64 : decode cX3_keys 64 = .ok (.aload_n 0, 1) := by decide +kernel
theorem dX3_keys_65 : decode cX3_keys 65 = .ok (.getfield 38, 3) := by decide +kernel
theorem dX3_keys_68 : decode cX3_keys 68 = .ok (.iload_n 1, 1) := by decide +kernel
theorem dX3_keys_69 : decode cX3_keys 69 = .ok (.aload_n 0, 1) := by decide +kernel
theorem dX3_keys_70 : decode cX3_keys 70 = .ok (.getfield 35, 3) := by decide +kernel
theorem dX3_keys_73 : decode cX3_keys 73 = .ok (.iload_n 1, 1) := by decide +kernel
theorem dX3_keys_74 : decode cX3_keys 74 = .ok (.iaload, 1) := by decide +kernel
theorem dX3_keys_75 : decode cX3_keys 75 = .ok (.iastore, 1) := by decide +kernel
theorem dX3_keys_76 : decode cX3_keys 76 = .ok (.aload_n 0, 1) := by decide +kernel
theorem dX3_keys_77 : decode cX3_keys 77 = .ok (.getfield 25, 3) := by decide +kernel
theorem dX3_keys_80 : decode cX3_keys 80 = .ok (.iload_n 1, 1) := by decide +kernel
theorem dX3_keys_81 : decode cX3_keys 81 = .ok (.baload, 1) := by decide +kernel
theorem dX3_keys_82 : decode cX3_keys 82 = .ok (.ifCond .ne 22, 3) := by decide +kernel
theorem dX3_keys_85 : decode cX3_keys 85 = .ok (.aload_n 0, 1) := by decide +kernel
theorem dX3_keys_86 : decode cX3_keys 86 = .ok (.getfield 32, 3) := by decide +kernel
theorem dX3_keys_89 : decode cX3_keys 89 = .ok (.iload_n 1, 1) := by decide +kernel
theorem dX3_keys_90 : decode cX3_keys 90 = .ok (.aload_n 0, 1) := by decide +kernel
theorem dX3_keys_91 : decode cX3_keys 91 = .ok (.getfield 35, 3) := by decide +kernel
theorem dX3_keys_94 : decode cX3_keys 94 = .ok (.iload_n 1, 1) := by decide +kernel
theorem dX3_keys_95 : decode cX3_keys 95 = .ok (.iaload, 1) := by decide +kernel
theorem dX3_keys_96 : decode cX3_keys 96 = .ok (.iastore, 1) := by decide +kernel
theorem dX3_keys_97 : decode cX3_keys 97 = .ok (.aload_n 0, 1) := by decide +kernel
theorem dX3_keys_98 : decode cX3_keys 98 = .ok (.getfield 35, 3) := by decide +kernel
theorem dX3_keys_101 : decode cX3_keys 101 = .ok (.iload_n 1, 1) := by decide +kernel
theorem dX3_keys_102 : decode cX3_keys 102 = .ok (.iconst (-1), 1) := by decide +kernel
theorem dX3_keys_103 : decode cX3_keys 103 = .ok (.iastore, 1) := by decide +kernel
theorem dX3_keys_104 : decode cX3_keys 104 = .ok (.return_, 1) := by decide +kernel
set_option maxRecDepth 20000 in
theorem ggX3_frame_X3_darkFrame : GoodIn wsX3_frame wsX3_darkFrame := goodIn_r _ [13, 5, 4, 3, 14, 15, 16, 17, 12, 18, 108, 109, 110, 111, 112, 113, 114, 115, 116, 117, 118, 119, 120, 121, 122, 123, 124, 125, 126, 127, 128, 129, 130, 131, 132, 133, 134, 135, 136, 137, 138, 139, 140, 141, 142, 143, 144, 145, 146, 147, 148] (by decide +kernel) (by decide +kernel)
set_option maxRecDepth 20000 in
theorem gX3_frame_X3_darkFrame : GoodIn wsX3_frame (wsV RX3 179 RX3 yX3_darkFrame wsX3_darkFrame) := goodIn_app (goodIn_of _ (by decide +kernel)) ggX3_frame_X3_darkFrame
set_option maxRecDepth 20000 in
theorem ggX3_frame_X3_quietFrame : GoodIn wsX3_frame wsX3_quietFrame := goodIn_r _ [22, 7, 23, 24, 25, 26, 12, 27, 28, 29, 30, 31, 32, 33, 34, 35, 36, 37, 38, 14, 39, 4, 15, 16, 17, 18, 108, 109, 110, 111, 112, 113, 114, 115, 116, 117, 118, 119, 120, 121, 122, 123, 124, 125, 126, 127, 128, 129, 130, 131, 132, 133, 134, 135, 136, 137, 138, 139, 140, 141, 142, 143, 144, 145, 146, 147, 148] (by decide +kernel) (by decide +kernel)
set_option maxRecDepth 20000 in
theorem gX3_frame_X3_quietFrame : GoodIn wsX3_frame (wsV RX3 182 RX3 yX3_quietFrame wsX3_quietFrame) := goodIn_app (goodIn_of _ (by decide +kernel)) ggX3_frame_X3_quietFrame
set_option maxRecDepth 20000 in
theorem ggX3_frame_X3_look : GoodIn wsX3_frame wsX3_look := goodIn_r _ [43, 7, 23, 44, 45, 46, 47, 12, 48, 39, 4, 14, 15, 16, 17, 18, 35, 36, 37, 38, 108, 109, 110, 111, 112, 113, 114, 115, 116, 117, 118, 119, 120, 121, 122, 123, 124, 125, 126, 127, 128, 129, 130, 131, 132, 133, 134, 135, 136, 137, 138, 139, 140, 141, 142, 143, 144, 145, 146, 147, 148] (by decide +kernel) (by decide +kernel)
set_option maxRecDepth 20000 in
theorem gX3_frame_X3_look : GoodIn wsX3_frame (wsV RX3 185 RX3 yX3_look wsX3_look) := goodIn_app (goodIn_of _ (by decide +kernel)) ggX3_frame_X3_look
set_option maxRecDepth 20000 in
theorem ggX3_frame_X3_map : GoodIn wsX3_frame wsX3_map := goodIn_r _ [52, 53, 7, 54, 55, 56, 57, 58, 59, 60, 61, 62, 12, 63, 64, 108, 109, 110, 111, 112, 113, 114, 115, 116, 117, 118, 119, 120, 121, 122, 123, 124, 125, 126, 127, 128, 129, 130, 131, 132, 133, 134, 135, 136, 137, 138, 139, 140, 141, 142, 143, 144, 145, 146, 147, 148] (by decide +kernel) (by decide +kernel)
set_option maxRecDepth 20000 in
theorem gX3_frame_X3_map : GoodIn wsX3_frame (wsV RX3 188 RX3 yX3_map wsX3_map) := goodIn_app (goodIn_of _ (by decide +kernel)) ggX3_frame_X3_map
set_option maxRecDepth 20000 in
theorem ggX3_frame_X3_bursts : GoodIn wsX3_frame wsX3_bursts := goodIn_r _ [68, 7, 69, 70, 57, 71, 45, 46, 47, 12, 48, 39, 4, 14, 15, 16, 17, 18, 108, 109, 110, 111, 112, 113, 114, 115, 116, 117, 118, 119, 120, 121, 122, 123, 124, 125, 126, 127, 128, 129, 130, 131, 132, 133, 134, 135, 136, 137, 138, 139, 140, 141, 142, 143, 144, 145, 146, 147, 148] (by decide +kernel) (by decide +kernel)
set_option maxRecDepth 20000 in
theorem gX3_frame_X3_bursts : GoodIn wsX3_frame (wsV RX3 191 RX3 yX3_bursts wsX3_bursts) := goodIn_app (goodIn_of _ (by decide +kernel)) ggX3_frame_X3_bursts
set_option maxRecDepth 20000 in
theorem ggX3_frame_X3_transport : GoodIn wsX3_frame wsX3_transport := goodIn_r _ [75, 57, 76, 8, 54, 77, 78, 79, 12, 80, 81, 82, 83, 84, 85, 86, 87, 88, 2, 89, 90, 91, 92, 93, 94, 95, 96, 108, 109, 110, 111, 112, 113, 114, 115, 116, 117, 118, 119, 120, 121, 122, 123, 124, 125, 126, 127, 128, 129, 130, 131, 132, 133, 134, 135, 136, 137, 138, 139, 140, 141, 142, 143, 144, 145, 146, 147, 148] (by decide +kernel) (by decide +kernel)
set_option maxRecDepth 20000 in
theorem gX3_frame_X3_transport : GoodIn wsX3_frame (wsV RX3 194 RX3 yX3_transport wsX3_transport) := goodIn_app (goodIn_of _ (by decide +kernel)) ggX3_frame_X3_transport
set_option maxRecDepth 20000 in
theorem ggX3_frame_X3_keys : GoodIn wsX3_frame wsX3_keys := goodIn_r _ [100, 101, 102, 103, 104, 2, 105, 106, 107, 8, 29, 30, 31, 12, 32, 33, 34, 108, 109, 110, 111, 112, 113, 114, 115, 116, 117, 118, 119, 120, 121, 122, 123, 124, 125, 126, 127, 128, 129, 130, 131, 132, 133, 134, 135, 136, 137, 138, 139, 140, 141, 142, 143, 144, 145, 146, 147, 148] (by decide +kernel) (by decide +kernel)
set_option maxRecDepth 20000 in
theorem gX3_frame_X3_keys : GoodIn wsX3_frame (wsV RX3 197 RX3 yX3_keys wsX3_keys) := goodIn_app (goodIn_of _ (by decide +kernel)) ggX3_frame_X3_keys
theorem dX3_frame_0 : decode cX3_frame 0 = .ok (.aload_n 0, 1) := by decide +kernel
theorem dX3_frame_1 : decode cX3_frame 1 = .ok (.iconst 0, 1) := by decide +kernel
theorem dX3_frame_2 : decode cX3_frame 2 = .ok (.putfield 101, 3) := by decide +kernel
theorem dX3_frame_5 : decode cX3_frame 5 = .ok (.aload_n 0, 1) := by decide +kernel
theorem dX3_frame_6 : decode cX3_frame 6 = .ok (.dup, 1) := by decide +kernel
theorem dX3_frame_7 : decode cX3_frame 7 = .ok (.getfield 170, 3) := by decide +kernel
theorem dX3_frame_10 : decode cX3_frame 10 = .ok (.iconst 1, 1) := by decide +kernel
theorem dX3_frame_11 : decode cX3_frame 11 = .ok (.iadd, 1) := by decide +kernel
theorem dX3_frame_12 : decode cX3_frame 12 = .ok (.putfield 170, 3) := by decide +kernel
theorem dX3_frame_15 : decode cX3_frame 15 = .ok (.aload_n 0, 1) := by decide +kernel
theorem dX3_frame_16 : decode cX3_frame 16 = .ok (.getfield 29, 3) := by decide +kernel
theorem dX3_frame_19 : decode cX3_frame 19 = .ok (.aload_n 0, 1) := by decide +kernel
theorem dX3_frame_20 : decode cX3_frame 20 = .ok (.getfield 107, 3) := by decide +kernel
theorem dX3_frame_23 : decode cX3_frame 23 = .ok (.baload, 1) := by decide +kernel
theorem dX3_frame_24 : decode cX3_frame 24 = .ok (.ifCond .eq 9, 3) := by decide +kernel
theorem dX3_frame_27 : decode cX3_frame 27 = .ok (.aload_n 0, 1) := by decide +kernel
theorem dX3_frame_28 : decode cX3_frame 28 = .ok (.invokevirtual 179, 3) := by decide +kernel
theorem dX3_frame_31 : decode cX3_frame 31 = .ok (.iconst (-1), 1) := by decide +kernel
theorem dX3_frame_32 : decode cX3_frame 32 = .ok (.ireturn, 1) := by decide +kernel
theorem dX3_frame_33 : decode cX3_frame 33 = .ok (.aload_n 0, 1) := by decide +kernel
theorem dX3_frame_34 : decode cX3_frame 34 = .ok (.iconst 0, 1) := by decide +kernel
theorem dX3_frame_35 : decode cX3_frame 35 = .ok (.putfield 133, 3) := by decide +kernel
theorem dX3_frame_38 : decode cX3_frame 38 = .ok (.aload_n 0, 1) := by decide +kernel
theorem dX3_frame_39 : decode cX3_frame 39 = .ok (.getfield 129, 3) := by decide +kernel
theorem dX3_frame_42 : decode cX3_frame 42 = .ok (.ifCond .eq 15, 3) := by decide +kernel
theorem dX3_frame_45 : decode cX3_frame 45 = .ok (.aload_n 0, 1) := by decide +kernel
theorem dX3_frame_46 : decode cX3_frame 46 = .ok (.iconst 0, 1) := by decide +kernel
theorem dX3_frame_47 : decode cX3_frame 47 = .ok (.putfield 129, 3) := by decide +kernel
theorem dX3_frame_50 : decode cX3_frame 50 = .ok (.aload_n 0, 1) := by decide +kernel
theorem dX3_frame_51 : decode cX3_frame 51 = .ok (.invokevirtual 182, 3) := by decide +kernel
theorem dX3_frame_54 : decode cX3_frame 54 = .ok (.bipush (-2), 2) := by decide +kernel
theorem dX3_frame_56 : decode cX3_frame 56 = .ok (.ireturn, 1) := by decide +kernel
theorem dX3_frame_57 : decode cX3_frame 57 = .ok (.iconst 0, 1) := by decide +kernel
theorem dX3_frame_58 : decode cX3_frame 58 = .ok (.istore_n 1, 1) := by decide +kernel
theorem dX3_frame_59 : decode cX3_frame 59 = .ok (.iload_n 1, 1) := by decide +kernel
theorem dX3_frame_60 : decode cX3_frame 60 = .ok (.iconst 5, 1) := by decide +kernel
theorem dX3_frame_61 : decode cX3_frame 61 = .ok (.if_icmp .ge 24, 3) := by decide +kernel
theorem dX3_frame_64 : decode cX3_frame 64 = .ok (.aload_n 0, 1) := by decide +kernel
theorem dX3_frame_65 : decode cX3_frame 65 = .ok (.getfield 7, 3) := by decide +kernel
theorem dX3_frame_68 : decode cX3_frame 68 = .ok (.iload_n 1, 1) := by decide +kernel
theorem dX3_frame_69 : decode cX3_frame 69 = .ok (.iaload, 1) := by decide +kernel
theorem dX3_frame_70 : decode cX3_frame 70 = .ok (.iconst 2, 1) := by decide +kernel
theorem dX3_frame_71 : decode cX3_frame 71 = .ok (.if_icmp .ne 8, 3) := by decide +kernel
theorem dX3_frame_74 : decode cX3_frame 74 = .ok (.aload_n 0, 1) := by decide +kernel
theorem dX3_frame_75 : decode cX3_frame 75 = .ok (.iload_n 1, 1) := by decide +kernel
theorem dX3_frame_76 : decode cX3_frame 76 = .ok (.invokevirtual 185, 3) := by decide +kernel
theorem dX3_frame_79 : decode cX3_frame 79 = .ok (.iinc 1 1, 3) := by decide +kernel
theorem dX3_frame_82 : decode cX3_frame 82 = .ok (.goto (-23), 3) := by decide +kernel
theorem dX3_frame_85 : decode cX3_frame 85 = .ok (.aload_n 0, 1) := by decide +kernel
theorem dX3_frame_86 : decode cX3_frame 86 = .ok (.invokevirtual 188, 3) := by decide +kernel
theorem dX3_frame_89 : decode cX3_frame 89 = .ok (.aload_n 0, 1) := by decide +kernel
theorem dX3_frame_90 : decode cX3_frame 90 = .ok (.invokevirtual 191, 3) := by decide +kernel
theorem dX3_frame_93 : decode cX3_frame 93 = .ok (.iconst 0, 1) := by decide +kernel
theorem dX3_frame_94 : decode cX3_frame 94 = .ok (.istore_n 1, 1) := by decide +kernel
theorem dX3_frame_95 : decode cX3_frame 95 = .ok (.iconst 0, 1) := by decide +kernel
theorem dX3_frame_96 : decode cX3_frame 96 = .ok (.istore_n 2, 1) := by decide +kernel
theorem dX3_frame_97 : decode cX3_frame 97 = .ok (.iload_n 2, 1) := by decide +kernel
theorem dX3_frame_98 : decode cX3_frame 98 = .ok (.bipush 10, 2) := by decide +kernel
theorem dX3_frame_100 : decode cX3_frame 100 = .ok (.if_icmp .ge 33, 3) := by decide +kernel
theorem dX3_frame_103 : decode cX3_frame 103 = .ok (.iload_n 1, 1) := by decide +kernel
theorem dX3_frame_104 : decode cX3_frame 104 = .ok (.aload_n 0, 1) := by decide +kernel
theorem dX3_frame_105 : decode cX3_frame 105 = .ok (.getfield 7, 3) := by decide +kernel
theorem dX3_frame_108 : decode cX3_frame 108 = .ok (.iload_n 2, 1) := by decide +kernel
theorem dX3_frame_109 : decode cX3_frame 109 = .ok (.iconst 2, 1) := by decide +kernel
theorem dX3_frame_110 : decode cX3_frame 110 = .ok (.idiv, 1) := by decide +kernel
theorem dX3_frame_111 : decode cX3_frame 111 = .ok (.iaload, 1) := by decide +kernel
theorem dX3_frame_112 : decode cX3_frame 112 = .ok (.iconst 2, 1) := by decide +kernel
theorem dX3_frame_113 : decode cX3_frame 113 = .ok (.if_icmp .ne 11, 3) := by decide +kernel
theorem dX3_frame_116 : decode cX3_frame 116 = .ok (.aload_n 0, 1) := by decide +kernel
theorem dX3_frame_117 : decode cX3_frame 117 = .ok (.iload_n 2, 1) := by decide +kernel
theorem dX3_frame_118 : decode cX3_frame 118 = .ok (.invokevirtual 194, 3) := by decide +kernel
theorem dX3_frame_121 : decode cX3_frame 121 = .ok (.goto 4, 3) := by decide +kernel
theorem dX3_frame_124 : decode cX3_frame 124 = .ok (.iconst 0, 1) := by decide +kernel
theorem dX3_frame_125 : decode cX3_frame 125 = .ok (.iadd, 1) := by decide +kernel
theorem dX3_frame_126 : decode cX3_frame 126 = .ok (.istore_n 1, 1) := by decide +kernel
theorem dX3_frame_127 : decode cX3_frame 127 = .ok (.iinc 2 1, 3) := by decide +kernel
theorem dX3_frame_130 : decode cX3_frame 130 = .ok (.goto (-33), 3) := by decide +kernel
theorem dX3_frame_133 : decode cX3_frame 133 = .ok (.iconst 0, 1) := by decide +kernel
theorem dX3_frame_134 : decode cX3_frame 134 = .ok (.istore_n 2, 1) := by decide +kernel
theorem dX3_frame_135 : decode cX3_frame 135 = .ok (.iload_n 2, 1) := by decide +kernel
theorem dX3_frame_136 : decode cX3_frame 136 = .ok (.iconst 5, 1) := by decide +kernel
theorem dX3_frame_137 : decode cX3_frame 137 = .ok (.if_icmp .ge 24, 3) := by decide +kernel
theorem dX3_frame_140 : decode cX3_frame 140 = .ok (.aload_n 0, 1) := by decide +kernel
theorem dX3_frame_141 : decode cX3_frame 141 = .ok (.getfield 7, 3) := by decide +kernel
theorem dX3_frame_144 : decode cX3_frame 144 = .ok (.iload_n 2, 1) := by decide +kernel
theorem dX3_frame_145 : decode cX3_frame 145 = .ok (.iaload, 1) := by decide +kernel
theorem dX3_frame_146 : decode cX3_frame 146 = .ok (.iconst 2, 1) := by decide +kernel
theorem dX3_frame_147 : decode cX3_frame 147 = .ok (.if_icmp .ne 8, 3) := by decide +kernel
theorem dX3_frame_150 : decode cX3_frame 150 = .ok (.aload_n 0, 1) := by decide +kernel
theorem dX3_frame_151 : decode cX3_frame 151 = .ok (.iload_n 2, 1) := by decide +kernel
theorem dX3_frame_152 : decode cX3_frame 152 = .ok (.invokevirtual 197, 3) := by decide +kernel
theorem dX3_frame_155 : decode cX3_frame 155 = .ok (.iinc 2 1, 3) := by decide +kernel
theorem dX3_frame_158 : decode cX3_frame 158 = .ok (.goto (-23), 3) := by decide +kernel
theorem dX3_frame_161 : decode cX3_frame 161 = .ok (.iconst 0, 1) := by decide +kernel
theorem dX3_frame_162 : decode cX3_frame 162 = .ok (.istore_n 2, 1) := by decide +kernel
theorem dX3_frame_163 : decode cX3_frame 163 = .ok (.iload_n 2, 1) := by decide +kernel
theorem dX3_frame_164 : decode cX3_frame 164 = .ok (.iconst 5, 1) := by decide +kernel
theorem dX3_frame_165 : decode cX3_frame 165 = .ok (.if_icmp .ge 16, 3) := by decide +kernel
theorem dX3_frame_168 : decode cX3_frame 168 = .ok (.aload_n 0, 1) := by decide +kernel
theorem dX3_frame_169 : decode cX3_frame 169 = .ok (.getfield 25, 3) := by decide +kernel
theorem dX3_frame_172 : decode cX3_frame 172 = .ok (.iload_n 2, 1) := by decide +kernel
theorem dX3_frame_173 : decode cX3_frame 173 = .ok (.iconst 0, 1) := by decide +kernel
theorem dX3_frame_174 : decode cX3_frame 174 = .ok (.bastore, 1) := by decide +kernel
theorem dX3_frame_175 : decode cX3_frame 175 = .ok (.iinc 2 1, 3) := by decide +kernel
theorem dX3_frame_178 : decode cX3_frame 178 = .ok (.goto (-15), 3) := by decide +kernel
theorem dX3_frame_181 : decode cX3_frame 181 = .ok (.iload_n 1, 1) := by decide +kernel
theorem dX3_frame_182 : decode cX3_frame 182 = .ok (.ireturn, 1) := by decide +kernel
set_option maxRecDepth 20000 in
theorem ggX3_unit_X3_errorOf : GoodIn wsX3_unit wsX3_errorOf := goodIn_r _ [12, 13, 14, 15, 16, 17, 18, 11, 19, 20, 21, 22, 23, 24, 25, 26, 27, 28, 29, 30, 31, 32, 33, 34, 35, 36, 37, 38, 39, 40, 41, 42, 43, 44, 45, 46, 47, 48, 49, 50, 51, 52, 53, 54, 55, 56, 57, 58, 59, 60] (by decide +kernel) (by decide +kernel)
set_option maxRecDepth 20000 in
theorem gX3_unit_X3_errorOf : GoodIn wsX3_unit (wsV RX3 146 RX3 yX3_errorOf wsX3_errorOf) := goodIn_app (goodIn_of _ (by decide +kernel)) ggX3_unit_X3_errorOf
theorem dX3_unit_0 : decode cX3_unit 0 = .ok (.aload_n 0, 1) := by decide +kernel
theorem dX3_unit_1 : decode cX3_unit 1 = .ok (.iload_n 1, 1) := by decide +kernel
theorem dX3_unit_2 : decode cX3_unit 2 = .ok (.ifCond .lt 18, 3) := by decide +kernel
theorem dX3_unit_5 : decode cX3_unit 5 = .ok (.iload_n 1, 1) := by decide +kernel
theorem dX3_unit_6 : decode cX3_unit 6 = .ok (.iconst 4, 1) := by decide +kernel
theorem dX3_unit_7 : decode cX3_unit 7 = .ok (.if_icmp .gt 13, 3) := by decide +kernel
theorem dX3_unit_10 : decode cX3_unit 10 = .ok (.iload_n 2, 1) := by decide +kernel
theorem dX3_unit_11 : decode cX3_unit 11 = .ok (.ifCond .lt 9, 3) := by decide +kernel
theorem dX3_unit_14 : decode cX3_unit 14 = .ok (.iload_n 2, 1) := by decide +kernel
theorem dX3_unit_15 : decode cX3_unit 15 = .ok (.bipush 6, 2) := by decide +kernel
theorem dX3_unit_17 : decode cX3_unit 17 = .ok (.if_icmp .le 7, 3) := by decide +kernel
theorem dX3_unit_20 : decode cX3_unit 20 = .ok (.iconst 1, 1) := by decide +kernel
theorem dX3_unit_21 : decode cX3_unit 21 = .ok (.goto 4, 3) := by decide +kernel
theorem dX3_unit_24 : decode cX3_unit 24 = .ok (.iconst 0, 1) := by decide +kernel
theorem dX3_unit_25 : decode cX3_unit 25 = .ok (.putfield 101, 3) := by decide +kernel
theorem dX3_unit_28 : decode cX3_unit 28 = .ok (.aload_n 0, 1) := by decide +kernel
theorem dX3_unit_29 : decode cX3_unit 29 = .ok (.getfield 101, 3) := by decide +kernel
theorem dX3_unit_32 : decode cX3_unit 32 = .ok (.ifCond .ne 12, 3) := by decide +kernel
theorem dX3_unit_35 : decode cX3_unit 35 = .ok (.aload_n 0, 1) := by decide +kernel
theorem dX3_unit_36 : decode cX3_unit 36 = .ok (.getfield 7, 3) := by decide +kernel
theorem dX3_unit_39 : decode cX3_unit 39 = .ok (.iload_n 1, 1) := by decide +kernel
theorem dX3_unit_40 : decode cX3_unit 40 = .ok (.iaload, 1) := by decide +kernel
theorem dX3_unit_41 : decode cX3_unit 41 = .ok (.ifCond .ne 5, 3) := by decide +kernel
theorem dX3_unit_44 : decode cX3_unit 44 = .ok (.iconst 0, 1) := by decide +kernel
theorem dX3_unit_45 : decode cX3_unit 45 = .ok (.ireturn, 1) := by decide +kernel
theorem dX3_unit_46 : decode cX3_unit 46 = .ok (.iload_n 2, 1) := by decide +kernel
theorem dX3_unit_47 : decode cX3_unit 47 = .ok (.tableswitch 92 0 5 #[37, 44, 64, 71, 78, 85], 37) := by decide +kernel
theorem dX3_unit_84 : decode cX3_unit 84 = .ok (.aload_n 0, 1) := by decide +kernel
theorem dX3_unit_85 : decode cX3_unit 85 = .ok (.getfield 7, 3) := by decide +kernel
theorem dX3_unit_88 : decode cX3_unit 88 = .ok (.iload_n 1, 1) := by decide +kernel
theorem dX3_unit_89 : decode cX3_unit 89 = .ok (.iaload, 1) := by decide +kernel
theorem dX3_unit_90 : decode cX3_unit 90 = .ok (.ireturn, 1) := by decide +kernel
theorem dX3_unit_91 : decode cX3_unit 91 = .ok (.aload_n 0, 1) := by decide +kernel
theorem dX3_unit_92 : decode cX3_unit 92 = .ok (.getfield 7, 3) := by decide +kernel
theorem dX3_unit_95 : decode cX3_unit 95 = .ok (.iload_n 1, 1) := by decide +kernel
theorem dX3_unit_96 : decode cX3_unit 96 = .ok (.iaload, 1) := by decide +kernel
theorem dX3_unit_97 : decode cX3_unit 97 = .ok (.iconst 2, 1) := by decide +kernel
theorem dX3_unit_98 : decode cX3_unit 98 = .ok (.if_icmp .ne 11, 3) := by decide +kernel
theorem dX3_unit_101 : decode cX3_unit 101 = .ok (.aload_n 0, 1) := by decide +kernel
theorem dX3_unit_102 : decode cX3_unit 102 = .ok (.iload_n 1, 1) := by decide +kernel
theorem dX3_unit_103 : decode cX3_unit 103 = .ok (.invokevirtual 146, 3) := by decide +kernel
theorem dX3_unit_106 : decode cX3_unit 106 = .ok (.goto 4, 3) := by decide +kernel
theorem dX3_unit_109 : decode cX3_unit 109 = .ok (.iconst 0, 1) := by decide +kernel
theorem dX3_unit_110 : decode cX3_unit 110 = .ok (.ireturn, 1) := by decide +kernel
theorem dX3_unit_111 : decode cX3_unit 111 = .ok (.aload_n 0, 1) := by decide +kernel
theorem dX3_unit_112 : decode cX3_unit 112 = .ok (.getfield 32, 3) := by decide +kernel
theorem dX3_unit_115 : decode cX3_unit 115 = .ok (.iload_n 1, 1) := by decide +kernel
theorem dX3_unit_116 : decode cX3_unit 116 = .ok (.iaload, 1) := by decide +kernel
theorem dX3_unit_117 : decode cX3_unit 117 = .ok (.ireturn, 1) := by decide +kernel
theorem dX3_unit_118 : decode cX3_unit 118 = .ok (.aload_n 0, 1) := by decide +kernel
theorem dX3_unit_119 : decode cX3_unit 119 = .ok (.getfield 38, 3) := by decide +kernel
theorem dX3_unit_122 : decode cX3_unit 122 = .ok (.iload_n 1, 1) := by decide +kernel
theorem dX3_unit_123 : decode cX3_unit 123 = .ok (.iaload, 1) := by decide +kernel
theorem dX3_unit_124 : decode cX3_unit 124 = .ok (.ireturn, 1) := by decide +kernel
theorem dX3_unit_125 : decode cX3_unit 125 = .ok (.aload_n 0, 1) := by decide +kernel
theorem dX3_unit_126 : decode cX3_unit 126 = .ok (.getfield 47, 3) := by decide +kernel
theorem dX3_unit_129 : decode cX3_unit 129 = .ok (.iload_n 1, 1) := by decide +kernel
theorem dX3_unit_130 : decode cX3_unit 130 = .ok (.iaload, 1) := by decide +kernel
theorem dX3_unit_131 : decode cX3_unit 131 = .ok (.ireturn, 1) := by decide +kernel
theorem dX3_unit_132 : decode cX3_unit 132 = .ok (.aload_n 0, 1) := by decide +kernel
theorem dX3_unit_133 : decode cX3_unit 133 = .ok (.getfield 50, 3) := by decide +kernel
theorem dX3_unit_136 : decode cX3_unit 136 = .ok (.iload_n 1, 1) := by decide +kernel
theorem dX3_unit_137 : decode cX3_unit 137 = .ok (.iaload, 1) := by decide +kernel
theorem dX3_unit_138 : decode cX3_unit 138 = .ok (.ireturn, 1) := by decide +kernel
theorem dX3_unit_139 : decode cX3_unit 139 = .ok (.aload_n 0, 1) := by decide +kernel
theorem dX3_unit_140 : decode cX3_unit 140 = .ok (.getfield 19, 3) := by decide +kernel
theorem dX3_unit_143 : decode cX3_unit 143 = .ok (.iload_n 1, 1) := by decide +kernel
theorem dX3_unit_144 : decode cX3_unit 144 = .ok (.iaload, 1) := by decide +kernel
theorem dX3_unit_145 : decode cX3_unit 145 = .ok (.ireturn, 1) := by decide +kernel
set_option maxRecDepth 20000 in
theorem ggX3_container_X3_loadOf : GoodIn wsX3_container wsX3_loadOf := goodIn_r _ [10, 5, 11, 12, 13, 14, 15, 16, 17, 18, 19, 20, 21, 22, 23, 24, 25, 26, 27, 28, 29, 30, 31, 32, 33, 34, 35, 36, 37, 38, 39, 40, 41, 42, 43, 44, 45, 46, 47, 48, 49, 50, 51, 52, 53] (by decide +kernel) (by decide +kernel)
set_option maxRecDepth 20000 in
theorem gX3_container_X3_loadOf : GoodIn wsX3_container (wsV RX3 176 RX3 yX3_loadOf wsX3_loadOf) := goodIn_app (goodIn_of _ (by decide +kernel)) ggX3_container_X3_loadOf
theorem dX3_container_0 : decode cX3_container 0 = .ok (.aload_n 0, 1) := by decide +kernel
theorem dX3_container_1 : decode cX3_container 1 = .ok (.iload_n 1, 1) := by decide +kernel
theorem dX3_container_2 : decode cX3_container 2 = .ok (.ifCond .lt 26, 3) := by decide +kernel
theorem dX3_container_5 : decode cX3_container 5 = .ok (.iload_n 1, 1) := by decide +kernel
theorem dX3_container_6 : decode cX3_container 6 = .ok (.iconst 4, 1) := by decide +kernel
theorem dX3_container_7 : decode cX3_container 7 = .ok (.if_icmp .gt 21, 3) := by decide +kernel
theorem dX3_container_10 : decode cX3_container 10 = .ok (.iload_n 2, 1) := by decide +kernel
theorem dX3_container_11 : decode cX3_container 11 = .ok (.ifCond .lt 17, 3) := by decide +kernel
theorem dX3_container_14 : decode cX3_container 14 = .ok (.iload_n 2, 1) := by decide +kernel
theorem dX3_container_15 : decode cX3_container 15 = .ok (.iconst 1, 1) := by decide +kernel
theorem dX3_container_16 : decode cX3_container 16 = .ok (.if_icmp .gt 12, 3) := by decide +kernel
theorem dX3_container_19 : decode cX3_container 19 = .ok (.iload_n 3, 1) := by decide +kernel
theorem dX3_container_20 : decode cX3_container 20 = .ok (.ifCond .lt 8, 3) := by decide +kernel
theorem dX3_container_23 : decode cX3_container 23 = .ok (.iload_n 3, 1) := by decide +kernel
theorem dX3_container_24 : decode cX3_container 24 = .ok (.iconst 3, 1) := by decide +kernel
theorem dX3_container_25 : decode cX3_container 25 = .ok (.if_icmp .le 7, 3) := by decide +kernel
theorem dX3_container_28 : decode cX3_container 28 = .ok (.iconst 1, 1) := by decide +kernel
theorem dX3_container_29 : decode cX3_container 29 = .ok (.goto 4, 3) := by decide +kernel
theorem dX3_container_32 : decode cX3_container 32 = .ok (.iconst 0, 1) := by decide +kernel
theorem dX3_container_33 : decode cX3_container 33 = .ok (.putfield 101, 3) := by decide +kernel
theorem dX3_container_36 : decode cX3_container 36 = .ok (.aload_n 0, 1) := by decide +kernel
theorem dX3_container_37 : decode cX3_container 37 = .ok (.getfield 101, 3) := by decide +kernel
theorem dX3_container_40 : decode cX3_container 40 = .ok (.ifCond .ne 12, 3) := by decide +kernel
theorem dX3_container_43 : decode cX3_container 43 = .ok (.aload_n 0, 1) := by decide +kernel
theorem dX3_container_44 : decode cX3_container 44 = .ok (.getfield 7, 3) := by decide +kernel
theorem dX3_container_47 : decode cX3_container 47 = .ok (.iload_n 1, 1) := by decide +kernel
theorem dX3_container_48 : decode cX3_container 48 = .ok (.iaload, 1) := by decide +kernel
theorem dX3_container_49 : decode cX3_container 49 = .ok (.ifCond .ne 5, 3) := by decide +kernel
theorem dX3_container_52 : decode cX3_container 52 = .ok (.iconst 0, 1) := by decide +kernel
theorem dX3_container_53 : decode cX3_container 53 = .ok (.ireturn, 1) := by decide +kernel
theorem dX3_container_54 : decode cX3_container 54 = .ok (.iconst 2, 1) := by decide +kernel
theorem dX3_container_55 : decode cX3_container 55 = .ok (.iload_n 1, 1) := by decide +kernel
theorem dX3_container_56 : decode cX3_container 56 = .ok (.imul, 1) := by decide +kernel
theorem dX3_container_57 : decode cX3_container 57 = .ok (.iload_n 2, 1) := by decide +kernel
theorem dX3_container_58 : decode cX3_container 58 = .ok (.iadd, 1) := by decide +kernel
theorem dX3_container_59 : decode cX3_container 59 = .ok (.istore 4, 2) := by decide +kernel
theorem dX3_container_61 : decode cX3_container 61 = .ok (.iload_n 3, 1) := by decide +kernel
theorem dX3_container_62 : decode cX3_container 62 = .ok (.ifCond .ne 12, 3) := by decide +kernel
theorem dX3_container_65 : decode cX3_container 65 = .ok (.aload_n 0, 1) := by decide +kernel
theorem dX3_container_66 : decode cX3_container 66 = .ok (.iload 4, 2) := by decide +kernel
theorem dX3_container_68 : decode cX3_container 68 = .ok (.invokevirtual 176, 3) := by decide +kernel
theorem dX3_container_71 : decode cX3_container 71 = .ok (.goto 40, 3) := by decide +kernel
theorem dX3_container_74 : decode cX3_container 74 = .ok (.iload_n 3, 1) := by decide +kernel
theorem dX3_container_75 : decode cX3_container 75 = .ok (.iconst 1, 1) := by decide +kernel
theorem dX3_container_76 : decode cX3_container 76 = .ok (.if_icmp .ne 13, 3) := by decide +kernel
theorem dX3_container_79 : decode cX3_container 79 = .ok (.aload_n 0, 1) := by decide +kernel
theorem dX3_container_80 : decode cX3_container 80 = .ok (.getfield 65, 3) := by decide +kernel
theorem dX3_container_83 : decode cX3_container 83 = .ok (.iload 4, 2) := by decide +kernel
theorem dX3_container_85 : decode cX3_container 85 = .ok (.iaload, 1) := by decide +kernel
theorem dX3_container_86 : decode cX3_container 86 = .ok (.goto 25, 3) := by decide +kernel
theorem dX3_container_89 : decode cX3_container 89 = .ok (.iload_n 3, 1) := by decide +kernel
theorem dX3_container_90 : decode cX3_container 90 = .ok (.iconst 2, 1) := by decide +kernel
theorem dX3_container_91 : decode cX3_container 91 = .ok (.if_icmp .ne 13, 3) := by decide +kernel
theorem dX3_container_94 : decode cX3_container 94 = .ok (.aload_n 0, 1) := by decide +kernel
theorem dX3_container_95 : decode cX3_container 95 = .ok (.getfield 68, 3) := by decide +kernel
theorem dX3_container_98 : decode cX3_container 98 = .ok (.iload 4, 2) := by decide +kernel
theorem dX3_container_100 : decode cX3_container 100 = .ok (.iaload, 1) := by decide +kernel
theorem dX3_container_101 : decode cX3_container 101 = .ok (.goto 10, 3) := by decide +kernel
theorem dX3_container_104 : decode cX3_container 104 = .ok (.aload_n 0, 1) := by decide +kernel
theorem dX3_container_105 : decode cX3_container 105 = .ok (.getfield 74, 3) := by decide +kernel
theorem dX3_container_108 : decode cX3_container 108 = .ok (.iload 4, 2) := by decide +kernel
theorem dX3_container_110 : decode cX3_container 110 = .ok (.iaload, 1) := by decide +kernel
theorem dX3_container_111 : decode cX3_container 111 = .ok (.ireturn, 1) := by decide +kernel
theorem dX3_came_0 : decode cX3_came 0 = .ok (.aload_n 0, 1) := by decide +kernel
theorem dX3_came_1 : decode cX3_came 1 = .ok (.iload_n 1, 1) := by decide +kernel
theorem dX3_came_2 : decode cX3_came 2 = .ok (.ifCond .lt 11, 3) := by decide +kernel
theorem dX3_came_5 : decode cX3_came 5 = .ok (.iload_n 1, 1) := by decide +kernel
theorem dX3_came_6 : decode cX3_came 6 = .ok (.aload_n 0, 1) := by decide +kernel
theorem dX3_came_7 : decode cX3_came 7 = .ok (.getfield 167, 3) := by decide +kernel
theorem dX3_came_10 : decode cX3_came 10 = .ok (.if_icmp .lt 7, 3) := by decide +kernel
theorem dX3_came_13 : decode cX3_came 13 = .ok (.iconst 1, 1) := by decide +kernel
theorem dX3_came_14 : decode cX3_came 14 = .ok (.goto 17, 3) := by decide +kernel
theorem dX3_came_17 : decode cX3_came 17 = .ok (.iload_n 2, 1) := by decide +kernel
theorem dX3_came_18 : decode cX3_came 18 = .ok (.ifCond .lt 8, 3) := by decide +kernel
theorem dX3_came_21 : decode cX3_came 21 = .ok (.iload_n 2, 1) := by decide +kernel
theorem dX3_came_22 : decode cX3_came 22 = .ok (.iconst 3, 1) := by decide +kernel
theorem dX3_came_23 : decode cX3_came 23 = .ok (.if_icmp .le 7, 3) := by decide +kernel
theorem dX3_came_26 : decode cX3_came 26 = .ok (.iconst 2, 1) := by decide +kernel
theorem dX3_came_27 : decode cX3_came 27 = .ok (.goto 4, 3) := by decide +kernel
theorem dX3_came_30 : decode cX3_came 30 = .ok (.iconst 0, 1) := by decide +kernel
theorem dX3_came_31 : decode cX3_came 31 = .ok (.putfield 101, 3) := by decide +kernel
theorem dX3_came_34 : decode cX3_came 34 = .ok (.aload_n 0, 1) := by decide +kernel
theorem dX3_came_35 : decode cX3_came 35 = .ok (.getfield 101, 3) := by decide +kernel
theorem dX3_came_38 : decode cX3_came 38 = .ok (.ifCond .eq 5, 3) := by decide +kernel
theorem dX3_came_41 : decode cX3_came 41 = .ok (.iconst 0, 1) := by decide +kernel
theorem dX3_came_42 : decode cX3_came 42 = .ok (.ireturn, 1) := by decide +kernel
theorem dX3_came_43 : decode cX3_came 43 = .ok (.iload_n 2, 1) := by decide +kernel
theorem dX3_came_44 : decode cX3_came 44 = .ok (.ifCond .ne 12, 3) := by decide +kernel
theorem dX3_came_47 : decode cX3_came 47 = .ok (.aload_n 0, 1) := by decide +kernel
theorem dX3_came_48 : decode cX3_came 48 = .ok (.getfield 86, 3) := by decide +kernel
theorem dX3_came_51 : decode cX3_came 51 = .ok (.iload_n 1, 1) := by decide +kernel
theorem dX3_came_52 : decode cX3_came 52 = .ok (.iaload, 1) := by decide +kernel
theorem dX3_came_53 : decode cX3_came 53 = .ok (.goto 41, 3) := by decide +kernel
theorem dX3_came_56 : decode cX3_came 56 = .ok (.iload_n 2, 1) := by decide +kernel
theorem dX3_came_57 : decode cX3_came 57 = .ok (.iconst 1, 1) := by decide +kernel
theorem dX3_came_58 : decode cX3_came 58 = .ok (.if_icmp .ne 14, 3) := by decide +kernel
theorem dX3_came_61 : decode cX3_came 61 = .ok (.aload_n 0, 1) := by decide +kernel
theorem dX3_came_62 : decode cX3_came 62 = .ok (.getfield 89, 3) := by decide +kernel
theorem dX3_came_65 : decode cX3_came 65 = .ok (.iload_n 1, 1) := by decide +kernel
theorem dX3_came_66 : decode cX3_came 66 = .ok (.iaload, 1) := by decide +kernel
theorem dX3_came_67 : decode cX3_came 67 = .ok (.iconst 2, 1) := by decide +kernel
theorem dX3_came_68 : decode cX3_came 68 = .ok (.idiv, 1) := by decide +kernel
theorem dX3_came_69 : decode cX3_came 69 = .ok (.goto 25, 3) := by decide +kernel
theorem dX3_came_72 : decode cX3_came 72 = .ok (.iload_n 2, 1) := by decide +kernel
theorem dX3_came_73 : decode cX3_came 73 = .ok (.iconst 2, 1) := by decide +kernel
theorem dX3_came_74 : decode cX3_came 74 = .ok (.if_icmp .ne 14, 3) := by decide +kernel
theorem dX3_came_77 : decode cX3_came 77 = .ok (.aload_n 0, 1) := by decide +kernel
theorem dX3_came_78 : decode cX3_came 78 = .ok (.getfield 89, 3) := by decide +kernel
theorem dX3_came_81 : decode cX3_came 81 = .ok (.iload_n 1, 1) := by decide +kernel
theorem dX3_came_82 : decode cX3_came 82 = .ok (.iaload, 1) := by decide +kernel
theorem dX3_came_83 : decode cX3_came 83 = .ok (.iconst 2, 1) := by decide +kernel
theorem dX3_came_84 : decode cX3_came 84 = .ok (.irem, 1) := by decide +kernel
theorem dX3_came_85 : decode cX3_came 85 = .ok (.goto 9, 3) := by decide +kernel
theorem dX3_came_88 : decode cX3_came 88 = .ok (.aload_n 0, 1) := by decide +kernel
theorem dX3_came_89 : decode cX3_came 89 = .ok (.getfield 92, 3) := by decide +kernel
theorem dX3_came_92 : decode cX3_came 92 = .ok (.iload_n 1, 1) := by decide +kernel
theorem dX3_came_93 : decode cX3_came 93 = .ok (.iaload, 1) := by decide +kernel
theorem dX3_came_94 : decode cX3_came 94 = .ok (.ireturn, 1) := by decide +kernel
theorem dX3_count_0 : decode cX3_count 0 = .ok (.aload_n 0, 1) := by decide +kernel
theorem dX3_count_1 : decode cX3_count 1 = .ok (.iload_n 1, 1) := by decide +kernel
theorem dX3_count_2 : decode cX3_count 2 = .ok (.ifCond .lt 9, 3) := by decide +kernel
theorem dX3_count_5 : decode cX3_count 5 = .ok (.iload_n 1, 1) := by decide +kernel
theorem dX3_count_6 : decode cX3_count 6 = .ok (.bipush 6, 2) := by decide +kernel
theorem dX3_count_8 : decode cX3_count 8 = .ok (.if_icmp .le 7, 3) := by decide +kernel
theorem dX3_count_11 : decode cX3_count 11 = .ok (.iconst 1, 1) := by decide +kernel
theorem dX3_count_12 : decode cX3_count 12 = .ok (.goto 4, 3) := by decide +kernel
theorem dX3_count_15 : decode cX3_count 15 = .ok (.iconst 0, 1) := by decide +kernel
theorem dX3_count_16 : decode cX3_count 16 = .ok (.putfield 101, 3) := by decide +kernel
theorem dX3_count_19 : decode cX3_count 19 = .ok (.iload_n 1, 1) := by decide +kernel
theorem dX3_count_20 : decode cX3_count 20 = .ok (.tableswitch 79 0 6 #[44, 49, 54, 59, 64, 69, 74], 44) := by decide +kernel
theorem dX3_count_64 : decode cX3_count 64 = .ok (.aload_n 0, 1) := by decide +kernel
theorem dX3_count_65 : decode cX3_count 65 = .ok (.getfield 167, 3) := by decide +kernel
theorem dX3_count_68 : decode cX3_count 68 = .ok (.ireturn, 1) := by decide +kernel
theorem dX3_count_69 : decode cX3_count 69 = .ok (.aload_n 0, 1) := by decide +kernel
theorem dX3_count_70 : decode cX3_count 70 = .ok (.getfield 164, 3) := by decide +kernel
theorem dX3_count_73 : decode cX3_count 73 = .ok (.ireturn, 1) := by decide +kernel
theorem dX3_count_74 : decode cX3_count 74 = .ok (.aload_n 0, 1) := by decide +kernel
theorem dX3_count_75 : decode cX3_count 75 = .ok (.getfield 170, 3) := by decide +kernel
theorem dX3_count_78 : decode cX3_count 78 = .ok (.ireturn, 1) := by decide +kernel
theorem dX3_count_79 : decode cX3_count 79 = .ok (.aload_n 0, 1) := by decide +kernel
theorem dX3_count_80 : decode cX3_count 80 = .ok (.getfield 107, 3) := by decide +kernel
theorem dX3_count_83 : decode cX3_count 83 = .ok (.ireturn, 1) := by decide +kernel
theorem dX3_count_84 : decode cX3_count 84 = .ok (.aload_n 0, 1) := by decide +kernel
theorem dX3_count_85 : decode cX3_count 85 = .ok (.getfield 158, 3) := by decide +kernel
theorem dX3_count_88 : decode cX3_count 88 = .ok (.ireturn, 1) := by decide +kernel
theorem dX3_count_89 : decode cX3_count 89 = .ok (.aload_n 0, 1) := by decide +kernel
theorem dX3_count_90 : decode cX3_count 90 = .ok (.getfield 152, 3) := by decide +kernel
theorem dX3_count_93 : decode cX3_count 93 = .ok (.ireturn, 1) := by decide +kernel
theorem dX3_count_94 : decode cX3_count 94 = .ok (.aload_n 0, 1) := by decide +kernel
theorem dX3_count_95 : decode cX3_count 95 = .ok (.getfield 149, 3) := by decide +kernel
theorem dX3_count_98 : decode cX3_count 98 = .ok (.ireturn, 1) := by decide +kernel
theorem dX3_count_99 : decode cX3_count 99 = .ok (.iconst 0, 1) := by decide +kernel
theorem dX3_count_100 : decode cX3_count 100 = .ok (.ireturn, 1) := by decide +kernel
