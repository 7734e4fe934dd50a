theorem dX11_init_0 : decode cX11_init 0 = .ok (.aload_n 0, 1) := by decide +kernel
theorem dX11_init_1 : decode cX11_init 1 = .ok (.invokespecial 1, 3) := by decide +kernel
theorem dX11_init_4 : decode cX11_init 4 = .ok (.aload_n 0, 1) := by decide +kernel
theorem dX11_init_5 : decode cX11_init 5 = .ok (.sipush 340, 3) := by decide +kernel
theorem dX11_init_8 : decode cX11_init 8 = .ok (.newarray .int, 2) := by decide +kernel
theorem dX11_init_10 : decode cX11_init 10 = .ok (.putfield 7, 3) := by decide +kernel
theorem dX11_init_13 : decode cX11_init 13 = .ok (.aload_n 0, 1) := by decide +kernel
theorem dX11_init_14 : decode cX11_init 14 = .ok (.sipush 340, 3) := by decide +kernel
theorem dX11_init_17 : decode cX11_init 17 = .ok (.newarray .int, 2) := by decide +kernel
theorem dX11_init_19 : decode cX11_init 19 = .ok (.putfield 13, 3) := by decide +kernel
theorem dX11_init_22 : decode cX11_init 22 = .ok (.aload_n 0, 1) := by decide +kernel
theorem dX11_init_23 : decode cX11_init 23 = .ok (.sipush 2040, 3) := by decide +kernel
theorem dX11_init_26 : decode cX11_init 26 = .ok (.newarray .int, 2) := by decide +kernel
theorem dX11_init_28 : decode cX11_init 28 = .ok (.putfield 16, 3) := by decide +kernel
theorem dX11_init_31 : decode cX11_init 31 = .ok (.aload_n 0, 1) := by decide +kernel
theorem dX11_init_32 : decode cX11_init 32 = .ok (.sipush 680, 3) := by decide +kernel
theorem dX11_init_35 : decode cX11_init 35 = .ok (.newarray .int, 2) := by decide +kernel
theorem dX11_init_37 : decode cX11_init 37 = .ok (.putfield 19, 3) := by decide +kernel
theorem dX11_init_40 : decode cX11_init 40 = .ok (.aload_n 0, 1) := by decide +kernel
theorem dX11_init_41 : decode cX11_init 41 = .ok (.iconst 2, 1) := by decide +kernel
theorem dX11_init_42 : decode cX11_init 42 = .ok (.newarray .boolean, 2) := by decide +kernel
theorem dX11_init_44 : decode cX11_init 44 = .ok (.putfield 22, 3) := by decide +kernel
theorem dX11_init_47 : decode cX11_init 47 = .ok (.aload_n 0, 1) := by decide +kernel
theorem dX11_init_48 : decode cX11_init 48 = .ok (.bipush 80, 2) := by decide +kernel
theorem dX11_init_50 : decode cX11_init 50 = .ok (.newarray .int, 2) := by decide +kernel
theorem dX11_init_52 : decode cX11_init 52 = .ok (.putfield 26, 3) := by decide +kernel
theorem dX11_init_55 : decode cX11_init 55 = .ok (.aload_n 0, 1) := by decide +kernel
theorem dX11_init_56 : decode cX11_init 56 = .ok (.bipush 24, 2) := by decide +kernel
theorem dX11_init_58 : decode cX11_init 58 = .ok (.newarray .boolean, 2) := by decide +kernel
theorem dX11_init_60 : decode cX11_init 60 = .ok (.putfield 29, 3) := by decide +kernel
theorem dX11_init_63 : decode cX11_init 63 = .ok (.aload_n 0, 1) := by decide +kernel
theorem dX11_init_64 : decode cX11_init 64 = .ok (.sipush 200, 3) := by decide +kernel
theorem dX11_init_67 : decode cX11_init 67 = .ok (.newarray .int, 2) := by decide +kernel
theorem dX11_init_69 : decode cX11_init 69 = .ok (.putfield 32, 3) := by decide +kernel
theorem dX11_init_72 : decode cX11_init 72 = .ok (.aload_n 0, 1) := by decide +kernel
theorem dX11_init_73 : decode cX11_init 73 = .ok (.getfield 7, 3) := by decide +kernel
theorem dX11_init_76 : decode cX11_init 76 = .ok (.iconst 0, 1) := by decide +kernel
theorem dX11_init_77 : decode cX11_init 77 = .ok (.sipush 1000, 3) := by decide +kernel
theorem dX11_init_80 : decode cX11_init 80 = .ok (.iastore, 1) := by decide +kernel
theorem dX11_init_81 : decode cX11_init 81 = .ok (.aload_n 0, 1) := by decide +kernel
theorem dX11_init_82 : decode cX11_init 82 = .ok (.getfield 7, 3) := by decide +kernel
theorem dX11_init_85 : decode cX11_init 85 = .ok (.iconst 1, 1) := by decide +kernel
theorem dX11_init_86 : decode cX11_init 86 = .ok (.bipush 30, 2) := by decide +kernel
theorem dX11_init_88 : decode cX11_init 88 = .ok (.iastore, 1) := by decide +kernel
theorem dX11_init_89 : decode cX11_init 89 = .ok (.aload_n 0, 1) := by decide +kernel
theorem dX11_init_90 : decode cX11_init 90 = .ok (.getfield 7, 3) := by decide +kernel
theorem dX11_init_93 : decode cX11_init 93 = .ok (.iconst 2, 1) := by decide +kernel
theorem dX11_init_94 : decode cX11_init 94 = .ok (.bipush 12, 2) := by decide +kernel
theorem dX11_init_96 : decode cX11_init 96 = .ok (.iastore, 1) := by decide +kernel
theorem dX11_init_97 : decode cX11_init 97 = .ok (.aload_n 0, 1) := by decide +kernel
theorem dX11_init_98 : decode cX11_init 98 = .ok (.getfield 7, 3) := by decide +kernel
theorem dX11_init_101 : decode cX11_init 101 = .ok (.iconst 3, 1) := by decide +kernel
theorem dX11_init_102 : decode cX11_init 102 = .ok (.bipush 15, 2) := by decide +kernel
theorem dX11_init_104 : decode cX11_init 104 = .ok (.iastore, 1) := by decide +kernel
theorem dX11_init_105 : decode cX11_init 105 = .ok (.aload_n 0, 1) := by decide +kernel
theorem dX11_init_106 : decode cX11_init 106 = .ok (.getfield 7, 3) := by decide +kernel
theorem dX11_init_109 : decode cX11_init 109 = .ok (.iconst 4, 1) := by decide +kernel
theorem dX11_init_110 : decode cX11_init 110 = .ok (.bipush 6, 2) := by decide +kernel
theorem dX11_init_112 : decode cX11_init 112 = .ok (.iastore, 1) := by decide +kernel
theorem dX11_init_113 : decode cX11_init 113 = .ok (.aload_n 0, 1) := by decide +kernel
theorem dX11_init_114 : decode cX11_init 114 = .ok (.getfield 7, 3) := by decide +kernel
theorem dX11_init_117 : decode cX11_init 117 = .ok (.iconst 5, 1) := by decide +kernel
theorem dX11_init_118 : decode cX11_init 118 = .ok (.iconst 5, 1) := by decide +kernel
theorem dX11_init_119 : decode cX11_init 119 = .ok (.iastore, 1) := by decide +kernel
theorem dX11_init_120 : decode cX11_init 120 = .ok (.aload_n 0, 1) := by decide +kernel
theorem dX11_init_121 : decode cX11_init 121 = .ok (.getfield 7, 3) := by decide +kernel
theorem dX11_init_124 : decode cX11_init 124 = .ok (.bipush 6, 2) := by decide +kernel
theorem dX11_init_126 : decode cX11_init 126 = .ok (.bipush 10, 2) := by decide +kernel
theorem dX11_init_128 : decode cX11_init 128 = .ok (.iastore, 1) := by decide +kernel
theorem dX11_init_129 : decode cX11_init 129 = .ok (.aload_n 0, 1) := by decide +kernel
theorem dX11_init_130 : decode cX11_init 130 = .ok (.getfield 7, 3) := by decide +kernel
theorem dX11_init_133 : decode cX11_init 133 = .ok (.bipush 7, 2) := by decide +kernel
theorem dX11_init_135 : decode cX11_init 135 = .ok (.bipush 12, 2) := by decide +kernel
theorem dX11_init_137 : decode cX11_init 137 = .ok (.iastore, 1) := by decide +kernel
theorem dX11_init_138 : decode cX11_init 138 = .ok (.aload_n 0, 1) := by decide +kernel
theorem dX11_init_139 : decode cX11_init 139 = .ok (.getfield 7, 3) := by decide +kernel
theorem dX11_init_142 : decode cX11_init 142 = .ok (.bipush 8, 2) := by decide +kernel
theorem dX11_init_144 : decode cX11_init 144 = .ok (.bipush 100, 2) := by decide +kernel
theorem dX11_init_146 : decode cX11_init 146 = .ok (.iastore, 1) := by decide +kernel
theorem dX11_init_147 : decode cX11_init 147 = .ok (.aload_n 0, 1) := by decide +kernel
theorem dX11_init_148 : decode cX11_init 148 = .ok (.getfield 7, 3) := by decide +kernel
theorem dX11_init_151 : decode cX11_init 151 = .ok (.bipush 9, 2) := by decide +kernel
theorem dX11_init_153 : decode cX11_init 153 = .ok (.bipush 50, 2) := by decide +kernel
theorem dX11_init_155 : decode cX11_init 155 = .ok (.iastore, 1) := by decide +kernel
theorem dX11_init_156 : decode cX11_init 156 = .ok (.iconst 0, 1) := by decide +kernel
theorem dX11_init_157 : decode cX11_init 157 = .ok (.istore_n 1, 1) := by decide +kernel
theorem dX11_init_158 : decode cX11_init 158 = .ok (.iload_n 1, 1) := by decide +kernel
theorem dX11_init_159 : decode cX11_init 159 = .ok (.iconst 3, 1) := by decide +kernel
theorem dX11_init_160 : decode cX11_init 160 = .ok (.if_icmp .ge 46, 3) := by decide +kernel
theorem dX11_init_163 : decode cX11_init 163 = .ok (.aload_n 0, 1) := by decide +kernel
theorem dX11_init_164 : decode cX11_init 164 = .ok (.getfield 7, 3) := by decide +kernel
theorem dX11_init_167 : decode cX11_init 167 = .ok (.bipush 20, 2) := by decide +kernel
theorem dX11_init_169 : decode cX11_init 169 = .ok (.iconst 3, 1) := by decide +kernel
theorem dX11_init_170 : decode cX11_init 170 = .ok (.iload_n 1, 1) := by decide +kernel
theorem dX11_init_171 : decode cX11_init 171 = .ok (.imul, 1) := by decide +kernel
theorem dX11_init_172 : decode cX11_init 172 = .ok (.iadd, 1) := by decide +kernel
theorem dX11_init_173 : decode cX11_init 173 = .ok (.bipush 60, 2) := by decide +kernel
theorem dX11_init_175 : decode cX11_init 175 = .ok (.bipush 15, 2) := by decide +kernel
theorem dX11_init_177 : decode cX11_init 177 = .ok (.iload_n 1, 1) := by decide +kernel
theorem dX11_init_178 : decode cX11_init 178 = .ok (.imul, 1) := by decide +kernel
theorem dX11_init_179 : decode cX11_init 179 = .ok (.isub, 1) := by decide +kernel
theorem dX11_init_180 : decode cX11_init 180 = .ok (.iastore, 1) := by decide +kernel
theorem dX11_init_181 : decode cX11_init 181 = .ok (.aload_n 0, 1) := by decide +kernel
theorem dX11_init_182 : decode cX11_init 182 = .ok (.getfield 7, 3) := by decide +kernel
theorem dX11_init_185 : decode cX11_init 185 = .ok (.bipush 20, 2) := by decide +kernel
theorem dX11_init_187 : decode cX11_init 187 = .ok (.iconst 3, 1) := by decide +kernel
theorem dX11_init_188 : decode cX11_init 188 = .ok (.iload_n 1, 1) := by decide +kernel
theorem dX11_init_189 : decode cX11_init 189 = .ok (.imul, 1) := by decide +kernel
theorem dX11_init_190 : decode cX11_init 190 = .ok (.iadd, 1) := by decide +kernel
theorem dX11_init_191 : decode cX11_init 191 = .ok (.iconst 1, 1) := by decide +kernel
theorem dX11_init_192 : decode cX11_init 192 = .ok (.iadd, 1) := by decide +kernel
theorem dX11_init_193 : decode cX11_init 193 = .ok (.bipush 32, 2) := by decide +kernel
theorem dX11_init_195 : decode cX11_init 195 = .ok (.iconst 4, 1) := by decide +kernel
theorem dX11_init_196 : decode cX11_init 196 = .ok (.iload_n 1, 1) := by decide +kernel
theorem dX11_init_197 : decode cX11_init 197 = .ok (.imul, 1) := by decide +kernel
theorem dX11_init_198 : decode cX11_init 198 = .ok (.isub, 1) := by decide +kernel
theorem dX11_init_199 : decode cX11_init 199 = .ok (.iastore, 1) := by decide +kernel
theorem dX11_init_200 : decode cX11_init 200 = .ok (.iinc 1 1, 3) := by decide +kernel
theorem dX11_init_203 : decode cX11_init 203 = .ok (.goto (-45), 3) := by decide +kernel
theorem dX11_init_206 : decode cX11_init 206 = .ok (.return_, 1) := by decide +kernel
theorem dX11_in_0 : decode cX11_in 0 = .ok (.iload_n 0, 1) := by decide +kernel
theorem dX11_in_1 : decode cX11_in 1 = .ok (.iload_n 1, 1) := by decide +kernel
theorem dX11_in_2 : decode cX11_in 2 = .ok (.if_icmp .lt 12, 3) := by decide +kernel
theorem dX11_in_5 : decode cX11_in 5 = .ok (.iload_n 0, 1) := by decide +kernel
theorem dX11_in_6 : decode cX11_in 6 = .ok (.iload_n 2, 1) := by decide +kernel
theorem dX11_in_7 : decode cX11_in 7 = .ok (.if_icmp .gt 7, 3) := by decide +kernel
theorem dX11_in_10 : decode cX11_in 10 = .ok (.iconst 1, 1) := by decide +kernel
theorem dX11_in_11 : decode cX11_in 11 = .ok (.goto 4, 3) := by decide +kernel
theorem dX11_in_14 : decode cX11_in 14 = .ok (.iconst 0, 1) := by decide +kernel
theorem dX11_in_15 : decode cX11_in 15 = .ok (.ireturn, 1) := by decide +kernel
theorem dX11_up_0 : decode cX11_up 0 = .ok (.iload_n 0, 1) := by decide +kernel
theorem dX11_up_1 : decode cX11_up 1 = .ok (.iload_n 1, 1) := by decide +kernel
theorem dX11_up_2 : decode cX11_up 2 = .ok (.iadd, 1) := by decide +kernel
theorem dX11_up_3 : decode cX11_up 3 = .ok (.iconst 1, 1) := by decide +kernel
theorem dX11_up_4 : decode cX11_up 4 = .ok (.isub, 1) := by decide +kernel
theorem dX11_up_5 : decode cX11_up 5 = .ok (.iload_n 1, 1) := by decide +kernel
theorem dX11_up_6 : decode cX11_up 6 = .ok (.idiv, 1) := by decide +kernel
theorem dX11_up_7 : decode cX11_up 7 = .ok (.ireturn, 1) := by decide +kernel
theorem dX11_record_0 : decode cX11_record 0 = .ok (.aload_n 0, 1) := by decide +kernel
theorem dX11_record_1 : decode cX11_record 1 = .ok (.getfield 35, 3) := by decide +kernel
theorem dX11_record_4 : decode cX11_record 4 = .ok (.ifCond .eq 4, 3) := by decide +kernel
theorem dX11_record_7 : decode cX11_record 7 = .ok (.return_, 1) := by decide +kernel
theorem dX11_record_8 : decode cX11_record 8 = .ok (.aload_n 0, 1) := by decide +kernel
theorem dX11_record_9 : decode cX11_record 9 = .ok (.getfield 39, 3) := by decide +kernel
theorem dX11_record_12 : decode cX11_record 12 = .ok (.bipush 6, 2) := by decide +kernel
theorem dX11_record_14 : decode cX11_record 14 = .ok (.if_icmp .ne 39, 3) := by decide +kernel
theorem dX11_record_17 : decode cX11_record 17 = .ok (.iconst 0, 1) := by decide +kernel
theorem dX11_record_18 : decode cX11_record 18 = .ok (.istore_n 1, 1) := by decide +kernel
theorem dX11_record_19 : decode cX11_record 19 = .ok (.iload_n 1, 1) := by decide +kernel
theorem dX11_record_20 : decode cX11_record 20 = .ok (.sipush 1700, 3) := by decide +kernel
theorem dX11_record_23 : decode cX11_record 23 = .ok (.if_icmp .ge 25, 3) := by decide +kernel
theorem dX11_record_26 : decode cX11_record 26 = .ok (.aload_n 0, 1) := by decide +kernel
theorem dX11_record_27 : decode cX11_record 27 = .ok (.getfield 16, 3) := by decide +kernel
theorem dX11_record_30 : decode cX11_record 30 = .ok (.iload_n 1, 1) := by decide +kernel
theorem dX11_record_31 : decode cX11_record 31 = .ok (.aload_n 0, 1) := by decide +kernel
theorem dX11_record_32 : decode cX11_record 32 = .ok (.getfield 16, 3) := by decide +kernel
theorem dX11_record_35 : decode cX11_record 35 = .ok (.iload_n 1, 1) := by decide +kernel
theorem dX11_record_36 : decode cX11_record 36 = .ok (.sipush 340, 3) := by decide +kernel
theorem dX11_record_39 : decode cX11_record 39 = .ok (.iadd, 1) := by decide +kernel
theorem dX11_record_40 : decode cX11_record 40 = .ok (.iaload, 1) := by decide +kernel
theorem dX11_record_41 : decode cX11_record 41 = .ok (.iastore, 1) := by decide +kernel
theorem dX11_record_42 : decode cX11_record 42 = .ok (.iinc 1 1, 3) := by decide +kernel
theorem dX11_record_45 : decode cX11_record 45 = .ok (.goto (-26), 3) := by decide +kernel
theorem dX11_record_48 : decode cX11_record 48 = .ok (.aload_n 0, 1) := by decide +kernel
theorem dX11_record_49 : decode cX11_record 49 = .ok (.iconst 5, 1) := by decide +kernel
theorem dX11_record_50 : decode cX11_record 50 = .ok (.putfield 39, 3) := by decide +kernel
theorem dX11_record_53 : decode cX11_record 53 = .ok (.iconst 0, 1) := by decide +kernel
theorem dX11_record_54 : decode cX11_record 54 = .ok (.istore_n 1, 1) := by decide +kernel
theorem dX11_record_55 : decode cX11_record 55 = .ok (.iload_n 1, 1) := by decide +kernel
theorem dX11_record_56 : decode cX11_record 56 = .ok (.sipush 340, 3) := by decide +kernel
theorem dX11_record_59 : decode cX11_record 59 = .ok (.if_icmp .ge 30, 3) := by decide +kernel
theorem dX11_record_62 : decode cX11_record 62 = .ok (.aload_n 0, 1) := by decide +kernel
theorem dX11_record_63 : decode cX11_record 63 = .ok (.getfield 16, 3) := by decide +kernel
theorem dX11_record_66 : decode cX11_record 66 = .ok (.aload_n 0, 1) := by decide +kernel
theorem dX11_record_67 : decode cX11_record 67 = .ok (.getfield 39, 3) := by decide +kernel
theorem dX11_record_70 : decode cX11_record 70 = .ok (.sipush 340, 3) := by decide +kernel
theorem dX11_record_73 : decode cX11_record 73 = .ok (.imul, 1) := by decide +kernel
theorem dX11_record_74 : decode cX11_record 74 = .ok (.iload_n 1, 1) := by decide +kernel
theorem dX11_record_75 : decode cX11_record 75 = .ok (.iadd, 1) := by decide +kernel
theorem dX11_record_76 : decode cX11_record 76 = .ok (.aload_n 0, 1) := by decide +kernel
theorem dX11_record_77 : decode cX11_record 77 = .ok (.getfield 7, 3) := by decide +kernel
theorem dX11_record_80 : decode cX11_record 80 = .ok (.iload_n 1, 1) := by decide +kernel
theorem dX11_record_81 : decode cX11_record 81 = .ok (.iaload, 1) := by decide +kernel
theorem dX11_record_82 : decode cX11_record 82 = .ok (.iastore, 1) := by decide +kernel
theorem dX11_record_83 : decode cX11_record 83 = .ok (.iinc 1 1, 3) := by decide +kernel
theorem dX11_record_86 : decode cX11_record 86 = .ok (.goto (-31), 3) := by decide +kernel
theorem dX11_record_89 : decode cX11_record 89 = .ok (.aload_n 0, 1) := by decide +kernel
theorem dX11_record_90 : decode cX11_record 90 = .ok (.dup, 1) := by decide +kernel
theorem dX11_record_91 : decode cX11_record 91 = .ok (.getfield 39, 3) := by decide +kernel
theorem dX11_record_94 : decode cX11_record 94 = .ok (.iconst 1, 1) := by decide +kernel
theorem dX11_record_95 : decode cX11_record 95 = .ok (.iadd, 1) := by decide +kernel
theorem dX11_record_96 : decode cX11_record 96 = .ok (.putfield 39, 3) := by decide +kernel
theorem dX11_record_99 : decode cX11_record 99 = .ok (.return_, 1) := by decide +kernel
theorem dX11_keep_0 : decode cX11_keep 0 = .ok (.iconst 0, 1) := by decide +kernel
theorem dX11_keep_1 : decode cX11_keep 1 = .ok (.istore_n 1, 1) := by decide +kernel
theorem dX11_keep_2 : decode cX11_keep 2 = .ok (.iload_n 1, 1) := by decide +kernel
theorem dX11_keep_3 : decode cX11_keep 3 = .ok (.sipush 340, 3) := by decide +kernel
theorem dX11_keep_6 : decode cX11_keep 6 = .ok (.if_icmp .ge 21, 3) := by decide +kernel
theorem dX11_keep_9 : decode cX11_keep 9 = .ok (.aload_n 0, 1) := by decide +kernel
theorem dX11_keep_10 : decode cX11_keep 10 = .ok (.getfield 13, 3) := by decide +kernel
theorem dX11_keep_13 : decode cX11_keep 13 = .ok (.iload_n 1, 1) := by decide +kernel
theorem dX11_keep_14 : decode cX11_keep 14 = .ok (.aload_n 0, 1) := by decide +kernel
theorem dX11_keep_15 : decode cX11_keep 15 = .ok (.getfield 7, 3) := by decide +kernel
theorem dX11_keep_18 : decode cX11_keep 18 = .ok (.iload_n 1, 1) := by decide +kernel
theorem dX11_keep_19 : decode cX11_keep 19 = .ok (.iaload, 1) := by decide +kernel
theorem dX11_keep_20 : decode cX11_keep 20 = .ok (.iastore, 1) := by decide +kernel
theorem dX11_keep_21 : decode cX11_keep 21 = .ok (.iinc 1 1, 3) := by decide +kernel
theorem dX11_keep_24 : decode cX11_keep 24 = .ok (.goto (-22), 3) := by decide +kernel
theorem dX11_keep_27 : decode cX11_keep 27 = .ok (.return_, 1) := by decide +kernel
theorem dX11_comeBack_0 : decode cX11_comeBack 0 = .ok (.iconst 0, 1) := by decide +kernel
theorem dX11_comeBack_1 : decode cX11_comeBack 1 = .ok (.istore_n 1, 1) := by decide +kernel
theorem dX11_comeBack_2 : decode cX11_comeBack 2 = .ok (.iload_n 1, 1) := by decide +kernel
theorem dX11_comeBack_3 : decode cX11_comeBack 3 = .ok (.sipush 340, 3) := by decide +kernel
theorem dX11_comeBack_6 : decode cX11_comeBack 6 = .ok (.if_icmp .ge 21, 3) := by decide +kernel
theorem dX11_comeBack_9 : decode cX11_comeBack 9 = .ok (.aload_n 0, 1) := by decide +kernel
theorem dX11_comeBack_10 : decode cX11_comeBack 10 = .ok (.getfield 7, 3) := by decide +kernel
theorem dX11_comeBack_13 : decode cX11_comeBack 13 = .ok (.iload_n 1, 1) := by decide +kernel
theorem dX11_comeBack_14 : decode cX11_comeBack 14 = .ok (.aload_n 0, 1) := by decide +kernel
theorem dX11_comeBack_15 : decode cX11_comeBack 15 = .ok (.getfield 13, 3) := by decide +kernel
theorem dX11_comeBack_18 : decode cX11_comeBack 18 = .ok (.iload_n 1, 1) := by decide +kernel
theorem dX11_comeBack_19 : decode cX11_comeBack 19 = .ok (.iaload, 1) := by decide +kernel
theorem dX11_comeBack_20 : decode cX11_comeBack 20 = .ok (.iastore, 1) := by decide +kernel
theorem dX11_comeBack_21 : decode cX11_comeBack 21 = .ok (.iinc 1 1, 3) := by decide +kernel
theorem dX11_comeBack_24 : decode cX11_comeBack 24 = .ok (.goto (-22), 3) := by decide +kernel
theorem dX11_comeBack_27 : decode cX11_comeBack 27 = .ok (.return_, 1) := by decide +kernel
theorem dX11_least_0 : decode cX11_least 0 = .ok (.iload_n 0, 1) := by decide +kernel
theorem dX11_least_1 : decode cX11_least 1 = .ok (.tableswitch 63 0 9 #[55, 58, 61, 61, 63, 63, 63, 63, 58, 61], 55) := by decide +kernel
theorem dX11_least_56 : decode cX11_least 56 = .ok (.bipush 100, 2) := by decide +kernel
theorem dX11_least_58 : decode cX11_least 58 = .ok (.ireturn, 1) := by decide +kernel
theorem dX11_least_59 : decode cX11_least 59 = .ok (.bipush 10, 2) := by decide +kernel
theorem dX11_least_61 : decode cX11_least 61 = .ok (.ireturn, 1) := by decide +kernel
theorem dX11_least_62 : decode cX11_least 62 = .ok (.iconst 0, 1) := by decide +kernel
theorem dX11_least_63 : decode cX11_least 63 = .ok (.ireturn, 1) := by decide +kernel
theorem dX11_least_64 : decode cX11_least 64 = .ok (.iconst 1, 1) := by decide +kernel
theorem dX11_least_65 : decode cX11_least 65 = .ok (.ireturn, 1) := by decide +kernel
theorem dX11_most_0 : decode cX11_most 0 = .ok (.iload_n 0, 1) := by decide +kernel
theorem dX11_most_1 : decode cX11_most 1 = .ok (.tableswitch 63 0 7 #[47, 51, 54, 51, 57, 57, 51, 60], 47) := by decide +kernel
theorem dX11_most_48 : decode cX11_most 48 = .ok (.sipush 2000, 3) := by decide +kernel
theorem dX11_most_51 : decode cX11_most 51 = .ok (.ireturn, 1) := by decide +kernel
theorem dX11_most_52 : decode cX11_most 52 = .ok (.bipush 60, 2) := by decide +kernel
theorem dX11_most_54 : decode cX11_most 54 = .ok (.ireturn, 1) := by decide +kernel
theorem dX11_most_55 : decode cX11_most 55 = .ok (.bipush 40, 2) := by decide +kernel
theorem dX11_most_57 : decode cX11_most 57 = .ok (.ireturn, 1) := by decide +kernel
theorem dX11_most_58 : decode cX11_most 58 = .ok (.bipush 30, 2) := by decide +kernel
theorem dX11_most_60 : decode cX11_most 60 = .ok (.ireturn, 1) := by decide +kernel
theorem dX11_most_61 : decode cX11_most 61 = .ok (.bipush 24, 2) := by decide +kernel
theorem dX11_most_63 : decode cX11_most 63 = .ok (.ireturn, 1) := by decide +kernel
theorem dX11_most_64 : decode cX11_most 64 = .ok (.sipush 500, 3) := by decide +kernel
theorem dX11_most_67 : decode cX11_most 67 = .ok (.ireturn, 1) := by decide +kernel
theorem dX11_set_0 : decode cX11_set 0 = .ok (.iload_n 1, 1) := by decide +kernel
theorem dX11_set_1 : decode cX11_set 1 = .ok (.iconst 0, 1) := by decide +kernel
theorem dX11_set_2 : decode cX11_set 2 = .ok (.bipush 9, 2) := by decide +kernel
theorem dX11_set_4 : decode cX11_set 4 = .ok (.invokestatic 43, 3) := by decide +kernel
theorem dX11_set_7 : decode cX11_set 7 = .ok (.ifCond .eq 18, 3) := by decide +kernel
theorem dX11_set_10 : decode cX11_set 10 = .ok (.iload_n 2, 1) := by decide +kernel
theorem dX11_set_11 : decode cX11_set 11 = .ok (.iload_n 1, 1) := by decide +kernel
theorem dX11_set_12 : decode cX11_set 12 = .ok (.invokestatic 47, 3) := by decide +kernel
theorem dX11_set_15 : decode cX11_set 15 = .ok (.iload_n 1, 1) := by decide +kernel
theorem dX11_set_16 : decode cX11_set 16 = .ok (.invokestatic 51, 3) := by decide +kernel
theorem dX11_set_19 : decode cX11_set 19 = .ok (.invokestatic 43, 3) := by decide +kernel
theorem dX11_set_22 : decode cX11_set 22 = .ok (.ifCond .ne 6, 3) := by decide +kernel
theorem dX11_set_25 : decode cX11_set 25 = .ok (.bipush (-2), 2) := by decide +kernel
theorem dX11_set_27 : decode cX11_set 27 = .ok (.ireturn, 1) := by decide +kernel
theorem dX11_set_28 : decode cX11_set 28 = .ok (.aload_n 0, 1) := by decide +kernel
theorem dX11_set_29 : decode cX11_set 29 = .ok (.invokevirtual 54, 3) := by decide +kernel
theorem dX11_set_32 : decode cX11_set 32 = .ok (.aload_n 0, 1) := by decide +kernel
theorem dX11_set_33 : decode cX11_set 33 = .ok (.getfield 7, 3) := by decide +kernel
theorem dX11_set_36 : decode cX11_set 36 = .ok (.iload_n 1, 1) := by decide +kernel
theorem dX11_set_37 : decode cX11_set 37 = .ok (.iaload, 1) := by decide +kernel
theorem dX11_set_38 : decode cX11_set 38 = .ok (.istore_n 3, 1) := by decide +kernel
theorem dX11_set_39 : decode cX11_set 39 = .ok (.aload_n 0, 1) := by decide +kernel
theorem dX11_set_40 : decode cX11_set 40 = .ok (.getfield 7, 3) := by decide +kernel
theorem dX11_set_43 : decode cX11_set 43 = .ok (.iload_n 1, 1) := by decide +kernel
theorem dX11_set_44 : decode cX11_set 44 = .ok (.iload_n 2, 1) := by decide +kernel
theorem dX11_set_45 : decode cX11_set 45 = .ok (.iastore, 1) := by decide +kernel
theorem dX11_set_46 : decode cX11_set 46 = .ok (.iload_n 3, 1) := by decide +kernel
theorem dX11_set_47 : decode cX11_set 47 = .ok (.ireturn, 1) := by decide +kernel
theorem dX11_isFibre_0 : decode cX11_isFibre 0 = .ok (.iload_n 0, 1) := by decide +kernel
theorem dX11_isFibre_1 : decode cX11_isFibre 1 = .ok (.iconst 0, 1) := by decide +kernel
theorem dX11_isFibre_2 : decode cX11_isFibre 2 = .ok (.iconst 2, 1) := by decide +kernel
theorem dX11_isFibre_3 : decode cX11_isFibre 3 = .ok (.invokestatic 43, 3) := by decide +kernel
theorem dX11_isFibre_6 : decode cX11_isFibre 6 = .ok (.ireturn, 1) := by decide +kernel
theorem dX11_fibre_0 : decode cX11_fibre 0 = .ok (.iload_n 1, 1) := by decide +kernel
theorem dX11_fibre_1 : decode cX11_fibre 1 = .ok (.invokestatic 57, 3) := by decide +kernel
theorem dX11_fibre_4 : decode cX11_fibre 4 = .ok (.ifCond .ne 5, 3) := by decide +kernel
theorem dX11_fibre_7 : decode cX11_fibre 7 = .ok (.iconst (-1), 1) := by decide +kernel
theorem dX11_fibre_8 : decode cX11_fibre 8 = .ok (.ireturn, 1) := by decide +kernel
theorem dX11_fibre_9 : decode cX11_fibre 9 = .ok (.iload_n 2, 1) := by decide +kernel
theorem dX11_fibre_10 : decode cX11_fibre 10 = .ok (.iconst 1, 1) := by decide +kernel
theorem dX11_fibre_11 : decode cX11_fibre 11 = .ok (.sipush 200, 3) := by decide +kernel
theorem dX11_fibre_14 : decode cX11_fibre 14 = .ok (.invokestatic 43, 3) := by decide +kernel
theorem dX11_fibre_17 : decode cX11_fibre 17 = .ok (.ifCond .eq 14, 3) := by decide +kernel
theorem dX11_fibre_20 : decode cX11_fibre 20 = .ok (.iload_n 3, 1) := by decide +kernel
theorem dX11_fibre_21 : decode cX11_fibre 21 = .ok (.bipush 10, 2) := by decide +kernel
theorem dX11_fibre_23 : decode cX11_fibre 23 = .ok (.bipush 60, 2) := by decide +kernel
theorem dX11_fibre_25 : decode cX11_fibre 25 = .ok (.invokestatic 43, 3) := by decide +kernel
theorem dX11_fibre_28 : decode cX11_fibre 28 = .ok (.ifCond .ne 6, 3) := by decide +kernel
theorem dX11_fibre_31 : decode cX11_fibre 31 = .ok (.bipush (-2), 2) := by decide +kernel
theorem dX11_fibre_33 : decode cX11_fibre 33 = .ok (.ireturn, 1) := by decide +kernel
theorem dX11_fibre_34 : decode cX11_fibre 34 = .ok (.aload_n 0, 1) := by decide +kernel
theorem dX11_fibre_35 : decode cX11_fibre 35 = .ok (.invokevirtual 54, 3) := by decide +kernel
theorem dX11_fibre_38 : decode cX11_fibre 38 = .ok (.bipush 20, 2) := by decide +kernel
theorem dX11_fibre_40 : decode cX11_fibre 40 = .ok (.iconst 3, 1) := by decide +kernel
theorem dX11_fibre_41 : decode cX11_fibre 41 = .ok (.iload_n 1, 1) := by decide +kernel
theorem dX11_fibre_42 : decode cX11_fibre 42 = .ok (.imul, 1) := by decide +kernel
theorem dX11_fibre_43 : decode cX11_fibre 43 = .ok (.iadd, 1) := by decide +kernel
theorem dX11_fibre_44 : decode cX11_fibre 44 = .ok (.istore 4, 2) := by decide +kernel
theorem dX11_fibre_46 : decode cX11_fibre 46 = .ok (.bipush 100, 2) := by decide +kernel
theorem dX11_fibre_48 : decode cX11_fibre 48 = .ok (.aload_n 0, 1) := by decide +kernel
theorem dX11_fibre_49 : decode cX11_fibre 49 = .ok (.getfield 7, 3) := by decide +kernel
theorem dX11_fibre_52 : decode cX11_fibre 52 = .ok (.iload 4, 2) := by decide +kernel
theorem dX11_fibre_54 : decode cX11_fibre 54 = .ok (.iaload, 1) := by decide +kernel
theorem dX11_fibre_55 : decode cX11_fibre 55 = .ok (.imul, 1) := by decide +kernel
theorem dX11_fibre_56 : decode cX11_fibre 56 = .ok (.aload_n 0, 1) := by decide +kernel
theorem dX11_fibre_57 : decode cX11_fibre 57 = .ok (.getfield 7, 3) := by decide +kernel
theorem dX11_fibre_60 : decode cX11_fibre 60 = .ok (.iload 4, 2) := by decide +kernel
theorem dX11_fibre_62 : decode cX11_fibre 62 = .ok (.iconst 1, 1) := by decide +kernel
theorem dX11_fibre_63 : decode cX11_fibre 63 = .ok (.iadd, 1) := by decide +kernel
theorem dX11_fibre_64 : decode cX11_fibre 64 = .ok (.iaload, 1) := by decide +kernel
theorem dX11_fibre_65 : decode cX11_fibre 65 = .ok (.iadd, 1) := by decide +kernel
theorem dX11_fibre_66 : decode cX11_fibre 66 = .ok (.istore 5, 2) := by decide +kernel
theorem dX11_fibre_68 : decode cX11_fibre 68 = .ok (.aload_n 0, 1) := by decide +kernel
theorem dX11_fibre_69 : decode cX11_fibre 69 = .ok (.getfield 7, 3) := by decide +kernel
theorem dX11_fibre_72 : decode cX11_fibre 72 = .ok (.iload 4, 2) := by decide +kernel
theorem dX11_fibre_74 : decode cX11_fibre 74 = .ok (.iload_n 2, 1) := by decide +kernel
theorem dX11_fibre_75 : decode cX11_fibre 75 = .ok (.iastore, 1) := by decide +kernel
theorem dX11_fibre_76 : decode cX11_fibre 76 = .ok (.aload_n 0, 1) := by decide +kernel
theorem dX11_fibre_77 : decode cX11_fibre 77 = .ok (.getfield 7, 3) := by decide +kernel
theorem dX11_fibre_80 : decode cX11_fibre 80 = .ok (.iload 4, 2) := by decide +kernel
theorem dX11_fibre_82 : decode cX11_fibre 82 = .ok (.iconst 1, 1) := by decide +kernel
theorem dX11_fibre_83 : decode cX11_fibre 83 = .ok (.iadd, 1) := by decide +kernel
theorem dX11_fibre_84 : decode cX11_fibre 84 = .ok (.iload_n 3, 1) := by decide +kernel
theorem dX11_fibre_85 : decode cX11_fibre 85 = .ok (.iastore, 1) := by decide +kernel
theorem dX11_fibre_86 : decode cX11_fibre 86 = .ok (.iload 5, 2) := by decide +kernel
theorem dX11_fibre_88 : decode cX11_fibre 88 = .ok (.ireturn, 1) := by decide +kernel
theorem dX11_spin_0 : decode cX11_spin 0 = .ok (.iload_n 1, 1) := by decide +kernel
theorem dX11_spin_1 : decode cX11_spin 1 = .ok (.invokestatic 57, 3) := by decide +kernel
theorem dX11_spin_4 : decode cX11_spin 4 = .ok (.ifCond .ne 5, 3) := by decide +kernel
theorem dX11_spin_7 : decode cX11_spin 7 = .ok (.iconst (-1), 1) := by decide +kernel
theorem dX11_spin_8 : decode cX11_spin 8 = .ok (.ireturn, 1) := by decide +kernel
theorem dX11_spin_9 : decode cX11_spin 9 = .ok (.iload_n 2, 1) := by decide +kernel
theorem dX11_spin_10 : decode cX11_spin 10 = .ok (.iconst 1, 1) := by decide +kernel
theorem dX11_spin_11 : decode cX11_spin 11 = .ok (.ldc 61, 2) := by decide +kernel
theorem dX11_spin_13 : decode cX11_spin 13 = .ok (.invokestatic 43, 3) := by decide +kernel
theorem dX11_spin_16 : decode cX11_spin 16 = .ok (.ifCond .ne 6, 3) := by decide +kernel
theorem dX11_spin_19 : decode cX11_spin 19 = .ok (.bipush (-2), 2) := by decide +kernel
theorem dX11_spin_21 : decode cX11_spin 21 = .ok (.ireturn, 1) := by decide +kernel
theorem dX11_spin_22 : decode cX11_spin 22 = .ok (.bipush 20, 2) := by decide +kernel
theorem dX11_spin_24 : decode cX11_spin 24 = .ok (.iconst 3, 1) := by decide +kernel
theorem dX11_spin_25 : decode cX11_spin 25 = .ok (.iload_n 1, 1) := by decide +kernel
theorem dX11_spin_26 : decode cX11_spin 26 = .ok (.imul, 1) := by decide +kernel
theorem dX11_spin_27 : decode cX11_spin 27 = .ok (.iadd, 1) := by decide +kernel
theorem dX11_spin_28 : decode cX11_spin 28 = .ok (.iconst 2, 1) := by decide +kernel
theorem dX11_spin_29 : decode cX11_spin 29 = .ok (.iadd, 1) := by decide +kernel
theorem dX11_spin_30 : decode cX11_spin 30 = .ok (.istore_n 3, 1) := by decide +kernel
theorem dX11_spin_31 : decode cX11_spin 31 = .ok (.aload_n 0, 1) := by decide +kernel
theorem dX11_spin_32 : decode cX11_spin 32 = .ok (.getfield 7, 3) := by decide +kernel
theorem dX11_spin_35 : decode cX11_spin 35 = .ok (.iload_n 3, 1) := by decide +kernel
theorem dX11_spin_36 : decode cX11_spin 36 = .ok (.iaload, 1) := by decide +kernel
theorem dX11_spin_37 : decode cX11_spin 37 = .ok (.iload_n 2, 1) := by decide +kernel
theorem dX11_spin_38 : decode cX11_spin 38 = .ok (.iadd, 1) := by decide +kernel
theorem dX11_spin_39 : decode cX11_spin 39 = .ok (.ldc 62, 2) := by decide +kernel
theorem dX11_spin_41 : decode cX11_spin 41 = .ok (.if_icmp .le 6, 3) := by decide +kernel
theorem dX11_spin_44 : decode cX11_spin 44 = .ok (.bipush (-5), 2) := by decide +kernel
theorem dX11_spin_46 : decode cX11_spin 46 = .ok (.ireturn, 1) := by decide +kernel
theorem dX11_spin_47 : decode cX11_spin 47 = .ok (.aload_n 0, 1) := by decide +kernel
theorem dX11_spin_48 : decode cX11_spin 48 = .ok (.invokevirtual 54, 3) := by decide +kernel
theorem dX11_spin_51 : decode cX11_spin 51 = .ok (.aload_n 0, 1) := by decide +kernel
theorem dX11_spin_52 : decode cX11_spin 52 = .ok (.getfield 7, 3) := by decide +kernel
theorem dX11_spin_55 : decode cX11_spin 55 = .ok (.iload_n 3, 1) := by decide +kernel
theorem dX11_spin_56 : decode cX11_spin 56 = .ok (.dup2, 1) := by decide +kernel
theorem dX11_spin_57 : decode cX11_spin 57 = .ok (.iaload, 1) := by decide +kernel
theorem dX11_spin_58 : decode cX11_spin 58 = .ok (.iload_n 2, 1) := by decide +kernel
theorem dX11_spin_59 : decode cX11_spin 59 = .ok (.iadd, 1) := by decide +kernel
theorem dX11_spin_60 : decode cX11_spin 60 = .ok (.iastore, 1) := by decide +kernel
theorem dX11_spin_61 : decode cX11_spin 61 = .ok (.aload_n 0, 1) := by decide +kernel
theorem dX11_spin_62 : decode cX11_spin 62 = .ok (.getfield 7, 3) := by decide +kernel
theorem dX11_spin_65 : decode cX11_spin 65 = .ok (.bipush 30, 2) := by decide +kernel
theorem dX11_spin_67 : decode cX11_spin 67 = .ok (.iconst 4, 1) := by decide +kernel
theorem dX11_spin_68 : decode cX11_spin 68 = .ok (.iload_n 1, 1) := by decide +kernel
theorem dX11_spin_69 : decode cX11_spin 69 = .ok (.imul, 1) := by decide +kernel
theorem dX11_spin_70 : decode cX11_spin 70 = .ok (.iadd, 1) := by decide +kernel
theorem dX11_spin_71 : decode cX11_spin 71 = .ok (.dup2, 1) := by decide +kernel
theorem dX11_spin_72 : decode cX11_spin 72 = .ok (.iaload, 1) := by decide +kernel
theorem dX11_spin_73 : decode cX11_spin 73 = .ok (.iload_n 2, 1) := by decide +kernel
theorem dX11_spin_74 : decode cX11_spin 74 = .ok (.iadd, 1) := by decide +kernel
theorem dX11_spin_75 : decode cX11_spin 75 = .ok (.iastore, 1) := by decide +kernel
theorem dX11_spin_76 : decode cX11_spin 76 = .ok (.aload_n 0, 1) := by decide +kernel
theorem dX11_spin_77 : decode cX11_spin 77 = .ok (.getfield 7, 3) := by decide +kernel
theorem dX11_spin_80 : decode cX11_spin 80 = .ok (.iload_n 3, 1) := by decide +kernel
theorem dX11_spin_81 : decode cX11_spin 81 = .ok (.iaload, 1) := by decide +kernel
theorem dX11_spin_82 : decode cX11_spin 82 = .ok (.ireturn, 1) := by decide +kernel
theorem dX11_strandOf_0 : decode cX11_strandOf 0 = .ok (.iload_n 1, 1) := by decide +kernel
theorem dX11_strandOf_1 : decode cX11_strandOf 1 = .ok (.bipush 100, 2) := by decide +kernel
theorem dX11_strandOf_3 : decode cX11_strandOf 3 = .ok (.aload_n 0, 1) := by decide +kernel
theorem dX11_strandOf_4 : decode cX11_strandOf 4 = .ok (.getfield 7, 3) := by decide +kernel
theorem dX11_strandOf_7 : decode cX11_strandOf 7 = .ok (.iconst 2, 1) := by decide +kernel
theorem dX11_strandOf_8 : decode cX11_strandOf 8 = .ok (.iaload, 1) := by decide +kernel
theorem dX11_strandOf_9 : decode cX11_strandOf 9 = .ok (.iadd, 1) := by decide +kernel
theorem dX11_strandOf_10 : decode cX11_strandOf 10 = .ok (.imul, 1) := by decide +kernel
theorem dX11_strandOf_11 : decode cX11_strandOf 11 = .ok (.bipush 100, 2) := by decide +kernel
theorem dX11_strandOf_13 : decode cX11_strandOf 13 = .ok (.invokestatic 63, 3) := by decide +kernel
theorem dX11_strandOf_16 : decode cX11_strandOf 16 = .ok (.ireturn, 1) := by decide +kernel
theorem dX11_yarnOf_0 : decode cX11_yarnOf 0 = .ok (.aload_n 0, 1) := by decide +kernel
theorem dX11_yarnOf_1 : decode cX11_yarnOf 1 = .ok (.iload_n 1, 1) := by decide +kernel
theorem dX11_yarnOf_2 : decode cX11_yarnOf 2 = .ok (.invokevirtual 67, 3) := by decide +kernel
theorem dX11_yarnOf_5 : decode cX11_yarnOf 5 = .ok (.bipush 100, 2) := by decide +kernel
theorem dX11_yarnOf_7 : decode cX11_yarnOf 7 = .ok (.aload_n 0, 1) := by decide +kernel
theorem dX11_yarnOf_8 : decode cX11_yarnOf 8 = .ok (.getfield 7, 3) := by decide +kernel
theorem dX11_yarnOf_11 : decode cX11_yarnOf 11 = .ok (.iconst 1, 1) := by decide +kernel
theorem dX11_yarnOf_12 : decode cX11_yarnOf 12 = .ok (.iaload, 1) := by decide +kernel
theorem dX11_yarnOf_13 : decode cX11_yarnOf 13 = .ok (.iadd, 1) := by decide +kernel
theorem dX11_yarnOf_14 : decode cX11_yarnOf 14 = .ok (.imul, 1) := by decide +kernel
theorem dX11_yarnOf_15 : decode cX11_yarnOf 15 = .ok (.bipush 100, 2) := by decide +kernel
theorem dX11_yarnOf_17 : decode cX11_yarnOf 17 = .ok (.invokestatic 63, 3) := by decide +kernel
theorem dX11_yarnOf_20 : decode cX11_yarnOf 20 = .ok (.ireturn, 1) := by decide +kernel
theorem dX11_hoursOf_0 : decode cX11_hoursOf 0 = .ok (.iload_n 1, 1) := by decide +kernel
theorem dX11_hoursOf_1 : decode cX11_hoursOf 1 = .ok (.aload_n 0, 1) := by decide +kernel
theorem dX11_hoursOf_2 : decode cX11_hoursOf 2 = .ok (.iload_n 2, 1) := by decide +kernel
theorem dX11_hoursOf_3 : decode cX11_hoursOf 3 = .ok (.invokevirtual 67, 3) := by decide +kernel
theorem dX11_hoursOf_6 : decode cX11_hoursOf 6 = .ok (.imul, 1) := by decide +kernel
theorem dX11_hoursOf_7 : decode cX11_hoursOf 7 = .ok (.aload_n 0, 1) := by decide +kernel
theorem dX11_hoursOf_8 : decode cX11_hoursOf 8 = .ok (.getfield 7, 3) := by decide +kernel
theorem dX11_hoursOf_11 : decode cX11_hoursOf 11 = .ok (.bipush 8, 2) := by decide +kernel
theorem dX11_hoursOf_13 : decode cX11_hoursOf 13 = .ok (.iaload, 1) := by decide +kernel
theorem dX11_hoursOf_14 : decode cX11_hoursOf 14 = .ok (.invokestatic 63, 3) := by decide +kernel
theorem dX11_hoursOf_17 : decode cX11_hoursOf 17 = .ok (.ireturn, 1) := by decide +kernel
theorem dX11_qualityOf_0 : decode cX11_qualityOf 0 = .ok (.aload_n 0, 1) := by decide +kernel
theorem dX11_qualityOf_1 : decode cX11_qualityOf 1 = .ok (.getfield 7, 3) := by decide +kernel
theorem dX11_qualityOf_4 : decode cX11_qualityOf 4 = .ok (.iconst 1, 1) := by decide +kernel
theorem dX11_qualityOf_5 : decode cX11_qualityOf 5 = .ok (.iaload, 1) := by decide +kernel
theorem dX11_qualityOf_6 : decode cX11_qualityOf 6 = .ok (.aload_n 0, 1) := by decide +kernel
theorem dX11_qualityOf_7 : decode cX11_qualityOf 7 = .ok (.getfield 7, 3) := by decide +kernel
theorem dX11_qualityOf_10 : decode cX11_qualityOf 10 = .ok (.bipush 20, 2) := by decide +kernel
theorem dX11_qualityOf_12 : decode cX11_qualityOf 12 = .ok (.iconst 3, 1) := by decide +kernel
theorem dX11_qualityOf_13 : decode cX11_qualityOf 13 = .ok (.iload_n 1, 1) := by decide +kernel
theorem dX11_qualityOf_14 : decode cX11_qualityOf 14 = .ok (.imul, 1) := by decide +kernel
theorem dX11_qualityOf_15 : decode cX11_qualityOf 15 = .ok (.iadd, 1) := by decide +kernel
theorem dX11_qualityOf_16 : decode cX11_qualityOf 16 = .ok (.iconst 1, 1) := by decide +kernel
theorem dX11_qualityOf_17 : decode cX11_qualityOf 17 = .ok (.iadd, 1) := by decide +kernel
theorem dX11_qualityOf_18 : decode cX11_qualityOf 18 = .ok (.iaload, 1) := by decide +kernel
theorem dX11_qualityOf_19 : decode cX11_qualityOf 19 = .ok (.isub, 1) := by decide +kernel
theorem dX11_qualityOf_20 : decode cX11_qualityOf 20 = .ok (.istore_n 2, 1) := by decide +kernel
theorem dX11_qualityOf_21 : decode cX11_qualityOf 21 = .ok (.bipush 100, 2) := by decide +kernel
theorem dX11_qualityOf_23 : decode cX11_qualityOf 23 = .ok (.iconst 2, 1) := by decide +kernel
theorem dX11_qualityOf_24 : decode cX11_qualityOf 24 = .ok (.iload_n 2, 1) := by decide +kernel
theorem dX11_qualityOf_25 : decode cX11_qualityOf 25 = .ok (.ifCond .ge 8, 3) := by decide +kernel
theorem dX11_qualityOf_28 : decode cX11_qualityOf 28 = .ok (.iload_n 2, 1) := by decide +kernel
theorem dX11_qualityOf_29 : decode cX11_qualityOf 29 = .ok (.ineg, 1) := by decide +kernel
theorem dX11_qualityOf_30 : decode cX11_qualityOf 30 = .ok (.goto 4, 3) := by decide +kernel
theorem dX11_qualityOf_33 : decode cX11_qualityOf 33 = .ok (.iload_n 2, 1) := by decide +kernel
theorem dX11_qualityOf_34 : decode cX11_qualityOf 34 = .ok (.imul, 1) := by decide +kernel
theorem dX11_qualityOf_35 : decode cX11_qualityOf 35 = .ok (.isub, 1) := by decide +kernel
theorem dX11_qualityOf_36 : decode cX11_qualityOf 36 = .ok (.istore_n 3, 1) := by decide +kernel
theorem dX11_qualityOf_37 : decode cX11_qualityOf 37 = .ok (.iload_n 3, 1) := by decide +kernel
theorem dX11_qualityOf_38 : decode cX11_qualityOf 38 = .ok (.bipush 40, 2) := by decide +kernel
theorem dX11_qualityOf_40 : decode cX11_qualityOf 40 = .ok (.if_icmp .ge 8, 3) := by decide +kernel
theorem dX11_qualityOf_43 : decode cX11_qualityOf 43 = .ok (.bipush 40, 2) := by decide +kernel
theorem dX11_qualityOf_45 : decode cX11_qualityOf 45 = .ok (.goto 4, 3) := by decide +kernel
theorem dX11_qualityOf_48 : decode cX11_qualityOf 48 = .ok (.iload_n 3, 1) := by decide +kernel
theorem dX11_qualityOf_49 : decode cX11_qualityOf 49 = .ok (.ireturn, 1) := by decide +kernel
theorem dX11_leftHours_0 : decode cX11_leftHours 0 = .ok (.aload_n 0, 1) := by decide +kernel
theorem dX11_leftHours_1 : decode cX11_leftHours 1 = .ok (.getfield 7, 3) := by decide +kernel
theorem dX11_leftHours_4 : decode cX11_leftHours 4 = .ok (.bipush 7, 2) := by decide +kernel
theorem dX11_leftHours_6 : decode cX11_leftHours 6 = .ok (.iaload, 1) := by decide +kernel
theorem dX11_leftHours_7 : decode cX11_leftHours 7 = .ok (.aload_n 0, 1) := by decide +kernel
theorem dX11_leftHours_8 : decode cX11_leftHours 8 = .ok (.getfield 7, 3) := by decide +kernel
theorem dX11_leftHours_11 : decode cX11_leftHours 11 = .ok (.bipush 11, 2) := by decide +kernel
theorem dX11_leftHours_13 : decode cX11_leftHours 13 = .ok (.iaload, 1) := by decide +kernel
theorem dX11_leftHours_14 : decode cX11_leftHours 14 = .ok (.if_icmp .le 21, 3) := by decide +kernel
theorem dX11_leftHours_17 : decode cX11_leftHours 17 = .ok (.aload_n 0, 1) := by decide +kernel
theorem dX11_leftHours_18 : decode cX11_leftHours 18 = .ok (.getfield 7, 3) := by decide +kernel
theorem dX11_leftHours_21 : decode cX11_leftHours 21 = .ok (.bipush 7, 2) := by decide +kernel
theorem dX11_leftHours_23 : decode cX11_leftHours 23 = .ok (.iaload, 1) := by decide +kernel
theorem dX11_leftHours_24 : decode cX11_leftHours 24 = .ok (.aload_n 0, 1) := by decide +kernel
theorem dX11_leftHours_25 : decode cX11_leftHours 25 = .ok (.getfield 7, 3) := by decide +kernel
theorem dX11_leftHours_28 : decode cX11_leftHours 28 = .ok (.bipush 11, 2) := by decide +kernel
theorem dX11_leftHours_30 : decode cX11_leftHours 30 = .ok (.iaload, 1) := by decide +kernel
theorem dX11_leftHours_31 : decode cX11_leftHours 31 = .ok (.isub, 1) := by decide +kernel
theorem dX11_leftHours_32 : decode cX11_leftHours 32 = .ok (.goto 4, 3) := by decide +kernel
theorem dX11_leftHours_35 : decode cX11_leftHours 35 = .ok (.iconst 0, 1) := by decide +kernel
theorem dX11_leftHours_36 : decode cX11_leftHours 36 = .ok (.ireturn, 1) := by decide +kernel
theorem dX11_areStrands_0 : decode cX11_areStrands 0 = .ok (.iload_n 0, 1) := by decide +kernel
theorem dX11_areStrands_1 : decode cX11_areStrands 1 = .ok (.iconst 3, 1) := by decide +kernel
theorem dX11_areStrands_2 : decode cX11_areStrands 2 = .ok (.iconst 4, 1) := by decide +kernel
theorem dX11_areStrands_3 : decode cX11_areStrands 3 = .ok (.invokestatic 43, 3) := by decide +kernel
theorem dX11_areStrands_6 : decode cX11_areStrands 6 = .ok (.ifCond .eq 17, 3) := by decide +kernel
theorem dX11_areStrands_9 : decode cX11_areStrands 9 = .ok (.iload_n 1, 1) := by decide +kernel
theorem dX11_areStrands_10 : decode cX11_areStrands 10 = .ok (.iconst 1, 1) := by decide +kernel
theorem dX11_areStrands_11 : decode cX11_areStrands 11 = .ok (.bipush 40, 2) := by decide +kernel
theorem dX11_areStrands_13 : decode cX11_areStrands 13 = .ok (.invokestatic 43, 3) := by decide +kernel
theorem dX11_areStrands_16 : decode cX11_areStrands 16 = .ok (.ifCond .eq 7, 3) := by decide +kernel
theorem dX11_areStrands_19 : decode cX11_areStrands 19 = .ok (.iconst 1, 1) := by decide +kernel
theorem dX11_areStrands_20 : decode cX11_areStrands 20 = .ok (.goto 4, 3) := by decide +kernel
theorem dX11_areStrands_23 : decode cX11_areStrands 23 = .ok (.iconst 0, 1) := by decide +kernel
theorem dX11_areStrands_24 : decode cX11_areStrands 24 = .ok (.ireturn, 1) := by decide +kernel
theorem dX11_canLay_0 : decode cX11_canLay 0 = .ok (.aload_n 0, 1) := by decide +kernel
theorem dX11_canLay_1 : decode cX11_canLay 1 = .ok (.iload 4, 2) := by decide +kernel
theorem dX11_canLay_3 : decode cX11_canLay 3 = .ok (.invokevirtual 67, 3) := by decide +kernel
theorem dX11_canLay_6 : decode cX11_canLay 6 = .ok (.aload_n 0, 1) := by decide +kernel
theorem dX11_canLay_7 : decode cX11_canLay 7 = .ok (.getfield 7, 3) := by decide +kernel
theorem dX11_canLay_10 : decode cX11_canLay 10 = .ok (.iconst 0, 1) := by decide +kernel
theorem dX11_canLay_11 : decode cX11_canLay 11 = .ok (.iaload, 1) := by decide +kernel
theorem dX11_canLay_12 : decode cX11_canLay 12 = .ok (.if_icmp .gt 47, 3) := by decide +kernel
theorem dX11_canLay_15 : decode cX11_canLay 15 = .ok (.iload_n 2, 1) := by decide +kernel
theorem dX11_canLay_16 : decode cX11_canLay 16 = .ok (.iload_n 3, 1) := by decide +kernel
theorem dX11_canLay_17 : decode cX11_canLay 17 = .ok (.imul, 1) := by decide +kernel
theorem dX11_canLay_18 : decode cX11_canLay 18 = .ok (.aload_n 0, 1) := by decide +kernel
theorem dX11_canLay_19 : decode cX11_canLay 19 = .ok (.iload 4, 2) := by decide +kernel
theorem dX11_canLay_21 : decode cX11_canLay 21 = .ok (.invokevirtual 70, 3) := by decide +kernel
theorem dX11_canLay_24 : decode cX11_canLay 24 = .ok (.imul, 1) := by decide +kernel
theorem dX11_canLay_25 : decode cX11_canLay 25 = .ok (.aload_n 0, 1) := by decide +kernel
theorem dX11_canLay_26 : decode cX11_canLay 26 = .ok (.getfield 7, 3) := by decide +kernel
theorem dX11_canLay_29 : decode cX11_canLay 29 = .ok (.bipush 20, 2) := by decide +kernel
theorem dX11_canLay_31 : decode cX11_canLay 31 = .ok (.iconst 3, 1) := by decide +kernel
theorem dX11_canLay_32 : decode cX11_canLay 32 = .ok (.iload_n 1, 1) := by decide +kernel
theorem dX11_canLay_33 : decode cX11_canLay 33 = .ok (.imul, 1) := by decide +kernel
theorem dX11_canLay_34 : decode cX11_canLay 34 = .ok (.iadd, 1) := by decide +kernel
theorem dX11_canLay_35 : decode cX11_canLay 35 = .ok (.iconst 2, 1) := by decide +kernel
theorem dX11_canLay_36 : decode cX11_canLay 36 = .ok (.iadd, 1) := by decide +kernel
theorem dX11_canLay_37 : decode cX11_canLay 37 = .ok (.iaload, 1) := by decide +kernel
theorem dX11_canLay_38 : decode cX11_canLay 38 = .ok (.if_icmp .gt 21, 3) := by decide +kernel
theorem dX11_canLay_41 : decode cX11_canLay 41 = .ok (.aload_n 0, 1) := by decide +kernel
theorem dX11_canLay_42 : decode cX11_canLay 42 = .ok (.iload_n 2, 1) := by decide +kernel
theorem dX11_canLay_43 : decode cX11_canLay 43 = .ok (.iload 4, 2) := by decide +kernel
theorem dX11_canLay_45 : decode cX11_canLay 45 = .ok (.invokevirtual 73, 3) := by decide +kernel
theorem dX11_canLay_48 : decode cX11_canLay 48 = .ok (.aload_n 0, 1) := by decide +kernel
theorem dX11_canLay_49 : decode cX11_canLay 49 = .ok (.invokevirtual 76, 3) := by decide +kernel
theorem dX11_canLay_52 : decode cX11_canLay 52 = .ok (.if_icmp .gt 7, 3) := by decide +kernel
theorem dX11_canLay_55 : decode cX11_canLay 55 = .ok (.iconst 1, 1) := by decide +kernel
theorem dX11_canLay_56 : decode cX11_canLay 56 = .ok (.goto 4, 3) := by decide +kernel
theorem dX11_canLay_59 : decode cX11_canLay 59 = .ok (.iconst 0, 1) := by decide +kernel
theorem dX11_canLay_60 : decode cX11_canLay 60 = .ok (.ireturn, 1) := by decide +kernel
theorem dX11_lay_0 : decode cX11_lay 0 = .ok (.iload_n 1, 1) := by decide +kernel
theorem dX11_lay_1 : decode cX11_lay 1 = .ok (.invokestatic 57, 3) := by decide +kernel
theorem dX11_lay_4 : decode cX11_lay 4 = .ok (.ifCond .ne 5, 3) := by decide +kernel
theorem dX11_lay_7 : decode cX11_lay 7 = .ok (.iconst (-1), 1) := by decide +kernel
theorem dX11_lay_8 : decode cX11_lay 8 = .ok (.ireturn, 1) := by decide +kernel
theorem dX11_lay_9 : decode cX11_lay 9 = .ok (.iload_n 2, 1) := by decide +kernel
theorem dX11_lay_10 : decode cX11_lay 10 = .ok (.iload_n 3, 1) := by decide +kernel
theorem dX11_lay_11 : decode cX11_lay 11 = .ok (.invokestatic 80, 3) := by decide +kernel
theorem dX11_lay_14 : decode cX11_lay 14 = .ok (.ifCond .eq 15, 3) := by decide +kernel
theorem dX11_lay_17 : decode cX11_lay 17 = .ok (.iload 4, 2) := by decide +kernel
theorem dX11_lay_19 : decode cX11_lay 19 = .ok (.iconst 1, 1) := by decide +kernel
theorem dX11_lay_20 : decode cX11_lay 20 = .ok (.sipush 2000, 3) := by decide +kernel
theorem dX11_lay_23 : decode cX11_lay 23 = .ok (.invokestatic 43, 3) := by decide +kernel
theorem dX11_lay_26 : decode cX11_lay 26 = .ok (.ifCond .ne 6, 3) := by decide +kernel
theorem dX11_lay_29 : decode cX11_lay 29 = .ok (.bipush (-2), 2) := by decide +kernel
theorem dX11_lay_31 : decode cX11_lay 31 = .ok (.ireturn, 1) := by decide +kernel
theorem dX11_lay_32 : decode cX11_lay 32 = .ok (.aload_n 0, 1) := by decide +kernel
theorem dX11_lay_33 : decode cX11_lay 33 = .ok (.getfield 7, 3) := by decide +kernel
theorem dX11_lay_36 : decode cX11_lay 36 = .ok (.bipush 12, 2) := by decide +kernel
theorem dX11_lay_38 : decode cX11_lay 38 = .ok (.iaload, 1) := by decide +kernel
theorem dX11_lay_39 : decode cX11_lay 39 = .ok (.bipush 24, 2) := by decide +kernel
theorem dX11_lay_41 : decode cX11_lay 41 = .ok (.if_icmp .ne 6, 3) := by decide +kernel
theorem dX11_lay_44 : decode cX11_lay 44 = .ok (.bipush (-4), 2) := by decide +kernel
theorem dX11_lay_46 : decode cX11_lay 46 = .ok (.ireturn, 1) := by decide +kernel
theorem dX11_lay_47 : decode cX11_lay 47 = .ok (.aload_n 0, 1) := by decide +kernel
theorem dX11_lay_48 : decode cX11_lay 48 = .ok (.iload_n 1, 1) := by decide +kernel
theorem dX11_lay_49 : decode cX11_lay 49 = .ok (.iload_n 2, 1) := by decide +kernel
theorem dX11_lay_50 : decode cX11_lay 50 = .ok (.iload_n 3, 1) := by decide +kernel
theorem dX11_lay_51 : decode cX11_lay 51 = .ok (.iload 4, 2) := by decide +kernel
theorem dX11_lay_53 : decode cX11_lay 53 = .ok (.invokevirtual 84, 3) := by decide +kernel
theorem dX11_lay_56 : decode cX11_lay 56 = .ok (.ifCond .ne 6, 3) := by decide +kernel
theorem dX11_lay_59 : decode cX11_lay 59 = .ok (.bipush (-5), 2) := by decide +kernel
theorem dX11_lay_61 : decode cX11_lay 61 = .ok (.ireturn, 1) := by decide +kernel
theorem dX11_lay_62 : decode cX11_lay 62 = .ok (.aload_n 0, 1) := by decide +kernel
theorem dX11_lay_63 : decode cX11_lay 63 = .ok (.invokevirtual 54, 3) := by decide +kernel
theorem dX11_lay_66 : decode cX11_lay 66 = .ok (.iload_n 2, 1) := by decide +kernel
theorem dX11_lay_67 : decode cX11_lay 67 = .ok (.iload_n 3, 1) := by decide +kernel
theorem dX11_lay_68 : decode cX11_lay 68 = .ok (.imul, 1) := by decide +kernel
theorem dX11_lay_69 : decode cX11_lay 69 = .ok (.aload_n 0, 1) := by decide +kernel
theorem dX11_lay_70 : decode cX11_lay 70 = .ok (.iload 4, 2) := by decide +kernel
theorem dX11_lay_72 : decode cX11_lay 72 = .ok (.invokevirtual 70, 3) := by decide +kernel
theorem dX11_lay_75 : decode cX11_lay 75 = .ok (.imul, 1) := by decide +kernel
theorem dX11_lay_76 : decode cX11_lay 76 = .ok (.istore 5, 2) := by decide +kernel
theorem dX11_lay_78 : decode cX11_lay 78 = .ok (.aload_n 0, 1) := by decide +kernel
theorem dX11_lay_79 : decode cX11_lay 79 = .ok (.getfield 7, 3) := by decide +kernel
theorem dX11_lay_82 : decode cX11_lay 82 = .ok (.bipush 20, 2) := by decide +kernel
theorem dX11_lay_84 : decode cX11_lay 84 = .ok (.iconst 3, 1) := by decide +kernel
theorem dX11_lay_85 : decode cX11_lay 85 = .ok (.iload_n 1, 1) := by decide +kernel
theorem dX11_lay_86 : decode cX11_lay 86 = .ok (.imul, 1) := by decide +kernel
theorem dX11_lay_87 : decode cX11_lay 87 = .ok (.iadd, 1) := by decide +kernel
theorem dX11_lay_88 : decode cX11_lay 88 = .ok (.iconst 2, 1) := by decide +kernel
theorem dX11_lay_89 : decode cX11_lay 89 = .ok (.iadd, 1) := by decide +kernel
theorem dX11_lay_90 : decode cX11_lay 90 = .ok (.dup2, 1) := by decide +kernel
theorem dX11_lay_91 : decode cX11_lay 91 = .ok (.iaload, 1) := by decide +kernel
theorem dX11_lay_92 : decode cX11_lay 92 = .ok (.iload 5, 2) := by decide +kernel
theorem dX11_lay_94 : decode cX11_lay 94 = .ok (.isub, 1) := by decide +kernel
theorem dX11_lay_95 : decode cX11_lay 95 = .ok (.iastore, 1) := by decide +kernel
theorem dX11_lay_96 : decode cX11_lay 96 = .ok (.aload_n 0, 1) := by decide +kernel
theorem dX11_lay_97 : decode cX11_lay 97 = .ok (.getfield 7, 3) := by decide +kernel
theorem dX11_lay_100 : decode cX11_lay 100 = .ok (.bipush 11, 2) := by decide +kernel
theorem dX11_lay_102 : decode cX11_lay 102 = .ok (.dup2, 1) := by decide +kernel
theorem dX11_lay_103 : decode cX11_lay 103 = .ok (.iaload, 1) := by decide +kernel
theorem dX11_lay_104 : decode cX11_lay 104 = .ok (.aload_n 0, 1) := by decide +kernel
theorem dX11_lay_105 : decode cX11_lay 105 = .ok (.iload_n 2, 1) := by decide +kernel
theorem dX11_lay_106 : decode cX11_lay 106 = .ok (.iload 4, 2) := by decide +kernel
theorem dX11_lay_108 : decode cX11_lay 108 = .ok (.invokevirtual 73, 3) := by decide +kernel
theorem dX11_lay_111 : decode cX11_lay 111 = .ok (.iadd, 1) := by decide +kernel
theorem dX11_lay_112 : decode cX11_lay 112 = .ok (.iastore, 1) := by decide +kernel
theorem dX11_lay_113 : decode cX11_lay 113 = .ok (.bipush 50, 2) := by decide +kernel
theorem dX11_lay_115 : decode cX11_lay 115 = .ok (.bipush 7, 2) := by decide +kernel
theorem dX11_lay_117 : decode cX11_lay 117 = .ok (.aload_n 0, 1) := by decide +kernel
theorem dX11_lay_118 : decode cX11_lay 118 = .ok (.getfield 7, 3) := by decide +kernel
theorem dX11_lay_121 : decode cX11_lay 121 = .ok (.bipush 12, 2) := by decide +kernel
theorem dX11_lay_123 : decode cX11_lay 123 = .ok (.iaload, 1) := by decide +kernel
theorem dX11_lay_124 : decode cX11_lay 124 = .ok (.imul, 1) := by decide +kernel
theorem dX11_lay_125 : decode cX11_lay 125 = .ok (.iadd, 1) := by decide +kernel
theorem dX11_lay_126 : decode cX11_lay 126 = .ok (.istore 6, 2) := by decide +kernel
theorem dX11_lay_128 : decode cX11_lay 128 = .ok (.aload_n 0, 1) := by decide +kernel
theorem dX11_lay_129 : decode cX11_lay 129 = .ok (.getfield 7, 3) := by decide +kernel
theorem dX11_lay_132 : decode cX11_lay 132 = .ok (.iload 6, 2) := by decide +kernel
theorem dX11_lay_134 : decode cX11_lay 134 = .ok (.iload_n 1, 1) := by decide +kernel
theorem dX11_lay_135 : decode cX11_lay 135 = .ok (.iastore, 1) := by decide +kernel
theorem dX11_lay_136 : decode cX11_lay 136 = .ok (.aload_n 0, 1) := by decide +kernel
theorem dX11_lay_137 : decode cX11_lay 137 = .ok (.getfield 7, 3) := by decide +kernel
theorem dX11_lay_140 : decode cX11_lay 140 = .ok (.iload 6, 2) := by decide +kernel
theorem dX11_lay_142 : decode cX11_lay 142 = .ok (.iconst 1, 1) := by decide +kernel
theorem dX11_lay_143 : decode cX11_lay 143 = .ok (.iadd, 1) := by decide +kernel
theorem dX11_lay_144 : decode cX11_lay 144 = .ok (.iload_n 2, 1) := by decide +kernel
theorem dX11_lay_145 : decode cX11_lay 145 = .ok (.iastore, 1) := by decide +kernel
theorem dX11_lay_146 : decode cX11_lay 146 = .ok (.aload_n 0, 1) := by decide +kernel
theorem dX11_lay_147 : decode cX11_lay 147 = .ok (.getfield 7, 3) := by decide +kernel
theorem dX11_lay_150 : decode cX11_lay 150 = .ok (.iload 6, 2) := by decide +kernel
theorem dX11_lay_152 : decode cX11_lay 152 = .ok (.iconst 2, 1) := by decide +kernel
theorem dX11_lay_153 : decode cX11_lay 153 = .ok (.iadd, 1) := by decide +kernel
theorem dX11_lay_154 : decode cX11_lay 154 = .ok (.iload_n 3, 1) := by decide +kernel
theorem dX11_lay_155 : decode cX11_lay 155 = .ok (.iastore, 1) := by decide +kernel
theorem dX11_lay_156 : decode cX11_lay 156 = .ok (.aload_n 0, 1) := by decide +kernel
theorem dX11_lay_157 : decode cX11_lay 157 = .ok (.getfield 7, 3) := by decide +kernel
theorem dX11_lay_160 : decode cX11_lay 160 = .ok (.iload 6, 2) := by decide +kernel
theorem dX11_lay_162 : decode cX11_lay 162 = .ok (.iconst 3, 1) := by decide +kernel
theorem dX11_lay_163 : decode cX11_lay 163 = .ok (.iadd, 1) := by decide +kernel
theorem dX11_lay_164 : decode cX11_lay 164 = .ok (.iload 4, 2) := by decide +kernel
theorem dX11_lay_166 : decode cX11_lay 166 = .ok (.iastore, 1) := by decide +kernel
theorem dX11_lay_167 : decode cX11_lay 167 = .ok (.aload_n 0, 1) := by decide +kernel
theorem dX11_lay_168 : decode cX11_lay 168 = .ok (.getfield 7, 3) := by decide +kernel
theorem dX11_lay_171 : decode cX11_lay 171 = .ok (.iload 6, 2) := by decide +kernel
theorem dX11_lay_173 : decode cX11_lay 173 = .ok (.iconst 4, 1) := by decide +kernel
theorem dX11_lay_174 : decode cX11_lay 174 = .ok (.iadd, 1) := by decide +kernel
theorem dX11_lay_175 : decode cX11_lay 175 = .ok (.iload 5, 2) := by decide +kernel
theorem dX11_lay_177 : decode cX11_lay 177 = .ok (.iastore, 1) := by decide +kernel
theorem dX11_lay_178 : decode cX11_lay 178 = .ok (.aload_n 0, 1) := by decide +kernel
theorem dX11_lay_179 : decode cX11_lay 179 = .ok (.getfield 7, 3) := by decide +kernel
theorem dX11_lay_182 : decode cX11_lay 182 = .ok (.iload 6, 2) := by decide +kernel
theorem dX11_lay_184 : decode cX11_lay 184 = .ok (.iconst 5, 1) := by decide +kernel
theorem dX11_lay_185 : decode cX11_lay 185 = .ok (.iadd, 1) := by decide +kernel
theorem dX11_lay_186 : decode cX11_lay 186 = .ok (.aload_n 0, 1) := by decide +kernel
theorem dX11_lay_187 : decode cX11_lay 187 = .ok (.iload_n 1, 1) := by decide +kernel
theorem dX11_lay_188 : decode cX11_lay 188 = .ok (.invokevirtual 88, 3) := by decide +kernel
theorem dX11_lay_191 : decode cX11_lay 191 = .ok (.iastore, 1) := by decide +kernel
theorem dX11_lay_192 : decode cX11_lay 192 = .ok (.aload_n 0, 1) := by decide +kernel
theorem dX11_lay_193 : decode cX11_lay 193 = .ok (.getfield 7, 3) := by decide +kernel
theorem dX11_lay_196 : decode cX11_lay 196 = .ok (.iload 6, 2) := by decide +kernel
theorem dX11_lay_198 : decode cX11_lay 198 = .ok (.bipush 6, 2) := by decide +kernel
theorem dX11_lay_200 : decode cX11_lay 200 = .ok (.iadd, 1) := by decide +kernel
theorem dX11_lay_201 : decode cX11_lay 201 = .ok (.iconst 0, 1) := by decide +kernel
theorem dX11_lay_202 : decode cX11_lay 202 = .ok (.iastore, 1) := by decide +kernel
theorem dX11_lay_203 : decode cX11_lay 203 = .ok (.aload_n 0, 1) := by decide +kernel
theorem dX11_lay_204 : decode cX11_lay 204 = .ok (.getfield 7, 3) := by decide +kernel
theorem dX11_lay_207 : decode cX11_lay 207 = .ok (.bipush 12, 2) := by decide +kernel
theorem dX11_lay_209 : decode cX11_lay 209 = .ok (.dup2, 1) := by decide +kernel
theorem dX11_lay_210 : decode cX11_lay 210 = .ok (.iaload, 1) := by decide +kernel
theorem dX11_lay_211 : decode cX11_lay 211 = .ok (.iconst 1, 1) := by decide +kernel
theorem dX11_lay_212 : decode cX11_lay 212 = .ok (.iadd, 1) := by decide +kernel
theorem dX11_lay_213 : decode cX11_lay 213 = .ok (.iastore, 1) := by decide +kernel
theorem dX11_lay_214 : decode cX11_lay 214 = .ok (.aload_n 0, 1) := by decide +kernel
theorem dX11_lay_215 : decode cX11_lay 215 = .ok (.getfield 7, 3) := by decide +kernel
theorem dX11_lay_218 : decode cX11_lay 218 = .ok (.bipush 12, 2) := by decide +kernel
theorem dX11_lay_220 : decode cX11_lay 220 = .ok (.iaload, 1) := by decide +kernel
theorem dX11_lay_221 : decode cX11_lay 221 = .ok (.iconst 1, 1) := by decide +kernel
theorem dX11_lay_222 : decode cX11_lay 222 = .ok (.isub, 1) := by decide +kernel
theorem dX11_lay_223 : decode cX11_lay 223 = .ok (.ireturn, 1) := by decide +kernel
theorem dX11_isPiece_0 : decode cX11_isPiece 0 = .ok (.iload_n 1, 1) := by decide +kernel
theorem dX11_isPiece_1 : decode cX11_isPiece 1 = .ok (.iconst 0, 1) := by decide +kernel
theorem dX11_isPiece_2 : decode cX11_isPiece 2 = .ok (.aload_n 0, 1) := by decide +kernel
theorem dX11_isPiece_3 : decode cX11_isPiece 3 = .ok (.getfield 7, 3) := by decide +kernel
theorem dX11_isPiece_6 : decode cX11_isPiece 6 = .ok (.bipush 12, 2) := by decide +kernel
theorem dX11_isPiece_8 : decode cX11_isPiece 8 = .ok (.iaload, 1) := by decide +kernel
theorem dX11_isPiece_9 : decode cX11_isPiece 9 = .ok (.iconst 1, 1) := by decide +kernel
theorem dX11_isPiece_10 : decode cX11_isPiece 10 = .ok (.isub, 1) := by decide +kernel
theorem dX11_isPiece_11 : decode cX11_isPiece 11 = .ok (.invokestatic 43, 3) := by decide +kernel
theorem dX11_isPiece_14 : decode cX11_isPiece 14 = .ok (.ireturn, 1) := by decide +kernel
theorem dX11_ofPiece_0 : decode cX11_ofPiece 0 = .ok (.aload_n 0, 1) := by decide +kernel
theorem dX11_ofPiece_1 : decode cX11_ofPiece 1 = .ok (.getfield 7, 3) := by decide +kernel
theorem dX11_ofPiece_4 : decode cX11_ofPiece 4 = .ok (.bipush 50, 2) := by decide +kernel
theorem dX11_ofPiece_6 : decode cX11_ofPiece 6 = .ok (.bipush 7, 2) := by decide +kernel
theorem dX11_ofPiece_8 : decode cX11_ofPiece 8 = .ok (.iload_n 1, 1) := by decide +kernel
theorem dX11_ofPiece_9 : decode cX11_ofPiece 9 = .ok (.imul, 1) := by decide +kernel
theorem dX11_ofPiece_10 : decode cX11_ofPiece 10 = .ok (.iadd, 1) := by decide +kernel
theorem dX11_ofPiece_11 : decode cX11_ofPiece 11 = .ok (.iload_n 2, 1) := by decide +kernel
theorem dX11_ofPiece_12 : decode cX11_ofPiece 12 = .ok (.iadd, 1) := by decide +kernel
theorem dX11_ofPiece_13 : decode cX11_ofPiece 13 = .ok (.iaload, 1) := by decide +kernel
theorem dX11_ofPiece_14 : decode cX11_ofPiece 14 = .ok (.ireturn, 1) := by decide +kernel
theorem dX11_strengthOf_0 : decode cX11_strengthOf 0 = .ok (.aload_n 0, 1) := by decide +kernel
theorem dX11_strengthOf_1 : decode cX11_strengthOf 1 = .ok (.iload_n 1, 1) := by decide +kernel
theorem dX11_strengthOf_2 : decode cX11_strengthOf 2 = .ok (.iconst 1, 1) := by decide +kernel
theorem dX11_strengthOf_3 : decode cX11_strengthOf 3 = .ok (.invokevirtual 91, 3) := by decide +kernel
theorem dX11_strengthOf_6 : decode cX11_strengthOf 6 = .ok (.aload_n 0, 1) := by decide +kernel
theorem dX11_strengthOf_7 : decode cX11_strengthOf 7 = .ok (.iload_n 1, 1) := by decide +kernel
theorem dX11_strengthOf_8 : decode cX11_strengthOf 8 = .ok (.iconst 2, 1) := by decide +kernel
theorem dX11_strengthOf_9 : decode cX11_strengthOf 9 = .ok (.invokevirtual 91, 3) := by decide +kernel
theorem dX11_strengthOf_12 : decode cX11_strengthOf 12 = .ok (.imul, 1) := by decide +kernel
theorem dX11_strengthOf_13 : decode cX11_strengthOf 13 = .ok (.aload_n 0, 1) := by decide +kernel
theorem dX11_strengthOf_14 : decode cX11_strengthOf 14 = .ok (.getfield 7, 3) := by decide +kernel
theorem dX11_strengthOf_17 : decode cX11_strengthOf 17 = .ok (.bipush 20, 2) := by decide +kernel
theorem dX11_strengthOf_19 : decode cX11_strengthOf 19 = .ok (.iconst 3, 1) := by decide +kernel
theorem dX11_strengthOf_20 : decode cX11_strengthOf 20 = .ok (.aload_n 0, 1) := by decide +kernel
theorem dX11_strengthOf_21 : decode cX11_strengthOf 21 = .ok (.iload_n 1, 1) := by decide +kernel
theorem dX11_strengthOf_22 : decode cX11_strengthOf 22 = .ok (.iconst 0, 1) := by decide +kernel
theorem dX11_strengthOf_23 : decode cX11_strengthOf 23 = .ok (.invokevirtual 91, 3) := by decide +kernel
theorem dX11_strengthOf_26 : decode cX11_strengthOf 26 = .ok (.imul, 1) := by decide +kernel
theorem dX11_strengthOf_27 : decode cX11_strengthOf 27 = .ok (.iadd, 1) := by decide +kernel
theorem dX11_strengthOf_28 : decode cX11_strengthOf 28 = .ok (.iaload, 1) := by decide +kernel
theorem dX11_strengthOf_29 : decode cX11_strengthOf 29 = .ok (.imul, 1) := by decide +kernel
theorem dX11_strengthOf_30 : decode cX11_strengthOf 30 = .ok (.aload_n 0, 1) := by decide +kernel
theorem dX11_strengthOf_31 : decode cX11_strengthOf 31 = .ok (.iload_n 1, 1) := by decide +kernel
theorem dX11_strengthOf_32 : decode cX11_strengthOf 32 = .ok (.iconst 5, 1) := by decide +kernel
theorem dX11_strengthOf_33 : decode cX11_strengthOf 33 = .ok (.invokevirtual 91, 3) := by decide +kernel
theorem dX11_strengthOf_36 : decode cX11_strengthOf 36 = .ok (.imul, 1) := by decide +kernel
theorem dX11_strengthOf_37 : decode cX11_strengthOf 37 = .ok (.bipush 100, 2) := by decide +kernel
theorem dX11_strengthOf_39 : decode cX11_strengthOf 39 = .ok (.idiv, 1) := by decide +kernel
theorem dX11_strengthOf_40 : decode cX11_strengthOf 40 = .ok (.istore_n 2, 1) := by decide +kernel
theorem dX11_strengthOf_41 : decode cX11_strengthOf 41 = .ok (.aload_n 0, 1) := by decide +kernel
theorem dX11_strengthOf_42 : decode cX11_strengthOf 42 = .ok (.iload_n 1, 1) := by decide +kernel
theorem dX11_strengthOf_43 : decode cX11_strengthOf 43 = .ok (.bipush 6, 2) := by decide +kernel
theorem dX11_strengthOf_45 : decode cX11_strengthOf 45 = .ok (.invokevirtual 91, 3) := by decide +kernel
theorem dX11_strengthOf_48 : decode cX11_strengthOf 48 = .ok (.ifCond .ne 7, 3) := by decide +kernel
theorem dX11_strengthOf_51 : decode cX11_strengthOf 51 = .ok (.iload_n 2, 1) := by decide +kernel
theorem dX11_strengthOf_52 : decode cX11_strengthOf 52 = .ok (.goto 17, 3) := by decide +kernel
theorem dX11_strengthOf_55 : decode cX11_strengthOf 55 = .ok (.iload_n 2, 1) := by decide +kernel
theorem dX11_strengthOf_56 : decode cX11_strengthOf 56 = .ok (.bipush 100, 2) := by decide +kernel
theorem dX11_strengthOf_58 : decode cX11_strengthOf 58 = .ok (.aload_n 0, 1) := by decide +kernel
theorem dX11_strengthOf_59 : decode cX11_strengthOf 59 = .ok (.getfield 7, 3) := by decide +kernel
theorem dX11_strengthOf_62 : decode cX11_strengthOf 62 = .ok (.iconst 3, 1) := by decide +kernel
theorem dX11_strengthOf_63 : decode cX11_strengthOf 63 = .ok (.iaload, 1) := by decide +kernel
theorem dX11_strengthOf_64 : decode cX11_strengthOf 64 = .ok (.isub, 1) := by decide +kernel
theorem dX11_strengthOf_65 : decode cX11_strengthOf 65 = .ok (.imul, 1) := by decide +kernel
theorem dX11_strengthOf_66 : decode cX11_strengthOf 66 = .ok (.bipush 100, 2) := by decide +kernel
theorem dX11_strengthOf_68 : decode cX11_strengthOf 68 = .ok (.idiv, 1) := by decide +kernel
theorem dX11_strengthOf_69 : decode cX11_strengthOf 69 = .ok (.ireturn, 1) := by decide +kernel
theorem dX11_dropPiece_0 : decode cX11_dropPiece 0 = .ok (.aload_n 0, 1) := by decide +kernel
theorem dX11_dropPiece_1 : decode cX11_dropPiece 1 = .ok (.getfield 7, 3) := by decide +kernel
theorem dX11_dropPiece_4 : decode cX11_dropPiece 4 = .ok (.bipush 12, 2) := by decide +kernel
theorem dX11_dropPiece_6 : decode cX11_dropPiece 6 = .ok (.dup2, 1) := by decide +kernel
theorem dX11_dropPiece_7 : decode cX11_dropPiece 7 = .ok (.iaload, 1) := by decide +kernel
theorem dX11_dropPiece_8 : decode cX11_dropPiece 8 = .ok (.iconst 1, 1) := by decide +kernel
theorem dX11_dropPiece_9 : decode cX11_dropPiece 9 = .ok (.isub, 1) := by decide +kernel
theorem dX11_dropPiece_10 : decode cX11_dropPiece 10 = .ok (.iastore, 1) := by decide +kernel
theorem dX11_dropPiece_11 : decode cX11_dropPiece 11 = .ok (.bipush 50, 2) := by decide +kernel
theorem dX11_dropPiece_13 : decode cX11_dropPiece 13 = .ok (.bipush 7, 2) := by decide +kernel
theorem dX11_dropPiece_15 : decode cX11_dropPiece 15 = .ok (.iload_n 1, 1) := by decide +kernel
theorem dX11_dropPiece_16 : decode cX11_dropPiece 16 = .ok (.imul, 1) := by decide +kernel
theorem dX11_dropPiece_17 : decode cX11_dropPiece 17 = .ok (.iadd, 1) := by decide +kernel
theorem dX11_dropPiece_18 : decode cX11_dropPiece 18 = .ok (.istore_n 2, 1) := by decide +kernel
theorem dX11_dropPiece_19 : decode cX11_dropPiece 19 = .ok (.iload_n 2, 1) := by decide +kernel
theorem dX11_dropPiece_20 : decode cX11_dropPiece 20 = .ok (.bipush 50, 2) := by decide +kernel
theorem dX11_dropPiece_22 : decode cX11_dropPiece 22 = .ok (.bipush 7, 2) := by decide +kernel
theorem dX11_dropPiece_24 : decode cX11_dropPiece 24 = .ok (.aload_n 0, 1) := by decide +kernel
theorem dX11_dropPiece_25 : decode cX11_dropPiece 25 = .ok (.getfield 7, 3) := by decide +kernel
theorem dX11_dropPiece_28 : decode cX11_dropPiece 28 = .ok (.bipush 12, 2) := by decide +kernel
theorem dX11_dropPiece_30 : decode cX11_dropPiece 30 = .ok (.iaload, 1) := by decide +kernel
theorem dX11_dropPiece_31 : decode cX11_dropPiece 31 = .ok (.imul, 1) := by decide +kernel
theorem dX11_dropPiece_32 : decode cX11_dropPiece 32 = .ok (.iadd, 1) := by decide +kernel
theorem dX11_dropPiece_33 : decode cX11_dropPiece 33 = .ok (.if_icmp .ge 24, 3) := by decide +kernel
theorem dX11_dropPiece_36 : decode cX11_dropPiece 36 = .ok (.aload_n 0, 1) := by decide +kernel
theorem dX11_dropPiece_37 : decode cX11_dropPiece 37 = .ok (.getfield 7, 3) := by decide +kernel
theorem dX11_dropPiece_40 : decode cX11_dropPiece 40 = .ok (.iload_n 2, 1) := by decide +kernel
theorem dX11_dropPiece_41 : decode cX11_dropPiece 41 = .ok (.aload_n 0, 1) := by decide +kernel
theorem dX11_dropPiece_42 : decode cX11_dropPiece 42 = .ok (.getfield 7, 3) := by decide +kernel
theorem dX11_dropPiece_45 : decode cX11_dropPiece 45 = .ok (.iload_n 2, 1) := by decide +kernel
theorem dX11_dropPiece_46 : decode cX11_dropPiece 46 = .ok (.bipush 7, 2) := by decide +kernel
theorem dX11_dropPiece_48 : decode cX11_dropPiece 48 = .ok (.iadd, 1) := by decide +kernel
theorem dX11_dropPiece_49 : decode cX11_dropPiece 49 = .ok (.iaload, 1) := by decide +kernel
theorem dX11_dropPiece_50 : decode cX11_dropPiece 50 = .ok (.iastore, 1) := by decide +kernel
theorem dX11_dropPiece_51 : decode cX11_dropPiece 51 = .ok (.iinc 2 1, 3) := by decide +kernel
theorem dX11_dropPiece_54 : decode cX11_dropPiece 54 = .ok (.goto (-35), 3) := by decide +kernel
theorem dX11_dropPiece_57 : decode cX11_dropPiece 57 = .ok (.return_, 1) := by decide +kernel
theorem dX11_cutFrom_0 : decode cX11_cutFrom 0 = .ok (.bipush 50, 2) := by decide +kernel
theorem dX11_cutFrom_2 : decode cX11_cutFrom 2 = .ok (.bipush 7, 2) := by decide +kernel
theorem dX11_cutFrom_4 : decode cX11_cutFrom 4 = .ok (.iload_n 1, 1) := by decide +kernel
theorem dX11_cutFrom_5 : decode cX11_cutFrom 5 = .ok (.imul, 1) := by decide +kernel
theorem dX11_cutFrom_6 : decode cX11_cutFrom 6 = .ok (.iadd, 1) := by decide +kernel
theorem dX11_cutFrom_7 : decode cX11_cutFrom 7 = .ok (.istore_n 3, 1) := by decide +kernel
theorem dX11_cutFrom_8 : decode cX11_cutFrom 8 = .ok (.aload_n 0, 1) := by decide +kernel
theorem dX11_cutFrom_9 : decode cX11_cutFrom 9 = .ok (.getfield 7, 3) := by decide +kernel
theorem dX11_cutFrom_12 : decode cX11_cutFrom 12 = .ok (.iload_n 3, 1) := by decide +kernel
theorem dX11_cutFrom_13 : decode cX11_cutFrom 13 = .ok (.iconst 4, 1) := by decide +kernel
theorem dX11_cutFrom_14 : decode cX11_cutFrom 14 = .ok (.iadd, 1) := by decide +kernel
theorem dX11_cutFrom_15 : decode cX11_cutFrom 15 = .ok (.iaload, 1) := by decide +kernel
theorem dX11_cutFrom_16 : decode cX11_cutFrom 16 = .ok (.i2l, 1) := by decide +kernel
theorem dX11_cutFrom_17 : decode cX11_cutFrom 17 = .ok (.iload_n 2, 1) := by decide +kernel
theorem dX11_cutFrom_18 : decode cX11_cutFrom 18 = .ok (.i2l, 1) := by decide +kernel
theorem dX11_cutFrom_19 : decode cX11_cutFrom 19 = .ok (.lmul, 1) := by decide +kernel
theorem dX11_cutFrom_20 : decode cX11_cutFrom 20 = .ok (.aload_n 0, 1) := by decide +kernel
theorem dX11_cutFrom_21 : decode cX11_cutFrom 21 = .ok (.getfield 7, 3) := by decide +kernel
theorem dX11_cutFrom_24 : decode cX11_cutFrom 24 = .ok (.iload_n 3, 1) := by decide +kernel
theorem dX11_cutFrom_25 : decode cX11_cutFrom 25 = .ok (.iconst 3, 1) := by decide +kernel
theorem dX11_cutFrom_26 : decode cX11_cutFrom 26 = .ok (.iadd, 1) := by decide +kernel
theorem dX11_cutFrom_27 : decode cX11_cutFrom 27 = .ok (.iaload, 1) := by decide +kernel
theorem dX11_cutFrom_28 : decode cX11_cutFrom 28 = .ok (.i2l, 1) := by decide +kernel
theorem dX11_cutFrom_29 : decode cX11_cutFrom 29 = .ok (.ldiv, 1) := by decide +kernel
theorem dX11_cutFrom_30 : decode cX11_cutFrom 30 = .ok (.l2i, 1) := by decide +kernel
theorem dX11_cutFrom_31 : decode cX11_cutFrom 31 = .ok (.istore 4, 2) := by decide +kernel
theorem dX11_cutFrom_33 : decode cX11_cutFrom 33 = .ok (.aload_n 0, 1) := by decide +kernel
theorem dX11_cutFrom_34 : decode cX11_cutFrom 34 = .ok (.getfield 7, 3) := by decide +kernel
theorem dX11_cutFrom_37 : decode cX11_cutFrom 37 = .ok (.iload_n 3, 1) := by decide +kernel
theorem dX11_cutFrom_38 : decode cX11_cutFrom 38 = .ok (.iconst 3, 1) := by decide +kernel
theorem dX11_cutFrom_39 : decode cX11_cutFrom 39 = .ok (.iadd, 1) := by decide +kernel
theorem dX11_cutFrom_40 : decode cX11_cutFrom 40 = .ok (.dup2, 1) := by decide +kernel
theorem dX11_cutFrom_41 : decode cX11_cutFrom 41 = .ok (.iaload, 1) := by decide +kernel
theorem dX11_cutFrom_42 : decode cX11_cutFrom 42 = .ok (.iload_n 2, 1) := by decide +kernel
theorem dX11_cutFrom_43 : decode cX11_cutFrom 43 = .ok (.isub, 1) := by decide +kernel
theorem dX11_cutFrom_44 : decode cX11_cutFrom 44 = .ok (.iastore, 1) := by decide +kernel
theorem dX11_cutFrom_45 : decode cX11_cutFrom 45 = .ok (.aload_n 0, 1) := by decide +kernel
theorem dX11_cutFrom_46 : decode cX11_cutFrom 46 = .ok (.getfield 7, 3) := by decide +kernel
theorem dX11_cutFrom_49 : decode cX11_cutFrom 49 = .ok (.iload_n 3, 1) := by decide +kernel
theorem dX11_cutFrom_50 : decode cX11_cutFrom 50 = .ok (.iconst 4, 1) := by decide +kernel
theorem dX11_cutFrom_51 : decode cX11_cutFrom 51 = .ok (.iadd, 1) := by decide +kernel
theorem dX11_cutFrom_52 : decode cX11_cutFrom 52 = .ok (.dup2, 1) := by decide +kernel
theorem dX11_cutFrom_53 : decode cX11_cutFrom 53 = .ok (.iaload, 1) := by decide +kernel
theorem dX11_cutFrom_54 : decode cX11_cutFrom 54 = .ok (.iload 4, 2) := by decide +kernel
theorem dX11_cutFrom_56 : decode cX11_cutFrom 56 = .ok (.isub, 1) := by decide +kernel
theorem dX11_cutFrom_57 : decode cX11_cutFrom 57 = .ok (.iastore, 1) := by decide +kernel
theorem dX11_cutFrom_58 : decode cX11_cutFrom 58 = .ok (.aload_n 0, 1) := by decide +kernel
theorem dX11_cutFrom_59 : decode cX11_cutFrom 59 = .ok (.getfield 7, 3) := by decide +kernel
theorem dX11_cutFrom_62 : decode cX11_cutFrom 62 = .ok (.iload_n 3, 1) := by decide +kernel
theorem dX11_cutFrom_63 : decode cX11_cutFrom 63 = .ok (.iconst 3, 1) := by decide +kernel
theorem dX11_cutFrom_64 : decode cX11_cutFrom 64 = .ok (.iadd, 1) := by decide +kernel
theorem dX11_cutFrom_65 : decode cX11_cutFrom 65 = .ok (.iaload, 1) := by decide +kernel
theorem dX11_cutFrom_66 : decode cX11_cutFrom 66 = .ok (.ifCond .ne 11, 3) := by decide +kernel
theorem dX11_cutFrom_69 : decode cX11_cutFrom 69 = .ok (.aload_n 0, 1) := by decide +kernel
theorem dX11_cutFrom_70 : decode cX11_cutFrom 70 = .ok (.iload_n 1, 1) := by decide +kernel
theorem dX11_cutFrom_71 : decode cX11_cutFrom 71 = .ok (.invokevirtual 94, 3) := by decide +kernel
theorem dX11_cutFrom_74 : decode cX11_cutFrom 74 = .ok (.goto 55, 3) := by decide +kernel
theorem dX11_cutFrom_77 : decode cX11_cutFrom 77 = .ok (.aload_n 0, 1) := by decide +kernel
theorem dX11_cutFrom_78 : decode cX11_cutFrom 78 = .ok (.getfield 7, 3) := by decide +kernel
theorem dX11_cutFrom_81 : decode cX11_cutFrom 81 = .ok (.iload_n 3, 1) := by decide +kernel
theorem dX11_cutFrom_82 : decode cX11_cutFrom 82 = .ok (.iconst 3, 1) := by decide +kernel
theorem dX11_cutFrom_83 : decode cX11_cutFrom 83 = .ok (.iadd, 1) := by decide +kernel
theorem dX11_cutFrom_84 : decode cX11_cutFrom 84 = .ok (.iaload, 1) := by decide +kernel
theorem dX11_cutFrom_85 : decode cX11_cutFrom 85 = .ok (.aload_n 0, 1) := by decide +kernel
theorem dX11_cutFrom_86 : decode cX11_cutFrom 86 = .ok (.getfield 7, 3) := by decide +kernel
theorem dX11_cutFrom_89 : decode cX11_cutFrom 89 = .ok (.bipush 6, 2) := by decide +kernel
theorem dX11_cutFrom_91 : decode cX11_cutFrom 91 = .ok (.iaload, 1) := by decide +kernel
theorem dX11_cutFrom_92 : decode cX11_cutFrom 92 = .ok (.if_icmp .ge 37, 3) := by decide +kernel
theorem dX11_cutFrom_95 : decode cX11_cutFrom 95 = .ok (.aload_n 0, 1) := by decide +kernel
theorem dX11_cutFrom_96 : decode cX11_cutFrom 96 = .ok (.getfield 7, 3) := by decide +kernel
theorem dX11_cutFrom_99 : decode cX11_cutFrom 99 = .ok (.bipush 30, 2) := by decide +kernel
theorem dX11_cutFrom_101 : decode cX11_cutFrom 101 = .ok (.iconst 4, 1) := by decide +kernel
theorem dX11_cutFrom_102 : decode cX11_cutFrom 102 = .ok (.aload_n 0, 1) := by decide +kernel
theorem dX11_cutFrom_103 : decode cX11_cutFrom 103 = .ok (.getfield 7, 3) := by decide +kernel
theorem dX11_cutFrom_106 : decode cX11_cutFrom 106 = .ok (.iload_n 3, 1) := by decide +kernel
theorem dX11_cutFrom_107 : decode cX11_cutFrom 107 = .ok (.iaload, 1) := by decide +kernel
theorem dX11_cutFrom_108 : decode cX11_cutFrom 108 = .ok (.imul, 1) := by decide +kernel
theorem dX11_cutFrom_109 : decode cX11_cutFrom 109 = .ok (.iadd, 1) := by decide +kernel
theorem dX11_cutFrom_110 : decode cX11_cutFrom 110 = .ok (.iconst 3, 1) := by decide +kernel
theorem dX11_cutFrom_111 : decode cX11_cutFrom 111 = .ok (.iadd, 1) := by decide +kernel
theorem dX11_cutFrom_112 : decode cX11_cutFrom 112 = .ok (.dup2, 1) := by decide +kernel
theorem dX11_cutFrom_113 : decode cX11_cutFrom 113 = .ok (.iaload, 1) := by decide +kernel
theorem dX11_cutFrom_114 : decode cX11_cutFrom 114 = .ok (.aload_n 0, 1) := by decide +kernel
theorem dX11_cutFrom_115 : decode cX11_cutFrom 115 = .ok (.getfield 7, 3) := by decide +kernel
theorem dX11_cutFrom_118 : decode cX11_cutFrom 118 = .ok (.iload_n 3, 1) := by decide +kernel
theorem dX11_cutFrom_119 : decode cX11_cutFrom 119 = .ok (.iconst 4, 1) := by decide +kernel
theorem dX11_cutFrom_120 : decode cX11_cutFrom 120 = .ok (.iadd, 1) := by decide +kernel
theorem dX11_cutFrom_121 : decode cX11_cutFrom 121 = .ok (.iaload, 1) := by decide +kernel
theorem dX11_cutFrom_122 : decode cX11_cutFrom 122 = .ok (.iadd, 1) := by decide +kernel
theorem dX11_cutFrom_123 : decode cX11_cutFrom 123 = .ok (.iastore, 1) := by decide +kernel
theorem dX11_cutFrom_124 : decode cX11_cutFrom 124 = .ok (.aload_n 0, 1) := by decide +kernel
theorem dX11_cutFrom_125 : decode cX11_cutFrom 125 = .ok (.iload_n 1, 1) := by decide +kernel
theorem dX11_cutFrom_126 : decode cX11_cutFrom 126 = .ok (.invokevirtual 94, 3) := by decide +kernel
theorem dX11_cutFrom_129 : decode cX11_cutFrom 129 = .ok (.iload 4, 2) := by decide +kernel
theorem dX11_cutFrom_131 : decode cX11_cutFrom 131 = .ok (.ireturn, 1) := by decide +kernel
theorem dX11_join_0 : decode cX11_join 0 = .ok (.aload_n 0, 1) := by decide +kernel
theorem dX11_join_1 : decode cX11_join 1 = .ok (.iload_n 1, 1) := by decide +kernel
theorem dX11_join_2 : decode cX11_join 2 = .ok (.invokevirtual 98, 3) := by decide +kernel
theorem dX11_join_5 : decode cX11_join 5 = .ok (.ifCond .eq 16, 3) := by decide +kernel
theorem dX11_join_8 : decode cX11_join 8 = .ok (.aload_n 0, 1) := by decide +kernel
theorem dX11_join_9 : decode cX11_join 9 = .ok (.iload_n 2, 1) := by decide +kernel
theorem dX11_join_10 : decode cX11_join 10 = .ok (.invokevirtual 98, 3) := by decide +kernel
theorem dX11_join_13 : decode cX11_join 13 = .ok (.ifCond .eq 8, 3) := by decide +kernel
theorem dX11_join_16 : decode cX11_join 16 = .ok (.iload_n 1, 1) := by decide +kernel
theorem dX11_join_17 : decode cX11_join 17 = .ok (.iload_n 2, 1) := by decide +kernel
theorem dX11_join_18 : decode cX11_join 18 = .ok (.if_icmp .ne 5, 3) := by decide +kernel
theorem dX11_join_21 : decode cX11_join 21 = .ok (.iconst (-1), 1) := by decide +kernel
theorem dX11_join_22 : decode cX11_join 22 = .ok (.ireturn, 1) := by decide +kernel
theorem dX11_join_23 : decode cX11_join 23 = .ok (.iconst 0, 1) := by decide +kernel
theorem dX11_join_24 : decode cX11_join 24 = .ok (.istore_n 3, 1) := by decide +kernel
theorem dX11_join_25 : decode cX11_join 25 = .ok (.iload_n 3, 1) := by decide +kernel
theorem dX11_join_26 : decode cX11_join 26 = .ok (.iconst 3, 1) := by decide +kernel
theorem dX11_join_27 : decode cX11_join 27 = .ok (.if_icmp .ge 27, 3) := by decide +kernel
theorem dX11_join_30 : decode cX11_join 30 = .ok (.aload_n 0, 1) := by decide +kernel
theorem dX11_join_31 : decode cX11_join 31 = .ok (.iload_n 1, 1) := by decide +kernel
theorem dX11_join_32 : decode cX11_join 32 = .ok (.iload_n 3, 1) := by decide +kernel
theorem dX11_join_33 : decode cX11_join 33 = .ok (.invokevirtual 91, 3) := by decide +kernel
theorem dX11_join_36 : decode cX11_join 36 = .ok (.aload_n 0, 1) := by decide +kernel
theorem dX11_join_37 : decode cX11_join 37 = .ok (.iload_n 2, 1) := by decide +kernel
theorem dX11_join_38 : decode cX11_join 38 = .ok (.iload_n 3, 1) := by decide +kernel
theorem dX11_join_39 : decode cX11_join 39 = .ok (.invokevirtual 91, 3) := by decide +kernel
theorem dX11_join_42 : decode cX11_join 42 = .ok (.if_icmp .eq 6, 3) := by decide +kernel
theorem dX11_join_45 : decode cX11_join 45 = .ok (.bipush (-5), 2) := by decide +kernel
theorem dX11_join_47 : decode cX11_join 47 = .ok (.ireturn, 1) := by decide +kernel
theorem dX11_join_48 : decode cX11_join 48 = .ok (.iinc 3 1, 3) := by decide +kernel
theorem dX11_join_51 : decode cX11_join 51 = .ok (.goto (-26), 3) := by decide +kernel
theorem dX11_join_54 : decode cX11_join 54 = .ok (.aload_n 0, 1) := by decide +kernel
theorem dX11_join_55 : decode cX11_join 55 = .ok (.iload_n 1, 1) := by decide +kernel
theorem dX11_join_56 : decode cX11_join 56 = .ok (.iconst 3, 1) := by decide +kernel
theorem dX11_join_57 : decode cX11_join 57 = .ok (.invokevirtual 91, 3) := by decide +kernel
theorem dX11_join_60 : decode cX11_join 60 = .ok (.aload_n 0, 1) := by decide +kernel
theorem dX11_join_61 : decode cX11_join 61 = .ok (.getfield 7, 3) := by decide +kernel
theorem dX11_join_64 : decode cX11_join 64 = .ok (.iconst 4, 1) := by decide +kernel
theorem dX11_join_65 : decode cX11_join 65 = .ok (.iaload, 1) := by decide +kernel
theorem dX11_join_66 : decode cX11_join 66 = .ok (.if_icmp .le 18, 3) := by decide +kernel
theorem dX11_join_69 : decode cX11_join 69 = .ok (.aload_n 0, 1) := by decide +kernel
theorem dX11_join_70 : decode cX11_join 70 = .ok (.iload_n 2, 1) := by decide +kernel
theorem dX11_join_71 : decode cX11_join 71 = .ok (.iconst 3, 1) := by decide +kernel
theorem dX11_join_72 : decode cX11_join 72 = .ok (.invokevirtual 91, 3) := by decide +kernel
theorem dX11_join_75 : decode cX11_join 75 = .ok (.aload_n 0, 1) := by decide +kernel
theorem dX11_join_76 : decode cX11_join 76 = .ok (.getfield 7, 3) := by decide +kernel
theorem dX11_join_79 : decode cX11_join 79 = .ok (.iconst 4, 1) := by decide +kernel
theorem dX11_join_80 : decode cX11_join 80 = .ok (.iaload, 1) := by decide +kernel
theorem dX11_join_81 : decode cX11_join 81 = .ok (.if_icmp .gt 6, 3) := by decide +kernel
theorem dX11_join_84 : decode cX11_join 84 = .ok (.bipush (-5), 2) := by decide +kernel
theorem dX11_join_86 : decode cX11_join 86 = .ok (.ireturn, 1) := by decide +kernel
theorem dX11_join_87 : decode cX11_join 87 = .ok (.aload_n 0, 1) := by decide +kernel
theorem dX11_join_88 : decode cX11_join 88 = .ok (.invokevirtual 54, 3) := by decide +kernel
theorem dX11_join_91 : decode cX11_join 91 = .ok (.iload_n 1, 1) := by decide +kernel
theorem dX11_join_92 : decode cX11_join 92 = .ok (.iload_n 2, 1) := by decide +kernel
theorem dX11_join_93 : decode cX11_join 93 = .ok (.if_icmp .ge 7, 3) := by decide +kernel
theorem dX11_join_96 : decode cX11_join 96 = .ok (.iload_n 1, 1) := by decide +kernel
theorem dX11_join_97 : decode cX11_join 97 = .ok (.goto 4, 3) := by decide +kernel
theorem dX11_join_100 : decode cX11_join 100 = .ok (.iload_n 2, 1) := by decide +kernel
theorem dX11_join_101 : decode cX11_join 101 = .ok (.istore_n 3, 1) := by decide +kernel
theorem dX11_join_102 : decode cX11_join 102 = .ok (.iload_n 1, 1) := by decide +kernel
theorem dX11_join_103 : decode cX11_join 103 = .ok (.iload_n 2, 1) := by decide +kernel
theorem dX11_join_104 : decode cX11_join 104 = .ok (.if_icmp .ge 7, 3) := by decide +kernel
theorem dX11_join_107 : decode cX11_join 107 = .ok (.iload_n 2, 1) := by decide +kernel
theorem dX11_join_108 : decode cX11_join 108 = .ok (.goto 4, 3) := by decide +kernel
theorem dX11_join_111 : decode cX11_join 111 = .ok (.iload_n 1, 1) := by decide +kernel
theorem dX11_join_112 : decode cX11_join 112 = .ok (.istore 4, 2) := by decide +kernel
theorem dX11_join_114 : decode cX11_join 114 = .ok (.bipush 50, 2) := by decide +kernel
theorem dX11_join_116 : decode cX11_join 116 = .ok (.bipush 7, 2) := by decide +kernel
theorem dX11_join_118 : decode cX11_join 118 = .ok (.iload_n 3, 1) := by decide +kernel
theorem dX11_join_119 : decode cX11_join 119 = .ok (.imul, 1) := by decide +kernel
theorem dX11_join_120 : decode cX11_join 120 = .ok (.iadd, 1) := by decide +kernel
theorem dX11_join_121 : decode cX11_join 121 = .ok (.istore 5, 2) := by decide +kernel
theorem dX11_join_123 : decode cX11_join 123 = .ok (.aload_n 0, 1) := by decide +kernel
theorem dX11_join_124 : decode cX11_join 124 = .ok (.getfield 7, 3) := by decide +kernel
theorem dX11_join_127 : decode cX11_join 127 = .ok (.iload 5, 2) := by decide +kernel
theorem dX11_join_129 : decode cX11_join 129 = .ok (.iconst 3, 1) := by decide +kernel
theorem dX11_join_130 : decode cX11_join 130 = .ok (.iadd, 1) := by decide +kernel
theorem dX11_join_131 : decode cX11_join 131 = .ok (.dup2, 1) := by decide +kernel
theorem dX11_join_132 : decode cX11_join 132 = .ok (.iaload, 1) := by decide +kernel
theorem dX11_join_133 : decode cX11_join 133 = .ok (.aload_n 0, 1) := by decide +kernel
theorem dX11_join_134 : decode cX11_join 134 = .ok (.iload 4, 2) := by decide +kernel
theorem dX11_join_136 : decode cX11_join 136 = .ok (.iconst 3, 1) := by decide +kernel
theorem dX11_join_137 : decode cX11_join 137 = .ok (.invokevirtual 91, 3) := by decide +kernel
theorem dX11_join_140 : decode cX11_join 140 = .ok (.aload_n 0, 1) := by decide +kernel
theorem dX11_join_141 : decode cX11_join 141 = .ok (.getfield 7, 3) := by decide +kernel
theorem dX11_join_144 : decode cX11_join 144 = .ok (.iconst 4, 1) := by decide +kernel
theorem dX11_join_145 : decode cX11_join 145 = .ok (.iaload, 1) := by decide +kernel
theorem dX11_join_146 : decode cX11_join 146 = .ok (.isub, 1) := by decide +kernel
theorem dX11_join_147 : decode cX11_join 147 = .ok (.iadd, 1) := by decide +kernel
theorem dX11_join_148 : decode cX11_join 148 = .ok (.iastore, 1) := by decide +kernel
theorem dX11_join_149 : decode cX11_join 149 = .ok (.aload_n 0, 1) := by decide +kernel
theorem dX11_join_150 : decode cX11_join 150 = .ok (.getfield 7, 3) := by decide +kernel
theorem dX11_join_153 : decode cX11_join 153 = .ok (.iload 5, 2) := by decide +kernel
theorem dX11_join_155 : decode cX11_join 155 = .ok (.iconst 4, 1) := by decide +kernel
theorem dX11_join_156 : decode cX11_join 156 = .ok (.iadd, 1) := by decide +kernel
theorem dX11_join_157 : decode cX11_join 157 = .ok (.dup2, 1) := by decide +kernel
theorem dX11_join_158 : decode cX11_join 158 = .ok (.iaload, 1) := by decide +kernel
theorem dX11_join_159 : decode cX11_join 159 = .ok (.aload_n 0, 1) := by decide +kernel
theorem dX11_join_160 : decode cX11_join 160 = .ok (.iload 4, 2) := by decide +kernel
theorem dX11_join_162 : decode cX11_join 162 = .ok (.iconst 4, 1) := by decide +kernel
theorem dX11_join_163 : decode cX11_join 163 = .ok (.invokevirtual 91, 3) := by decide +kernel
theorem dX11_join_166 : decode cX11_join 166 = .ok (.iadd, 1) := by decide +kernel
theorem dX11_join_167 : decode cX11_join 167 = .ok (.iastore, 1) := by decide +kernel
theorem dX11_join_168 : decode cX11_join 168 = .ok (.aload_n 0, 1) := by decide +kernel
theorem dX11_join_169 : decode cX11_join 169 = .ok (.getfield 7, 3) := by decide +kernel
theorem dX11_join_172 : decode cX11_join 172 = .ok (.iload 5, 2) := by decide +kernel
theorem dX11_join_174 : decode cX11_join 174 = .ok (.iconst 5, 1) := by decide +kernel
theorem dX11_join_175 : decode cX11_join 175 = .ok (.iadd, 1) := by decide +kernel
theorem dX11_join_176 : decode cX11_join 176 = .ok (.aload_n 0, 1) := by decide +kernel
theorem dX11_join_177 : decode cX11_join 177 = .ok (.iload 4, 2) := by decide +kernel
theorem dX11_join_179 : decode cX11_join 179 = .ok (.iconst 5, 1) := by decide +kernel
theorem dX11_join_180 : decode cX11_join 180 = .ok (.invokevirtual 91, 3) := by decide +kernel
theorem dX11_join_183 : decode cX11_join 183 = .ok (.aload_n 0, 1) := by decide +kernel
theorem dX11_join_184 : decode cX11_join 184 = .ok (.getfield 7, 3) := by decide +kernel
theorem dX11_join_187 : decode cX11_join 187 = .ok (.iload 5, 2) := by decide +kernel
theorem dX11_join_189 : decode cX11_join 189 = .ok (.iconst 5, 1) := by decide +kernel
theorem dX11_join_190 : decode cX11_join 190 = .ok (.iadd, 1) := by decide +kernel
theorem dX11_join_191 : decode cX11_join 191 = .ok (.iaload, 1) := by decide +kernel
theorem dX11_join_192 : decode cX11_join 192 = .ok (.if_icmp .ge 13, 3) := by decide +kernel
theorem dX11_join_195 : decode cX11_join 195 = .ok (.aload_n 0, 1) := by decide +kernel
theorem dX11_join_196 : decode cX11_join 196 = .ok (.iload 4, 2) := by decide +kernel
theorem dX11_join_198 : decode cX11_join 198 = .ok (.iconst 5, 1) := by decide +kernel
theorem dX11_join_199 : decode cX11_join 199 = .ok (.invokevirtual 91, 3) := by decide +kernel
theorem dX11_join_202 : decode cX11_join 202 = .ok (.goto 12, 3) := by decide +kernel
theorem dX11_join_205 : decode cX11_join 205 = .ok (.aload_n 0, 1) := by decide +kernel
theorem dX11_join_206 : decode cX11_join 206 = .ok (.getfield 7, 3) := by decide +kernel
theorem dX11_join_209 : decode cX11_join 209 = .ok (.iload 5, 2) := by decide +kernel
theorem dX11_join_211 : decode cX11_join 211 = .ok (.iconst 5, 1) := by decide +kernel
theorem dX11_join_212 : decode cX11_join 212 = .ok (.iadd, 1) := by decide +kernel
theorem dX11_join_213 : decode cX11_join 213 = .ok (.iaload, 1) := by decide +kernel
theorem dX11_join_214 : decode cX11_join 214 = .ok (.iastore, 1) := by decide +kernel
theorem dX11_join_215 : decode cX11_join 215 = .ok (.aload_n 0, 1) := by decide +kernel
theorem dX11_join_216 : decode cX11_join 216 = .ok (.getfield 7, 3) := by decide +kernel
theorem dX11_join_219 : decode cX11_join 219 = .ok (.iload 5, 2) := by decide +kernel
theorem dX11_join_221 : decode cX11_join 221 = .ok (.bipush 6, 2) := by decide +kernel
theorem dX11_join_223 : decode cX11_join 223 = .ok (.iadd, 1) := by decide +kernel
theorem dX11_join_224 : decode cX11_join 224 = .ok (.dup2, 1) := by decide +kernel
theorem dX11_join_225 : decode cX11_join 225 = .ok (.iaload, 1) := by decide +kernel
theorem dX11_join_226 : decode cX11_join 226 = .ok (.aload_n 0, 1) := by decide +kernel
theorem dX11_join_227 : decode cX11_join 227 = .ok (.iload 4, 2) := by decide +kernel
theorem dX11_join_229 : decode cX11_join 229 = .ok (.bipush 6, 2) := by decide +kernel
theorem dX11_join_231 : decode cX11_join 231 = .ok (.invokevirtual 91, 3) := by decide +kernel
theorem dX11_join_234 : decode cX11_join 234 = .ok (.iconst 1, 1) := by decide +kernel
theorem dX11_join_235 : decode cX11_join 235 = .ok (.iadd, 1) := by decide +kernel
theorem dX11_join_236 : decode cX11_join 236 = .ok (.iadd, 1) := by decide +kernel
theorem dX11_join_237 : decode cX11_join 237 = .ok (.iastore, 1) := by decide +kernel
theorem dX11_join_238 : decode cX11_join 238 = .ok (.aload_n 0, 1) := by decide +kernel
theorem dX11_join_239 : decode cX11_join 239 = .ok (.iload 4, 2) := by decide +kernel
theorem dX11_join_241 : decode cX11_join 241 = .ok (.invokevirtual 94, 3) := by decide +kernel
theorem dX11_join_244 : decode cX11_join 244 = .ok (.iload_n 3, 1) := by decide +kernel
theorem dX11_join_245 : decode cX11_join 245 = .ok (.ireturn, 1) := by decide +kernel
theorem dX11_test_0 : decode cX11_test 0 = .ok (.aload_n 0, 1) := by decide +kernel
theorem dX11_test_1 : decode cX11_test 1 = .ok (.iload_n 1, 1) := by decide +kernel
theorem dX11_test_2 : decode cX11_test 2 = .ok (.invokevirtual 98, 3) := by decide +kernel
theorem dX11_test_5 : decode cX11_test 5 = .ok (.ifCond .ne 5, 3) := by decide +kernel
theorem dX11_test_8 : decode cX11_test 8 = .ok (.iconst (-1), 1) := by decide +kernel
theorem dX11_test_9 : decode cX11_test 9 = .ok (.ireturn, 1) := by decide +kernel
theorem dX11_test_10 : decode cX11_test 10 = .ok (.aload_n 0, 1) := by decide +kernel
theorem dX11_test_11 : decode cX11_test 11 = .ok (.iload_n 1, 1) := by decide +kernel
theorem dX11_test_12 : decode cX11_test 12 = .ok (.iconst 3, 1) := by decide +kernel
theorem dX11_test_13 : decode cX11_test 13 = .ok (.invokevirtual 91, 3) := by decide +kernel
theorem dX11_test_16 : decode cX11_test 16 = .ok (.aload_n 0, 1) := by decide +kernel
theorem dX11_test_17 : decode cX11_test 17 = .ok (.getfield 7, 3) := by decide +kernel
theorem dX11_test_20 : decode cX11_test 20 = .ok (.iconst 5, 1) := by decide +kernel
theorem dX11_test_21 : decode cX11_test 21 = .ok (.iaload, 1) := by decide +kernel
theorem dX11_test_22 : decode cX11_test 22 = .ok (.if_icmp .ge 6, 3) := by decide +kernel
theorem dX11_test_25 : decode cX11_test 25 = .ok (.bipush (-5), 2) := by decide +kernel
theorem dX11_test_27 : decode cX11_test 27 = .ok (.ireturn, 1) := by decide +kernel
theorem dX11_test_28 : decode cX11_test 28 = .ok (.aload_n 0, 1) := by decide +kernel
theorem dX11_test_29 : decode cX11_test 29 = .ok (.invokevirtual 54, 3) := by decide +kernel
theorem dX11_test_32 : decode cX11_test 32 = .ok (.aload_n 0, 1) := by decide +kernel
theorem dX11_test_33 : decode cX11_test 33 = .ok (.iload_n 1, 1) := by decide +kernel
theorem dX11_test_34 : decode cX11_test 34 = .ok (.invokevirtual 101, 3) := by decide +kernel
theorem dX11_test_37 : decode cX11_test 37 = .ok (.istore_n 2, 1) := by decide +kernel
theorem dX11_test_38 : decode cX11_test 38 = .ok (.aload_n 0, 1) := by decide +kernel
theorem dX11_test_39 : decode cX11_test 39 = .ok (.iload_n 1, 1) := by decide +kernel
theorem dX11_test_40 : decode cX11_test 40 = .ok (.iconst 0, 1) := by decide +kernel
theorem dX11_test_41 : decode cX11_test 41 = .ok (.invokevirtual 91, 3) := by decide +kernel
theorem dX11_test_44 : decode cX11_test 44 = .ok (.istore_n 3, 1) := by decide +kernel
theorem dX11_test_45 : decode cX11_test 45 = .ok (.aload_n 0, 1) := by decide +kernel
theorem dX11_test_46 : decode cX11_test 46 = .ok (.getfield 7, 3) := by decide +kernel
theorem dX11_test_49 : decode cX11_test 49 = .ok (.bipush 30, 2) := by decide +kernel
theorem dX11_test_51 : decode cX11_test 51 = .ok (.iconst 4, 1) := by decide +kernel
theorem dX11_test_52 : decode cX11_test 52 = .ok (.iload_n 3, 1) := by decide +kernel
theorem dX11_test_53 : decode cX11_test 53 = .ok (.imul, 1) := by decide +kernel
theorem dX11_test_54 : decode cX11_test 54 = .ok (.iadd, 1) := by decide +kernel
theorem dX11_test_55 : decode cX11_test 55 = .ok (.iconst 2, 1) := by decide +kernel
theorem dX11_test_56 : decode cX11_test 56 = .ok (.iadd, 1) := by decide +kernel
theorem dX11_test_57 : decode cX11_test 57 = .ok (.dup2, 1) := by decide +kernel
theorem dX11_test_58 : decode cX11_test 58 = .ok (.iaload, 1) := by decide +kernel
theorem dX11_test_59 : decode cX11_test 59 = .ok (.aload_n 0, 1) := by decide +kernel
theorem dX11_test_60 : decode cX11_test 60 = .ok (.iload_n 1, 1) := by decide +kernel
theorem dX11_test_61 : decode cX11_test 61 = .ok (.aload_n 0, 1) := by decide +kernel
theorem dX11_test_62 : decode cX11_test 62 = .ok (.getfield 7, 3) := by decide +kernel
theorem dX11_test_65 : decode cX11_test 65 = .ok (.iconst 5, 1) := by decide +kernel
theorem dX11_test_66 : decode cX11_test 66 = .ok (.iaload, 1) := by decide +kernel
theorem dX11_test_67 : decode cX11_test 67 = .ok (.invokevirtual 104, 3) := by decide +kernel
theorem dX11_test_70 : decode cX11_test 70 = .ok (.iadd, 1) := by decide +kernel
theorem dX11_test_71 : decode cX11_test 71 = .ok (.iastore, 1) := by decide +kernel
theorem dX11_test_72 : decode cX11_test 72 = .ok (.iload_n 2, 1) := by decide +kernel
theorem dX11_test_73 : decode cX11_test 73 = .ok (.ireturn, 1) := by decide +kernel
theorem dX11_isOrder_0 : decode cX11_isOrder 0 = .ok (.iload_n 1, 1) := by decide +kernel
theorem dX11_isOrder_1 : decode cX11_isOrder 1 = .ok (.iconst 0, 1) := by decide +kernel
theorem dX11_isOrder_2 : decode cX11_isOrder 2 = .ok (.aload_n 0, 1) := by decide +kernel
theorem dX11_isOrder_3 : decode cX11_isOrder 3 = .ok (.getfield 7, 3) := by decide +kernel
theorem dX11_isOrder_6 : decode cX11_isOrder 6 = .ok (.bipush 13, 2) := by decide +kernel
theorem dX11_isOrder_8 : decode cX11_isOrder 8 = .ok (.iaload, 1) := by decide +kernel
theorem dX11_isOrder_9 : decode cX11_isOrder 9 = .ok (.iconst 1, 1) := by decide +kernel
theorem dX11_isOrder_10 : decode cX11_isOrder 10 = .ok (.isub, 1) := by decide +kernel
theorem dX11_isOrder_11 : decode cX11_isOrder 11 = .ok (.invokestatic 43, 3) := by decide +kernel
theorem dX11_isOrder_14 : decode cX11_isOrder 14 = .ok (.ireturn, 1) := by decide +kernel
theorem dX11_orderAt_0 : decode cX11_orderAt 0 = .ok (.aload_n 0, 1) := by decide +kernel
theorem dX11_orderAt_1 : decode cX11_orderAt 1 = .ok (.getfield 7, 3) := by decide +kernel
theorem dX11_orderAt_4 : decode cX11_orderAt 4 = .ok (.sipush 220, 3) := by decide +kernel
theorem dX11_orderAt_7 : decode cX11_orderAt 7 = .ok (.bipush 7, 2) := by decide +kernel
theorem dX11_orderAt_9 : decode cX11_orderAt 9 = .ok (.iload_n 1, 1) := by decide +kernel
theorem dX11_orderAt_10 : decode cX11_orderAt 10 = .ok (.imul, 1) := by decide +kernel
theorem dX11_orderAt_11 : decode cX11_orderAt 11 = .ok (.iadd, 1) := by decide +kernel
theorem dX11_orderAt_12 : decode cX11_orderAt 12 = .ok (.iload_n 2, 1) := by decide +kernel
theorem dX11_orderAt_13 : decode cX11_orderAt 13 = .ok (.iadd, 1) := by decide +kernel
theorem dX11_orderAt_14 : decode cX11_orderAt 14 = .ok (.iaload, 1) := by decide +kernel
theorem dX11_orderAt_15 : decode cX11_orderAt 15 = .ok (.ireturn, 1) := by decide +kernel
theorem dX11_dropOrder_0 : decode cX11_dropOrder 0 = .ok (.aload_n 0, 1) := by decide +kernel
theorem dX11_dropOrder_1 : decode cX11_dropOrder 1 = .ok (.getfield 7, 3) := by decide +kernel
theorem dX11_dropOrder_4 : decode cX11_dropOrder 4 = .ok (.bipush 13, 2) := by decide +kernel
theorem dX11_dropOrder_6 : decode cX11_dropOrder 6 = .ok (.dup2, 1) := by decide +kernel
theorem dX11_dropOrder_7 : decode cX11_dropOrder 7 = .ok (.iaload, 1) := by decide +kernel
theorem dX11_dropOrder_8 : decode cX11_dropOrder 8 = .ok (.iconst 1, 1) := by decide +kernel
theorem dX11_dropOrder_9 : decode cX11_dropOrder 9 = .ok (.isub, 1) := by decide +kernel
theorem dX11_dropOrder_10 : decode cX11_dropOrder 10 = .ok (.iastore, 1) := by decide +kernel
theorem dX11_dropOrder_11 : decode cX11_dropOrder 11 = .ok (.sipush 220, 3) := by decide +kernel
theorem dX11_dropOrder_14 : decode cX11_dropOrder 14 = .ok (.bipush 7, 2) := by decide +kernel
theorem dX11_dropOrder_16 : decode cX11_dropOrder 16 = .ok (.iload_n 1, 1) := by decide +kernel
theorem dX11_dropOrder_17 : decode cX11_dropOrder 17 = .ok (.imul, 1) := by decide +kernel
theorem dX11_dropOrder_18 : decode cX11_dropOrder 18 = .ok (.iadd, 1) := by decide +kernel
theorem dX11_dropOrder_19 : decode cX11_dropOrder 19 = .ok (.istore_n 2, 1) := by decide +kernel
theorem dX11_dropOrder_20 : decode cX11_dropOrder 20 = .ok (.iload_n 2, 1) := by decide +kernel
theorem dX11_dropOrder_21 : decode cX11_dropOrder 21 = .ok (.sipush 220, 3) := by decide +kernel
theorem dX11_dropOrder_24 : decode cX11_dropOrder 24 = .ok (.bipush 7, 2) := by decide +kernel
theorem dX11_dropOrder_26 : decode cX11_dropOrder 26 = .ok (.aload_n 0, 1) := by decide +kernel
theorem dX11_dropOrder_27 : decode cX11_dropOrder 27 = .ok (.getfield 7, 3) := by decide +kernel
theorem dX11_dropOrder_30 : decode cX11_dropOrder 30 = .ok (.bipush 13, 2) := by decide +kernel
theorem dX11_dropOrder_32 : decode cX11_dropOrder 32 = .ok (.iaload, 1) := by decide +kernel
theorem dX11_dropOrder_33 : decode cX11_dropOrder 33 = .ok (.imul, 1) := by decide +kernel
theorem dX11_dropOrder_34 : decode cX11_dropOrder 34 = .ok (.iadd, 1) := by decide +kernel
theorem dX11_dropOrder_35 : decode cX11_dropOrder 35 = .ok (.if_icmp .ge 24, 3) := by decide +kernel
theorem dX11_dropOrder_38 : decode cX11_dropOrder 38 = .ok (.aload_n 0, 1) := by decide +kernel
theorem dX11_dropOrder_39 : decode cX11_dropOrder 39 = .ok (.getfield 7, 3) := by decide +kernel
theorem dX11_dropOrder_42 : decode cX11_dropOrder 42 = .ok (.iload_n 2, 1) := by decide +kernel
theorem dX11_dropOrder_43 : decode cX11_dropOrder 43 = .ok (.aload_n 0, 1) := by decide +kernel
theorem dX11_dropOrder_44 : decode cX11_dropOrder 44 = .ok (.getfield 7, 3) := by decide +kernel
theorem dX11_dropOrder_47 : decode cX11_dropOrder 47 = .ok (.iload_n 2, 1) := by decide +kernel
theorem dX11_dropOrder_48 : decode cX11_dropOrder 48 = .ok (.bipush 7, 2) := by decide +kernel
theorem dX11_dropOrder_50 : decode cX11_dropOrder 50 = .ok (.iadd, 1) := by decide +kernel
theorem dX11_dropOrder_51 : decode cX11_dropOrder 51 = .ok (.iaload, 1) := by decide +kernel
theorem dX11_dropOrder_52 : decode cX11_dropOrder 52 = .ok (.iastore, 1) := by decide +kernel
theorem dX11_dropOrder_53 : decode cX11_dropOrder 53 = .ok (.iinc 2 1, 3) := by decide +kernel
theorem dX11_dropOrder_56 : decode cX11_dropOrder 56 = .ok (.goto (-36), 3) := by decide +kernel
theorem dX11_dropOrder_59 : decode cX11_dropOrder 59 = .ok (.return_, 1) := by decide +kernel
theorem dX11_order_0 : decode cX11_order 0 = .ok (.iload_n 1, 1) := by decide +kernel
theorem dX11_order_1 : decode cX11_order 1 = .ok (.invokestatic 57, 3) := by decide +kernel
theorem dX11_order_4 : decode cX11_order 4 = .ok (.ifCond .ne 5, 3) := by decide +kernel
theorem dX11_order_7 : decode cX11_order 7 = .ok (.iconst (-1), 1) := by decide +kernel
theorem dX11_order_8 : decode cX11_order 8 = .ok (.ireturn, 1) := by decide +kernel
theorem dX11_order_9 : decode cX11_order 9 = .ok (.iload_n 2, 1) := by decide +kernel
theorem dX11_order_10 : decode cX11_order 10 = .ok (.iconst 1, 1) := by decide +kernel
theorem dX11_order_11 : decode cX11_order 11 = .ok (.ldc 107, 2) := by decide +kernel
theorem dX11_order_13 : decode cX11_order 13 = .ok (.invokestatic 43, 3) := by decide +kernel
theorem dX11_order_16 : decode cX11_order 16 = .ok (.ifCond .eq 48, 3) := by decide +kernel
theorem dX11_order_19 : decode cX11_order 19 = .ok (.iload_n 3, 1) := by decide +kernel
theorem dX11_order_20 : decode cX11_order 20 = .ok (.iconst 1, 1) := by decide +kernel
theorem dX11_order_21 : decode cX11_order 21 = .ok (.sipush 500, 3) := by decide +kernel
theorem dX11_order_24 : decode cX11_order 24 = .ok (.invokestatic 43, 3) := by decide +kernel
theorem dX11_order_27 : decode cX11_order 27 = .ok (.ifCond .eq 37, 3) := by decide +kernel
theorem dX11_order_30 : decode cX11_order 30 = .ok (.iload 4, 2) := by decide +kernel
theorem dX11_order_32 : decode cX11_order 32 = .ok (.iconst 1, 1) := by decide +kernel
theorem dX11_order_33 : decode cX11_order 33 = .ok (.bipush 20, 2) := by decide +kernel
theorem dX11_order_35 : decode cX11_order 35 = .ok (.invokestatic 43, 3) := by decide +kernel
theorem dX11_order_38 : decode cX11_order 38 = .ok (.ifCond .eq 26, 3) := by decide +kernel
theorem dX11_order_41 : decode cX11_order 41 = .ok (.iload 5, 2) := by decide +kernel
theorem dX11_order_43 : decode cX11_order 43 = .ok (.iconst 0, 1) := by decide +kernel
theorem dX11_order_44 : decode cX11_order 44 = .ok (.sipush 201, 3) := by decide +kernel
theorem dX11_order_47 : decode cX11_order 47 = .ok (.invokestatic 43, 3) := by decide +kernel
theorem dX11_order_50 : decode cX11_order 50 = .ok (.ifCond .eq 14, 3) := by decide +kernel
theorem dX11_order_53 : decode cX11_order 53 = .ok (.iload 6, 2) := by decide +kernel
theorem dX11_order_55 : decode cX11_order 55 = .ok (.iconst 0, 1) := by decide +kernel
theorem dX11_order_56 : decode cX11_order 56 = .ok (.ldc 108, 2) := by decide +kernel
theorem dX11_order_58 : decode cX11_order 58 = .ok (.invokestatic 43, 3) := by decide +kernel
theorem dX11_order_61 : decode cX11_order 61 = .ok (.ifCond .ne 6, 3) := by decide +kernel
theorem dX11_order_64 : decode cX11_order 64 = .ok (.bipush (-2), 2) := by decide +kernel
theorem dX11_order_66 : decode cX11_order 66 = .ok (.ireturn, 1) := by decide +kernel
theorem dX11_order_67 : decode cX11_order 67 = .ok (.aload_n 0, 1) := by decide +kernel
theorem dX11_order_68 : decode cX11_order 68 = .ok (.getfield 7, 3) := by decide +kernel
theorem dX11_order_71 : decode cX11_order 71 = .ok (.bipush 13, 2) := by decide +kernel
theorem dX11_order_73 : decode cX11_order 73 = .ok (.iaload, 1) := by decide +kernel
theorem dX11_order_74 : decode cX11_order 74 = .ok (.bipush 16, 2) := by decide +kernel
theorem dX11_order_76 : decode cX11_order 76 = .ok (.if_icmp .ne 6, 3) := by decide +kernel
theorem dX11_order_79 : decode cX11_order 79 = .ok (.bipush (-4), 2) := by decide +kernel
theorem dX11_order_81 : decode cX11_order 81 = .ok (.ireturn, 1) := by decide +kernel
theorem dX11_order_82 : decode cX11_order 82 = .ok (.aload_n 0, 1) := by decide +kernel
theorem dX11_order_83 : decode cX11_order 83 = .ok (.invokevirtual 54, 3) := by decide +kernel
theorem dX11_order_86 : decode cX11_order 86 = .ok (.sipush 220, 3) := by decide +kernel
theorem dX11_order_89 : decode cX11_order 89 = .ok (.bipush 7, 2) := by decide +kernel
theorem dX11_order_91 : decode cX11_order 91 = .ok (.aload_n 0, 1) := by decide +kernel
theorem dX11_order_92 : decode cX11_order 92 = .ok (.getfield 7, 3) := by decide +kernel
theorem dX11_order_95 : decode cX11_order 95 = .ok (.bipush 13, 2) := by decide +kernel
theorem dX11_order_97 : decode cX11_order 97 = .ok (.iaload, 1) := by decide +kernel
theorem dX11_order_98 : decode cX11_order 98 = .ok (.imul, 1) := by decide +kernel
theorem dX11_order_99 : decode cX11_order 99 = .ok (.iadd, 1) := by decide +kernel
theorem dX11_order_100 : decode cX11_order 100 = .ok (.istore 7, 2) := by decide +kernel
theorem dX11_order_102 : decode cX11_order 102 = .ok (.aload_n 0, 1) := by decide +kernel
theorem dX11_order_103 : decode cX11_order 103 = .ok (.getfield 7, 3) := by decide +kernel
theorem dX11_order_106 : decode cX11_order 106 = .ok (.iload 7, 2) := by decide +kernel
theorem dX11_order_108 : decode cX11_order 108 = .ok (.iload_n 1, 1) := by decide +kernel
theorem dX11_order_109 : decode cX11_order 109 = .ok (.iastore, 1) := by decide +kernel
theorem dX11_order_110 : decode cX11_order 110 = .ok (.aload_n 0, 1) := by decide +kernel
theorem dX11_order_111 : decode cX11_order 111 = .ok (.getfield 7, 3) := by decide +kernel
theorem dX11_order_114 : decode cX11_order 114 = .ok (.iload 7, 2) := by decide +kernel
theorem dX11_order_116 : decode cX11_order 116 = .ok (.iconst 1, 1) := by decide +kernel
theorem dX11_order_117 : decode cX11_order 117 = .ok (.iadd, 1) := by decide +kernel
theorem dX11_order_118 : decode cX11_order 118 = .ok (.iload_n 2, 1) := by decide +kernel
theorem dX11_order_119 : decode cX11_order 119 = .ok (.iastore, 1) := by decide +kernel
theorem dX11_order_120 : decode cX11_order 120 = .ok (.aload_n 0, 1) := by decide +kernel
theorem dX11_order_121 : decode cX11_order 121 = .ok (.getfield 7, 3) := by decide +kernel
theorem dX11_order_124 : decode cX11_order 124 = .ok (.iload 7, 2) := by decide +kernel
theorem dX11_order_126 : decode cX11_order 126 = .ok (.iconst 2, 1) := by decide +kernel
theorem dX11_order_127 : decode cX11_order 127 = .ok (.iadd, 1) := by decide +kernel
theorem dX11_order_128 : decode cX11_order 128 = .ok (.iload_n 3, 1) := by decide +kernel
theorem dX11_order_129 : decode cX11_order 129 = .ok (.iastore, 1) := by decide +kernel
theorem dX11_order_130 : decode cX11_order 130 = .ok (.aload_n 0, 1) := by decide +kernel
theorem dX11_order_131 : decode cX11_order 131 = .ok (.getfield 7, 3) := by decide +kernel
theorem dX11_order_134 : decode cX11_order 134 = .ok (.iload 7, 2) := by decide +kernel
theorem dX11_order_136 : decode cX11_order 136 = .ok (.iconst 3, 1) := by decide +kernel
theorem dX11_order_137 : decode cX11_order 137 = .ok (.iadd, 1) := by decide +kernel
theorem dX11_order_138 : decode cX11_order 138 = .ok (.iload 4, 2) := by decide +kernel
theorem dX11_order_140 : decode cX11_order 140 = .ok (.iastore, 1) := by decide +kernel
theorem dX11_order_141 : decode cX11_order 141 = .ok (.aload_n 0, 1) := by decide +kernel
theorem dX11_order_142 : decode cX11_order 142 = .ok (.getfield 7, 3) := by decide +kernel
theorem dX11_order_145 : decode cX11_order 145 = .ok (.iload 7, 2) := by decide +kernel
theorem dX11_order_147 : decode cX11_order 147 = .ok (.iconst 4, 1) := by decide +kernel
theorem dX11_order_148 : decode cX11_order 148 = .ok (.iadd, 1) := by decide +kernel
theorem dX11_order_149 : decode cX11_order 149 = .ok (.iload 5, 2) := by decide +kernel
theorem dX11_order_151 : decode cX11_order 151 = .ok (.iconst 2, 1) := by decide +kernel
theorem dX11_order_152 : decode cX11_order 152 = .ok (.irem, 1) := by decide +kernel
theorem dX11_order_153 : decode cX11_order 153 = .ok (.iastore, 1) := by decide +kernel
theorem dX11_order_154 : decode cX11_order 154 = .ok (.aload_n 0, 1) := by decide +kernel
theorem dX11_order_155 : decode cX11_order 155 = .ok (.getfield 7, 3) := by decide +kernel
theorem dX11_order_158 : decode cX11_order 158 = .ok (.iload 7, 2) := by decide +kernel
theorem dX11_order_160 : decode cX11_order 160 = .ok (.iconst 5, 1) := by decide +kernel
theorem dX11_order_161 : decode cX11_order 161 = .ok (.iadd, 1) := by decide +kernel
theorem dX11_order_162 : decode cX11_order 162 = .ok (.aload_n 0, 1) := by decide +kernel
theorem dX11_order_163 : decode cX11_order 163 = .ok (.getfield 7, 3) := by decide +kernel
theorem dX11_order_166 : decode cX11_order 166 = .ok (.bipush 10, 2) := by decide +kernel
theorem dX11_order_168 : decode cX11_order 168 = .ok (.iaload, 1) := by decide +kernel
theorem dX11_order_169 : decode cX11_order 169 = .ok (.iload 5, 2) := by decide +kernel
theorem dX11_order_171 : decode cX11_order 171 = .ok (.iconst 2, 1) := by decide +kernel
theorem dX11_order_172 : decode cX11_order 172 = .ok (.idiv, 1) := by decide +kernel
theorem dX11_order_173 : decode cX11_order 173 = .ok (.iadd, 1) := by decide +kernel
theorem dX11_order_174 : decode cX11_order 174 = .ok (.iastore, 1) := by decide +kernel
theorem dX11_order_175 : decode cX11_order 175 = .ok (.aload_n 0, 1) := by decide +kernel
theorem dX11_order_176 : decode cX11_order 176 = .ok (.getfield 7, 3) := by decide +kernel
theorem dX11_order_179 : decode cX11_order 179 = .ok (.iload 7, 2) := by decide +kernel
theorem dX11_order_181 : decode cX11_order 181 = .ok (.bipush 6, 2) := by decide +kernel
theorem dX11_order_183 : decode cX11_order 183 = .ok (.iadd, 1) := by decide +kernel
theorem dX11_order_184 : decode cX11_order 184 = .ok (.iload 6, 2) := by decide +kernel
theorem dX11_order_186 : decode cX11_order 186 = .ok (.iastore, 1) := by decide +kernel
theorem dX11_order_187 : decode cX11_order 187 = .ok (.aload_n 0, 1) := by decide +kernel
theorem dX11_order_188 : decode cX11_order 188 = .ok (.getfield 7, 3) := by decide +kernel
theorem dX11_order_191 : decode cX11_order 191 = .ok (.bipush 13, 2) := by decide +kernel
theorem dX11_order_193 : decode cX11_order 193 = .ok (.dup2, 1) := by decide +kernel
theorem dX11_order_194 : decode cX11_order 194 = .ok (.iaload, 1) := by decide +kernel
theorem dX11_order_195 : decode cX11_order 195 = .ok (.iconst 1, 1) := by decide +kernel
theorem dX11_order_196 : decode cX11_order 196 = .ok (.iadd, 1) := by decide +kernel
theorem dX11_order_197 : decode cX11_order 197 = .ok (.iastore, 1) := by decide +kernel
theorem dX11_order_198 : decode cX11_order 198 = .ok (.aload_n 0, 1) := by decide +kernel
theorem dX11_order_199 : decode cX11_order 199 = .ok (.getfield 7, 3) := by decide +kernel
theorem dX11_order_202 : decode cX11_order 202 = .ok (.bipush 13, 2) := by decide +kernel
theorem dX11_order_204 : decode cX11_order 204 = .ok (.iaload, 1) := by decide +kernel
theorem dX11_order_205 : decode cX11_order 205 = .ok (.iconst 1, 1) := by decide +kernel
theorem dX11_order_206 : decode cX11_order 206 = .ok (.isub, 1) := by decide +kernel
theorem dX11_order_207 : decode cX11_order 207 = .ok (.ireturn, 1) := by decide +kernel
theorem dX11_suits_0 : decode cX11_suits 0 = .ok (.aload_n 0, 1) := by decide +kernel
theorem dX11_suits_1 : decode cX11_suits 1 = .ok (.iload_n 1, 1) := by decide +kernel
theorem dX11_suits_2 : decode cX11_suits 2 = .ok (.iconst 0, 1) := by decide +kernel
theorem dX11_suits_3 : decode cX11_suits 3 = .ok (.invokevirtual 91, 3) := by decide +kernel
theorem dX11_suits_6 : decode cX11_suits 6 = .ok (.aload_n 0, 1) := by decide +kernel
theorem dX11_suits_7 : decode cX11_suits 7 = .ok (.iload_n 2, 1) := by decide +kernel
theorem dX11_suits_8 : decode cX11_suits 8 = .ok (.iconst 0, 1) := by decide +kernel
theorem dX11_suits_9 : decode cX11_suits 9 = .ok (.invokevirtual 109, 3) := by decide +kernel
theorem dX11_suits_12 : decode cX11_suits 12 = .ok (.if_icmp .ne 22, 3) := by decide +kernel
theorem dX11_suits_15 : decode cX11_suits 15 = .ok (.aload_n 0, 1) := by decide +kernel
theorem dX11_suits_16 : decode cX11_suits 16 = .ok (.iload_n 1, 1) := by decide +kernel
theorem dX11_suits_17 : decode cX11_suits 17 = .ok (.iconst 3, 1) := by decide +kernel
theorem dX11_suits_18 : decode cX11_suits 18 = .ok (.invokevirtual 91, 3) := by decide +kernel
theorem dX11_suits_21 : decode cX11_suits 21 = .ok (.aload_n 0, 1) := by decide +kernel
theorem dX11_suits_22 : decode cX11_suits 22 = .ok (.iload_n 2, 1) := by decide +kernel
theorem dX11_suits_23 : decode cX11_suits 23 = .ok (.iconst 2, 1) := by decide +kernel
theorem dX11_suits_24 : decode cX11_suits 24 = .ok (.invokevirtual 109, 3) := by decide +kernel
theorem dX11_suits_27 : decode cX11_suits 27 = .ok (.if_icmp .lt 7, 3) := by decide +kernel
theorem dX11_suits_30 : decode cX11_suits 30 = .ok (.iconst 1, 1) := by decide +kernel
theorem dX11_suits_31 : decode cX11_suits 31 = .ok (.goto 4, 3) := by decide +kernel
theorem dX11_suits_34 : decode cX11_suits 34 = .ok (.iconst 0, 1) := by decide +kernel
theorem dX11_suits_35 : decode cX11_suits 35 = .ok (.istore_n 3, 1) := by decide +kernel
theorem dX11_suits_36 : decode cX11_suits 36 = .ok (.iload_n 3, 1) := by decide +kernel
theorem dX11_suits_37 : decode cX11_suits 37 = .ok (.ifCond .eq 41, 3) := by decide +kernel
theorem dX11_suits_40 : decode cX11_suits 40 = .ok (.aload_n 0, 1) := by decide +kernel
theorem dX11_suits_41 : decode cX11_suits 41 = .ok (.iload_n 2, 1) := by decide +kernel
theorem dX11_suits_42 : decode cX11_suits 42 = .ok (.iconst 4, 1) := by decide +kernel
theorem dX11_suits_43 : decode cX11_suits 43 = .ok (.invokevirtual 109, 3) := by decide +kernel
theorem dX11_suits_46 : decode cX11_suits 46 = .ok (.iconst 1, 1) := by decide +kernel
theorem dX11_suits_47 : decode cX11_suits 47 = .ok (.if_icmp .eq 13, 3) := by decide +kernel
theorem dX11_suits_50 : decode cX11_suits 50 = .ok (.aload_n 0, 1) := by decide +kernel
theorem dX11_suits_51 : decode cX11_suits 51 = .ok (.iload_n 1, 1) := by decide +kernel
theorem dX11_suits_52 : decode cX11_suits 52 = .ok (.bipush 6, 2) := by decide +kernel
theorem dX11_suits_54 : decode cX11_suits 54 = .ok (.invokevirtual 91, 3) := by decide +kernel
theorem dX11_suits_57 : decode cX11_suits 57 = .ok (.ifCond .ne 21, 3) := by decide +kernel
theorem dX11_suits_60 : decode cX11_suits 60 = .ok (.aload_n 0, 1) := by decide +kernel
theorem dX11_suits_61 : decode cX11_suits 61 = .ok (.iload_n 1, 1) := by decide +kernel
theorem dX11_suits_62 : decode cX11_suits 62 = .ok (.invokevirtual 101, 3) := by decide +kernel
theorem dX11_suits_65 : decode cX11_suits 65 = .ok (.aload_n 0, 1) := by decide +kernel
theorem dX11_suits_66 : decode cX11_suits 66 = .ok (.iload_n 2, 1) := by decide +kernel
theorem dX11_suits_67 : decode cX11_suits 67 = .ok (.iconst 1, 1) := by decide +kernel
theorem dX11_suits_68 : decode cX11_suits 68 = .ok (.invokevirtual 109, 3) := by decide +kernel
theorem dX11_suits_71 : decode cX11_suits 71 = .ok (.if_icmp .lt 7, 3) := by decide +kernel
theorem dX11_suits_74 : decode cX11_suits 74 = .ok (.iconst 1, 1) := by decide +kernel
theorem dX11_suits_75 : decode cX11_suits 75 = .ok (.goto 4, 3) := by decide +kernel
theorem dX11_suits_78 : decode cX11_suits 78 = .ok (.iconst 0, 1) := by decide +kernel
theorem dX11_suits_79 : decode cX11_suits 79 = .ok (.ireturn, 1) := by decide +kernel
theorem dX11_bestPiece_0 : decode cX11_bestPiece 0 = .ok (.bipush (-6), 2) := by decide +kernel
theorem dX11_bestPiece_2 : decode cX11_bestPiece 2 = .ok (.istore_n 2, 1) := by decide +kernel
theorem dX11_bestPiece_3 : decode cX11_bestPiece 3 = .ok (.iconst 0, 1) := by decide +kernel
theorem dX11_bestPiece_4 : decode cX11_bestPiece 4 = .ok (.istore_n 3, 1) := by decide +kernel
theorem dX11_bestPiece_5 : decode cX11_bestPiece 5 = .ok (.iload_n 3, 1) := by decide +kernel
theorem dX11_bestPiece_6 : decode cX11_bestPiece 6 = .ok (.aload_n 0, 1) := by decide +kernel
theorem dX11_bestPiece_7 : decode cX11_bestPiece 7 = .ok (.getfield 7, 3) := by decide +kernel
theorem dX11_bestPiece_10 : decode cX11_bestPiece 10 = .ok (.bipush 12, 2) := by decide +kernel
theorem dX11_bestPiece_12 : decode cX11_bestPiece 12 = .ok (.iaload, 1) := by decide +kernel
theorem dX11_bestPiece_13 : decode cX11_bestPiece 13 = .ok (.if_icmp .ge 43, 3) := by decide +kernel
theorem dX11_bestPiece_16 : decode cX11_bestPiece 16 = .ok (.aload_n 0, 1) := by decide +kernel
theorem dX11_bestPiece_17 : decode cX11_bestPiece 17 = .ok (.iload_n 3, 1) := by decide +kernel
theorem dX11_bestPiece_18 : decode cX11_bestPiece 18 = .ok (.iload_n 1, 1) := by decide +kernel
theorem dX11_bestPiece_19 : decode cX11_bestPiece 19 = .ok (.invokevirtual 112, 3) := by decide +kernel
theorem dX11_bestPiece_22 : decode cX11_bestPiece 22 = .ok (.ifCond .eq 26, 3) := by decide +kernel
theorem dX11_bestPiece_25 : decode cX11_bestPiece 25 = .ok (.iload_n 2, 1) := by decide +kernel
theorem dX11_bestPiece_26 : decode cX11_bestPiece 26 = .ok (.ifCond .lt 18, 3) := by decide +kernel
theorem dX11_bestPiece_29 : decode cX11_bestPiece 29 = .ok (.aload_n 0, 1) := by decide +kernel
theorem dX11_bestPiece_30 : decode cX11_bestPiece 30 = .ok (.iload_n 3, 1) := by decide +kernel
theorem dX11_bestPiece_31 : decode cX11_bestPiece 31 = .ok (.iconst 3, 1) := by decide +kernel
theorem dX11_bestPiece_32 : decode cX11_bestPiece 32 = .ok (.invokevirtual 91, 3) := by decide +kernel
theorem dX11_bestPiece_35 : decode cX11_bestPiece 35 = .ok (.aload_n 0, 1) := by decide +kernel
theorem dX11_bestPiece_36 : decode cX11_bestPiece 36 = .ok (.iload_n 2, 1) := by decide +kernel
theorem dX11_bestPiece_37 : decode cX11_bestPiece 37 = .ok (.iconst 3, 1) := by decide +kernel
theorem dX11_bestPiece_38 : decode cX11_bestPiece 38 = .ok (.invokevirtual 91, 3) := by decide +kernel
theorem dX11_bestPiece_41 : decode cX11_bestPiece 41 = .ok (.if_icmp .ge 7, 3) := by decide +kernel
theorem dX11_bestPiece_44 : decode cX11_bestPiece 44 = .ok (.iload_n 3, 1) := by decide +kernel
theorem dX11_bestPiece_45 : decode cX11_bestPiece 45 = .ok (.goto 4, 3) := by decide +kernel
theorem dX11_bestPiece_48 : decode cX11_bestPiece 48 = .ok (.iload_n 2, 1) := by decide +kernel
theorem dX11_bestPiece_49 : decode cX11_bestPiece 49 = .ok (.istore_n 2, 1) := by decide +kernel
theorem dX11_bestPiece_50 : decode cX11_bestPiece 50 = .ok (.iinc 3 1, 3) := by decide +kernel
theorem dX11_bestPiece_53 : decode cX11_bestPiece 53 = .ok (.goto (-48), 3) := by decide +kernel
theorem dX11_bestPiece_56 : decode cX11_bestPiece 56 = .ok (.iload_n 2, 1) := by decide +kernel
theorem dX11_bestPiece_57 : decode cX11_bestPiece 57 = .ok (.ireturn, 1) := by decide +kernel
theorem dX11_cutFor_0 : decode cX11_cutFor 0 = .ok (.sipush 220, 3) := by decide +kernel
theorem dX11_cutFor_3 : decode cX11_cutFor 3 = .ok (.bipush 7, 2) := by decide +kernel
theorem dX11_cutFor_5 : decode cX11_cutFor 5 = .ok (.iload_n 1, 1) := by decide +kernel
theorem dX11_cutFor_6 : decode cX11_cutFor 6 = .ok (.imul, 1) := by decide +kernel
theorem dX11_cutFor_7 : decode cX11_cutFor 7 = .ok (.iadd, 1) := by decide +kernel
theorem dX11_cutFor_8 : decode cX11_cutFor 8 = .ok (.istore_n 2, 1) := by decide +kernel
theorem dX11_cutFor_9 : decode cX11_cutFor 9 = .ok (.iconst 0, 1) := by decide +kernel
theorem dX11_cutFor_10 : decode cX11_cutFor 10 = .ok (.istore_n 3, 1) := by decide +kernel
theorem dX11_cutFor_11 : decode cX11_cutFor 11 = .ok (.aload_n 0, 1) := by decide +kernel
theorem dX11_cutFor_12 : decode cX11_cutFor 12 = .ok (.iload_n 1, 1) := by decide +kernel
theorem dX11_cutFor_13 : decode cX11_cutFor 13 = .ok (.invokevirtual 115, 3) := by decide +kernel
theorem dX11_cutFor_16 : decode cX11_cutFor 16 = .ok (.istore 4, 2) := by decide +kernel
theorem dX11_cutFor_18 : decode cX11_cutFor 18 = .ok (.iload 4, 2) := by decide +kernel
theorem dX11_cutFor_20 : decode cX11_cutFor 20 = .ok (.ifCond .lt 104, 3) := by decide +kernel
theorem dX11_cutFor_23 : decode cX11_cutFor 23 = .ok (.aload_n 0, 1) := by decide +kernel
theorem dX11_cutFor_24 : decode cX11_cutFor 24 = .ok (.getfield 7, 3) := by decide +kernel
theorem dX11_cutFor_27 : decode cX11_cutFor 27 = .ok (.iload_n 2, 1) := by decide +kernel
theorem dX11_cutFor_28 : decode cX11_cutFor 28 = .ok (.iconst 3, 1) := by decide +kernel
theorem dX11_cutFor_29 : decode cX11_cutFor 29 = .ok (.iadd, 1) := by decide +kernel
theorem dX11_cutFor_30 : decode cX11_cutFor 30 = .ok (.iaload, 1) := by decide +kernel
theorem dX11_cutFor_31 : decode cX11_cutFor 31 = .ok (.ifCond .le 93, 3) := by decide +kernel
theorem dX11_cutFor_34 : decode cX11_cutFor 34 = .ok (.aload_n 0, 1) := by decide +kernel
theorem dX11_cutFor_35 : decode cX11_cutFor 35 = .ok (.getfield 7, 3) := by decide +kernel
theorem dX11_cutFor_38 : decode cX11_cutFor 38 = .ok (.bipush 30, 2) := by decide +kernel
theorem dX11_cutFor_40 : decode cX11_cutFor 40 = .ok (.iconst 4, 1) := by decide +kernel
theorem dX11_cutFor_41 : decode cX11_cutFor 41 = .ok (.aload_n 0, 1) := by decide +kernel
theorem dX11_cutFor_42 : decode cX11_cutFor 42 = .ok (.getfield 7, 3) := by decide +kernel
theorem dX11_cutFor_45 : decode cX11_cutFor 45 = .ok (.iload_n 2, 1) := by decide +kernel
theorem dX11_cutFor_46 : decode cX11_cutFor 46 = .ok (.iaload, 1) := by decide +kernel
theorem dX11_cutFor_47 : decode cX11_cutFor 47 = .ok (.imul, 1) := by decide +kernel
theorem dX11_cutFor_48 : decode cX11_cutFor 48 = .ok (.iadd, 1) := by decide +kernel
theorem dX11_cutFor_49 : decode cX11_cutFor 49 = .ok (.iconst 1, 1) := by decide +kernel
theorem dX11_cutFor_50 : decode cX11_cutFor 50 = .ok (.iadd, 1) := by decide +kernel
theorem dX11_cutFor_51 : decode cX11_cutFor 51 = .ok (.dup2, 1) := by decide +kernel
theorem dX11_cutFor_52 : decode cX11_cutFor 52 = .ok (.iaload, 1) := by decide +kernel
theorem dX11_cutFor_53 : decode cX11_cutFor 53 = .ok (.aload_n 0, 1) := by decide +kernel
theorem dX11_cutFor_54 : decode cX11_cutFor 54 = .ok (.iload 4, 2) := by decide +kernel
theorem dX11_cutFor_56 : decode cX11_cutFor 56 = .ok (.aload_n 0, 1) := by decide +kernel
theorem dX11_cutFor_57 : decode cX11_cutFor 57 = .ok (.getfield 7, 3) := by decide +kernel
theorem dX11_cutFor_60 : decode cX11_cutFor 60 = .ok (.iload_n 2, 1) := by decide +kernel
theorem dX11_cutFor_61 : decode cX11_cutFor 61 = .ok (.iconst 2, 1) := by decide +kernel
theorem dX11_cutFor_62 : decode cX11_cutFor 62 = .ok (.iadd, 1) := by decide +kernel
theorem dX11_cutFor_63 : decode cX11_cutFor 63 = .ok (.iaload, 1) := by decide +kernel
theorem dX11_cutFor_64 : decode cX11_cutFor 64 = .ok (.invokevirtual 104, 3) := by decide +kernel
theorem dX11_cutFor_67 : decode cX11_cutFor 67 = .ok (.iadd, 1) := by decide +kernel
theorem dX11_cutFor_68 : decode cX11_cutFor 68 = .ok (.iastore, 1) := by decide +kernel
theorem dX11_cutFor_69 : decode cX11_cutFor 69 = .ok (.aload_n 0, 1) := by decide +kernel
theorem dX11_cutFor_70 : decode cX11_cutFor 70 = .ok (.getfield 7, 3) := by decide +kernel
theorem dX11_cutFor_73 : decode cX11_cutFor 73 = .ok (.iload_n 2, 1) := by decide +kernel
theorem dX11_cutFor_74 : decode cX11_cutFor 74 = .ok (.iconst 3, 1) := by decide +kernel
theorem dX11_cutFor_75 : decode cX11_cutFor 75 = .ok (.iadd, 1) := by decide +kernel
theorem dX11_cutFor_76 : decode cX11_cutFor 76 = .ok (.dup2, 1) := by decide +kernel
theorem dX11_cutFor_77 : decode cX11_cutFor 77 = .ok (.iaload, 1) := by decide +kernel
theorem dX11_cutFor_78 : decode cX11_cutFor 78 = .ok (.iconst 1, 1) := by decide +kernel
theorem dX11_cutFor_79 : decode cX11_cutFor 79 = .ok (.isub, 1) := by decide +kernel
theorem dX11_cutFor_80 : decode cX11_cutFor 80 = .ok (.iastore, 1) := by decide +kernel
theorem dX11_cutFor_81 : decode cX11_cutFor 81 = .ok (.aload_n 0, 1) := by decide +kernel
theorem dX11_cutFor_82 : decode cX11_cutFor 82 = .ok (.getfield 7, 3) := by decide +kernel
theorem dX11_cutFor_85 : decode cX11_cutFor 85 = .ok (.bipush 14, 2) := by decide +kernel
theorem dX11_cutFor_87 : decode cX11_cutFor 87 = .ok (.dup2, 1) := by decide +kernel
theorem dX11_cutFor_88 : decode cX11_cutFor 88 = .ok (.iaload, 1) := by decide +kernel
theorem dX11_cutFor_89 : decode cX11_cutFor 89 = .ok (.iconst 1, 1) := by decide +kernel
theorem dX11_cutFor_90 : decode cX11_cutFor 90 = .ok (.iadd, 1) := by decide +kernel
theorem dX11_cutFor_91 : decode cX11_cutFor 91 = .ok (.iastore, 1) := by decide +kernel
theorem dX11_cutFor_92 : decode cX11_cutFor 92 = .ok (.aload_n 0, 1) := by decide +kernel
theorem dX11_cutFor_93 : decode cX11_cutFor 93 = .ok (.getfield 7, 3) := by decide +kernel
theorem dX11_cutFor_96 : decode cX11_cutFor 96 = .ok (.bipush 15, 2) := by decide +kernel
theorem dX11_cutFor_98 : decode cX11_cutFor 98 = .ok (.dup2, 1) := by decide +kernel
theorem dX11_cutFor_99 : decode cX11_cutFor 99 = .ok (.iaload, 1) := by decide +kernel
theorem dX11_cutFor_100 : decode cX11_cutFor 100 = .ok (.aload_n 0, 1) := by decide +kernel
theorem dX11_cutFor_101 : decode cX11_cutFor 101 = .ok (.getfield 7, 3) := by decide +kernel
theorem dX11_cutFor_104 : decode cX11_cutFor 104 = .ok (.iload_n 2, 1) := by decide +kernel
theorem dX11_cutFor_105 : decode cX11_cutFor 105 = .ok (.bipush 6, 2) := by decide +kernel
theorem dX11_cutFor_107 : decode cX11_cutFor 107 = .ok (.iadd, 1) := by decide +kernel
theorem dX11_cutFor_108 : decode cX11_cutFor 108 = .ok (.iaload, 1) := by decide +kernel
theorem dX11_cutFor_109 : decode cX11_cutFor 109 = .ok (.iadd, 1) := by decide +kernel
theorem dX11_cutFor_110 : decode cX11_cutFor 110 = .ok (.iastore, 1) := by decide +kernel
theorem dX11_cutFor_111 : decode cX11_cutFor 111 = .ok (.iinc 3 1, 3) := by decide +kernel
theorem dX11_cutFor_114 : decode cX11_cutFor 114 = .ok (.aload_n 0, 1) := by decide +kernel
theorem dX11_cutFor_115 : decode cX11_cutFor 115 = .ok (.iload_n 1, 1) := by decide +kernel
theorem dX11_cutFor_116 : decode cX11_cutFor 116 = .ok (.invokevirtual 115, 3) := by decide +kernel
theorem dX11_cutFor_119 : decode cX11_cutFor 119 = .ok (.istore 4, 2) := by decide +kernel
theorem dX11_cutFor_121 : decode cX11_cutFor 121 = .ok (.goto (-103), 3) := by decide +kernel
theorem dX11_cutFor_124 : decode cX11_cutFor 124 = .ok (.iload_n 3, 1) := by decide +kernel
theorem dX11_cutFor_125 : decode cX11_cutFor 125 = .ok (.ireturn, 1) := by decide +kernel
theorem dX11_fill_0 : decode cX11_fill 0 = .ok (.aload_n 0, 1) := by decide +kernel
theorem dX11_fill_1 : decode cX11_fill 1 = .ok (.iload_n 1, 1) := by decide +kernel
theorem dX11_fill_2 : decode cX11_fill 2 = .ok (.invokevirtual 118, 3) := by decide +kernel
theorem dX11_fill_5 : decode cX11_fill 5 = .ok (.ifCond .ne 5, 3) := by decide +kernel
theorem dX11_fill_8 : decode cX11_fill 8 = .ok (.iconst (-1), 1) := by decide +kernel
theorem dX11_fill_9 : decode cX11_fill 9 = .ok (.ireturn, 1) := by decide +kernel
theorem dX11_fill_10 : decode cX11_fill 10 = .ok (.aload_n 0, 1) := by decide +kernel
theorem dX11_fill_11 : decode cX11_fill 11 = .ok (.iload_n 1, 1) := by decide +kernel
theorem dX11_fill_12 : decode cX11_fill 12 = .ok (.invokevirtual 115, 3) := by decide +kernel
theorem dX11_fill_15 : decode cX11_fill 15 = .ok (.ifCond .ge 6, 3) := by decide +kernel
theorem dX11_fill_18 : decode cX11_fill 18 = .ok (.bipush (-5), 2) := by decide +kernel
theorem dX11_fill_20 : decode cX11_fill 20 = .ok (.ireturn, 1) := by decide +kernel
theorem dX11_fill_21 : decode cX11_fill 21 = .ok (.aload_n 0, 1) := by decide +kernel
theorem dX11_fill_22 : decode cX11_fill 22 = .ok (.invokevirtual 54, 3) := by decide +kernel
theorem dX11_fill_25 : decode cX11_fill 25 = .ok (.aload_n 0, 1) := by decide +kernel
theorem dX11_fill_26 : decode cX11_fill 26 = .ok (.iload_n 1, 1) := by decide +kernel
theorem dX11_fill_27 : decode cX11_fill 27 = .ok (.invokevirtual 121, 3) := by decide +kernel
theorem dX11_fill_30 : decode cX11_fill 30 = .ok (.istore_n 2, 1) := by decide +kernel
theorem dX11_fill_31 : decode cX11_fill 31 = .ok (.aload_n 0, 1) := by decide +kernel
theorem dX11_fill_32 : decode cX11_fill 32 = .ok (.iload_n 1, 1) := by decide +kernel
theorem dX11_fill_33 : decode cX11_fill 33 = .ok (.iconst 3, 1) := by decide +kernel
theorem dX11_fill_34 : decode cX11_fill 34 = .ok (.invokevirtual 109, 3) := by decide +kernel
theorem dX11_fill_37 : decode cX11_fill 37 = .ok (.ifCond .ne 8, 3) := by decide +kernel
theorem dX11_fill_40 : decode cX11_fill 40 = .ok (.aload_n 0, 1) := by decide +kernel
theorem dX11_fill_41 : decode cX11_fill 41 = .ok (.iload_n 1, 1) := by decide +kernel
theorem dX11_fill_42 : decode cX11_fill 42 = .ok (.invokevirtual 124, 3) := by decide +kernel
theorem dX11_fill_45 : decode cX11_fill 45 = .ok (.iload_n 2, 1) := by decide +kernel
theorem dX11_fill_46 : decode cX11_fill 46 = .ok (.ireturn, 1) := by decide +kernel
theorem dX11_drop_0 : decode cX11_drop 0 = .ok (.aload_n 0, 1) := by decide +kernel
theorem dX11_drop_1 : decode cX11_drop 1 = .ok (.iload_n 1, 1) := by decide +kernel
theorem dX11_drop_2 : decode cX11_drop 2 = .ok (.invokevirtual 118, 3) := by decide +kernel
theorem dX11_drop_5 : decode cX11_drop 5 = .ok (.ifCond .ne 5, 3) := by decide +kernel
theorem dX11_drop_8 : decode cX11_drop 8 = .ok (.iconst (-1), 1) := by decide +kernel
theorem dX11_drop_9 : decode cX11_drop 9 = .ok (.ireturn, 1) := by decide +kernel
theorem dX11_drop_10 : decode cX11_drop 10 = .ok (.aload_n 0, 1) := by decide +kernel
theorem dX11_drop_11 : decode cX11_drop 11 = .ok (.invokevirtual 54, 3) := by decide +kernel
theorem dX11_drop_14 : decode cX11_drop 14 = .ok (.aload_n 0, 1) := by decide +kernel
theorem dX11_drop_15 : decode cX11_drop 15 = .ok (.getfield 7, 3) := by decide +kernel
theorem dX11_drop_18 : decode cX11_drop 18 = .ok (.bipush 9, 2) := by decide +kernel
theorem dX11_drop_20 : decode cX11_drop 20 = .ok (.iaload, 1) := by decide +kernel
theorem dX11_drop_21 : decode cX11_drop 21 = .ok (.aload_n 0, 1) := by decide +kernel
theorem dX11_drop_22 : decode cX11_drop 22 = .ok (.iload_n 1, 1) := by decide +kernel
theorem dX11_drop_23 : decode cX11_drop 23 = .ok (.iconst 3, 1) := by decide +kernel
theorem dX11_drop_24 : decode cX11_drop 24 = .ok (.invokevirtual 109, 3) := by decide +kernel
theorem dX11_drop_27 : decode cX11_drop 27 = .ok (.imul, 1) := by decide +kernel
theorem dX11_drop_28 : decode cX11_drop 28 = .ok (.istore_n 2, 1) := by decide +kernel
theorem dX11_drop_29 : decode cX11_drop 29 = .ok (.aload_n 0, 1) := by decide +kernel
theorem dX11_drop_30 : decode cX11_drop 30 = .ok (.getfield 7, 3) := by decide +kernel
theorem dX11_drop_33 : decode cX11_drop 33 = .ok (.bipush 16, 2) := by decide +kernel
theorem dX11_drop_35 : decode cX11_drop 35 = .ok (.dup2, 1) := by decide +kernel
theorem dX11_drop_36 : decode cX11_drop 36 = .ok (.iaload, 1) := by decide +kernel
theorem dX11_drop_37 : decode cX11_drop 37 = .ok (.iload_n 2, 1) := by decide +kernel
theorem dX11_drop_38 : decode cX11_drop 38 = .ok (.iadd, 1) := by decide +kernel
theorem dX11_drop_39 : decode cX11_drop 39 = .ok (.iastore, 1) := by decide +kernel
theorem dX11_drop_40 : decode cX11_drop 40 = .ok (.aload_n 0, 1) := by decide +kernel
theorem dX11_drop_41 : decode cX11_drop 41 = .ok (.iload_n 1, 1) := by decide +kernel
theorem dX11_drop_42 : decode cX11_drop 42 = .ok (.invokevirtual 124, 3) := by decide +kernel
theorem dX11_drop_45 : decode cX11_drop 45 = .ok (.iload_n 2, 1) := by decide +kernel
theorem dX11_drop_46 : decode cX11_drop 46 = .ok (.ireturn, 1) := by decide +kernel
theorem dX11_pass_0 : decode cX11_pass 0 = .ok (.iload_n 1, 1) := by decide +kernel
theorem dX11_pass_1 : decode cX11_pass 1 = .ok (.iconst 1, 1) := by decide +kernel
theorem dX11_pass_2 : decode cX11_pass 2 = .ok (.bipush 60, 2) := by decide +kernel
theorem dX11_pass_4 : decode cX11_pass 4 = .ok (.invokestatic 43, 3) := by decide +kernel
theorem dX11_pass_7 : decode cX11_pass 7 = .ok (.ifCond .ne 6, 3) := by decide +kernel
theorem dX11_pass_10 : decode cX11_pass 10 = .ok (.bipush (-2), 2) := by decide +kernel
theorem dX11_pass_12 : decode cX11_pass 12 = .ok (.ireturn, 1) := by decide +kernel
theorem dX11_pass_13 : decode cX11_pass 13 = .ok (.aload_n 0, 1) := by decide +kernel
theorem dX11_pass_14 : decode cX11_pass 14 = .ok (.getfield 7, 3) := by decide +kernel
theorem dX11_pass_17 : decode cX11_pass 17 = .ok (.bipush 10, 2) := by decide +kernel
theorem dX11_pass_19 : decode cX11_pass 19 = .ok (.iaload, 1) := by decide +kernel
theorem dX11_pass_20 : decode cX11_pass 20 = .ok (.iload_n 1, 1) := by decide +kernel
theorem dX11_pass_21 : decode cX11_pass 21 = .ok (.iadd, 1) := by decide +kernel
theorem dX11_pass_22 : decode cX11_pass 22 = .ok (.sipush 3000, 3) := by decide +kernel
theorem dX11_pass_25 : decode cX11_pass 25 = .ok (.if_icmp .le 6, 3) := by decide +kernel
theorem dX11_pass_28 : decode cX11_pass 28 = .ok (.bipush (-5), 2) := by decide +kernel
theorem dX11_pass_30 : decode cX11_pass 30 = .ok (.ireturn, 1) := by decide +kernel
theorem dX11_pass_31 : decode cX11_pass 31 = .ok (.aload_n 0, 1) := by decide +kernel
theorem dX11_pass_32 : decode cX11_pass 32 = .ok (.invokevirtual 54, 3) := by decide +kernel
theorem dX11_pass_35 : decode cX11_pass 35 = .ok (.aload_n 0, 1) := by decide +kernel
theorem dX11_pass_36 : decode cX11_pass 36 = .ok (.getfield 7, 3) := by decide +kernel
theorem dX11_pass_39 : decode cX11_pass 39 = .ok (.bipush 16, 2) := by decide +kernel
theorem dX11_pass_41 : decode cX11_pass 41 = .ok (.dup2, 1) := by decide +kernel
theorem dX11_pass_42 : decode cX11_pass 42 = .ok (.iaload, 1) := by decide +kernel
theorem dX11_pass_43 : decode cX11_pass 43 = .ok (.aload_n 0, 1) := by decide +kernel
theorem dX11_pass_44 : decode cX11_pass 44 = .ok (.iload_n 1, 1) := by decide +kernel
theorem dX11_pass_45 : decode cX11_pass 45 = .ok (.invokevirtual 127, 3) := by decide +kernel
theorem dX11_pass_48 : decode cX11_pass 48 = .ok (.iadd, 1) := by decide +kernel
theorem dX11_pass_49 : decode cX11_pass 49 = .ok (.iastore, 1) := by decide +kernel
theorem dX11_pass_50 : decode cX11_pass 50 = .ok (.aload_n 0, 1) := by decide +kernel
theorem dX11_pass_51 : decode cX11_pass 51 = .ok (.getfield 7, 3) := by decide +kernel
theorem dX11_pass_54 : decode cX11_pass 54 = .ok (.bipush 10, 2) := by decide +kernel
theorem dX11_pass_56 : decode cX11_pass 56 = .ok (.dup2, 1) := by decide +kernel
theorem dX11_pass_57 : decode cX11_pass 57 = .ok (.iaload, 1) := by decide +kernel
theorem dX11_pass_58 : decode cX11_pass 58 = .ok (.iload_n 1, 1) := by decide +kernel
theorem dX11_pass_59 : decode cX11_pass 59 = .ok (.iadd, 1) := by decide +kernel
theorem dX11_pass_60 : decode cX11_pass 60 = .ok (.iastore, 1) := by decide +kernel
theorem dX11_pass_61 : decode cX11_pass 61 = .ok (.aload_n 0, 1) := by decide +kernel
theorem dX11_pass_62 : decode cX11_pass 62 = .ok (.getfield 7, 3) := by decide +kernel
theorem dX11_pass_65 : decode cX11_pass 65 = .ok (.bipush 11, 2) := by decide +kernel
theorem dX11_pass_67 : decode cX11_pass 67 = .ok (.iconst 0, 1) := by decide +kernel
theorem dX11_pass_68 : decode cX11_pass 68 = .ok (.iastore, 1) := by decide +kernel
theorem dX11_pass_69 : decode cX11_pass 69 = .ok (.aload_n 0, 1) := by decide +kernel
theorem dX11_pass_70 : decode cX11_pass 70 = .ok (.getfield 7, 3) := by decide +kernel
theorem dX11_pass_73 : decode cX11_pass 73 = .ok (.bipush 10, 2) := by decide +kernel
theorem dX11_pass_75 : decode cX11_pass 75 = .ok (.iaload, 1) := by decide +kernel
theorem dX11_pass_76 : decode cX11_pass 76 = .ok (.ireturn, 1) := by decide +kernel
theorem dX11_finesOf_0 : decode cX11_finesOf 0 = .ok (.iconst 0, 1) := by decide +kernel
theorem dX11_finesOf_1 : decode cX11_finesOf 1 = .ok (.istore_n 2, 1) := by decide +kernel
theorem dX11_finesOf_2 : decode cX11_finesOf 2 = .ok (.iconst 0, 1) := by decide +kernel
theorem dX11_finesOf_3 : decode cX11_finesOf 3 = .ok (.istore_n 3, 1) := by decide +kernel
theorem dX11_finesOf_4 : decode cX11_finesOf 4 = .ok (.iload_n 3, 1) := by decide +kernel
theorem dX11_finesOf_5 : decode cX11_finesOf 5 = .ok (.aload_n 0, 1) := by decide +kernel
theorem dX11_finesOf_6 : decode cX11_finesOf 6 = .ok (.getfield 7, 3) := by decide +kernel
theorem dX11_finesOf_9 : decode cX11_finesOf 9 = .ok (.bipush 13, 2) := by decide +kernel
theorem dX11_finesOf_11 : decode cX11_finesOf 11 = .ok (.iaload, 1) := by decide +kernel
theorem dX11_finesOf_12 : decode cX11_finesOf 12 = .ok (.if_icmp .ge 70, 3) := by decide +kernel
theorem dX11_finesOf_15 : decode cX11_finesOf 15 = .ok (.aload_n 0, 1) := by decide +kernel
theorem dX11_finesOf_16 : decode cX11_finesOf 16 = .ok (.getfield 7, 3) := by decide +kernel
theorem dX11_finesOf_19 : decode cX11_finesOf 19 = .ok (.bipush 10, 2) := by decide +kernel
theorem dX11_finesOf_21 : decode cX11_finesOf 21 = .ok (.iaload, 1) := by decide +kernel
theorem dX11_finesOf_22 : decode cX11_finesOf 22 = .ok (.istore 4, 2) := by decide +kernel
theorem dX11_finesOf_24 : decode cX11_finesOf 24 = .ok (.iload 4, 2) := by decide +kernel
theorem dX11_finesOf_26 : decode cX11_finesOf 26 = .ok (.aload_n 0, 1) := by decide +kernel
theorem dX11_finesOf_27 : decode cX11_finesOf 27 = .ok (.getfield 7, 3) := by decide +kernel
theorem dX11_finesOf_30 : decode cX11_finesOf 30 = .ok (.bipush 10, 2) := by decide +kernel
theorem dX11_finesOf_32 : decode cX11_finesOf 32 = .ok (.iaload, 1) := by decide +kernel
theorem dX11_finesOf_33 : decode cX11_finesOf 33 = .ok (.iload_n 1, 1) := by decide +kernel
theorem dX11_finesOf_34 : decode cX11_finesOf 34 = .ok (.iadd, 1) := by decide +kernel
theorem dX11_finesOf_35 : decode cX11_finesOf 35 = .ok (.if_icmp .ge 41, 3) := by decide +kernel
theorem dX11_finesOf_38 : decode cX11_finesOf 38 = .ok (.iload_n 2, 1) := by decide +kernel
theorem dX11_finesOf_39 : decode cX11_finesOf 39 = .ok (.aload_n 0, 1) := by decide +kernel
theorem dX11_finesOf_40 : decode cX11_finesOf 40 = .ok (.iload_n 3, 1) := by decide +kernel
theorem dX11_finesOf_41 : decode cX11_finesOf 41 = .ok (.iconst 5, 1) := by decide +kernel
theorem dX11_finesOf_42 : decode cX11_finesOf 42 = .ok (.invokevirtual 109, 3) := by decide +kernel
theorem dX11_finesOf_45 : decode cX11_finesOf 45 = .ok (.iload 4, 2) := by decide +kernel
theorem dX11_finesOf_47 : decode cX11_finesOf 47 = .ok (.if_icmp .gt 20, 3) := by decide +kernel
theorem dX11_finesOf_50 : decode cX11_finesOf 50 = .ok (.aload_n 0, 1) := by decide +kernel
theorem dX11_finesOf_51 : decode cX11_finesOf 51 = .ok (.getfield 7, 3) := by decide +kernel
theorem dX11_finesOf_54 : decode cX11_finesOf 54 = .ok (.bipush 9, 2) := by decide +kernel
theorem dX11_finesOf_56 : decode cX11_finesOf 56 = .ok (.iaload, 1) := by decide +kernel
theorem dX11_finesOf_57 : decode cX11_finesOf 57 = .ok (.aload_n 0, 1) := by decide +kernel
theorem dX11_finesOf_58 : decode cX11_finesOf 58 = .ok (.iload_n 3, 1) := by decide +kernel
theorem dX11_finesOf_59 : decode cX11_finesOf 59 = .ok (.iconst 3, 1) := by decide +kernel
theorem dX11_finesOf_60 : decode cX11_finesOf 60 = .ok (.invokevirtual 109, 3) := by decide +kernel
theorem dX11_finesOf_63 : decode cX11_finesOf 63 = .ok (.imul, 1) := by decide +kernel
theorem dX11_finesOf_64 : decode cX11_finesOf 64 = .ok (.goto 4, 3) := by decide +kernel
theorem dX11_finesOf_67 : decode cX11_finesOf 67 = .ok (.iconst 0, 1) := by decide +kernel
theorem dX11_finesOf_68 : decode cX11_finesOf 68 = .ok (.iadd, 1) := by decide +kernel
theorem dX11_finesOf_69 : decode cX11_finesOf 69 = .ok (.istore_n 2, 1) := by decide +kernel
theorem dX11_finesOf_70 : decode cX11_finesOf 70 = .ok (.iinc 4 1, 3) := by decide +kernel
theorem dX11_finesOf_73 : decode cX11_finesOf 73 = .ok (.goto (-49), 3) := by decide +kernel
theorem dX11_finesOf_76 : decode cX11_finesOf 76 = .ok (.iinc 3 1, 3) := by decide +kernel
theorem dX11_finesOf_79 : decode cX11_finesOf 79 = .ok (.goto (-75), 3) := by decide +kernel
theorem dX11_finesOf_82 : decode cX11_finesOf 82 = .ok (.iload_n 2, 1) := by decide +kernel
theorem dX11_finesOf_83 : decode cX11_finesOf 83 = .ok (.ireturn, 1) := by decide +kernel
theorem dX11_piece_0 : decode cX11_piece 0 = .ok (.aload_n 0, 1) := by decide +kernel
theorem dX11_piece_1 : decode cX11_piece 1 = .ok (.iload_n 1, 1) := by decide +kernel
theorem dX11_piece_2 : decode cX11_piece 2 = .ok (.invokevirtual 98, 3) := by decide +kernel
theorem dX11_piece_5 : decode cX11_piece 5 = .ok (.ifCond .ne 5, 3) := by decide +kernel
theorem dX11_piece_8 : decode cX11_piece 8 = .ok (.iconst (-1), 1) := by decide +kernel
theorem dX11_piece_9 : decode cX11_piece 9 = .ok (.ireturn, 1) := by decide +kernel
theorem dX11_piece_10 : decode cX11_piece 10 = .ok (.iload_n 2, 1) := by decide +kernel
theorem dX11_piece_11 : decode cX11_piece 11 = .ok (.iconst 0, 1) := by decide +kernel
theorem dX11_piece_12 : decode cX11_piece 12 = .ok (.bipush 6, 2) := by decide +kernel
theorem dX11_piece_14 : decode cX11_piece 14 = .ok (.invokestatic 43, 3) := by decide +kernel
theorem dX11_piece_17 : decode cX11_piece 17 = .ok (.ifCond .eq 12, 3) := by decide +kernel
theorem dX11_piece_20 : decode cX11_piece 20 = .ok (.aload_n 0, 1) := by decide +kernel
theorem dX11_piece_21 : decode cX11_piece 21 = .ok (.iload_n 1, 1) := by decide +kernel
theorem dX11_piece_22 : decode cX11_piece 22 = .ok (.iload_n 2, 1) := by decide +kernel
theorem dX11_piece_23 : decode cX11_piece 23 = .ok (.invokevirtual 91, 3) := by decide +kernel
theorem dX11_piece_26 : decode cX11_piece 26 = .ok (.goto 19, 3) := by decide +kernel
theorem dX11_piece_29 : decode cX11_piece 29 = .ok (.iload_n 2, 1) := by decide +kernel
theorem dX11_piece_30 : decode cX11_piece 30 = .ok (.bipush 7, 2) := by decide +kernel
theorem dX11_piece_32 : decode cX11_piece 32 = .ok (.if_icmp .ne 11, 3) := by decide +kernel
theorem dX11_piece_35 : decode cX11_piece 35 = .ok (.aload_n 0, 1) := by decide +kernel
theorem dX11_piece_36 : decode cX11_piece 36 = .ok (.iload_n 1, 1) := by decide +kernel
theorem dX11_piece_37 : decode cX11_piece 37 = .ok (.invokevirtual 101, 3) := by decide +kernel
theorem dX11_piece_40 : decode cX11_piece 40 = .ok (.goto 5, 3) := by decide +kernel
theorem dX11_piece_43 : decode cX11_piece 43 = .ok (.bipush (-2), 2) := by decide +kernel
theorem dX11_piece_45 : decode cX11_piece 45 = .ok (.ireturn, 1) := by decide +kernel
theorem dX11_suiting_0 : decode cX11_suiting 0 = .ok (.iconst 0, 1) := by decide +kernel
theorem dX11_suiting_1 : decode cX11_suiting 1 = .ok (.istore_n 2, 1) := by decide +kernel
theorem dX11_suiting_2 : decode cX11_suiting 2 = .ok (.iconst 0, 1) := by decide +kernel
theorem dX11_suiting_3 : decode cX11_suiting 3 = .ok (.istore_n 3, 1) := by decide +kernel
theorem dX11_suiting_4 : decode cX11_suiting 4 = .ok (.iload_n 3, 1) := by decide +kernel
theorem dX11_suiting_5 : decode cX11_suiting 5 = .ok (.aload_n 0, 1) := by decide +kernel
theorem dX11_suiting_6 : decode cX11_suiting 6 = .ok (.getfield 7, 3) := by decide +kernel
theorem dX11_suiting_9 : decode cX11_suiting 9 = .ok (.bipush 12, 2) := by decide +kernel
theorem dX11_suiting_11 : decode cX11_suiting 11 = .ok (.iaload, 1) := by decide +kernel
theorem dX11_suiting_12 : decode cX11_suiting 12 = .ok (.if_icmp .ge 26, 3) := by decide +kernel
theorem dX11_suiting_15 : decode cX11_suiting 15 = .ok (.iload_n 2, 1) := by decide +kernel
theorem dX11_suiting_16 : decode cX11_suiting 16 = .ok (.aload_n 0, 1) := by decide +kernel
theorem dX11_suiting_17 : decode cX11_suiting 17 = .ok (.iload_n 3, 1) := by decide +kernel
theorem dX11_suiting_18 : decode cX11_suiting 18 = .ok (.iload_n 1, 1) := by decide +kernel
theorem dX11_suiting_19 : decode cX11_suiting 19 = .ok (.invokevirtual 112, 3) := by decide +kernel
theorem dX11_suiting_22 : decode cX11_suiting 22 = .ok (.ifCond .eq 7, 3) := by decide +kernel
theorem dX11_suiting_25 : decode cX11_suiting 25 = .ok (.iconst 1, 1) := by decide +kernel
theorem dX11_suiting_26 : decode cX11_suiting 26 = .ok (.goto 4, 3) := by decide +kernel
theorem dX11_suiting_29 : decode cX11_suiting 29 = .ok (.iconst 0, 1) := by decide +kernel
theorem dX11_suiting_30 : decode cX11_suiting 30 = .ok (.iadd, 1) := by decide +kernel
theorem dX11_suiting_31 : decode cX11_suiting 31 = .ok (.istore_n 2, 1) := by decide +kernel
theorem dX11_suiting_32 : decode cX11_suiting 32 = .ok (.iinc 3 1, 3) := by decide +kernel
theorem dX11_suiting_35 : decode cX11_suiting 35 = .ok (.goto (-31), 3) := by decide +kernel
theorem dX11_suiting_38 : decode cX11_suiting 38 = .ok (.iload_n 2, 1) := by decide +kernel
theorem dX11_suiting_39 : decode cX11_suiting 39 = .ok (.ireturn, 1) := by decide +kernel
theorem dX11_ofOrder_0 : decode cX11_ofOrder 0 = .ok (.aload_n 0, 1) := by decide +kernel
theorem dX11_ofOrder_1 : decode cX11_ofOrder 1 = .ok (.iload_n 1, 1) := by decide +kernel
theorem dX11_ofOrder_2 : decode cX11_ofOrder 2 = .ok (.invokevirtual 118, 3) := by decide +kernel
theorem dX11_ofOrder_5 : decode cX11_ofOrder 5 = .ok (.ifCond .ne 5, 3) := by decide +kernel
theorem dX11_ofOrder_8 : decode cX11_ofOrder 8 = .ok (.iconst (-1), 1) := by decide +kernel
theorem dX11_ofOrder_9 : decode cX11_ofOrder 9 = .ok (.ireturn, 1) := by decide +kernel
theorem dX11_ofOrder_10 : decode cX11_ofOrder 10 = .ok (.iload_n 2, 1) := by decide +kernel
theorem dX11_ofOrder_11 : decode cX11_ofOrder 11 = .ok (.iconst 0, 1) := by decide +kernel
theorem dX11_ofOrder_12 : decode cX11_ofOrder 12 = .ok (.bipush 6, 2) := by decide +kernel
theorem dX11_ofOrder_14 : decode cX11_ofOrder 14 = .ok (.invokestatic 43, 3) := by decide +kernel
theorem dX11_ofOrder_17 : decode cX11_ofOrder 17 = .ok (.ifCond .eq 12, 3) := by decide +kernel
theorem dX11_ofOrder_20 : decode cX11_ofOrder 20 = .ok (.aload_n 0, 1) := by decide +kernel
theorem dX11_ofOrder_21 : decode cX11_ofOrder 21 = .ok (.iload_n 1, 1) := by decide +kernel
theorem dX11_ofOrder_22 : decode cX11_ofOrder 22 = .ok (.iload_n 2, 1) := by decide +kernel
theorem dX11_ofOrder_23 : decode cX11_ofOrder 23 = .ok (.invokevirtual 109, 3) := by decide +kernel
theorem dX11_ofOrder_26 : decode cX11_ofOrder 26 = .ok (.goto 19, 3) := by decide +kernel
theorem dX11_ofOrder_29 : decode cX11_ofOrder 29 = .ok (.iload_n 2, 1) := by decide +kernel
theorem dX11_ofOrder_30 : decode cX11_ofOrder 30 = .ok (.bipush 7, 2) := by decide +kernel
theorem dX11_ofOrder_32 : decode cX11_ofOrder 32 = .ok (.if_icmp .ne 11, 3) := by decide +kernel
theorem dX11_ofOrder_35 : decode cX11_ofOrder 35 = .ok (.aload_n 0, 1) := by decide +kernel
theorem dX11_ofOrder_36 : decode cX11_ofOrder 36 = .ok (.iload_n 1, 1) := by decide +kernel
theorem dX11_ofOrder_37 : decode cX11_ofOrder 37 = .ok (.invokevirtual 130, 3) := by decide +kernel
theorem dX11_ofOrder_40 : decode cX11_ofOrder 40 = .ok (.goto 5, 3) := by decide +kernel
theorem dX11_ofOrder_43 : decode cX11_ofOrder 43 = .ok (.bipush (-2), 2) := by decide +kernel
theorem dX11_ofOrder_45 : decode cX11_ofOrder 45 = .ok (.ireturn, 1) := by decide +kernel
theorem dX11_count_0 : decode cX11_count 0 = .ok (.iload_n 1, 1) := by decide +kernel
theorem dX11_count_1 : decode cX11_count 1 = .ok (.bipush 9, 2) := by decide +kernel
theorem dX11_count_3 : decode cX11_count 3 = .ok (.bipush 18, 2) := by decide +kernel
theorem dX11_count_5 : decode cX11_count 5 = .ok (.invokestatic 43, 3) := by decide +kernel
theorem dX11_count_8 : decode cX11_count 8 = .ok (.ifCond .eq 13, 3) := by decide +kernel
theorem dX11_count_11 : decode cX11_count 11 = .ok (.aload_n 0, 1) := by decide +kernel
theorem dX11_count_12 : decode cX11_count 12 = .ok (.getfield 7, 3) := by decide +kernel
theorem dX11_count_15 : decode cX11_count 15 = .ok (.iload_n 1, 1) := by decide +kernel
theorem dX11_count_16 : decode cX11_count 16 = .ok (.bipush 9, 2) := by decide +kernel
theorem dX11_count_18 : decode cX11_count 18 = .ok (.isub, 1) := by decide +kernel
theorem dX11_count_19 : decode cX11_count 19 = .ok (.iaload, 1) := by decide +kernel
theorem dX11_count_20 : decode cX11_count 20 = .ok (.ireturn, 1) := by decide +kernel
theorem dX11_count_21 : decode cX11_count 21 = .ok (.iload_n 1, 1) := by decide +kernel
theorem dX11_count_22 : decode cX11_count 22 = .ok (.bipush 19, 2) := by decide +kernel
theorem dX11_count_24 : decode cX11_count 24 = .ok (.bipush 24, 2) := by decide +kernel
theorem dX11_count_26 : decode cX11_count 26 = .ok (.invokestatic 43, 3) := by decide +kernel
theorem dX11_count_29 : decode cX11_count 29 = .ok (.ifCond .eq 27, 3) := by decide +kernel
theorem dX11_count_32 : decode cX11_count 32 = .ok (.aload_n 0, 1) := by decide +kernel
theorem dX11_count_33 : decode cX11_count 33 = .ok (.getfield 7, 3) := by decide +kernel
theorem dX11_count_36 : decode cX11_count 36 = .ok (.bipush 20, 2) := by decide +kernel
theorem dX11_count_38 : decode cX11_count 38 = .ok (.iconst 3, 1) := by decide +kernel
theorem dX11_count_39 : decode cX11_count 39 = .ok (.iload_n 1, 1) := by decide +kernel
theorem dX11_count_40 : decode cX11_count 40 = .ok (.bipush 19, 2) := by decide +kernel
theorem dX11_count_42 : decode cX11_count 42 = .ok (.isub, 1) := by decide +kernel
theorem dX11_count_43 : decode cX11_count 43 = .ok (.iconst 3, 1) := by decide +kernel
theorem dX11_count_44 : decode cX11_count 44 = .ok (.irem, 1) := by decide +kernel
theorem dX11_count_45 : decode cX11_count 45 = .ok (.imul, 1) := by decide +kernel
theorem dX11_count_46 : decode cX11_count 46 = .ok (.iadd, 1) := by decide +kernel
theorem dX11_count_47 : decode cX11_count 47 = .ok (.iload_n 1, 1) := by decide +kernel
theorem dX11_count_48 : decode cX11_count 48 = .ok (.bipush 19, 2) := by decide +kernel
theorem dX11_count_50 : decode cX11_count 50 = .ok (.isub, 1) := by decide +kernel
theorem dX11_count_51 : decode cX11_count 51 = .ok (.iconst 3, 1) := by decide +kernel
theorem dX11_count_52 : decode cX11_count 52 = .ok (.idiv, 1) := by decide +kernel
theorem dX11_count_53 : decode cX11_count 53 = .ok (.iadd, 1) := by decide +kernel
theorem dX11_count_54 : decode cX11_count 54 = .ok (.iaload, 1) := by decide +kernel
theorem dX11_count_55 : decode cX11_count 55 = .ok (.ireturn, 1) := by decide +kernel
theorem dX11_count_56 : decode cX11_count 56 = .ok (.iload_n 1, 1) := by decide +kernel
theorem dX11_count_57 : decode cX11_count 57 = .ok (.tableswitch 105 0 7 #[47, 55, 63, 71, 76, 84, 92, 100], 47) := by decide +kernel
theorem dX11_count_104 : decode cX11_count 104 = .ok (.aload_n 0, 1) := by decide +kernel
theorem dX11_count_105 : decode cX11_count 105 = .ok (.getfield 7, 3) := by decide +kernel
theorem dX11_count_108 : decode cX11_count 108 = .ok (.bipush 10, 2) := by decide +kernel
theorem dX11_count_110 : decode cX11_count 110 = .ok (.iaload, 1) := by decide +kernel
theorem dX11_count_111 : decode cX11_count 111 = .ok (.ireturn, 1) := by decide +kernel
theorem dX11_count_112 : decode cX11_count 112 = .ok (.aload_n 0, 1) := by decide +kernel
theorem dX11_count_113 : decode cX11_count 113 = .ok (.getfield 7, 3) := by decide +kernel
theorem dX11_count_116 : decode cX11_count 116 = .ok (.bipush 12, 2) := by decide +kernel
theorem dX11_count_118 : decode cX11_count 118 = .ok (.iaload, 1) := by decide +kernel
theorem dX11_count_119 : decode cX11_count 119 = .ok (.ireturn, 1) := by decide +kernel
theorem dX11_count_120 : decode cX11_count 120 = .ok (.aload_n 0, 1) := by decide +kernel
theorem dX11_count_121 : decode cX11_count 121 = .ok (.getfield 7, 3) := by decide +kernel
theorem dX11_count_124 : decode cX11_count 124 = .ok (.bipush 13, 2) := by decide +kernel
theorem dX11_count_126 : decode cX11_count 126 = .ok (.iaload, 1) := by decide +kernel
theorem dX11_count_127 : decode cX11_count 127 = .ok (.ireturn, 1) := by decide +kernel
theorem dX11_count_128 : decode cX11_count 128 = .ok (.aload_n 0, 1) := by decide +kernel
theorem dX11_count_129 : decode cX11_count 129 = .ok (.invokevirtual 76, 3) := by decide +kernel
theorem dX11_count_132 : decode cX11_count 132 = .ok (.ireturn, 1) := by decide +kernel
theorem dX11_count_133 : decode cX11_count 133 = .ok (.aload_n 0, 1) := by decide +kernel
theorem dX11_count_134 : decode cX11_count 134 = .ok (.getfield 7, 3) := by decide +kernel
theorem dX11_count_137 : decode cX11_count 137 = .ok (.bipush 14, 2) := by decide +kernel
theorem dX11_count_139 : decode cX11_count 139 = .ok (.iaload, 1) := by decide +kernel
theorem dX11_count_140 : decode cX11_count 140 = .ok (.ireturn, 1) := by decide +kernel
theorem dX11_count_141 : decode cX11_count 141 = .ok (.aload_n 0, 1) := by decide +kernel
theorem dX11_count_142 : decode cX11_count 142 = .ok (.getfield 7, 3) := by decide +kernel
theorem dX11_count_145 : decode cX11_count 145 = .ok (.bipush 15, 2) := by decide +kernel
theorem dX11_count_147 : decode cX11_count 147 = .ok (.iaload, 1) := by decide +kernel
theorem dX11_count_148 : decode cX11_count 148 = .ok (.ireturn, 1) := by decide +kernel
theorem dX11_count_149 : decode cX11_count 149 = .ok (.aload_n 0, 1) := by decide +kernel
theorem dX11_count_150 : decode cX11_count 150 = .ok (.getfield 7, 3) := by decide +kernel
theorem dX11_count_153 : decode cX11_count 153 = .ok (.bipush 16, 2) := by decide +kernel
theorem dX11_count_155 : decode cX11_count 155 = .ok (.iaload, 1) := by decide +kernel
theorem dX11_count_156 : decode cX11_count 156 = .ok (.ireturn, 1) := by decide +kernel
theorem dX11_count_157 : decode cX11_count 157 = .ok (.aload_n 0, 1) := by decide +kernel
theorem dX11_count_158 : decode cX11_count 158 = .ok (.getfield 133, 3) := by decide +kernel
theorem dX11_count_161 : decode cX11_count 161 = .ok (.ireturn, 1) := by decide +kernel
theorem dX11_count_162 : decode cX11_count 162 = .ok (.iload_n 1, 1) := by decide +kernel
theorem dX11_count_163 : decode cX11_count 163 = .ok (.bipush 8, 2) := by decide +kernel
theorem dX11_count_165 : decode cX11_count 165 = .ok (.if_icmp .ne 10, 3) := by decide +kernel
theorem dX11_count_168 : decode cX11_count 168 = .ok (.aload_n 0, 1) := by decide +kernel
theorem dX11_count_169 : decode cX11_count 169 = .ok (.getfield 39, 3) := by decide +kernel
theorem dX11_count_172 : decode cX11_count 172 = .ok (.goto 5, 3) := by decide +kernel
theorem dX11_count_175 : decode cX11_count 175 = .ok (.bipush (-2), 2) := by decide +kernel
theorem dX11_count_177 : decode cX11_count 177 = .ok (.ireturn, 1) := by decide +kernel
theorem dX11_account_0 : decode cX11_account 0 = .ok (.iload_n 1, 1) := by decide +kernel
theorem dX11_account_1 : decode cX11_account 1 = .ok (.invokestatic 57, 3) := by decide +kernel
theorem dX11_account_4 : decode cX11_account 4 = .ok (.ifCond .ne 5, 3) := by decide +kernel
theorem dX11_account_7 : decode cX11_account 7 = .ok (.iconst (-1), 1) := by decide +kernel
theorem dX11_account_8 : decode cX11_account 8 = .ok (.ireturn, 1) := by decide +kernel
theorem dX11_account_9 : decode cX11_account 9 = .ok (.bipush 30, 2) := by decide +kernel
theorem dX11_account_11 : decode cX11_account 11 = .ok (.iconst 4, 1) := by decide +kernel
theorem dX11_account_12 : decode cX11_account 12 = .ok (.iload_n 1, 1) := by decide +kernel
theorem dX11_account_13 : decode cX11_account 13 = .ok (.imul, 1) := by decide +kernel
theorem dX11_account_14 : decode cX11_account 14 = .ok (.iadd, 1) := by decide +kernel
theorem dX11_account_15 : decode cX11_account 15 = .ok (.istore_n 3, 1) := by decide +kernel
theorem dX11_account_16 : decode cX11_account 16 = .ok (.iload_n 2, 1) := by decide +kernel
theorem dX11_account_17 : decode cX11_account 17 = .ok (.tableswitch 125 0 5 #[39, 46, 60, 114, 114, 114], 39) := by decide +kernel
theorem dX11_account_56 : decode cX11_account 56 = .ok (.aload_n 0, 1) := by decide +kernel
theorem dX11_account_57 : decode cX11_account 57 = .ok (.getfield 7, 3) := by decide +kernel
theorem dX11_account_60 : decode cX11_account 60 = .ok (.iload_n 3, 1) := by decide +kernel
theorem dX11_account_61 : decode cX11_account 61 = .ok (.iaload, 1) := by decide +kernel
theorem dX11_account_62 : decode cX11_account 62 = .ok (.ireturn, 1) := by decide +kernel
theorem dX11_account_63 : decode cX11_account 63 = .ok (.aload_n 0, 1) := by decide +kernel
theorem dX11_account_64 : decode cX11_account 64 = .ok (.getfield 7, 3) := by decide +kernel
theorem dX11_account_67 : decode cX11_account 67 = .ok (.bipush 20, 2) := by decide +kernel
theorem dX11_account_69 : decode cX11_account 69 = .ok (.iconst 3, 1) := by decide +kernel
theorem dX11_account_70 : decode cX11_account 70 = .ok (.iload_n 1, 1) := by decide +kernel
theorem dX11_account_71 : decode cX11_account 71 = .ok (.imul, 1) := by decide +kernel
theorem dX11_account_72 : decode cX11_account 72 = .ok (.iadd, 1) := by decide +kernel
theorem dX11_account_73 : decode cX11_account 73 = .ok (.iconst 2, 1) := by decide +kernel
theorem dX11_account_74 : decode cX11_account 74 = .ok (.iadd, 1) := by decide +kernel
theorem dX11_account_75 : decode cX11_account 75 = .ok (.iaload, 1) := by decide +kernel
theorem dX11_account_76 : decode cX11_account 76 = .ok (.ireturn, 1) := by decide +kernel
theorem dX11_account_77 : decode cX11_account 77 = .ok (.iconst 0, 1) := by decide +kernel
theorem dX11_account_78 : decode cX11_account 78 = .ok (.istore 4, 2) := by decide +kernel
theorem dX11_account_80 : decode cX11_account 80 = .ok (.iconst 0, 1) := by decide +kernel
theorem dX11_account_81 : decode cX11_account 81 = .ok (.istore 5, 2) := by decide +kernel
theorem dX11_account_83 : decode cX11_account 83 = .ok (.iload 5, 2) := by decide +kernel
theorem dX11_account_85 : decode cX11_account 85 = .ok (.aload_n 0, 1) := by decide +kernel
theorem dX11_account_86 : decode cX11_account 86 = .ok (.getfield 7, 3) := by decide +kernel
theorem dX11_account_89 : decode cX11_account 89 = .ok (.bipush 12, 2) := by decide +kernel
theorem dX11_account_91 : decode cX11_account 91 = .ok (.iaload, 1) := by decide +kernel
theorem dX11_account_92 : decode cX11_account 92 = .ok (.if_icmp .ge 36, 3) := by decide +kernel
theorem dX11_account_95 : decode cX11_account 95 = .ok (.iload 4, 2) := by decide +kernel
theorem dX11_account_97 : decode cX11_account 97 = .ok (.aload_n 0, 1) := by decide +kernel
theorem dX11_account_98 : decode cX11_account 98 = .ok (.iload 5, 2) := by decide +kernel
theorem dX11_account_100 : decode cX11_account 100 = .ok (.iconst 0, 1) := by decide +kernel
theorem dX11_account_101 : decode cX11_account 101 = .ok (.invokevirtual 91, 3) := by decide +kernel
theorem dX11_account_104 : decode cX11_account 104 = .ok (.iload_n 1, 1) := by decide +kernel
theorem dX11_account_105 : decode cX11_account 105 = .ok (.if_icmp .ne 13, 3) := by decide +kernel
theorem dX11_account_108 : decode cX11_account 108 = .ok (.aload_n 0, 1) := by decide +kernel
theorem dX11_account_109 : decode cX11_account 109 = .ok (.iload 5, 2) := by decide +kernel
theorem dX11_account_111 : decode cX11_account 111 = .ok (.iconst 4, 1) := by decide +kernel
theorem dX11_account_112 : decode cX11_account 112 = .ok (.invokevirtual 91, 3) := by decide +kernel
theorem dX11_account_115 : decode cX11_account 115 = .ok (.goto 4, 3) := by decide +kernel
theorem dX11_account_118 : decode cX11_account 118 = .ok (.iconst 0, 1) := by decide +kernel
theorem dX11_account_119 : decode cX11_account 119 = .ok (.iadd, 1) := by decide +kernel
theorem dX11_account_120 : decode cX11_account 120 = .ok (.istore 4, 2) := by decide +kernel
theorem dX11_account_122 : decode cX11_account 122 = .ok (.iinc 5 1, 3) := by decide +kernel
theorem dX11_account_125 : decode cX11_account 125 = .ok (.goto (-42), 3) := by decide +kernel
theorem dX11_account_128 : decode cX11_account 128 = .ok (.iload 4, 2) := by decide +kernel
theorem dX11_account_130 : decode cX11_account 130 = .ok (.ireturn, 1) := by decide +kernel
theorem dX11_account_131 : decode cX11_account 131 = .ok (.aload_n 0, 1) := by decide +kernel
theorem dX11_account_132 : decode cX11_account 132 = .ok (.getfield 7, 3) := by decide +kernel
theorem dX11_account_135 : decode cX11_account 135 = .ok (.iload_n 3, 1) := by decide +kernel
theorem dX11_account_136 : decode cX11_account 136 = .ok (.iload_n 2, 1) := by decide +kernel
theorem dX11_account_137 : decode cX11_account 137 = .ok (.iadd, 1) := by decide +kernel
theorem dX11_account_138 : decode cX11_account 138 = .ok (.iconst 2, 1) := by decide +kernel
theorem dX11_account_139 : decode cX11_account 139 = .ok (.isub, 1) := by decide +kernel
theorem dX11_account_140 : decode cX11_account 140 = .ok (.iaload, 1) := by decide +kernel
theorem dX11_account_141 : decode cX11_account 141 = .ok (.ireturn, 1) := by decide +kernel
theorem dX11_account_142 : decode cX11_account 142 = .ok (.bipush (-2), 2) := by decide +kernel
theorem dX11_account_144 : decode cX11_account 144 = .ok (.ireturn, 1) := by decide +kernel
theorem dX11_newStrength_0 : decode cX11_newStrength 0 = .ok (.iload_n 2, 1) := by decide +kernel
theorem dX11_newStrength_1 : decode cX11_newStrength 1 = .ok (.iload_n 3, 1) := by decide +kernel
theorem dX11_newStrength_2 : decode cX11_newStrength 2 = .ok (.imul, 1) := by decide +kernel
theorem dX11_newStrength_3 : decode cX11_newStrength 3 = .ok (.aload_n 0, 1) := by decide +kernel
theorem dX11_newStrength_4 : decode cX11_newStrength 4 = .ok (.getfield 7, 3) := by decide +kernel
theorem dX11_newStrength_7 : decode cX11_newStrength 7 = .ok (.bipush 20, 2) := by decide +kernel
theorem dX11_newStrength_9 : decode cX11_newStrength 9 = .ok (.iconst 3, 1) := by decide +kernel
theorem dX11_newStrength_10 : decode cX11_newStrength 10 = .ok (.iload_n 1, 1) := by decide +kernel
theorem dX11_newStrength_11 : decode cX11_newStrength 11 = .ok (.imul, 1) := by decide +kernel
theorem dX11_newStrength_12 : decode cX11_newStrength 12 = .ok (.iadd, 1) := by decide +kernel
theorem dX11_newStrength_13 : decode cX11_newStrength 13 = .ok (.iaload, 1) := by decide +kernel
theorem dX11_newStrength_14 : decode cX11_newStrength 14 = .ok (.imul, 1) := by decide +kernel
theorem dX11_newStrength_15 : decode cX11_newStrength 15 = .ok (.aload_n 0, 1) := by decide +kernel
theorem dX11_newStrength_16 : decode cX11_newStrength 16 = .ok (.iload_n 1, 1) := by decide +kernel
theorem dX11_newStrength_17 : decode cX11_newStrength 17 = .ok (.invokevirtual 88, 3) := by decide +kernel
theorem dX11_newStrength_20 : decode cX11_newStrength 20 = .ok (.imul, 1) := by decide +kernel
theorem dX11_newStrength_21 : decode cX11_newStrength 21 = .ok (.bipush 100, 2) := by decide +kernel
theorem dX11_newStrength_23 : decode cX11_newStrength 23 = .ok (.idiv, 1) := by decide +kernel
theorem dX11_newStrength_24 : decode cX11_newStrength 24 = .ok (.ireturn, 1) := by decide +kernel
theorem dX11_takes_0 : decode cX11_takes 0 = .ok (.iload_n 1, 1) := by decide +kernel
theorem dX11_takes_1 : decode cX11_takes 1 = .ok (.invokestatic 57, 3) := by decide +kernel
theorem dX11_takes_4 : decode cX11_takes 4 = .ok (.ifCond .ne 5, 3) := by decide +kernel
theorem dX11_takes_7 : decode cX11_takes 7 = .ok (.iconst (-1), 1) := by decide +kernel
theorem dX11_takes_8 : decode cX11_takes 8 = .ok (.ireturn, 1) := by decide +kernel
theorem dX11_takes_9 : decode cX11_takes 9 = .ok (.iload_n 2, 1) := by decide +kernel
theorem dX11_takes_10 : decode cX11_takes 10 = .ok (.iload_n 3, 1) := by decide +kernel
theorem dX11_takes_11 : decode cX11_takes 11 = .ok (.invokestatic 80, 3) := by decide +kernel
theorem dX11_takes_14 : decode cX11_takes 14 = .ok (.ifCond .eq 15, 3) := by decide +kernel
theorem dX11_takes_17 : decode cX11_takes 17 = .ok (.iload 4, 2) := by decide +kernel
theorem dX11_takes_19 : decode cX11_takes 19 = .ok (.iconst 1, 1) := by decide +kernel
theorem dX11_takes_20 : decode cX11_takes 20 = .ok (.sipush 2000, 3) := by decide +kernel
theorem dX11_takes_23 : decode cX11_takes 23 = .ok (.invokestatic 43, 3) := by decide +kernel
theorem dX11_takes_26 : decode cX11_takes 26 = .ok (.ifCond .ne 6, 3) := by decide +kernel
theorem dX11_takes_29 : decode cX11_takes 29 = .ok (.bipush (-2), 2) := by decide +kernel
theorem dX11_takes_31 : decode cX11_takes 31 = .ok (.ireturn, 1) := by decide +kernel
theorem dX11_takes_32 : decode cX11_takes 32 = .ok (.iload 5, 2) := by decide +kernel
theorem dX11_takes_34 : decode cX11_takes 34 = .ok (.tableswitch 73 0 4 #[34, 41, 48, 59, 67], 34) := by decide +kernel
theorem dX11_takes_68 : decode cX11_takes 68 = .ok (.aload_n 0, 1) := by decide +kernel
theorem dX11_takes_69 : decode cX11_takes 69 = .ok (.iload 4, 2) := by decide +kernel
theorem dX11_takes_71 : decode cX11_takes 71 = .ok (.invokevirtual 67, 3) := by decide +kernel
theorem dX11_takes_74 : decode cX11_takes 74 = .ok (.ireturn, 1) := by decide +kernel
theorem dX11_takes_75 : decode cX11_takes 75 = .ok (.aload_n 0, 1) := by decide +kernel
theorem dX11_takes_76 : decode cX11_takes 76 = .ok (.iload 4, 2) := by decide +kernel
theorem dX11_takes_78 : decode cX11_takes 78 = .ok (.invokevirtual 70, 3) := by decide +kernel
theorem dX11_takes_81 : decode cX11_takes 81 = .ok (.ireturn, 1) := by decide +kernel
theorem dX11_takes_82 : decode cX11_takes 82 = .ok (.iload_n 2, 1) := by decide +kernel
theorem dX11_takes_83 : decode cX11_takes 83 = .ok (.iload_n 3, 1) := by decide +kernel
theorem dX11_takes_84 : decode cX11_takes 84 = .ok (.imul, 1) := by decide +kernel
theorem dX11_takes_85 : decode cX11_takes 85 = .ok (.aload_n 0, 1) := by decide +kernel
theorem dX11_takes_86 : decode cX11_takes 86 = .ok (.iload 4, 2) := by decide +kernel
theorem dX11_takes_88 : decode cX11_takes 88 = .ok (.invokevirtual 70, 3) := by decide +kernel
theorem dX11_takes_91 : decode cX11_takes 91 = .ok (.imul, 1) := by decide +kernel
theorem dX11_takes_92 : decode cX11_takes 92 = .ok (.ireturn, 1) := by decide +kernel
theorem dX11_takes_93 : decode cX11_takes 93 = .ok (.aload_n 0, 1) := by decide +kernel
theorem dX11_takes_94 : decode cX11_takes 94 = .ok (.iload_n 2, 1) := by decide +kernel
theorem dX11_takes_95 : decode cX11_takes 95 = .ok (.iload 4, 2) := by decide +kernel
theorem dX11_takes_97 : decode cX11_takes 97 = .ok (.invokevirtual 73, 3) := by decide +kernel
theorem dX11_takes_100 : decode cX11_takes 100 = .ok (.ireturn, 1) := by decide +kernel
theorem dX11_takes_101 : decode cX11_takes 101 = .ok (.aload_n 0, 1) := by decide +kernel
theorem dX11_takes_102 : decode cX11_takes 102 = .ok (.iload_n 1, 1) := by decide +kernel
theorem dX11_takes_103 : decode cX11_takes 103 = .ok (.invokevirtual 88, 3) := by decide +kernel
theorem dX11_takes_106 : decode cX11_takes 106 = .ok (.ireturn, 1) := by decide +kernel
theorem dX11_takes_107 : decode cX11_takes 107 = .ok (.iload 5, 2) := by decide +kernel
theorem dX11_takes_109 : decode cX11_takes 109 = .ok (.iconst 5, 1) := by decide +kernel
theorem dX11_takes_110 : decode cX11_takes 110 = .ok (.if_icmp .ne 13, 3) := by decide +kernel
theorem dX11_takes_113 : decode cX11_takes 113 = .ok (.aload_n 0, 1) := by decide +kernel
theorem dX11_takes_114 : decode cX11_takes 114 = .ok (.iload_n 1, 1) := by decide +kernel
theorem dX11_takes_115 : decode cX11_takes 115 = .ok (.iload_n 2, 1) := by decide +kernel
theorem dX11_takes_116 : decode cX11_takes 116 = .ok (.iload_n 3, 1) := by decide +kernel
theorem dX11_takes_117 : decode cX11_takes 117 = .ok (.invokevirtual 136, 3) := by decide +kernel
theorem dX11_takes_120 : decode cX11_takes 120 = .ok (.goto 5, 3) := by decide +kernel
theorem dX11_takes_123 : decode cX11_takes 123 = .ok (.bipush (-2), 2) := by decide +kernel
theorem dX11_takes_125 : decode cX11_takes 125 = .ok (.ireturn, 1) := by decide +kernel
theorem dX11_longest_0 : decode cX11_longest 0 = .ok (.iload_n 1, 1) := by decide +kernel
theorem dX11_longest_1 : decode cX11_longest 1 = .ok (.invokestatic 57, 3) := by decide +kernel
theorem dX11_longest_4 : decode cX11_longest 4 = .ok (.ifCond .ne 5, 3) := by decide +kernel
theorem dX11_longest_7 : decode cX11_longest 7 = .ok (.iconst (-1), 1) := by decide +kernel
theorem dX11_longest_8 : decode cX11_longest 8 = .ok (.ireturn, 1) := by decide +kernel
theorem dX11_longest_9 : decode cX11_longest 9 = .ok (.iload_n 2, 1) := by decide +kernel
theorem dX11_longest_10 : decode cX11_longest 10 = .ok (.iload_n 3, 1) := by decide +kernel
theorem dX11_longest_11 : decode cX11_longest 11 = .ok (.invokestatic 80, 3) := by decide +kernel
theorem dX11_longest_14 : decode cX11_longest 14 = .ok (.ifCond .ne 6, 3) := by decide +kernel
theorem dX11_longest_17 : decode cX11_longest 17 = .ok (.bipush (-2), 2) := by decide +kernel
theorem dX11_longest_19 : decode cX11_longest 19 = .ok (.ireturn, 1) := by decide +kernel
theorem dX11_longest_20 : decode cX11_longest 20 = .ok (.sipush 2000, 3) := by decide +kernel
theorem dX11_longest_23 : decode cX11_longest 23 = .ok (.istore 4, 2) := by decide +kernel
theorem dX11_longest_25 : decode cX11_longest 25 = .ok (.iload 4, 2) := by decide +kernel
theorem dX11_longest_27 : decode cX11_longest 27 = .ok (.ifCond .le 24, 3) := by decide +kernel
theorem dX11_longest_30 : decode cX11_longest 30 = .ok (.aload_n 0, 1) := by decide +kernel
theorem dX11_longest_31 : decode cX11_longest 31 = .ok (.iload_n 1, 1) := by decide +kernel
theorem dX11_longest_32 : decode cX11_longest 32 = .ok (.iload_n 2, 1) := by decide +kernel
theorem dX11_longest_33 : decode cX11_longest 33 = .ok (.iload_n 3, 1) := by decide +kernel
theorem dX11_longest_34 : decode cX11_longest 34 = .ok (.iload 4, 2) := by decide +kernel
theorem dX11_longest_36 : decode cX11_longest 36 = .ok (.invokevirtual 84, 3) := by decide +kernel
theorem dX11_longest_39 : decode cX11_longest 39 = .ok (.ifCond .eq 6, 3) := by decide +kernel
theorem dX11_longest_42 : decode cX11_longest 42 = .ok (.iload 4, 2) := by decide +kernel
theorem dX11_longest_44 : decode cX11_longest 44 = .ok (.ireturn, 1) := by decide +kernel
theorem dX11_longest_45 : decode cX11_longest 45 = .ok (.iinc 4 (-1), 3) := by decide +kernel
theorem dX11_longest_48 : decode cX11_longest 48 = .ok (.goto (-23), 3) := by decide +kernel
theorem dX11_longest_51 : decode cX11_longest 51 = .ok (.bipush (-6), 2) := by decide +kernel
theorem dX11_longest_53 : decode cX11_longest 53 = .ok (.ireturn, 1) := by decide +kernel
theorem dX11_leastYarns_0 : decode cX11_leastYarns 0 = .ok (.iload_n 1, 1) := by decide +kernel
theorem dX11_leastYarns_1 : decode cX11_leastYarns 1 = .ok (.invokestatic 57, 3) := by decide +kernel
theorem dX11_leastYarns_4 : decode cX11_leastYarns 4 = .ok (.ifCond .ne 5, 3) := by decide +kernel
theorem dX11_leastYarns_7 : decode cX11_leastYarns 7 = .ok (.iconst (-1), 1) := by decide +kernel
theorem dX11_leastYarns_8 : decode cX11_leastYarns 8 = .ok (.ireturn, 1) := by decide +kernel
theorem dX11_leastYarns_9 : decode cX11_leastYarns 9 = .ok (.iload_n 2, 1) := by decide +kernel
theorem dX11_leastYarns_10 : decode cX11_leastYarns 10 = .ok (.iconst 3, 1) := by decide +kernel
theorem dX11_leastYarns_11 : decode cX11_leastYarns 11 = .ok (.iconst 4, 1) := by decide +kernel
theorem dX11_leastYarns_12 : decode cX11_leastYarns 12 = .ok (.invokestatic 43, 3) := by decide +kernel
theorem dX11_leastYarns_15 : decode cX11_leastYarns 15 = .ok (.ifCond .eq 13, 3) := by decide +kernel
theorem dX11_leastYarns_18 : decode cX11_leastYarns 18 = .ok (.iload_n 3, 1) := by decide +kernel
theorem dX11_leastYarns_19 : decode cX11_leastYarns 19 = .ok (.iconst 1, 1) := by decide +kernel
theorem dX11_leastYarns_20 : decode cX11_leastYarns 20 = .ok (.ldc 107, 2) := by decide +kernel
theorem dX11_leastYarns_22 : decode cX11_leastYarns 22 = .ok (.invokestatic 43, 3) := by decide +kernel
theorem dX11_leastYarns_25 : decode cX11_leastYarns 25 = .ok (.ifCond .ne 6, 3) := by decide +kernel
theorem dX11_leastYarns_28 : decode cX11_leastYarns 28 = .ok (.bipush (-2), 2) := by decide +kernel
theorem dX11_leastYarns_30 : decode cX11_leastYarns 30 = .ok (.ireturn, 1) := by decide +kernel
theorem dX11_leastYarns_31 : decode cX11_leastYarns 31 = .ok (.iconst 1, 1) := by decide +kernel
theorem dX11_leastYarns_32 : decode cX11_leastYarns 32 = .ok (.istore 4, 2) := by decide +kernel
theorem dX11_leastYarns_34 : decode cX11_leastYarns 34 = .ok (.iload 4, 2) := by decide +kernel
theorem dX11_leastYarns_36 : decode cX11_leastYarns 36 = .ok (.bipush 40, 2) := by decide +kernel
theorem dX11_leastYarns_38 : decode cX11_leastYarns 38 = .ok (.if_icmp .gt 24, 3) := by decide +kernel
theorem dX11_leastYarns_41 : decode cX11_leastYarns 41 = .ok (.aload_n 0, 1) := by decide +kernel
theorem dX11_leastYarns_42 : decode cX11_leastYarns 42 = .ok (.iload_n 1, 1) := by decide +kernel
theorem dX11_leastYarns_43 : decode cX11_leastYarns 43 = .ok (.iload_n 2, 1) := by decide +kernel
theorem dX11_leastYarns_44 : decode cX11_leastYarns 44 = .ok (.iload 4, 2) := by decide +kernel
theorem dX11_leastYarns_46 : decode cX11_leastYarns 46 = .ok (.invokevirtual 136, 3) := by decide +kernel
theorem dX11_leastYarns_49 : decode cX11_leastYarns 49 = .ok (.iload_n 3, 1) := by decide +kernel
theorem dX11_leastYarns_50 : decode cX11_leastYarns 50 = .ok (.if_icmp .lt 6, 3) := by decide +kernel
theorem dX11_leastYarns_53 : decode cX11_leastYarns 53 = .ok (.iload 4, 2) := by decide +kernel
theorem dX11_leastYarns_55 : decode cX11_leastYarns 55 = .ok (.ireturn, 1) := by decide +kernel
theorem dX11_leastYarns_56 : decode cX11_leastYarns 56 = .ok (.iinc 4 1, 3) := by decide +kernel
theorem dX11_leastYarns_59 : decode cX11_leastYarns 59 = .ok (.goto (-25), 3) := by decide +kernel
theorem dX11_leastYarns_62 : decode cX11_leastYarns 62 = .ok (.bipush (-6), 2) := by decide +kernel
theorem dX11_leastYarns_64 : decode cX11_leastYarns 64 = .ok (.ireturn, 1) := by decide +kernel
theorem dX11_wouldFill_0 : decode cX11_wouldFill 0 = .ok (.aload_n 0, 1) := by decide +kernel
theorem dX11_wouldFill_1 : decode cX11_wouldFill 1 = .ok (.iload_n 1, 1) := by decide +kernel
theorem dX11_wouldFill_2 : decode cX11_wouldFill 2 = .ok (.invokevirtual 118, 3) := by decide +kernel
theorem dX11_wouldFill_5 : decode cX11_wouldFill 5 = .ok (.ifCond .ne 5, 3) := by decide +kernel
theorem dX11_wouldFill_8 : decode cX11_wouldFill 8 = .ok (.iconst (-1), 1) := by decide +kernel
theorem dX11_wouldFill_9 : decode cX11_wouldFill 9 = .ok (.ireturn, 1) := by decide +kernel
theorem dX11_wouldFill_10 : decode cX11_wouldFill 10 = .ok (.iload_n 2, 1) := by decide +kernel
theorem dX11_wouldFill_11 : decode cX11_wouldFill 11 = .ok (.iconst 0, 1) := by decide +kernel
theorem dX11_wouldFill_12 : decode cX11_wouldFill 12 = .ok (.iconst 2, 1) := by decide +kernel
theorem dX11_wouldFill_13 : decode cX11_wouldFill 13 = .ok (.invokestatic 43, 3) := by decide +kernel
theorem dX11_wouldFill_16 : decode cX11_wouldFill 16 = .ok (.ifCond .ne 6, 3) := by decide +kernel
theorem dX11_wouldFill_19 : decode cX11_wouldFill 19 = .ok (.bipush (-2), 2) := by decide +kernel
theorem dX11_wouldFill_21 : decode cX11_wouldFill 21 = .ok (.ireturn, 1) := by decide +kernel
theorem dX11_wouldFill_22 : decode cX11_wouldFill 22 = .ok (.aload_n 0, 1) := by decide +kernel
theorem dX11_wouldFill_23 : decode cX11_wouldFill 23 = .ok (.invokevirtual 140, 3) := by decide +kernel
theorem dX11_wouldFill_26 : decode cX11_wouldFill 26 = .ok (.bipush 30, 2) := by decide +kernel
theorem dX11_wouldFill_28 : decode cX11_wouldFill 28 = .ok (.iconst 4, 1) := by decide +kernel
theorem dX11_wouldFill_29 : decode cX11_wouldFill 29 = .ok (.aload_n 0, 1) := by decide +kernel
theorem dX11_wouldFill_30 : decode cX11_wouldFill 30 = .ok (.iload_n 1, 1) := by decide +kernel
theorem dX11_wouldFill_31 : decode cX11_wouldFill 31 = .ok (.iconst 0, 1) := by decide +kernel
theorem dX11_wouldFill_32 : decode cX11_wouldFill 32 = .ok (.invokevirtual 109, 3) := by decide +kernel
theorem dX11_wouldFill_35 : decode cX11_wouldFill 35 = .ok (.imul, 1) := by decide +kernel
theorem dX11_wouldFill_36 : decode cX11_wouldFill 36 = .ok (.iadd, 1) := by decide +kernel
theorem dX11_wouldFill_37 : decode cX11_wouldFill 37 = .ok (.iconst 3, 1) := by decide +kernel
theorem dX11_wouldFill_38 : decode cX11_wouldFill 38 = .ok (.iadd, 1) := by decide +kernel
theorem dX11_wouldFill_39 : decode cX11_wouldFill 39 = .ok (.istore_n 3, 1) := by decide +kernel
theorem dX11_wouldFill_40 : decode cX11_wouldFill 40 = .ok (.aload_n 0, 1) := by decide +kernel
theorem dX11_wouldFill_41 : decode cX11_wouldFill 41 = .ok (.getfield 7, 3) := by decide +kernel
theorem dX11_wouldFill_44 : decode cX11_wouldFill 44 = .ok (.iload_n 3, 1) := by decide +kernel
theorem dX11_wouldFill_45 : decode cX11_wouldFill 45 = .ok (.iaload, 1) := by decide +kernel
theorem dX11_wouldFill_46 : decode cX11_wouldFill 46 = .ok (.istore 4, 2) := by decide +kernel
theorem dX11_wouldFill_48 : decode cX11_wouldFill 48 = .ok (.aload_n 0, 1) := by decide +kernel
theorem dX11_wouldFill_49 : decode cX11_wouldFill 49 = .ok (.iload_n 1, 1) := by decide +kernel
theorem dX11_wouldFill_50 : decode cX11_wouldFill 50 = .ok (.invokevirtual 121, 3) := by decide +kernel
theorem dX11_wouldFill_53 : decode cX11_wouldFill 53 = .ok (.istore 5, 2) := by decide +kernel
theorem dX11_wouldFill_55 : decode cX11_wouldFill 55 = .ok (.iload_n 2, 1) := by decide +kernel
theorem dX11_wouldFill_56 : decode cX11_wouldFill 56 = .ok (.ifCond .ne 8, 3) := by decide +kernel
theorem dX11_wouldFill_59 : decode cX11_wouldFill 59 = .ok (.iload 5, 2) := by decide +kernel
theorem dX11_wouldFill_61 : decode cX11_wouldFill 61 = .ok (.goto 27, 3) := by decide +kernel
theorem dX11_wouldFill_64 : decode cX11_wouldFill 64 = .ok (.iload_n 2, 1) := by decide +kernel
theorem dX11_wouldFill_65 : decode cX11_wouldFill 65 = .ok (.iconst 1, 1) := by decide +kernel
theorem dX11_wouldFill_66 : decode cX11_wouldFill 66 = .ok (.if_icmp .ne 15, 3) := by decide +kernel
theorem dX11_wouldFill_69 : decode cX11_wouldFill 69 = .ok (.aload_n 0, 1) := by decide +kernel
theorem dX11_wouldFill_70 : decode cX11_wouldFill 70 = .ok (.getfield 7, 3) := by decide +kernel
theorem dX11_wouldFill_73 : decode cX11_wouldFill 73 = .ok (.iload_n 3, 1) := by decide +kernel
theorem dX11_wouldFill_74 : decode cX11_wouldFill 74 = .ok (.iaload, 1) := by decide +kernel
theorem dX11_wouldFill_75 : decode cX11_wouldFill 75 = .ok (.iload 4, 2) := by decide +kernel
theorem dX11_wouldFill_77 : decode cX11_wouldFill 77 = .ok (.isub, 1) := by decide +kernel
theorem dX11_wouldFill_78 : decode cX11_wouldFill 78 = .ok (.goto 10, 3) := by decide +kernel
theorem dX11_wouldFill_81 : decode cX11_wouldFill 81 = .ok (.aload_n 0, 1) := by decide +kernel
theorem dX11_wouldFill_82 : decode cX11_wouldFill 82 = .ok (.getfield 7, 3) := by decide +kernel
theorem dX11_wouldFill_85 : decode cX11_wouldFill 85 = .ok (.bipush 12, 2) := by decide +kernel
theorem dX11_wouldFill_87 : decode cX11_wouldFill 87 = .ok (.iaload, 1) := by decide +kernel
theorem dX11_wouldFill_88 : decode cX11_wouldFill 88 = .ok (.istore 6, 2) := by decide +kernel
theorem dX11_wouldFill_90 : decode cX11_wouldFill 90 = .ok (.aload_n 0, 1) := by decide +kernel
theorem dX11_wouldFill_91 : decode cX11_wouldFill 91 = .ok (.invokevirtual 143, 3) := by decide +kernel
theorem dX11_wouldFill_94 : decode cX11_wouldFill 94 = .ok (.iload 6, 2) := by decide +kernel
theorem dX11_wouldFill_96 : decode cX11_wouldFill 96 = .ok (.ireturn, 1) := by decide +kernel
theorem dX11_bestSet_0 : decode cX11_bestSet 0 = .ok (.iload_n 1, 1) := by decide +kernel
theorem dX11_bestSet_1 : decode cX11_bestSet 1 = .ok (.iconst 0, 1) := by decide +kernel
theorem dX11_bestSet_2 : decode cX11_bestSet 2 = .ok (.iconst 1, 1) := by decide +kernel
theorem dX11_bestSet_3 : decode cX11_bestSet 3 = .ok (.invokestatic 43, 3) := by decide +kernel
theorem dX11_bestSet_6 : decode cX11_bestSet 6 = .ok (.ifCond .ne 6, 3) := by decide +kernel
theorem dX11_bestSet_9 : decode cX11_bestSet 9 = .ok (.bipush (-2), 2) := by decide +kernel
theorem dX11_bestSet_11 : decode cX11_bestSet 11 = .ok (.ireturn, 1) := by decide +kernel
theorem dX11_bestSet_12 : decode cX11_bestSet 12 = .ok (.aload_n 0, 1) := by decide +kernel
theorem dX11_bestSet_13 : decode cX11_bestSet 13 = .ok (.invokevirtual 140, 3) := by decide +kernel
theorem dX11_bestSet_16 : decode cX11_bestSet 16 = .ok (.aload_n 0, 1) := by decide +kernel
theorem dX11_bestSet_17 : decode cX11_bestSet 17 = .ok (.getfield 7, 3) := by decide +kernel
theorem dX11_bestSet_20 : decode cX11_bestSet 20 = .ok (.bipush 13, 2) := by decide +kernel
theorem dX11_bestSet_22 : decode cX11_bestSet 22 = .ok (.iaload, 1) := by decide +kernel
theorem dX11_bestSet_23 : decode cX11_bestSet 23 = .ok (.bipush 10, 2) := by decide +kernel
theorem dX11_bestSet_25 : decode cX11_bestSet 25 = .ok (.if_icmp .ge 13, 3) := by decide +kernel
theorem dX11_bestSet_28 : decode cX11_bestSet 28 = .ok (.aload_n 0, 1) := by decide +kernel
theorem dX11_bestSet_29 : decode cX11_bestSet 29 = .ok (.getfield 7, 3) := by decide +kernel
theorem dX11_bestSet_32 : decode cX11_bestSet 32 = .ok (.bipush 13, 2) := by decide +kernel
theorem dX11_bestSet_34 : decode cX11_bestSet 34 = .ok (.iaload, 1) := by decide +kernel
theorem dX11_bestSet_35 : decode cX11_bestSet 35 = .ok (.goto 5, 3) := by decide +kernel
theorem dX11_bestSet_38 : decode cX11_bestSet 38 = .ok (.bipush 10, 2) := by decide +kernel
theorem dX11_bestSet_40 : decode cX11_bestSet 40 = .ok (.istore_n 2, 1) := by decide +kernel
theorem dX11_bestSet_41 : decode cX11_bestSet 41 = .ok (.iconst 0, 1) := by decide +kernel
theorem dX11_bestSet_42 : decode cX11_bestSet 42 = .ok (.istore_n 3, 1) := by decide +kernel
theorem dX11_bestSet_43 : decode cX11_bestSet 43 = .ok (.iconst 0, 1) := by decide +kernel
theorem dX11_bestSet_44 : decode cX11_bestSet 44 = .ok (.istore 4, 2) := by decide +kernel
theorem dX11_bestSet_46 : decode cX11_bestSet 46 = .ok (.iconst 0, 1) := by decide +kernel
theorem dX11_bestSet_47 : decode cX11_bestSet 47 = .ok (.istore 5, 2) := by decide +kernel
theorem dX11_bestSet_49 : decode cX11_bestSet 49 = .ok (.iconst 1, 1) := by decide +kernel
theorem dX11_bestSet_50 : decode cX11_bestSet 50 = .ok (.istore 6, 2) := by decide +kernel
theorem dX11_bestSet_52 : decode cX11_bestSet 52 = .ok (.iload 6, 2) := by decide +kernel
theorem dX11_bestSet_54 : decode cX11_bestSet 54 = .ok (.iconst 1, 1) := by decide +kernel
theorem dX11_bestSet_55 : decode cX11_bestSet 55 = .ok (.iload_n 2, 1) := by decide +kernel
theorem dX11_bestSet_56 : decode cX11_bestSet 56 = .ok (.ishl, 1) := by decide +kernel
theorem dX11_bestSet_57 : decode cX11_bestSet 57 = .ok (.if_icmp .ge 101, 3) := by decide +kernel
theorem dX11_bestSet_60 : decode cX11_bestSet 60 = .ok (.aload_n 0, 1) := by decide +kernel
theorem dX11_bestSet_61 : decode cX11_bestSet 61 = .ok (.invokevirtual 143, 3) := by decide +kernel
theorem dX11_bestSet_64 : decode cX11_bestSet 64 = .ok (.iconst 0, 1) := by decide +kernel
theorem dX11_bestSet_65 : decode cX11_bestSet 65 = .ok (.istore 7, 2) := by decide +kernel
theorem dX11_bestSet_67 : decode cX11_bestSet 67 = .ok (.iconst 0, 1) := by decide +kernel
theorem dX11_bestSet_68 : decode cX11_bestSet 68 = .ok (.istore 8, 2) := by decide +kernel
theorem dX11_bestSet_70 : decode cX11_bestSet 70 = .ok (.iload 8, 2) := by decide +kernel
theorem dX11_bestSet_72 : decode cX11_bestSet 72 = .ok (.iload_n 2, 1) := by decide +kernel
theorem dX11_bestSet_73 : decode cX11_bestSet 73 = .ok (.if_icmp .ge 30, 3) := by decide +kernel
theorem dX11_bestSet_76 : decode cX11_bestSet 76 = .ok (.iload 6, 2) := by decide +kernel
theorem dX11_bestSet_78 : decode cX11_bestSet 78 = .ok (.iload 8, 2) := by decide +kernel
theorem dX11_bestSet_80 : decode cX11_bestSet 80 = .ok (.ishr, 1) := by decide +kernel
theorem dX11_bestSet_81 : decode cX11_bestSet 81 = .ok (.iconst 1, 1) := by decide +kernel
theorem dX11_bestSet_82 : decode cX11_bestSet 82 = .ok (.iand, 1) := by decide +kernel
theorem dX11_bestSet_83 : decode cX11_bestSet 83 = .ok (.iconst 1, 1) := by decide +kernel
theorem dX11_bestSet_84 : decode cX11_bestSet 84 = .ok (.if_icmp .ne 13, 3) := by decide +kernel
theorem dX11_bestSet_87 : decode cX11_bestSet 87 = .ok (.aload_n 0, 1) := by decide +kernel
theorem dX11_bestSet_88 : decode cX11_bestSet 88 = .ok (.iload 8, 2) := by decide +kernel
theorem dX11_bestSet_90 : decode cX11_bestSet 90 = .ok (.invokevirtual 121, 3) := by decide +kernel
theorem dX11_bestSet_93 : decode cX11_bestSet 93 = .ok (.pop, 1) := by decide +kernel
theorem dX11_bestSet_94 : decode cX11_bestSet 94 = .ok (.iinc 7 1, 3) := by decide +kernel
theorem dX11_bestSet_97 : decode cX11_bestSet 97 = .ok (.iinc 8 1, 3) := by decide +kernel
theorem dX11_bestSet_100 : decode cX11_bestSet 100 = .ok (.goto (-30), 3) := by decide +kernel
theorem dX11_bestSet_103 : decode cX11_bestSet 103 = .ok (.aload_n 0, 1) := by decide +kernel
theorem dX11_bestSet_104 : decode cX11_bestSet 104 = .ok (.getfield 7, 3) := by decide +kernel
theorem dX11_bestSet_107 : decode cX11_bestSet 107 = .ok (.bipush 15, 2) := by decide +kernel
theorem dX11_bestSet_109 : decode cX11_bestSet 109 = .ok (.iaload, 1) := by decide +kernel
theorem dX11_bestSet_110 : decode cX11_bestSet 110 = .ok (.aload_n 0, 1) := by decide +kernel
theorem dX11_bestSet_111 : decode cX11_bestSet 111 = .ok (.getfield 13, 3) := by decide +kernel
theorem dX11_bestSet_114 : decode cX11_bestSet 114 = .ok (.bipush 15, 2) := by decide +kernel
theorem dX11_bestSet_116 : decode cX11_bestSet 116 = .ok (.iaload, 1) := by decide +kernel
theorem dX11_bestSet_117 : decode cX11_bestSet 117 = .ok (.isub, 1) := by decide +kernel
theorem dX11_bestSet_118 : decode cX11_bestSet 118 = .ok (.istore 8, 2) := by decide +kernel
theorem dX11_bestSet_120 : decode cX11_bestSet 120 = .ok (.iload 8, 2) := by decide +kernel
theorem dX11_bestSet_122 : decode cX11_bestSet 122 = .ok (.iload 4, 2) := by decide +kernel
theorem dX11_bestSet_124 : decode cX11_bestSet 124 = .ok (.if_icmp .gt 17, 3) := by decide +kernel
theorem dX11_bestSet_127 : decode cX11_bestSet 127 = .ok (.iload 8, 2) := by decide +kernel
theorem dX11_bestSet_129 : decode cX11_bestSet 129 = .ok (.iload 4, 2) := by decide +kernel
theorem dX11_bestSet_131 : decode cX11_bestSet 131 = .ok (.if_icmp .ne 21, 3) := by decide +kernel
theorem dX11_bestSet_134 : decode cX11_bestSet 134 = .ok (.iload 7, 2) := by decide +kernel
theorem dX11_bestSet_136 : decode cX11_bestSet 136 = .ok (.iload 5, 2) := by decide +kernel
theorem dX11_bestSet_138 : decode cX11_bestSet 138 = .ok (.if_icmp .ge 14, 3) := by decide +kernel
theorem dX11_bestSet_141 : decode cX11_bestSet 141 = .ok (.iload 6, 2) := by decide +kernel
theorem dX11_bestSet_143 : decode cX11_bestSet 143 = .ok (.istore_n 3, 1) := by decide +kernel
theorem dX11_bestSet_144 : decode cX11_bestSet 144 = .ok (.iload 8, 2) := by decide +kernel
theorem dX11_bestSet_146 : decode cX11_bestSet 146 = .ok (.istore 4, 2) := by decide +kernel
theorem dX11_bestSet_148 : decode cX11_bestSet 148 = .ok (.iload 7, 2) := by decide +kernel
theorem dX11_bestSet_150 : decode cX11_bestSet 150 = .ok (.istore 5, 2) := by decide +kernel
theorem dX11_bestSet_152 : decode cX11_bestSet 152 = .ok (.iinc 6 1, 3) := by decide +kernel
theorem dX11_bestSet_155 : decode cX11_bestSet 155 = .ok (.goto (-103), 3) := by decide +kernel
theorem dX11_bestSet_158 : decode cX11_bestSet 158 = .ok (.aload_n 0, 1) := by decide +kernel
theorem dX11_bestSet_159 : decode cX11_bestSet 159 = .ok (.invokevirtual 143, 3) := by decide +kernel
theorem dX11_bestSet_162 : decode cX11_bestSet 162 = .ok (.iload_n 1, 1) := by decide +kernel
theorem dX11_bestSet_163 : decode cX11_bestSet 163 = .ok (.ifCond .ne 7, 3) := by decide +kernel
theorem dX11_bestSet_166 : decode cX11_bestSet 166 = .ok (.iload_n 3, 1) := by decide +kernel
theorem dX11_bestSet_167 : decode cX11_bestSet 167 = .ok (.goto 5, 3) := by decide +kernel
theorem dX11_bestSet_170 : decode cX11_bestSet 170 = .ok (.iload 4, 2) := by decide +kernel
theorem dX11_bestSet_172 : decode cX11_bestSet 172 = .ok (.ireturn, 1) := by decide +kernel
theorem dX11_fewestJoined_0 : decode cX11_fewestJoined 0 = .ok (.aload_n 0, 1) := by decide +kernel
theorem dX11_fewestJoined_1 : decode cX11_fewestJoined 1 = .ok (.iload_n 1, 1) := by decide +kernel
theorem dX11_fewestJoined_2 : decode cX11_fewestJoined 2 = .ok (.invokevirtual 98, 3) := by decide +kernel
theorem dX11_fewestJoined_5 : decode cX11_fewestJoined 5 = .ok (.ifCond .ne 5, 3) := by decide +kernel
theorem dX11_fewestJoined_8 : decode cX11_fewestJoined 8 = .ok (.iconst (-1), 1) := by decide +kernel
theorem dX11_fewestJoined_9 : decode cX11_fewestJoined 9 = .ok (.ireturn, 1) := by decide +kernel
theorem dX11_fewestJoined_10 : decode cX11_fewestJoined 10 = .ok (.iload_n 2, 1) := by decide +kernel
theorem dX11_fewestJoined_11 : decode cX11_fewestJoined 11 = .ok (.iconst 1, 1) := by decide +kernel
theorem dX11_fewestJoined_12 : decode cX11_fewestJoined 12 = .ok (.sipush 5000, 3) := by decide +kernel
theorem dX11_fewestJoined_15 : decode cX11_fewestJoined 15 = .ok (.invokestatic 43, 3) := by decide +kernel
theorem dX11_fewestJoined_18 : decode cX11_fewestJoined 18 = .ok (.ifCond .ne 6, 3) := by decide +kernel
theorem dX11_fewestJoined_21 : decode cX11_fewestJoined 21 = .ok (.bipush (-2), 2) := by decide +kernel
theorem dX11_fewestJoined_23 : decode cX11_fewestJoined 23 = .ok (.ireturn, 1) := by decide +kernel
theorem dX11_fewestJoined_24 : decode cX11_fewestJoined 24 = .ok (.iconst 0, 1) := by decide +kernel
theorem dX11_fewestJoined_25 : decode cX11_fewestJoined 25 = .ok (.istore_n 3, 1) := by decide +kernel
theorem dX11_fewestJoined_26 : decode cX11_fewestJoined 26 = .ok (.iload_n 3, 1) := by decide +kernel
theorem dX11_fewestJoined_27 : decode cX11_fewestJoined 27 = .ok (.bipush 24, 2) := by decide +kernel
theorem dX11_fewestJoined_29 : decode cX11_fewestJoined 29 = .ok (.if_icmp .ge 25, 3) := by decide +kernel
theorem dX11_fewestJoined_32 : decode cX11_fewestJoined 32 = .ok (.aload_n 0, 1) := by decide +kernel
theorem dX11_fewestJoined_33 : decode cX11_fewestJoined 33 = .ok (.getfield 29, 3) := by decide +kernel
theorem dX11_fewestJoined_36 : decode cX11_fewestJoined 36 = .ok (.iload_n 3, 1) := by decide +kernel
theorem dX11_fewestJoined_37 : decode cX11_fewestJoined 37 = .ok (.iload_n 3, 1) := by decide +kernel
theorem dX11_fewestJoined_38 : decode cX11_fewestJoined 38 = .ok (.iload_n 1, 1) := by decide +kernel
theorem dX11_fewestJoined_39 : decode cX11_fewestJoined 39 = .ok (.if_icmp .ne 7, 3) := by decide +kernel
theorem dX11_fewestJoined_42 : decode cX11_fewestJoined 42 = .ok (.iconst 1, 1) := by decide +kernel
theorem dX11_fewestJoined_43 : decode cX11_fewestJoined 43 = .ok (.goto 4, 3) := by decide +kernel
theorem dX11_fewestJoined_46 : decode cX11_fewestJoined 46 = .ok (.iconst 0, 1) := by decide +kernel
theorem dX11_fewestJoined_47 : decode cX11_fewestJoined 47 = .ok (.bastore, 1) := by decide +kernel
theorem dX11_fewestJoined_48 : decode cX11_fewestJoined 48 = .ok (.iinc 3 1, 3) := by decide +kernel
theorem dX11_fewestJoined_51 : decode cX11_fewestJoined 51 = .ok (.goto (-25), 3) := by decide +kernel
theorem dX11_fewestJoined_54 : decode cX11_fewestJoined 54 = .ok (.aload_n 0, 1) := by decide +kernel
theorem dX11_fewestJoined_55 : decode cX11_fewestJoined 55 = .ok (.iload_n 1, 1) := by decide +kernel
theorem dX11_fewestJoined_56 : decode cX11_fewestJoined 56 = .ok (.iconst 3, 1) := by decide +kernel
theorem dX11_fewestJoined_57 : decode cX11_fewestJoined 57 = .ok (.invokevirtual 91, 3) := by decide +kernel
theorem dX11_fewestJoined_60 : decode cX11_fewestJoined 60 = .ok (.istore_n 3, 1) := by decide +kernel
theorem dX11_fewestJoined_61 : decode cX11_fewestJoined 61 = .ok (.iconst 1, 1) := by decide +kernel
theorem dX11_fewestJoined_62 : decode cX11_fewestJoined 62 = .ok (.istore 4, 2) := by decide +kernel
theorem dX11_fewestJoined_64 : decode cX11_fewestJoined 64 = .ok (.iload_n 3, 1) := by decide +kernel
theorem dX11_fewestJoined_65 : decode cX11_fewestJoined 65 = .ok (.iload_n 2, 1) := by decide +kernel
theorem dX11_fewestJoined_66 : decode cX11_fewestJoined 66 = .ok (.if_icmp .ge 211, 3) := by decide +kernel
theorem dX11_fewestJoined_69 : decode cX11_fewestJoined 69 = .ok (.bipush (-6), 2) := by decide +kernel
theorem dX11_fewestJoined_71 : decode cX11_fewestJoined 71 = .ok (.istore 5, 2) := by decide +kernel
theorem dX11_fewestJoined_73 : decode cX11_fewestJoined 73 = .ok (.iconst 0, 1) := by decide +kernel
theorem dX11_fewestJoined_74 : decode cX11_fewestJoined 74 = .ok (.istore 6, 2) := by decide +kernel
theorem dX11_fewestJoined_76 : decode cX11_fewestJoined 76 = .ok (.iload 6, 2) := by decide +kernel
theorem dX11_fewestJoined_78 : decode cX11_fewestJoined 78 = .ok (.aload_n 0, 1) := by decide +kernel
theorem dX11_fewestJoined_79 : decode cX11_fewestJoined 79 = .ok (.getfield 7, 3) := by decide +kernel
theorem dX11_fewestJoined_82 : decode cX11_fewestJoined 82 = .ok (.bipush 12, 2) := by decide +kernel
theorem dX11_fewestJoined_84 : decode cX11_fewestJoined 84 = .ok (.iaload, 1) := by decide +kernel
theorem dX11_fewestJoined_85 : decode cX11_fewestJoined 85 = .ok (.if_icmp .ge 153, 3) := by decide +kernel
theorem dX11_fewestJoined_88 : decode cX11_fewestJoined 88 = .ok (.aload_n 0, 1) := by decide +kernel
theorem dX11_fewestJoined_89 : decode cX11_fewestJoined 89 = .ok (.getfield 29, 3) := by decide +kernel
theorem dX11_fewestJoined_92 : decode cX11_fewestJoined 92 = .ok (.iload 6, 2) := by decide +kernel
theorem dX11_fewestJoined_94 : decode cX11_fewestJoined 94 = .ok (.baload, 1) := by decide +kernel
theorem dX11_fewestJoined_95 : decode cX11_fewestJoined 95 = .ok (.ifCond .ne 38, 3) := by decide +kernel
theorem dX11_fewestJoined_98 : decode cX11_fewestJoined 98 = .ok (.aload_n 0, 1) := by decide +kernel
theorem dX11_fewestJoined_99 : decode cX11_fewestJoined 99 = .ok (.iload 6, 2) := by decide +kernel
theorem dX11_fewestJoined_101 : decode cX11_fewestJoined 101 = .ok (.iconst 3, 1) := by decide +kernel
theorem dX11_fewestJoined_102 : decode cX11_fewestJoined 102 = .ok (.invokevirtual 91, 3) := by decide +kernel
theorem dX11_fewestJoined_105 : decode cX11_fewestJoined 105 = .ok (.aload_n 0, 1) := by decide +kernel
theorem dX11_fewestJoined_106 : decode cX11_fewestJoined 106 = .ok (.getfield 7, 3) := by decide +kernel
theorem dX11_fewestJoined_109 : decode cX11_fewestJoined 109 = .ok (.iconst 4, 1) := by decide +kernel
theorem dX11_fewestJoined_110 : decode cX11_fewestJoined 110 = .ok (.iaload, 1) := by decide +kernel
theorem dX11_fewestJoined_111 : decode cX11_fewestJoined 111 = .ok (.if_icmp .le 22, 3) := by decide +kernel
theorem dX11_fewestJoined_114 : decode cX11_fewestJoined 114 = .ok (.aload_n 0, 1) := by decide +kernel
theorem dX11_fewestJoined_115 : decode cX11_fewestJoined 115 = .ok (.iload_n 1, 1) := by decide +kernel
theorem dX11_fewestJoined_116 : decode cX11_fewestJoined 116 = .ok (.iconst 3, 1) := by decide +kernel
theorem dX11_fewestJoined_117 : decode cX11_fewestJoined 117 = .ok (.invokevirtual 91, 3) := by decide +kernel
theorem dX11_fewestJoined_120 : decode cX11_fewestJoined 120 = .ok (.aload_n 0, 1) := by decide +kernel
theorem dX11_fewestJoined_121 : decode cX11_fewestJoined 121 = .ok (.getfield 7, 3) := by decide +kernel
theorem dX11_fewestJoined_124 : decode cX11_fewestJoined 124 = .ok (.iconst 4, 1) := by decide +kernel
theorem dX11_fewestJoined_125 : decode cX11_fewestJoined 125 = .ok (.iaload, 1) := by decide +kernel
theorem dX11_fewestJoined_126 : decode cX11_fewestJoined 126 = .ok (.if_icmp .le 7, 3) := by decide +kernel
theorem dX11_fewestJoined_129 : decode cX11_fewestJoined 129 = .ok (.iconst 1, 1) := by decide +kernel
theorem dX11_fewestJoined_130 : decode cX11_fewestJoined 130 = .ok (.goto 4, 3) := by decide +kernel
theorem dX11_fewestJoined_133 : decode cX11_fewestJoined 133 = .ok (.iconst 0, 1) := by decide +kernel
theorem dX11_fewestJoined_134 : decode cX11_fewestJoined 134 = .ok (.istore 7, 2) := by decide +kernel
theorem dX11_fewestJoined_136 : decode cX11_fewestJoined 136 = .ok (.iload 7, 2) := by decide +kernel
theorem dX11_fewestJoined_138 : decode cX11_fewestJoined 138 = .ok (.ifCond .eq 55, 3) := by decide +kernel
theorem dX11_fewestJoined_141 : decode cX11_fewestJoined 141 = .ok (.aload_n 0, 1) := by decide +kernel
theorem dX11_fewestJoined_142 : decode cX11_fewestJoined 142 = .ok (.iload 6, 2) := by decide +kernel
theorem dX11_fewestJoined_144 : decode cX11_fewestJoined 144 = .ok (.iconst 0, 1) := by decide +kernel
theorem dX11_fewestJoined_145 : decode cX11_fewestJoined 145 = .ok (.invokevirtual 91, 3) := by decide +kernel
theorem dX11_fewestJoined_148 : decode cX11_fewestJoined 148 = .ok (.aload_n 0, 1) := by decide +kernel
theorem dX11_fewestJoined_149 : decode cX11_fewestJoined 149 = .ok (.iload_n 1, 1) := by decide +kernel
theorem dX11_fewestJoined_150 : decode cX11_fewestJoined 150 = .ok (.iconst 0, 1) := by decide +kernel
theorem dX11_fewestJoined_151 : decode cX11_fewestJoined 151 = .ok (.invokevirtual 91, 3) := by decide +kernel
theorem dX11_fewestJoined_154 : decode cX11_fewestJoined 154 = .ok (.if_icmp .ne 39, 3) := by decide +kernel
theorem dX11_fewestJoined_157 : decode cX11_fewestJoined 157 = .ok (.aload_n 0, 1) := by decide +kernel
theorem dX11_fewestJoined_158 : decode cX11_fewestJoined 158 = .ok (.iload 6, 2) := by decide +kernel
theorem dX11_fewestJoined_160 : decode cX11_fewestJoined 160 = .ok (.iconst 1, 1) := by decide +kernel
theorem dX11_fewestJoined_161 : decode cX11_fewestJoined 161 = .ok (.invokevirtual 91, 3) := by decide +kernel
theorem dX11_fewestJoined_164 : decode cX11_fewestJoined 164 = .ok (.aload_n 0, 1) := by decide +kernel
theorem dX11_fewestJoined_165 : decode cX11_fewestJoined 165 = .ok (.iload_n 1, 1) := by decide +kernel
theorem dX11_fewestJoined_166 : decode cX11_fewestJoined 166 = .ok (.iconst 1, 1) := by decide +kernel
theorem dX11_fewestJoined_167 : decode cX11_fewestJoined 167 = .ok (.invokevirtual 91, 3) := by decide +kernel
theorem dX11_fewestJoined_170 : decode cX11_fewestJoined 170 = .ok (.if_icmp .ne 23, 3) := by decide +kernel
theorem dX11_fewestJoined_173 : decode cX11_fewestJoined 173 = .ok (.aload_n 0, 1) := by decide +kernel
theorem dX11_fewestJoined_174 : decode cX11_fewestJoined 174 = .ok (.iload 6, 2) := by decide +kernel
theorem dX11_fewestJoined_176 : decode cX11_fewestJoined 176 = .ok (.iconst 2, 1) := by decide +kernel
theorem dX11_fewestJoined_177 : decode cX11_fewestJoined 177 = .ok (.invokevirtual 91, 3) := by decide +kernel
theorem dX11_fewestJoined_180 : decode cX11_fewestJoined 180 = .ok (.aload_n 0, 1) := by decide +kernel
theorem dX11_fewestJoined_181 : decode cX11_fewestJoined 181 = .ok (.iload_n 1, 1) := by decide +kernel
theorem dX11_fewestJoined_182 : decode cX11_fewestJoined 182 = .ok (.iconst 2, 1) := by decide +kernel
theorem dX11_fewestJoined_183 : decode cX11_fewestJoined 183 = .ok (.invokevirtual 91, 3) := by decide +kernel
theorem dX11_fewestJoined_186 : decode cX11_fewestJoined 186 = .ok (.if_icmp .ne 7, 3) := by decide +kernel
theorem dX11_fewestJoined_189 : decode cX11_fewestJoined 189 = .ok (.iconst 1, 1) := by decide +kernel
theorem dX11_fewestJoined_190 : decode cX11_fewestJoined 190 = .ok (.goto 4, 3) := by decide +kernel
theorem dX11_fewestJoined_193 : decode cX11_fewestJoined 193 = .ok (.iconst 0, 1) := by decide +kernel
theorem dX11_fewestJoined_194 : decode cX11_fewestJoined 194 = .ok (.istore 7, 2) := by decide +kernel
theorem dX11_fewestJoined_196 : decode cX11_fewestJoined 196 = .ok (.iload 7, 2) := by decide +kernel
theorem dX11_fewestJoined_198 : decode cX11_fewestJoined 198 = .ok (.ifCond .eq 30, 3) := by decide +kernel
theorem dX11_fewestJoined_201 : decode cX11_fewestJoined 201 = .ok (.iload 5, 2) := by decide +kernel
theorem dX11_fewestJoined_203 : decode cX11_fewestJoined 203 = .ok (.ifCond .lt 20, 3) := by decide +kernel
theorem dX11_fewestJoined_206 : decode cX11_fewestJoined 206 = .ok (.aload_n 0, 1) := by decide +kernel
theorem dX11_fewestJoined_207 : decode cX11_fewestJoined 207 = .ok (.iload 6, 2) := by decide +kernel
theorem dX11_fewestJoined_209 : decode cX11_fewestJoined 209 = .ok (.iconst 3, 1) := by decide +kernel
theorem dX11_fewestJoined_210 : decode cX11_fewestJoined 210 = .ok (.invokevirtual 91, 3) := by decide +kernel
theorem dX11_fewestJoined_213 : decode cX11_fewestJoined 213 = .ok (.aload_n 0, 1) := by decide +kernel
theorem dX11_fewestJoined_214 : decode cX11_fewestJoined 214 = .ok (.iload 5, 2) := by decide +kernel
theorem dX11_fewestJoined_216 : decode cX11_fewestJoined 216 = .ok (.iconst 3, 1) := by decide +kernel
theorem dX11_fewestJoined_217 : decode cX11_fewestJoined 217 = .ok (.invokevirtual 91, 3) := by decide +kernel
theorem dX11_fewestJoined_220 : decode cX11_fewestJoined 220 = .ok (.if_icmp .le 8, 3) := by decide +kernel
theorem dX11_fewestJoined_223 : decode cX11_fewestJoined 223 = .ok (.iload 6, 2) := by decide +kernel
theorem dX11_fewestJoined_225 : decode cX11_fewestJoined 225 = .ok (.goto 5, 3) := by decide +kernel
theorem dX11_fewestJoined_228 : decode cX11_fewestJoined 228 = .ok (.iload 5, 2) := by decide +kernel
theorem dX11_fewestJoined_230 : decode cX11_fewestJoined 230 = .ok (.istore 5, 2) := by decide +kernel
theorem dX11_fewestJoined_232 : decode cX11_fewestJoined 232 = .ok (.iinc 6 1, 3) := by decide +kernel
theorem dX11_fewestJoined_235 : decode cX11_fewestJoined 235 = .ok (.goto (-159), 3) := by decide +kernel
theorem dX11_fewestJoined_238 : decode cX11_fewestJoined 238 = .ok (.iload 5, 2) := by decide +kernel
theorem dX11_fewestJoined_240 : decode cX11_fewestJoined 240 = .ok (.ifCond .ge 6, 3) := by decide +kernel
theorem dX11_fewestJoined_243 : decode cX11_fewestJoined 243 = .ok (.bipush (-6), 2) := by decide +kernel
theorem dX11_fewestJoined_245 : decode cX11_fewestJoined 245 = .ok (.ireturn, 1) := by decide +kernel
theorem dX11_fewestJoined_246 : decode cX11_fewestJoined 246 = .ok (.aload_n 0, 1) := by decide +kernel
theorem dX11_fewestJoined_247 : decode cX11_fewestJoined 247 = .ok (.getfield 29, 3) := by decide +kernel
theorem dX11_fewestJoined_250 : decode cX11_fewestJoined 250 = .ok (.iload 5, 2) := by decide +kernel
theorem dX11_fewestJoined_252 : decode cX11_fewestJoined 252 = .ok (.iconst 1, 1) := by decide +kernel
theorem dX11_fewestJoined_253 : decode cX11_fewestJoined 253 = .ok (.bastore, 1) := by decide +kernel
theorem dX11_fewestJoined_254 : decode cX11_fewestJoined 254 = .ok (.iload_n 3, 1) := by decide +kernel
theorem dX11_fewestJoined_255 : decode cX11_fewestJoined 255 = .ok (.aload_n 0, 1) := by decide +kernel
theorem dX11_fewestJoined_256 : decode cX11_fewestJoined 256 = .ok (.iload 5, 2) := by decide +kernel
theorem dX11_fewestJoined_258 : decode cX11_fewestJoined 258 = .ok (.iconst 3, 1) := by decide +kernel
theorem dX11_fewestJoined_259 : decode cX11_fewestJoined 259 = .ok (.invokevirtual 91, 3) := by decide +kernel
theorem dX11_fewestJoined_262 : decode cX11_fewestJoined 262 = .ok (.aload_n 0, 1) := by decide +kernel
theorem dX11_fewestJoined_263 : decode cX11_fewestJoined 263 = .ok (.getfield 7, 3) := by decide +kernel
theorem dX11_fewestJoined_266 : decode cX11_fewestJoined 266 = .ok (.iconst 4, 1) := by decide +kernel
theorem dX11_fewestJoined_267 : decode cX11_fewestJoined 267 = .ok (.iaload, 1) := by decide +kernel
theorem dX11_fewestJoined_268 : decode cX11_fewestJoined 268 = .ok (.isub, 1) := by decide +kernel
theorem dX11_fewestJoined_269 : decode cX11_fewestJoined 269 = .ok (.iadd, 1) := by decide +kernel
theorem dX11_fewestJoined_270 : decode cX11_fewestJoined 270 = .ok (.istore_n 3, 1) := by decide +kernel
theorem dX11_fewestJoined_271 : decode cX11_fewestJoined 271 = .ok (.iinc 4 1, 3) := by decide +kernel
theorem dX11_fewestJoined_274 : decode cX11_fewestJoined 274 = .ok (.goto (-210), 3) := by decide +kernel
theorem dX11_fewestJoined_277 : decode cX11_fewestJoined 277 = .ok (.iload 4, 2) := by decide +kernel
theorem dX11_fewestJoined_279 : decode cX11_fewestJoined 279 = .ok (.ireturn, 1) := by decide +kernel
theorem dX11_finesIn_0 : decode cX11_finesIn 0 = .ok (.iload_n 1, 1) := by decide +kernel
theorem dX11_finesIn_1 : decode cX11_finesIn 1 = .ok (.iconst 1, 1) := by decide +kernel
theorem dX11_finesIn_2 : decode cX11_finesIn 2 = .ok (.sipush 200, 3) := by decide +kernel
theorem dX11_finesIn_5 : decode cX11_finesIn 5 = .ok (.invokestatic 43, 3) := by decide +kernel
theorem dX11_finesIn_8 : decode cX11_finesIn 8 = .ok (.ifCond .eq 11, 3) := by decide +kernel
theorem dX11_finesIn_11 : decode cX11_finesIn 11 = .ok (.aload_n 0, 1) := by decide +kernel
theorem dX11_finesIn_12 : decode cX11_finesIn 12 = .ok (.iload_n 1, 1) := by decide +kernel
theorem dX11_finesIn_13 : decode cX11_finesIn 13 = .ok (.invokevirtual 127, 3) := by decide +kernel
theorem dX11_finesIn_16 : decode cX11_finesIn 16 = .ok (.goto 5, 3) := by decide +kernel
theorem dX11_finesIn_19 : decode cX11_finesIn 19 = .ok (.bipush (-2), 2) := by decide +kernel
theorem dX11_finesIn_21 : decode cX11_finesIn 21 = .ok (.ireturn, 1) := by decide +kernel
theorem dX11_sign_0 : decode cX11_sign 0 = .ok (.aload_n 0, 1) := by decide +kernel
theorem dX11_sign_1 : decode cX11_sign 1 = .ok (.getfield 146, 3) := by decide +kernel
theorem dX11_sign_4 : decode cX11_sign 4 = .ok (.aload_n 0, 1) := by decide +kernel
theorem dX11_sign_5 : decode cX11_sign 5 = .ok (.getfield 133, 3) := by decide +kernel
theorem dX11_sign_8 : decode cX11_sign 8 = .ok (.if_icmp .ge 15, 3) := by decide +kernel
theorem dX11_sign_11 : decode cX11_sign 11 = .ok (.aload_n 0, 1) := by decide +kernel
theorem dX11_sign_12 : decode cX11_sign 12 = .ok (.getfield 26, 3) := by decide +kernel
theorem dX11_sign_15 : decode cX11_sign 15 = .ok (.aload_n 0, 1) := by decide +kernel
theorem dX11_sign_16 : decode cX11_sign 16 = .ok (.getfield 146, 3) := by decide +kernel
theorem dX11_sign_19 : decode cX11_sign 19 = .ok (.iaload, 1) := by decide +kernel
theorem dX11_sign_20 : decode cX11_sign 20 = .ok (.goto 4, 3) := by decide +kernel
theorem dX11_sign_23 : decode cX11_sign 23 = .ok (.iconst 0, 1) := by decide +kernel
theorem dX11_sign_24 : decode cX11_sign 24 = .ok (.ireturn, 1) := by decide +kernel
theorem dX11_need_0 : decode cX11_need 0 = .ok (.aload_n 0, 1) := by decide +kernel
theorem dX11_need_1 : decode cX11_need 1 = .ok (.aload_n 0, 1) := by decide +kernel
theorem dX11_need_2 : decode cX11_need 2 = .ok (.getfield 149, 3) := by decide +kernel
theorem dX11_need_5 : decode cX11_need 5 = .ok (.ifCond .ne 11, 3) := by decide +kernel
theorem dX11_need_8 : decode cX11_need 8 = .ok (.aload_n 0, 1) := by decide +kernel
theorem dX11_need_9 : decode cX11_need 9 = .ok (.invokevirtual 152, 3) := by decide +kernel
theorem dX11_need_12 : decode cX11_need 12 = .ok (.iload_n 1, 1) := by decide +kernel
theorem dX11_need_13 : decode cX11_need 13 = .ok (.if_icmp .eq 7, 3) := by decide +kernel
theorem dX11_need_16 : decode cX11_need 16 = .ok (.iconst 1, 1) := by decide +kernel
theorem dX11_need_17 : decode cX11_need 17 = .ok (.goto 4, 3) := by decide +kernel
theorem dX11_need_20 : decode cX11_need 20 = .ok (.iconst 0, 1) := by decide +kernel
theorem dX11_need_21 : decode cX11_need 21 = .ok (.putfield 149, 3) := by decide +kernel
theorem dX11_need_24 : decode cX11_need 24 = .ok (.aload_n 0, 1) := by decide +kernel
theorem dX11_need_25 : decode cX11_need 25 = .ok (.dup, 1) := by decide +kernel
theorem dX11_need_26 : decode cX11_need 26 = .ok (.getfield 146, 3) := by decide +kernel
theorem dX11_need_29 : decode cX11_need 29 = .ok (.aload_n 0, 1) := by decide +kernel
theorem dX11_need_30 : decode cX11_need 30 = .ok (.getfield 149, 3) := by decide +kernel
theorem dX11_need_33 : decode cX11_need 33 = .ok (.ifCond .eq 7, 3) := by decide +kernel
theorem dX11_need_36 : decode cX11_need 36 = .ok (.iconst 0, 1) := by decide +kernel
theorem dX11_need_37 : decode cX11_need 37 = .ok (.goto 4, 3) := by decide +kernel
theorem dX11_need_40 : decode cX11_need 40 = .ok (.iconst 1, 1) := by decide +kernel
theorem dX11_need_41 : decode cX11_need 41 = .ok (.iadd, 1) := by decide +kernel
theorem dX11_need_42 : decode cX11_need 42 = .ok (.putfield 146, 3) := by decide +kernel
theorem dX11_need_45 : decode cX11_need 45 = .ok (.return_, 1) := by decide +kernel
theorem dX11_digit_0 : decode cX11_digit 0 = .ok (.aload_n 0, 1) := by decide +kernel
theorem dX11_digit_1 : decode cX11_digit 1 = .ok (.invokevirtual 152, 3) := by decide +kernel
theorem dX11_digit_4 : decode cX11_digit 4 = .ok (.bipush 48, 2) := by decide +kernel
theorem dX11_digit_6 : decode cX11_digit 6 = .ok (.isub, 1) := by decide +kernel
theorem dX11_digit_7 : decode cX11_digit 7 = .ok (.istore_n 3, 1) := by decide +kernel
theorem dX11_digit_8 : decode cX11_digit 8 = .ok (.aload_n 0, 1) := by decide +kernel
theorem dX11_digit_9 : decode cX11_digit 9 = .ok (.aload_n 0, 1) := by decide +kernel
theorem dX11_digit_10 : decode cX11_digit 10 = .ok (.getfield 149, 3) := by decide +kernel
theorem dX11_digit_13 : decode cX11_digit 13 = .ok (.ifCond .ne 12, 3) := by decide +kernel
theorem dX11_digit_16 : decode cX11_digit 16 = .ok (.iload_n 3, 1) := by decide +kernel
theorem dX11_digit_17 : decode cX11_digit 17 = .ok (.iload_n 1, 1) := by decide +kernel
theorem dX11_digit_18 : decode cX11_digit 18 = .ok (.iload_n 2, 1) := by decide +kernel
theorem dX11_digit_19 : decode cX11_digit 19 = .ok (.invokestatic 43, 3) := by decide +kernel
theorem dX11_digit_22 : decode cX11_digit 22 = .ok (.ifCond .ne 7, 3) := by decide +kernel
theorem dX11_digit_25 : decode cX11_digit 25 = .ok (.iconst 1, 1) := by decide +kernel
theorem dX11_digit_26 : decode cX11_digit 26 = .ok (.goto 4, 3) := by decide +kernel
theorem dX11_digit_29 : decode cX11_digit 29 = .ok (.iconst 0, 1) := by decide +kernel
theorem dX11_digit_30 : decode cX11_digit 30 = .ok (.putfield 149, 3) := by decide +kernel
theorem dX11_digit_33 : decode cX11_digit 33 = .ok (.aload_n 0, 1) := by decide +kernel
theorem dX11_digit_34 : decode cX11_digit 34 = .ok (.dup, 1) := by decide +kernel
theorem dX11_digit_35 : decode cX11_digit 35 = .ok (.getfield 146, 3) := by decide +kernel
theorem dX11_digit_38 : decode cX11_digit 38 = .ok (.aload_n 0, 1) := by decide +kernel
theorem dX11_digit_39 : decode cX11_digit 39 = .ok (.getfield 149, 3) := by decide +kernel
theorem dX11_digit_42 : decode cX11_digit 42 = .ok (.ifCond .eq 7, 3) := by decide +kernel
theorem dX11_digit_45 : decode cX11_digit 45 = .ok (.iconst 0, 1) := by decide +kernel
theorem dX11_digit_46 : decode cX11_digit 46 = .ok (.goto 4, 3) := by decide +kernel
theorem dX11_digit_49 : decode cX11_digit 49 = .ok (.iconst 1, 1) := by decide +kernel
theorem dX11_digit_50 : decode cX11_digit 50 = .ok (.iadd, 1) := by decide +kernel
theorem dX11_digit_51 : decode cX11_digit 51 = .ok (.putfield 146, 3) := by decide +kernel
theorem dX11_digit_54 : decode cX11_digit 54 = .ok (.aload_n 0, 1) := by decide +kernel
theorem dX11_digit_55 : decode cX11_digit 55 = .ok (.getfield 149, 3) := by decide +kernel
theorem dX11_digit_58 : decode cX11_digit 58 = .ok (.ifCond .eq 7, 3) := by decide +kernel
theorem dX11_digit_61 : decode cX11_digit 61 = .ok (.iconst 0, 1) := by decide +kernel
theorem dX11_digit_62 : decode cX11_digit 62 = .ok (.goto 4, 3) := by decide +kernel
theorem dX11_digit_65 : decode cX11_digit 65 = .ok (.iload_n 3, 1) := by decide +kernel
theorem dX11_digit_66 : decode cX11_digit 66 = .ok (.ireturn, 1) := by decide +kernel
theorem dX11_number_0 : decode cX11_number 0 = .ok (.aload_n 0, 1) := by decide +kernel
theorem dX11_number_1 : decode cX11_number 1 = .ok (.iconst 0, 1) := by decide +kernel
theorem dX11_number_2 : decode cX11_number 2 = .ok (.bipush 9, 2) := by decide +kernel
theorem dX11_number_4 : decode cX11_number 4 = .ok (.invokevirtual 155, 3) := by decide +kernel
theorem dX11_number_7 : decode cX11_number 7 = .ok (.istore_n 1, 1) := by decide +kernel
theorem dX11_number_8 : decode cX11_number 8 = .ok (.aload_n 0, 1) := by decide +kernel
theorem dX11_number_9 : decode cX11_number 9 = .ok (.getfield 149, 3) := by decide +kernel
theorem dX11_number_12 : decode cX11_number 12 = .ok (.ifCond .ne 64, 3) := by decide +kernel
theorem dX11_number_15 : decode cX11_number 15 = .ok (.iload_n 1, 1) := by decide +kernel
theorem dX11_number_16 : decode cX11_number 16 = .ok (.ifCond .le 60, 3) := by decide +kernel
theorem dX11_number_19 : decode cX11_number 19 = .ok (.aload_n 0, 1) := by decide +kernel
theorem dX11_number_20 : decode cX11_number 20 = .ok (.invokevirtual 152, 3) := by decide +kernel
theorem dX11_number_23 : decode cX11_number 23 = .ok (.bipush 48, 2) := by decide +kernel
theorem dX11_number_25 : decode cX11_number 25 = .ok (.bipush 57, 2) := by decide +kernel
theorem dX11_number_27 : decode cX11_number 27 = .ok (.invokestatic 43, 3) := by decide +kernel
theorem dX11_number_30 : decode cX11_number 30 = .ok (.ifCond .eq 46, 3) := by decide +kernel
theorem dX11_number_33 : decode cX11_number 33 = .ok (.bipush 10, 2) := by decide +kernel
theorem dX11_number_35 : decode cX11_number 35 = .ok (.iload_n 1, 1) := by decide +kernel
theorem dX11_number_36 : decode cX11_number 36 = .ok (.imul, 1) := by decide +kernel
theorem dX11_number_37 : decode cX11_number 37 = .ok (.aload_n 0, 1) := by decide +kernel
theorem dX11_number_38 : decode cX11_number 38 = .ok (.invokevirtual 152, 3) := by decide +kernel
theorem dX11_number_41 : decode cX11_number 41 = .ok (.iadd, 1) := by decide +kernel
theorem dX11_number_42 : decode cX11_number 42 = .ok (.bipush 48, 2) := by decide +kernel
theorem dX11_number_44 : decode cX11_number 44 = .ok (.isub, 1) := by decide +kernel
theorem dX11_number_45 : decode cX11_number 45 = .ok (.ldc 158, 2) := by decide +kernel
theorem dX11_number_47 : decode cX11_number 47 = .ok (.if_icmp .gt 29, 3) := by decide +kernel
theorem dX11_number_50 : decode cX11_number 50 = .ok (.bipush 10, 2) := by decide +kernel
theorem dX11_number_52 : decode cX11_number 52 = .ok (.iload_n 1, 1) := by decide +kernel
theorem dX11_number_53 : decode cX11_number 53 = .ok (.imul, 1) := by decide +kernel
theorem dX11_number_54 : decode cX11_number 54 = .ok (.aload_n 0, 1) := by decide +kernel
theorem dX11_number_55 : decode cX11_number 55 = .ok (.invokevirtual 152, 3) := by decide +kernel
theorem dX11_number_58 : decode cX11_number 58 = .ok (.iadd, 1) := by decide +kernel
theorem dX11_number_59 : decode cX11_number 59 = .ok (.bipush 48, 2) := by decide +kernel
theorem dX11_number_61 : decode cX11_number 61 = .ok (.isub, 1) := by decide +kernel
theorem dX11_number_62 : decode cX11_number 62 = .ok (.istore_n 1, 1) := by decide +kernel
theorem dX11_number_63 : decode cX11_number 63 = .ok (.aload_n 0, 1) := by decide +kernel
theorem dX11_number_64 : decode cX11_number 64 = .ok (.dup, 1) := by decide +kernel
theorem dX11_number_65 : decode cX11_number 65 = .ok (.getfield 146, 3) := by decide +kernel
theorem dX11_number_68 : decode cX11_number 68 = .ok (.iconst 1, 1) := by decide +kernel
theorem dX11_number_69 : decode cX11_number 69 = .ok (.iadd, 1) := by decide +kernel
theorem dX11_number_70 : decode cX11_number 70 = .ok (.putfield 146, 3) := by decide +kernel
theorem dX11_number_73 : decode cX11_number 73 = .ok (.goto (-65), 3) := by decide +kernel
theorem dX11_number_76 : decode cX11_number 76 = .ok (.iload_n 1, 1) := by decide +kernel
theorem dX11_number_77 : decode cX11_number 77 = .ok (.ireturn, 1) := by decide +kernel
theorem dX11_readOne_0 : decode cX11_readOne 0 = .ok (.iconst 5, 1) := by decide +kernel
theorem dX11_readOne_1 : decode cX11_readOne 1 = .ok (.aload_n 0, 1) := by decide +kernel
theorem dX11_readOne_2 : decode cX11_readOne 2 = .ok (.getfield 159, 3) := by decide +kernel
theorem dX11_readOne_5 : decode cX11_readOne 5 = .ok (.imul, 1) := by decide +kernel
theorem dX11_readOne_6 : decode cX11_readOne 6 = .ok (.istore_n 1, 1) := by decide +kernel
theorem dX11_readOne_7 : decode cX11_readOne 7 = .ok (.aload_n 0, 1) := by decide +kernel
theorem dX11_readOne_8 : decode cX11_readOne 8 = .ok (.invokevirtual 152, 3) := by decide +kernel
theorem dX11_readOne_11 : decode cX11_readOne 11 = .ok (.istore_n 2, 1) := by decide +kernel
theorem dX11_readOne_12 : decode cX11_readOne 12 = .ok (.aload_n 0, 1) := by decide +kernel
theorem dX11_readOne_13 : decode cX11_readOne 13 = .ok (.getfield 32, 3) := by decide +kernel
theorem dX11_readOne_16 : decode cX11_readOne 16 = .ok (.iload_n 1, 1) := by decide +kernel
theorem dX11_readOne_17 : decode cX11_readOne 17 = .ok (.iload_n 2, 1) := by decide +kernel
theorem dX11_readOne_18 : decode cX11_readOne 18 = .ok (.iastore, 1) := by decide +kernel
theorem dX11_readOne_19 : decode cX11_readOne 19 = .ok (.aload_n 0, 1) := by decide +kernel
theorem dX11_readOne_20 : decode cX11_readOne 20 = .ok (.aload_n 0, 1) := by decide +kernel
theorem dX11_readOne_21 : decode cX11_readOne 21 = .ok (.getfield 149, 3) := by decide +kernel
theorem dX11_readOne_24 : decode cX11_readOne 24 = .ok (.ifCond .ne 39, 3) := by decide +kernel
theorem dX11_readOne_27 : decode cX11_readOne 27 = .ok (.iload_n 2, 1) := by decide +kernel
theorem dX11_readOne_28 : decode cX11_readOne 28 = .ok (.bipush 121, 2) := by decide +kernel
theorem dX11_readOne_30 : decode cX11_readOne 30 = .ok (.if_icmp .eq 37, 3) := by decide +kernel
theorem dX11_readOne_33 : decode cX11_readOne 33 = .ok (.iload_n 2, 1) := by decide +kernel
theorem dX11_readOne_34 : decode cX11_readOne 34 = .ok (.bipush 108, 2) := by decide +kernel
theorem dX11_readOne_36 : decode cX11_readOne 36 = .ok (.if_icmp .eq 31, 3) := by decide +kernel
theorem dX11_readOne_39 : decode cX11_readOne 39 = .ok (.iload_n 2, 1) := by decide +kernel
theorem dX11_readOne_40 : decode cX11_readOne 40 = .ok (.bipush 106, 2) := by decide +kernel
theorem dX11_readOne_42 : decode cX11_readOne 42 = .ok (.if_icmp .eq 25, 3) := by decide +kernel
theorem dX11_readOne_45 : decode cX11_readOne 45 = .ok (.iload_n 2, 1) := by decide +kernel
theorem dX11_readOne_46 : decode cX11_readOne 46 = .ok (.bipush 116, 2) := by decide +kernel
theorem dX11_readOne_48 : decode cX11_readOne 48 = .ok (.if_icmp .eq 19, 3) := by decide +kernel
theorem dX11_readOne_51 : decode cX11_readOne 51 = .ok (.iload_n 2, 1) := by decide +kernel
theorem dX11_readOne_52 : decode cX11_readOne 52 = .ok (.bipush 102, 2) := by decide +kernel
theorem dX11_readOne_54 : decode cX11_readOne 54 = .ok (.if_icmp .eq 13, 3) := by decide +kernel
theorem dX11_readOne_57 : decode cX11_readOne 57 = .ok (.iload_n 2, 1) := by decide +kernel
theorem dX11_readOne_58 : decode cX11_readOne 58 = .ok (.bipush 100, 2) := by decide +kernel
theorem dX11_readOne_60 : decode cX11_readOne 60 = .ok (.if_icmp .eq 7, 3) := by decide +kernel
theorem dX11_readOne_63 : decode cX11_readOne 63 = .ok (.iconst 1, 1) := by decide +kernel
theorem dX11_readOne_64 : decode cX11_readOne 64 = .ok (.goto 4, 3) := by decide +kernel
theorem dX11_readOne_67 : decode cX11_readOne 67 = .ok (.iconst 0, 1) := by decide +kernel
theorem dX11_readOne_68 : decode cX11_readOne 68 = .ok (.putfield 149, 3) := by decide +kernel
theorem dX11_readOne_71 : decode cX11_readOne 71 = .ok (.aload_n 0, 1) := by decide +kernel
theorem dX11_readOne_72 : decode cX11_readOne 72 = .ok (.getfield 149, 3) := by decide +kernel
theorem dX11_readOne_75 : decode cX11_readOne 75 = .ok (.ifCond .eq 4, 3) := by decide +kernel
theorem dX11_readOne_78 : decode cX11_readOne 78 = .ok (.return_, 1) := by decide +kernel
theorem dX11_readOne_79 : decode cX11_readOne 79 = .ok (.aload_n 0, 1) := by decide +kernel
theorem dX11_readOne_80 : decode cX11_readOne 80 = .ok (.dup, 1) := by decide +kernel
theorem dX11_readOne_81 : decode cX11_readOne 81 = .ok (.getfield 146, 3) := by decide +kernel
theorem dX11_readOne_84 : decode cX11_readOne 84 = .ok (.iconst 1, 1) := by decide +kernel
theorem dX11_readOne_85 : decode cX11_readOne 85 = .ok (.iadd, 1) := by decide +kernel
theorem dX11_readOne_86 : decode cX11_readOne 86 = .ok (.putfield 146, 3) := by decide +kernel
theorem dX11_readOne_89 : decode cX11_readOne 89 = .ok (.iload_n 2, 1) := by decide +kernel
theorem dX11_readOne_90 : decode cX11_readOne 90 = .ok (.lookupswitch 175 #[(106, 142), (108, 69), (121, 34)], 34) := by decide +kernel
theorem dX11_readOne_124 : decode cX11_readOne 124 = .ok (.aload_n 0, 1) := by decide +kernel
theorem dX11_readOne_125 : decode cX11_readOne 125 = .ok (.getfield 32, 3) := by decide +kernel
theorem dX11_readOne_128 : decode cX11_readOne 128 = .ok (.iload_n 1, 1) := by decide +kernel
theorem dX11_readOne_129 : decode cX11_readOne 129 = .ok (.iconst 1, 1) := by decide +kernel
theorem dX11_readOne_130 : decode cX11_readOne 130 = .ok (.iadd, 1) := by decide +kernel
theorem dX11_readOne_131 : decode cX11_readOne 131 = .ok (.aload_n 0, 1) := by decide +kernel
theorem dX11_readOne_132 : decode cX11_readOne 132 = .ok (.iconst 0, 1) := by decide +kernel
theorem dX11_readOne_133 : decode cX11_readOne 133 = .ok (.iconst 2, 1) := by decide +kernel
theorem dX11_readOne_134 : decode cX11_readOne 134 = .ok (.invokevirtual 155, 3) := by decide +kernel
theorem dX11_readOne_137 : decode cX11_readOne 137 = .ok (.iastore, 1) := by decide +kernel
theorem dX11_readOne_138 : decode cX11_readOne 138 = .ok (.aload_n 0, 1) := by decide +kernel
theorem dX11_readOne_139 : decode cX11_readOne 139 = .ok (.bipush 43, 2) := by decide +kernel
theorem dX11_readOne_141 : decode cX11_readOne 141 = .ok (.invokevirtual 162, 3) := by decide +kernel
theorem dX11_readOne_144 : decode cX11_readOne 144 = .ok (.aload_n 0, 1) := by decide +kernel
theorem dX11_readOne_145 : decode cX11_readOne 145 = .ok (.getfield 32, 3) := by decide +kernel
theorem dX11_readOne_148 : decode cX11_readOne 148 = .ok (.iload_n 1, 1) := by decide +kernel
theorem dX11_readOne_149 : decode cX11_readOne 149 = .ok (.iconst 2, 1) := by decide +kernel
theorem dX11_readOne_150 : decode cX11_readOne 150 = .ok (.iadd, 1) := by decide +kernel
theorem dX11_readOne_151 : decode cX11_readOne 151 = .ok (.aload_n 0, 1) := by decide +kernel
theorem dX11_readOne_152 : decode cX11_readOne 152 = .ok (.invokevirtual 165, 3) := by decide +kernel
theorem dX11_readOne_155 : decode cX11_readOne 155 = .ok (.iastore, 1) := by decide +kernel
theorem dX11_readOne_156 : decode cX11_readOne 156 = .ok (.goto 121, 3) := by decide +kernel
theorem dX11_readOne_159 : decode cX11_readOne 159 = .ok (.aload_n 0, 1) := by decide +kernel
theorem dX11_readOne_160 : decode cX11_readOne 160 = .ok (.getfield 32, 3) := by decide +kernel
theorem dX11_readOne_163 : decode cX11_readOne 163 = .ok (.iload_n 1, 1) := by decide +kernel
theorem dX11_readOne_164 : decode cX11_readOne 164 = .ok (.iconst 1, 1) := by decide +kernel
theorem dX11_readOne_165 : decode cX11_readOne 165 = .ok (.iadd, 1) := by decide +kernel
theorem dX11_readOne_166 : decode cX11_readOne 166 = .ok (.aload_n 0, 1) := by decide +kernel
theorem dX11_readOne_167 : decode cX11_readOne 167 = .ok (.iconst 0, 1) := by decide +kernel
theorem dX11_readOne_168 : decode cX11_readOne 168 = .ok (.iconst 2, 1) := by decide +kernel
theorem dX11_readOne_169 : decode cX11_readOne 169 = .ok (.invokevirtual 155, 3) := by decide +kernel
theorem dX11_readOne_172 : decode cX11_readOne 172 = .ok (.iastore, 1) := by decide +kernel
theorem dX11_readOne_173 : decode cX11_readOne 173 = .ok (.aload_n 0, 1) := by decide +kernel
theorem dX11_readOne_174 : decode cX11_readOne 174 = .ok (.bipush 58, 2) := by decide +kernel
theorem dX11_readOne_176 : decode cX11_readOne 176 = .ok (.invokevirtual 162, 3) := by decide +kernel
theorem dX11_readOne_179 : decode cX11_readOne 179 = .ok (.aload_n 0, 1) := by decide +kernel
theorem dX11_readOne_180 : decode cX11_readOne 180 = .ok (.getfield 32, 3) := by decide +kernel
theorem dX11_readOne_183 : decode cX11_readOne 183 = .ok (.iload_n 1, 1) := by decide +kernel
theorem dX11_readOne_184 : decode cX11_readOne 184 = .ok (.iconst 2, 1) := by decide +kernel
theorem dX11_readOne_185 : decode cX11_readOne 185 = .ok (.iadd, 1) := by decide +kernel
theorem dX11_readOne_186 : decode cX11_readOne 186 = .ok (.aload_n 0, 1) := by decide +kernel
theorem dX11_readOne_187 : decode cX11_readOne 187 = .ok (.iconst 3, 1) := by decide +kernel
theorem dX11_readOne_188 : decode cX11_readOne 188 = .ok (.iconst 4, 1) := by decide +kernel
theorem dX11_readOne_189 : decode cX11_readOne 189 = .ok (.invokevirtual 155, 3) := by decide +kernel
theorem dX11_readOne_192 : decode cX11_readOne 192 = .ok (.iastore, 1) := by decide +kernel
theorem dX11_readOne_193 : decode cX11_readOne 193 = .ok (.aload_n 0, 1) := by decide +kernel
theorem dX11_readOne_194 : decode cX11_readOne 194 = .ok (.bipush 120, 2) := by decide +kernel
theorem dX11_readOne_196 : decode cX11_readOne 196 = .ok (.invokevirtual 162, 3) := by decide +kernel
theorem dX11_readOne_199 : decode cX11_readOne 199 = .ok (.aload_n 0, 1) := by decide +kernel
theorem dX11_readOne_200 : decode cX11_readOne 200 = .ok (.getfield 32, 3) := by decide +kernel
theorem dX11_readOne_203 : decode cX11_readOne 203 = .ok (.iload_n 1, 1) := by decide +kernel
theorem dX11_readOne_204 : decode cX11_readOne 204 = .ok (.iconst 3, 1) := by decide +kernel
theorem dX11_readOne_205 : decode cX11_readOne 205 = .ok (.iadd, 1) := by decide +kernel
theorem dX11_readOne_206 : decode cX11_readOne 206 = .ok (.aload_n 0, 1) := by decide +kernel
theorem dX11_readOne_207 : decode cX11_readOne 207 = .ok (.invokevirtual 165, 3) := by decide +kernel
theorem dX11_readOne_210 : decode cX11_readOne 210 = .ok (.iastore, 1) := by decide +kernel
theorem dX11_readOne_211 : decode cX11_readOne 211 = .ok (.aload_n 0, 1) := by decide +kernel
theorem dX11_readOne_212 : decode cX11_readOne 212 = .ok (.bipush 61, 2) := by decide +kernel
theorem dX11_readOne_214 : decode cX11_readOne 214 = .ok (.invokevirtual 162, 3) := by decide +kernel
theorem dX11_readOne_217 : decode cX11_readOne 217 = .ok (.aload_n 0, 1) := by decide +kernel
theorem dX11_readOne_218 : decode cX11_readOne 218 = .ok (.getfield 32, 3) := by decide +kernel
theorem dX11_readOne_221 : decode cX11_readOne 221 = .ok (.iload_n 1, 1) := by decide +kernel
theorem dX11_readOne_222 : decode cX11_readOne 222 = .ok (.iconst 4, 1) := by decide +kernel
theorem dX11_readOne_223 : decode cX11_readOne 223 = .ok (.iadd, 1) := by decide +kernel
theorem dX11_readOne_224 : decode cX11_readOne 224 = .ok (.aload_n 0, 1) := by decide +kernel
theorem dX11_readOne_225 : decode cX11_readOne 225 = .ok (.invokevirtual 165, 3) := by decide +kernel
theorem dX11_readOne_228 : decode cX11_readOne 228 = .ok (.iastore, 1) := by decide +kernel
theorem dX11_readOne_229 : decode cX11_readOne 229 = .ok (.goto 48, 3) := by decide +kernel
theorem dX11_readOne_232 : decode cX11_readOne 232 = .ok (.aload_n 0, 1) := by decide +kernel
theorem dX11_readOne_233 : decode cX11_readOne 233 = .ok (.getfield 32, 3) := by decide +kernel
theorem dX11_readOne_236 : decode cX11_readOne 236 = .ok (.iload_n 1, 1) := by decide +kernel
theorem dX11_readOne_237 : decode cX11_readOne 237 = .ok (.iconst 1, 1) := by decide +kernel
theorem dX11_readOne_238 : decode cX11_readOne 238 = .ok (.iadd, 1) := by decide +kernel
theorem dX11_readOne_239 : decode cX11_readOne 239 = .ok (.aload_n 0, 1) := by decide +kernel
theorem dX11_readOne_240 : decode cX11_readOne 240 = .ok (.invokevirtual 165, 3) := by decide +kernel
theorem dX11_readOne_243 : decode cX11_readOne 243 = .ok (.iastore, 1) := by decide +kernel
theorem dX11_readOne_244 : decode cX11_readOne 244 = .ok (.aload_n 0, 1) := by decide +kernel
theorem dX11_readOne_245 : decode cX11_readOne 245 = .ok (.bipush 38, 2) := by decide +kernel
theorem dX11_readOne_247 : decode cX11_readOne 247 = .ok (.invokevirtual 162, 3) := by decide +kernel
theorem dX11_readOne_250 : decode cX11_readOne 250 = .ok (.aload_n 0, 1) := by decide +kernel
theorem dX11_readOne_251 : decode cX11_readOne 251 = .ok (.getfield 32, 3) := by decide +kernel
theorem dX11_readOne_254 : decode cX11_readOne 254 = .ok (.iload_n 1, 1) := by decide +kernel
theorem dX11_readOne_255 : decode cX11_readOne 255 = .ok (.iconst 2, 1) := by decide +kernel
theorem dX11_readOne_256 : decode cX11_readOne 256 = .ok (.iadd, 1) := by decide +kernel
theorem dX11_readOne_257 : decode cX11_readOne 257 = .ok (.aload_n 0, 1) := by decide +kernel
theorem dX11_readOne_258 : decode cX11_readOne 258 = .ok (.invokevirtual 165, 3) := by decide +kernel
theorem dX11_readOne_261 : decode cX11_readOne 261 = .ok (.iastore, 1) := by decide +kernel
theorem dX11_readOne_262 : decode cX11_readOne 262 = .ok (.goto 15, 3) := by decide +kernel
theorem dX11_readOne_265 : decode cX11_readOne 265 = .ok (.aload_n 0, 1) := by decide +kernel
theorem dX11_readOne_266 : decode cX11_readOne 266 = .ok (.getfield 32, 3) := by decide +kernel
theorem dX11_readOne_269 : decode cX11_readOne 269 = .ok (.iload_n 1, 1) := by decide +kernel
theorem dX11_readOne_270 : decode cX11_readOne 270 = .ok (.iconst 1, 1) := by decide +kernel
theorem dX11_readOne_271 : decode cX11_readOne 271 = .ok (.iadd, 1) := by decide +kernel
theorem dX11_readOne_272 : decode cX11_readOne 272 = .ok (.aload_n 0, 1) := by decide +kernel
theorem dX11_readOne_273 : decode cX11_readOne 273 = .ok (.invokevirtual 165, 3) := by decide +kernel
theorem dX11_readOne_276 : decode cX11_readOne 276 = .ok (.iastore, 1) := by decide +kernel
theorem dX11_readOne_277 : decode cX11_readOne 277 = .ok (.aload_n 0, 1) := by decide +kernel
theorem dX11_readOne_278 : decode cX11_readOne 278 = .ok (.dup, 1) := by decide +kernel
theorem dX11_readOne_279 : decode cX11_readOne 279 = .ok (.getfield 159, 3) := by decide +kernel
theorem dX11_readOne_282 : decode cX11_readOne 282 = .ok (.iconst 1, 1) := by decide +kernel
theorem dX11_readOne_283 : decode cX11_readOne 283 = .ok (.iadd, 1) := by decide +kernel
theorem dX11_readOne_284 : decode cX11_readOne 284 = .ok (.putfield 159, 3) := by decide +kernel
theorem dX11_readOne_287 : decode cX11_readOne 287 = .ok (.return_, 1) := by decide +kernel
theorem dX11_faultOf_0 : decode cX11_faultOf 0 = .ok (.aload_n 0, 1) := by decide +kernel
theorem dX11_faultOf_1 : decode cX11_faultOf 1 = .ok (.iconst 0, 1) := by decide +kernel
theorem dX11_faultOf_2 : decode cX11_faultOf 2 = .ok (.putfield 146, 3) := by decide +kernel
theorem dX11_faultOf_5 : decode cX11_faultOf 5 = .ok (.aload_n 0, 1) := by decide +kernel
theorem dX11_faultOf_6 : decode cX11_faultOf 6 = .ok (.iconst 0, 1) := by decide +kernel
theorem dX11_faultOf_7 : decode cX11_faultOf 7 = .ok (.putfield 159, 3) := by decide +kernel
theorem dX11_faultOf_10 : decode cX11_faultOf 10 = .ok (.aload_n 0, 1) := by decide +kernel
theorem dX11_faultOf_11 : decode cX11_faultOf 11 = .ok (.iconst 0, 1) := by decide +kernel
theorem dX11_faultOf_12 : decode cX11_faultOf 12 = .ok (.putfield 149, 3) := by decide +kernel
theorem dX11_faultOf_15 : decode cX11_faultOf 15 = .ok (.aload_n 0, 1) := by decide +kernel
theorem dX11_faultOf_16 : decode cX11_faultOf 16 = .ok (.invokevirtual 168, 3) := by decide +kernel
theorem dX11_faultOf_19 : decode cX11_faultOf 19 = .ok (.aload_n 0, 1) := by decide +kernel
theorem dX11_faultOf_20 : decode cX11_faultOf 20 = .ok (.getfield 149, 3) := by decide +kernel
theorem dX11_faultOf_23 : decode cX11_faultOf 23 = .ok (.ifCond .ne 34, 3) := by decide +kernel
theorem dX11_faultOf_26 : decode cX11_faultOf 26 = .ok (.aload_n 0, 1) := by decide +kernel
theorem dX11_faultOf_27 : decode cX11_faultOf 27 = .ok (.getfield 146, 3) := by decide +kernel
theorem dX11_faultOf_30 : decode cX11_faultOf 30 = .ok (.aload_n 0, 1) := by decide +kernel
theorem dX11_faultOf_31 : decode cX11_faultOf 31 = .ok (.getfield 133, 3) := by decide +kernel
theorem dX11_faultOf_34 : decode cX11_faultOf 34 = .ok (.if_icmp .ge 23, 3) := by decide +kernel
theorem dX11_faultOf_37 : decode cX11_faultOf 37 = .ok (.aload_n 0, 1) := by decide +kernel
theorem dX11_faultOf_38 : decode cX11_faultOf 38 = .ok (.bipush 59, 2) := by decide +kernel
theorem dX11_faultOf_40 : decode cX11_faultOf 40 = .ok (.invokevirtual 162, 3) := by decide +kernel
theorem dX11_faultOf_43 : decode cX11_faultOf 43 = .ok (.aload_n 0, 1) := by decide +kernel
theorem dX11_faultOf_44 : decode cX11_faultOf 44 = .ok (.getfield 149, 3) := by decide +kernel
theorem dX11_faultOf_47 : decode cX11_faultOf 47 = .ok (.ifCond .ne (-28), 3) := by decide +kernel
theorem dX11_faultOf_50 : decode cX11_faultOf 50 = .ok (.aload_n 0, 1) := by decide +kernel
theorem dX11_faultOf_51 : decode cX11_faultOf 51 = .ok (.invokevirtual 168, 3) := by decide +kernel
theorem dX11_faultOf_54 : decode cX11_faultOf 54 = .ok (.goto (-35), 3) := by decide +kernel
theorem dX11_faultOf_57 : decode cX11_faultOf 57 = .ok (.aload_n 0, 1) := by decide +kernel
theorem dX11_faultOf_58 : decode cX11_faultOf 58 = .ok (.getfield 149, 3) := by decide +kernel
theorem dX11_faultOf_61 : decode cX11_faultOf 61 = .ok (.ifCond .eq 10, 3) := by decide +kernel
theorem dX11_faultOf_64 : decode cX11_faultOf 64 = .ok (.aload_n 0, 1) := by decide +kernel
theorem dX11_faultOf_65 : decode cX11_faultOf 65 = .ok (.getfield 146, 3) := by decide +kernel
theorem dX11_faultOf_68 : decode cX11_faultOf 68 = .ok (.goto 5, 3) := by decide +kernel
theorem dX11_faultOf_71 : decode cX11_faultOf 71 = .ok (.bipush (-6), 2) := by decide +kernel
theorem dX11_faultOf_73 : decode cX11_faultOf 73 = .ok (.ireturn, 1) := by decide +kernel
theorem dX11_put_0 : decode cX11_put 0 = .ok (.iconst 0, 1) := by decide +kernel
theorem dX11_put_1 : decode cX11_put 1 = .ok (.istore_n 3, 1) := by decide +kernel
theorem dX11_put_2 : decode cX11_put 2 = .ok (.lload_n 1, 1) := by decide +kernel
theorem dX11_put_3 : decode cX11_put 3 = .ok (.lstore 4, 2) := by decide +kernel
theorem dX11_put_5 : decode cX11_put 5 = .ok (.lload 4, 2) := by decide +kernel
theorem dX11_put_7 : decode cX11_put 7 = .ok (.ldc2_w 171, 3) := by decide +kernel
theorem dX11_put_10 : decode cX11_put 10 = .ok (.land, 1) := by decide +kernel
theorem dX11_put_11 : decode cX11_put 11 = .ok (.lconst 0, 1) := by decide +kernel
theorem dX11_put_12 : decode cX11_put 12 = .ok (.lcmp, 1) := by decide +kernel
theorem dX11_put_13 : decode cX11_put 13 = .ok (.ifCond .eq 36, 3) := by decide +kernel
theorem dX11_put_16 : decode cX11_put 16 = .ok (.lload 4, 2) := by decide +kernel
theorem dX11_put_18 : decode cX11_put 18 = .ok (.ldc2_w 171, 3) := by decide +kernel
theorem dX11_put_21 : decode cX11_put 21 = .ok (.land, 1) := by decide +kernel
theorem dX11_put_22 : decode cX11_put 22 = .ok (.l2i, 1) := by decide +kernel
theorem dX11_put_23 : decode cX11_put 23 = .ok (.bipush 33, 2) := by decide +kernel
theorem dX11_put_25 : decode cX11_put 25 = .ok (.bipush 126, 2) := by decide +kernel
theorem dX11_put_27 : decode cX11_put 27 = .ok (.invokestatic 43, 3) := by decide +kernel
theorem dX11_put_30 : decode cX11_put 30 = .ok (.ifCond .ne 6, 3) := by decide +kernel
theorem dX11_put_33 : decode cX11_put 33 = .ok (.bipush (-2), 2) := by decide +kernel
theorem dX11_put_35 : decode cX11_put 35 = .ok (.ireturn, 1) := by decide +kernel
theorem dX11_put_36 : decode cX11_put 36 = .ok (.iinc 3 1, 3) := by decide +kernel
theorem dX11_put_39 : decode cX11_put 39 = .ok (.lload 4, 2) := by decide +kernel
theorem dX11_put_41 : decode cX11_put 41 = .ok (.bipush 8, 2) := by decide +kernel
theorem dX11_put_43 : decode cX11_put 43 = .ok (.lushr, 1) := by decide +kernel
theorem dX11_put_44 : decode cX11_put 44 = .ok (.lstore 4, 2) := by decide +kernel
theorem dX11_put_46 : decode cX11_put 46 = .ok (.goto (-41), 3) := by decide +kernel
theorem dX11_put_49 : decode cX11_put 49 = .ok (.lload 4, 2) := by decide +kernel
theorem dX11_put_51 : decode cX11_put 51 = .ok (.lconst 0, 1) := by decide +kernel
theorem dX11_put_52 : decode cX11_put 52 = .ok (.lcmp, 1) := by decide +kernel
theorem dX11_put_53 : decode cX11_put 53 = .ok (.ifCond .ne 7, 3) := by decide +kernel
theorem dX11_put_56 : decode cX11_put 56 = .ok (.iload_n 3, 1) := by decide +kernel
theorem dX11_put_57 : decode cX11_put 57 = .ok (.ifCond .ne 6, 3) := by decide +kernel
theorem dX11_put_60 : decode cX11_put 60 = .ok (.bipush (-2), 2) := by decide +kernel
theorem dX11_put_62 : decode cX11_put 62 = .ok (.ireturn, 1) := by decide +kernel
theorem dX11_put_63 : decode cX11_put 63 = .ok (.aload_n 0, 1) := by decide +kernel
theorem dX11_put_64 : decode cX11_put 64 = .ok (.getfield 133, 3) := by decide +kernel
theorem dX11_put_67 : decode cX11_put 67 = .ok (.iload_n 3, 1) := by decide +kernel
theorem dX11_put_68 : decode cX11_put 68 = .ok (.iadd, 1) := by decide +kernel
theorem dX11_put_69 : decode cX11_put 69 = .ok (.bipush 80, 2) := by decide +kernel
theorem dX11_put_71 : decode cX11_put 71 = .ok (.if_icmp .le 6, 3) := by decide +kernel
theorem dX11_put_74 : decode cX11_put 74 = .ok (.bipush (-4), 2) := by decide +kernel
theorem dX11_put_76 : decode cX11_put 76 = .ok (.ireturn, 1) := by decide +kernel
theorem dX11_put_77 : decode cX11_put 77 = .ok (.lload_n 1, 1) := by decide +kernel
theorem dX11_put_78 : decode cX11_put 78 = .ok (.lstore 4, 2) := by decide +kernel
theorem dX11_put_80 : decode cX11_put 80 = .ok (.iload_n 3, 1) := by decide +kernel
theorem dX11_put_81 : decode cX11_put 81 = .ok (.iconst 1, 1) := by decide +kernel
theorem dX11_put_82 : decode cX11_put 82 = .ok (.isub, 1) := by decide +kernel
theorem dX11_put_83 : decode cX11_put 83 = .ok (.istore 6, 2) := by decide +kernel
theorem dX11_put_85 : decode cX11_put 85 = .ok (.iload 6, 2) := by decide +kernel
theorem dX11_put_87 : decode cX11_put 87 = .ok (.ifCond .lt 35, 3) := by decide +kernel
theorem dX11_put_90 : decode cX11_put 90 = .ok (.aload_n 0, 1) := by decide +kernel
theorem dX11_put_91 : decode cX11_put 91 = .ok (.getfield 26, 3) := by decide +kernel
theorem dX11_put_94 : decode cX11_put 94 = .ok (.aload_n 0, 1) := by decide +kernel
theorem dX11_put_95 : decode cX11_put 95 = .ok (.getfield 133, 3) := by decide +kernel
theorem dX11_put_98 : decode cX11_put 98 = .ok (.iload 6, 2) := by decide +kernel
theorem dX11_put_100 : decode cX11_put 100 = .ok (.iadd, 1) := by decide +kernel
theorem dX11_put_101 : decode cX11_put 101 = .ok (.lload 4, 2) := by decide +kernel
theorem dX11_put_103 : decode cX11_put 103 = .ok (.ldc2_w 171, 3) := by decide +kernel
theorem dX11_put_106 : decode cX11_put 106 = .ok (.land, 1) := by decide +kernel
theorem dX11_put_107 : decode cX11_put 107 = .ok (.l2i, 1) := by decide +kernel
theorem dX11_put_108 : decode cX11_put 108 = .ok (.iastore, 1) := by decide +kernel
theorem dX11_put_109 : decode cX11_put 109 = .ok (.lload 4, 2) := by decide +kernel
theorem dX11_put_111 : decode cX11_put 111 = .ok (.bipush 8, 2) := by decide +kernel
theorem dX11_put_113 : decode cX11_put 113 = .ok (.lushr, 1) := by decide +kernel
theorem dX11_put_114 : decode cX11_put 114 = .ok (.lstore 4, 2) := by decide +kernel
theorem dX11_put_116 : decode cX11_put 116 = .ok (.iinc 6 (-1), 3) := by decide +kernel
theorem dX11_put_119 : decode cX11_put 119 = .ok (.goto (-34), 3) := by decide +kernel
theorem dX11_put_122 : decode cX11_put 122 = .ok (.aload_n 0, 1) := by decide +kernel
theorem dX11_put_123 : decode cX11_put 123 = .ok (.dup, 1) := by decide +kernel
theorem dX11_put_124 : decode cX11_put 124 = .ok (.getfield 133, 3) := by decide +kernel
theorem dX11_put_127 : decode cX11_put 127 = .ok (.iload_n 3, 1) := by decide +kernel
theorem dX11_put_128 : decode cX11_put 128 = .ok (.iadd, 1) := by decide +kernel
theorem dX11_put_129 : decode cX11_put 129 = .ok (.putfield 133, 3) := by decide +kernel
theorem dX11_put_132 : decode cX11_put 132 = .ok (.aload_n 0, 1) := by decide +kernel
theorem dX11_put_133 : decode cX11_put 133 = .ok (.getfield 133, 3) := by decide +kernel
theorem dX11_put_136 : decode cX11_put 136 = .ok (.ireturn, 1) := by decide +kernel
theorem dX11_wipe_0 : decode cX11_wipe 0 = .ok (.aload_n 0, 1) := by decide +kernel
theorem dX11_wipe_1 : decode cX11_wipe 1 = .ok (.getfield 133, 3) := by decide +kernel
theorem dX11_wipe_4 : decode cX11_wipe 4 = .ok (.istore_n 1, 1) := by decide +kernel
theorem dX11_wipe_5 : decode cX11_wipe 5 = .ok (.aload_n 0, 1) := by decide +kernel
theorem dX11_wipe_6 : decode cX11_wipe 6 = .ok (.iconst 0, 1) := by decide +kernel
theorem dX11_wipe_7 : decode cX11_wipe 7 = .ok (.putfield 133, 3) := by decide +kernel
theorem dX11_wipe_10 : decode cX11_wipe 10 = .ok (.iload_n 1, 1) := by decide +kernel
theorem dX11_wipe_11 : decode cX11_wipe 11 = .ok (.ireturn, 1) := by decide +kernel
theorem dX11_fault_0 : decode cX11_fault 0 = .ok (.aload_n 0, 1) := by decide +kernel
theorem dX11_fault_1 : decode cX11_fault 1 = .ok (.invokevirtual 173, 3) := by decide +kernel
theorem dX11_fault_4 : decode cX11_fault 4 = .ok (.ireturn, 1) := by decide +kernel
theorem dX11_carry_0 : decode cX11_carry 0 = .ok (.aload_n 0, 1) := by decide +kernel
theorem dX11_carry_1 : decode cX11_carry 1 = .ok (.getfield 32, 3) := by decide +kernel
theorem dX11_carry_4 : decode cX11_carry 4 = .ok (.iload_n 1, 1) := by decide +kernel
theorem dX11_carry_5 : decode cX11_carry 5 = .ok (.iconst 1, 1) := by decide +kernel
theorem dX11_carry_6 : decode cX11_carry 6 = .ok (.iadd, 1) := by decide +kernel
theorem dX11_carry_7 : decode cX11_carry 7 = .ok (.iaload, 1) := by decide +kernel
theorem dX11_carry_8 : decode cX11_carry 8 = .ok (.istore_n 2, 1) := by decide +kernel
theorem dX11_carry_9 : decode cX11_carry 9 = .ok (.aload_n 0, 1) := by decide +kernel
theorem dX11_carry_10 : decode cX11_carry 10 = .ok (.getfield 32, 3) := by decide +kernel
theorem dX11_carry_13 : decode cX11_carry 13 = .ok (.iload_n 1, 1) := by decide +kernel
theorem dX11_carry_14 : decode cX11_carry 14 = .ok (.iconst 2, 1) := by decide +kernel
theorem dX11_carry_15 : decode cX11_carry 15 = .ok (.iadd, 1) := by decide +kernel
theorem dX11_carry_16 : decode cX11_carry 16 = .ok (.iaload, 1) := by decide +kernel
theorem dX11_carry_17 : decode cX11_carry 17 = .ok (.istore_n 3, 1) := by decide +kernel
theorem dX11_carry_18 : decode cX11_carry 18 = .ok (.aload_n 0, 1) := by decide +kernel
theorem dX11_carry_19 : decode cX11_carry 19 = .ok (.getfield 32, 3) := by decide +kernel
theorem dX11_carry_22 : decode cX11_carry 22 = .ok (.iload_n 1, 1) := by decide +kernel
theorem dX11_carry_23 : decode cX11_carry 23 = .ok (.iaload, 1) := by decide +kernel
theorem dX11_carry_24 : decode cX11_carry 24 = .ok (.lookupswitch 101 #[(102, 95), (106, 82), (108, 59), (116, 89), (121, 52)], 52) := by decide +kernel
theorem dX11_carry_76 : decode cX11_carry 76 = .ok (.aload_n 0, 1) := by decide +kernel
theorem dX11_carry_77 : decode cX11_carry 77 = .ok (.iload_n 2, 1) := by decide +kernel
theorem dX11_carry_78 : decode cX11_carry 78 = .ok (.iload_n 3, 1) := by decide +kernel
theorem dX11_carry_79 : decode cX11_carry 79 = .ok (.invokevirtual 176, 3) := by decide +kernel
theorem dX11_carry_82 : decode cX11_carry 82 = .ok (.ireturn, 1) := by decide +kernel
theorem dX11_carry_83 : decode cX11_carry 83 = .ok (.aload_n 0, 1) := by decide +kernel
theorem dX11_carry_84 : decode cX11_carry 84 = .ok (.iload_n 2, 1) := by decide +kernel
theorem dX11_carry_85 : decode cX11_carry 85 = .ok (.iload_n 3, 1) := by decide +kernel
theorem dX11_carry_86 : decode cX11_carry 86 = .ok (.aload_n 0, 1) := by decide +kernel
theorem dX11_carry_87 : decode cX11_carry 87 = .ok (.getfield 32, 3) := by decide +kernel
theorem dX11_carry_90 : decode cX11_carry 90 = .ok (.iload_n 1, 1) := by decide +kernel
theorem dX11_carry_91 : decode cX11_carry 91 = .ok (.iconst 3, 1) := by decide +kernel
theorem dX11_carry_92 : decode cX11_carry 92 = .ok (.iadd, 1) := by decide +kernel
theorem dX11_carry_93 : decode cX11_carry 93 = .ok (.iaload, 1) := by decide +kernel
theorem dX11_carry_94 : decode cX11_carry 94 = .ok (.aload_n 0, 1) := by decide +kernel
theorem dX11_carry_95 : decode cX11_carry 95 = .ok (.getfield 32, 3) := by decide +kernel
theorem dX11_carry_98 : decode cX11_carry 98 = .ok (.iload_n 1, 1) := by decide +kernel
theorem dX11_carry_99 : decode cX11_carry 99 = .ok (.iconst 4, 1) := by decide +kernel
theorem dX11_carry_100 : decode cX11_carry 100 = .ok (.iadd, 1) := by decide +kernel
theorem dX11_carry_101 : decode cX11_carry 101 = .ok (.iaload, 1) := by decide +kernel
theorem dX11_carry_102 : decode cX11_carry 102 = .ok (.invokevirtual 179, 3) := by decide +kernel
theorem dX11_carry_105 : decode cX11_carry 105 = .ok (.ireturn, 1) := by decide +kernel
theorem dX11_carry_106 : decode cX11_carry 106 = .ok (.aload_n 0, 1) := by decide +kernel
theorem dX11_carry_107 : decode cX11_carry 107 = .ok (.iload_n 2, 1) := by decide +kernel
theorem dX11_carry_108 : decode cX11_carry 108 = .ok (.iload_n 3, 1) := by decide +kernel
theorem dX11_carry_109 : decode cX11_carry 109 = .ok (.invokevirtual 183, 3) := by decide +kernel
theorem dX11_carry_112 : decode cX11_carry 112 = .ok (.ireturn, 1) := by decide +kernel
theorem dX11_carry_113 : decode cX11_carry 113 = .ok (.aload_n 0, 1) := by decide +kernel
theorem dX11_carry_114 : decode cX11_carry 114 = .ok (.iload_n 2, 1) := by decide +kernel
theorem dX11_carry_115 : decode cX11_carry 115 = .ok (.invokevirtual 186, 3) := by decide +kernel
theorem dX11_carry_118 : decode cX11_carry 118 = .ok (.ireturn, 1) := by decide +kernel
theorem dX11_carry_119 : decode cX11_carry 119 = .ok (.aload_n 0, 1) := by decide +kernel
theorem dX11_carry_120 : decode cX11_carry 120 = .ok (.iload_n 2, 1) := by decide +kernel
theorem dX11_carry_121 : decode cX11_carry 121 = .ok (.invokevirtual 189, 3) := by decide +kernel
theorem dX11_carry_124 : decode cX11_carry 124 = .ok (.ireturn, 1) := by decide +kernel
theorem dX11_carry_125 : decode cX11_carry 125 = .ok (.aload_n 0, 1) := by decide +kernel
theorem dX11_carry_126 : decode cX11_carry 126 = .ok (.iload_n 2, 1) := by decide +kernel
theorem dX11_carry_127 : decode cX11_carry 127 = .ok (.invokevirtual 192, 3) := by decide +kernel
theorem dX11_carry_130 : decode cX11_carry 130 = .ok (.ireturn, 1) := by decide +kernel
theorem dX11_carryOut_0 : decode cX11_carryOut 0 = .ok (.aload_n 0, 1) := by decide +kernel
theorem dX11_carryOut_1 : decode cX11_carryOut 1 = .ok (.invokevirtual 173, 3) := by decide +kernel
theorem dX11_carryOut_4 : decode cX11_carryOut 4 = .ok (.bipush (-6), 2) := by decide +kernel
theorem dX11_carryOut_6 : decode cX11_carryOut 6 = .ok (.if_icmp .eq 6, 3) := by decide +kernel
theorem dX11_carryOut_9 : decode cX11_carryOut 9 = .ok (.bipush (-3), 2) := by decide +kernel
theorem dX11_carryOut_11 : decode cX11_carryOut 11 = .ok (.ireturn, 1) := by decide +kernel
theorem dX11_carryOut_12 : decode cX11_carryOut 12 = .ok (.aload_n 0, 1) := by decide +kernel
theorem dX11_carryOut_13 : decode cX11_carryOut 13 = .ok (.invokevirtual 54, 3) := by decide +kernel
theorem dX11_carryOut_16 : decode cX11_carryOut 16 = .ok (.aload_n 0, 1) := by decide +kernel
theorem dX11_carryOut_17 : decode cX11_carryOut 17 = .ok (.iconst 1, 1) := by decide +kernel
theorem dX11_carryOut_18 : decode cX11_carryOut 18 = .ok (.putfield 35, 3) := by decide +kernel
theorem dX11_carryOut_21 : decode cX11_carryOut 21 = .ok (.iconst 0, 1) := by decide +kernel
theorem dX11_carryOut_22 : decode cX11_carryOut 22 = .ok (.istore_n 1, 1) := by decide +kernel
theorem dX11_carryOut_23 : decode cX11_carryOut 23 = .ok (.iload_n 1, 1) := by decide +kernel
theorem dX11_carryOut_24 : decode cX11_carryOut 24 = .ok (.aload_n 0, 1) := by decide +kernel
theorem dX11_carryOut_25 : decode cX11_carryOut 25 = .ok (.getfield 159, 3) := by decide +kernel
theorem dX11_carryOut_28 : decode cX11_carryOut 28 = .ok (.if_icmp .ge 19, 3) := by decide +kernel
theorem dX11_carryOut_31 : decode cX11_carryOut 31 = .ok (.aload_n 0, 1) := by decide +kernel
theorem dX11_carryOut_32 : decode cX11_carryOut 32 = .ok (.iconst 5, 1) := by decide +kernel
theorem dX11_carryOut_33 : decode cX11_carryOut 33 = .ok (.iload_n 1, 1) := by decide +kernel
theorem dX11_carryOut_34 : decode cX11_carryOut 34 = .ok (.imul, 1) := by decide +kernel
theorem dX11_carryOut_35 : decode cX11_carryOut 35 = .ok (.invokevirtual 195, 3) := by decide +kernel
theorem dX11_carryOut_38 : decode cX11_carryOut 38 = .ok (.ifCond .lt 9, 3) := by decide +kernel
theorem dX11_carryOut_41 : decode cX11_carryOut 41 = .ok (.iinc 1 1, 3) := by decide +kernel
theorem dX11_carryOut_44 : decode cX11_carryOut 44 = .ok (.goto (-21), 3) := by decide +kernel
theorem dX11_carryOut_47 : decode cX11_carryOut 47 = .ok (.aload_n 0, 1) := by decide +kernel
theorem dX11_carryOut_48 : decode cX11_carryOut 48 = .ok (.iconst 0, 1) := by decide +kernel
theorem dX11_carryOut_49 : decode cX11_carryOut 49 = .ok (.putfield 35, 3) := by decide +kernel
theorem dX11_carryOut_52 : decode cX11_carryOut 52 = .ok (.aload_n 0, 1) := by decide +kernel
theorem dX11_carryOut_53 : decode cX11_carryOut 53 = .ok (.iconst 0, 1) := by decide +kernel
theorem dX11_carryOut_54 : decode cX11_carryOut 54 = .ok (.putfield 133, 3) := by decide +kernel
theorem dX11_carryOut_57 : decode cX11_carryOut 57 = .ok (.iload_n 1, 1) := by decide +kernel
theorem dX11_carryOut_58 : decode cX11_carryOut 58 = .ok (.ireturn, 1) := by decide +kernel
theorem dX11_undo_0 : decode cX11_undo 0 = .ok (.aload_n 0, 1) := by decide +kernel
theorem dX11_undo_1 : decode cX11_undo 1 = .ok (.getfield 39, 3) := by decide +kernel
theorem dX11_undo_4 : decode cX11_undo 4 = .ok (.ifCond .ne 6, 3) := by decide +kernel
theorem dX11_undo_7 : decode cX11_undo 7 = .ok (.bipush (-5), 2) := by decide +kernel
theorem dX11_undo_9 : decode cX11_undo 9 = .ok (.ireturn, 1) := by decide +kernel
theorem dX11_undo_10 : decode cX11_undo 10 = .ok (.aload_n 0, 1) := by decide +kernel
theorem dX11_undo_11 : decode cX11_undo 11 = .ok (.dup, 1) := by decide +kernel
theorem dX11_undo_12 : decode cX11_undo 12 = .ok (.getfield 39, 3) := by decide +kernel
theorem dX11_undo_15 : decode cX11_undo 15 = .ok (.iconst 1, 1) := by decide +kernel
theorem dX11_undo_16 : decode cX11_undo 16 = .ok (.isub, 1) := by decide +kernel
theorem dX11_undo_17 : decode cX11_undo 17 = .ok (.putfield 39, 3) := by decide +kernel
theorem dX11_undo_20 : decode cX11_undo 20 = .ok (.iconst 0, 1) := by decide +kernel
theorem dX11_undo_21 : decode cX11_undo 21 = .ok (.istore_n 1, 1) := by decide +kernel
theorem dX11_undo_22 : decode cX11_undo 22 = .ok (.iload_n 1, 1) := by decide +kernel
theorem dX11_undo_23 : decode cX11_undo 23 = .ok (.sipush 340, 3) := by decide +kernel
theorem dX11_undo_26 : decode cX11_undo 26 = .ok (.if_icmp .ge 30, 3) := by decide +kernel
theorem dX11_undo_29 : decode cX11_undo 29 = .ok (.aload_n 0, 1) := by decide +kernel
theorem dX11_undo_30 : decode cX11_undo 30 = .ok (.getfield 7, 3) := by decide +kernel
theorem dX11_undo_33 : decode cX11_undo 33 = .ok (.iload_n 1, 1) := by decide +kernel
theorem dX11_undo_34 : decode cX11_undo 34 = .ok (.aload_n 0, 1) := by decide +kernel
theorem dX11_undo_35 : decode cX11_undo 35 = .ok (.getfield 16, 3) := by decide +kernel
theorem dX11_undo_38 : decode cX11_undo 38 = .ok (.aload_n 0, 1) := by decide +kernel
theorem dX11_undo_39 : decode cX11_undo 39 = .ok (.getfield 39, 3) := by decide +kernel
theorem dX11_undo_42 : decode cX11_undo 42 = .ok (.sipush 340, 3) := by decide +kernel
theorem dX11_undo_45 : decode cX11_undo 45 = .ok (.imul, 1) := by decide +kernel
theorem dX11_undo_46 : decode cX11_undo 46 = .ok (.iload_n 1, 1) := by decide +kernel
theorem dX11_undo_47 : decode cX11_undo 47 = .ok (.iadd, 1) := by decide +kernel
theorem dX11_undo_48 : decode cX11_undo 48 = .ok (.iaload, 1) := by decide +kernel
theorem dX11_undo_49 : decode cX11_undo 49 = .ok (.iastore, 1) := by decide +kernel
theorem dX11_undo_50 : decode cX11_undo 50 = .ok (.iinc 1 1, 3) := by decide +kernel
theorem dX11_undo_53 : decode cX11_undo 53 = .ok (.goto (-31), 3) := by decide +kernel
theorem dX11_undo_56 : decode cX11_undo 56 = .ok (.aload_n 0, 1) := by decide +kernel
theorem dX11_undo_57 : decode cX11_undo 57 = .ok (.getfield 39, 3) := by decide +kernel
theorem dX11_undo_60 : decode cX11_undo 60 = .ok (.ireturn, 1) := by decide +kernel
theorem dX11_save_0 : decode cX11_save 0 = .ok (.iload_n 1, 1) := by decide +kernel
theorem dX11_save_1 : decode cX11_save 1 = .ok (.iconst 0, 1) := by decide +kernel
theorem dX11_save_2 : decode cX11_save 2 = .ok (.iconst 1, 1) := by decide +kernel
theorem dX11_save_3 : decode cX11_save 3 = .ok (.invokestatic 43, 3) := by decide +kernel
theorem dX11_save_6 : decode cX11_save 6 = .ok (.ifCond .ne 6, 3) := by decide +kernel
theorem dX11_save_9 : decode cX11_save 9 = .ok (.bipush (-2), 2) := by decide +kernel
theorem dX11_save_11 : decode cX11_save 11 = .ok (.ireturn, 1) := by decide +kernel
theorem dX11_save_12 : decode cX11_save 12 = .ok (.iconst 0, 1) := by decide +kernel
theorem dX11_save_13 : decode cX11_save 13 = .ok (.istore_n 2, 1) := by decide +kernel
theorem dX11_save_14 : decode cX11_save 14 = .ok (.iload_n 2, 1) := by decide +kernel
theorem dX11_save_15 : decode cX11_save 15 = .ok (.sipush 340, 3) := by decide +kernel
theorem dX11_save_18 : decode cX11_save 18 = .ok (.if_icmp .ge 27, 3) := by decide +kernel
theorem dX11_save_21 : decode cX11_save 21 = .ok (.aload_n 0, 1) := by decide +kernel
theorem dX11_save_22 : decode cX11_save 22 = .ok (.getfield 19, 3) := by decide +kernel
theorem dX11_save_25 : decode cX11_save 25 = .ok (.iload_n 1, 1) := by decide +kernel
theorem dX11_save_26 : decode cX11_save 26 = .ok (.sipush 340, 3) := by decide +kernel
theorem dX11_save_29 : decode cX11_save 29 = .ok (.imul, 1) := by decide +kernel
theorem dX11_save_30 : decode cX11_save 30 = .ok (.iload_n 2, 1) := by decide +kernel
theorem dX11_save_31 : decode cX11_save 31 = .ok (.iadd, 1) := by decide +kernel
theorem dX11_save_32 : decode cX11_save 32 = .ok (.aload_n 0, 1) := by decide +kernel
theorem dX11_save_33 : decode cX11_save 33 = .ok (.getfield 7, 3) := by decide +kernel
theorem dX11_save_36 : decode cX11_save 36 = .ok (.iload_n 2, 1) := by decide +kernel
theorem dX11_save_37 : decode cX11_save 37 = .ok (.iaload, 1) := by decide +kernel
theorem dX11_save_38 : decode cX11_save 38 = .ok (.iastore, 1) := by decide +kernel
theorem dX11_save_39 : decode cX11_save 39 = .ok (.iinc 2 1, 3) := by decide +kernel
theorem dX11_save_42 : decode cX11_save 42 = .ok (.goto (-28), 3) := by decide +kernel
theorem dX11_save_45 : decode cX11_save 45 = .ok (.aload_n 0, 1) := by decide +kernel
theorem dX11_save_46 : decode cX11_save 46 = .ok (.getfield 22, 3) := by decide +kernel
theorem dX11_save_49 : decode cX11_save 49 = .ok (.iload_n 1, 1) := by decide +kernel
theorem dX11_save_50 : decode cX11_save 50 = .ok (.iconst 1, 1) := by decide +kernel
theorem dX11_save_51 : decode cX11_save 51 = .ok (.bastore, 1) := by decide +kernel
theorem dX11_save_52 : decode cX11_save 52 = .ok (.aload_n 0, 1) := by decide +kernel
theorem dX11_save_53 : decode cX11_save 53 = .ok (.getfield 7, 3) := by decide +kernel
theorem dX11_save_56 : decode cX11_save 56 = .ok (.bipush 10, 2) := by decide +kernel
theorem dX11_save_58 : decode cX11_save 58 = .ok (.iaload, 1) := by decide +kernel
theorem dX11_save_59 : decode cX11_save 59 = .ok (.ireturn, 1) := by decide +kernel
theorem dX11_restore_0 : decode cX11_restore 0 = .ok (.iload_n 1, 1) := by decide +kernel
theorem dX11_restore_1 : decode cX11_restore 1 = .ok (.iconst 0, 1) := by decide +kernel
theorem dX11_restore_2 : decode cX11_restore 2 = .ok (.iconst 1, 1) := by decide +kernel
theorem dX11_restore_3 : decode cX11_restore 3 = .ok (.invokestatic 43, 3) := by decide +kernel
theorem dX11_restore_6 : decode cX11_restore 6 = .ok (.ifCond .ne 6, 3) := by decide +kernel
theorem dX11_restore_9 : decode cX11_restore 9 = .ok (.bipush (-2), 2) := by decide +kernel
theorem dX11_restore_11 : decode cX11_restore 11 = .ok (.ireturn, 1) := by decide +kernel
theorem dX11_restore_12 : decode cX11_restore 12 = .ok (.aload_n 0, 1) := by decide +kernel
theorem dX11_restore_13 : decode cX11_restore 13 = .ok (.getfield 22, 3) := by decide +kernel
theorem dX11_restore_16 : decode cX11_restore 16 = .ok (.iload_n 1, 1) := by decide +kernel
theorem dX11_restore_17 : decode cX11_restore 17 = .ok (.baload, 1) := by decide +kernel
theorem dX11_restore_18 : decode cX11_restore 18 = .ok (.ifCond .ne 6, 3) := by decide +kernel
theorem dX11_restore_21 : decode cX11_restore 21 = .ok (.bipush (-5), 2) := by decide +kernel
theorem dX11_restore_23 : decode cX11_restore 23 = .ok (.ireturn, 1) := by decide +kernel
theorem dX11_restore_24 : decode cX11_restore 24 = .ok (.aload_n 0, 1) := by decide +kernel
theorem dX11_restore_25 : decode cX11_restore 25 = .ok (.invokevirtual 54, 3) := by decide +kernel
theorem dX11_restore_28 : decode cX11_restore 28 = .ok (.iconst 0, 1) := by decide +kernel
theorem dX11_restore_29 : decode cX11_restore 29 = .ok (.istore_n 2, 1) := by decide +kernel
theorem dX11_restore_30 : decode cX11_restore 30 = .ok (.iload_n 2, 1) := by decide +kernel
theorem dX11_restore_31 : decode cX11_restore 31 = .ok (.sipush 340, 3) := by decide +kernel
theorem dX11_restore_34 : decode cX11_restore 34 = .ok (.if_icmp .ge 27, 3) := by decide +kernel
theorem dX11_restore_37 : decode cX11_restore 37 = .ok (.aload_n 0, 1) := by decide +kernel
theorem dX11_restore_38 : decode cX11_restore 38 = .ok (.getfield 7, 3) := by decide +kernel
theorem dX11_restore_41 : decode cX11_restore 41 = .ok (.iload_n 2, 1) := by decide +kernel
theorem dX11_restore_42 : decode cX11_restore 42 = .ok (.aload_n 0, 1) := by decide +kernel
theorem dX11_restore_43 : decode cX11_restore 43 = .ok (.getfield 19, 3) := by decide +kernel
theorem dX11_restore_46 : decode cX11_restore 46 = .ok (.iload_n 1, 1) := by decide +kernel
theorem dX11_restore_47 : decode cX11_restore 47 = .ok (.sipush 340, 3) := by decide +kernel
theorem dX11_restore_50 : decode cX11_restore 50 = .ok (.imul, 1) := by decide +kernel
theorem dX11_restore_51 : decode cX11_restore 51 = .ok (.iload_n 2, 1) := by decide +kernel
theorem dX11_restore_52 : decode cX11_restore 52 = .ok (.iadd, 1) := by decide +kernel
theorem dX11_restore_53 : decode cX11_restore 53 = .ok (.iaload, 1) := by decide +kernel
theorem dX11_restore_54 : decode cX11_restore 54 = .ok (.iastore, 1) := by decide +kernel
theorem dX11_restore_55 : decode cX11_restore 55 = .ok (.iinc 2 1, 3) := by decide +kernel
theorem dX11_restore_58 : decode cX11_restore 58 = .ok (.goto (-28), 3) := by decide +kernel
theorem dX11_restore_61 : decode cX11_restore 61 = .ok (.aload_n 0, 1) := by decide +kernel
theorem dX11_restore_62 : decode cX11_restore 62 = .ok (.getfield 7, 3) := by decide +kernel
theorem dX11_restore_65 : decode cX11_restore 65 = .ok (.bipush 10, 2) := by decide +kernel
theorem dX11_restore_67 : decode cX11_restore 67 = .ok (.iaload, 1) := by decide +kernel
theorem dX11_restore_68 : decode cX11_restore 68 = .ok (.ireturn, 1) := by decide +kernel
