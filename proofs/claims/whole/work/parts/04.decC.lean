theorem dX11_init_0 : decode cX11_init 0 = .ok (.aload_n 0, 1) := by decide +kernel
theorem dX11_init_1 : decode cX11_init 1 = .ok (.invokespecial 3, 3) := by decide +kernel
theorem dX11_init_4 : decode cX11_init 4 = .ok (.aload_n 0, 1) := by decide +kernel
theorem dX11_init_5 : decode cX11_init 5 = .ok (.sipush 1247, 3) := by decide +kernel
theorem dX11_init_8 : decode cX11_init 8 = .ok (.newarray .int, 2) := by decide +kernel
theorem dX11_init_10 : decode cX11_init 10 = .ok (.putfield 9, 3) := by decide +kernel
theorem dX11_init_13 : decode cX11_init 13 = .ok (.aload_n 0, 1) := by decide +kernel
theorem dX11_init_14 : decode cX11_init 14 = .ok (.sipush 1247, 3) := by decide +kernel
theorem dX11_init_17 : decode cX11_init 17 = .ok (.newarray .int, 2) := by decide +kernel
theorem dX11_init_19 : decode cX11_init 19 = .ok (.putfield 13, 3) := by decide +kernel
theorem dX11_init_22 : decode cX11_init 22 = .ok (.aload_n 0, 1) := by decide +kernel
theorem dX11_init_23 : decode cX11_init 23 = .ok (.bipush 8, 2) := by decide +kernel
theorem dX11_init_25 : decode cX11_init 25 = .ok (.sipush 1247, 3) := by decide +kernel
theorem dX11_init_28 : decode cX11_init 28 = .ok (.multianewarray 16 2, 4) := by decide +kernel
theorem dX11_init_32 : decode cX11_init 32 = .ok (.putfield 18, 3) := by decide +kernel
theorem dX11_init_35 : decode cX11_init 35 = .ok (.aload_n 0, 1) := by decide +kernel
theorem dX11_init_36 : decode cX11_init 36 = .ok (.bipush 100, 2) := by decide +kernel
theorem dX11_init_38 : decode cX11_init 38 = .ok (.newarray .char, 2) := by decide +kernel
theorem dX11_init_40 : decode cX11_init 40 = .ok (.putfield 21, 3) := by decide +kernel
theorem dX11_init_43 : decode cX11_init 43 = .ok (.aload_n 0, 1) := by decide +kernel
theorem dX11_init_44 : decode cX11_init 44 = .ok (.iconst (-1), 1) := by decide +kernel
theorem dX11_init_45 : decode cX11_init 45 = .ok (.putfield 25, 3) := by decide +kernel
theorem dX11_init_48 : decode cX11_init 48 = .ok (.aload_n 0, 1) := by decide +kernel
theorem dX11_init_49 : decode cX11_init 49 = .ok (.bipush 60, 2) := by decide +kernel
theorem dX11_init_51 : decode cX11_init 51 = .ok (.newarray .int, 2) := by decide +kernel
theorem dX11_init_53 : decode cX11_init 53 = .ok (.putfield 29, 3) := by decide +kernel
theorem dX11_init_56 : decode cX11_init 56 = .ok (.aload_n 0, 1) := by decide +kernel
theorem dX11_init_57 : decode cX11_init 57 = .ok (.bipush 60, 2) := by decide +kernel
theorem dX11_init_59 : decode cX11_init 59 = .ok (.newarray .int, 2) := by decide +kernel
theorem dX11_init_61 : decode cX11_init 61 = .ok (.putfield 32, 3) := by decide +kernel
theorem dX11_init_64 : decode cX11_init 64 = .ok (.aload_n 0, 1) := by decide +kernel
theorem dX11_init_65 : decode cX11_init 65 = .ok (.bipush 60, 2) := by decide +kernel
theorem dX11_init_67 : decode cX11_init 67 = .ok (.newarray .boolean, 2) := by decide +kernel
theorem dX11_init_69 : decode cX11_init 69 = .ok (.putfield 35, 3) := by decide +kernel
theorem dX11_init_72 : decode cX11_init 72 = .ok (.aload_n 0, 1) := by decide +kernel
theorem dX11_init_73 : decode cX11_init 73 = .ok (.sipush 2000, 3) := by decide +kernel
theorem dX11_init_76 : decode cX11_init 76 = .ok (.newarray .int, 2) := by decide +kernel
theorem dX11_init_78 : decode cX11_init 78 = .ok (.putfield 39, 3) := by decide +kernel
theorem dX11_init_81 : decode cX11_init 81 = .ok (.aload_n 0, 1) := by decide +kernel
theorem dX11_init_82 : decode cX11_init 82 = .ok (.sipush 2000, 3) := by decide +kernel
theorem dX11_init_85 : decode cX11_init 85 = .ok (.newarray .int, 2) := by decide +kernel
theorem dX11_init_87 : decode cX11_init 87 = .ok (.putfield 42, 3) := by decide +kernel
theorem dX11_init_90 : decode cX11_init 90 = .ok (.aload_n 0, 1) := by decide +kernel
theorem dX11_init_91 : decode cX11_init 91 = .ok (.sipush 2000, 3) := by decide +kernel
theorem dX11_init_94 : decode cX11_init 94 = .ok (.newarray .int, 2) := by decide +kernel
theorem dX11_init_96 : decode cX11_init 96 = .ok (.putfield 45, 3) := by decide +kernel
theorem dX11_init_99 : decode cX11_init 99 = .ok (.aload_n 0, 1) := by decide +kernel
theorem dX11_init_100 : decode cX11_init 100 = .ok (.bipush 100, 2) := by decide +kernel
theorem dX11_init_102 : decode cX11_init 102 = .ok (.newarray .char, 2) := by decide +kernel
theorem dX11_init_104 : decode cX11_init 104 = .ok (.putfield 48, 3) := by decide +kernel
theorem dX11_init_107 : decode cX11_init 107 = .ok (.aload_n 0, 1) := by decide +kernel
theorem dX11_init_108 : decode cX11_init 108 = .ok (.bipush 60, 2) := by decide +kernel
theorem dX11_init_110 : decode cX11_init 110 = .ok (.newarray .int, 2) := by decide +kernel
theorem dX11_init_112 : decode cX11_init 112 = .ok (.putfield 51, 3) := by decide +kernel
theorem dX11_init_115 : decode cX11_init 115 = .ok (.aload_n 0, 1) := by decide +kernel
theorem dX11_init_116 : decode cX11_init 116 = .ok (.bipush 60, 2) := by decide +kernel
theorem dX11_init_118 : decode cX11_init 118 = .ok (.newarray .int, 2) := by decide +kernel
theorem dX11_init_120 : decode cX11_init 120 = .ok (.putfield 54, 3) := by decide +kernel
theorem dX11_init_123 : decode cX11_init 123 = .ok (.aload_n 0, 1) := by decide +kernel
theorem dX11_init_124 : decode cX11_init 124 = .ok (.bipush 60, 2) := by decide +kernel
theorem dX11_init_126 : decode cX11_init 126 = .ok (.newarray .int, 2) := by decide +kernel
theorem dX11_init_128 : decode cX11_init 128 = .ok (.putfield 57, 3) := by decide +kernel
theorem dX11_init_131 : decode cX11_init 131 = .ok (.aload_n 0, 1) := by decide +kernel
theorem dX11_init_132 : decode cX11_init 132 = .ok (.bipush 60, 2) := by decide +kernel
theorem dX11_init_134 : decode cX11_init 134 = .ok (.newarray .int, 2) := by decide +kernel
theorem dX11_init_136 : decode cX11_init 136 = .ok (.putfield 60, 3) := by decide +kernel
theorem dX11_init_139 : decode cX11_init 139 = .ok (.aload_n 0, 1) := by decide +kernel
theorem dX11_init_140 : decode cX11_init 140 = .ok (.bipush 60, 2) := by decide +kernel
theorem dX11_init_142 : decode cX11_init 142 = .ok (.newarray .int, 2) := by decide +kernel
theorem dX11_init_144 : decode cX11_init 144 = .ok (.putfield 63, 3) := by decide +kernel
theorem dX11_init_147 : decode cX11_init 147 = .ok (.aload_n 0, 1) := by decide +kernel
theorem dX11_init_148 : decode cX11_init 148 = .ok (.bipush 60, 2) := by decide +kernel
theorem dX11_init_150 : decode cX11_init 150 = .ok (.newarray .int, 2) := by decide +kernel
theorem dX11_init_152 : decode cX11_init 152 = .ok (.putfield 66, 3) := by decide +kernel
theorem dX11_init_155 : decode cX11_init 155 = .ok (.aload_n 0, 1) := by decide +kernel
theorem dX11_init_156 : decode cX11_init 156 = .ok (.sipush 2000, 3) := by decide +kernel
theorem dX11_init_159 : decode cX11_init 159 = .ok (.newarray .int, 2) := by decide +kernel
theorem dX11_init_161 : decode cX11_init 161 = .ok (.putfield 69, 3) := by decide +kernel
theorem dX11_init_164 : decode cX11_init 164 = .ok (.aload_n 0, 1) := by decide +kernel
theorem dX11_init_165 : decode cX11_init 165 = .ok (.iconst (-1), 1) := by decide +kernel
theorem dX11_init_166 : decode cX11_init 166 = .ok (.putfield 72, 3) := by decide +kernel
theorem dX11_init_169 : decode cX11_init 169 = .ok (.aload_n 0, 1) := by decide +kernel
theorem dX11_init_170 : decode cX11_init 170 = .ok (.iconst 2, 1) := by decide +kernel
theorem dX11_init_171 : decode cX11_init 171 = .ok (.bipush 60, 2) := by decide +kernel
theorem dX11_init_173 : decode cX11_init 173 = .ok (.multianewarray 16 2, 4) := by decide +kernel
theorem dX11_init_177 : decode cX11_init 177 = .ok (.putfield 75, 3) := by decide +kernel
theorem dX11_init_180 : decode cX11_init 180 = .ok (.aload_n 0, 1) := by decide +kernel
theorem dX11_init_181 : decode cX11_init 181 = .ok (.iconst 2, 1) := by decide +kernel
theorem dX11_init_182 : decode cX11_init 182 = .ok (.bipush 60, 2) := by decide +kernel
theorem dX11_init_184 : decode cX11_init 184 = .ok (.multianewarray 78 2, 4) := by decide +kernel
theorem dX11_init_188 : decode cX11_init 188 = .ok (.putfield 80, 3) := by decide +kernel
theorem dX11_init_191 : decode cX11_init 191 = .ok (.aload_n 0, 1) := by decide +kernel
theorem dX11_init_192 : decode cX11_init 192 = .ok (.iconst 2, 1) := by decide +kernel
theorem dX11_init_193 : decode cX11_init 193 = .ok (.newarray .int, 2) := by decide +kernel
theorem dX11_init_195 : decode cX11_init 195 = .ok (.dup, 1) := by decide +kernel
theorem dX11_init_196 : decode cX11_init 196 = .ok (.iconst 0, 1) := by decide +kernel
theorem dX11_init_197 : decode cX11_init 197 = .ok (.iconst (-1), 1) := by decide +kernel
theorem dX11_init_198 : decode cX11_init 198 = .ok (.iastore, 1) := by decide +kernel
theorem dX11_init_199 : decode cX11_init 199 = .ok (.dup, 1) := by decide +kernel
theorem dX11_init_200 : decode cX11_init 200 = .ok (.iconst 1, 1) := by decide +kernel
theorem dX11_init_201 : decode cX11_init 201 = .ok (.iconst (-1), 1) := by decide +kernel
theorem dX11_init_202 : decode cX11_init 202 = .ok (.iastore, 1) := by decide +kernel
theorem dX11_init_203 : decode cX11_init 203 = .ok (.putfield 83, 3) := by decide +kernel
theorem dX11_init_206 : decode cX11_init 206 = .ok (.aload_n 0, 1) := by decide +kernel
theorem dX11_init_207 : decode cX11_init 207 = .ok (.iconst 2, 1) := by decide +kernel
theorem dX11_init_208 : decode cX11_init 208 = .ok (.newarray .boolean, 2) := by decide +kernel
theorem dX11_init_210 : decode cX11_init 210 = .ok (.putfield 86, 3) := by decide +kernel
theorem dX11_init_213 : decode cX11_init 213 = .ok (.aload_n 0, 1) := by decide +kernel
theorem dX11_init_214 : decode cX11_init 214 = .ok (.getfield 9, 3) := by decide +kernel
theorem dX11_init_217 : decode cX11_init 217 = .ok (.iconst 2, 1) := by decide +kernel
theorem dX11_init_218 : decode cX11_init 218 = .ok (.iconst 1, 1) := by decide +kernel
theorem dX11_init_219 : decode cX11_init 219 = .ok (.iastore, 1) := by decide +kernel
theorem dX11_init_220 : decode cX11_init 220 = .ok (.aload_n 0, 1) := by decide +kernel
theorem dX11_init_221 : decode cX11_init 221 = .ok (.getfield 9, 3) := by decide +kernel
theorem dX11_init_224 : decode cX11_init 224 = .ok (.iconst 3, 1) := by decide +kernel
theorem dX11_init_225 : decode cX11_init 225 = .ok (.iconst 2, 1) := by decide +kernel
theorem dX11_init_226 : decode cX11_init 226 = .ok (.iastore, 1) := by decide +kernel
theorem dX11_init_227 : decode cX11_init 227 = .ok (.return_, 1) := by decide +kernel
theorem dX11_thrown_0 : decode cX11_thrown 0 = .ok (.aload_n 0, 1) := by decide +kernel
theorem dX11_thrown_1 : decode cX11_thrown 1 = .ok (.getfield 89, 3) := by decide +kernel
theorem dX11_thrown_4 : decode cX11_thrown 4 = .ok (.ireturn, 1) := by decide +kernel
theorem dX11_isBetween_0 : decode cX11_isBetween 0 = .ok (.iload_n 0, 1) := by decide +kernel
theorem dX11_isBetween_1 : decode cX11_isBetween 1 = .ok (.iload_n 1, 1) := by decide +kernel
theorem dX11_isBetween_2 : decode cX11_isBetween 2 = .ok (.if_icmp .lt 12, 3) := by decide +kernel
theorem dX11_isBetween_5 : decode cX11_isBetween 5 = .ok (.iload_n 0, 1) := by decide +kernel
theorem dX11_isBetween_6 : decode cX11_isBetween 6 = .ok (.iload_n 2, 1) := by decide +kernel
theorem dX11_isBetween_7 : decode cX11_isBetween 7 = .ok (.if_icmp .gt 7, 3) := by decide +kernel
theorem dX11_isBetween_10 : decode cX11_isBetween 10 = .ok (.iconst 1, 1) := by decide +kernel
theorem dX11_isBetween_11 : decode cX11_isBetween 11 = .ok (.goto 4, 3) := by decide +kernel
theorem dX11_isBetween_14 : decode cX11_isBetween 14 = .ok (.iconst 0, 1) := by decide +kernel
theorem dX11_isBetween_15 : decode cX11_isBetween 15 = .ok (.ireturn, 1) := by decide +kernel
theorem dX11_copyRow_0 : decode cX11_copyRow 0 = .ok (.iconst 0, 1) := by decide +kernel
theorem dX11_copyRow_1 : decode cX11_copyRow 1 = .ok (.istore_n 2, 1) := by decide +kernel
theorem dX11_copyRow_2 : decode cX11_copyRow 2 = .ok (.iload_n 2, 1) := by decide +kernel
theorem dX11_copyRow_3 : decode cX11_copyRow 3 = .ok (.sipush 1247, 3) := by decide +kernel
theorem dX11_copyRow_6 : decode cX11_copyRow 6 = .ok (.if_icmp .ge 15, 3) := by decide +kernel
theorem dX11_copyRow_9 : decode cX11_copyRow 9 = .ok (.aload_n 1, 1) := by decide +kernel
theorem dX11_copyRow_10 : decode cX11_copyRow 10 = .ok (.iload_n 2, 1) := by decide +kernel
theorem dX11_copyRow_11 : decode cX11_copyRow 11 = .ok (.aload_n 0, 1) := by decide +kernel
theorem dX11_copyRow_12 : decode cX11_copyRow 12 = .ok (.iload_n 2, 1) := by decide +kernel
theorem dX11_copyRow_13 : decode cX11_copyRow 13 = .ok (.iaload, 1) := by decide +kernel
theorem dX11_copyRow_14 : decode cX11_copyRow 14 = .ok (.iastore, 1) := by decide +kernel
theorem dX11_copyRow_15 : decode cX11_copyRow 15 = .ok (.iinc 2 1, 3) := by decide +kernel
theorem dX11_copyRow_18 : decode cX11_copyRow 18 = .ok (.goto (-16), 3) := by decide +kernel
theorem dX11_copyRow_21 : decode cX11_copyRow 21 = .ok (.return_, 1) := by decide +kernel
theorem dX11_fails_0 : decode cX11_fails 0 = .ok (.aload_n 0, 1) := by decide +kernel
theorem dX11_fails_1 : decode cX11_fails 1 = .ok (.iload_n 2, 1) := by decide +kernel
theorem dX11_fails_2 : decode cX11_fails 2 = .ok (.ifCond .eq 7, 3) := by decide +kernel
theorem dX11_fails_5 : decode cX11_fails 5 = .ok (.iload_n 1, 1) := by decide +kernel
theorem dX11_fails_6 : decode cX11_fails 6 = .ok (.goto 4, 3) := by decide +kernel
theorem dX11_fails_9 : decode cX11_fails 9 = .ok (.iconst 0, 1) := by decide +kernel
theorem dX11_fails_10 : decode cX11_fails 10 = .ok (.putfield 89, 3) := by decide +kernel
theorem dX11_fails_13 : decode cX11_fails 13 = .ok (.iload_n 2, 1) := by decide +kernel
theorem dX11_fails_14 : decode cX11_fails 14 = .ok (.ireturn, 1) := by decide +kernel
theorem dX11_remember_0 : decode cX11_remember 0 = .ok (.aload_n 0, 1) := by decide +kernel
theorem dX11_remember_1 : decode cX11_remember 1 = .ok (.getfield 92, 3) := by decide +kernel
theorem dX11_remember_4 : decode cX11_remember 4 = .ok (.bipush 8, 2) := by decide +kernel
theorem dX11_remember_6 : decode cX11_remember 6 = .ok (.if_icmp .ne 46, 3) := by decide +kernel
theorem dX11_remember_9 : decode cX11_remember 9 = .ok (.aload_n 0, 1) := by decide +kernel
theorem dX11_remember_10 : decode cX11_remember 10 = .ok (.dup, 1) := by decide +kernel
theorem dX11_remember_11 : decode cX11_remember 11 = .ok (.getfield 92, 3) := by decide +kernel
theorem dX11_remember_14 : decode cX11_remember 14 = .ok (.iconst 1, 1) := by decide +kernel
theorem dX11_remember_15 : decode cX11_remember 15 = .ok (.isub, 1) := by decide +kernel
theorem dX11_remember_16 : decode cX11_remember 16 = .ok (.putfield 92, 3) := by decide +kernel
theorem dX11_remember_19 : decode cX11_remember 19 = .ok (.iconst 0, 1) := by decide +kernel
theorem dX11_remember_20 : decode cX11_remember 20 = .ok (.istore_n 1, 1) := by decide +kernel
theorem dX11_remember_21 : decode cX11_remember 21 = .ok (.iload_n 1, 1) := by decide +kernel
theorem dX11_remember_22 : decode cX11_remember 22 = .ok (.aload_n 0, 1) := by decide +kernel
theorem dX11_remember_23 : decode cX11_remember 23 = .ok (.getfield 92, 3) := by decide +kernel
theorem dX11_remember_26 : decode cX11_remember 26 = .ok (.if_icmp .ge 26, 3) := by decide +kernel
theorem dX11_remember_29 : decode cX11_remember 29 = .ok (.aload_n 0, 1) := by decide +kernel
theorem dX11_remember_30 : decode cX11_remember 30 = .ok (.getfield 18, 3) := by decide +kernel
theorem dX11_remember_33 : decode cX11_remember 33 = .ok (.iload_n 1, 1) := by decide +kernel
theorem dX11_remember_34 : decode cX11_remember 34 = .ok (.iconst 1, 1) := by decide +kernel
theorem dX11_remember_35 : decode cX11_remember 35 = .ok (.iadd, 1) := by decide +kernel
theorem dX11_remember_36 : decode cX11_remember 36 = .ok (.aaload, 1) := by decide +kernel
theorem dX11_remember_37 : decode cX11_remember 37 = .ok (.aload_n 0, 1) := by decide +kernel
theorem dX11_remember_38 : decode cX11_remember 38 = .ok (.getfield 18, 3) := by decide +kernel
theorem dX11_remember_41 : decode cX11_remember 41 = .ok (.iload_n 1, 1) := by decide +kernel
theorem dX11_remember_42 : decode cX11_remember 42 = .ok (.aaload, 1) := by decide +kernel
theorem dX11_remember_43 : decode cX11_remember 43 = .ok (.invokestatic 95, 3) := by decide +kernel
theorem dX11_remember_46 : decode cX11_remember 46 = .ok (.iinc 1 1, 3) := by decide +kernel
theorem dX11_remember_49 : decode cX11_remember 49 = .ok (.goto (-28), 3) := by decide +kernel
theorem dX11_remember_52 : decode cX11_remember 52 = .ok (.aload_n 0, 1) := by decide +kernel
theorem dX11_remember_53 : decode cX11_remember 53 = .ok (.getfield 9, 3) := by decide +kernel
theorem dX11_remember_56 : decode cX11_remember 56 = .ok (.aload_n 0, 1) := by decide +kernel
theorem dX11_remember_57 : decode cX11_remember 57 = .ok (.getfield 18, 3) := by decide +kernel
theorem dX11_remember_60 : decode cX11_remember 60 = .ok (.aload_n 0, 1) := by decide +kernel
theorem dX11_remember_61 : decode cX11_remember 61 = .ok (.getfield 92, 3) := by decide +kernel
theorem dX11_remember_64 : decode cX11_remember 64 = .ok (.aaload, 1) := by decide +kernel
theorem dX11_remember_65 : decode cX11_remember 65 = .ok (.invokestatic 95, 3) := by decide +kernel
theorem dX11_remember_68 : decode cX11_remember 68 = .ok (.aload_n 0, 1) := by decide +kernel
theorem dX11_remember_69 : decode cX11_remember 69 = .ok (.dup, 1) := by decide +kernel
theorem dX11_remember_70 : decode cX11_remember 70 = .ok (.getfield 92, 3) := by decide +kernel
theorem dX11_remember_73 : decode cX11_remember 73 = .ok (.iconst 1, 1) := by decide +kernel
theorem dX11_remember_74 : decode cX11_remember 74 = .ok (.iadd, 1) := by decide +kernel
theorem dX11_remember_75 : decode cX11_remember 75 = .ok (.putfield 92, 3) := by decide +kernel
theorem dX11_remember_78 : decode cX11_remember 78 = .ok (.aload_n 0, 1) := by decide +kernel
theorem dX11_remember_79 : decode cX11_remember 79 = .ok (.getfield 9, 3) := by decide +kernel
theorem dX11_remember_82 : decode cX11_remember 82 = .ok (.iconst 4, 1) := by decide +kernel
theorem dX11_remember_83 : decode cX11_remember 83 = .ok (.dup2, 1) := by decide +kernel
theorem dX11_remember_84 : decode cX11_remember 84 = .ok (.iaload, 1) := by decide +kernel
theorem dX11_remember_85 : decode cX11_remember 85 = .ok (.iconst 1, 1) := by decide +kernel
theorem dX11_remember_86 : decode cX11_remember 86 = .ok (.iadd, 1) := by decide +kernel
theorem dX11_remember_87 : decode cX11_remember 87 = .ok (.iastore, 1) := by decide +kernel
theorem dX11_remember_88 : decode cX11_remember 88 = .ok (.return_, 1) := by decide +kernel
theorem dX11_of_0 : decode cX11_of 0 = .ok (.aload_n 0, 1) := by decide +kernel
theorem dX11_of_1 : decode cX11_of 1 = .ok (.getfield 9, 3) := by decide +kernel
theorem dX11_of_4 : decode cX11_of 4 = .ok (.iconst 5, 1) := by decide +kernel
theorem dX11_of_5 : decode cX11_of 5 = .ok (.iload_n 1, 1) := by decide +kernel
theorem dX11_of_6 : decode cX11_of 6 = .ok (.bipush 23, 2) := by decide +kernel
theorem dX11_of_8 : decode cX11_of 8 = .ok (.imul, 1) := by decide +kernel
theorem dX11_of_9 : decode cX11_of 9 = .ok (.iadd, 1) := by decide +kernel
theorem dX11_of_10 : decode cX11_of 10 = .ok (.iload_n 2, 1) := by decide +kernel
theorem dX11_of_11 : decode cX11_of 11 = .ok (.iadd, 1) := by decide +kernel
theorem dX11_of_12 : decode cX11_of 12 = .ok (.iaload, 1) := by decide +kernel
theorem dX11_of_13 : decode cX11_of 13 = .ok (.ireturn, 1) := by decide +kernel
theorem dX11_formAt_0 : decode cX11_formAt 0 = .ok (.iload_n 0, 1) := by decide +kernel
theorem dX11_formAt_1 : decode cX11_formAt 1 = .ok (.ifCond .eq 8, 3) := by decide +kernel
theorem dX11_formAt_4 : decode cX11_formAt 4 = .ok (.bipush 11, 2) := by decide +kernel
theorem dX11_formAt_6 : decode cX11_formAt 6 = .ok (.goto 4, 3) := by decide +kernel
theorem dX11_formAt_9 : decode cX11_formAt 9 = .ok (.iconst 5, 1) := by decide +kernel
theorem dX11_formAt_10 : decode cX11_formAt 10 = .ok (.ireturn, 1) := by decide +kernel
theorem dX11_lengthOf_0 : decode cX11_lengthOf 0 = .ok (.aload_n 0, 1) := by decide +kernel
theorem dX11_lengthOf_1 : decode cX11_lengthOf 1 = .ok (.iload_n 1, 1) := by decide +kernel
theorem dX11_lengthOf_2 : decode cX11_lengthOf 2 = .ok (.iload_n 2, 1) := by decide +kernel
theorem dX11_lengthOf_3 : decode cX11_lengthOf 3 = .ok (.ifCond .eq 7, 3) := by decide +kernel
theorem dX11_lengthOf_6 : decode cX11_lengthOf 6 = .ok (.iconst 4, 1) := by decide +kernel
theorem dX11_lengthOf_7 : decode cX11_lengthOf 7 = .ok (.goto 4, 3) := by decide +kernel
theorem dX11_lengthOf_10 : decode cX11_lengthOf 10 = .ok (.iconst 3, 1) := by decide +kernel
theorem dX11_lengthOf_11 : decode cX11_lengthOf 11 = .ok (.invokevirtual 99, 3) := by decide +kernel
theorem dX11_lengthOf_14 : decode cX11_lengthOf 14 = .ok (.ireturn, 1) := by decide +kernel
theorem dX11_letterOf_0 : decode cX11_letterOf 0 = .ok (.aload_n 0, 1) := by decide +kernel
theorem dX11_letterOf_1 : decode cX11_letterOf 1 = .ok (.iload_n 1, 1) := by decide +kernel
theorem dX11_letterOf_2 : decode cX11_letterOf 2 = .ok (.iload_n 2, 1) := by decide +kernel
theorem dX11_letterOf_3 : decode cX11_letterOf 3 = .ok (.invokestatic 103, 3) := by decide +kernel
theorem dX11_letterOf_6 : decode cX11_letterOf 6 = .ok (.iload_n 3, 1) := by decide +kernel
theorem dX11_letterOf_7 : decode cX11_letterOf 7 = .ok (.iadd, 1) := by decide +kernel
theorem dX11_letterOf_8 : decode cX11_letterOf 8 = .ok (.invokevirtual 99, 3) := by decide +kernel
theorem dX11_letterOf_11 : decode cX11_letterOf 11 = .ok (.ireturn, 1) := by decide +kernel
theorem dX11_isRule_0 : decode cX11_isRule 0 = .ok (.iload_n 1, 1) := by decide +kernel
theorem dX11_isRule_1 : decode cX11_isRule 1 = .ok (.iconst 0, 1) := by decide +kernel
theorem dX11_isRule_2 : decode cX11_isRule 2 = .ok (.aload_n 0, 1) := by decide +kernel
theorem dX11_isRule_3 : decode cX11_isRule 3 = .ok (.getfield 9, 3) := by decide +kernel
theorem dX11_isRule_6 : decode cX11_isRule 6 = .ok (.iconst 0, 1) := by decide +kernel
theorem dX11_isRule_7 : decode cX11_isRule 7 = .ok (.iaload, 1) := by decide +kernel
theorem dX11_isRule_8 : decode cX11_isRule 8 = .ok (.iconst 1, 1) := by decide +kernel
theorem dX11_isRule_9 : decode cX11_isRule 9 = .ok (.isub, 1) := by decide +kernel
theorem dX11_isRule_10 : decode cX11_isRule 10 = .ok (.invokestatic 107, 3) := by decide +kernel
theorem dX11_isRule_13 : decode cX11_isRule 13 = .ok (.ireturn, 1) := by decide +kernel
theorem dX11_isBetter_0 : decode cX11_isBetter 0 = .ok (.aload_n 0, 1) := by decide +kernel
theorem dX11_isBetter_1 : decode cX11_isBetter 1 = .ok (.iload_n 1, 1) := by decide +kernel
theorem dX11_isBetter_2 : decode cX11_isBetter 2 = .ok (.iconst 1, 1) := by decide +kernel
theorem dX11_isBetter_3 : decode cX11_isBetter 3 = .ok (.invokevirtual 99, 3) := by decide +kernel
theorem dX11_isBetter_6 : decode cX11_isBetter 6 = .ok (.aload_n 0, 1) := by decide +kernel
theorem dX11_isBetter_7 : decode cX11_isBetter 7 = .ok (.iload_n 2, 1) := by decide +kernel
theorem dX11_isBetter_8 : decode cX11_isBetter 8 = .ok (.iconst 1, 1) := by decide +kernel
theorem dX11_isBetter_9 : decode cX11_isBetter 9 = .ok (.invokevirtual 99, 3) := by decide +kernel
theorem dX11_isBetter_12 : decode cX11_isBetter 12 = .ok (.if_icmp .eq 24, 3) := by decide +kernel
theorem dX11_isBetter_15 : decode cX11_isBetter 15 = .ok (.aload_n 0, 1) := by decide +kernel
theorem dX11_isBetter_16 : decode cX11_isBetter 16 = .ok (.iload_n 1, 1) := by decide +kernel
theorem dX11_isBetter_17 : decode cX11_isBetter 17 = .ok (.iconst 1, 1) := by decide +kernel
theorem dX11_isBetter_18 : decode cX11_isBetter 18 = .ok (.invokevirtual 99, 3) := by decide +kernel
theorem dX11_isBetter_21 : decode cX11_isBetter 21 = .ok (.aload_n 0, 1) := by decide +kernel
theorem dX11_isBetter_22 : decode cX11_isBetter 22 = .ok (.iload_n 2, 1) := by decide +kernel
theorem dX11_isBetter_23 : decode cX11_isBetter 23 = .ok (.iconst 1, 1) := by decide +kernel
theorem dX11_isBetter_24 : decode cX11_isBetter 24 = .ok (.invokevirtual 99, 3) := by decide +kernel
theorem dX11_isBetter_27 : decode cX11_isBetter 27 = .ok (.if_icmp .le 7, 3) := by decide +kernel
theorem dX11_isBetter_30 : decode cX11_isBetter 30 = .ok (.iconst 1, 1) := by decide +kernel
theorem dX11_isBetter_31 : decode cX11_isBetter 31 = .ok (.goto 4, 3) := by decide +kernel
theorem dX11_isBetter_34 : decode cX11_isBetter 34 = .ok (.iconst 0, 1) := by decide +kernel
theorem dX11_isBetter_35 : decode cX11_isBetter 35 = .ok (.ireturn, 1) := by decide +kernel
theorem dX11_isBetter_36 : decode cX11_isBetter 36 = .ok (.aload_n 0, 1) := by decide +kernel
theorem dX11_isBetter_37 : decode cX11_isBetter 37 = .ok (.iload_n 1, 1) := by decide +kernel
theorem dX11_isBetter_38 : decode cX11_isBetter 38 = .ok (.iconst 4, 1) := by decide +kernel
theorem dX11_isBetter_39 : decode cX11_isBetter 39 = .ok (.invokevirtual 99, 3) := by decide +kernel
theorem dX11_isBetter_42 : decode cX11_isBetter 42 = .ok (.aload_n 0, 1) := by decide +kernel
theorem dX11_isBetter_43 : decode cX11_isBetter 43 = .ok (.iload_n 2, 1) := by decide +kernel
theorem dX11_isBetter_44 : decode cX11_isBetter 44 = .ok (.iconst 4, 1) := by decide +kernel
theorem dX11_isBetter_45 : decode cX11_isBetter 45 = .ok (.invokevirtual 99, 3) := by decide +kernel
theorem dX11_isBetter_48 : decode cX11_isBetter 48 = .ok (.if_icmp .eq 24, 3) := by decide +kernel
theorem dX11_isBetter_51 : decode cX11_isBetter 51 = .ok (.aload_n 0, 1) := by decide +kernel
theorem dX11_isBetter_52 : decode cX11_isBetter 52 = .ok (.iload_n 1, 1) := by decide +kernel
theorem dX11_isBetter_53 : decode cX11_isBetter 53 = .ok (.iconst 4, 1) := by decide +kernel
theorem dX11_isBetter_54 : decode cX11_isBetter 54 = .ok (.invokevirtual 99, 3) := by decide +kernel
theorem dX11_isBetter_57 : decode cX11_isBetter 57 = .ok (.aload_n 0, 1) := by decide +kernel
theorem dX11_isBetter_58 : decode cX11_isBetter 58 = .ok (.iload_n 2, 1) := by decide +kernel
theorem dX11_isBetter_59 : decode cX11_isBetter 59 = .ok (.iconst 4, 1) := by decide +kernel
theorem dX11_isBetter_60 : decode cX11_isBetter 60 = .ok (.invokevirtual 99, 3) := by decide +kernel
theorem dX11_isBetter_63 : decode cX11_isBetter 63 = .ok (.if_icmp .le 7, 3) := by decide +kernel
theorem dX11_isBetter_66 : decode cX11_isBetter 66 = .ok (.iconst 1, 1) := by decide +kernel
theorem dX11_isBetter_67 : decode cX11_isBetter 67 = .ok (.goto 4, 3) := by decide +kernel
theorem dX11_isBetter_70 : decode cX11_isBetter 70 = .ok (.iconst 0, 1) := by decide +kernel
theorem dX11_isBetter_71 : decode cX11_isBetter 71 = .ok (.ireturn, 1) := by decide +kernel
theorem dX11_isBetter_72 : decode cX11_isBetter 72 = .ok (.iload_n 1, 1) := by decide +kernel
theorem dX11_isBetter_73 : decode cX11_isBetter 73 = .ok (.iload_n 2, 1) := by decide +kernel
theorem dX11_isBetter_74 : decode cX11_isBetter 74 = .ok (.if_icmp .ge 7, 3) := by decide +kernel
theorem dX11_isBetter_77 : decode cX11_isBetter 77 = .ok (.iconst 1, 1) := by decide +kernel
theorem dX11_isBetter_78 : decode cX11_isBetter 78 = .ok (.goto 4, 3) := by decide +kernel
theorem dX11_isBetter_81 : decode cX11_isBetter 81 = .ok (.iconst 0, 1) := by decide +kernel
theorem dX11_isBetter_82 : decode cX11_isBetter 82 = .ok (.ireturn, 1) := by decide +kernel
theorem dX11_clear_0 : decode cX11_clear 0 = .ok (.aload_n 0, 1) := by decide +kernel
theorem dX11_clear_1 : decode cX11_clear 1 = .ok (.iconst 0, 1) := by decide +kernel
theorem dX11_clear_2 : decode cX11_clear 2 = .ok (.putfield 89, 3) := by decide +kernel
theorem dX11_clear_5 : decode cX11_clear 5 = .ok (.aload_n 0, 1) := by decide +kernel
theorem dX11_clear_6 : decode cX11_clear 6 = .ok (.getfield 9, 3) := by decide +kernel
theorem dX11_clear_9 : decode cX11_clear 9 = .ok (.iconst 0, 1) := by decide +kernel
theorem dX11_clear_10 : decode cX11_clear 10 = .ok (.iaload, 1) := by decide +kernel
theorem dX11_clear_11 : decode cX11_clear 11 = .ok (.istore_n 1, 1) := by decide +kernel
theorem dX11_clear_12 : decode cX11_clear 12 = .ok (.iconst 0, 1) := by decide +kernel
theorem dX11_clear_13 : decode cX11_clear 13 = .ok (.istore_n 2, 1) := by decide +kernel
theorem dX11_clear_14 : decode cX11_clear 14 = .ok (.iload_n 2, 1) := by decide +kernel
theorem dX11_clear_15 : decode cX11_clear 15 = .ok (.sipush 1247, 3) := by decide +kernel
theorem dX11_clear_18 : decode cX11_clear 18 = .ok (.if_icmp .ge 16, 3) := by decide +kernel
theorem dX11_clear_21 : decode cX11_clear 21 = .ok (.aload_n 0, 1) := by decide +kernel
theorem dX11_clear_22 : decode cX11_clear 22 = .ok (.getfield 9, 3) := by decide +kernel
theorem dX11_clear_25 : decode cX11_clear 25 = .ok (.iload_n 2, 1) := by decide +kernel
theorem dX11_clear_26 : decode cX11_clear 26 = .ok (.iconst 0, 1) := by decide +kernel
theorem dX11_clear_27 : decode cX11_clear 27 = .ok (.iastore, 1) := by decide +kernel
theorem dX11_clear_28 : decode cX11_clear 28 = .ok (.iinc 2 1, 3) := by decide +kernel
theorem dX11_clear_31 : decode cX11_clear 31 = .ok (.goto (-17), 3) := by decide +kernel
theorem dX11_clear_34 : decode cX11_clear 34 = .ok (.aload_n 0, 1) := by decide +kernel
theorem dX11_clear_35 : decode cX11_clear 35 = .ok (.getfield 9, 3) := by decide +kernel
theorem dX11_clear_38 : decode cX11_clear 38 = .ok (.iconst 2, 1) := by decide +kernel
theorem dX11_clear_39 : decode cX11_clear 39 = .ok (.iconst 1, 1) := by decide +kernel
theorem dX11_clear_40 : decode cX11_clear 40 = .ok (.iastore, 1) := by decide +kernel
theorem dX11_clear_41 : decode cX11_clear 41 = .ok (.aload_n 0, 1) := by decide +kernel
theorem dX11_clear_42 : decode cX11_clear 42 = .ok (.getfield 9, 3) := by decide +kernel
theorem dX11_clear_45 : decode cX11_clear 45 = .ok (.iconst 3, 1) := by decide +kernel
theorem dX11_clear_46 : decode cX11_clear 46 = .ok (.iconst 2, 1) := by decide +kernel
theorem dX11_clear_47 : decode cX11_clear 47 = .ok (.iastore, 1) := by decide +kernel
theorem dX11_clear_48 : decode cX11_clear 48 = .ok (.aload_n 0, 1) := by decide +kernel
theorem dX11_clear_49 : decode cX11_clear 49 = .ok (.iconst 0, 1) := by decide +kernel
theorem dX11_clear_50 : decode cX11_clear 50 = .ok (.putfield 92, 3) := by decide +kernel
theorem dX11_clear_53 : decode cX11_clear 53 = .ok (.iload_n 1, 1) := by decide +kernel
theorem dX11_clear_54 : decode cX11_clear 54 = .ok (.ireturn, 1) := by decide +kernel
theorem dX11_append_0 : decode cX11_append 0 = .ok (.aload_n 0, 1) := by decide +kernel
theorem dX11_append_1 : decode cX11_append 1 = .ok (.iconst 1, 1) := by decide +kernel
theorem dX11_append_2 : decode cX11_append 2 = .ok (.iload_n 1, 1) := by decide +kernel
theorem dX11_append_3 : decode cX11_append 3 = .ok (.bipush 32, 2) := by decide +kernel
theorem dX11_append_5 : decode cX11_append 5 = .ok (.bipush 126, 2) := by decide +kernel
theorem dX11_append_7 : decode cX11_append 7 = .ok (.invokestatic 107, 3) := by decide +kernel
theorem dX11_append_10 : decode cX11_append 10 = .ok (.ifCond .ne 7, 3) := by decide +kernel
theorem dX11_append_13 : decode cX11_append 13 = .ok (.iconst 1, 1) := by decide +kernel
theorem dX11_append_14 : decode cX11_append 14 = .ok (.goto 4, 3) := by decide +kernel
theorem dX11_append_17 : decode cX11_append 17 = .ok (.iconst 0, 1) := by decide +kernel
theorem dX11_append_18 : decode cX11_append 18 = .ok (.invokevirtual 111, 3) := by decide +kernel
theorem dX11_append_21 : decode cX11_append 21 = .ok (.ifCond .ne 25, 3) := by decide +kernel
theorem dX11_append_24 : decode cX11_append 24 = .ok (.aload_n 0, 1) := by decide +kernel
theorem dX11_append_25 : decode cX11_append 25 = .ok (.iconst 2, 1) := by decide +kernel
theorem dX11_append_26 : decode cX11_append 26 = .ok (.aload_n 0, 1) := by decide +kernel
theorem dX11_append_27 : decode cX11_append 27 = .ok (.getfield 115, 3) := by decide +kernel
theorem dX11_append_30 : decode cX11_append 30 = .ok (.bipush 100, 2) := by decide +kernel
theorem dX11_append_32 : decode cX11_append 32 = .ok (.if_icmp .ne 7, 3) := by decide +kernel
theorem dX11_append_35 : decode cX11_append 35 = .ok (.iconst 1, 1) := by decide +kernel
theorem dX11_append_36 : decode cX11_append 36 = .ok (.goto 4, 3) := by decide +kernel
theorem dX11_append_39 : decode cX11_append 39 = .ok (.iconst 0, 1) := by decide +kernel
theorem dX11_append_40 : decode cX11_append 40 = .ok (.invokevirtual 111, 3) := by decide +kernel
theorem dX11_append_43 : decode cX11_append 43 = .ok (.ifCond .eq 5, 3) := by decide +kernel
theorem dX11_append_46 : decode cX11_append 46 = .ok (.iconst 0, 1) := by decide +kernel
theorem dX11_append_47 : decode cX11_append 47 = .ok (.ireturn, 1) := by decide +kernel
theorem dX11_append_48 : decode cX11_append 48 = .ok (.aload_n 0, 1) := by decide +kernel
theorem dX11_append_49 : decode cX11_append 49 = .ok (.getfield 21, 3) := by decide +kernel
theorem dX11_append_52 : decode cX11_append 52 = .ok (.aload_n 0, 1) := by decide +kernel
theorem dX11_append_53 : decode cX11_append 53 = .ok (.getfield 115, 3) := by decide +kernel
theorem dX11_append_56 : decode cX11_append 56 = .ok (.iload_n 1, 1) := by decide +kernel
theorem dX11_append_57 : decode cX11_append 57 = .ok (.castore, 1) := by decide +kernel
theorem dX11_append_58 : decode cX11_append 58 = .ok (.aload_n 0, 1) := by decide +kernel
theorem dX11_append_59 : decode cX11_append 59 = .ok (.dup, 1) := by decide +kernel
theorem dX11_append_60 : decode cX11_append 60 = .ok (.getfield 115, 3) := by decide +kernel
theorem dX11_append_63 : decode cX11_append 63 = .ok (.iconst 1, 1) := by decide +kernel
theorem dX11_append_64 : decode cX11_append 64 = .ok (.iadd, 1) := by decide +kernel
theorem dX11_append_65 : decode cX11_append 65 = .ok (.putfield 115, 3) := by decide +kernel
theorem dX11_append_68 : decode cX11_append 68 = .ok (.aload_n 0, 1) := by decide +kernel
theorem dX11_append_69 : decode cX11_append 69 = .ok (.getfield 115, 3) := by decide +kernel
theorem dX11_append_72 : decode cX11_append 72 = .ok (.ireturn, 1) := by decide +kernel
theorem dX11_sees_0 : decode cX11_sees 0 = .ok (.aload_n 0, 1) := by decide +kernel
theorem dX11_sees_1 : decode cX11_sees 1 = .ok (.getfield 118, 3) := by decide +kernel
theorem dX11_sees_4 : decode cX11_sees 4 = .ok (.ifCond .ne 31, 3) := by decide +kernel
theorem dX11_sees_7 : decode cX11_sees 7 = .ok (.aload_n 0, 1) := by decide +kernel
theorem dX11_sees_8 : decode cX11_sees 8 = .ok (.getfield 122, 3) := by decide +kernel
theorem dX11_sees_11 : decode cX11_sees 11 = .ok (.aload_n 0, 1) := by decide +kernel
theorem dX11_sees_12 : decode cX11_sees 12 = .ok (.getfield 115, 3) := by decide +kernel
theorem dX11_sees_15 : decode cX11_sees 15 = .ok (.if_icmp .ge 20, 3) := by decide +kernel
theorem dX11_sees_18 : decode cX11_sees 18 = .ok (.aload_n 0, 1) := by decide +kernel
theorem dX11_sees_19 : decode cX11_sees 19 = .ok (.getfield 21, 3) := by decide +kernel
theorem dX11_sees_22 : decode cX11_sees 22 = .ok (.aload_n 0, 1) := by decide +kernel
theorem dX11_sees_23 : decode cX11_sees 23 = .ok (.getfield 122, 3) := by decide +kernel
theorem dX11_sees_26 : decode cX11_sees 26 = .ok (.caload, 1) := by decide +kernel
theorem dX11_sees_27 : decode cX11_sees 27 = .ok (.iload_n 1, 1) := by decide +kernel
theorem dX11_sees_28 : decode cX11_sees 28 = .ok (.if_icmp .ne 7, 3) := by decide +kernel
theorem dX11_sees_31 : decode cX11_sees 31 = .ok (.iconst 1, 1) := by decide +kernel
theorem dX11_sees_32 : decode cX11_sees 32 = .ok (.goto 4, 3) := by decide +kernel
theorem dX11_sees_35 : decode cX11_sees 35 = .ok (.iconst 0, 1) := by decide +kernel
theorem dX11_sees_36 : decode cX11_sees 36 = .ok (.ireturn, 1) := by decide +kernel
theorem dX11_seesLetter_0 : decode cX11_seesLetter 0 = .ok (.aload_n 0, 1) := by decide +kernel
theorem dX11_seesLetter_1 : decode cX11_seesLetter 1 = .ok (.getfield 118, 3) := by decide +kernel
theorem dX11_seesLetter_4 : decode cX11_seesLetter 4 = .ok (.ifCond .ne 46, 3) := by decide +kernel
theorem dX11_seesLetter_7 : decode cX11_seesLetter 7 = .ok (.aload_n 0, 1) := by decide +kernel
theorem dX11_seesLetter_8 : decode cX11_seesLetter 8 = .ok (.getfield 122, 3) := by decide +kernel
theorem dX11_seesLetter_11 : decode cX11_seesLetter 11 = .ok (.aload_n 0, 1) := by decide +kernel
theorem dX11_seesLetter_12 : decode cX11_seesLetter 12 = .ok (.getfield 115, 3) := by decide +kernel
theorem dX11_seesLetter_15 : decode cX11_seesLetter 15 = .ok (.if_icmp .ge 35, 3) := by decide +kernel
theorem dX11_seesLetter_18 : decode cX11_seesLetter 18 = .ok (.aload_n 0, 1) := by decide +kernel
theorem dX11_seesLetter_19 : decode cX11_seesLetter 19 = .ok (.getfield 21, 3) := by decide +kernel
theorem dX11_seesLetter_22 : decode cX11_seesLetter 22 = .ok (.aload_n 0, 1) := by decide +kernel
theorem dX11_seesLetter_23 : decode cX11_seesLetter 23 = .ok (.getfield 122, 3) := by decide +kernel
theorem dX11_seesLetter_26 : decode cX11_seesLetter 26 = .ok (.caload, 1) := by decide +kernel
theorem dX11_seesLetter_27 : decode cX11_seesLetter 27 = .ok (.bipush 97, 2) := by decide +kernel
theorem dX11_seesLetter_29 : decode cX11_seesLetter 29 = .ok (.if_icmp .lt 21, 3) := by decide +kernel
theorem dX11_seesLetter_32 : decode cX11_seesLetter 32 = .ok (.aload_n 0, 1) := by decide +kernel
theorem dX11_seesLetter_33 : decode cX11_seesLetter 33 = .ok (.getfield 21, 3) := by decide +kernel
theorem dX11_seesLetter_36 : decode cX11_seesLetter 36 = .ok (.aload_n 0, 1) := by decide +kernel
theorem dX11_seesLetter_37 : decode cX11_seesLetter 37 = .ok (.getfield 122, 3) := by decide +kernel
theorem dX11_seesLetter_40 : decode cX11_seesLetter 40 = .ok (.caload, 1) := by decide +kernel
theorem dX11_seesLetter_41 : decode cX11_seesLetter 41 = .ok (.bipush 122, 2) := by decide +kernel
theorem dX11_seesLetter_43 : decode cX11_seesLetter 43 = .ok (.if_icmp .gt 7, 3) := by decide +kernel
theorem dX11_seesLetter_46 : decode cX11_seesLetter 46 = .ok (.iconst 1, 1) := by decide +kernel
theorem dX11_seesLetter_47 : decode cX11_seesLetter 47 = .ok (.goto 4, 3) := by decide +kernel
theorem dX11_seesLetter_50 : decode cX11_seesLetter 50 = .ok (.iconst 0, 1) := by decide +kernel
theorem dX11_seesLetter_51 : decode cX11_seesLetter 51 = .ok (.ireturn, 1) := by decide +kernel
theorem dX11_passes_0 : decode cX11_passes 0 = .ok (.aload_n 0, 1) := by decide +kernel
theorem dX11_passes_1 : decode cX11_passes 1 = .ok (.iload_n 1, 1) := by decide +kernel
theorem dX11_passes_2 : decode cX11_passes 2 = .ok (.invokevirtual 125, 3) := by decide +kernel
theorem dX11_passes_5 : decode cX11_passes 5 = .ok (.istore_n 2, 1) := by decide +kernel
theorem dX11_passes_6 : decode cX11_passes 6 = .ok (.aload_n 0, 1) := by decide +kernel
theorem dX11_passes_7 : decode cX11_passes 7 = .ok (.dup, 1) := by decide +kernel
theorem dX11_passes_8 : decode cX11_passes 8 = .ok (.getfield 122, 3) := by decide +kernel
theorem dX11_passes_11 : decode cX11_passes 11 = .ok (.iload_n 2, 1) := by decide +kernel
theorem dX11_passes_12 : decode cX11_passes 12 = .ok (.ifCond .eq 7, 3) := by decide +kernel
theorem dX11_passes_15 : decode cX11_passes 15 = .ok (.iconst 1, 1) := by decide +kernel
theorem dX11_passes_16 : decode cX11_passes 16 = .ok (.goto 4, 3) := by decide +kernel
theorem dX11_passes_19 : decode cX11_passes 19 = .ok (.iconst 0, 1) := by decide +kernel
theorem dX11_passes_20 : decode cX11_passes 20 = .ok (.iadd, 1) := by decide +kernel
theorem dX11_passes_21 : decode cX11_passes 21 = .ok (.putfield 122, 3) := by decide +kernel
theorem dX11_passes_24 : decode cX11_passes 24 = .ok (.iload_n 2, 1) := by decide +kernel
theorem dX11_passes_25 : decode cX11_passes 25 = .ok (.ireturn, 1) := by decide +kernel
theorem dX11_passWord_0 : decode cX11_passWord 0 = .ok (.aload_n 0, 1) := by decide +kernel
theorem dX11_passWord_1 : decode cX11_passWord 1 = .ok (.getfield 29, 3) := by decide +kernel
theorem dX11_passWord_4 : decode cX11_passWord 4 = .ok (.aload_n 0, 1) := by decide +kernel
theorem dX11_passWord_5 : decode cX11_passWord 5 = .ok (.getfield 129, 3) := by decide +kernel
theorem dX11_passWord_8 : decode cX11_passWord 8 = .ok (.aload_n 0, 1) := by decide +kernel
theorem dX11_passWord_9 : decode cX11_passWord 9 = .ok (.getfield 122, 3) := by decide +kernel
theorem dX11_passWord_12 : decode cX11_passWord 12 = .ok (.iastore, 1) := by decide +kernel
theorem dX11_passWord_13 : decode cX11_passWord 13 = .ok (.aload_n 0, 1) := by decide +kernel
theorem dX11_passWord_14 : decode cX11_passWord 14 = .ok (.dup, 1) := by decide +kernel
theorem dX11_passWord_15 : decode cX11_passWord 15 = .ok (.getfield 118, 3) := by decide +kernel
theorem dX11_passWord_18 : decode cX11_passWord 18 = .ok (.aload_n 0, 1) := by decide +kernel
theorem dX11_passWord_19 : decode cX11_passWord 19 = .ok (.invokevirtual 132, 3) := by decide +kernel
theorem dX11_passWord_22 : decode cX11_passWord 22 = .ok (.ifCond .ne 7, 3) := by decide +kernel
theorem dX11_passWord_25 : decode cX11_passWord 25 = .ok (.iconst 1, 1) := by decide +kernel
theorem dX11_passWord_26 : decode cX11_passWord 26 = .ok (.goto 4, 3) := by decide +kernel
theorem dX11_passWord_29 : decode cX11_passWord 29 = .ok (.iconst 0, 1) := by decide +kernel
theorem dX11_passWord_30 : decode cX11_passWord 30 = .ok (.ior, 1) := by decide +kernel
theorem dX11_passWord_31 : decode cX11_passWord 31 = .ok (.putfield 118, 3) := by decide +kernel
theorem dX11_passWord_34 : decode cX11_passWord 34 = .ok (.aload_n 0, 1) := by decide +kernel
theorem dX11_passWord_35 : decode cX11_passWord 35 = .ok (.invokevirtual 132, 3) := by decide +kernel
theorem dX11_passWord_38 : decode cX11_passWord 38 = .ok (.ifCond .eq 34, 3) := by decide +kernel
theorem dX11_passWord_41 : decode cX11_passWord 41 = .ok (.aload_n 0, 1) := by decide +kernel
theorem dX11_passWord_42 : decode cX11_passWord 42 = .ok (.getfield 122, 3) := by decide +kernel
theorem dX11_passWord_45 : decode cX11_passWord 45 = .ok (.aload_n 0, 1) := by decide +kernel
theorem dX11_passWord_46 : decode cX11_passWord 46 = .ok (.getfield 29, 3) := by decide +kernel
theorem dX11_passWord_49 : decode cX11_passWord 49 = .ok (.aload_n 0, 1) := by decide +kernel
theorem dX11_passWord_50 : decode cX11_passWord 50 = .ok (.getfield 129, 3) := by decide +kernel
theorem dX11_passWord_53 : decode cX11_passWord 53 = .ok (.iaload, 1) := by decide +kernel
theorem dX11_passWord_54 : decode cX11_passWord 54 = .ok (.isub, 1) := by decide +kernel
theorem dX11_passWord_55 : decode cX11_passWord 55 = .ok (.iload_n 1, 1) := by decide +kernel
theorem dX11_passWord_56 : decode cX11_passWord 56 = .ok (.if_icmp .ge 16, 3) := by decide +kernel
theorem dX11_passWord_59 : decode cX11_passWord 59 = .ok (.aload_n 0, 1) := by decide +kernel
theorem dX11_passWord_60 : decode cX11_passWord 60 = .ok (.dup, 1) := by decide +kernel
theorem dX11_passWord_61 : decode cX11_passWord 61 = .ok (.getfield 122, 3) := by decide +kernel
theorem dX11_passWord_64 : decode cX11_passWord 64 = .ok (.iconst 1, 1) := by decide +kernel
theorem dX11_passWord_65 : decode cX11_passWord 65 = .ok (.iadd, 1) := by decide +kernel
theorem dX11_passWord_66 : decode cX11_passWord 66 = .ok (.putfield 122, 3) := by decide +kernel
theorem dX11_passWord_69 : decode cX11_passWord 69 = .ok (.goto (-35), 3) := by decide +kernel
theorem dX11_passWord_72 : decode cX11_passWord 72 = .ok (.aload_n 0, 1) := by decide +kernel
theorem dX11_passWord_73 : decode cX11_passWord 73 = .ok (.getfield 32, 3) := by decide +kernel
theorem dX11_passWord_76 : decode cX11_passWord 76 = .ok (.aload_n 0, 1) := by decide +kernel
theorem dX11_passWord_77 : decode cX11_passWord 77 = .ok (.getfield 129, 3) := by decide +kernel
theorem dX11_passWord_80 : decode cX11_passWord 80 = .ok (.aload_n 0, 1) := by decide +kernel
theorem dX11_passWord_81 : decode cX11_passWord 81 = .ok (.getfield 122, 3) := by decide +kernel
theorem dX11_passWord_84 : decode cX11_passWord 84 = .ok (.aload_n 0, 1) := by decide +kernel
theorem dX11_passWord_85 : decode cX11_passWord 85 = .ok (.getfield 29, 3) := by decide +kernel
theorem dX11_passWord_88 : decode cX11_passWord 88 = .ok (.aload_n 0, 1) := by decide +kernel
theorem dX11_passWord_89 : decode cX11_passWord 89 = .ok (.getfield 129, 3) := by decide +kernel
theorem dX11_passWord_92 : decode cX11_passWord 92 = .ok (.iaload, 1) := by decide +kernel
theorem dX11_passWord_93 : decode cX11_passWord 93 = .ok (.isub, 1) := by decide +kernel
theorem dX11_passWord_94 : decode cX11_passWord 94 = .ok (.iastore, 1) := by decide +kernel
theorem dX11_passWord_95 : decode cX11_passWord 95 = .ok (.aload_n 0, 1) := by decide +kernel
theorem dX11_passWord_96 : decode cX11_passWord 96 = .ok (.getfield 35, 3) := by decide +kernel
theorem dX11_passWord_99 : decode cX11_passWord 99 = .ok (.aload_n 0, 1) := by decide +kernel
theorem dX11_passWord_100 : decode cX11_passWord 100 = .ok (.getfield 129, 3) := by decide +kernel
theorem dX11_passWord_103 : decode cX11_passWord 103 = .ok (.iconst 0, 1) := by decide +kernel
theorem dX11_passWord_104 : decode cX11_passWord 104 = .ok (.bastore, 1) := by decide +kernel
theorem dX11_passWord_105 : decode cX11_passWord 105 = .ok (.aload_n 0, 1) := by decide +kernel
theorem dX11_passWord_106 : decode cX11_passWord 106 = .ok (.dup, 1) := by decide +kernel
theorem dX11_passWord_107 : decode cX11_passWord 107 = .ok (.getfield 129, 3) := by decide +kernel
theorem dX11_passWord_110 : decode cX11_passWord 110 = .ok (.iconst 1, 1) := by decide +kernel
theorem dX11_passWord_111 : decode cX11_passWord 111 = .ok (.iadd, 1) := by decide +kernel
theorem dX11_passWord_112 : decode cX11_passWord 112 = .ok (.putfield 129, 3) := by decide +kernel
theorem dX11_passWord_115 : decode cX11_passWord 115 = .ok (.return_, 1) := by decide +kernel
theorem dX11_passMarkedWord_0 : decode cX11_passMarkedWord 0 = .ok (.aload_n 0, 1) := by decide +kernel
theorem dX11_passMarkedWord_1 : decode cX11_passMarkedWord 1 = .ok (.bipush 39, 2) := by decide +kernel
theorem dX11_passMarkedWord_3 : decode cX11_passMarkedWord 3 = .ok (.invokevirtual 136, 3) := by decide +kernel
theorem dX11_passMarkedWord_6 : decode cX11_passMarkedWord 6 = .ok (.istore_n 1, 1) := by decide +kernel
theorem dX11_passMarkedWord_7 : decode cX11_passMarkedWord 7 = .ok (.aload_n 0, 1) := by decide +kernel
theorem dX11_passMarkedWord_8 : decode cX11_passMarkedWord 8 = .ok (.bipush 24, 2) := by decide +kernel
theorem dX11_passMarkedWord_10 : decode cX11_passMarkedWord 10 = .ok (.invokevirtual 139, 3) := by decide +kernel
theorem dX11_passMarkedWord_13 : decode cX11_passMarkedWord 13 = .ok (.aload_n 0, 1) := by decide +kernel
theorem dX11_passMarkedWord_14 : decode cX11_passMarkedWord 14 = .ok (.getfield 35, 3) := by decide +kernel
theorem dX11_passMarkedWord_17 : decode cX11_passMarkedWord 17 = .ok (.aload_n 0, 1) := by decide +kernel
theorem dX11_passMarkedWord_18 : decode cX11_passMarkedWord 18 = .ok (.getfield 129, 3) := by decide +kernel
theorem dX11_passMarkedWord_21 : decode cX11_passMarkedWord 21 = .ok (.iconst 1, 1) := by decide +kernel
theorem dX11_passMarkedWord_22 : decode cX11_passMarkedWord 22 = .ok (.isub, 1) := by decide +kernel
theorem dX11_passMarkedWord_23 : decode cX11_passMarkedWord 23 = .ok (.iload_n 1, 1) := by decide +kernel
theorem dX11_passMarkedWord_24 : decode cX11_passMarkedWord 24 = .ok (.bastore, 1) := by decide +kernel
theorem dX11_passMarkedWord_25 : decode cX11_passMarkedWord 25 = .ok (.return_, 1) := by decide +kernel
theorem dX11_passWords_0 : decode cX11_passWords 0 = .ok (.aload_n 0, 1) := by decide +kernel
theorem dX11_passWords_1 : decode cX11_passWords 1 = .ok (.getfield 129, 3) := by decide +kernel
theorem dX11_passWords_4 : decode cX11_passWords 4 = .ok (.istore_n 3, 1) := by decide +kernel
theorem dX11_passWords_5 : decode cX11_passWords 5 = .ok (.iconst 1, 1) := by decide +kernel
theorem dX11_passWords_6 : decode cX11_passWords 6 = .ok (.istore 4, 2) := by decide +kernel
theorem dX11_passWords_8 : decode cX11_passWords 8 = .ok (.iload 4, 2) := by decide +kernel
theorem dX11_passWords_10 : decode cX11_passWords 10 = .ok (.ifCond .eq 56, 3) := by decide +kernel
theorem dX11_passWords_13 : decode cX11_passWords 13 = .ok (.iload_n 2, 1) := by decide +kernel
theorem dX11_passWords_14 : decode cX11_passWords 14 = .ok (.ifCond .eq 10, 3) := by decide +kernel
theorem dX11_passWords_17 : decode cX11_passWords 17 = .ok (.aload_n 0, 1) := by decide +kernel
theorem dX11_passWords_18 : decode cX11_passWords 18 = .ok (.invokevirtual 143, 3) := by decide +kernel
theorem dX11_passWords_21 : decode cX11_passWords 21 = .ok (.goto 9, 3) := by decide +kernel
theorem dX11_passWords_24 : decode cX11_passWords 24 = .ok (.aload_n 0, 1) := by decide +kernel
theorem dX11_passWords_25 : decode cX11_passWords 25 = .ok (.bipush 24, 2) := by decide +kernel
theorem dX11_passWords_27 : decode cX11_passWords 27 = .ok (.invokevirtual 139, 3) := by decide +kernel
theorem dX11_passWords_30 : decode cX11_passWords 30 = .ok (.aload_n 0, 1) := by decide +kernel
theorem dX11_passWords_31 : decode cX11_passWords 31 = .ok (.getfield 118, 3) := by decide +kernel
theorem dX11_passWords_34 : decode cX11_passWords 34 = .ok (.ifCond .ne 26, 3) := by decide +kernel
theorem dX11_passWords_37 : decode cX11_passWords 37 = .ok (.aload_n 0, 1) := by decide +kernel
theorem dX11_passWords_38 : decode cX11_passWords 38 = .ok (.getfield 129, 3) := by decide +kernel
theorem dX11_passWords_41 : decode cX11_passWords 41 = .ok (.iload_n 3, 1) := by decide +kernel
theorem dX11_passWords_42 : decode cX11_passWords 42 = .ok (.isub, 1) := by decide +kernel
theorem dX11_passWords_43 : decode cX11_passWords 43 = .ok (.iload_n 1, 1) := by decide +kernel
theorem dX11_passWords_44 : decode cX11_passWords 44 = .ok (.if_icmp .ge 16, 3) := by decide +kernel
theorem dX11_passWords_47 : decode cX11_passWords 47 = .ok (.aload_n 0, 1) := by decide +kernel
theorem dX11_passWords_48 : decode cX11_passWords 48 = .ok (.bipush 32, 2) := by decide +kernel
theorem dX11_passWords_50 : decode cX11_passWords 50 = .ok (.invokevirtual 136, 3) := by decide +kernel
theorem dX11_passWords_53 : decode cX11_passWords 53 = .ok (.ifCond .eq 7, 3) := by decide +kernel
theorem dX11_passWords_56 : decode cX11_passWords 56 = .ok (.iconst 1, 1) := by decide +kernel
theorem dX11_passWords_57 : decode cX11_passWords 57 = .ok (.goto 4, 3) := by decide +kernel
theorem dX11_passWords_60 : decode cX11_passWords 60 = .ok (.iconst 0, 1) := by decide +kernel
theorem dX11_passWords_61 : decode cX11_passWords 61 = .ok (.istore 4, 2) := by decide +kernel
theorem dX11_passWords_63 : decode cX11_passWords 63 = .ok (.goto (-55), 3) := by decide +kernel
theorem dX11_passWords_66 : decode cX11_passWords 66 = .ok (.return_, 1) := by decide +kernel
theorem dX11_begin_0 : decode cX11_begin 0 = .ok (.aload_n 0, 1) := by decide +kernel
theorem dX11_begin_1 : decode cX11_begin 1 = .ok (.iconst 0, 1) := by decide +kernel
theorem dX11_begin_2 : decode cX11_begin 2 = .ok (.putfield 122, 3) := by decide +kernel
theorem dX11_begin_5 : decode cX11_begin 5 = .ok (.aload_n 0, 1) := by decide +kernel
theorem dX11_begin_6 : decode cX11_begin 6 = .ok (.iconst 0, 1) := by decide +kernel
theorem dX11_begin_7 : decode cX11_begin 7 = .ok (.putfield 129, 3) := by decide +kernel
theorem dX11_begin_10 : decode cX11_begin 10 = .ok (.aload_n 0, 1) := by decide +kernel
theorem dX11_begin_11 : decode cX11_begin 11 = .ok (.iconst 0, 1) := by decide +kernel
theorem dX11_begin_12 : decode cX11_begin 12 = .ok (.putfield 118, 3) := by decide +kernel
theorem dX11_begin_15 : decode cX11_begin 15 = .ok (.return_, 1) := by decide +kernel
theorem dX11_isMalformed_0 : decode cX11_isMalformed 0 = .ok (.aload_n 0, 1) := by decide +kernel
theorem dX11_isMalformed_1 : decode cX11_isMalformed 1 = .ok (.dup, 1) := by decide +kernel
theorem dX11_isMalformed_2 : decode cX11_isMalformed 2 = .ok (.getfield 118, 3) := by decide +kernel
theorem dX11_isMalformed_5 : decode cX11_isMalformed 5 = .ok (.aload_n 0, 1) := by decide +kernel
theorem dX11_isMalformed_6 : decode cX11_isMalformed 6 = .ok (.getfield 122, 3) := by decide +kernel
theorem dX11_isMalformed_9 : decode cX11_isMalformed 9 = .ok (.aload_n 0, 1) := by decide +kernel
theorem dX11_isMalformed_10 : decode cX11_isMalformed 10 = .ok (.getfield 115, 3) := by decide +kernel
theorem dX11_isMalformed_13 : decode cX11_isMalformed 13 = .ok (.if_icmp .ge 7, 3) := by decide +kernel
theorem dX11_isMalformed_16 : decode cX11_isMalformed 16 = .ok (.iconst 1, 1) := by decide +kernel
theorem dX11_isMalformed_17 : decode cX11_isMalformed 17 = .ok (.goto 4, 3) := by decide +kernel
theorem dX11_isMalformed_20 : decode cX11_isMalformed 20 = .ok (.iconst 0, 1) := by decide +kernel
theorem dX11_isMalformed_21 : decode cX11_isMalformed 21 = .ok (.ior, 1) := by decide +kernel
theorem dX11_isMalformed_22 : decode cX11_isMalformed 22 = .ok (.putfield 118, 3) := by decide +kernel
theorem dX11_isMalformed_25 : decode cX11_isMalformed 25 = .ok (.aload_n 0, 1) := by decide +kernel
theorem dX11_isMalformed_26 : decode cX11_isMalformed 26 = .ok (.getfield 118, 3) := by decide +kernel
theorem dX11_isMalformed_29 : decode cX11_isMalformed 29 = .ok (.ifCond .eq 11, 3) := by decide +kernel
theorem dX11_isMalformed_32 : decode cX11_isMalformed 32 = .ok (.aload_n 0, 1) := by decide +kernel
theorem dX11_isMalformed_33 : decode cX11_isMalformed 33 = .ok (.aload_n 0, 1) := by decide +kernel
theorem dX11_isMalformed_34 : decode cX11_isMalformed 34 = .ok (.getfield 122, 3) := by decide +kernel
theorem dX11_isMalformed_37 : decode cX11_isMalformed 37 = .ok (.putfield 25, 3) := by decide +kernel
theorem dX11_isMalformed_40 : decode cX11_isMalformed 40 = .ok (.aload_n 0, 1) := by decide +kernel
theorem dX11_isMalformed_41 : decode cX11_isMalformed 41 = .ok (.iload_n 1, 1) := by decide +kernel
theorem dX11_isMalformed_42 : decode cX11_isMalformed 42 = .ok (.ifCond .eq 7, 3) := by decide +kernel
theorem dX11_isMalformed_45 : decode cX11_isMalformed 45 = .ok (.iconst 0, 1) := by decide +kernel
theorem dX11_isMalformed_46 : decode cX11_isMalformed 46 = .ok (.goto 7, 3) := by decide +kernel
theorem dX11_isMalformed_49 : decode cX11_isMalformed 49 = .ok (.aload_n 0, 1) := by decide +kernel
theorem dX11_isMalformed_50 : decode cX11_isMalformed 50 = .ok (.getfield 115, 3) := by decide +kernel
theorem dX11_isMalformed_53 : decode cX11_isMalformed 53 = .ok (.putfield 115, 3) := by decide +kernel
theorem dX11_isMalformed_56 : decode cX11_isMalformed 56 = .ok (.aload_n 0, 1) := by decide +kernel
theorem dX11_isMalformed_57 : decode cX11_isMalformed 57 = .ok (.getfield 118, 3) := by decide +kernel
theorem dX11_isMalformed_60 : decode cX11_isMalformed 60 = .ok (.ireturn, 1) := by decide +kernel
theorem dX11_readText_0 : decode cX11_readText 0 = .ok (.aload_n 0, 1) := by decide +kernel
theorem dX11_readText_1 : decode cX11_readText 1 = .ok (.invokevirtual 146, 3) := by decide +kernel
theorem dX11_readText_4 : decode cX11_readText 4 = .ok (.aload_n 0, 1) := by decide +kernel
theorem dX11_readText_5 : decode cX11_readText 5 = .ok (.bipush 60, 2) := by decide +kernel
theorem dX11_readText_7 : decode cX11_readText 7 = .ok (.iload_n 1, 1) := by decide +kernel
theorem dX11_readText_8 : decode cX11_readText 8 = .ok (.invokevirtual 149, 3) := by decide +kernel
theorem dX11_readText_11 : decode cX11_readText 11 = .ok (.aload_n 0, 1) := by decide +kernel
theorem dX11_readText_12 : decode cX11_readText 12 = .ok (.iload_n 2, 1) := by decide +kernel
theorem dX11_readText_13 : decode cX11_readText 13 = .ok (.invokevirtual 153, 3) := by decide +kernel
theorem dX11_readText_16 : decode cX11_readText 16 = .ok (.ireturn, 1) := by decide +kernel
theorem dX11_readRule_0 : decode cX11_readRule 0 = .ok (.aload_n 0, 1) := by decide +kernel
theorem dX11_readRule_1 : decode cX11_readRule 1 = .ok (.invokevirtual 146, 3) := by decide +kernel
theorem dX11_readRule_4 : decode cX11_readRule 4 = .ok (.aload_n 0, 1) := by decide +kernel
theorem dX11_readRule_5 : decode cX11_readRule 5 = .ok (.bipush 6, 2) := by decide +kernel
theorem dX11_readRule_7 : decode cX11_readRule 7 = .ok (.invokevirtual 139, 3) := by decide +kernel
theorem dX11_readRule_10 : decode cX11_readRule 10 = .ok (.aload_n 0, 1) := by decide +kernel
theorem dX11_readRule_11 : decode cX11_readRule 11 = .ok (.dup, 1) := by decide +kernel
theorem dX11_readRule_12 : decode cX11_readRule 12 = .ok (.getfield 118, 3) := by decide +kernel
theorem dX11_readRule_15 : decode cX11_readRule 15 = .ok (.aload_n 0, 1) := by decide +kernel
theorem dX11_readRule_16 : decode cX11_readRule 16 = .ok (.bipush 61, 2) := by decide +kernel
theorem dX11_readRule_18 : decode cX11_readRule 18 = .ok (.invokevirtual 136, 3) := by decide +kernel
theorem dX11_readRule_21 : decode cX11_readRule 21 = .ok (.ifCond .ne 7, 3) := by decide +kernel
theorem dX11_readRule_24 : decode cX11_readRule 24 = .ok (.iconst 1, 1) := by decide +kernel
theorem dX11_readRule_25 : decode cX11_readRule 25 = .ok (.goto 4, 3) := by decide +kernel
theorem dX11_readRule_28 : decode cX11_readRule 28 = .ok (.iconst 0, 1) := by decide +kernel
theorem dX11_readRule_29 : decode cX11_readRule 29 = .ok (.ior, 1) := by decide +kernel
theorem dX11_readRule_30 : decode cX11_readRule 30 = .ok (.putfield 118, 3) := by decide +kernel
theorem dX11_readRule_33 : decode cX11_readRule 33 = .ok (.aload_n 0, 1) := by decide +kernel
theorem dX11_readRule_34 : decode cX11_readRule 34 = .ok (.getfield 118, 3) := by decide +kernel
theorem dX11_readRule_37 : decode cX11_readRule 37 = .ok (.ifCond .ne 9, 3) := by decide +kernel
theorem dX11_readRule_40 : decode cX11_readRule 40 = .ok (.aload_n 0, 1) := by decide +kernel
theorem dX11_readRule_41 : decode cX11_readRule 41 = .ok (.bipush 12, 2) := by decide +kernel
theorem dX11_readRule_43 : decode cX11_readRule 43 = .ok (.invokevirtual 139, 3) := by decide +kernel
theorem dX11_readRule_46 : decode cX11_readRule 46 = .ok (.aload_n 0, 1) := by decide +kernel
theorem dX11_readRule_47 : decode cX11_readRule 47 = .ok (.dup, 1) := by decide +kernel
theorem dX11_readRule_48 : decode cX11_readRule 48 = .ok (.getfield 118, 3) := by decide +kernel
theorem dX11_readRule_51 : decode cX11_readRule 51 = .ok (.aload_n 0, 1) := by decide +kernel
theorem dX11_readRule_52 : decode cX11_readRule 52 = .ok (.getfield 122, 3) := by decide +kernel
theorem dX11_readRule_55 : decode cX11_readRule 55 = .ok (.aload_n 0, 1) := by decide +kernel
theorem dX11_readRule_56 : decode cX11_readRule 56 = .ok (.getfield 115, 3) := by decide +kernel
theorem dX11_readRule_59 : decode cX11_readRule 59 = .ok (.if_icmp .ne 24, 3) := by decide +kernel
theorem dX11_readRule_62 : decode cX11_readRule 62 = .ok (.aload_n 0, 1) := by decide +kernel
theorem dX11_readRule_63 : decode cX11_readRule 63 = .ok (.getfield 129, 3) := by decide +kernel
theorem dX11_readRule_66 : decode cX11_readRule 66 = .ok (.iconst 2, 1) := by decide +kernel
theorem dX11_readRule_67 : decode cX11_readRule 67 = .ok (.if_icmp .ne 16, 3) := by decide +kernel
theorem dX11_readRule_70 : decode cX11_readRule 70 = .ok (.aload_n 0, 1) := by decide +kernel
theorem dX11_readRule_71 : decode cX11_readRule 71 = .ok (.iconst 0, 1) := by decide +kernel
theorem dX11_readRule_72 : decode cX11_readRule 72 = .ok (.iconst 1, 1) := by decide +kernel
theorem dX11_readRule_73 : decode cX11_readRule 73 = .ok (.invokevirtual 157, 3) := by decide +kernel
theorem dX11_readRule_76 : decode cX11_readRule 76 = .ok (.ifCond .ne 7, 3) := by decide +kernel
theorem dX11_readRule_79 : decode cX11_readRule 79 = .ok (.iconst 1, 1) := by decide +kernel
theorem dX11_readRule_80 : decode cX11_readRule 80 = .ok (.goto 4, 3) := by decide +kernel
theorem dX11_readRule_83 : decode cX11_readRule 83 = .ok (.iconst 0, 1) := by decide +kernel
theorem dX11_readRule_84 : decode cX11_readRule 84 = .ok (.ior, 1) := by decide +kernel
theorem dX11_readRule_85 : decode cX11_readRule 85 = .ok (.putfield 118, 3) := by decide +kernel
theorem dX11_readRule_88 : decode cX11_readRule 88 = .ok (.aload_n 0, 1) := by decide +kernel
theorem dX11_readRule_89 : decode cX11_readRule 89 = .ok (.iconst 1, 1) := by decide +kernel
theorem dX11_readRule_90 : decode cX11_readRule 90 = .ok (.invokevirtual 153, 3) := by decide +kernel
theorem dX11_readRule_93 : decode cX11_readRule 93 = .ok (.ireturn, 1) := by decide +kernel
theorem dX11_isForm_0 : decode cX11_isForm 0 = .ok (.aload_n 0, 1) := by decide +kernel
theorem dX11_isForm_1 : decode cX11_isForm 1 = .ok (.getfield 32, 3) := by decide +kernel
theorem dX11_isForm_4 : decode cX11_isForm 4 = .ok (.iload_n 1, 1) := by decide +kernel
theorem dX11_isForm_5 : decode cX11_isForm 5 = .ok (.iaload, 1) := by decide +kernel
theorem dX11_isForm_6 : decode cX11_isForm 6 = .ok (.bipush 6, 2) := by decide +kernel
theorem dX11_isForm_8 : decode cX11_isForm 8 = .ok (.if_icmp .gt 33, 3) := by decide +kernel
theorem dX11_isForm_11 : decode cX11_isForm 11 = .ok (.aload_n 0, 1) := by decide +kernel
theorem dX11_isForm_12 : decode cX11_isForm 12 = .ok (.getfield 32, 3) := by decide +kernel
theorem dX11_isForm_15 : decode cX11_isForm 15 = .ok (.iload_n 2, 1) := by decide +kernel
theorem dX11_isForm_16 : decode cX11_isForm 16 = .ok (.iaload, 1) := by decide +kernel
theorem dX11_isForm_17 : decode cX11_isForm 17 = .ok (.bipush 12, 2) := by decide +kernel
theorem dX11_isForm_19 : decode cX11_isForm 19 = .ok (.if_icmp .gt 22, 3) := by decide +kernel
theorem dX11_isForm_22 : decode cX11_isForm 22 = .ok (.aload_n 0, 1) := by decide +kernel
theorem dX11_isForm_23 : decode cX11_isForm 23 = .ok (.getfield 32, 3) := by decide +kernel
theorem dX11_isForm_26 : decode cX11_isForm 26 = .ok (.iload_n 2, 1) := by decide +kernel
theorem dX11_isForm_27 : decode cX11_isForm 27 = .ok (.iaload, 1) := by decide +kernel
theorem dX11_isForm_28 : decode cX11_isForm 28 = .ok (.aload_n 0, 1) := by decide +kernel
theorem dX11_isForm_29 : decode cX11_isForm 29 = .ok (.getfield 32, 3) := by decide +kernel
theorem dX11_isForm_32 : decode cX11_isForm 32 = .ok (.iload_n 1, 1) := by decide +kernel
theorem dX11_isForm_33 : decode cX11_isForm 33 = .ok (.iaload, 1) := by decide +kernel
theorem dX11_isForm_34 : decode cX11_isForm 34 = .ok (.if_icmp .le 7, 3) := by decide +kernel
theorem dX11_isForm_37 : decode cX11_isForm 37 = .ok (.iconst 1, 1) := by decide +kernel
theorem dX11_isForm_38 : decode cX11_isForm 38 = .ok (.goto 4, 3) := by decide +kernel
theorem dX11_isForm_41 : decode cX11_isForm 41 = .ok (.iconst 0, 1) := by decide +kernel
theorem dX11_isForm_42 : decode cX11_isForm 42 = .ok (.ireturn, 1) := by decide +kernel
theorem dX11_readPairs_0 : decode cX11_readPairs 0 = .ok (.aload_n 0, 1) := by decide +kernel
theorem dX11_readPairs_1 : decode cX11_readPairs 1 = .ok (.invokevirtual 146, 3) := by decide +kernel
theorem dX11_readPairs_4 : decode cX11_readPairs 4 = .ok (.aload_n 0, 1) := by decide +kernel
theorem dX11_readPairs_5 : decode cX11_readPairs 5 = .ok (.bipush 60, 2) := by decide +kernel
theorem dX11_readPairs_7 : decode cX11_readPairs 7 = .ok (.iconst 0, 1) := by decide +kernel
theorem dX11_readPairs_8 : decode cX11_readPairs 8 = .ok (.invokevirtual 149, 3) := by decide +kernel
theorem dX11_readPairs_11 : decode cX11_readPairs 11 = .ok (.aload_n 0, 1) := by decide +kernel
theorem dX11_readPairs_12 : decode cX11_readPairs 12 = .ok (.getfield 129, 3) := by decide +kernel
theorem dX11_readPairs_15 : decode cX11_readPairs 15 = .ok (.istore_n 1, 1) := by decide +kernel
theorem dX11_readPairs_16 : decode cX11_readPairs 16 = .ok (.aload_n 0, 1) := by decide +kernel
theorem dX11_readPairs_17 : decode cX11_readPairs 17 = .ok (.dup, 1) := by decide +kernel
theorem dX11_readPairs_18 : decode cX11_readPairs 18 = .ok (.getfield 118, 3) := by decide +kernel
theorem dX11_readPairs_21 : decode cX11_readPairs 21 = .ok (.aload_n 0, 1) := by decide +kernel
theorem dX11_readPairs_22 : decode cX11_readPairs 22 = .ok (.bipush 61, 2) := by decide +kernel
theorem dX11_readPairs_24 : decode cX11_readPairs 24 = .ok (.invokevirtual 136, 3) := by decide +kernel
theorem dX11_readPairs_27 : decode cX11_readPairs 27 = .ok (.ifCond .ne 7, 3) := by decide +kernel
theorem dX11_readPairs_30 : decode cX11_readPairs 30 = .ok (.iconst 1, 1) := by decide +kernel
theorem dX11_readPairs_31 : decode cX11_readPairs 31 = .ok (.goto 4, 3) := by decide +kernel
theorem dX11_readPairs_34 : decode cX11_readPairs 34 = .ok (.iconst 0, 1) := by decide +kernel
theorem dX11_readPairs_35 : decode cX11_readPairs 35 = .ok (.ior, 1) := by decide +kernel
theorem dX11_readPairs_36 : decode cX11_readPairs 36 = .ok (.putfield 118, 3) := by decide +kernel
theorem dX11_readPairs_39 : decode cX11_readPairs 39 = .ok (.aload_n 0, 1) := by decide +kernel
theorem dX11_readPairs_40 : decode cX11_readPairs 40 = .ok (.getfield 118, 3) := by decide +kernel
theorem dX11_readPairs_43 : decode cX11_readPairs 43 = .ok (.ifCond .ne 9, 3) := by decide +kernel
theorem dX11_readPairs_46 : decode cX11_readPairs 46 = .ok (.aload_n 0, 1) := by decide +kernel
theorem dX11_readPairs_47 : decode cX11_readPairs 47 = .ok (.iload_n 1, 1) := by decide +kernel
theorem dX11_readPairs_48 : decode cX11_readPairs 48 = .ok (.iconst 0, 1) := by decide +kernel
theorem dX11_readPairs_49 : decode cX11_readPairs 49 = .ok (.invokevirtual 149, 3) := by decide +kernel
theorem dX11_readPairs_52 : decode cX11_readPairs 52 = .ok (.aload_n 0, 1) := by decide +kernel
theorem dX11_readPairs_53 : decode cX11_readPairs 53 = .ok (.dup, 1) := by decide +kernel
theorem dX11_readPairs_54 : decode cX11_readPairs 54 = .ok (.getfield 118, 3) := by decide +kernel
theorem dX11_readPairs_57 : decode cX11_readPairs 57 = .ok (.aload_n 0, 1) := by decide +kernel
theorem dX11_readPairs_58 : decode cX11_readPairs 58 = .ok (.getfield 122, 3) := by decide +kernel
theorem dX11_readPairs_61 : decode cX11_readPairs 61 = .ok (.aload_n 0, 1) := by decide +kernel
theorem dX11_readPairs_62 : decode cX11_readPairs 62 = .ok (.getfield 115, 3) := by decide +kernel
theorem dX11_readPairs_65 : decode cX11_readPairs 65 = .ok (.if_icmp .ne 17, 3) := by decide +kernel
theorem dX11_readPairs_68 : decode cX11_readPairs 68 = .ok (.aload_n 0, 1) := by decide +kernel
theorem dX11_readPairs_69 : decode cX11_readPairs 69 = .ok (.getfield 129, 3) := by decide +kernel
theorem dX11_readPairs_72 : decode cX11_readPairs 72 = .ok (.iconst 2, 1) := by decide +kernel
theorem dX11_readPairs_73 : decode cX11_readPairs 73 = .ok (.iload_n 1, 1) := by decide +kernel
theorem dX11_readPairs_74 : decode cX11_readPairs 74 = .ok (.imul, 1) := by decide +kernel
theorem dX11_readPairs_75 : decode cX11_readPairs 75 = .ok (.if_icmp .ge 7, 3) := by decide +kernel
theorem dX11_readPairs_78 : decode cX11_readPairs 78 = .ok (.iconst 1, 1) := by decide +kernel
theorem dX11_readPairs_79 : decode cX11_readPairs 79 = .ok (.goto 4, 3) := by decide +kernel
theorem dX11_readPairs_82 : decode cX11_readPairs 82 = .ok (.iconst 0, 1) := by decide +kernel
theorem dX11_readPairs_83 : decode cX11_readPairs 83 = .ok (.ior, 1) := by decide +kernel
theorem dX11_readPairs_84 : decode cX11_readPairs 84 = .ok (.putfield 118, 3) := by decide +kernel
theorem dX11_readPairs_87 : decode cX11_readPairs 87 = .ok (.aload_n 0, 1) := by decide +kernel
theorem dX11_readPairs_88 : decode cX11_readPairs 88 = .ok (.iconst 1, 1) := by decide +kernel
theorem dX11_readPairs_89 : decode cX11_readPairs 89 = .ok (.invokevirtual 153, 3) := by decide +kernel
theorem dX11_readPairs_92 : decode cX11_readPairs 92 = .ok (.ireturn, 1) := by decide +kernel
theorem dX11_writeForms_0 : decode cX11_writeForms 0 = .ok (.aload_n 0, 1) := by decide +kernel
theorem dX11_writeForms_1 : decode cX11_writeForms 1 = .ok (.getfield 9, 3) := by decide +kernel
theorem dX11_writeForms_4 : decode cX11_writeForms 4 = .ok (.iload_n 1, 1) := by decide +kernel
theorem dX11_writeForms_5 : decode cX11_writeForms 5 = .ok (.iconst 3, 1) := by decide +kernel
theorem dX11_writeForms_6 : decode cX11_writeForms 6 = .ok (.iadd, 1) := by decide +kernel
theorem dX11_writeForms_7 : decode cX11_writeForms 7 = .ok (.aload_n 0, 1) := by decide +kernel
theorem dX11_writeForms_8 : decode cX11_writeForms 8 = .ok (.getfield 32, 3) := by decide +kernel
theorem dX11_writeForms_11 : decode cX11_writeForms 11 = .ok (.iload_n 2, 1) := by decide +kernel
theorem dX11_writeForms_12 : decode cX11_writeForms 12 = .ok (.iaload, 1) := by decide +kernel
theorem dX11_writeForms_13 : decode cX11_writeForms 13 = .ok (.iastore, 1) := by decide +kernel
theorem dX11_writeForms_14 : decode cX11_writeForms 14 = .ok (.aload_n 0, 1) := by decide +kernel
theorem dX11_writeForms_15 : decode cX11_writeForms 15 = .ok (.getfield 9, 3) := by decide +kernel
theorem dX11_writeForms_18 : decode cX11_writeForms 18 = .ok (.iload_n 1, 1) := by decide +kernel
theorem dX11_writeForms_19 : decode cX11_writeForms 19 = .ok (.iconst 4, 1) := by decide +kernel
theorem dX11_writeForms_20 : decode cX11_writeForms 20 = .ok (.iadd, 1) := by decide +kernel
theorem dX11_writeForms_21 : decode cX11_writeForms 21 = .ok (.aload_n 0, 1) := by decide +kernel
theorem dX11_writeForms_22 : decode cX11_writeForms 22 = .ok (.getfield 32, 3) := by decide +kernel
theorem dX11_writeForms_25 : decode cX11_writeForms 25 = .ok (.iload_n 3, 1) := by decide +kernel
theorem dX11_writeForms_26 : decode cX11_writeForms 26 = .ok (.iaload, 1) := by decide +kernel
theorem dX11_writeForms_27 : decode cX11_writeForms 27 = .ok (.iastore, 1) := by decide +kernel
theorem dX11_writeForms_28 : decode cX11_writeForms 28 = .ok (.iconst 0, 1) := by decide +kernel
theorem dX11_writeForms_29 : decode cX11_writeForms 29 = .ok (.istore 4, 2) := by decide +kernel
theorem dX11_writeForms_31 : decode cX11_writeForms 31 = .ok (.iload 4, 2) := by decide +kernel
theorem dX11_writeForms_33 : decode cX11_writeForms 33 = .ok (.bipush 6, 2) := by decide +kernel
theorem dX11_writeForms_35 : decode cX11_writeForms 35 = .ok (.if_icmp .ge 49, 3) := by decide +kernel
theorem dX11_writeForms_38 : decode cX11_writeForms 38 = .ok (.aload_n 0, 1) := by decide +kernel
theorem dX11_writeForms_39 : decode cX11_writeForms 39 = .ok (.getfield 9, 3) := by decide +kernel
theorem dX11_writeForms_42 : decode cX11_writeForms 42 = .ok (.iload_n 1, 1) := by decide +kernel
theorem dX11_writeForms_43 : decode cX11_writeForms 43 = .ok (.iconst 5, 1) := by decide +kernel
theorem dX11_writeForms_44 : decode cX11_writeForms 44 = .ok (.iadd, 1) := by decide +kernel
theorem dX11_writeForms_45 : decode cX11_writeForms 45 = .ok (.iload 4, 2) := by decide +kernel
theorem dX11_writeForms_47 : decode cX11_writeForms 47 = .ok (.iadd, 1) := by decide +kernel
theorem dX11_writeForms_48 : decode cX11_writeForms 48 = .ok (.iload 4, 2) := by decide +kernel
theorem dX11_writeForms_50 : decode cX11_writeForms 50 = .ok (.aload_n 0, 1) := by decide +kernel
theorem dX11_writeForms_51 : decode cX11_writeForms 51 = .ok (.getfield 32, 3) := by decide +kernel
theorem dX11_writeForms_54 : decode cX11_writeForms 54 = .ok (.iload_n 2, 1) := by decide +kernel
theorem dX11_writeForms_55 : decode cX11_writeForms 55 = .ok (.iaload, 1) := by decide +kernel
theorem dX11_writeForms_56 : decode cX11_writeForms 56 = .ok (.if_icmp .ge 20, 3) := by decide +kernel
theorem dX11_writeForms_59 : decode cX11_writeForms 59 = .ok (.aload_n 0, 1) := by decide +kernel
theorem dX11_writeForms_60 : decode cX11_writeForms 60 = .ok (.getfield 21, 3) := by decide +kernel
theorem dX11_writeForms_63 : decode cX11_writeForms 63 = .ok (.aload_n 0, 1) := by decide +kernel
theorem dX11_writeForms_64 : decode cX11_writeForms 64 = .ok (.getfield 29, 3) := by decide +kernel
theorem dX11_writeForms_67 : decode cX11_writeForms 67 = .ok (.iload_n 2, 1) := by decide +kernel
theorem dX11_writeForms_68 : decode cX11_writeForms 68 = .ok (.iaload, 1) := by decide +kernel
theorem dX11_writeForms_69 : decode cX11_writeForms 69 = .ok (.iload 4, 2) := by decide +kernel
theorem dX11_writeForms_71 : decode cX11_writeForms 71 = .ok (.iadd, 1) := by decide +kernel
theorem dX11_writeForms_72 : decode cX11_writeForms 72 = .ok (.caload, 1) := by decide +kernel
theorem dX11_writeForms_73 : decode cX11_writeForms 73 = .ok (.goto 4, 3) := by decide +kernel
theorem dX11_writeForms_76 : decode cX11_writeForms 76 = .ok (.iconst 0, 1) := by decide +kernel
theorem dX11_writeForms_77 : decode cX11_writeForms 77 = .ok (.iastore, 1) := by decide +kernel
theorem dX11_writeForms_78 : decode cX11_writeForms 78 = .ok (.iinc 4 1, 3) := by decide +kernel
theorem dX11_writeForms_81 : decode cX11_writeForms 81 = .ok (.goto (-50), 3) := by decide +kernel
theorem dX11_writeForms_84 : decode cX11_writeForms 84 = .ok (.iconst 0, 1) := by decide +kernel
theorem dX11_writeForms_85 : decode cX11_writeForms 85 = .ok (.istore 4, 2) := by decide +kernel
theorem dX11_writeForms_87 : decode cX11_writeForms 87 = .ok (.iload 4, 2) := by decide +kernel
theorem dX11_writeForms_89 : decode cX11_writeForms 89 = .ok (.bipush 12, 2) := by decide +kernel
theorem dX11_writeForms_91 : decode cX11_writeForms 91 = .ok (.if_icmp .ge 52, 3) := by decide +kernel
theorem dX11_writeForms_94 : decode cX11_writeForms 94 = .ok (.aload_n 0, 1) := by decide +kernel
theorem dX11_writeForms_95 : decode cX11_writeForms 95 = .ok (.getfield 9, 3) := by decide +kernel
theorem dX11_writeForms_98 : decode cX11_writeForms 98 = .ok (.iload_n 1, 1) := by decide +kernel
theorem dX11_writeForms_99 : decode cX11_writeForms 99 = .ok (.iconst 5, 1) := by decide +kernel
theorem dX11_writeForms_100 : decode cX11_writeForms 100 = .ok (.iadd, 1) := by decide +kernel
theorem dX11_writeForms_101 : decode cX11_writeForms 101 = .ok (.bipush 6, 2) := by decide +kernel
theorem dX11_writeForms_103 : decode cX11_writeForms 103 = .ok (.iadd, 1) := by decide +kernel
theorem dX11_writeForms_104 : decode cX11_writeForms 104 = .ok (.iload 4, 2) := by decide +kernel
theorem dX11_writeForms_106 : decode cX11_writeForms 106 = .ok (.iadd, 1) := by decide +kernel
theorem dX11_writeForms_107 : decode cX11_writeForms 107 = .ok (.iload 4, 2) := by decide +kernel
theorem dX11_writeForms_109 : decode cX11_writeForms 109 = .ok (.aload_n 0, 1) := by decide +kernel
theorem dX11_writeForms_110 : decode cX11_writeForms 110 = .ok (.getfield 32, 3) := by decide +kernel
theorem dX11_writeForms_113 : decode cX11_writeForms 113 = .ok (.iload_n 3, 1) := by decide +kernel
theorem dX11_writeForms_114 : decode cX11_writeForms 114 = .ok (.iaload, 1) := by decide +kernel
theorem dX11_writeForms_115 : decode cX11_writeForms 115 = .ok (.if_icmp .ge 20, 3) := by decide +kernel
theorem dX11_writeForms_118 : decode cX11_writeForms 118 = .ok (.aload_n 0, 1) := by decide +kernel
theorem dX11_writeForms_119 : decode cX11_writeForms 119 = .ok (.getfield 21, 3) := by decide +kernel
theorem dX11_writeForms_122 : decode cX11_writeForms 122 = .ok (.aload_n 0, 1) := by decide +kernel
theorem dX11_writeForms_123 : decode cX11_writeForms 123 = .ok (.getfield 29, 3) := by decide +kernel
theorem dX11_writeForms_126 : decode cX11_writeForms 126 = .ok (.iload_n 3, 1) := by decide +kernel
theorem dX11_writeForms_127 : decode cX11_writeForms 127 = .ok (.iaload, 1) := by decide +kernel
theorem dX11_writeForms_128 : decode cX11_writeForms 128 = .ok (.iload 4, 2) := by decide +kernel
theorem dX11_writeForms_130 : decode cX11_writeForms 130 = .ok (.iadd, 1) := by decide +kernel
theorem dX11_writeForms_131 : decode cX11_writeForms 131 = .ok (.caload, 1) := by decide +kernel
theorem dX11_writeForms_132 : decode cX11_writeForms 132 = .ok (.goto 4, 3) := by decide +kernel
theorem dX11_writeForms_135 : decode cX11_writeForms 135 = .ok (.iconst 0, 1) := by decide +kernel
theorem dX11_writeForms_136 : decode cX11_writeForms 136 = .ok (.iastore, 1) := by decide +kernel
theorem dX11_writeForms_137 : decode cX11_writeForms 137 = .ok (.iinc 4 1, 3) := by decide +kernel
theorem dX11_writeForms_140 : decode cX11_writeForms 140 = .ok (.goto (-53), 3) := by decide +kernel
theorem dX11_writeForms_143 : decode cX11_writeForms 143 = .ok (.return_, 1) := by decide +kernel
theorem dX11_addRule_0 : decode cX11_addRule 0 = .ok (.aload_n 0, 1) := by decide +kernel
theorem dX11_addRule_1 : decode cX11_addRule 1 = .ok (.iconst 1, 1) := by decide +kernel
theorem dX11_addRule_2 : decode cX11_addRule 2 = .ok (.iload_n 1, 1) := by decide +kernel
theorem dX11_addRule_3 : decode cX11_addRule 3 = .ok (.iconst 0, 1) := by decide +kernel
theorem dX11_addRule_4 : decode cX11_addRule 4 = .ok (.iconst 2, 1) := by decide +kernel
theorem dX11_addRule_5 : decode cX11_addRule 5 = .ok (.invokestatic 107, 3) := by decide +kernel
theorem dX11_addRule_8 : decode cX11_addRule 8 = .ok (.ifCond .eq 22, 3) := by decide +kernel
theorem dX11_addRule_11 : decode cX11_addRule 11 = .ok (.iload_n 2, 1) := by decide +kernel
theorem dX11_addRule_12 : decode cX11_addRule 12 = .ok (.iconst 0, 1) := by decide +kernel
theorem dX11_addRule_13 : decode cX11_addRule 13 = .ok (.bipush 99, 2) := by decide +kernel
theorem dX11_addRule_15 : decode cX11_addRule 15 = .ok (.invokestatic 107, 3) := by decide +kernel
theorem dX11_addRule_18 : decode cX11_addRule 18 = .ok (.ifCond .eq 12, 3) := by decide +kernel
theorem dX11_addRule_21 : decode cX11_addRule 21 = .ok (.iload_n 3, 1) := by decide +kernel
theorem dX11_addRule_22 : decode cX11_addRule 22 = .ok (.iconst 0, 1) := by decide +kernel
theorem dX11_addRule_23 : decode cX11_addRule 23 = .ok (.iconst 4, 1) := by decide +kernel
theorem dX11_addRule_24 : decode cX11_addRule 24 = .ok (.invokestatic 107, 3) := by decide +kernel
theorem dX11_addRule_27 : decode cX11_addRule 27 = .ok (.ifCond .ne 7, 3) := by decide +kernel
theorem dX11_addRule_30 : decode cX11_addRule 30 = .ok (.iconst 1, 1) := by decide +kernel
theorem dX11_addRule_31 : decode cX11_addRule 31 = .ok (.goto 4, 3) := by decide +kernel
theorem dX11_addRule_34 : decode cX11_addRule 34 = .ok (.iconst 0, 1) := by decide +kernel
theorem dX11_addRule_35 : decode cX11_addRule 35 = .ok (.invokevirtual 111, 3) := by decide +kernel
theorem dX11_addRule_38 : decode cX11_addRule 38 = .ok (.ifCond .eq 5, 3) := by decide +kernel
theorem dX11_addRule_41 : decode cX11_addRule 41 = .ok (.iconst 0, 1) := by decide +kernel
theorem dX11_addRule_42 : decode cX11_addRule 42 = .ok (.ireturn, 1) := by decide +kernel
theorem dX11_addRule_43 : decode cX11_addRule 43 = .ok (.aload_n 0, 1) := by decide +kernel
theorem dX11_addRule_44 : decode cX11_addRule 44 = .ok (.iconst 2, 1) := by decide +kernel
theorem dX11_addRule_45 : decode cX11_addRule 45 = .ok (.aload_n 0, 1) := by decide +kernel
theorem dX11_addRule_46 : decode cX11_addRule 46 = .ok (.invokevirtual 161, 3) := by decide +kernel
theorem dX11_addRule_49 : decode cX11_addRule 49 = .ok (.invokevirtual 111, 3) := by decide +kernel
theorem dX11_addRule_52 : decode cX11_addRule 52 = .ok (.ifCond .ne 27, 3) := by decide +kernel
theorem dX11_addRule_55 : decode cX11_addRule 55 = .ok (.aload_n 0, 1) := by decide +kernel
theorem dX11_addRule_56 : decode cX11_addRule 56 = .ok (.iconst 3, 1) := by decide +kernel
theorem dX11_addRule_57 : decode cX11_addRule 57 = .ok (.aload_n 0, 1) := by decide +kernel
theorem dX11_addRule_58 : decode cX11_addRule 58 = .ok (.getfield 9, 3) := by decide +kernel
theorem dX11_addRule_61 : decode cX11_addRule 61 = .ok (.iconst 0, 1) := by decide +kernel
theorem dX11_addRule_62 : decode cX11_addRule 62 = .ok (.iaload, 1) := by decide +kernel
theorem dX11_addRule_63 : decode cX11_addRule 63 = .ok (.bipush 24, 2) := by decide +kernel
theorem dX11_addRule_65 : decode cX11_addRule 65 = .ok (.if_icmp .ne 7, 3) := by decide +kernel
theorem dX11_addRule_68 : decode cX11_addRule 68 = .ok (.iconst 1, 1) := by decide +kernel
theorem dX11_addRule_69 : decode cX11_addRule 69 = .ok (.goto 4, 3) := by decide +kernel
theorem dX11_addRule_72 : decode cX11_addRule 72 = .ok (.iconst 0, 1) := by decide +kernel
theorem dX11_addRule_73 : decode cX11_addRule 73 = .ok (.invokevirtual 111, 3) := by decide +kernel
theorem dX11_addRule_76 : decode cX11_addRule 76 = .ok (.ifCond .eq 5, 3) := by decide +kernel
theorem dX11_addRule_79 : decode cX11_addRule 79 = .ok (.iconst 0, 1) := by decide +kernel
theorem dX11_addRule_80 : decode cX11_addRule 80 = .ok (.ireturn, 1) := by decide +kernel
theorem dX11_addRule_81 : decode cX11_addRule 81 = .ok (.aload_n 0, 1) := by decide +kernel
theorem dX11_addRule_82 : decode cX11_addRule 82 = .ok (.invokevirtual 164, 3) := by decide +kernel
theorem dX11_addRule_85 : decode cX11_addRule 85 = .ok (.iconst 5, 1) := by decide +kernel
theorem dX11_addRule_86 : decode cX11_addRule 86 = .ok (.aload_n 0, 1) := by decide +kernel
theorem dX11_addRule_87 : decode cX11_addRule 87 = .ok (.getfield 9, 3) := by decide +kernel
theorem dX11_addRule_90 : decode cX11_addRule 90 = .ok (.iconst 0, 1) := by decide +kernel
theorem dX11_addRule_91 : decode cX11_addRule 91 = .ok (.iaload, 1) := by decide +kernel
theorem dX11_addRule_92 : decode cX11_addRule 92 = .ok (.bipush 23, 2) := by decide +kernel
theorem dX11_addRule_94 : decode cX11_addRule 94 = .ok (.imul, 1) := by decide +kernel
theorem dX11_addRule_95 : decode cX11_addRule 95 = .ok (.iadd, 1) := by decide +kernel
theorem dX11_addRule_96 : decode cX11_addRule 96 = .ok (.istore 4, 2) := by decide +kernel
theorem dX11_addRule_98 : decode cX11_addRule 98 = .ok (.aload_n 0, 1) := by decide +kernel
theorem dX11_addRule_99 : decode cX11_addRule 99 = .ok (.getfield 9, 3) := by decide +kernel
theorem dX11_addRule_102 : decode cX11_addRule 102 = .ok (.iload 4, 2) := by decide +kernel
theorem dX11_addRule_104 : decode cX11_addRule 104 = .ok (.iconst 0, 1) := by decide +kernel
theorem dX11_addRule_105 : decode cX11_addRule 105 = .ok (.iadd, 1) := by decide +kernel
theorem dX11_addRule_106 : decode cX11_addRule 106 = .ok (.iload_n 1, 1) := by decide +kernel
theorem dX11_addRule_107 : decode cX11_addRule 107 = .ok (.iastore, 1) := by decide +kernel
theorem dX11_addRule_108 : decode cX11_addRule 108 = .ok (.aload_n 0, 1) := by decide +kernel
theorem dX11_addRule_109 : decode cX11_addRule 109 = .ok (.getfield 9, 3) := by decide +kernel
theorem dX11_addRule_112 : decode cX11_addRule 112 = .ok (.iload 4, 2) := by decide +kernel
theorem dX11_addRule_114 : decode cX11_addRule 114 = .ok (.iconst 1, 1) := by decide +kernel
theorem dX11_addRule_115 : decode cX11_addRule 115 = .ok (.iadd, 1) := by decide +kernel
theorem dX11_addRule_116 : decode cX11_addRule 116 = .ok (.iload_n 2, 1) := by decide +kernel
theorem dX11_addRule_117 : decode cX11_addRule 117 = .ok (.iastore, 1) := by decide +kernel
theorem dX11_addRule_118 : decode cX11_addRule 118 = .ok (.aload_n 0, 1) := by decide +kernel
theorem dX11_addRule_119 : decode cX11_addRule 119 = .ok (.getfield 9, 3) := by decide +kernel
theorem dX11_addRule_122 : decode cX11_addRule 122 = .ok (.iload 4, 2) := by decide +kernel
theorem dX11_addRule_124 : decode cX11_addRule 124 = .ok (.iconst 2, 1) := by decide +kernel
theorem dX11_addRule_125 : decode cX11_addRule 125 = .ok (.iadd, 1) := by decide +kernel
theorem dX11_addRule_126 : decode cX11_addRule 126 = .ok (.iload_n 3, 1) := by decide +kernel
theorem dX11_addRule_127 : decode cX11_addRule 127 = .ok (.iastore, 1) := by decide +kernel
theorem dX11_addRule_128 : decode cX11_addRule 128 = .ok (.aload_n 0, 1) := by decide +kernel
theorem dX11_addRule_129 : decode cX11_addRule 129 = .ok (.iload 4, 2) := by decide +kernel
theorem dX11_addRule_131 : decode cX11_addRule 131 = .ok (.iconst 0, 1) := by decide +kernel
theorem dX11_addRule_132 : decode cX11_addRule 132 = .ok (.iconst 1, 1) := by decide +kernel
theorem dX11_addRule_133 : decode cX11_addRule 133 = .ok (.invokevirtual 167, 3) := by decide +kernel
theorem dX11_addRule_136 : decode cX11_addRule 136 = .ok (.aload_n 0, 1) := by decide +kernel
theorem dX11_addRule_137 : decode cX11_addRule 137 = .ok (.getfield 9, 3) := by decide +kernel
theorem dX11_addRule_140 : decode cX11_addRule 140 = .ok (.iconst 0, 1) := by decide +kernel
theorem dX11_addRule_141 : decode cX11_addRule 141 = .ok (.dup2, 1) := by decide +kernel
theorem dX11_addRule_142 : decode cX11_addRule 142 = .ok (.iaload, 1) := by decide +kernel
theorem dX11_addRule_143 : decode cX11_addRule 143 = .ok (.iconst 1, 1) := by decide +kernel
theorem dX11_addRule_144 : decode cX11_addRule 144 = .ok (.iadd, 1) := by decide +kernel
theorem dX11_addRule_145 : decode cX11_addRule 145 = .ok (.iastore, 1) := by decide +kernel
theorem dX11_addRule_146 : decode cX11_addRule 146 = .ok (.aload_n 0, 1) := by decide +kernel
theorem dX11_addRule_147 : decode cX11_addRule 147 = .ok (.getfield 9, 3) := by decide +kernel
theorem dX11_addRule_150 : decode cX11_addRule 150 = .ok (.iconst 0, 1) := by decide +kernel
theorem dX11_addRule_151 : decode cX11_addRule 151 = .ok (.iaload, 1) := by decide +kernel
theorem dX11_addRule_152 : decode cX11_addRule 152 = .ok (.iconst 1, 1) := by decide +kernel
theorem dX11_addRule_153 : decode cX11_addRule 153 = .ok (.isub, 1) := by decide +kernel
theorem dX11_addRule_154 : decode cX11_addRule 154 = .ok (.ireturn, 1) := by decide +kernel
theorem dX11_removeRule_0 : decode cX11_removeRule 0 = .ok (.aload_n 0, 1) := by decide +kernel
theorem dX11_removeRule_1 : decode cX11_removeRule 1 = .ok (.iconst 1, 1) := by decide +kernel
theorem dX11_removeRule_2 : decode cX11_removeRule 2 = .ok (.aload_n 0, 1) := by decide +kernel
theorem dX11_removeRule_3 : decode cX11_removeRule 3 = .ok (.iload_n 1, 1) := by decide +kernel
theorem dX11_removeRule_4 : decode cX11_removeRule 4 = .ok (.invokevirtual 171, 3) := by decide +kernel
theorem dX11_removeRule_7 : decode cX11_removeRule 7 = .ok (.ifCond .ne 7, 3) := by decide +kernel
theorem dX11_removeRule_10 : decode cX11_removeRule 10 = .ok (.iconst 1, 1) := by decide +kernel
theorem dX11_removeRule_11 : decode cX11_removeRule 11 = .ok (.goto 4, 3) := by decide +kernel
theorem dX11_removeRule_14 : decode cX11_removeRule 14 = .ok (.iconst 0, 1) := by decide +kernel
theorem dX11_removeRule_15 : decode cX11_removeRule 15 = .ok (.invokevirtual 111, 3) := by decide +kernel
theorem dX11_removeRule_18 : decode cX11_removeRule 18 = .ok (.ifCond .eq 5, 3) := by decide +kernel
theorem dX11_removeRule_21 : decode cX11_removeRule 21 = .ok (.iconst 0, 1) := by decide +kernel
theorem dX11_removeRule_22 : decode cX11_removeRule 22 = .ok (.ireturn, 1) := by decide +kernel
theorem dX11_removeRule_23 : decode cX11_removeRule 23 = .ok (.aload_n 0, 1) := by decide +kernel
theorem dX11_removeRule_24 : decode cX11_removeRule 24 = .ok (.invokevirtual 164, 3) := by decide +kernel
theorem dX11_removeRule_27 : decode cX11_removeRule 27 = .ok (.aload_n 0, 1) := by decide +kernel
theorem dX11_removeRule_28 : decode cX11_removeRule 28 = .ok (.getfield 9, 3) := by decide +kernel
theorem dX11_removeRule_31 : decode cX11_removeRule 31 = .ok (.iconst 0, 1) := by decide +kernel
theorem dX11_removeRule_32 : decode cX11_removeRule 32 = .ok (.dup2, 1) := by decide +kernel
theorem dX11_removeRule_33 : decode cX11_removeRule 33 = .ok (.iaload, 1) := by decide +kernel
theorem dX11_removeRule_34 : decode cX11_removeRule 34 = .ok (.iconst 1, 1) := by decide +kernel
theorem dX11_removeRule_35 : decode cX11_removeRule 35 = .ok (.isub, 1) := by decide +kernel
theorem dX11_removeRule_36 : decode cX11_removeRule 36 = .ok (.iastore, 1) := by decide +kernel
theorem dX11_removeRule_37 : decode cX11_removeRule 37 = .ok (.iconst 5, 1) := by decide +kernel
theorem dX11_removeRule_38 : decode cX11_removeRule 38 = .ok (.iload_n 1, 1) := by decide +kernel
theorem dX11_removeRule_39 : decode cX11_removeRule 39 = .ok (.bipush 23, 2) := by decide +kernel
theorem dX11_removeRule_41 : decode cX11_removeRule 41 = .ok (.imul, 1) := by decide +kernel
theorem dX11_removeRule_42 : decode cX11_removeRule 42 = .ok (.iadd, 1) := by decide +kernel
theorem dX11_removeRule_43 : decode cX11_removeRule 43 = .ok (.istore_n 2, 1) := by decide +kernel
theorem dX11_removeRule_44 : decode cX11_removeRule 44 = .ok (.iload_n 2, 1) := by decide +kernel
theorem dX11_removeRule_45 : decode cX11_removeRule 45 = .ok (.iconst 5, 1) := by decide +kernel
theorem dX11_removeRule_46 : decode cX11_removeRule 46 = .ok (.aload_n 0, 1) := by decide +kernel
theorem dX11_removeRule_47 : decode cX11_removeRule 47 = .ok (.getfield 9, 3) := by decide +kernel
theorem dX11_removeRule_50 : decode cX11_removeRule 50 = .ok (.iconst 0, 1) := by decide +kernel
theorem dX11_removeRule_51 : decode cX11_removeRule 51 = .ok (.iaload, 1) := by decide +kernel
theorem dX11_removeRule_52 : decode cX11_removeRule 52 = .ok (.bipush 23, 2) := by decide +kernel
theorem dX11_removeRule_54 : decode cX11_removeRule 54 = .ok (.imul, 1) := by decide +kernel
theorem dX11_removeRule_55 : decode cX11_removeRule 55 = .ok (.iadd, 1) := by decide +kernel
theorem dX11_removeRule_56 : decode cX11_removeRule 56 = .ok (.if_icmp .ge 24, 3) := by decide +kernel
theorem dX11_removeRule_59 : decode cX11_removeRule 59 = .ok (.aload_n 0, 1) := by decide +kernel
theorem dX11_removeRule_60 : decode cX11_removeRule 60 = .ok (.getfield 9, 3) := by decide +kernel
theorem dX11_removeRule_63 : decode cX11_removeRule 63 = .ok (.iload_n 2, 1) := by decide +kernel
theorem dX11_removeRule_64 : decode cX11_removeRule 64 = .ok (.aload_n 0, 1) := by decide +kernel
theorem dX11_removeRule_65 : decode cX11_removeRule 65 = .ok (.getfield 9, 3) := by decide +kernel
theorem dX11_removeRule_68 : decode cX11_removeRule 68 = .ok (.iload_n 2, 1) := by decide +kernel
theorem dX11_removeRule_69 : decode cX11_removeRule 69 = .ok (.bipush 23, 2) := by decide +kernel
theorem dX11_removeRule_71 : decode cX11_removeRule 71 = .ok (.iadd, 1) := by decide +kernel
theorem dX11_removeRule_72 : decode cX11_removeRule 72 = .ok (.iaload, 1) := by decide +kernel
theorem dX11_removeRule_73 : decode cX11_removeRule 73 = .ok (.iastore, 1) := by decide +kernel
theorem dX11_removeRule_74 : decode cX11_removeRule 74 = .ok (.iinc 2 1, 3) := by decide +kernel
theorem dX11_removeRule_77 : decode cX11_removeRule 77 = .ok (.goto (-33), 3) := by decide +kernel
theorem dX11_removeRule_80 : decode cX11_removeRule 80 = .ok (.aload_n 0, 1) := by decide +kernel
theorem dX11_removeRule_81 : decode cX11_removeRule 81 = .ok (.getfield 9, 3) := by decide +kernel
theorem dX11_removeRule_84 : decode cX11_removeRule 84 = .ok (.iconst 0, 1) := by decide +kernel
theorem dX11_removeRule_85 : decode cX11_removeRule 85 = .ok (.iaload, 1) := by decide +kernel
theorem dX11_removeRule_86 : decode cX11_removeRule 86 = .ok (.ireturn, 1) := by decide +kernel
theorem dX11_change_0 : decode cX11_change 0 = .ok (.aload_n 0, 1) := by decide +kernel
theorem dX11_change_1 : decode cX11_change 1 = .ok (.invokevirtual 164, 3) := by decide +kernel
theorem dX11_change_4 : decode cX11_change 4 = .ok (.aload_n 0, 1) := by decide +kernel
theorem dX11_change_5 : decode cX11_change 5 = .ok (.getfield 9, 3) := by decide +kernel
theorem dX11_change_8 : decode cX11_change 8 = .ok (.iload_n 1, 1) := by decide +kernel
theorem dX11_change_9 : decode cX11_change 9 = .ok (.iaload, 1) := by decide +kernel
theorem dX11_change_10 : decode cX11_change 10 = .ok (.istore_n 3, 1) := by decide +kernel
theorem dX11_change_11 : decode cX11_change 11 = .ok (.aload_n 0, 1) := by decide +kernel
theorem dX11_change_12 : decode cX11_change 12 = .ok (.getfield 9, 3) := by decide +kernel
theorem dX11_change_15 : decode cX11_change 15 = .ok (.iload_n 1, 1) := by decide +kernel
theorem dX11_change_16 : decode cX11_change 16 = .ok (.iload_n 2, 1) := by decide +kernel
theorem dX11_change_17 : decode cX11_change 17 = .ok (.iastore, 1) := by decide +kernel
theorem dX11_change_18 : decode cX11_change 18 = .ok (.iload_n 3, 1) := by decide +kernel
theorem dX11_change_19 : decode cX11_change 19 = .ok (.ireturn, 1) := by decide +kernel
theorem dX11_setPriority_0 : decode cX11_setPriority 0 = .ok (.aload_n 0, 1) := by decide +kernel
theorem dX11_setPriority_1 : decode cX11_setPriority 1 = .ok (.iconst 1, 1) := by decide +kernel
theorem dX11_setPriority_2 : decode cX11_setPriority 2 = .ok (.aload_n 0, 1) := by decide +kernel
theorem dX11_setPriority_3 : decode cX11_setPriority 3 = .ok (.iload_n 1, 1) := by decide +kernel
theorem dX11_setPriority_4 : decode cX11_setPriority 4 = .ok (.invokevirtual 171, 3) := by decide +kernel
theorem dX11_setPriority_7 : decode cX11_setPriority 7 = .ok (.ifCond .ne 7, 3) := by decide +kernel
theorem dX11_setPriority_10 : decode cX11_setPriority 10 = .ok (.iconst 1, 1) := by decide +kernel
theorem dX11_setPriority_11 : decode cX11_setPriority 11 = .ok (.goto 4, 3) := by decide +kernel
theorem dX11_setPriority_14 : decode cX11_setPriority 14 = .ok (.iconst 0, 1) := by decide +kernel
theorem dX11_setPriority_15 : decode cX11_setPriority 15 = .ok (.invokevirtual 111, 3) := by decide +kernel
theorem dX11_setPriority_18 : decode cX11_setPriority 18 = .ok (.ifCond .ne 26, 3) := by decide +kernel
theorem dX11_setPriority_21 : decode cX11_setPriority 21 = .ok (.aload_n 0, 1) := by decide +kernel
theorem dX11_setPriority_22 : decode cX11_setPriority 22 = .ok (.iconst 2, 1) := by decide +kernel
theorem dX11_setPriority_23 : decode cX11_setPriority 23 = .ok (.iload_n 2, 1) := by decide +kernel
theorem dX11_setPriority_24 : decode cX11_setPriority 24 = .ok (.iconst 0, 1) := by decide +kernel
theorem dX11_setPriority_25 : decode cX11_setPriority 25 = .ok (.bipush 99, 2) := by decide +kernel
theorem dX11_setPriority_27 : decode cX11_setPriority 27 = .ok (.invokestatic 107, 3) := by decide +kernel
theorem dX11_setPriority_30 : decode cX11_setPriority 30 = .ok (.ifCond .ne 7, 3) := by decide +kernel
theorem dX11_setPriority_33 : decode cX11_setPriority 33 = .ok (.iconst 1, 1) := by decide +kernel
theorem dX11_setPriority_34 : decode cX11_setPriority 34 = .ok (.goto 4, 3) := by decide +kernel
theorem dX11_setPriority_37 : decode cX11_setPriority 37 = .ok (.iconst 0, 1) := by decide +kernel
theorem dX11_setPriority_38 : decode cX11_setPriority 38 = .ok (.invokevirtual 111, 3) := by decide +kernel
theorem dX11_setPriority_41 : decode cX11_setPriority 41 = .ok (.ifCond .eq 7, 3) := by decide +kernel
theorem dX11_setPriority_44 : decode cX11_setPriority 44 = .ok (.iconst 0, 1) := by decide +kernel
theorem dX11_setPriority_45 : decode cX11_setPriority 45 = .ok (.goto 16, 3) := by decide +kernel
theorem dX11_setPriority_48 : decode cX11_setPriority 48 = .ok (.aload_n 0, 1) := by decide +kernel
theorem dX11_setPriority_49 : decode cX11_setPriority 49 = .ok (.iconst 5, 1) := by decide +kernel
theorem dX11_setPriority_50 : decode cX11_setPriority 50 = .ok (.iload_n 1, 1) := by decide +kernel
theorem dX11_setPriority_51 : decode cX11_setPriority 51 = .ok (.bipush 23, 2) := by decide +kernel
theorem dX11_setPriority_53 : decode cX11_setPriority 53 = .ok (.imul, 1) := by decide +kernel
theorem dX11_setPriority_54 : decode cX11_setPriority 54 = .ok (.iadd, 1) := by decide +kernel
theorem dX11_setPriority_55 : decode cX11_setPriority 55 = .ok (.iconst 1, 1) := by decide +kernel
theorem dX11_setPriority_56 : decode cX11_setPriority 56 = .ok (.iadd, 1) := by decide +kernel
theorem dX11_setPriority_57 : decode cX11_setPriority 57 = .ok (.iload_n 2, 1) := by decide +kernel
theorem dX11_setPriority_58 : decode cX11_setPriority 58 = .ok (.invokevirtual 175, 3) := by decide +kernel
theorem dX11_setPriority_61 : decode cX11_setPriority 61 = .ok (.ireturn, 1) := by decide +kernel
theorem dX11_setContext_0 : decode cX11_setContext 0 = .ok (.aload_n 0, 1) := by decide +kernel
theorem dX11_setContext_1 : decode cX11_setContext 1 = .ok (.iconst 1, 1) := by decide +kernel
theorem dX11_setContext_2 : decode cX11_setContext 2 = .ok (.aload_n 0, 1) := by decide +kernel
theorem dX11_setContext_3 : decode cX11_setContext 3 = .ok (.iload_n 1, 1) := by decide +kernel
theorem dX11_setContext_4 : decode cX11_setContext 4 = .ok (.invokevirtual 171, 3) := by decide +kernel
theorem dX11_setContext_7 : decode cX11_setContext 7 = .ok (.ifCond .ne 7, 3) := by decide +kernel
theorem dX11_setContext_10 : decode cX11_setContext 10 = .ok (.iconst 1, 1) := by decide +kernel
theorem dX11_setContext_11 : decode cX11_setContext 11 = .ok (.goto 4, 3) := by decide +kernel
theorem dX11_setContext_14 : decode cX11_setContext 14 = .ok (.iconst 0, 1) := by decide +kernel
theorem dX11_setContext_15 : decode cX11_setContext 15 = .ok (.invokevirtual 111, 3) := by decide +kernel
theorem dX11_setContext_18 : decode cX11_setContext 18 = .ok (.ifCond .ne 25, 3) := by decide +kernel
theorem dX11_setContext_21 : decode cX11_setContext 21 = .ok (.aload_n 0, 1) := by decide +kernel
theorem dX11_setContext_22 : decode cX11_setContext 22 = .ok (.iconst 2, 1) := by decide +kernel
theorem dX11_setContext_23 : decode cX11_setContext 23 = .ok (.iload_n 2, 1) := by decide +kernel
theorem dX11_setContext_24 : decode cX11_setContext 24 = .ok (.iconst 0, 1) := by decide +kernel
theorem dX11_setContext_25 : decode cX11_setContext 25 = .ok (.iconst 4, 1) := by decide +kernel
theorem dX11_setContext_26 : decode cX11_setContext 26 = .ok (.invokestatic 107, 3) := by decide +kernel
theorem dX11_setContext_29 : decode cX11_setContext 29 = .ok (.ifCond .ne 7, 3) := by decide +kernel
theorem dX11_setContext_32 : decode cX11_setContext 32 = .ok (.iconst 1, 1) := by decide +kernel
theorem dX11_setContext_33 : decode cX11_setContext 33 = .ok (.goto 4, 3) := by decide +kernel
theorem dX11_setContext_36 : decode cX11_setContext 36 = .ok (.iconst 0, 1) := by decide +kernel
theorem dX11_setContext_37 : decode cX11_setContext 37 = .ok (.invokevirtual 111, 3) := by decide +kernel
theorem dX11_setContext_40 : decode cX11_setContext 40 = .ok (.ifCond .eq 7, 3) := by decide +kernel
theorem dX11_setContext_43 : decode cX11_setContext 43 = .ok (.iconst 0, 1) := by decide +kernel
theorem dX11_setContext_44 : decode cX11_setContext 44 = .ok (.goto 16, 3) := by decide +kernel
theorem dX11_setContext_47 : decode cX11_setContext 47 = .ok (.aload_n 0, 1) := by decide +kernel
theorem dX11_setContext_48 : decode cX11_setContext 48 = .ok (.iconst 5, 1) := by decide +kernel
theorem dX11_setContext_49 : decode cX11_setContext 49 = .ok (.iload_n 1, 1) := by decide +kernel
theorem dX11_setContext_50 : decode cX11_setContext 50 = .ok (.bipush 23, 2) := by decide +kernel
theorem dX11_setContext_52 : decode cX11_setContext 52 = .ok (.imul, 1) := by decide +kernel
theorem dX11_setContext_53 : decode cX11_setContext 53 = .ok (.iadd, 1) := by decide +kernel
theorem dX11_setContext_54 : decode cX11_setContext 54 = .ok (.iconst 2, 1) := by decide +kernel
theorem dX11_setContext_55 : decode cX11_setContext 55 = .ok (.iadd, 1) := by decide +kernel
theorem dX11_setContext_56 : decode cX11_setContext 56 = .ok (.iload_n 2, 1) := by decide +kernel
theorem dX11_setContext_57 : decode cX11_setContext 57 = .ok (.invokevirtual 175, 3) := by decide +kernel
theorem dX11_setContext_60 : decode cX11_setContext 60 = .ok (.ireturn, 1) := by decide +kernel
theorem dX11_setMode_0 : decode cX11_setMode 0 = .ok (.aload_n 0, 1) := by decide +kernel
theorem dX11_setMode_1 : decode cX11_setMode 1 = .ok (.iconst 1, 1) := by decide +kernel
theorem dX11_setMode_2 : decode cX11_setMode 2 = .ok (.iload_n 1, 1) := by decide +kernel
theorem dX11_setMode_3 : decode cX11_setMode 3 = .ok (.iconst 0, 1) := by decide +kernel
theorem dX11_setMode_4 : decode cX11_setMode 4 = .ok (.iconst 1, 1) := by decide +kernel
theorem dX11_setMode_5 : decode cX11_setMode 5 = .ok (.invokestatic 107, 3) := by decide +kernel
theorem dX11_setMode_8 : decode cX11_setMode 8 = .ok (.ifCond .ne 7, 3) := by decide +kernel
theorem dX11_setMode_11 : decode cX11_setMode 11 = .ok (.iconst 1, 1) := by decide +kernel
theorem dX11_setMode_12 : decode cX11_setMode 12 = .ok (.goto 4, 3) := by decide +kernel
theorem dX11_setMode_15 : decode cX11_setMode 15 = .ok (.iconst 0, 1) := by decide +kernel
theorem dX11_setMode_16 : decode cX11_setMode 16 = .ok (.invokevirtual 111, 3) := by decide +kernel
theorem dX11_setMode_19 : decode cX11_setMode 19 = .ok (.ifCond .eq 7, 3) := by decide +kernel
theorem dX11_setMode_22 : decode cX11_setMode 22 = .ok (.iconst 0, 1) := by decide +kernel
theorem dX11_setMode_23 : decode cX11_setMode 23 = .ok (.goto 9, 3) := by decide +kernel
theorem dX11_setMode_26 : decode cX11_setMode 26 = .ok (.aload_n 0, 1) := by decide +kernel
theorem dX11_setMode_27 : decode cX11_setMode 27 = .ok (.iconst 2, 1) := by decide +kernel
theorem dX11_setMode_28 : decode cX11_setMode 28 = .ok (.iload_n 1, 1) := by decide +kernel
theorem dX11_setMode_29 : decode cX11_setMode 29 = .ok (.invokevirtual 175, 3) := by decide +kernel
theorem dX11_setMode_32 : decode cX11_setMode 32 = .ok (.ireturn, 1) := by decide +kernel
theorem dX11_setThreshold_0 : decode cX11_setThreshold 0 = .ok (.aload_n 0, 1) := by decide +kernel
theorem dX11_setThreshold_1 : decode cX11_setThreshold 1 = .ok (.iconst 1, 1) := by decide +kernel
theorem dX11_setThreshold_2 : decode cX11_setThreshold 2 = .ok (.iload_n 1, 1) := by decide +kernel
theorem dX11_setThreshold_3 : decode cX11_setThreshold 3 = .ok (.iconst 1, 1) := by decide +kernel
theorem dX11_setThreshold_4 : decode cX11_setThreshold 4 = .ok (.bipush 9, 2) := by decide +kernel
theorem dX11_setThreshold_6 : decode cX11_setThreshold 6 = .ok (.invokestatic 107, 3) := by decide +kernel
theorem dX11_setThreshold_9 : decode cX11_setThreshold 9 = .ok (.ifCond .ne 7, 3) := by decide +kernel
theorem dX11_setThreshold_12 : decode cX11_setThreshold 12 = .ok (.iconst 1, 1) := by decide +kernel
theorem dX11_setThreshold_13 : decode cX11_setThreshold 13 = .ok (.goto 4, 3) := by decide +kernel
theorem dX11_setThreshold_16 : decode cX11_setThreshold 16 = .ok (.iconst 0, 1) := by decide +kernel
theorem dX11_setThreshold_17 : decode cX11_setThreshold 17 = .ok (.invokevirtual 111, 3) := by decide +kernel
theorem dX11_setThreshold_20 : decode cX11_setThreshold 20 = .ok (.ifCond .eq 7, 3) := by decide +kernel
theorem dX11_setThreshold_23 : decode cX11_setThreshold 23 = .ok (.iconst 0, 1) := by decide +kernel
theorem dX11_setThreshold_24 : decode cX11_setThreshold 24 = .ok (.goto 9, 3) := by decide +kernel
theorem dX11_setThreshold_27 : decode cX11_setThreshold 27 = .ok (.aload_n 0, 1) := by decide +kernel
theorem dX11_setThreshold_28 : decode cX11_setThreshold 28 = .ok (.iconst 3, 1) := by decide +kernel
theorem dX11_setThreshold_29 : decode cX11_setThreshold 29 = .ok (.iload_n 1, 1) := by decide +kernel
theorem dX11_setThreshold_30 : decode cX11_setThreshold 30 = .ok (.invokevirtual 175, 3) := by decide +kernel
theorem dX11_setThreshold_33 : decode cX11_setThreshold 33 = .ok (.ireturn, 1) := by decide +kernel
theorem dX11_countBetter_0 : decode cX11_countBetter 0 = .ok (.iconst 0, 1) := by decide +kernel
theorem dX11_countBetter_1 : decode cX11_countBetter 1 = .ok (.istore_n 2, 1) := by decide +kernel
theorem dX11_countBetter_2 : decode cX11_countBetter 2 = .ok (.iconst 0, 1) := by decide +kernel
theorem dX11_countBetter_3 : decode cX11_countBetter 3 = .ok (.istore_n 3, 1) := by decide +kernel
theorem dX11_countBetter_4 : decode cX11_countBetter 4 = .ok (.iload_n 3, 1) := by decide +kernel
theorem dX11_countBetter_5 : decode cX11_countBetter 5 = .ok (.aload_n 0, 1) := by decide +kernel
theorem dX11_countBetter_6 : decode cX11_countBetter 6 = .ok (.getfield 9, 3) := by decide +kernel
theorem dX11_countBetter_9 : decode cX11_countBetter 9 = .ok (.iconst 0, 1) := by decide +kernel
theorem dX11_countBetter_10 : decode cX11_countBetter 10 = .ok (.iaload, 1) := by decide +kernel
theorem dX11_countBetter_11 : decode cX11_countBetter 11 = .ok (.if_icmp .ge 31, 3) := by decide +kernel
theorem dX11_countBetter_14 : decode cX11_countBetter 14 = .ok (.iload_n 2, 1) := by decide +kernel
theorem dX11_countBetter_15 : decode cX11_countBetter 15 = .ok (.iload_n 3, 1) := by decide +kernel
theorem dX11_countBetter_16 : decode cX11_countBetter 16 = .ok (.iload_n 1, 1) := by decide +kernel
theorem dX11_countBetter_17 : decode cX11_countBetter 17 = .ok (.if_icmp .eq 16, 3) := by decide +kernel
theorem dX11_countBetter_20 : decode cX11_countBetter 20 = .ok (.aload_n 0, 1) := by decide +kernel
theorem dX11_countBetter_21 : decode cX11_countBetter 21 = .ok (.iload_n 3, 1) := by decide +kernel
theorem dX11_countBetter_22 : decode cX11_countBetter 22 = .ok (.iload_n 1, 1) := by decide +kernel
theorem dX11_countBetter_23 : decode cX11_countBetter 23 = .ok (.invokevirtual 178, 3) := by decide +kernel
theorem dX11_countBetter_26 : decode cX11_countBetter 26 = .ok (.ifCond .eq 7, 3) := by decide +kernel
theorem dX11_countBetter_29 : decode cX11_countBetter 29 = .ok (.iconst 1, 1) := by decide +kernel
theorem dX11_countBetter_30 : decode cX11_countBetter 30 = .ok (.goto 4, 3) := by decide +kernel
theorem dX11_countBetter_33 : decode cX11_countBetter 33 = .ok (.iconst 0, 1) := by decide +kernel
theorem dX11_countBetter_34 : decode cX11_countBetter 34 = .ok (.iadd, 1) := by decide +kernel
theorem dX11_countBetter_35 : decode cX11_countBetter 35 = .ok (.istore_n 2, 1) := by decide +kernel
theorem dX11_countBetter_36 : decode cX11_countBetter 36 = .ok (.iinc 3 1, 3) := by decide +kernel
theorem dX11_countBetter_39 : decode cX11_countBetter 39 = .ok (.goto (-35), 3) := by decide +kernel
theorem dX11_countBetter_42 : decode cX11_countBetter 42 = .ok (.iload_n 2, 1) := by decide +kernel
theorem dX11_countBetter_43 : decode cX11_countBetter 43 = .ok (.ireturn, 1) := by decide +kernel
theorem dX11_rule_0 : decode cX11_rule 0 = .ok (.aload_n 0, 1) := by decide +kernel
theorem dX11_rule_1 : decode cX11_rule 1 = .ok (.iconst 1, 1) := by decide +kernel
theorem dX11_rule_2 : decode cX11_rule 2 = .ok (.aload_n 0, 1) := by decide +kernel
theorem dX11_rule_3 : decode cX11_rule 3 = .ok (.iload_n 1, 1) := by decide +kernel
theorem dX11_rule_4 : decode cX11_rule 4 = .ok (.invokevirtual 171, 3) := by decide +kernel
theorem dX11_rule_7 : decode cX11_rule 7 = .ok (.ifCond .ne 7, 3) := by decide +kernel
theorem dX11_rule_10 : decode cX11_rule 10 = .ok (.iconst 1, 1) := by decide +kernel
theorem dX11_rule_11 : decode cX11_rule 11 = .ok (.goto 4, 3) := by decide +kernel
theorem dX11_rule_14 : decode cX11_rule 14 = .ok (.iconst 0, 1) := by decide +kernel
theorem dX11_rule_15 : decode cX11_rule 15 = .ok (.invokevirtual 111, 3) := by decide +kernel
theorem dX11_rule_18 : decode cX11_rule 18 = .ok (.ifCond .ne 25, 3) := by decide +kernel
theorem dX11_rule_21 : decode cX11_rule 21 = .ok (.aload_n 0, 1) := by decide +kernel
theorem dX11_rule_22 : decode cX11_rule 22 = .ok (.iconst 2, 1) := by decide +kernel
theorem dX11_rule_23 : decode cX11_rule 23 = .ok (.iload_n 2, 1) := by decide +kernel
theorem dX11_rule_24 : decode cX11_rule 24 = .ok (.iconst 0, 1) := by decide +kernel
theorem dX11_rule_25 : decode cX11_rule 25 = .ok (.iconst 5, 1) := by decide +kernel
theorem dX11_rule_26 : decode cX11_rule 26 = .ok (.invokestatic 107, 3) := by decide +kernel
theorem dX11_rule_29 : decode cX11_rule 29 = .ok (.ifCond .ne 7, 3) := by decide +kernel
theorem dX11_rule_32 : decode cX11_rule 32 = .ok (.iconst 1, 1) := by decide +kernel
theorem dX11_rule_33 : decode cX11_rule 33 = .ok (.goto 4, 3) := by decide +kernel
theorem dX11_rule_36 : decode cX11_rule 36 = .ok (.iconst 0, 1) := by decide +kernel
theorem dX11_rule_37 : decode cX11_rule 37 = .ok (.invokevirtual 111, 3) := by decide +kernel
theorem dX11_rule_40 : decode cX11_rule 40 = .ok (.ifCond .eq 5, 3) := by decide +kernel
theorem dX11_rule_43 : decode cX11_rule 43 = .ok (.iconst 0, 1) := by decide +kernel
theorem dX11_rule_44 : decode cX11_rule 44 = .ok (.ireturn, 1) := by decide +kernel
theorem dX11_rule_45 : decode cX11_rule 45 = .ok (.iload_n 2, 1) := by decide +kernel
theorem dX11_rule_46 : decode cX11_rule 46 = .ok (.iconst 5, 1) := by decide +kernel
theorem dX11_rule_47 : decode cX11_rule 47 = .ok (.if_icmp .ne 11, 3) := by decide +kernel
theorem dX11_rule_50 : decode cX11_rule 50 = .ok (.aload_n 0, 1) := by decide +kernel
theorem dX11_rule_51 : decode cX11_rule 51 = .ok (.iload_n 1, 1) := by decide +kernel
theorem dX11_rule_52 : decode cX11_rule 52 = .ok (.invokevirtual 181, 3) := by decide +kernel
theorem dX11_rule_55 : decode cX11_rule 55 = .ok (.goto 9, 3) := by decide +kernel
theorem dX11_rule_58 : decode cX11_rule 58 = .ok (.aload_n 0, 1) := by decide +kernel
theorem dX11_rule_59 : decode cX11_rule 59 = .ok (.iload_n 1, 1) := by decide +kernel
theorem dX11_rule_60 : decode cX11_rule 60 = .ok (.iload_n 2, 1) := by decide +kernel
theorem dX11_rule_61 : decode cX11_rule 61 = .ok (.invokevirtual 99, 3) := by decide +kernel
theorem dX11_rule_64 : decode cX11_rule 64 = .ok (.ireturn, 1) := by decide +kernel
theorem dX11_letter_0 : decode cX11_letter 0 = .ok (.aload_n 0, 1) := by decide +kernel
theorem dX11_letter_1 : decode cX11_letter 1 = .ok (.iconst 1, 1) := by decide +kernel
theorem dX11_letter_2 : decode cX11_letter 2 = .ok (.aload_n 0, 1) := by decide +kernel
theorem dX11_letter_3 : decode cX11_letter 3 = .ok (.iload_n 1, 1) := by decide +kernel
theorem dX11_letter_4 : decode cX11_letter 4 = .ok (.invokevirtual 171, 3) := by decide +kernel
theorem dX11_letter_7 : decode cX11_letter 7 = .ok (.ifCond .ne 7, 3) := by decide +kernel
theorem dX11_letter_10 : decode cX11_letter 10 = .ok (.iconst 1, 1) := by decide +kernel
theorem dX11_letter_11 : decode cX11_letter 11 = .ok (.goto 4, 3) := by decide +kernel
theorem dX11_letter_14 : decode cX11_letter 14 = .ok (.iconst 0, 1) := by decide +kernel
theorem dX11_letter_15 : decode cX11_letter 15 = .ok (.invokevirtual 111, 3) := by decide +kernel
theorem dX11_letter_18 : decode cX11_letter 18 = .ok (.ifCond .ne 32, 3) := by decide +kernel
theorem dX11_letter_21 : decode cX11_letter 21 = .ok (.aload_n 0, 1) := by decide +kernel
theorem dX11_letter_22 : decode cX11_letter 22 = .ok (.iconst 2, 1) := by decide +kernel
theorem dX11_letter_23 : decode cX11_letter 23 = .ok (.iload_n 3, 1) := by decide +kernel
theorem dX11_letter_24 : decode cX11_letter 24 = .ok (.iconst 0, 1) := by decide +kernel
theorem dX11_letter_25 : decode cX11_letter 25 = .ok (.aload_n 0, 1) := by decide +kernel
theorem dX11_letter_26 : decode cX11_letter 26 = .ok (.iload_n 1, 1) := by decide +kernel
theorem dX11_letter_27 : decode cX11_letter 27 = .ok (.iload_n 2, 1) := by decide +kernel
theorem dX11_letter_28 : decode cX11_letter 28 = .ok (.invokevirtual 185, 3) := by decide +kernel
theorem dX11_letter_31 : decode cX11_letter 31 = .ok (.iconst 1, 1) := by decide +kernel
theorem dX11_letter_32 : decode cX11_letter 32 = .ok (.isub, 1) := by decide +kernel
theorem dX11_letter_33 : decode cX11_letter 33 = .ok (.invokestatic 107, 3) := by decide +kernel
theorem dX11_letter_36 : decode cX11_letter 36 = .ok (.ifCond .ne 7, 3) := by decide +kernel
theorem dX11_letter_39 : decode cX11_letter 39 = .ok (.iconst 1, 1) := by decide +kernel
theorem dX11_letter_40 : decode cX11_letter 40 = .ok (.goto 4, 3) := by decide +kernel
theorem dX11_letter_43 : decode cX11_letter 43 = .ok (.iconst 0, 1) := by decide +kernel
theorem dX11_letter_44 : decode cX11_letter 44 = .ok (.invokevirtual 111, 3) := by decide +kernel
theorem dX11_letter_47 : decode cX11_letter 47 = .ok (.ifCond .eq 5, 3) := by decide +kernel
theorem dX11_letter_50 : decode cX11_letter 50 = .ok (.iconst 0, 1) := by decide +kernel
theorem dX11_letter_51 : decode cX11_letter 51 = .ok (.ireturn, 1) := by decide +kernel
theorem dX11_letter_52 : decode cX11_letter 52 = .ok (.aload_n 0, 1) := by decide +kernel
theorem dX11_letter_53 : decode cX11_letter 53 = .ok (.iload_n 1, 1) := by decide +kernel
theorem dX11_letter_54 : decode cX11_letter 54 = .ok (.iload_n 2, 1) := by decide +kernel
theorem dX11_letter_55 : decode cX11_letter 55 = .ok (.iload_n 3, 1) := by decide +kernel
theorem dX11_letter_56 : decode cX11_letter 56 = .ok (.invokevirtual 189, 3) := by decide +kernel
theorem dX11_letter_59 : decode cX11_letter 59 = .ok (.i2c, 1) := by decide +kernel
theorem dX11_letter_60 : decode cX11_letter 60 = .ok (.ireturn, 1) := by decide +kernel
theorem dX11_fits_0 : decode cX11_fits 0 = .ok (.iload_n 0, 1) := by decide +kernel
theorem dX11_fits_1 : decode cX11_fits 1 = .ok (.tableswitch 49 0 2 #[27, 29, 39], 27) := by decide +kernel
theorem dX11_fits_28 : decode cX11_fits 28 = .ok (.iconst 1, 1) := by decide +kernel
theorem dX11_fits_29 : decode cX11_fits 29 = .ok (.ireturn, 1) := by decide +kernel
theorem dX11_fits_30 : decode cX11_fits 30 = .ok (.iload_n 1, 1) := by decide +kernel
theorem dX11_fits_31 : decode cX11_fits 31 = .ok (.ifCond .ne 7, 3) := by decide +kernel
theorem dX11_fits_34 : decode cX11_fits 34 = .ok (.iconst 1, 1) := by decide +kernel
theorem dX11_fits_35 : decode cX11_fits 35 = .ok (.goto 4, 3) := by decide +kernel
theorem dX11_fits_38 : decode cX11_fits 38 = .ok (.iconst 0, 1) := by decide +kernel
theorem dX11_fits_39 : decode cX11_fits 39 = .ok (.ireturn, 1) := by decide +kernel
theorem dX11_fits_40 : decode cX11_fits 40 = .ok (.iload_n 1, 1) := by decide +kernel
theorem dX11_fits_41 : decode cX11_fits 41 = .ok (.ifCond .le 7, 3) := by decide +kernel
theorem dX11_fits_44 : decode cX11_fits 44 = .ok (.iconst 1, 1) := by decide +kernel
theorem dX11_fits_45 : decode cX11_fits 45 = .ok (.goto 4, 3) := by decide +kernel
theorem dX11_fits_48 : decode cX11_fits 48 = .ok (.iconst 0, 1) := by decide +kernel
theorem dX11_fits_49 : decode cX11_fits 49 = .ok (.ireturn, 1) := by decide +kernel
theorem dX11_fits_50 : decode cX11_fits 50 = .ok (.iload_n 1, 1) := by decide +kernel
theorem dX11_fits_51 : decode cX11_fits 51 = .ok (.iload_n 0, 1) := by decide +kernel
theorem dX11_fits_52 : decode cX11_fits 52 = .ok (.iconst 2, 1) := by decide +kernel
theorem dX11_fits_53 : decode cX11_fits 53 = .ok (.isub, 1) := by decide +kernel
theorem dX11_fits_54 : decode cX11_fits 54 = .ok (.if_icmp .ne 7, 3) := by decide +kernel
theorem dX11_fits_57 : decode cX11_fits 57 = .ok (.iconst 1, 1) := by decide +kernel
theorem dX11_fits_58 : decode cX11_fits 58 = .ok (.goto 4, 3) := by decide +kernel
theorem dX11_fits_61 : decode cX11_fits 61 = .ok (.iconst 0, 1) := by decide +kernel
theorem dX11_fits_62 : decode cX11_fits 62 = .ok (.ireturn, 1) := by decide +kernel
theorem dX11_placeBehind_0 : decode cX11_placeBehind 0 = .ok (.iload_n 0, 1) := by decide +kernel
theorem dX11_placeBehind_1 : decode cX11_placeBehind 1 = .ok (.bipush 97, 2) := by decide +kernel
theorem dX11_placeBehind_3 : decode cX11_placeBehind 3 = .ok (.if_icmp .eq 27, 3) := by decide +kernel
theorem dX11_placeBehind_6 : decode cX11_placeBehind 6 = .ok (.iload_n 0, 1) := by decide +kernel
theorem dX11_placeBehind_7 : decode cX11_placeBehind 7 = .ok (.bipush 101, 2) := by decide +kernel
theorem dX11_placeBehind_9 : decode cX11_placeBehind 9 = .ok (.if_icmp .eq 21, 3) := by decide +kernel
theorem dX11_placeBehind_12 : decode cX11_placeBehind 12 = .ok (.iload_n 0, 1) := by decide +kernel
theorem dX11_placeBehind_13 : decode cX11_placeBehind 13 = .ok (.bipush 105, 2) := by decide +kernel
theorem dX11_placeBehind_15 : decode cX11_placeBehind 15 = .ok (.if_icmp .eq 15, 3) := by decide +kernel
theorem dX11_placeBehind_18 : decode cX11_placeBehind 18 = .ok (.iload_n 0, 1) := by decide +kernel
theorem dX11_placeBehind_19 : decode cX11_placeBehind 19 = .ok (.bipush 111, 2) := by decide +kernel
theorem dX11_placeBehind_21 : decode cX11_placeBehind 21 = .ok (.if_icmp .eq 9, 3) := by decide +kernel
theorem dX11_placeBehind_24 : decode cX11_placeBehind 24 = .ok (.iload_n 0, 1) := by decide +kernel
theorem dX11_placeBehind_25 : decode cX11_placeBehind 25 = .ok (.bipush 117, 2) := by decide +kernel
theorem dX11_placeBehind_27 : decode cX11_placeBehind 27 = .ok (.if_icmp .ne 7, 3) := by decide +kernel
theorem dX11_placeBehind_30 : decode cX11_placeBehind 30 = .ok (.iconst 1, 1) := by decide +kernel
theorem dX11_placeBehind_31 : decode cX11_placeBehind 31 = .ok (.goto 4, 3) := by decide +kernel
theorem dX11_placeBehind_34 : decode cX11_placeBehind 34 = .ok (.iconst 2, 1) := by decide +kernel
theorem dX11_placeBehind_35 : decode cX11_placeBehind 35 = .ok (.ireturn, 1) := by decide +kernel
theorem dX11_haveSame_0 : decode cX11_haveSame 0 = .ok (.aload_n 0, 1) := by decide +kernel
theorem dX11_haveSame_1 : decode cX11_haveSame 1 = .ok (.iload_n 1, 1) := by decide +kernel
theorem dX11_haveSame_2 : decode cX11_haveSame 2 = .ok (.iload_n 3, 1) := by decide +kernel
theorem dX11_haveSame_3 : decode cX11_haveSame 3 = .ok (.invokevirtual 185, 3) := by decide +kernel
theorem dX11_haveSame_6 : decode cX11_haveSame 6 = .ok (.aload_n 0, 1) := by decide +kernel
theorem dX11_haveSame_7 : decode cX11_haveSame 7 = .ok (.iload_n 2, 1) := by decide +kernel
theorem dX11_haveSame_8 : decode cX11_haveSame 8 = .ok (.iload_n 3, 1) := by decide +kernel
theorem dX11_haveSame_9 : decode cX11_haveSame 9 = .ok (.invokevirtual 185, 3) := by decide +kernel
theorem dX11_haveSame_12 : decode cX11_haveSame 12 = .ok (.if_icmp .ne 7, 3) := by decide +kernel
theorem dX11_haveSame_15 : decode cX11_haveSame 15 = .ok (.iconst 1, 1) := by decide +kernel
theorem dX11_haveSame_16 : decode cX11_haveSame 16 = .ok (.goto 4, 3) := by decide +kernel
theorem dX11_haveSame_19 : decode cX11_haveSame 19 = .ok (.iconst 0, 1) := by decide +kernel
theorem dX11_haveSame_20 : decode cX11_haveSame 20 = .ok (.istore 4, 2) := by decide +kernel
theorem dX11_haveSame_22 : decode cX11_haveSame 22 = .ok (.iconst 0, 1) := by decide +kernel
theorem dX11_haveSame_23 : decode cX11_haveSame 23 = .ok (.istore 5, 2) := by decide +kernel
theorem dX11_haveSame_25 : decode cX11_haveSame 25 = .ok (.iload 4, 2) := by decide +kernel
theorem dX11_haveSame_27 : decode cX11_haveSame 27 = .ok (.ifCond .eq 46, 3) := by decide +kernel
theorem dX11_haveSame_30 : decode cX11_haveSame 30 = .ok (.iload 5, 2) := by decide +kernel
theorem dX11_haveSame_32 : decode cX11_haveSame 32 = .ok (.aload_n 0, 1) := by decide +kernel
theorem dX11_haveSame_33 : decode cX11_haveSame 33 = .ok (.iload_n 1, 1) := by decide +kernel
theorem dX11_haveSame_34 : decode cX11_haveSame 34 = .ok (.iload_n 3, 1) := by decide +kernel
theorem dX11_haveSame_35 : decode cX11_haveSame 35 = .ok (.invokevirtual 185, 3) := by decide +kernel
theorem dX11_haveSame_38 : decode cX11_haveSame 38 = .ok (.if_icmp .ge 35, 3) := by decide +kernel
theorem dX11_haveSame_41 : decode cX11_haveSame 41 = .ok (.aload_n 0, 1) := by decide +kernel
theorem dX11_haveSame_42 : decode cX11_haveSame 42 = .ok (.iload_n 1, 1) := by decide +kernel
theorem dX11_haveSame_43 : decode cX11_haveSame 43 = .ok (.iload_n 3, 1) := by decide +kernel
theorem dX11_haveSame_44 : decode cX11_haveSame 44 = .ok (.iload 5, 2) := by decide +kernel
theorem dX11_haveSame_46 : decode cX11_haveSame 46 = .ok (.invokevirtual 189, 3) := by decide +kernel
theorem dX11_haveSame_49 : decode cX11_haveSame 49 = .ok (.aload_n 0, 1) := by decide +kernel
theorem dX11_haveSame_50 : decode cX11_haveSame 50 = .ok (.iload_n 2, 1) := by decide +kernel
theorem dX11_haveSame_51 : decode cX11_haveSame 51 = .ok (.iload_n 3, 1) := by decide +kernel
theorem dX11_haveSame_52 : decode cX11_haveSame 52 = .ok (.iload 5, 2) := by decide +kernel
theorem dX11_haveSame_54 : decode cX11_haveSame 54 = .ok (.invokevirtual 189, 3) := by decide +kernel
theorem dX11_haveSame_57 : decode cX11_haveSame 57 = .ok (.if_icmp .ne 7, 3) := by decide +kernel
theorem dX11_haveSame_60 : decode cX11_haveSame 60 = .ok (.iconst 1, 1) := by decide +kernel
theorem dX11_haveSame_61 : decode cX11_haveSame 61 = .ok (.goto 4, 3) := by decide +kernel
theorem dX11_haveSame_64 : decode cX11_haveSame 64 = .ok (.iconst 0, 1) := by decide +kernel
theorem dX11_haveSame_65 : decode cX11_haveSame 65 = .ok (.istore 4, 2) := by decide +kernel
theorem dX11_haveSame_67 : decode cX11_haveSame 67 = .ok (.iinc 5 1, 3) := by decide +kernel
theorem dX11_haveSame_70 : decode cX11_haveSame 70 = .ok (.goto (-45), 3) := by decide +kernel
theorem dX11_haveSame_73 : decode cX11_haveSame 73 = .ok (.iload 4, 2) := by decide +kernel
theorem dX11_haveSame_75 : decode cX11_haveSame 75 = .ok (.ireturn, 1) := by decide +kernel
theorem dX11_collide_0 : decode cX11_collide 0 = .ok (.iconst 0, 1) := by decide +kernel
theorem dX11_collide_1 : decode cX11_collide 1 = .ok (.istore_n 3, 1) := by decide +kernel
theorem dX11_collide_2 : decode cX11_collide 2 = .ok (.iconst 0, 1) := by decide +kernel
theorem dX11_collide_3 : decode cX11_collide 3 = .ok (.istore 4, 2) := by decide +kernel
theorem dX11_collide_5 : decode cX11_collide 5 = .ok (.iload 4, 2) := by decide +kernel
theorem dX11_collide_7 : decode cX11_collide 7 = .ok (.iconst 3, 1) := by decide +kernel
theorem dX11_collide_8 : decode cX11_collide 8 = .ok (.if_icmp .ge 45, 3) := by decide +kernel
theorem dX11_collide_11 : decode cX11_collide 11 = .ok (.iload_n 3, 1) := by decide +kernel
theorem dX11_collide_12 : decode cX11_collide 12 = .ok (.aload_n 0, 1) := by decide +kernel
theorem dX11_collide_13 : decode cX11_collide 13 = .ok (.iload_n 1, 1) := by decide +kernel
theorem dX11_collide_14 : decode cX11_collide 14 = .ok (.iconst 2, 1) := by decide +kernel
theorem dX11_collide_15 : decode cX11_collide 15 = .ok (.invokevirtual 99, 3) := by decide +kernel
theorem dX11_collide_18 : decode cX11_collide 18 = .ok (.iload 4, 2) := by decide +kernel
theorem dX11_collide_20 : decode cX11_collide 20 = .ok (.invokestatic 193, 3) := by decide +kernel
theorem dX11_collide_23 : decode cX11_collide 23 = .ok (.ifCond .eq 21, 3) := by decide +kernel
theorem dX11_collide_26 : decode cX11_collide 26 = .ok (.aload_n 0, 1) := by decide +kernel
theorem dX11_collide_27 : decode cX11_collide 27 = .ok (.iload_n 2, 1) := by decide +kernel
theorem dX11_collide_28 : decode cX11_collide 28 = .ok (.iconst 2, 1) := by decide +kernel
theorem dX11_collide_29 : decode cX11_collide 29 = .ok (.invokevirtual 99, 3) := by decide +kernel
theorem dX11_collide_32 : decode cX11_collide 32 = .ok (.iload 4, 2) := by decide +kernel
theorem dX11_collide_34 : decode cX11_collide 34 = .ok (.invokestatic 193, 3) := by decide +kernel
theorem dX11_collide_37 : decode cX11_collide 37 = .ok (.ifCond .eq 7, 3) := by decide +kernel
theorem dX11_collide_40 : decode cX11_collide 40 = .ok (.iconst 1, 1) := by decide +kernel
theorem dX11_collide_41 : decode cX11_collide 41 = .ok (.goto 4, 3) := by decide +kernel
theorem dX11_collide_44 : decode cX11_collide 44 = .ok (.iconst 0, 1) := by decide +kernel
theorem dX11_collide_45 : decode cX11_collide 45 = .ok (.ior, 1) := by decide +kernel
theorem dX11_collide_46 : decode cX11_collide 46 = .ok (.istore_n 3, 1) := by decide +kernel
theorem dX11_collide_47 : decode cX11_collide 47 = .ok (.iinc 4 1, 3) := by decide +kernel
theorem dX11_collide_50 : decode cX11_collide 50 = .ok (.goto (-45), 3) := by decide +kernel
theorem dX11_collide_53 : decode cX11_collide 53 = .ok (.iload_n 3, 1) := by decide +kernel
theorem dX11_collide_54 : decode cX11_collide 54 = .ok (.ifCond .eq 42, 3) := by decide +kernel
theorem dX11_collide_57 : decode cX11_collide 57 = .ok (.aload_n 0, 1) := by decide +kernel
theorem dX11_collide_58 : decode cX11_collide 58 = .ok (.iload_n 1, 1) := by decide +kernel
theorem dX11_collide_59 : decode cX11_collide 59 = .ok (.iconst 0, 1) := by decide +kernel
theorem dX11_collide_60 : decode cX11_collide 60 = .ok (.invokevirtual 99, 3) := by decide +kernel
theorem dX11_collide_63 : decode cX11_collide 63 = .ok (.aload_n 0, 1) := by decide +kernel
theorem dX11_collide_64 : decode cX11_collide 64 = .ok (.iload_n 2, 1) := by decide +kernel
theorem dX11_collide_65 : decode cX11_collide 65 = .ok (.iconst 0, 1) := by decide +kernel
theorem dX11_collide_66 : decode cX11_collide 66 = .ok (.invokevirtual 99, 3) := by decide +kernel
theorem dX11_collide_69 : decode cX11_collide 69 = .ok (.if_icmp .ne 27, 3) := by decide +kernel
theorem dX11_collide_72 : decode cX11_collide 72 = .ok (.aload_n 0, 1) := by decide +kernel
theorem dX11_collide_73 : decode cX11_collide 73 = .ok (.iload_n 1, 1) := by decide +kernel
theorem dX11_collide_74 : decode cX11_collide 74 = .ok (.iload_n 2, 1) := by decide +kernel
theorem dX11_collide_75 : decode cX11_collide 75 = .ok (.iconst 0, 1) := by decide +kernel
theorem dX11_collide_76 : decode cX11_collide 76 = .ok (.invokevirtual 196, 3) := by decide +kernel
theorem dX11_collide_79 : decode cX11_collide 79 = .ok (.ifCond .eq 17, 3) := by decide +kernel
theorem dX11_collide_82 : decode cX11_collide 82 = .ok (.aload_n 0, 1) := by decide +kernel
theorem dX11_collide_83 : decode cX11_collide 83 = .ok (.iload_n 1, 1) := by decide +kernel
theorem dX11_collide_84 : decode cX11_collide 84 = .ok (.iload_n 2, 1) := by decide +kernel
theorem dX11_collide_85 : decode cX11_collide 85 = .ok (.iconst 1, 1) := by decide +kernel
theorem dX11_collide_86 : decode cX11_collide 86 = .ok (.invokevirtual 196, 3) := by decide +kernel
theorem dX11_collide_89 : decode cX11_collide 89 = .ok (.ifCond .ne 7, 3) := by decide +kernel
theorem dX11_collide_92 : decode cX11_collide 92 = .ok (.iconst 1, 1) := by decide +kernel
theorem dX11_collide_93 : decode cX11_collide 93 = .ok (.goto 4, 3) := by decide +kernel
theorem dX11_collide_96 : decode cX11_collide 96 = .ok (.iconst 0, 1) := by decide +kernel
theorem dX11_collide_97 : decode cX11_collide 97 = .ok (.ireturn, 1) := by decide +kernel
theorem dX11_findCollision_0 : decode cX11_findCollision 0 = .ok (.iconst 0, 1) := by decide +kernel
theorem dX11_findCollision_1 : decode cX11_findCollision 1 = .ok (.istore_n 2, 1) := by decide +kernel
theorem dX11_findCollision_2 : decode cX11_findCollision 2 = .ok (.iconst 0, 1) := by decide +kernel
theorem dX11_findCollision_3 : decode cX11_findCollision 3 = .ok (.istore_n 3, 1) := by decide +kernel
theorem dX11_findCollision_4 : decode cX11_findCollision 4 = .ok (.iload_n 3, 1) := by decide +kernel
theorem dX11_findCollision_5 : decode cX11_findCollision 5 = .ok (.aload_n 0, 1) := by decide +kernel
theorem dX11_findCollision_6 : decode cX11_findCollision 6 = .ok (.getfield 9, 3) := by decide +kernel
theorem dX11_findCollision_9 : decode cX11_findCollision 9 = .ok (.iconst 0, 1) := by decide +kernel
theorem dX11_findCollision_10 : decode cX11_findCollision 10 = .ok (.iaload, 1) := by decide +kernel
theorem dX11_findCollision_11 : decode cX11_findCollision 11 = .ok (.if_icmp .ge 60, 3) := by decide +kernel
theorem dX11_findCollision_14 : decode cX11_findCollision 14 = .ok (.iload_n 3, 1) := by decide +kernel
theorem dX11_findCollision_15 : decode cX11_findCollision 15 = .ok (.iconst 1, 1) := by decide +kernel
theorem dX11_findCollision_16 : decode cX11_findCollision 16 = .ok (.iadd, 1) := by decide +kernel
theorem dX11_findCollision_17 : decode cX11_findCollision 17 = .ok (.istore 4, 2) := by decide +kernel
theorem dX11_findCollision_19 : decode cX11_findCollision 19 = .ok (.iload 4, 2) := by decide +kernel
theorem dX11_findCollision_21 : decode cX11_findCollision 21 = .ok (.aload_n 0, 1) := by decide +kernel
theorem dX11_findCollision_22 : decode cX11_findCollision 22 = .ok (.getfield 9, 3) := by decide +kernel
theorem dX11_findCollision_25 : decode cX11_findCollision 25 = .ok (.iconst 0, 1) := by decide +kernel
theorem dX11_findCollision_26 : decode cX11_findCollision 26 = .ok (.iaload, 1) := by decide +kernel
theorem dX11_findCollision_27 : decode cX11_findCollision 27 = .ok (.if_icmp .ge 38, 3) := by decide +kernel
theorem dX11_findCollision_30 : decode cX11_findCollision 30 = .ok (.aload_n 0, 1) := by decide +kernel
theorem dX11_findCollision_31 : decode cX11_findCollision 31 = .ok (.iload_n 3, 1) := by decide +kernel
theorem dX11_findCollision_32 : decode cX11_findCollision 32 = .ok (.iload 4, 2) := by decide +kernel
theorem dX11_findCollision_34 : decode cX11_findCollision 34 = .ok (.invokevirtual 200, 3) := by decide +kernel
theorem dX11_findCollision_37 : decode cX11_findCollision 37 = .ok (.ifCond .eq 22, 3) := by decide +kernel
theorem dX11_findCollision_40 : decode cX11_findCollision 40 = .ok (.iload_n 2, 1) := by decide +kernel
theorem dX11_findCollision_41 : decode cX11_findCollision 41 = .ok (.iload_n 1, 1) := by decide +kernel
theorem dX11_findCollision_42 : decode cX11_findCollision 42 = .ok (.if_icmp .ne 14, 3) := by decide +kernel
theorem dX11_findCollision_45 : decode cX11_findCollision 45 = .ok (.aload_n 0, 1) := by decide +kernel
theorem dX11_findCollision_46 : decode cX11_findCollision 46 = .ok (.iload_n 3, 1) := by decide +kernel
theorem dX11_findCollision_47 : decode cX11_findCollision 47 = .ok (.putfield 203, 3) := by decide +kernel
theorem dX11_findCollision_50 : decode cX11_findCollision 50 = .ok (.aload_n 0, 1) := by decide +kernel
theorem dX11_findCollision_51 : decode cX11_findCollision 51 = .ok (.iload 4, 2) := by decide +kernel
theorem dX11_findCollision_53 : decode cX11_findCollision 53 = .ok (.putfield 206, 3) := by decide +kernel
theorem dX11_findCollision_56 : decode cX11_findCollision 56 = .ok (.iinc 2 1, 3) := by decide +kernel
theorem dX11_findCollision_59 : decode cX11_findCollision 59 = .ok (.iinc 4 1, 3) := by decide +kernel
theorem dX11_findCollision_62 : decode cX11_findCollision 62 = .ok (.goto (-43), 3) := by decide +kernel
theorem dX11_findCollision_65 : decode cX11_findCollision 65 = .ok (.iinc 3 1, 3) := by decide +kernel
theorem dX11_findCollision_68 : decode cX11_findCollision 68 = .ok (.goto (-64), 3) := by decide +kernel
theorem dX11_findCollision_71 : decode cX11_findCollision 71 = .ok (.iload_n 2, 1) := by decide +kernel
theorem dX11_findCollision_72 : decode cX11_findCollision 72 = .ok (.ireturn, 1) := by decide +kernel
theorem dX11_count_0 : decode cX11_count 0 = .ok (.aload_n 0, 1) := by decide +kernel
theorem dX11_count_1 : decode cX11_count 1 = .ok (.iconst 1, 1) := by decide +kernel
theorem dX11_count_2 : decode cX11_count 2 = .ok (.iload_n 1, 1) := by decide +kernel
theorem dX11_count_3 : decode cX11_count 3 = .ok (.iconst 0, 1) := by decide +kernel
theorem dX11_count_4 : decode cX11_count 4 = .ok (.bipush 7, 2) := by decide +kernel
theorem dX11_count_6 : decode cX11_count 6 = .ok (.invokestatic 107, 3) := by decide +kernel
theorem dX11_count_9 : decode cX11_count 9 = .ok (.ifCond .ne 7, 3) := by decide +kernel
theorem dX11_count_12 : decode cX11_count 12 = .ok (.iconst 1, 1) := by decide +kernel
theorem dX11_count_13 : decode cX11_count 13 = .ok (.goto 4, 3) := by decide +kernel
theorem dX11_count_16 : decode cX11_count 16 = .ok (.iconst 0, 1) := by decide +kernel
theorem dX11_count_17 : decode cX11_count 17 = .ok (.invokevirtual 111, 3) := by decide +kernel
theorem dX11_count_20 : decode cX11_count 20 = .ok (.ifCond .eq 5, 3) := by decide +kernel
theorem dX11_count_23 : decode cX11_count 23 = .ok (.iconst 0, 1) := by decide +kernel
theorem dX11_count_24 : decode cX11_count 24 = .ok (.ireturn, 1) := by decide +kernel
theorem dX11_count_25 : decode cX11_count 25 = .ok (.iload_n 1, 1) := by decide +kernel
theorem dX11_count_26 : decode cX11_count 26 = .ok (.tableswitch 53 4 7 #[30, 36, 41, 46], 30) := by decide +kernel
theorem dX11_count_56 : decode cX11_count 56 = .ok (.aload_n 0, 1) := by decide +kernel
theorem dX11_count_57 : decode cX11_count 57 = .ok (.iconst (-1), 1) := by decide +kernel
theorem dX11_count_58 : decode cX11_count 58 = .ok (.invokevirtual 209, 3) := by decide +kernel
theorem dX11_count_61 : decode cX11_count 61 = .ok (.ireturn, 1) := by decide +kernel
theorem dX11_count_62 : decode cX11_count 62 = .ok (.aload_n 0, 1) := by decide +kernel
theorem dX11_count_63 : decode cX11_count 63 = .ok (.getfield 115, 3) := by decide +kernel
theorem dX11_count_66 : decode cX11_count 66 = .ok (.ireturn, 1) := by decide +kernel
theorem dX11_count_67 : decode cX11_count 67 = .ok (.aload_n 0, 1) := by decide +kernel
theorem dX11_count_68 : decode cX11_count 68 = .ok (.getfield 92, 3) := by decide +kernel
theorem dX11_count_71 : decode cX11_count 71 = .ok (.ireturn, 1) := by decide +kernel
theorem dX11_count_72 : decode cX11_count 72 = .ok (.aload_n 0, 1) := by decide +kernel
theorem dX11_count_73 : decode cX11_count 73 = .ok (.getfield 9, 3) := by decide +kernel
theorem dX11_count_76 : decode cX11_count 76 = .ok (.iconst 4, 1) := by decide +kernel
theorem dX11_count_77 : decode cX11_count 77 = .ok (.iaload, 1) := by decide +kernel
theorem dX11_count_78 : decode cX11_count 78 = .ok (.ireturn, 1) := by decide +kernel
theorem dX11_count_79 : decode cX11_count 79 = .ok (.aload_n 0, 1) := by decide +kernel
theorem dX11_count_80 : decode cX11_count 80 = .ok (.getfield 9, 3) := by decide +kernel
theorem dX11_count_83 : decode cX11_count 83 = .ok (.iload_n 1, 1) := by decide +kernel
theorem dX11_count_84 : decode cX11_count 84 = .ok (.iaload, 1) := by decide +kernel
theorem dX11_count_85 : decode cX11_count 85 = .ok (.ireturn, 1) := by decide +kernel
theorem dX11_collision_0 : decode cX11_collision 0 = .ok (.aload_n 0, 1) := by decide +kernel
theorem dX11_collision_1 : decode cX11_collision 1 = .ok (.iconst 1, 1) := by decide +kernel
theorem dX11_collision_2 : decode cX11_collision 2 = .ok (.iload_n 1, 1) := by decide +kernel
theorem dX11_collision_3 : decode cX11_collision 3 = .ok (.ifCond .lt 12, 3) := by decide +kernel
theorem dX11_collision_6 : decode cX11_collision 6 = .ok (.iload_n 1, 1) := by decide +kernel
theorem dX11_collision_7 : decode cX11_collision 7 = .ok (.aload_n 0, 1) := by decide +kernel
theorem dX11_collision_8 : decode cX11_collision 8 = .ok (.iload_n 1, 1) := by decide +kernel
theorem dX11_collision_9 : decode cX11_collision 9 = .ok (.invokevirtual 209, 3) := by decide +kernel
theorem dX11_collision_12 : decode cX11_collision 12 = .ok (.if_icmp .lt 7, 3) := by decide +kernel
theorem dX11_collision_15 : decode cX11_collision 15 = .ok (.iconst 1, 1) := by decide +kernel
theorem dX11_collision_16 : decode cX11_collision 16 = .ok (.goto 4, 3) := by decide +kernel
theorem dX11_collision_19 : decode cX11_collision 19 = .ok (.iconst 0, 1) := by decide +kernel
theorem dX11_collision_20 : decode cX11_collision 20 = .ok (.invokevirtual 111, 3) := by decide +kernel
theorem dX11_collision_23 : decode cX11_collision 23 = .ok (.ifCond .eq 5, 3) := by decide +kernel
theorem dX11_collision_26 : decode cX11_collision 26 = .ok (.iconst 0, 1) := by decide +kernel
theorem dX11_collision_27 : decode cX11_collision 27 = .ok (.ireturn, 1) := by decide +kernel
theorem dX11_collision_28 : decode cX11_collision 28 = .ok (.iload_n 2, 1) := by decide +kernel
theorem dX11_collision_29 : decode cX11_collision 29 = .ok (.ifCond .eq 10, 3) := by decide +kernel
theorem dX11_collision_32 : decode cX11_collision 32 = .ok (.aload_n 0, 1) := by decide +kernel
theorem dX11_collision_33 : decode cX11_collision 33 = .ok (.getfield 206, 3) := by decide +kernel
theorem dX11_collision_36 : decode cX11_collision 36 = .ok (.goto 7, 3) := by decide +kernel
theorem dX11_collision_39 : decode cX11_collision 39 = .ok (.aload_n 0, 1) := by decide +kernel
theorem dX11_collision_40 : decode cX11_collision 40 = .ok (.getfield 203, 3) := by decide +kernel
theorem dX11_collision_43 : decode cX11_collision 43 = .ok (.ireturn, 1) := by decide +kernel
theorem dX11_order_0 : decode cX11_order 0 = .ok (.iconst (-1), 1) := by decide +kernel
theorem dX11_order_1 : decode cX11_order 1 = .ok (.istore_n 2, 1) := by decide +kernel
theorem dX11_order_2 : decode cX11_order 2 = .ok (.iconst 0, 1) := by decide +kernel
theorem dX11_order_3 : decode cX11_order 3 = .ok (.istore_n 3, 1) := by decide +kernel
theorem dX11_order_4 : decode cX11_order 4 = .ok (.iload_n 3, 1) := by decide +kernel
theorem dX11_order_5 : decode cX11_order 5 = .ok (.aload_n 0, 1) := by decide +kernel
theorem dX11_order_6 : decode cX11_order 6 = .ok (.getfield 9, 3) := by decide +kernel
theorem dX11_order_9 : decode cX11_order 9 = .ok (.iconst 0, 1) := by decide +kernel
theorem dX11_order_10 : decode cX11_order 10 = .ok (.iaload, 1) := by decide +kernel
theorem dX11_order_11 : decode cX11_order 11 = .ok (.if_icmp .ge 24, 3) := by decide +kernel
theorem dX11_order_14 : decode cX11_order 14 = .ok (.aload_n 0, 1) := by decide +kernel
theorem dX11_order_15 : decode cX11_order 15 = .ok (.iload_n 3, 1) := by decide +kernel
theorem dX11_order_16 : decode cX11_order 16 = .ok (.invokevirtual 181, 3) := by decide +kernel
theorem dX11_order_19 : decode cX11_order 19 = .ok (.iload_n 1, 1) := by decide +kernel
theorem dX11_order_20 : decode cX11_order 20 = .ok (.if_icmp .ne 7, 3) := by decide +kernel
theorem dX11_order_23 : decode cX11_order 23 = .ok (.iload_n 3, 1) := by decide +kernel
theorem dX11_order_24 : decode cX11_order 24 = .ok (.goto 4, 3) := by decide +kernel
theorem dX11_order_27 : decode cX11_order 27 = .ok (.iload_n 2, 1) := by decide +kernel
theorem dX11_order_28 : decode cX11_order 28 = .ok (.istore_n 2, 1) := by decide +kernel
theorem dX11_order_29 : decode cX11_order 29 = .ok (.iinc 3 1, 3) := by decide +kernel
theorem dX11_order_32 : decode cX11_order 32 = .ok (.goto (-28), 3) := by decide +kernel
theorem dX11_order_35 : decode cX11_order 35 = .ok (.aload_n 0, 1) := by decide +kernel
theorem dX11_order_36 : decode cX11_order 36 = .ok (.iconst 1, 1) := by decide +kernel
theorem dX11_order_37 : decode cX11_order 37 = .ok (.iload_n 2, 1) := by decide +kernel
theorem dX11_order_38 : decode cX11_order 38 = .ok (.ifCond .ge 7, 3) := by decide +kernel
theorem dX11_order_41 : decode cX11_order 41 = .ok (.iconst 1, 1) := by decide +kernel
theorem dX11_order_42 : decode cX11_order 42 = .ok (.goto 4, 3) := by decide +kernel
theorem dX11_order_45 : decode cX11_order 45 = .ok (.iconst 0, 1) := by decide +kernel
theorem dX11_order_46 : decode cX11_order 46 = .ok (.invokevirtual 111, 3) := by decide +kernel
theorem dX11_order_49 : decode cX11_order 49 = .ok (.ifCond .eq 7, 3) := by decide +kernel
theorem dX11_order_52 : decode cX11_order 52 = .ok (.iconst 0, 1) := by decide +kernel
theorem dX11_order_53 : decode cX11_order 53 = .ok (.goto 4, 3) := by decide +kernel
theorem dX11_order_56 : decode cX11_order 56 = .ok (.iload_n 2, 1) := by decide +kernel
theorem dX11_order_57 : decode cX11_order 57 = .ok (.ireturn, 1) := by decide +kernel
theorem dX11_fitsWith_0 : decode cX11_fitsWith 0 = .ok (.iconst 1, 1) := by decide +kernel
theorem dX11_fitsWith_1 : decode cX11_fitsWith 1 = .ok (.istore_n 3, 1) := by decide +kernel
theorem dX11_fitsWith_2 : decode cX11_fitsWith 2 = .ok (.iconst 0, 1) := by decide +kernel
theorem dX11_fitsWith_3 : decode cX11_fitsWith 3 = .ok (.istore 4, 2) := by decide +kernel
theorem dX11_fitsWith_5 : decode cX11_fitsWith 5 = .ok (.iload 4, 2) := by decide +kernel
theorem dX11_fitsWith_7 : decode cX11_fitsWith 7 = .ok (.iconst 3, 1) := by decide +kernel
theorem dX11_fitsWith_8 : decode cX11_fitsWith 8 = .ok (.if_icmp .ge 45, 3) := by decide +kernel
theorem dX11_fitsWith_11 : decode cX11_fitsWith 11 = .ok (.iload_n 3, 1) := by decide +kernel
theorem dX11_fitsWith_12 : decode cX11_fitsWith 12 = .ok (.aload_n 0, 1) := by decide +kernel
theorem dX11_fitsWith_13 : decode cX11_fitsWith 13 = .ok (.iload_n 1, 1) := by decide +kernel
theorem dX11_fitsWith_14 : decode cX11_fitsWith 14 = .ok (.iconst 2, 1) := by decide +kernel
theorem dX11_fitsWith_15 : decode cX11_fitsWith 15 = .ok (.invokevirtual 99, 3) := by decide +kernel
theorem dX11_fitsWith_18 : decode cX11_fitsWith 18 = .ok (.iload 4, 2) := by decide +kernel
theorem dX11_fitsWith_20 : decode cX11_fitsWith 20 = .ok (.invokestatic 193, 3) := by decide +kernel
theorem dX11_fitsWith_23 : decode cX11_fitsWith 23 = .ok (.ifCond .ne 17, 3) := by decide +kernel
theorem dX11_fitsWith_26 : decode cX11_fitsWith 26 = .ok (.aload_n 0, 1) := by decide +kernel
theorem dX11_fitsWith_27 : decode cX11_fitsWith 27 = .ok (.iload_n 2, 1) := by decide +kernel
theorem dX11_fitsWith_28 : decode cX11_fitsWith 28 = .ok (.iconst 2, 1) := by decide +kernel
theorem dX11_fitsWith_29 : decode cX11_fitsWith 29 = .ok (.invokevirtual 99, 3) := by decide +kernel
theorem dX11_fitsWith_32 : decode cX11_fitsWith 32 = .ok (.iload 4, 2) := by decide +kernel
theorem dX11_fitsWith_34 : decode cX11_fitsWith 34 = .ok (.invokestatic 193, 3) := by decide +kernel
theorem dX11_fitsWith_37 : decode cX11_fitsWith 37 = .ok (.ifCond .ne 7, 3) := by decide +kernel
theorem dX11_fitsWith_40 : decode cX11_fitsWith 40 = .ok (.iconst 1, 1) := by decide +kernel
theorem dX11_fitsWith_41 : decode cX11_fitsWith 41 = .ok (.goto 4, 3) := by decide +kernel
theorem dX11_fitsWith_44 : decode cX11_fitsWith 44 = .ok (.iconst 0, 1) := by decide +kernel
theorem dX11_fitsWith_45 : decode cX11_fitsWith 45 = .ok (.iand, 1) := by decide +kernel
theorem dX11_fitsWith_46 : decode cX11_fitsWith 46 = .ok (.istore_n 3, 1) := by decide +kernel
theorem dX11_fitsWith_47 : decode cX11_fitsWith 47 = .ok (.iinc 4 1, 3) := by decide +kernel
theorem dX11_fitsWith_50 : decode cX11_fitsWith 50 = .ok (.goto (-45), 3) := by decide +kernel
theorem dX11_fitsWith_53 : decode cX11_fitsWith 53 = .ok (.iload_n 3, 1) := by decide +kernel
theorem dX11_fitsWith_54 : decode cX11_fitsWith 54 = .ok (.ireturn, 1) := by decide +kernel
theorem dX11_shadow_0 : decode cX11_shadow 0 = .ok (.aload_n 0, 1) := by decide +kernel
theorem dX11_shadow_1 : decode cX11_shadow 1 = .ok (.iconst 1, 1) := by decide +kernel
theorem dX11_shadow_2 : decode cX11_shadow 2 = .ok (.aload_n 0, 1) := by decide +kernel
theorem dX11_shadow_3 : decode cX11_shadow 3 = .ok (.iload_n 1, 1) := by decide +kernel
theorem dX11_shadow_4 : decode cX11_shadow 4 = .ok (.invokevirtual 171, 3) := by decide +kernel
theorem dX11_shadow_7 : decode cX11_shadow 7 = .ok (.ifCond .ne 7, 3) := by decide +kernel
theorem dX11_shadow_10 : decode cX11_shadow 10 = .ok (.iconst 1, 1) := by decide +kernel
theorem dX11_shadow_11 : decode cX11_shadow 11 = .ok (.goto 4, 3) := by decide +kernel
theorem dX11_shadow_14 : decode cX11_shadow 14 = .ok (.iconst 0, 1) := by decide +kernel
theorem dX11_shadow_15 : decode cX11_shadow 15 = .ok (.invokevirtual 111, 3) := by decide +kernel
theorem dX11_shadow_18 : decode cX11_shadow 18 = .ok (.ifCond .eq 5, 3) := by decide +kernel
theorem dX11_shadow_21 : decode cX11_shadow 21 = .ok (.iconst 0, 1) := by decide +kernel
theorem dX11_shadow_22 : decode cX11_shadow 22 = .ok (.ireturn, 1) := by decide +kernel
theorem dX11_shadow_23 : decode cX11_shadow 23 = .ok (.iconst (-1), 1) := by decide +kernel
theorem dX11_shadow_24 : decode cX11_shadow 24 = .ok (.istore_n 3, 1) := by decide +kernel
theorem dX11_shadow_25 : decode cX11_shadow 25 = .ok (.iconst 0, 1) := by decide +kernel
theorem dX11_shadow_26 : decode cX11_shadow 26 = .ok (.istore 4, 2) := by decide +kernel
theorem dX11_shadow_28 : decode cX11_shadow 28 = .ok (.iload 4, 2) := by decide +kernel
theorem dX11_shadow_30 : decode cX11_shadow 30 = .ok (.aload_n 0, 1) := by decide +kernel
theorem dX11_shadow_31 : decode cX11_shadow 31 = .ok (.getfield 9, 3) := by decide +kernel
theorem dX11_shadow_34 : decode cX11_shadow 34 = .ok (.iconst 0, 1) := by decide +kernel
theorem dX11_shadow_35 : decode cX11_shadow 35 = .ok (.iaload, 1) := by decide +kernel
theorem dX11_shadow_36 : decode cX11_shadow 36 = .ok (.if_icmp .ge 95, 3) := by decide +kernel
theorem dX11_shadow_39 : decode cX11_shadow 39 = .ok (.iload 4, 2) := by decide +kernel
theorem dX11_shadow_41 : decode cX11_shadow 41 = .ok (.iload_n 1, 1) := by decide +kernel
theorem dX11_shadow_42 : decode cX11_shadow 42 = .ok (.if_icmp .eq 54, 3) := by decide +kernel
theorem dX11_shadow_45 : decode cX11_shadow 45 = .ok (.aload_n 0, 1) := by decide +kernel
theorem dX11_shadow_46 : decode cX11_shadow 46 = .ok (.iload 4, 2) := by decide +kernel
theorem dX11_shadow_48 : decode cX11_shadow 48 = .ok (.iconst 0, 1) := by decide +kernel
theorem dX11_shadow_49 : decode cX11_shadow 49 = .ok (.invokevirtual 99, 3) := by decide +kernel
theorem dX11_shadow_52 : decode cX11_shadow 52 = .ok (.aload_n 0, 1) := by decide +kernel
theorem dX11_shadow_53 : decode cX11_shadow 53 = .ok (.iload_n 1, 1) := by decide +kernel
theorem dX11_shadow_54 : decode cX11_shadow 54 = .ok (.iconst 0, 1) := by decide +kernel
theorem dX11_shadow_55 : decode cX11_shadow 55 = .ok (.invokevirtual 99, 3) := by decide +kernel
theorem dX11_shadow_58 : decode cX11_shadow 58 = .ok (.if_icmp .ne 38, 3) := by decide +kernel
theorem dX11_shadow_61 : decode cX11_shadow 61 = .ok (.aload_n 0, 1) := by decide +kernel
theorem dX11_shadow_62 : decode cX11_shadow 62 = .ok (.iload 4, 2) := by decide +kernel
theorem dX11_shadow_64 : decode cX11_shadow 64 = .ok (.iload_n 1, 1) := by decide +kernel
theorem dX11_shadow_65 : decode cX11_shadow 65 = .ok (.invokevirtual 178, 3) := by decide +kernel
theorem dX11_shadow_68 : decode cX11_shadow 68 = .ok (.ifCond .eq 28, 3) := by decide +kernel
theorem dX11_shadow_71 : decode cX11_shadow 71 = .ok (.aload_n 0, 1) := by decide +kernel
theorem dX11_shadow_72 : decode cX11_shadow 72 = .ok (.iload 4, 2) := by decide +kernel
theorem dX11_shadow_74 : decode cX11_shadow 74 = .ok (.iload_n 1, 1) := by decide +kernel
theorem dX11_shadow_75 : decode cX11_shadow 75 = .ok (.iload_n 2, 1) := by decide +kernel
theorem dX11_shadow_76 : decode cX11_shadow 76 = .ok (.invokevirtual 196, 3) := by decide +kernel
theorem dX11_shadow_79 : decode cX11_shadow 79 = .ok (.ifCond .eq 17, 3) := by decide +kernel
theorem dX11_shadow_82 : decode cX11_shadow 82 = .ok (.aload_n 0, 1) := by decide +kernel
theorem dX11_shadow_83 : decode cX11_shadow 83 = .ok (.iload 4, 2) := by decide +kernel
theorem dX11_shadow_85 : decode cX11_shadow 85 = .ok (.iload_n 1, 1) := by decide +kernel
theorem dX11_shadow_86 : decode cX11_shadow 86 = .ok (.invokevirtual 212, 3) := by decide +kernel
theorem dX11_shadow_89 : decode cX11_shadow 89 = .ok (.ifCond .eq 7, 3) := by decide +kernel
theorem dX11_shadow_92 : decode cX11_shadow 92 = .ok (.iconst 1, 1) := by decide +kernel
theorem dX11_shadow_93 : decode cX11_shadow 93 = .ok (.goto 4, 3) := by decide +kernel
theorem dX11_shadow_96 : decode cX11_shadow 96 = .ok (.iconst 0, 1) := by decide +kernel
theorem dX11_shadow_97 : decode cX11_shadow 97 = .ok (.istore 5, 2) := by decide +kernel
theorem dX11_shadow_99 : decode cX11_shadow 99 = .ok (.iload 5, 2) := by decide +kernel
theorem dX11_shadow_101 : decode cX11_shadow 101 = .ok (.ifCond .eq 22, 3) := by decide +kernel
theorem dX11_shadow_104 : decode cX11_shadow 104 = .ok (.iload_n 3, 1) := by decide +kernel
theorem dX11_shadow_105 : decode cX11_shadow 105 = .ok (.ifCond .lt 13, 3) := by decide +kernel
theorem dX11_shadow_108 : decode cX11_shadow 108 = .ok (.aload_n 0, 1) := by decide +kernel
theorem dX11_shadow_109 : decode cX11_shadow 109 = .ok (.iload 4, 2) := by decide +kernel
theorem dX11_shadow_111 : decode cX11_shadow 111 = .ok (.iload_n 3, 1) := by decide +kernel
theorem dX11_shadow_112 : decode cX11_shadow 112 = .ok (.invokevirtual 178, 3) := by decide +kernel
theorem dX11_shadow_115 : decode cX11_shadow 115 = .ok (.ifCond .eq 8, 3) := by decide +kernel
theorem dX11_shadow_118 : decode cX11_shadow 118 = .ok (.iload 4, 2) := by decide +kernel
theorem dX11_shadow_120 : decode cX11_shadow 120 = .ok (.goto 4, 3) := by decide +kernel
theorem dX11_shadow_123 : decode cX11_shadow 123 = .ok (.iload_n 3, 1) := by decide +kernel
theorem dX11_shadow_124 : decode cX11_shadow 124 = .ok (.istore_n 3, 1) := by decide +kernel
theorem dX11_shadow_125 : decode cX11_shadow 125 = .ok (.iinc 4 1, 3) := by decide +kernel
theorem dX11_shadow_128 : decode cX11_shadow 128 = .ok (.goto (-100), 3) := by decide +kernel
theorem dX11_shadow_131 : decode cX11_shadow 131 = .ok (.iload_n 3, 1) := by decide +kernel
theorem dX11_shadow_132 : decode cX11_shadow 132 = .ok (.ireturn, 1) := by decide +kernel
theorem dX11_letterCount_0 : decode cX11_letterCount 0 = .ok (.aload_n 0, 1) := by decide +kernel
theorem dX11_letterCount_1 : decode cX11_letterCount 1 = .ok (.iconst 1, 1) := by decide +kernel
theorem dX11_letterCount_2 : decode cX11_letterCount 2 = .ok (.iload_n 1, 1) := by decide +kernel
theorem dX11_letterCount_3 : decode cX11_letterCount 3 = .ok (.bipush 97, 2) := by decide +kernel
theorem dX11_letterCount_5 : decode cX11_letterCount 5 = .ok (.if_icmp .lt 9, 3) := by decide +kernel
theorem dX11_letterCount_8 : decode cX11_letterCount 8 = .ok (.iload_n 1, 1) := by decide +kernel
theorem dX11_letterCount_9 : decode cX11_letterCount 9 = .ok (.bipush 122, 2) := by decide +kernel
theorem dX11_letterCount_11 : decode cX11_letterCount 11 = .ok (.if_icmp .le 7, 3) := by decide +kernel
theorem dX11_letterCount_14 : decode cX11_letterCount 14 = .ok (.iconst 1, 1) := by decide +kernel
theorem dX11_letterCount_15 : decode cX11_letterCount 15 = .ok (.goto 4, 3) := by decide +kernel
theorem dX11_letterCount_18 : decode cX11_letterCount 18 = .ok (.iconst 0, 1) := by decide +kernel
theorem dX11_letterCount_19 : decode cX11_letterCount 19 = .ok (.invokevirtual 111, 3) := by decide +kernel
theorem dX11_letterCount_22 : decode cX11_letterCount 22 = .ok (.ifCond .eq 5, 3) := by decide +kernel
theorem dX11_letterCount_25 : decode cX11_letterCount 25 = .ok (.iconst 0, 1) := by decide +kernel
theorem dX11_letterCount_26 : decode cX11_letterCount 26 = .ok (.ireturn, 1) := by decide +kernel
theorem dX11_letterCount_27 : decode cX11_letterCount 27 = .ok (.iconst 0, 1) := by decide +kernel
theorem dX11_letterCount_28 : decode cX11_letterCount 28 = .ok (.istore_n 3, 1) := by decide +kernel
theorem dX11_letterCount_29 : decode cX11_letterCount 29 = .ok (.iconst 0, 1) := by decide +kernel
theorem dX11_letterCount_30 : decode cX11_letterCount 30 = .ok (.istore 4, 2) := by decide +kernel
theorem dX11_letterCount_32 : decode cX11_letterCount 32 = .ok (.iload 4, 2) := by decide +kernel
theorem dX11_letterCount_34 : decode cX11_letterCount 34 = .ok (.aload_n 0, 1) := by decide +kernel
theorem dX11_letterCount_35 : decode cX11_letterCount 35 = .ok (.getfield 9, 3) := by decide +kernel
theorem dX11_letterCount_38 : decode cX11_letterCount 38 = .ok (.iconst 0, 1) := by decide +kernel
theorem dX11_letterCount_39 : decode cX11_letterCount 39 = .ok (.iaload, 1) := by decide +kernel
theorem dX11_letterCount_40 : decode cX11_letterCount 40 = .ok (.if_icmp .ge 51, 3) := by decide +kernel
theorem dX11_letterCount_43 : decode cX11_letterCount 43 = .ok (.iconst 0, 1) := by decide +kernel
theorem dX11_letterCount_44 : decode cX11_letterCount 44 = .ok (.istore 5, 2) := by decide +kernel
theorem dX11_letterCount_46 : decode cX11_letterCount 46 = .ok (.iload 5, 2) := by decide +kernel
theorem dX11_letterCount_48 : decode cX11_letterCount 48 = .ok (.aload_n 0, 1) := by decide +kernel
theorem dX11_letterCount_49 : decode cX11_letterCount 49 = .ok (.iload 4, 2) := by decide +kernel
theorem dX11_letterCount_51 : decode cX11_letterCount 51 = .ok (.iload_n 2, 1) := by decide +kernel
theorem dX11_letterCount_52 : decode cX11_letterCount 52 = .ok (.invokevirtual 185, 3) := by decide +kernel
theorem dX11_letterCount_55 : decode cX11_letterCount 55 = .ok (.if_icmp .ge 30, 3) := by decide +kernel
theorem dX11_letterCount_58 : decode cX11_letterCount 58 = .ok (.iload_n 3, 1) := by decide +kernel
theorem dX11_letterCount_59 : decode cX11_letterCount 59 = .ok (.aload_n 0, 1) := by decide +kernel
theorem dX11_letterCount_60 : decode cX11_letterCount 60 = .ok (.iload 4, 2) := by decide +kernel
theorem dX11_letterCount_62 : decode cX11_letterCount 62 = .ok (.iload_n 2, 1) := by decide +kernel
theorem dX11_letterCount_63 : decode cX11_letterCount 63 = .ok (.iload 5, 2) := by decide +kernel
theorem dX11_letterCount_65 : decode cX11_letterCount 65 = .ok (.invokevirtual 189, 3) := by decide +kernel
theorem dX11_letterCount_68 : decode cX11_letterCount 68 = .ok (.iload_n 1, 1) := by decide +kernel
theorem dX11_letterCount_69 : decode cX11_letterCount 69 = .ok (.if_icmp .ne 7, 3) := by decide +kernel
theorem dX11_letterCount_72 : decode cX11_letterCount 72 = .ok (.iconst 1, 1) := by decide +kernel
theorem dX11_letterCount_73 : decode cX11_letterCount 73 = .ok (.goto 4, 3) := by decide +kernel
theorem dX11_letterCount_76 : decode cX11_letterCount 76 = .ok (.iconst 0, 1) := by decide +kernel
theorem dX11_letterCount_77 : decode cX11_letterCount 77 = .ok (.iadd, 1) := by decide +kernel
theorem dX11_letterCount_78 : decode cX11_letterCount 78 = .ok (.istore_n 3, 1) := by decide +kernel
theorem dX11_letterCount_79 : decode cX11_letterCount 79 = .ok (.iinc 5 1, 3) := by decide +kernel
theorem dX11_letterCount_82 : decode cX11_letterCount 82 = .ok (.goto (-36), 3) := by decide +kernel
theorem dX11_letterCount_85 : decode cX11_letterCount 85 = .ok (.iinc 4 1, 3) := by decide +kernel
theorem dX11_letterCount_88 : decode cX11_letterCount 88 = .ok (.goto (-56), 3) := by decide +kernel
theorem dX11_letterCount_91 : decode cX11_letterCount 91 = .ok (.iload_n 3, 1) := by decide +kernel
theorem dX11_letterCount_92 : decode cX11_letterCount 92 = .ok (.ireturn, 1) := by decide +kernel
theorem dX11_saving_0 : decode cX11_saving 0 = .ok (.aload_n 0, 1) := by decide +kernel
theorem dX11_saving_1 : decode cX11_saving 1 = .ok (.iconst 1, 1) := by decide +kernel
theorem dX11_saving_2 : decode cX11_saving 2 = .ok (.iload_n 1, 1) := by decide +kernel
theorem dX11_saving_3 : decode cX11_saving 3 = .ok (.iconst (-1), 1) := by decide +kernel
theorem dX11_saving_4 : decode cX11_saving 4 = .ok (.iconst 2, 1) := by decide +kernel
theorem dX11_saving_5 : decode cX11_saving 5 = .ok (.invokestatic 107, 3) := by decide +kernel
theorem dX11_saving_8 : decode cX11_saving 8 = .ok (.ifCond .ne 7, 3) := by decide +kernel
theorem dX11_saving_11 : decode cX11_saving 11 = .ok (.iconst 1, 1) := by decide +kernel
theorem dX11_saving_12 : decode cX11_saving 12 = .ok (.goto 4, 3) := by decide +kernel
theorem dX11_saving_15 : decode cX11_saving 15 = .ok (.iconst 0, 1) := by decide +kernel
theorem dX11_saving_16 : decode cX11_saving 16 = .ok (.invokevirtual 111, 3) := by decide +kernel
theorem dX11_saving_19 : decode cX11_saving 19 = .ok (.ifCond .eq 5, 3) := by decide +kernel
theorem dX11_saving_22 : decode cX11_saving 22 = .ok (.iconst 0, 1) := by decide +kernel
theorem dX11_saving_23 : decode cX11_saving 23 = .ok (.ireturn, 1) := by decide +kernel
theorem dX11_saving_24 : decode cX11_saving 24 = .ok (.iconst 0, 1) := by decide +kernel
theorem dX11_saving_25 : decode cX11_saving 25 = .ok (.istore_n 2, 1) := by decide +kernel
theorem dX11_saving_26 : decode cX11_saving 26 = .ok (.iconst 0, 1) := by decide +kernel
theorem dX11_saving_27 : decode cX11_saving 27 = .ok (.istore_n 3, 1) := by decide +kernel
theorem dX11_saving_28 : decode cX11_saving 28 = .ok (.iload_n 3, 1) := by decide +kernel
theorem dX11_saving_29 : decode cX11_saving 29 = .ok (.aload_n 0, 1) := by decide +kernel
theorem dX11_saving_30 : decode cX11_saving 30 = .ok (.getfield 9, 3) := by decide +kernel
theorem dX11_saving_33 : decode cX11_saving 33 = .ok (.iconst 0, 1) := by decide +kernel
theorem dX11_saving_34 : decode cX11_saving 34 = .ok (.iaload, 1) := by decide +kernel
theorem dX11_saving_35 : decode cX11_saving 35 = .ok (.if_icmp .ge 70, 3) := by decide +kernel
theorem dX11_saving_38 : decode cX11_saving 38 = .ok (.iload_n 1, 1) := by decide +kernel
theorem dX11_saving_39 : decode cX11_saving 39 = .ok (.ifCond .lt 13, 3) := by decide +kernel
theorem dX11_saving_42 : decode cX11_saving 42 = .ok (.aload_n 0, 1) := by decide +kernel
theorem dX11_saving_43 : decode cX11_saving 43 = .ok (.iload_n 3, 1) := by decide +kernel
theorem dX11_saving_44 : decode cX11_saving 44 = .ok (.iconst 0, 1) := by decide +kernel
theorem dX11_saving_45 : decode cX11_saving 45 = .ok (.invokevirtual 99, 3) := by decide +kernel
theorem dX11_saving_48 : decode cX11_saving 48 = .ok (.iload_n 1, 1) := by decide +kernel
theorem dX11_saving_49 : decode cX11_saving 49 = .ok (.if_icmp .ne 7, 3) := by decide +kernel
theorem dX11_saving_52 : decode cX11_saving 52 = .ok (.iconst 1, 1) := by decide +kernel
theorem dX11_saving_53 : decode cX11_saving 53 = .ok (.goto 4, 3) := by decide +kernel
theorem dX11_saving_56 : decode cX11_saving 56 = .ok (.iconst 0, 1) := by decide +kernel
theorem dX11_saving_57 : decode cX11_saving 57 = .ok (.istore 4, 2) := by decide +kernel
theorem dX11_saving_59 : decode cX11_saving 59 = .ok (.iload_n 2, 1) := by decide +kernel
theorem dX11_saving_60 : decode cX11_saving 60 = .ok (.iload 4, 2) := by decide +kernel
theorem dX11_saving_62 : decode cX11_saving 62 = .ok (.ifCond .eq 34, 3) := by decide +kernel
theorem dX11_saving_65 : decode cX11_saving 65 = .ok (.aload_n 0, 1) := by decide +kernel
theorem dX11_saving_66 : decode cX11_saving 66 = .ok (.iload_n 3, 1) := by decide +kernel
theorem dX11_saving_67 : decode cX11_saving 67 = .ok (.iconst 1, 1) := by decide +kernel
theorem dX11_saving_68 : decode cX11_saving 68 = .ok (.invokevirtual 185, 3) := by decide +kernel
theorem dX11_saving_71 : decode cX11_saving 71 = .ok (.aload_n 0, 1) := by decide +kernel
theorem dX11_saving_72 : decode cX11_saving 72 = .ok (.iload_n 3, 1) := by decide +kernel
theorem dX11_saving_73 : decode cX11_saving 73 = .ok (.iconst 0, 1) := by decide +kernel
theorem dX11_saving_74 : decode cX11_saving 74 = .ok (.invokevirtual 185, 3) := by decide +kernel
theorem dX11_saving_77 : decode cX11_saving 77 = .ok (.isub, 1) := by decide +kernel
theorem dX11_saving_78 : decode cX11_saving 78 = .ok (.aload_n 0, 1) := by decide +kernel
theorem dX11_saving_79 : decode cX11_saving 79 = .ok (.iload_n 3, 1) := by decide +kernel
theorem dX11_saving_80 : decode cX11_saving 80 = .ok (.iconst 0, 1) := by decide +kernel
theorem dX11_saving_81 : decode cX11_saving 81 = .ok (.invokevirtual 99, 3) := by decide +kernel
theorem dX11_saving_84 : decode cX11_saving 84 = .ok (.ifCond .ne 7, 3) := by decide +kernel
theorem dX11_saving_87 : decode cX11_saving 87 = .ok (.iconst 1, 1) := by decide +kernel
theorem dX11_saving_88 : decode cX11_saving 88 = .ok (.goto 4, 3) := by decide +kernel
theorem dX11_saving_91 : decode cX11_saving 91 = .ok (.iconst 2, 1) := by decide +kernel
theorem dX11_saving_92 : decode cX11_saving 92 = .ok (.imul, 1) := by decide +kernel
theorem dX11_saving_93 : decode cX11_saving 93 = .ok (.goto 4, 3) := by decide +kernel
theorem dX11_saving_96 : decode cX11_saving 96 = .ok (.iconst 0, 1) := by decide +kernel
theorem dX11_saving_97 : decode cX11_saving 97 = .ok (.iadd, 1) := by decide +kernel
theorem dX11_saving_98 : decode cX11_saving 98 = .ok (.istore_n 2, 1) := by decide +kernel
theorem dX11_saving_99 : decode cX11_saving 99 = .ok (.iinc 3 1, 3) := by decide +kernel
theorem dX11_saving_102 : decode cX11_saving 102 = .ok (.goto (-74), 3) := by decide +kernel
theorem dX11_saving_105 : decode cX11_saving 105 = .ok (.iload_n 2, 1) := by decide +kernel
theorem dX11_saving_106 : decode cX11_saving 106 = .ok (.ireturn, 1) := by decide +kernel
theorem dX11_hasForms_0 : decode cX11_hasForms 0 = .ok (.iconst 1, 1) := by decide +kernel
theorem dX11_hasForms_1 : decode cX11_hasForms 1 = .ok (.istore_n 3, 1) := by decide +kernel
theorem dX11_hasForms_2 : decode cX11_hasForms 2 = .ok (.iconst 3, 1) := by decide +kernel
theorem dX11_hasForms_3 : decode cX11_hasForms 3 = .ok (.istore 4, 2) := by decide +kernel
theorem dX11_hasForms_5 : decode cX11_hasForms 5 = .ok (.iload 4, 2) := by decide +kernel
theorem dX11_hasForms_7 : decode cX11_hasForms 7 = .ok (.bipush 23, 2) := by decide +kernel
theorem dX11_hasForms_9 : decode cX11_hasForms 9 = .ok (.if_icmp .ge 38, 3) := by decide +kernel
theorem dX11_hasForms_12 : decode cX11_hasForms 12 = .ok (.iload_n 3, 1) := by decide +kernel
theorem dX11_hasForms_13 : decode cX11_hasForms 13 = .ok (.aload_n 0, 1) := by decide +kernel
theorem dX11_hasForms_14 : decode cX11_hasForms 14 = .ok (.getfield 9, 3) := by decide +kernel
theorem dX11_hasForms_17 : decode cX11_hasForms 17 = .ok (.iload_n 1, 1) := by decide +kernel
theorem dX11_hasForms_18 : decode cX11_hasForms 18 = .ok (.iload 4, 2) := by decide +kernel
theorem dX11_hasForms_20 : decode cX11_hasForms 20 = .ok (.iadd, 1) := by decide +kernel
theorem dX11_hasForms_21 : decode cX11_hasForms 21 = .ok (.iaload, 1) := by decide +kernel
theorem dX11_hasForms_22 : decode cX11_hasForms 22 = .ok (.aload_n 0, 1) := by decide +kernel
theorem dX11_hasForms_23 : decode cX11_hasForms 23 = .ok (.getfield 9, 3) := by decide +kernel
theorem dX11_hasForms_26 : decode cX11_hasForms 26 = .ok (.iload_n 2, 1) := by decide +kernel
theorem dX11_hasForms_27 : decode cX11_hasForms 27 = .ok (.iload 4, 2) := by decide +kernel
theorem dX11_hasForms_29 : decode cX11_hasForms 29 = .ok (.iadd, 1) := by decide +kernel
theorem dX11_hasForms_30 : decode cX11_hasForms 30 = .ok (.iaload, 1) := by decide +kernel
theorem dX11_hasForms_31 : decode cX11_hasForms 31 = .ok (.if_icmp .ne 7, 3) := by decide +kernel
theorem dX11_hasForms_34 : decode cX11_hasForms 34 = .ok (.iconst 1, 1) := by decide +kernel
theorem dX11_hasForms_35 : decode cX11_hasForms 35 = .ok (.goto 4, 3) := by decide +kernel
theorem dX11_hasForms_38 : decode cX11_hasForms 38 = .ok (.iconst 0, 1) := by decide +kernel
theorem dX11_hasForms_39 : decode cX11_hasForms 39 = .ok (.iand, 1) := by decide +kernel
theorem dX11_hasForms_40 : decode cX11_hasForms 40 = .ok (.istore_n 3, 1) := by decide +kernel
theorem dX11_hasForms_41 : decode cX11_hasForms 41 = .ok (.iinc 4 1, 3) := by decide +kernel
theorem dX11_hasForms_44 : decode cX11_hasForms 44 = .ok (.goto (-39), 3) := by decide +kernel
theorem dX11_hasForms_47 : decode cX11_hasForms 47 = .ok (.iload_n 3, 1) := by decide +kernel
theorem dX11_hasForms_48 : decode cX11_hasForms 48 = .ok (.ireturn, 1) := by decide +kernel
theorem dX11_ruleLike_0 : decode cX11_ruleLike 0 = .ok (.iconst (-1), 1) := by decide +kernel
theorem dX11_ruleLike_1 : decode cX11_ruleLike 1 = .ok (.istore_n 2, 1) := by decide +kernel
theorem dX11_ruleLike_2 : decode cX11_ruleLike 2 = .ok (.aload_n 0, 1) := by decide +kernel
theorem dX11_ruleLike_3 : decode cX11_ruleLike 3 = .ok (.getfield 9, 3) := by decide +kernel
theorem dX11_ruleLike_6 : decode cX11_ruleLike 6 = .ok (.iconst 0, 1) := by decide +kernel
theorem dX11_ruleLike_7 : decode cX11_ruleLike 7 = .ok (.iaload, 1) := by decide +kernel
theorem dX11_ruleLike_8 : decode cX11_ruleLike 8 = .ok (.iconst 1, 1) := by decide +kernel
theorem dX11_ruleLike_9 : decode cX11_ruleLike 9 = .ok (.isub, 1) := by decide +kernel
theorem dX11_ruleLike_10 : decode cX11_ruleLike 10 = .ok (.istore_n 3, 1) := by decide +kernel
theorem dX11_ruleLike_11 : decode cX11_ruleLike 11 = .ok (.iload_n 3, 1) := by decide +kernel
theorem dX11_ruleLike_12 : decode cX11_ruleLike 12 = .ok (.ifCond .lt 45, 3) := by decide +kernel
theorem dX11_ruleLike_15 : decode cX11_ruleLike 15 = .ok (.aload_n 0, 1) := by decide +kernel
theorem dX11_ruleLike_16 : decode cX11_ruleLike 16 = .ok (.iload_n 3, 1) := by decide +kernel
theorem dX11_ruleLike_17 : decode cX11_ruleLike 17 = .ok (.iconst 0, 1) := by decide +kernel
theorem dX11_ruleLike_18 : decode cX11_ruleLike 18 = .ok (.invokevirtual 99, 3) := by decide +kernel
theorem dX11_ruleLike_21 : decode cX11_ruleLike 21 = .ok (.ifCond .ne 28, 3) := by decide +kernel
theorem dX11_ruleLike_24 : decode cX11_ruleLike 24 = .ok (.aload_n 0, 1) := by decide +kernel
theorem dX11_ruleLike_25 : decode cX11_ruleLike 25 = .ok (.iconst 5, 1) := by decide +kernel
theorem dX11_ruleLike_26 : decode cX11_ruleLike 26 = .ok (.iload_n 3, 1) := by decide +kernel
theorem dX11_ruleLike_27 : decode cX11_ruleLike 27 = .ok (.bipush 23, 2) := by decide +kernel
theorem dX11_ruleLike_29 : decode cX11_ruleLike 29 = .ok (.imul, 1) := by decide +kernel
theorem dX11_ruleLike_30 : decode cX11_ruleLike 30 = .ok (.iadd, 1) := by decide +kernel
theorem dX11_ruleLike_31 : decode cX11_ruleLike 31 = .ok (.sipush 557, 3) := by decide +kernel
theorem dX11_ruleLike_34 : decode cX11_ruleLike 34 = .ok (.iload_n 1, 1) := by decide +kernel
theorem dX11_ruleLike_35 : decode cX11_ruleLike 35 = .ok (.bipush 23, 2) := by decide +kernel
theorem dX11_ruleLike_37 : decode cX11_ruleLike 37 = .ok (.imul, 1) := by decide +kernel
theorem dX11_ruleLike_38 : decode cX11_ruleLike 38 = .ok (.iadd, 1) := by decide +kernel
theorem dX11_ruleLike_39 : decode cX11_ruleLike 39 = .ok (.invokevirtual 215, 3) := by decide +kernel
theorem dX11_ruleLike_42 : decode cX11_ruleLike 42 = .ok (.ifCond .eq 7, 3) := by decide +kernel
theorem dX11_ruleLike_45 : decode cX11_ruleLike 45 = .ok (.iload_n 3, 1) := by decide +kernel
theorem dX11_ruleLike_46 : decode cX11_ruleLike 46 = .ok (.goto 4, 3) := by decide +kernel
theorem dX11_ruleLike_49 : decode cX11_ruleLike 49 = .ok (.iload_n 2, 1) := by decide +kernel
theorem dX11_ruleLike_50 : decode cX11_ruleLike 50 = .ok (.istore_n 2, 1) := by decide +kernel
theorem dX11_ruleLike_51 : decode cX11_ruleLike 51 = .ok (.iinc 3 (-1), 3) := by decide +kernel
theorem dX11_ruleLike_54 : decode cX11_ruleLike 54 = .ok (.goto (-43), 3) := by decide +kernel
theorem dX11_ruleLike_57 : decode cX11_ruleLike 57 = .ok (.iload_n 2, 1) := by decide +kernel
theorem dX11_ruleLike_58 : decode cX11_ruleLike 58 = .ok (.ireturn, 1) := by decide +kernel
theorem dX11_learnPair_0 : decode cX11_learnPair 0 = .ok (.iconst 0, 1) := by decide +kernel
theorem dX11_learnPair_1 : decode cX11_learnPair 1 = .ok (.istore_n 3, 1) := by decide +kernel
theorem dX11_learnPair_2 : decode cX11_learnPair 2 = .ok (.iload_n 3, 1) := by decide +kernel
theorem dX11_learnPair_3 : decode cX11_learnPair 3 = .ok (.aload_n 0, 1) := by decide +kernel
theorem dX11_learnPair_4 : decode cX11_learnPair 4 = .ok (.getfield 9, 3) := by decide +kernel
theorem dX11_learnPair_7 : decode cX11_learnPair 7 = .ok (.iconst 1, 1) := by decide +kernel
theorem dX11_learnPair_8 : decode cX11_learnPair 8 = .ok (.iaload, 1) := by decide +kernel
theorem dX11_learnPair_9 : decode cX11_learnPair 9 = .ok (.if_icmp .ge 19, 3) := by decide +kernel
theorem dX11_learnPair_12 : decode cX11_learnPair 12 = .ok (.aload_n 0, 1) := by decide +kernel
theorem dX11_learnPair_13 : decode cX11_learnPair 13 = .ok (.iload_n 3, 1) := by decide +kernel
theorem dX11_learnPair_14 : decode cX11_learnPair 14 = .ok (.iload_n 1, 1) := by decide +kernel
theorem dX11_learnPair_15 : decode cX11_learnPair 15 = .ok (.iload_n 2, 1) := by decide +kernel
theorem dX11_learnPair_16 : decode cX11_learnPair 16 = .ok (.invokevirtual 218, 3) := by decide +kernel
theorem dX11_learnPair_19 : decode cX11_learnPair 19 = .ok (.ifCond .ne 9, 3) := by decide +kernel
theorem dX11_learnPair_22 : decode cX11_learnPair 22 = .ok (.iinc 3 1, 3) := by decide +kernel
theorem dX11_learnPair_25 : decode cX11_learnPair 25 = .ok (.goto (-23), 3) := by decide +kernel
theorem dX11_learnPair_28 : decode cX11_learnPair 28 = .ok (.iload_n 3, 1) := by decide +kernel
theorem dX11_learnPair_29 : decode cX11_learnPair 29 = .ok (.bipush 30, 2) := by decide +kernel
theorem dX11_learnPair_31 : decode cX11_learnPair 31 = .ok (.if_icmp .ne 5, 3) := by decide +kernel
theorem dX11_learnPair_34 : decode cX11_learnPair 34 = .ok (.iconst 0, 1) := by decide +kernel
theorem dX11_learnPair_35 : decode cX11_learnPair 35 = .ok (.ireturn, 1) := by decide +kernel
theorem dX11_learnPair_36 : decode cX11_learnPair 36 = .ok (.sipush 557, 3) := by decide +kernel
theorem dX11_learnPair_39 : decode cX11_learnPair 39 = .ok (.iload_n 3, 1) := by decide +kernel
theorem dX11_learnPair_40 : decode cX11_learnPair 40 = .ok (.bipush 23, 2) := by decide +kernel
theorem dX11_learnPair_42 : decode cX11_learnPair 42 = .ok (.imul, 1) := by decide +kernel
theorem dX11_learnPair_43 : decode cX11_learnPair 43 = .ok (.iadd, 1) := by decide +kernel
theorem dX11_learnPair_44 : decode cX11_learnPair 44 = .ok (.istore 4, 2) := by decide +kernel
theorem dX11_learnPair_46 : decode cX11_learnPair 46 = .ok (.iload_n 3, 1) := by decide +kernel
theorem dX11_learnPair_47 : decode cX11_learnPair 47 = .ok (.aload_n 0, 1) := by decide +kernel
theorem dX11_learnPair_48 : decode cX11_learnPair 48 = .ok (.getfield 9, 3) := by decide +kernel
theorem dX11_learnPair_51 : decode cX11_learnPair 51 = .ok (.iconst 1, 1) := by decide +kernel
theorem dX11_learnPair_52 : decode cX11_learnPair 52 = .ok (.iaload, 1) := by decide +kernel
theorem dX11_learnPair_53 : decode cX11_learnPair 53 = .ok (.if_icmp .ne 31, 3) := by decide +kernel
theorem dX11_learnPair_56 : decode cX11_learnPair 56 = .ok (.aload_n 0, 1) := by decide +kernel
theorem dX11_learnPair_57 : decode cX11_learnPair 57 = .ok (.iload 4, 2) := by decide +kernel
theorem dX11_learnPair_59 : decode cX11_learnPair 59 = .ok (.iload_n 1, 1) := by decide +kernel
theorem dX11_learnPair_60 : decode cX11_learnPair 60 = .ok (.iload_n 2, 1) := by decide +kernel
theorem dX11_learnPair_61 : decode cX11_learnPair 61 = .ok (.invokevirtual 167, 3) := by decide +kernel
theorem dX11_learnPair_64 : decode cX11_learnPair 64 = .ok (.aload_n 0, 1) := by decide +kernel
theorem dX11_learnPair_65 : decode cX11_learnPair 65 = .ok (.getfield 9, 3) := by decide +kernel
theorem dX11_learnPair_68 : decode cX11_learnPair 68 = .ok (.iload 4, 2) := by decide +kernel
theorem dX11_learnPair_70 : decode cX11_learnPair 70 = .ok (.iconst 0, 1) := by decide +kernel
theorem dX11_learnPair_71 : decode cX11_learnPair 71 = .ok (.iadd, 1) := by decide +kernel
theorem dX11_learnPair_72 : decode cX11_learnPair 72 = .ok (.iconst 0, 1) := by decide +kernel
theorem dX11_learnPair_73 : decode cX11_learnPair 73 = .ok (.iastore, 1) := by decide +kernel
theorem dX11_learnPair_74 : decode cX11_learnPair 74 = .ok (.aload_n 0, 1) := by decide +kernel
theorem dX11_learnPair_75 : decode cX11_learnPair 75 = .ok (.getfield 9, 3) := by decide +kernel
theorem dX11_learnPair_78 : decode cX11_learnPair 78 = .ok (.iconst 1, 1) := by decide +kernel
theorem dX11_learnPair_79 : decode cX11_learnPair 79 = .ok (.dup2, 1) := by decide +kernel
theorem dX11_learnPair_80 : decode cX11_learnPair 80 = .ok (.iaload, 1) := by decide +kernel
theorem dX11_learnPair_81 : decode cX11_learnPair 81 = .ok (.iconst 1, 1) := by decide +kernel
theorem dX11_learnPair_82 : decode cX11_learnPair 82 = .ok (.iadd, 1) := by decide +kernel
theorem dX11_learnPair_83 : decode cX11_learnPair 83 = .ok (.iastore, 1) := by decide +kernel
theorem dX11_learnPair_84 : decode cX11_learnPair 84 = .ok (.aload_n 0, 1) := by decide +kernel
theorem dX11_learnPair_85 : decode cX11_learnPair 85 = .ok (.getfield 9, 3) := by decide +kernel
theorem dX11_learnPair_88 : decode cX11_learnPair 88 = .ok (.iload 4, 2) := by decide +kernel
theorem dX11_learnPair_90 : decode cX11_learnPair 90 = .ok (.iconst 0, 1) := by decide +kernel
theorem dX11_learnPair_91 : decode cX11_learnPair 91 = .ok (.iadd, 1) := by decide +kernel
theorem dX11_learnPair_92 : decode cX11_learnPair 92 = .ok (.dup2, 1) := by decide +kernel
theorem dX11_learnPair_93 : decode cX11_learnPair 93 = .ok (.iaload, 1) := by decide +kernel
theorem dX11_learnPair_94 : decode cX11_learnPair 94 = .ok (.iconst 1, 1) := by decide +kernel
theorem dX11_learnPair_95 : decode cX11_learnPair 95 = .ok (.iadd, 1) := by decide +kernel
theorem dX11_learnPair_96 : decode cX11_learnPair 96 = .ok (.iastore, 1) := by decide +kernel
theorem dX11_learnPair_97 : decode cX11_learnPair 97 = .ok (.aload_n 0, 1) := by decide +kernel
theorem dX11_learnPair_98 : decode cX11_learnPair 98 = .ok (.getfield 9, 3) := by decide +kernel
theorem dX11_learnPair_101 : decode cX11_learnPair 101 = .ok (.iload 4, 2) := by decide +kernel
theorem dX11_learnPair_103 : decode cX11_learnPair 103 = .ok (.iconst 0, 1) := by decide +kernel
theorem dX11_learnPair_104 : decode cX11_learnPair 104 = .ok (.iadd, 1) := by decide +kernel
theorem dX11_learnPair_105 : decode cX11_learnPair 105 = .ok (.iaload, 1) := by decide +kernel
theorem dX11_learnPair_106 : decode cX11_learnPair 106 = .ok (.aload_n 0, 1) := by decide +kernel
theorem dX11_learnPair_107 : decode cX11_learnPair 107 = .ok (.getfield 9, 3) := by decide +kernel
theorem dX11_learnPair_110 : decode cX11_learnPair 110 = .ok (.iconst 3, 1) := by decide +kernel
theorem dX11_learnPair_111 : decode cX11_learnPair 111 = .ok (.iaload, 1) := by decide +kernel
theorem dX11_learnPair_112 : decode cX11_learnPair 112 = .ok (.if_icmp .ne 22, 3) := by decide +kernel
theorem dX11_learnPair_115 : decode cX11_learnPair 115 = .ok (.aload_n 0, 1) := by decide +kernel
theorem dX11_learnPair_116 : decode cX11_learnPair 116 = .ok (.iload_n 3, 1) := by decide +kernel
theorem dX11_learnPair_117 : decode cX11_learnPair 117 = .ok (.invokevirtual 221, 3) := by decide +kernel
theorem dX11_learnPair_120 : decode cX11_learnPair 120 = .ok (.ifCond .ge 14, 3) := by decide +kernel
theorem dX11_learnPair_123 : decode cX11_learnPair 123 = .ok (.aload_n 0, 1) := by decide +kernel
theorem dX11_learnPair_124 : decode cX11_learnPair 124 = .ok (.getfield 9, 3) := by decide +kernel
theorem dX11_learnPair_127 : decode cX11_learnPair 127 = .ok (.iconst 0, 1) := by decide +kernel
theorem dX11_learnPair_128 : decode cX11_learnPair 128 = .ok (.iaload, 1) := by decide +kernel
theorem dX11_learnPair_129 : decode cX11_learnPair 129 = .ok (.bipush 24, 2) := by decide +kernel
theorem dX11_learnPair_131 : decode cX11_learnPair 131 = .ok (.if_icmp .ne 5, 3) := by decide +kernel
theorem dX11_learnPair_134 : decode cX11_learnPair 134 = .ok (.iconst 0, 1) := by decide +kernel
theorem dX11_learnPair_135 : decode cX11_learnPair 135 = .ok (.ireturn, 1) := by decide +kernel
theorem dX11_learnPair_136 : decode cX11_learnPair 136 = .ok (.iconst 5, 1) := by decide +kernel
theorem dX11_learnPair_137 : decode cX11_learnPair 137 = .ok (.aload_n 0, 1) := by decide +kernel
theorem dX11_learnPair_138 : decode cX11_learnPair 138 = .ok (.getfield 9, 3) := by decide +kernel
theorem dX11_learnPair_141 : decode cX11_learnPair 141 = .ok (.iconst 0, 1) := by decide +kernel
theorem dX11_learnPair_142 : decode cX11_learnPair 142 = .ok (.iaload, 1) := by decide +kernel
theorem dX11_learnPair_143 : decode cX11_learnPair 143 = .ok (.bipush 23, 2) := by decide +kernel
theorem dX11_learnPair_145 : decode cX11_learnPair 145 = .ok (.imul, 1) := by decide +kernel
theorem dX11_learnPair_146 : decode cX11_learnPair 146 = .ok (.iadd, 1) := by decide +kernel
theorem dX11_learnPair_147 : decode cX11_learnPair 147 = .ok (.istore 5, 2) := by decide +kernel
theorem dX11_learnPair_149 : decode cX11_learnPair 149 = .ok (.iconst 3, 1) := by decide +kernel
theorem dX11_learnPair_150 : decode cX11_learnPair 150 = .ok (.istore 6, 2) := by decide +kernel
theorem dX11_learnPair_152 : decode cX11_learnPair 152 = .ok (.iload 6, 2) := by decide +kernel
theorem dX11_learnPair_154 : decode cX11_learnPair 154 = .ok (.bipush 23, 2) := by decide +kernel
theorem dX11_learnPair_156 : decode cX11_learnPair 156 = .ok (.if_icmp .ge 29, 3) := by decide +kernel
theorem dX11_learnPair_159 : decode cX11_learnPair 159 = .ok (.aload_n 0, 1) := by decide +kernel
theorem dX11_learnPair_160 : decode cX11_learnPair 160 = .ok (.getfield 9, 3) := by decide +kernel
theorem dX11_learnPair_163 : decode cX11_learnPair 163 = .ok (.iload 5, 2) := by decide +kernel
theorem dX11_learnPair_165 : decode cX11_learnPair 165 = .ok (.iload 6, 2) := by decide +kernel
theorem dX11_learnPair_167 : decode cX11_learnPair 167 = .ok (.iadd, 1) := by decide +kernel
theorem dX11_learnPair_168 : decode cX11_learnPair 168 = .ok (.aload_n 0, 1) := by decide +kernel
theorem dX11_learnPair_169 : decode cX11_learnPair 169 = .ok (.getfield 9, 3) := by decide +kernel
theorem dX11_learnPair_172 : decode cX11_learnPair 172 = .ok (.iload 4, 2) := by decide +kernel
theorem dX11_learnPair_174 : decode cX11_learnPair 174 = .ok (.iload 6, 2) := by decide +kernel
theorem dX11_learnPair_176 : decode cX11_learnPair 176 = .ok (.iadd, 1) := by decide +kernel
theorem dX11_learnPair_177 : decode cX11_learnPair 177 = .ok (.iaload, 1) := by decide +kernel
theorem dX11_learnPair_178 : decode cX11_learnPair 178 = .ok (.iastore, 1) := by decide +kernel
theorem dX11_learnPair_179 : decode cX11_learnPair 179 = .ok (.iinc 6 1, 3) := by decide +kernel
theorem dX11_learnPair_182 : decode cX11_learnPair 182 = .ok (.goto (-30), 3) := by decide +kernel
theorem dX11_learnPair_185 : decode cX11_learnPair 185 = .ok (.aload_n 0, 1) := by decide +kernel
theorem dX11_learnPair_186 : decode cX11_learnPair 186 = .ok (.getfield 9, 3) := by decide +kernel
theorem dX11_learnPair_189 : decode cX11_learnPair 189 = .ok (.iload 5, 2) := by decide +kernel
theorem dX11_learnPair_191 : decode cX11_learnPair 191 = .ok (.iconst 0, 1) := by decide +kernel
theorem dX11_learnPair_192 : decode cX11_learnPair 192 = .ok (.iadd, 1) := by decide +kernel
theorem dX11_learnPair_193 : decode cX11_learnPair 193 = .ok (.iconst 0, 1) := by decide +kernel
theorem dX11_learnPair_194 : decode cX11_learnPair 194 = .ok (.iastore, 1) := by decide +kernel
theorem dX11_learnPair_195 : decode cX11_learnPair 195 = .ok (.aload_n 0, 1) := by decide +kernel
theorem dX11_learnPair_196 : decode cX11_learnPair 196 = .ok (.getfield 9, 3) := by decide +kernel
theorem dX11_learnPair_199 : decode cX11_learnPair 199 = .ok (.iload 5, 2) := by decide +kernel
theorem dX11_learnPair_201 : decode cX11_learnPair 201 = .ok (.iconst 1, 1) := by decide +kernel
theorem dX11_learnPair_202 : decode cX11_learnPair 202 = .ok (.iadd, 1) := by decide +kernel
theorem dX11_learnPair_203 : decode cX11_learnPair 203 = .ok (.bipush 10, 2) := by decide +kernel
theorem dX11_learnPair_205 : decode cX11_learnPair 205 = .ok (.aload_n 0, 1) := by decide +kernel
theorem dX11_learnPair_206 : decode cX11_learnPair 206 = .ok (.getfield 9, 3) := by decide +kernel
theorem dX11_learnPair_209 : decode cX11_learnPair 209 = .ok (.iconst 3, 1) := by decide +kernel
theorem dX11_learnPair_210 : decode cX11_learnPair 210 = .ok (.iaload, 1) := by decide +kernel
theorem dX11_learnPair_211 : decode cX11_learnPair 211 = .ok (.imul, 1) := by decide +kernel
theorem dX11_learnPair_212 : decode cX11_learnPair 212 = .ok (.iastore, 1) := by decide +kernel
theorem dX11_learnPair_213 : decode cX11_learnPair 213 = .ok (.aload_n 0, 1) := by decide +kernel
theorem dX11_learnPair_214 : decode cX11_learnPair 214 = .ok (.getfield 9, 3) := by decide +kernel
theorem dX11_learnPair_217 : decode cX11_learnPair 217 = .ok (.iload 5, 2) := by decide +kernel
theorem dX11_learnPair_219 : decode cX11_learnPair 219 = .ok (.iconst 2, 1) := by decide +kernel
theorem dX11_learnPair_220 : decode cX11_learnPair 220 = .ok (.iadd, 1) := by decide +kernel
theorem dX11_learnPair_221 : decode cX11_learnPair 221 = .ok (.iconst 0, 1) := by decide +kernel
theorem dX11_learnPair_222 : decode cX11_learnPair 222 = .ok (.iastore, 1) := by decide +kernel
theorem dX11_learnPair_223 : decode cX11_learnPair 223 = .ok (.aload_n 0, 1) := by decide +kernel
theorem dX11_learnPair_224 : decode cX11_learnPair 224 = .ok (.getfield 9, 3) := by decide +kernel
theorem dX11_learnPair_227 : decode cX11_learnPair 227 = .ok (.iconst 0, 1) := by decide +kernel
theorem dX11_learnPair_228 : decode cX11_learnPair 228 = .ok (.dup2, 1) := by decide +kernel
theorem dX11_learnPair_229 : decode cX11_learnPair 229 = .ok (.iaload, 1) := by decide +kernel
theorem dX11_learnPair_230 : decode cX11_learnPair 230 = .ok (.iconst 1, 1) := by decide +kernel
theorem dX11_learnPair_231 : decode cX11_learnPair 231 = .ok (.iadd, 1) := by decide +kernel
theorem dX11_learnPair_232 : decode cX11_learnPair 232 = .ok (.iastore, 1) := by decide +kernel
theorem dX11_learnPair_233 : decode cX11_learnPair 233 = .ok (.iconst 1, 1) := by decide +kernel
theorem dX11_learnPair_234 : decode cX11_learnPair 234 = .ok (.ireturn, 1) := by decide +kernel
theorem dX11_isWordAt_0 : decode cX11_isWordAt 0 = .ok (.iload_n 2, 1) := by decide +kernel
theorem dX11_isWordAt_1 : decode cX11_isWordAt 1 = .ok (.aload_n 0, 1) := by decide +kernel
theorem dX11_isWordAt_2 : decode cX11_isWordAt 2 = .ok (.getfield 32, 3) := by decide +kernel
theorem dX11_isWordAt_5 : decode cX11_isWordAt 5 = .ok (.iload_n 3, 1) := by decide +kernel
theorem dX11_isWordAt_6 : decode cX11_isWordAt 6 = .ok (.iaload, 1) := by decide +kernel
theorem dX11_isWordAt_7 : decode cX11_isWordAt 7 = .ok (.if_icmp .ne 7, 3) := by decide +kernel
theorem dX11_isWordAt_10 : decode cX11_isWordAt 10 = .ok (.iconst 1, 1) := by decide +kernel
theorem dX11_isWordAt_11 : decode cX11_isWordAt 11 = .ok (.goto 4, 3) := by decide +kernel
theorem dX11_isWordAt_14 : decode cX11_isWordAt 14 = .ok (.iconst 0, 1) := by decide +kernel
theorem dX11_isWordAt_15 : decode cX11_isWordAt 15 = .ok (.istore 4, 2) := by decide +kernel
theorem dX11_isWordAt_17 : decode cX11_isWordAt 17 = .ok (.iconst 0, 1) := by decide +kernel
theorem dX11_isWordAt_18 : decode cX11_isWordAt 18 = .ok (.istore 5, 2) := by decide +kernel
theorem dX11_isWordAt_20 : decode cX11_isWordAt 20 = .ok (.iload 4, 2) := by decide +kernel
theorem dX11_isWordAt_22 : decode cX11_isWordAt 22 = .ok (.ifCond .eq 48, 3) := by decide +kernel
theorem dX11_isWordAt_25 : decode cX11_isWordAt 25 = .ok (.iload 5, 2) := by decide +kernel
theorem dX11_isWordAt_27 : decode cX11_isWordAt 27 = .ok (.iload_n 2, 1) := by decide +kernel
theorem dX11_isWordAt_28 : decode cX11_isWordAt 28 = .ok (.if_icmp .ge 42, 3) := by decide +kernel
theorem dX11_isWordAt_31 : decode cX11_isWordAt 31 = .ok (.aload_n 0, 1) := by decide +kernel
theorem dX11_isWordAt_32 : decode cX11_isWordAt 32 = .ok (.getfield 9, 3) := by decide +kernel
theorem dX11_isWordAt_35 : decode cX11_isWordAt 35 = .ok (.iload_n 1, 1) := by decide +kernel
theorem dX11_isWordAt_36 : decode cX11_isWordAt 36 = .ok (.iload 5, 2) := by decide +kernel
theorem dX11_isWordAt_38 : decode cX11_isWordAt 38 = .ok (.iadd, 1) := by decide +kernel
theorem dX11_isWordAt_39 : decode cX11_isWordAt 39 = .ok (.iaload, 1) := by decide +kernel
theorem dX11_isWordAt_40 : decode cX11_isWordAt 40 = .ok (.aload_n 0, 1) := by decide +kernel
theorem dX11_isWordAt_41 : decode cX11_isWordAt 41 = .ok (.getfield 21, 3) := by decide +kernel
theorem dX11_isWordAt_44 : decode cX11_isWordAt 44 = .ok (.aload_n 0, 1) := by decide +kernel
theorem dX11_isWordAt_45 : decode cX11_isWordAt 45 = .ok (.getfield 29, 3) := by decide +kernel
theorem dX11_isWordAt_48 : decode cX11_isWordAt 48 = .ok (.iload_n 3, 1) := by decide +kernel
theorem dX11_isWordAt_49 : decode cX11_isWordAt 49 = .ok (.iaload, 1) := by decide +kernel
theorem dX11_isWordAt_50 : decode cX11_isWordAt 50 = .ok (.iload 5, 2) := by decide +kernel
theorem dX11_isWordAt_52 : decode cX11_isWordAt 52 = .ok (.iadd, 1) := by decide +kernel
theorem dX11_isWordAt_53 : decode cX11_isWordAt 53 = .ok (.caload, 1) := by decide +kernel
theorem dX11_isWordAt_54 : decode cX11_isWordAt 54 = .ok (.if_icmp .ne 7, 3) := by decide +kernel
theorem dX11_isWordAt_57 : decode cX11_isWordAt 57 = .ok (.iconst 1, 1) := by decide +kernel
theorem dX11_isWordAt_58 : decode cX11_isWordAt 58 = .ok (.goto 4, 3) := by decide +kernel
theorem dX11_isWordAt_61 : decode cX11_isWordAt 61 = .ok (.iconst 0, 1) := by decide +kernel
theorem dX11_isWordAt_62 : decode cX11_isWordAt 62 = .ok (.istore 4, 2) := by decide +kernel
theorem dX11_isWordAt_64 : decode cX11_isWordAt 64 = .ok (.iinc 5 1, 3) := by decide +kernel
theorem dX11_isWordAt_67 : decode cX11_isWordAt 67 = .ok (.goto (-47), 3) := by decide +kernel
theorem dX11_isWordAt_70 : decode cX11_isWordAt 70 = .ok (.iload 4, 2) := by decide +kernel
theorem dX11_isWordAt_72 : decode cX11_isWordAt 72 = .ok (.ireturn, 1) := by decide +kernel
theorem dX11_isPairOf_0 : decode cX11_isPairOf 0 = .ok (.sipush 557, 3) := by decide +kernel
theorem dX11_isPairOf_3 : decode cX11_isPairOf 3 = .ok (.iload_n 1, 1) := by decide +kernel
theorem dX11_isPairOf_4 : decode cX11_isPairOf 4 = .ok (.bipush 23, 2) := by decide +kernel
theorem dX11_isPairOf_6 : decode cX11_isPairOf 6 = .ok (.imul, 1) := by decide +kernel
theorem dX11_isPairOf_7 : decode cX11_isPairOf 7 = .ok (.iadd, 1) := by decide +kernel
theorem dX11_isPairOf_8 : decode cX11_isPairOf 8 = .ok (.istore 4, 2) := by decide +kernel
theorem dX11_isPairOf_10 : decode cX11_isPairOf 10 = .ok (.aload_n 0, 1) := by decide +kernel
theorem dX11_isPairOf_11 : decode cX11_isPairOf 11 = .ok (.iload 4, 2) := by decide +kernel
theorem dX11_isPairOf_13 : decode cX11_isPairOf 13 = .ok (.iconst 5, 1) := by decide +kernel
theorem dX11_isPairOf_14 : decode cX11_isPairOf 14 = .ok (.iadd, 1) := by decide +kernel
theorem dX11_isPairOf_15 : decode cX11_isPairOf 15 = .ok (.aload_n 0, 1) := by decide +kernel
theorem dX11_isPairOf_16 : decode cX11_isPairOf 16 = .ok (.getfield 9, 3) := by decide +kernel
theorem dX11_isPairOf_19 : decode cX11_isPairOf 19 = .ok (.iload 4, 2) := by decide +kernel
theorem dX11_isPairOf_21 : decode cX11_isPairOf 21 = .ok (.iconst 3, 1) := by decide +kernel
theorem dX11_isPairOf_22 : decode cX11_isPairOf 22 = .ok (.iadd, 1) := by decide +kernel
theorem dX11_isPairOf_23 : decode cX11_isPairOf 23 = .ok (.iaload, 1) := by decide +kernel
theorem dX11_isPairOf_24 : decode cX11_isPairOf 24 = .ok (.iload_n 2, 1) := by decide +kernel
theorem dX11_isPairOf_25 : decode cX11_isPairOf 25 = .ok (.invokevirtual 224, 3) := by decide +kernel
theorem dX11_isPairOf_28 : decode cX11_isPairOf 28 = .ok (.ifCond .eq 31, 3) := by decide +kernel
theorem dX11_isPairOf_31 : decode cX11_isPairOf 31 = .ok (.aload_n 0, 1) := by decide +kernel
theorem dX11_isPairOf_32 : decode cX11_isPairOf 32 = .ok (.iload 4, 2) := by decide +kernel
theorem dX11_isPairOf_34 : decode cX11_isPairOf 34 = .ok (.iconst 5, 1) := by decide +kernel
theorem dX11_isPairOf_35 : decode cX11_isPairOf 35 = .ok (.iadd, 1) := by decide +kernel
theorem dX11_isPairOf_36 : decode cX11_isPairOf 36 = .ok (.bipush 6, 2) := by decide +kernel
theorem dX11_isPairOf_38 : decode cX11_isPairOf 38 = .ok (.iadd, 1) := by decide +kernel
theorem dX11_isPairOf_39 : decode cX11_isPairOf 39 = .ok (.aload_n 0, 1) := by decide +kernel
theorem dX11_isPairOf_40 : decode cX11_isPairOf 40 = .ok (.getfield 9, 3) := by decide +kernel
theorem dX11_isPairOf_43 : decode cX11_isPairOf 43 = .ok (.iload 4, 2) := by decide +kernel
theorem dX11_isPairOf_45 : decode cX11_isPairOf 45 = .ok (.iconst 4, 1) := by decide +kernel
theorem dX11_isPairOf_46 : decode cX11_isPairOf 46 = .ok (.iadd, 1) := by decide +kernel
theorem dX11_isPairOf_47 : decode cX11_isPairOf 47 = .ok (.iaload, 1) := by decide +kernel
theorem dX11_isPairOf_48 : decode cX11_isPairOf 48 = .ok (.iload_n 3, 1) := by decide +kernel
theorem dX11_isPairOf_49 : decode cX11_isPairOf 49 = .ok (.invokevirtual 224, 3) := by decide +kernel
theorem dX11_isPairOf_52 : decode cX11_isPairOf 52 = .ok (.ifCond .eq 7, 3) := by decide +kernel
theorem dX11_isPairOf_55 : decode cX11_isPairOf 55 = .ok (.iconst 1, 1) := by decide +kernel
theorem dX11_isPairOf_56 : decode cX11_isPairOf 56 = .ok (.goto 4, 3) := by decide +kernel
theorem dX11_isPairOf_59 : decode cX11_isPairOf 59 = .ok (.iconst 0, 1) := by decide +kernel
theorem dX11_isPairOf_60 : decode cX11_isPairOf 60 = .ok (.ireturn, 1) := by decide +kernel
theorem dX11_learn_0 : decode cX11_learn 0 = .ok (.aload_n 0, 1) := by decide +kernel
theorem dX11_learn_1 : decode cX11_learn 1 = .ok (.iconst 1, 1) := by decide +kernel
theorem dX11_learn_2 : decode cX11_learn 2 = .ok (.aload_n 0, 1) := by decide +kernel
theorem dX11_learn_3 : decode cX11_learn 3 = .ok (.invokevirtual 227, 3) := by decide +kernel
theorem dX11_learn_6 : decode cX11_learn 6 = .ok (.invokevirtual 111, 3) := by decide +kernel
theorem dX11_learn_9 : decode cX11_learn 9 = .ok (.ifCond .eq 5, 3) := by decide +kernel
theorem dX11_learn_12 : decode cX11_learn 12 = .ok (.iconst 0, 1) := by decide +kernel
theorem dX11_learn_13 : decode cX11_learn 13 = .ok (.ireturn, 1) := by decide +kernel
theorem dX11_learn_14 : decode cX11_learn 14 = .ok (.aload_n 0, 1) := by decide +kernel
theorem dX11_learn_15 : decode cX11_learn 15 = .ok (.invokevirtual 164, 3) := by decide +kernel
theorem dX11_learn_18 : decode cX11_learn 18 = .ok (.aload_n 0, 1) := by decide +kernel
theorem dX11_learn_19 : decode cX11_learn 19 = .ok (.getfield 129, 3) := by decide +kernel
theorem dX11_learn_22 : decode cX11_learn 22 = .ok (.iconst 2, 1) := by decide +kernel
theorem dX11_learn_23 : decode cX11_learn 23 = .ok (.idiv, 1) := by decide +kernel
theorem dX11_learn_24 : decode cX11_learn 24 = .ok (.istore_n 1, 1) := by decide +kernel
theorem dX11_learn_25 : decode cX11_learn 25 = .ok (.iconst 0, 1) := by decide +kernel
theorem dX11_learn_26 : decode cX11_learn 26 = .ok (.istore_n 2, 1) := by decide +kernel
theorem dX11_learn_27 : decode cX11_learn 27 = .ok (.iconst 0, 1) := by decide +kernel
theorem dX11_learn_28 : decode cX11_learn 28 = .ok (.istore_n 3, 1) := by decide +kernel
theorem dX11_learn_29 : decode cX11_learn 29 = .ok (.iload_n 3, 1) := by decide +kernel
theorem dX11_learn_30 : decode cX11_learn 30 = .ok (.iload_n 1, 1) := by decide +kernel
theorem dX11_learn_31 : decode cX11_learn 31 = .ok (.if_icmp .ge 39, 3) := by decide +kernel
theorem dX11_learn_34 : decode cX11_learn 34 = .ok (.iload_n 2, 1) := by decide +kernel
theorem dX11_learn_35 : decode cX11_learn 35 = .ok (.aload_n 0, 1) := by decide +kernel
theorem dX11_learn_36 : decode cX11_learn 36 = .ok (.iload_n 3, 1) := by decide +kernel
theorem dX11_learn_37 : decode cX11_learn 37 = .ok (.iload_n 1, 1) := by decide +kernel
theorem dX11_learn_38 : decode cX11_learn 38 = .ok (.iload_n 3, 1) := by decide +kernel
theorem dX11_learn_39 : decode cX11_learn 39 = .ok (.iadd, 1) := by decide +kernel
theorem dX11_learn_40 : decode cX11_learn 40 = .ok (.invokevirtual 157, 3) := by decide +kernel
theorem dX11_learn_43 : decode cX11_learn 43 = .ok (.ifCond .eq 18, 3) := by decide +kernel
theorem dX11_learn_46 : decode cX11_learn 46 = .ok (.aload_n 0, 1) := by decide +kernel
theorem dX11_learn_47 : decode cX11_learn 47 = .ok (.iload_n 3, 1) := by decide +kernel
theorem dX11_learn_48 : decode cX11_learn 48 = .ok (.iload_n 1, 1) := by decide +kernel
theorem dX11_learn_49 : decode cX11_learn 49 = .ok (.iload_n 3, 1) := by decide +kernel
theorem dX11_learn_50 : decode cX11_learn 50 = .ok (.iadd, 1) := by decide +kernel
theorem dX11_learn_51 : decode cX11_learn 51 = .ok (.invokevirtual 230, 3) := by decide +kernel
theorem dX11_learn_54 : decode cX11_learn 54 = .ok (.ifCond .eq 7, 3) := by decide +kernel
theorem dX11_learn_57 : decode cX11_learn 57 = .ok (.iconst 1, 1) := by decide +kernel
theorem dX11_learn_58 : decode cX11_learn 58 = .ok (.goto 4, 3) := by decide +kernel
theorem dX11_learn_61 : decode cX11_learn 61 = .ok (.iconst 0, 1) := by decide +kernel
theorem dX11_learn_62 : decode cX11_learn 62 = .ok (.iadd, 1) := by decide +kernel
theorem dX11_learn_63 : decode cX11_learn 63 = .ok (.istore_n 2, 1) := by decide +kernel
theorem dX11_learn_64 : decode cX11_learn 64 = .ok (.iinc 3 1, 3) := by decide +kernel
theorem dX11_learn_67 : decode cX11_learn 67 = .ok (.goto (-38), 3) := by decide +kernel
theorem dX11_learn_70 : decode cX11_learn 70 = .ok (.iload_n 2, 1) := by decide +kernel
theorem dX11_learn_71 : decode cX11_learn 71 = .ok (.ireturn, 1) := by decide +kernel
theorem dX11_pair_0 : decode cX11_pair 0 = .ok (.aload_n 0, 1) := by decide +kernel
theorem dX11_pair_1 : decode cX11_pair 1 = .ok (.iconst 1, 1) := by decide +kernel
theorem dX11_pair_2 : decode cX11_pair 2 = .ok (.iload_n 1, 1) := by decide +kernel
theorem dX11_pair_3 : decode cX11_pair 3 = .ok (.iconst 0, 1) := by decide +kernel
theorem dX11_pair_4 : decode cX11_pair 4 = .ok (.aload_n 0, 1) := by decide +kernel
theorem dX11_pair_5 : decode cX11_pair 5 = .ok (.getfield 9, 3) := by decide +kernel
theorem dX11_pair_8 : decode cX11_pair 8 = .ok (.iconst 1, 1) := by decide +kernel
theorem dX11_pair_9 : decode cX11_pair 9 = .ok (.iaload, 1) := by decide +kernel
theorem dX11_pair_10 : decode cX11_pair 10 = .ok (.iconst 1, 1) := by decide +kernel
theorem dX11_pair_11 : decode cX11_pair 11 = .ok (.isub, 1) := by decide +kernel
theorem dX11_pair_12 : decode cX11_pair 12 = .ok (.invokestatic 107, 3) := by decide +kernel
theorem dX11_pair_15 : decode cX11_pair 15 = .ok (.ifCond .ne 7, 3) := by decide +kernel
theorem dX11_pair_18 : decode cX11_pair 18 = .ok (.iconst 1, 1) := by decide +kernel
theorem dX11_pair_19 : decode cX11_pair 19 = .ok (.goto 4, 3) := by decide +kernel
theorem dX11_pair_22 : decode cX11_pair 22 = .ok (.iconst 0, 1) := by decide +kernel
theorem dX11_pair_23 : decode cX11_pair 23 = .ok (.invokevirtual 111, 3) := by decide +kernel
theorem dX11_pair_26 : decode cX11_pair 26 = .ok (.ifCond .ne 25, 3) := by decide +kernel
theorem dX11_pair_29 : decode cX11_pair 29 = .ok (.aload_n 0, 1) := by decide +kernel
theorem dX11_pair_30 : decode cX11_pair 30 = .ok (.iconst 2, 1) := by decide +kernel
theorem dX11_pair_31 : decode cX11_pair 31 = .ok (.iload_n 2, 1) := by decide +kernel
theorem dX11_pair_32 : decode cX11_pair 32 = .ok (.iconst 0, 1) := by decide +kernel
theorem dX11_pair_33 : decode cX11_pair 33 = .ok (.iconst 3, 1) := by decide +kernel
theorem dX11_pair_34 : decode cX11_pair 34 = .ok (.invokestatic 107, 3) := by decide +kernel
theorem dX11_pair_37 : decode cX11_pair 37 = .ok (.ifCond .ne 7, 3) := by decide +kernel
theorem dX11_pair_40 : decode cX11_pair 40 = .ok (.iconst 1, 1) := by decide +kernel
theorem dX11_pair_41 : decode cX11_pair 41 = .ok (.goto 4, 3) := by decide +kernel
theorem dX11_pair_44 : decode cX11_pair 44 = .ok (.iconst 0, 1) := by decide +kernel
theorem dX11_pair_45 : decode cX11_pair 45 = .ok (.invokevirtual 111, 3) := by decide +kernel
theorem dX11_pair_48 : decode cX11_pair 48 = .ok (.ifCond .eq 5, 3) := by decide +kernel
theorem dX11_pair_51 : decode cX11_pair 51 = .ok (.iconst 0, 1) := by decide +kernel
theorem dX11_pair_52 : decode cX11_pair 52 = .ok (.ireturn, 1) := by decide +kernel
theorem dX11_pair_53 : decode cX11_pair 53 = .ok (.sipush 557, 3) := by decide +kernel
theorem dX11_pair_56 : decode cX11_pair 56 = .ok (.iload_n 1, 1) := by decide +kernel
theorem dX11_pair_57 : decode cX11_pair 57 = .ok (.bipush 23, 2) := by decide +kernel
theorem dX11_pair_59 : decode cX11_pair 59 = .ok (.imul, 1) := by decide +kernel
theorem dX11_pair_60 : decode cX11_pair 60 = .ok (.iadd, 1) := by decide +kernel
theorem dX11_pair_61 : decode cX11_pair 61 = .ok (.istore_n 3, 1) := by decide +kernel
theorem dX11_pair_62 : decode cX11_pair 62 = .ok (.iload_n 2, 1) := by decide +kernel
theorem dX11_pair_63 : decode cX11_pair 63 = .ok (.ifCond .ne 14, 3) := by decide +kernel
theorem dX11_pair_66 : decode cX11_pair 66 = .ok (.aload_n 0, 1) := by decide +kernel
theorem dX11_pair_67 : decode cX11_pair 67 = .ok (.getfield 9, 3) := by decide +kernel
theorem dX11_pair_70 : decode cX11_pair 70 = .ok (.iload_n 3, 1) := by decide +kernel
theorem dX11_pair_71 : decode cX11_pair 71 = .ok (.iconst 0, 1) := by decide +kernel
theorem dX11_pair_72 : decode cX11_pair 72 = .ok (.iadd, 1) := by decide +kernel
theorem dX11_pair_73 : decode cX11_pair 73 = .ok (.iaload, 1) := by decide +kernel
theorem dX11_pair_74 : decode cX11_pair 74 = .ok (.goto 40, 3) := by decide +kernel
theorem dX11_pair_77 : decode cX11_pair 77 = .ok (.iload_n 2, 1) := by decide +kernel
theorem dX11_pair_78 : decode cX11_pair 78 = .ok (.iconst 1, 1) := by decide +kernel
theorem dX11_pair_79 : decode cX11_pair 79 = .ok (.if_icmp .ne 14, 3) := by decide +kernel
theorem dX11_pair_82 : decode cX11_pair 82 = .ok (.aload_n 0, 1) := by decide +kernel
theorem dX11_pair_83 : decode cX11_pair 83 = .ok (.getfield 9, 3) := by decide +kernel
theorem dX11_pair_86 : decode cX11_pair 86 = .ok (.iload_n 3, 1) := by decide +kernel
theorem dX11_pair_87 : decode cX11_pair 87 = .ok (.iconst 3, 1) := by decide +kernel
theorem dX11_pair_88 : decode cX11_pair 88 = .ok (.iadd, 1) := by decide +kernel
theorem dX11_pair_89 : decode cX11_pair 89 = .ok (.iaload, 1) := by decide +kernel
theorem dX11_pair_90 : decode cX11_pair 90 = .ok (.goto 24, 3) := by decide +kernel
theorem dX11_pair_93 : decode cX11_pair 93 = .ok (.iload_n 2, 1) := by decide +kernel
theorem dX11_pair_94 : decode cX11_pair 94 = .ok (.iconst 2, 1) := by decide +kernel
theorem dX11_pair_95 : decode cX11_pair 95 = .ok (.if_icmp .ne 14, 3) := by decide +kernel
theorem dX11_pair_98 : decode cX11_pair 98 = .ok (.aload_n 0, 1) := by decide +kernel
theorem dX11_pair_99 : decode cX11_pair 99 = .ok (.getfield 9, 3) := by decide +kernel
theorem dX11_pair_102 : decode cX11_pair 102 = .ok (.iload_n 3, 1) := by decide +kernel
theorem dX11_pair_103 : decode cX11_pair 103 = .ok (.iconst 4, 1) := by decide +kernel
theorem dX11_pair_104 : decode cX11_pair 104 = .ok (.iadd, 1) := by decide +kernel
theorem dX11_pair_105 : decode cX11_pair 105 = .ok (.iaload, 1) := by decide +kernel
theorem dX11_pair_106 : decode cX11_pair 106 = .ok (.goto 8, 3) := by decide +kernel
theorem dX11_pair_109 : decode cX11_pair 109 = .ok (.aload_n 0, 1) := by decide +kernel
theorem dX11_pair_110 : decode cX11_pair 110 = .ok (.iload_n 1, 1) := by decide +kernel
theorem dX11_pair_111 : decode cX11_pair 111 = .ok (.invokevirtual 221, 3) := by decide +kernel
theorem dX11_pair_114 : decode cX11_pair 114 = .ok (.ireturn, 1) := by decide +kernel
theorem dX11_isIn_0 : decode cX11_isIn 0 = .ok (.aload_n 0, 1) := by decide +kernel
theorem dX11_isIn_1 : decode cX11_isIn 1 = .ok (.iload_n 1, 1) := by decide +kernel
theorem dX11_isIn_2 : decode cX11_isIn 2 = .ok (.iload_n 2, 1) := by decide +kernel
theorem dX11_isIn_3 : decode cX11_isIn 3 = .ok (.invokevirtual 185, 3) := by decide +kernel
theorem dX11_isIn_6 : decode cX11_isIn 6 = .ok (.istore_n 3, 1) := by decide +kernel
theorem dX11_isIn_7 : decode cX11_isIn 7 = .ok (.aload_n 0, 1) := by decide +kernel
theorem dX11_isIn_8 : decode cX11_isIn 8 = .ok (.iload_n 1, 1) := by decide +kernel
theorem dX11_isIn_9 : decode cX11_isIn 9 = .ok (.iconst 0, 1) := by decide +kernel
theorem dX11_isIn_10 : decode cX11_isIn 10 = .ok (.invokevirtual 99, 3) := by decide +kernel
theorem dX11_isIn_13 : decode cX11_isIn 13 = .ok (.ifCond .ne 14, 3) := by decide +kernel
theorem dX11_isIn_16 : decode cX11_isIn 16 = .ok (.iload_n 3, 1) := by decide +kernel
theorem dX11_isIn_17 : decode cX11_isIn 17 = .ok (.aload_n 0, 1) := by decide +kernel
theorem dX11_isIn_18 : decode cX11_isIn 18 = .ok (.getfield 233, 3) := by decide +kernel
theorem dX11_isIn_21 : decode cX11_isIn 21 = .ok (.if_icmp .eq 16, 3) := by decide +kernel
theorem dX11_isIn_24 : decode cX11_isIn 24 = .ok (.goto 11, 3) := by decide +kernel
theorem dX11_isIn_27 : decode cX11_isIn 27 = .ok (.iload_n 3, 1) := by decide +kernel
theorem dX11_isIn_28 : decode cX11_isIn 28 = .ok (.aload_n 0, 1) := by decide +kernel
theorem dX11_isIn_29 : decode cX11_isIn 29 = .ok (.getfield 233, 3) := by decide +kernel
theorem dX11_isIn_32 : decode cX11_isIn 32 = .ok (.if_icmp .lt 5, 3) := by decide +kernel
theorem dX11_isIn_35 : decode cX11_isIn 35 = .ok (.iconst 0, 1) := by decide +kernel
theorem dX11_isIn_36 : decode cX11_isIn 36 = .ok (.ireturn, 1) := by decide +kernel
theorem dX11_isIn_37 : decode cX11_isIn 37 = .ok (.aload_n 0, 1) := by decide +kernel
theorem dX11_isIn_38 : decode cX11_isIn 38 = .ok (.iload_n 1, 1) := by decide +kernel
theorem dX11_isIn_39 : decode cX11_isIn 39 = .ok (.iconst 0, 1) := by decide +kernel
theorem dX11_isIn_40 : decode cX11_isIn 40 = .ok (.invokevirtual 99, 3) := by decide +kernel
theorem dX11_isIn_43 : decode cX11_isIn 43 = .ok (.iconst 2, 1) := by decide +kernel
theorem dX11_isIn_44 : decode cX11_isIn 44 = .ok (.if_icmp .ne 12, 3) := by decide +kernel
theorem dX11_isIn_47 : decode cX11_isIn 47 = .ok (.aload_n 0, 1) := by decide +kernel
theorem dX11_isIn_48 : decode cX11_isIn 48 = .ok (.getfield 233, 3) := by decide +kernel
theorem dX11_isIn_51 : decode cX11_isIn 51 = .ok (.iload_n 3, 1) := by decide +kernel
theorem dX11_isIn_52 : decode cX11_isIn 52 = .ok (.isub, 1) := by decide +kernel
theorem dX11_isIn_53 : decode cX11_isIn 53 = .ok (.goto 4, 3) := by decide +kernel
theorem dX11_isIn_56 : decode cX11_isIn 56 = .ok (.iconst 0, 1) := by decide +kernel
theorem dX11_isIn_57 : decode cX11_isIn 57 = .ok (.istore 4, 2) := by decide +kernel
theorem dX11_isIn_59 : decode cX11_isIn 59 = .ok (.iconst 1, 1) := by decide +kernel
theorem dX11_isIn_60 : decode cX11_isIn 60 = .ok (.istore 5, 2) := by decide +kernel
theorem dX11_isIn_62 : decode cX11_isIn 62 = .ok (.iconst 0, 1) := by decide +kernel
theorem dX11_isIn_63 : decode cX11_isIn 63 = .ok (.istore 6, 2) := by decide +kernel
theorem dX11_isIn_65 : decode cX11_isIn 65 = .ok (.iload 5, 2) := by decide +kernel
theorem dX11_isIn_67 : decode cX11_isIn 67 = .ok (.ifCond .eq 43, 3) := by decide +kernel
theorem dX11_isIn_70 : decode cX11_isIn 70 = .ok (.iload 6, 2) := by decide +kernel
theorem dX11_isIn_72 : decode cX11_isIn 72 = .ok (.iload_n 3, 1) := by decide +kernel
theorem dX11_isIn_73 : decode cX11_isIn 73 = .ok (.if_icmp .ge 37, 3) := by decide +kernel
theorem dX11_isIn_76 : decode cX11_isIn 76 = .ok (.aload_n 0, 1) := by decide +kernel
theorem dX11_isIn_77 : decode cX11_isIn 77 = .ok (.getfield 39, 3) := by decide +kernel
theorem dX11_isIn_80 : decode cX11_isIn 80 = .ok (.iload 4, 2) := by decide +kernel
theorem dX11_isIn_82 : decode cX11_isIn 82 = .ok (.iload 6, 2) := by decide +kernel
theorem dX11_isIn_84 : decode cX11_isIn 84 = .ok (.iadd, 1) := by decide +kernel
theorem dX11_isIn_85 : decode cX11_isIn 85 = .ok (.iaload, 1) := by decide +kernel
theorem dX11_isIn_86 : decode cX11_isIn 86 = .ok (.aload_n 0, 1) := by decide +kernel
theorem dX11_isIn_87 : decode cX11_isIn 87 = .ok (.iload_n 1, 1) := by decide +kernel
theorem dX11_isIn_88 : decode cX11_isIn 88 = .ok (.iload_n 2, 1) := by decide +kernel
theorem dX11_isIn_89 : decode cX11_isIn 89 = .ok (.iload 6, 2) := by decide +kernel
theorem dX11_isIn_91 : decode cX11_isIn 91 = .ok (.invokevirtual 189, 3) := by decide +kernel
theorem dX11_isIn_94 : decode cX11_isIn 94 = .ok (.if_icmp .ne 7, 3) := by decide +kernel
theorem dX11_isIn_97 : decode cX11_isIn 97 = .ok (.iconst 1, 1) := by decide +kernel
theorem dX11_isIn_98 : decode cX11_isIn 98 = .ok (.goto 4, 3) := by decide +kernel
theorem dX11_isIn_101 : decode cX11_isIn 101 = .ok (.iconst 0, 1) := by decide +kernel
theorem dX11_isIn_102 : decode cX11_isIn 102 = .ok (.istore 5, 2) := by decide +kernel
theorem dX11_isIn_104 : decode cX11_isIn 104 = .ok (.iinc 6 1, 3) := by decide +kernel
theorem dX11_isIn_107 : decode cX11_isIn 107 = .ok (.goto (-42), 3) := by decide +kernel
theorem dX11_isIn_110 : decode cX11_isIn 110 = .ok (.iload 5, 2) := by decide +kernel
theorem dX11_isIn_112 : decode cX11_isIn 112 = .ok (.ireturn, 1) := by decide +kernel
theorem dX11_bestRule_0 : decode cX11_bestRule 0 = .ok (.iconst (-1), 1) := by decide +kernel
theorem dX11_bestRule_1 : decode cX11_bestRule 1 = .ok (.istore 4, 2) := by decide +kernel
theorem dX11_bestRule_3 : decode cX11_bestRule 3 = .ok (.iconst 0, 1) := by decide +kernel
theorem dX11_bestRule_4 : decode cX11_bestRule 4 = .ok (.istore 5, 2) := by decide +kernel
theorem dX11_bestRule_6 : decode cX11_bestRule 6 = .ok (.iload 5, 2) := by decide +kernel
theorem dX11_bestRule_8 : decode cX11_bestRule 8 = .ok (.aload_n 0, 1) := by decide +kernel
theorem dX11_bestRule_9 : decode cX11_bestRule 9 = .ok (.getfield 9, 3) := by decide +kernel
theorem dX11_bestRule_12 : decode cX11_bestRule 12 = .ok (.iconst 0, 1) := by decide +kernel
theorem dX11_bestRule_13 : decode cX11_bestRule 13 = .ok (.iaload, 1) := by decide +kernel
theorem dX11_bestRule_14 : decode cX11_bestRule 14 = .ok (.if_icmp .ge 81, 3) := by decide +kernel
theorem dX11_bestRule_17 : decode cX11_bestRule 17 = .ok (.aload_n 0, 1) := by decide +kernel
theorem dX11_bestRule_18 : decode cX11_bestRule 18 = .ok (.iload 5, 2) := by decide +kernel
theorem dX11_bestRule_20 : decode cX11_bestRule 20 = .ok (.iconst 0, 1) := by decide +kernel
theorem dX11_bestRule_21 : decode cX11_bestRule 21 = .ok (.invokevirtual 99, 3) := by decide +kernel
theorem dX11_bestRule_24 : decode cX11_bestRule 24 = .ok (.iload_n 1, 1) := by decide +kernel
theorem dX11_bestRule_25 : decode cX11_bestRule 25 = .ok (.if_icmp .ne 31, 3) := by decide +kernel
theorem dX11_bestRule_28 : decode cX11_bestRule 28 = .ok (.aload_n 0, 1) := by decide +kernel
theorem dX11_bestRule_29 : decode cX11_bestRule 29 = .ok (.iload 5, 2) := by decide +kernel
theorem dX11_bestRule_31 : decode cX11_bestRule 31 = .ok (.iconst 2, 1) := by decide +kernel
theorem dX11_bestRule_32 : decode cX11_bestRule 32 = .ok (.invokevirtual 99, 3) := by decide +kernel
theorem dX11_bestRule_35 : decode cX11_bestRule 35 = .ok (.iload_n 2, 1) := by decide +kernel
theorem dX11_bestRule_36 : decode cX11_bestRule 36 = .ok (.invokestatic 193, 3) := by decide +kernel
theorem dX11_bestRule_39 : decode cX11_bestRule 39 = .ok (.ifCond .eq 17, 3) := by decide +kernel
theorem dX11_bestRule_42 : decode cX11_bestRule 42 = .ok (.aload_n 0, 1) := by decide +kernel
theorem dX11_bestRule_43 : decode cX11_bestRule 43 = .ok (.iload 5, 2) := by decide +kernel
theorem dX11_bestRule_45 : decode cX11_bestRule 45 = .ok (.iload_n 3, 1) := by decide +kernel
theorem dX11_bestRule_46 : decode cX11_bestRule 46 = .ok (.invokevirtual 236, 3) := by decide +kernel
theorem dX11_bestRule_49 : decode cX11_bestRule 49 = .ok (.ifCond .eq 7, 3) := by decide +kernel
theorem dX11_bestRule_52 : decode cX11_bestRule 52 = .ok (.iconst 1, 1) := by decide +kernel
theorem dX11_bestRule_53 : decode cX11_bestRule 53 = .ok (.goto 4, 3) := by decide +kernel
theorem dX11_bestRule_56 : decode cX11_bestRule 56 = .ok (.iconst 0, 1) := by decide +kernel
theorem dX11_bestRule_57 : decode cX11_bestRule 57 = .ok (.istore 6, 2) := by decide +kernel
theorem dX11_bestRule_59 : decode cX11_bestRule 59 = .ok (.iload 6, 2) := by decide +kernel
theorem dX11_bestRule_61 : decode cX11_bestRule 61 = .ok (.ifCond .eq 24, 3) := by decide +kernel
theorem dX11_bestRule_64 : decode cX11_bestRule 64 = .ok (.iload 4, 2) := by decide +kernel
theorem dX11_bestRule_66 : decode cX11_bestRule 66 = .ok (.ifCond .lt 14, 3) := by decide +kernel
theorem dX11_bestRule_69 : decode cX11_bestRule 69 = .ok (.aload_n 0, 1) := by decide +kernel
theorem dX11_bestRule_70 : decode cX11_bestRule 70 = .ok (.iload 5, 2) := by decide +kernel
theorem dX11_bestRule_72 : decode cX11_bestRule 72 = .ok (.iload 4, 2) := by decide +kernel
theorem dX11_bestRule_74 : decode cX11_bestRule 74 = .ok (.invokevirtual 178, 3) := by decide +kernel
theorem dX11_bestRule_77 : decode cX11_bestRule 77 = .ok (.ifCond .eq 8, 3) := by decide +kernel
theorem dX11_bestRule_80 : decode cX11_bestRule 80 = .ok (.iload 5, 2) := by decide +kernel
theorem dX11_bestRule_82 : decode cX11_bestRule 82 = .ok (.goto 5, 3) := by decide +kernel
theorem dX11_bestRule_85 : decode cX11_bestRule 85 = .ok (.iload 4, 2) := by decide +kernel
theorem dX11_bestRule_87 : decode cX11_bestRule 87 = .ok (.istore 4, 2) := by decide +kernel
theorem dX11_bestRule_89 : decode cX11_bestRule 89 = .ok (.iinc 5 1, 3) := by decide +kernel
theorem dX11_bestRule_92 : decode cX11_bestRule 92 = .ok (.goto (-86), 3) := by decide +kernel
theorem dX11_bestRule_95 : decode cX11_bestRule 95 = .ok (.iload 4, 2) := by decide +kernel
theorem dX11_bestRule_97 : decode cX11_bestRule 97 = .ok (.ireturn, 1) := by decide +kernel
theorem dX11_addForm_0 : decode cX11_addForm 0 = .ok (.iconst 0, 1) := by decide +kernel
theorem dX11_addForm_1 : decode cX11_addForm 1 = .ok (.istore_n 3, 1) := by decide +kernel
theorem dX11_addForm_2 : decode cX11_addForm 2 = .ok (.iload_n 1, 1) := by decide +kernel
theorem dX11_addForm_3 : decode cX11_addForm 3 = .ok (.ifCond .lt 45, 3) := by decide +kernel
theorem dX11_addForm_6 : decode cX11_addForm 6 = .ok (.iload_n 3, 1) := by decide +kernel
theorem dX11_addForm_7 : decode cX11_addForm 7 = .ok (.aload_n 0, 1) := by decide +kernel
theorem dX11_addForm_8 : decode cX11_addForm 8 = .ok (.iload_n 1, 1) := by decide +kernel
theorem dX11_addForm_9 : decode cX11_addForm 9 = .ok (.iload_n 2, 1) := by decide +kernel
theorem dX11_addForm_10 : decode cX11_addForm 10 = .ok (.invokevirtual 185, 3) := by decide +kernel
theorem dX11_addForm_13 : decode cX11_addForm 13 = .ok (.if_icmp .ge 35, 3) := by decide +kernel
theorem dX11_addForm_16 : decode cX11_addForm 16 = .ok (.aload_n 0, 1) := by decide +kernel
theorem dX11_addForm_17 : decode cX11_addForm 17 = .ok (.getfield 42, 3) := by decide +kernel
theorem dX11_addForm_20 : decode cX11_addForm 20 = .ok (.aload_n 0, 1) := by decide +kernel
theorem dX11_addForm_21 : decode cX11_addForm 21 = .ok (.getfield 239, 3) := by decide +kernel
theorem dX11_addForm_24 : decode cX11_addForm 24 = .ok (.aload_n 0, 1) := by decide +kernel
theorem dX11_addForm_25 : decode cX11_addForm 25 = .ok (.iload_n 1, 1) := by decide +kernel
theorem dX11_addForm_26 : decode cX11_addForm 26 = .ok (.iload_n 2, 1) := by decide +kernel
theorem dX11_addForm_27 : decode cX11_addForm 27 = .ok (.iload_n 3, 1) := by decide +kernel
theorem dX11_addForm_28 : decode cX11_addForm 28 = .ok (.invokevirtual 189, 3) := by decide +kernel
theorem dX11_addForm_31 : decode cX11_addForm 31 = .ok (.iastore, 1) := by decide +kernel
theorem dX11_addForm_32 : decode cX11_addForm 32 = .ok (.aload_n 0, 1) := by decide +kernel
theorem dX11_addForm_33 : decode cX11_addForm 33 = .ok (.dup, 1) := by decide +kernel
theorem dX11_addForm_34 : decode cX11_addForm 34 = .ok (.getfield 239, 3) := by decide +kernel
theorem dX11_addForm_37 : decode cX11_addForm 37 = .ok (.iconst 1, 1) := by decide +kernel
theorem dX11_addForm_38 : decode cX11_addForm 38 = .ok (.iadd, 1) := by decide +kernel
theorem dX11_addForm_39 : decode cX11_addForm 39 = .ok (.putfield 239, 3) := by decide +kernel
theorem dX11_addForm_42 : decode cX11_addForm 42 = .ok (.iinc 3 1, 3) := by decide +kernel
theorem dX11_addForm_45 : decode cX11_addForm 45 = .ok (.goto (-43), 3) := by decide +kernel
theorem dX11_addForm_48 : decode cX11_addForm 48 = .ok (.return_, 1) := by decide +kernel
theorem dX11_convert_0 : decode cX11_convert 0 = .ok (.aload_n 0, 1) := by decide +kernel
theorem dX11_convert_1 : decode cX11_convert 1 = .ok (.iconst 0, 1) := by decide +kernel
theorem dX11_convert_2 : decode cX11_convert 2 = .ok (.putfield 239, 3) := by decide +kernel
theorem dX11_convert_5 : decode cX11_convert 5 = .ok (.aload_n 0, 1) := by decide +kernel
theorem dX11_convert_6 : decode cX11_convert 6 = .ok (.iconst (-1), 1) := by decide +kernel
theorem dX11_convert_7 : decode cX11_convert 7 = .ok (.putfield 242, 3) := by decide +kernel
theorem dX11_convert_10 : decode cX11_convert 10 = .ok (.aload_n 0, 1) := by decide +kernel
theorem dX11_convert_11 : decode cX11_convert 11 = .ok (.aload_n 0, 1) := by decide +kernel
theorem dX11_convert_12 : decode cX11_convert 12 = .ok (.iconst 0, 1) := by decide +kernel
theorem dX11_convert_13 : decode cX11_convert 13 = .ok (.iload_n 1, 1) := by decide +kernel
theorem dX11_convert_14 : decode cX11_convert 14 = .ok (.iload_n 2, 1) := by decide +kernel
theorem dX11_convert_15 : decode cX11_convert 15 = .ok (.invokevirtual 245, 3) := by decide +kernel
theorem dX11_convert_18 : decode cX11_convert 18 = .ok (.putfield 249, 3) := by decide +kernel
theorem dX11_convert_21 : decode cX11_convert 21 = .ok (.aload_n 0, 1) := by decide +kernel
theorem dX11_convert_22 : decode cX11_convert 22 = .ok (.getfield 249, 3) := by decide +kernel
theorem dX11_convert_25 : decode cX11_convert 25 = .ok (.ifCond .lt 21, 3) := by decide +kernel
theorem dX11_convert_28 : decode cX11_convert 28 = .ok (.aload_n 0, 1) := by decide +kernel
theorem dX11_convert_29 : decode cX11_convert 29 = .ok (.aload_n 0, 1) := by decide +kernel
theorem dX11_convert_30 : decode cX11_convert 30 = .ok (.getfield 249, 3) := by decide +kernel
theorem dX11_convert_33 : decode cX11_convert 33 = .ok (.iload_n 2, 1) := by decide +kernel
theorem dX11_convert_34 : decode cX11_convert 34 = .ok (.ifCond .ne 7, 3) := by decide +kernel
theorem dX11_convert_37 : decode cX11_convert 37 = .ok (.iconst 1, 1) := by decide +kernel
theorem dX11_convert_38 : decode cX11_convert 38 = .ok (.goto 4, 3) := by decide +kernel
theorem dX11_convert_41 : decode cX11_convert 41 = .ok (.iconst 0, 1) := by decide +kernel
theorem dX11_convert_42 : decode cX11_convert 42 = .ok (.invokevirtual 252, 3) := by decide +kernel
theorem dX11_convert_45 : decode cX11_convert 45 = .ok (.return_, 1) := by decide +kernel
theorem dX11_convert_46 : decode cX11_convert 46 = .ok (.aload_n 0, 1) := by decide +kernel
theorem dX11_convert_47 : decode cX11_convert 47 = .ok (.aload_n 0, 1) := by decide +kernel
theorem dX11_convert_48 : decode cX11_convert 48 = .ok (.iconst 1, 1) := by decide +kernel
theorem dX11_convert_49 : decode cX11_convert 49 = .ok (.iload_n 1, 1) := by decide +kernel
theorem dX11_convert_50 : decode cX11_convert 50 = .ok (.iload_n 2, 1) := by decide +kernel
theorem dX11_convert_51 : decode cX11_convert 51 = .ok (.invokevirtual 245, 3) := by decide +kernel
theorem dX11_convert_54 : decode cX11_convert 54 = .ok (.putfield 249, 3) := by decide +kernel
theorem dX11_convert_57 : decode cX11_convert 57 = .ok (.aload_n 0, 1) := by decide +kernel
theorem dX11_convert_58 : decode cX11_convert 58 = .ok (.aload_n 0, 1) := by decide +kernel
theorem dX11_convert_59 : decode cX11_convert 59 = .ok (.iconst 2, 1) := by decide +kernel
theorem dX11_convert_60 : decode cX11_convert 60 = .ok (.iload_n 1, 1) := by decide +kernel
theorem dX11_convert_61 : decode cX11_convert 61 = .ok (.iload_n 2, 1) := by decide +kernel
theorem dX11_convert_62 : decode cX11_convert 62 = .ok (.invokevirtual 245, 3) := by decide +kernel
theorem dX11_convert_65 : decode cX11_convert 65 = .ok (.putfield 242, 3) := by decide +kernel
theorem dX11_convert_68 : decode cX11_convert 68 = .ok (.aload_n 0, 1) := by decide +kernel
theorem dX11_convert_69 : decode cX11_convert 69 = .ok (.getfield 249, 3) := by decide +kernel
theorem dX11_convert_72 : decode cX11_convert 72 = .ok (.ifCond .lt 81, 3) := by decide +kernel
theorem dX11_convert_75 : decode cX11_convert 75 = .ok (.aload_n 0, 1) := by decide +kernel
theorem dX11_convert_76 : decode cX11_convert 76 = .ok (.getfield 242, 3) := by decide +kernel
theorem dX11_convert_79 : decode cX11_convert 79 = .ok (.ifCond .lt 74, 3) := by decide +kernel
theorem dX11_convert_82 : decode cX11_convert 82 = .ok (.aload_n 0, 1) := by decide +kernel
theorem dX11_convert_83 : decode cX11_convert 83 = .ok (.aload_n 0, 1) := by decide +kernel
theorem dX11_convert_84 : decode cX11_convert 84 = .ok (.getfield 249, 3) := by decide +kernel
theorem dX11_convert_87 : decode cX11_convert 87 = .ok (.iload_n 2, 1) := by decide +kernel
theorem dX11_convert_88 : decode cX11_convert 88 = .ok (.invokevirtual 185, 3) := by decide +kernel
theorem dX11_convert_91 : decode cX11_convert 91 = .ok (.aload_n 0, 1) := by decide +kernel
theorem dX11_convert_92 : decode cX11_convert 92 = .ok (.aload_n 0, 1) := by decide +kernel
theorem dX11_convert_93 : decode cX11_convert 93 = .ok (.getfield 242, 3) := by decide +kernel
theorem dX11_convert_96 : decode cX11_convert 96 = .ok (.iload_n 2, 1) := by decide +kernel
theorem dX11_convert_97 : decode cX11_convert 97 = .ok (.invokevirtual 185, 3) := by decide +kernel
theorem dX11_convert_100 : decode cX11_convert 100 = .ok (.iadd, 1) := by decide +kernel
theorem dX11_convert_101 : decode cX11_convert 101 = .ok (.aload_n 0, 1) := by decide +kernel
theorem dX11_convert_102 : decode cX11_convert 102 = .ok (.getfield 233, 3) := by decide +kernel
theorem dX11_convert_105 : decode cX11_convert 105 = .ok (.if_icmp .le 48, 3) := by decide +kernel
theorem dX11_convert_108 : decode cX11_convert 108 = .ok (.aload_n 0, 1) := by decide +kernel
theorem dX11_convert_109 : decode cX11_convert 109 = .ok (.aload_n 0, 1) := by decide +kernel
theorem dX11_convert_110 : decode cX11_convert 110 = .ok (.getfield 249, 3) := by decide +kernel
theorem dX11_convert_113 : decode cX11_convert 113 = .ok (.aload_n 0, 1) := by decide +kernel
theorem dX11_convert_114 : decode cX11_convert 114 = .ok (.getfield 242, 3) := by decide +kernel
theorem dX11_convert_117 : decode cX11_convert 117 = .ok (.invokevirtual 178, 3) := by decide +kernel
theorem dX11_convert_120 : decode cX11_convert 120 = .ok (.istore_n 3, 1) := by decide +kernel
theorem dX11_convert_121 : decode cX11_convert 121 = .ok (.aload_n 0, 1) := by decide +kernel
theorem dX11_convert_122 : decode cX11_convert 122 = .ok (.iload_n 3, 1) := by decide +kernel
theorem dX11_convert_123 : decode cX11_convert 123 = .ok (.ifCond .eq 10, 3) := by decide +kernel
theorem dX11_convert_126 : decode cX11_convert 126 = .ok (.aload_n 0, 1) := by decide +kernel
theorem dX11_convert_127 : decode cX11_convert 127 = .ok (.getfield 249, 3) := by decide +kernel
theorem dX11_convert_130 : decode cX11_convert 130 = .ok (.goto 4, 3) := by decide +kernel
theorem dX11_convert_133 : decode cX11_convert 133 = .ok (.iconst (-1), 1) := by decide +kernel
theorem dX11_convert_134 : decode cX11_convert 134 = .ok (.putfield 249, 3) := by decide +kernel
theorem dX11_convert_137 : decode cX11_convert 137 = .ok (.aload_n 0, 1) := by decide +kernel
theorem dX11_convert_138 : decode cX11_convert 138 = .ok (.iload_n 3, 1) := by decide +kernel
theorem dX11_convert_139 : decode cX11_convert 139 = .ok (.ifCond .eq 7, 3) := by decide +kernel
theorem dX11_convert_142 : decode cX11_convert 142 = .ok (.iconst (-1), 1) := by decide +kernel
theorem dX11_convert_143 : decode cX11_convert 143 = .ok (.goto 7, 3) := by decide +kernel
theorem dX11_convert_146 : decode cX11_convert 146 = .ok (.aload_n 0, 1) := by decide +kernel
theorem dX11_convert_147 : decode cX11_convert 147 = .ok (.getfield 242, 3) := by decide +kernel
theorem dX11_convert_150 : decode cX11_convert 150 = .ok (.putfield 242, 3) := by decide +kernel
theorem dX11_convert_153 : decode cX11_convert 153 = .ok (.aload_n 0, 1) := by decide +kernel
theorem dX11_convert_154 : decode cX11_convert 154 = .ok (.getfield 249, 3) := by decide +kernel
theorem dX11_convert_157 : decode cX11_convert 157 = .ok (.ifCond .ge 7, 3) := by decide +kernel
theorem dX11_convert_160 : decode cX11_convert 160 = .ok (.iconst 0, 1) := by decide +kernel
theorem dX11_convert_161 : decode cX11_convert 161 = .ok (.goto 12, 3) := by decide +kernel
theorem dX11_convert_164 : decode cX11_convert 164 = .ok (.aload_n 0, 1) := by decide +kernel
theorem dX11_convert_165 : decode cX11_convert 165 = .ok (.aload_n 0, 1) := by decide +kernel
theorem dX11_convert_166 : decode cX11_convert 166 = .ok (.getfield 249, 3) := by decide +kernel
theorem dX11_convert_169 : decode cX11_convert 169 = .ok (.iload_n 2, 1) := by decide +kernel
theorem dX11_convert_170 : decode cX11_convert 170 = .ok (.invokevirtual 185, 3) := by decide +kernel
theorem dX11_convert_173 : decode cX11_convert 173 = .ok (.istore_n 3, 1) := by decide +kernel
theorem dX11_convert_174 : decode cX11_convert 174 = .ok (.aload_n 0, 1) := by decide +kernel
theorem dX11_convert_175 : decode cX11_convert 175 = .ok (.getfield 233, 3) := by decide +kernel
theorem dX11_convert_178 : decode cX11_convert 178 = .ok (.aload_n 0, 1) := by decide +kernel
theorem dX11_convert_179 : decode cX11_convert 179 = .ok (.getfield 242, 3) := by decide +kernel
theorem dX11_convert_182 : decode cX11_convert 182 = .ok (.ifCond .ge 7, 3) := by decide +kernel
theorem dX11_convert_185 : decode cX11_convert 185 = .ok (.iconst 0, 1) := by decide +kernel
theorem dX11_convert_186 : decode cX11_convert 186 = .ok (.goto 12, 3) := by decide +kernel
theorem dX11_convert_189 : decode cX11_convert 189 = .ok (.aload_n 0, 1) := by decide +kernel
theorem dX11_convert_190 : decode cX11_convert 190 = .ok (.aload_n 0, 1) := by decide +kernel
theorem dX11_convert_191 : decode cX11_convert 191 = .ok (.getfield 242, 3) := by decide +kernel
theorem dX11_convert_194 : decode cX11_convert 194 = .ok (.iload_n 2, 1) := by decide +kernel
theorem dX11_convert_195 : decode cX11_convert 195 = .ok (.invokevirtual 185, 3) := by decide +kernel
theorem dX11_convert_198 : decode cX11_convert 198 = .ok (.isub, 1) := by decide +kernel
theorem dX11_convert_199 : decode cX11_convert 199 = .ok (.istore 4, 2) := by decide +kernel
theorem dX11_convert_201 : decode cX11_convert 201 = .ok (.aload_n 0, 1) := by decide +kernel
theorem dX11_convert_202 : decode cX11_convert 202 = .ok (.aload_n 0, 1) := by decide +kernel
theorem dX11_convert_203 : decode cX11_convert 203 = .ok (.getfield 249, 3) := by decide +kernel
theorem dX11_convert_206 : decode cX11_convert 206 = .ok (.iload_n 2, 1) := by decide +kernel
theorem dX11_convert_207 : decode cX11_convert 207 = .ok (.ifCond .ne 7, 3) := by decide +kernel
theorem dX11_convert_210 : decode cX11_convert 210 = .ok (.iconst 1, 1) := by decide +kernel
theorem dX11_convert_211 : decode cX11_convert 211 = .ok (.goto 4, 3) := by decide +kernel
theorem dX11_convert_214 : decode cX11_convert 214 = .ok (.iconst 0, 1) := by decide +kernel
theorem dX11_convert_215 : decode cX11_convert 215 = .ok (.invokevirtual 252, 3) := by decide +kernel
theorem dX11_convert_218 : decode cX11_convert 218 = .ok (.iload_n 3, 1) := by decide +kernel
theorem dX11_convert_219 : decode cX11_convert 219 = .ok (.istore 5, 2) := by decide +kernel
theorem dX11_convert_221 : decode cX11_convert 221 = .ok (.iload 5, 2) := by decide +kernel
theorem dX11_convert_223 : decode cX11_convert 223 = .ok (.iload 4, 2) := by decide +kernel
theorem dX11_convert_225 : decode cX11_convert 225 = .ok (.if_icmp .ge 35, 3) := by decide +kernel
theorem dX11_convert_228 : decode cX11_convert 228 = .ok (.aload_n 0, 1) := by decide +kernel
theorem dX11_convert_229 : decode cX11_convert 229 = .ok (.getfield 42, 3) := by decide +kernel
theorem dX11_convert_232 : decode cX11_convert 232 = .ok (.aload_n 0, 1) := by decide +kernel
theorem dX11_convert_233 : decode cX11_convert 233 = .ok (.getfield 239, 3) := by decide +kernel
theorem dX11_convert_236 : decode cX11_convert 236 = .ok (.aload_n 0, 1) := by decide +kernel
theorem dX11_convert_237 : decode cX11_convert 237 = .ok (.getfield 39, 3) := by decide +kernel
theorem dX11_convert_240 : decode cX11_convert 240 = .ok (.iload 5, 2) := by decide +kernel
theorem dX11_convert_242 : decode cX11_convert 242 = .ok (.iaload, 1) := by decide +kernel
theorem dX11_convert_243 : decode cX11_convert 243 = .ok (.iastore, 1) := by decide +kernel
theorem dX11_convert_244 : decode cX11_convert 244 = .ok (.aload_n 0, 1) := by decide +kernel
theorem dX11_convert_245 : decode cX11_convert 245 = .ok (.dup, 1) := by decide +kernel
theorem dX11_convert_246 : decode cX11_convert 246 = .ok (.getfield 239, 3) := by decide +kernel
theorem dX11_convert_249 : decode cX11_convert 249 = .ok (.iconst 1, 1) := by decide +kernel
theorem dX11_convert_250 : decode cX11_convert 250 = .ok (.iadd, 1) := by decide +kernel
theorem dX11_convert_251 : decode cX11_convert 251 = .ok (.putfield 239, 3) := by decide +kernel
theorem dX11_convert_254 : decode cX11_convert 254 = .ok (.iinc 5 1, 3) := by decide +kernel
theorem dX11_convert_257 : decode cX11_convert 257 = .ok (.goto (-36), 3) := by decide +kernel
theorem dX11_convert_260 : decode cX11_convert 260 = .ok (.aload_n 0, 1) := by decide +kernel
theorem dX11_convert_261 : decode cX11_convert 261 = .ok (.aload_n 0, 1) := by decide +kernel
theorem dX11_convert_262 : decode cX11_convert 262 = .ok (.getfield 242, 3) := by decide +kernel
theorem dX11_convert_265 : decode cX11_convert 265 = .ok (.iload_n 2, 1) := by decide +kernel
theorem dX11_convert_266 : decode cX11_convert 266 = .ok (.ifCond .ne 7, 3) := by decide +kernel
theorem dX11_convert_269 : decode cX11_convert 269 = .ok (.iconst 1, 1) := by decide +kernel
theorem dX11_convert_270 : decode cX11_convert 270 = .ok (.goto 4, 3) := by decide +kernel
theorem dX11_convert_273 : decode cX11_convert 273 = .ok (.iconst 0, 1) := by decide +kernel
theorem dX11_convert_274 : decode cX11_convert 274 = .ok (.invokevirtual 252, 3) := by decide +kernel
theorem dX11_convert_277 : decode cX11_convert 277 = .ok (.return_, 1) := by decide +kernel
theorem dX11_takeWord_0 : decode cX11_takeWord 0 = .ok (.aload_n 0, 1) := by decide +kernel
theorem dX11_takeWord_1 : decode cX11_takeWord 1 = .ok (.aload_n 0, 1) := by decide +kernel
theorem dX11_takeWord_2 : decode cX11_takeWord 2 = .ok (.getfield 32, 3) := by decide +kernel
theorem dX11_takeWord_5 : decode cX11_takeWord 5 = .ok (.iload_n 1, 1) := by decide +kernel
theorem dX11_takeWord_6 : decode cX11_takeWord 6 = .ok (.iaload, 1) := by decide +kernel
theorem dX11_takeWord_7 : decode cX11_takeWord 7 = .ok (.putfield 233, 3) := by decide +kernel
theorem dX11_takeWord_10 : decode cX11_takeWord 10 = .ok (.iconst 0, 1) := by decide +kernel
theorem dX11_takeWord_11 : decode cX11_takeWord 11 = .ok (.istore_n 2, 1) := by decide +kernel
theorem dX11_takeWord_12 : decode cX11_takeWord 12 = .ok (.iload_n 2, 1) := by decide +kernel
theorem dX11_takeWord_13 : decode cX11_takeWord 13 = .ok (.aload_n 0, 1) := by decide +kernel
theorem dX11_takeWord_14 : decode cX11_takeWord 14 = .ok (.getfield 233, 3) := by decide +kernel
theorem dX11_takeWord_17 : decode cX11_takeWord 17 = .ok (.if_icmp .ge 28, 3) := by decide +kernel
theorem dX11_takeWord_20 : decode cX11_takeWord 20 = .ok (.aload_n 0, 1) := by decide +kernel
theorem dX11_takeWord_21 : decode cX11_takeWord 21 = .ok (.getfield 39, 3) := by decide +kernel
theorem dX11_takeWord_24 : decode cX11_takeWord 24 = .ok (.iload_n 2, 1) := by decide +kernel
theorem dX11_takeWord_25 : decode cX11_takeWord 25 = .ok (.aload_n 0, 1) := by decide +kernel
theorem dX11_takeWord_26 : decode cX11_takeWord 26 = .ok (.getfield 48, 3) := by decide +kernel
theorem dX11_takeWord_29 : decode cX11_takeWord 29 = .ok (.aload_n 0, 1) := by decide +kernel
theorem dX11_takeWord_30 : decode cX11_takeWord 30 = .ok (.getfield 29, 3) := by decide +kernel
theorem dX11_takeWord_33 : decode cX11_takeWord 33 = .ok (.iload_n 1, 1) := by decide +kernel
theorem dX11_takeWord_34 : decode cX11_takeWord 34 = .ok (.iaload, 1) := by decide +kernel
theorem dX11_takeWord_35 : decode cX11_takeWord 35 = .ok (.iload_n 2, 1) := by decide +kernel
theorem dX11_takeWord_36 : decode cX11_takeWord 36 = .ok (.iadd, 1) := by decide +kernel
theorem dX11_takeWord_37 : decode cX11_takeWord 37 = .ok (.caload, 1) := by decide +kernel
theorem dX11_takeWord_38 : decode cX11_takeWord 38 = .ok (.iastore, 1) := by decide +kernel
theorem dX11_takeWord_39 : decode cX11_takeWord 39 = .ok (.iinc 2 1, 3) := by decide +kernel
theorem dX11_takeWord_42 : decode cX11_takeWord 42 = .ok (.goto (-30), 3) := by decide +kernel
theorem dX11_takeWord_45 : decode cX11_takeWord 45 = .ok (.return_, 1) := by decide +kernel
theorem dX11_takeMade_0 : decode cX11_takeMade 0 = .ok (.aload_n 0, 1) := by decide +kernel
theorem dX11_takeMade_1 : decode cX11_takeMade 1 = .ok (.aload_n 0, 1) := by decide +kernel
theorem dX11_takeMade_2 : decode cX11_takeMade 2 = .ok (.getfield 239, 3) := by decide +kernel
theorem dX11_takeMade_5 : decode cX11_takeMade 5 = .ok (.putfield 233, 3) := by decide +kernel
theorem dX11_takeMade_8 : decode cX11_takeMade 8 = .ok (.iconst 0, 1) := by decide +kernel
theorem dX11_takeMade_9 : decode cX11_takeMade 9 = .ok (.istore_n 1, 1) := by decide +kernel
theorem dX11_takeMade_10 : decode cX11_takeMade 10 = .ok (.iload_n 1, 1) := by decide +kernel
theorem dX11_takeMade_11 : decode cX11_takeMade 11 = .ok (.aload_n 0, 1) := by decide +kernel
theorem dX11_takeMade_12 : decode cX11_takeMade 12 = .ok (.getfield 239, 3) := by decide +kernel
theorem dX11_takeMade_15 : decode cX11_takeMade 15 = .ok (.if_icmp .ge 21, 3) := by decide +kernel
theorem dX11_takeMade_18 : decode cX11_takeMade 18 = .ok (.aload_n 0, 1) := by decide +kernel
theorem dX11_takeMade_19 : decode cX11_takeMade 19 = .ok (.getfield 39, 3) := by decide +kernel
theorem dX11_takeMade_22 : decode cX11_takeMade 22 = .ok (.iload_n 1, 1) := by decide +kernel
theorem dX11_takeMade_23 : decode cX11_takeMade 23 = .ok (.aload_n 0, 1) := by decide +kernel
theorem dX11_takeMade_24 : decode cX11_takeMade 24 = .ok (.getfield 42, 3) := by decide +kernel
theorem dX11_takeMade_27 : decode cX11_takeMade 27 = .ok (.iload_n 1, 1) := by decide +kernel
theorem dX11_takeMade_28 : decode cX11_takeMade 28 = .ok (.iaload, 1) := by decide +kernel
theorem dX11_takeMade_29 : decode cX11_takeMade 29 = .ok (.iastore, 1) := by decide +kernel
theorem dX11_takeMade_30 : decode cX11_takeMade 30 = .ok (.iinc 1 1, 3) := by decide +kernel
theorem dX11_takeMade_33 : decode cX11_takeMade 33 = .ok (.goto (-23), 3) := by decide +kernel
theorem dX11_takeMade_36 : decode cX11_takeMade 36 = .ok (.return_, 1) := by decide +kernel
theorem dX11_isMade_0 : decode cX11_isMade 0 = .ok (.aload_n 0, 1) := by decide +kernel
theorem dX11_isMade_1 : decode cX11_isMade 1 = .ok (.getfield 239, 3) := by decide +kernel
theorem dX11_isMade_4 : decode cX11_isMade 4 = .ok (.aload_n 0, 1) := by decide +kernel
theorem dX11_isMade_5 : decode cX11_isMade 5 = .ok (.getfield 32, 3) := by decide +kernel
theorem dX11_isMade_8 : decode cX11_isMade 8 = .ok (.iload_n 1, 1) := by decide +kernel
theorem dX11_isMade_9 : decode cX11_isMade 9 = .ok (.iaload, 1) := by decide +kernel
theorem dX11_isMade_10 : decode cX11_isMade 10 = .ok (.if_icmp .ne 7, 3) := by decide +kernel
theorem dX11_isMade_13 : decode cX11_isMade 13 = .ok (.iconst 1, 1) := by decide +kernel
theorem dX11_isMade_14 : decode cX11_isMade 14 = .ok (.goto 4, 3) := by decide +kernel
theorem dX11_isMade_17 : decode cX11_isMade 17 = .ok (.iconst 0, 1) := by decide +kernel
theorem dX11_isMade_18 : decode cX11_isMade 18 = .ok (.istore_n 2, 1) := by decide +kernel
theorem dX11_isMade_19 : decode cX11_isMade 19 = .ok (.iconst 0, 1) := by decide +kernel
theorem dX11_isMade_20 : decode cX11_isMade 20 = .ok (.istore_n 3, 1) := by decide +kernel
theorem dX11_isMade_21 : decode cX11_isMade 21 = .ok (.iload_n 2, 1) := by decide +kernel
theorem dX11_isMade_22 : decode cX11_isMade 22 = .ok (.ifCond .eq 45, 3) := by decide +kernel
theorem dX11_isMade_25 : decode cX11_isMade 25 = .ok (.iload_n 3, 1) := by decide +kernel
theorem dX11_isMade_26 : decode cX11_isMade 26 = .ok (.aload_n 0, 1) := by decide +kernel
theorem dX11_isMade_27 : decode cX11_isMade 27 = .ok (.getfield 239, 3) := by decide +kernel
theorem dX11_isMade_30 : decode cX11_isMade 30 = .ok (.if_icmp .ge 37, 3) := by decide +kernel
theorem dX11_isMade_33 : decode cX11_isMade 33 = .ok (.aload_n 0, 1) := by decide +kernel
theorem dX11_isMade_34 : decode cX11_isMade 34 = .ok (.getfield 42, 3) := by decide +kernel
theorem dX11_isMade_37 : decode cX11_isMade 37 = .ok (.iload_n 3, 1) := by decide +kernel
theorem dX11_isMade_38 : decode cX11_isMade 38 = .ok (.iaload, 1) := by decide +kernel
theorem dX11_isMade_39 : decode cX11_isMade 39 = .ok (.aload_n 0, 1) := by decide +kernel
theorem dX11_isMade_40 : decode cX11_isMade 40 = .ok (.getfield 48, 3) := by decide +kernel
theorem dX11_isMade_43 : decode cX11_isMade 43 = .ok (.aload_n 0, 1) := by decide +kernel
theorem dX11_isMade_44 : decode cX11_isMade 44 = .ok (.getfield 29, 3) := by decide +kernel
theorem dX11_isMade_47 : decode cX11_isMade 47 = .ok (.iload_n 1, 1) := by decide +kernel
theorem dX11_isMade_48 : decode cX11_isMade 48 = .ok (.iaload, 1) := by decide +kernel
theorem dX11_isMade_49 : decode cX11_isMade 49 = .ok (.iload_n 3, 1) := by decide +kernel
theorem dX11_isMade_50 : decode cX11_isMade 50 = .ok (.iadd, 1) := by decide +kernel
theorem dX11_isMade_51 : decode cX11_isMade 51 = .ok (.caload, 1) := by decide +kernel
theorem dX11_isMade_52 : decode cX11_isMade 52 = .ok (.if_icmp .ne 7, 3) := by decide +kernel
theorem dX11_isMade_55 : decode cX11_isMade 55 = .ok (.iconst 1, 1) := by decide +kernel
theorem dX11_isMade_56 : decode cX11_isMade 56 = .ok (.goto 4, 3) := by decide +kernel
theorem dX11_isMade_59 : decode cX11_isMade 59 = .ok (.iconst 0, 1) := by decide +kernel
theorem dX11_isMade_60 : decode cX11_isMade 60 = .ok (.istore_n 2, 1) := by decide +kernel
theorem dX11_isMade_61 : decode cX11_isMade 61 = .ok (.iinc 3 1, 3) := by decide +kernel
theorem dX11_isMade_64 : decode cX11_isMade 64 = .ok (.goto (-43), 3) := by decide +kernel
theorem dX11_isMade_67 : decode cX11_isMade 67 = .ok (.iload_n 2, 1) := by decide +kernel
theorem dX11_isMade_68 : decode cX11_isMade 68 = .ok (.ireturn, 1) := by decide +kernel
theorem dX11_doneBy_0 : decode cX11_doneBy 0 = .ok (.aload_n 0, 1) := by decide +kernel
theorem dX11_doneBy_1 : decode cX11_doneBy 1 = .ok (.getfield 249, 3) := by decide +kernel
theorem dX11_doneBy_4 : decode cX11_doneBy 4 = .ok (.ifCond .ge 12, 3) := by decide +kernel
theorem dX11_doneBy_7 : decode cX11_doneBy 7 = .ok (.aload_n 0, 1) := by decide +kernel
theorem dX11_doneBy_8 : decode cX11_doneBy 8 = .ok (.getfield 242, 3) := by decide +kernel
theorem dX11_doneBy_11 : decode cX11_doneBy 11 = .ok (.ifCond .ge 5, 3) := by decide +kernel
theorem dX11_doneBy_14 : decode cX11_doneBy 14 = .ok (.iconst 0, 1) := by decide +kernel
theorem dX11_doneBy_15 : decode cX11_doneBy 15 = .ok (.ireturn, 1) := by decide +kernel
theorem dX11_doneBy_16 : decode cX11_doneBy 16 = .ok (.aload_n 0, 1) := by decide +kernel
theorem dX11_doneBy_17 : decode cX11_doneBy 17 = .ok (.getfield 249, 3) := by decide +kernel
theorem dX11_doneBy_20 : decode cX11_doneBy 20 = .ok (.ifCond .ge 7, 3) := by decide +kernel
theorem dX11_doneBy_23 : decode cX11_doneBy 23 = .ok (.iconst 3, 1) := by decide +kernel
theorem dX11_doneBy_24 : decode cX11_doneBy 24 = .ok (.goto 31, 3) := by decide +kernel
theorem dX11_doneBy_27 : decode cX11_doneBy 27 = .ok (.aload_n 0, 1) := by decide +kernel
theorem dX11_doneBy_28 : decode cX11_doneBy 28 = .ok (.getfield 242, 3) := by decide +kernel
theorem dX11_doneBy_31 : decode cX11_doneBy 31 = .ok (.ifCond .lt 7, 3) := by decide +kernel
theorem dX11_doneBy_34 : decode cX11_doneBy 34 = .ok (.iconst 4, 1) := by decide +kernel
theorem dX11_doneBy_35 : decode cX11_doneBy 35 = .ok (.goto 20, 3) := by decide +kernel
theorem dX11_doneBy_38 : decode cX11_doneBy 38 = .ok (.aload_n 0, 1) := by decide +kernel
theorem dX11_doneBy_39 : decode cX11_doneBy 39 = .ok (.aload_n 0, 1) := by decide +kernel
theorem dX11_doneBy_40 : decode cX11_doneBy 40 = .ok (.getfield 249, 3) := by decide +kernel
theorem dX11_doneBy_43 : decode cX11_doneBy 43 = .ok (.iconst 0, 1) := by decide +kernel
theorem dX11_doneBy_44 : decode cX11_doneBy 44 = .ok (.invokevirtual 99, 3) := by decide +kernel
theorem dX11_doneBy_47 : decode cX11_doneBy 47 = .ok (.ifCond .ne 7, 3) := by decide +kernel
theorem dX11_doneBy_50 : decode cX11_doneBy 50 = .ok (.iconst 1, 1) := by decide +kernel
theorem dX11_doneBy_51 : decode cX11_doneBy 51 = .ok (.goto 4, 3) := by decide +kernel
theorem dX11_doneBy_54 : decode cX11_doneBy 54 = .ok (.iconst 2, 1) := by decide +kernel
theorem dX11_doneBy_55 : decode cX11_doneBy 55 = .ok (.ireturn, 1) := by decide +kernel
theorem dX11_useNone_0 : decode cX11_useNone 0 = .ok (.aload_n 0, 1) := by decide +kernel
theorem dX11_useNone_1 : decode cX11_useNone 1 = .ok (.iload_n 1, 1) := by decide +kernel
theorem dX11_useNone_2 : decode cX11_useNone 2 = .ok (.putfield 255, 3) := by decide +kernel
theorem dX11_useNone_5 : decode cX11_useNone 5 = .ok (.aload_n 0, 1) := by decide +kernel
theorem dX11_useNone_6 : decode cX11_useNone 6 = .ok (.iconst (-1), 1) := by decide +kernel
theorem dX11_useNone_7 : decode cX11_useNone 7 = .ok (.putfield 258, 3) := by decide +kernel
theorem dX11_useNone_10 : decode cX11_useNone 10 = .ok (.aload_n 0, 1) := by decide +kernel
theorem dX11_useNone_11 : decode cX11_useNone 11 = .ok (.iconst (-1), 1) := by decide +kernel
theorem dX11_useNone_12 : decode cX11_useNone 12 = .ok (.putfield 261, 3) := by decide +kernel
theorem dX11_useNone_15 : decode cX11_useNone 15 = .ok (.return_, 1) := by decide +kernel
theorem dX11_abbreviateWord_0 : decode cX11_abbreviateWord 0 = .ok (.aload_n 0, 1) := by decide +kernel
theorem dX11_abbreviateWord_1 : decode cX11_abbreviateWord 1 = .ok (.iload_n 1, 1) := by decide +kernel
theorem dX11_abbreviateWord_2 : decode cX11_abbreviateWord 2 = .ok (.invokevirtual 264, 3) := by decide +kernel
theorem dX11_abbreviateWord_5 : decode cX11_abbreviateWord 5 = .ok (.aload_n 0, 1) := by decide +kernel
theorem dX11_abbreviateWord_6 : decode cX11_abbreviateWord 6 = .ok (.iload_n 2, 1) := by decide +kernel
theorem dX11_abbreviateWord_7 : decode cX11_abbreviateWord 7 = .ok (.iconst 1, 1) := by decide +kernel
theorem dX11_abbreviateWord_8 : decode cX11_abbreviateWord 8 = .ok (.invokevirtual 267, 3) := by decide +kernel
theorem dX11_abbreviateWord_11 : decode cX11_abbreviateWord 11 = .ok (.aload_n 0, 1) := by decide +kernel
theorem dX11_abbreviateWord_12 : decode cX11_abbreviateWord 12 = .ok (.aload_n 0, 1) := by decide +kernel
theorem dX11_abbreviateWord_13 : decode cX11_abbreviateWord 13 = .ok (.invokevirtual 270, 3) := by decide +kernel
theorem dX11_abbreviateWord_16 : decode cX11_abbreviateWord 16 = .ok (.putfield 255, 3) := by decide +kernel
theorem dX11_abbreviateWord_19 : decode cX11_abbreviateWord 19 = .ok (.aload_n 0, 1) := by decide +kernel
theorem dX11_abbreviateWord_20 : decode cX11_abbreviateWord 20 = .ok (.aload_n 0, 1) := by decide +kernel
theorem dX11_abbreviateWord_21 : decode cX11_abbreviateWord 21 = .ok (.getfield 249, 3) := by decide +kernel
theorem dX11_abbreviateWord_24 : decode cX11_abbreviateWord 24 = .ok (.putfield 258, 3) := by decide +kernel
theorem dX11_abbreviateWord_27 : decode cX11_abbreviateWord 27 = .ok (.aload_n 0, 1) := by decide +kernel
theorem dX11_abbreviateWord_28 : decode cX11_abbreviateWord 28 = .ok (.aload_n 0, 1) := by decide +kernel
theorem dX11_abbreviateWord_29 : decode cX11_abbreviateWord 29 = .ok (.getfield 242, 3) := by decide +kernel
theorem dX11_abbreviateWord_32 : decode cX11_abbreviateWord 32 = .ok (.putfield 261, 3) := by decide +kernel
theorem dX11_abbreviateWord_35 : decode cX11_abbreviateWord 35 = .ok (.aload_n 0, 1) := by decide +kernel
theorem dX11_abbreviateWord_36 : decode cX11_abbreviateWord 36 = .ok (.invokevirtual 274, 3) := by decide +kernel
theorem dX11_abbreviateWord_39 : decode cX11_abbreviateWord 39 = .ok (.aload_n 0, 1) := by decide +kernel
theorem dX11_abbreviateWord_40 : decode cX11_abbreviateWord 40 = .ok (.getfield 9, 3) := by decide +kernel
theorem dX11_abbreviateWord_43 : decode cX11_abbreviateWord 43 = .ok (.iconst 2, 1) := by decide +kernel
theorem dX11_abbreviateWord_44 : decode cX11_abbreviateWord 44 = .ok (.iaload, 1) := by decide +kernel
theorem dX11_abbreviateWord_45 : decode cX11_abbreviateWord 45 = .ok (.iconst 1, 1) := by decide +kernel
theorem dX11_abbreviateWord_46 : decode cX11_abbreviateWord 46 = .ok (.if_icmp .ne 65, 3) := by decide +kernel
theorem dX11_abbreviateWord_49 : decode cX11_abbreviateWord 49 = .ok (.aload_n 0, 1) := by decide +kernel
theorem dX11_abbreviateWord_50 : decode cX11_abbreviateWord 50 = .ok (.invokevirtual 277, 3) := by decide +kernel
theorem dX11_abbreviateWord_53 : decode cX11_abbreviateWord 53 = .ok (.aload_n 0, 1) := by decide +kernel
theorem dX11_abbreviateWord_54 : decode cX11_abbreviateWord 54 = .ok (.iload_n 2, 1) := by decide +kernel
theorem dX11_abbreviateWord_55 : decode cX11_abbreviateWord 55 = .ok (.iconst 0, 1) := by decide +kernel
theorem dX11_abbreviateWord_56 : decode cX11_abbreviateWord 56 = .ok (.invokevirtual 267, 3) := by decide +kernel
theorem dX11_abbreviateWord_59 : decode cX11_abbreviateWord 59 = .ok (.aload_n 0, 1) := by decide +kernel
theorem dX11_abbreviateWord_60 : decode cX11_abbreviateWord 60 = .ok (.iload_n 1, 1) := by decide +kernel
theorem dX11_abbreviateWord_61 : decode cX11_abbreviateWord 61 = .ok (.invokevirtual 280, 3) := by decide +kernel
theorem dX11_abbreviateWord_64 : decode cX11_abbreviateWord 64 = .ok (.ifCond .ne 47, 3) := by decide +kernel
theorem dX11_abbreviateWord_67 : decode cX11_abbreviateWord 67 = .ok (.aload_n 0, 1) := by decide +kernel
theorem dX11_abbreviateWord_68 : decode cX11_abbreviateWord 68 = .ok (.iload_n 1, 1) := by decide +kernel
theorem dX11_abbreviateWord_69 : decode cX11_abbreviateWord 69 = .ok (.invokevirtual 264, 3) := by decide +kernel
theorem dX11_abbreviateWord_72 : decode cX11_abbreviateWord 72 = .ok (.aload_n 0, 1) := by decide +kernel
theorem dX11_abbreviateWord_73 : decode cX11_abbreviateWord 73 = .ok (.invokevirtual 283, 3) := by decide +kernel
theorem dX11_abbreviateWord_76 : decode cX11_abbreviateWord 76 = .ok (.aload_n 0, 1) := by decide +kernel
theorem dX11_abbreviateWord_77 : decode cX11_abbreviateWord 77 = .ok (.iload_n 2, 1) := by decide +kernel
theorem dX11_abbreviateWord_78 : decode cX11_abbreviateWord 78 = .ok (.iconst 0, 1) := by decide +kernel
theorem dX11_abbreviateWord_79 : decode cX11_abbreviateWord 79 = .ok (.invokevirtual 267, 3) := by decide +kernel
theorem dX11_abbreviateWord_82 : decode cX11_abbreviateWord 82 = .ok (.aload_n 0, 1) := by decide +kernel
theorem dX11_abbreviateWord_83 : decode cX11_abbreviateWord 83 = .ok (.aload_n 0, 1) := by decide +kernel
theorem dX11_abbreviateWord_84 : decode cX11_abbreviateWord 84 = .ok (.iload_n 1, 1) := by decide +kernel
theorem dX11_abbreviateWord_85 : decode cX11_abbreviateWord 85 = .ok (.invokevirtual 280, 3) := by decide +kernel
theorem dX11_abbreviateWord_88 : decode cX11_abbreviateWord 88 = .ok (.ifCond .ne 7, 3) := by decide +kernel
theorem dX11_abbreviateWord_91 : decode cX11_abbreviateWord 91 = .ok (.iconst 5, 1) := by decide +kernel
theorem dX11_abbreviateWord_92 : decode cX11_abbreviateWord 92 = .ok (.goto 16, 3) := by decide +kernel
theorem dX11_abbreviateWord_95 : decode cX11_abbreviateWord 95 = .ok (.aload_n 0, 1) := by decide +kernel
theorem dX11_abbreviateWord_96 : decode cX11_abbreviateWord 96 = .ok (.getfield 255, 3) := by decide +kernel
theorem dX11_abbreviateWord_99 : decode cX11_abbreviateWord 99 = .ok (.ifCond .ne 7, 3) := by decide +kernel
theorem dX11_abbreviateWord_102 : decode cX11_abbreviateWord 102 = .ok (.iconst 0, 1) := by decide +kernel
theorem dX11_abbreviateWord_103 : decode cX11_abbreviateWord 103 = .ok (.goto 5, 3) := by decide +kernel
theorem dX11_abbreviateWord_106 : decode cX11_abbreviateWord 106 = .ok (.bipush 6, 2) := by decide +kernel
theorem dX11_abbreviateWord_108 : decode cX11_abbreviateWord 108 = .ok (.invokevirtual 286, 3) := by decide +kernel
theorem dX11_abbreviateWord_111 : decode cX11_abbreviateWord 111 = .ok (.return_, 1) := by decide +kernel
theorem dX11_keep_0 : decode cX11_keep 0 = .ok (.aload_n 0, 1) := by decide +kernel
theorem dX11_keep_1 : decode cX11_keep 1 = .ok (.aload_n 0, 1) := by decide +kernel
theorem dX11_keep_2 : decode cX11_keep 2 = .ok (.getfield 239, 3) := by decide +kernel
theorem dX11_keep_5 : decode cX11_keep 5 = .ok (.putfield 289, 3) := by decide +kernel
theorem dX11_keep_8 : decode cX11_keep 8 = .ok (.iconst 0, 1) := by decide +kernel
theorem dX11_keep_9 : decode cX11_keep 9 = .ok (.istore_n 1, 1) := by decide +kernel
theorem dX11_keep_10 : decode cX11_keep 10 = .ok (.iload_n 1, 1) := by decide +kernel
theorem dX11_keep_11 : decode cX11_keep 11 = .ok (.aload_n 0, 1) := by decide +kernel
theorem dX11_keep_12 : decode cX11_keep 12 = .ok (.getfield 239, 3) := by decide +kernel
theorem dX11_keep_15 : decode cX11_keep 15 = .ok (.if_icmp .ge 21, 3) := by decide +kernel
theorem dX11_keep_18 : decode cX11_keep 18 = .ok (.aload_n 0, 1) := by decide +kernel
theorem dX11_keep_19 : decode cX11_keep 19 = .ok (.getfield 45, 3) := by decide +kernel
theorem dX11_keep_22 : decode cX11_keep 22 = .ok (.iload_n 1, 1) := by decide +kernel
theorem dX11_keep_23 : decode cX11_keep 23 = .ok (.aload_n 0, 1) := by decide +kernel
theorem dX11_keep_24 : decode cX11_keep 24 = .ok (.getfield 42, 3) := by decide +kernel
theorem dX11_keep_27 : decode cX11_keep 27 = .ok (.iload_n 1, 1) := by decide +kernel
theorem dX11_keep_28 : decode cX11_keep 28 = .ok (.iaload, 1) := by decide +kernel
theorem dX11_keep_29 : decode cX11_keep 29 = .ok (.iastore, 1) := by decide +kernel
theorem dX11_keep_30 : decode cX11_keep 30 = .ok (.iinc 1 1, 3) := by decide +kernel
theorem dX11_keep_33 : decode cX11_keep 33 = .ok (.goto (-23), 3) := by decide +kernel
theorem dX11_keep_36 : decode cX11_keep 36 = .ok (.return_, 1) := by decide +kernel
theorem dX11_keepWord_0 : decode cX11_keepWord 0 = .ok (.aload_n 0, 1) := by decide +kernel
theorem dX11_keepWord_1 : decode cX11_keepWord 1 = .ok (.aload_n 0, 1) := by decide +kernel
theorem dX11_keepWord_2 : decode cX11_keepWord 2 = .ok (.getfield 233, 3) := by decide +kernel
theorem dX11_keepWord_5 : decode cX11_keepWord 5 = .ok (.putfield 289, 3) := by decide +kernel
theorem dX11_keepWord_8 : decode cX11_keepWord 8 = .ok (.iconst 0, 1) := by decide +kernel
theorem dX11_keepWord_9 : decode cX11_keepWord 9 = .ok (.istore_n 1, 1) := by decide +kernel
theorem dX11_keepWord_10 : decode cX11_keepWord 10 = .ok (.iload_n 1, 1) := by decide +kernel
theorem dX11_keepWord_11 : decode cX11_keepWord 11 = .ok (.aload_n 0, 1) := by decide +kernel
theorem dX11_keepWord_12 : decode cX11_keepWord 12 = .ok (.getfield 233, 3) := by decide +kernel
theorem dX11_keepWord_15 : decode cX11_keepWord 15 = .ok (.if_icmp .ge 21, 3) := by decide +kernel
theorem dX11_keepWord_18 : decode cX11_keepWord 18 = .ok (.aload_n 0, 1) := by decide +kernel
theorem dX11_keepWord_19 : decode cX11_keepWord 19 = .ok (.getfield 45, 3) := by decide +kernel
theorem dX11_keepWord_22 : decode cX11_keepWord 22 = .ok (.iload_n 1, 1) := by decide +kernel
theorem dX11_keepWord_23 : decode cX11_keepWord 23 = .ok (.aload_n 0, 1) := by decide +kernel
theorem dX11_keepWord_24 : decode cX11_keepWord 24 = .ok (.getfield 39, 3) := by decide +kernel
theorem dX11_keepWord_27 : decode cX11_keepWord 27 = .ok (.iload_n 1, 1) := by decide +kernel
theorem dX11_keepWord_28 : decode cX11_keepWord 28 = .ok (.iaload, 1) := by decide +kernel
theorem dX11_keepWord_29 : decode cX11_keepWord 29 = .ok (.iastore, 1) := by decide +kernel
theorem dX11_keepWord_30 : decode cX11_keepWord 30 = .ok (.iinc 1 1, 3) := by decide +kernel
theorem dX11_keepWord_33 : decode cX11_keepWord 33 = .ok (.goto (-23), 3) := by decide +kernel
theorem dX11_keepWord_36 : decode cX11_keepWord 36 = .ok (.return_, 1) := by decide +kernel
theorem dX11_expandWord_0 : decode cX11_expandWord 0 = .ok (.aload_n 0, 1) := by decide +kernel
theorem dX11_expandWord_1 : decode cX11_expandWord 1 = .ok (.iload_n 1, 1) := by decide +kernel
theorem dX11_expandWord_2 : decode cX11_expandWord 2 = .ok (.invokevirtual 264, 3) := by decide +kernel
theorem dX11_expandWord_5 : decode cX11_expandWord 5 = .ok (.aload_n 0, 1) := by decide +kernel
theorem dX11_expandWord_6 : decode cX11_expandWord 6 = .ok (.getfield 35, 3) := by decide +kernel
theorem dX11_expandWord_9 : decode cX11_expandWord 9 = .ok (.iload_n 1, 1) := by decide +kernel
theorem dX11_expandWord_10 : decode cX11_expandWord 10 = .ok (.baload, 1) := by decide +kernel
theorem dX11_expandWord_11 : decode cX11_expandWord 11 = .ok (.ifCond .eq 15, 3) := by decide +kernel
theorem dX11_expandWord_14 : decode cX11_expandWord 14 = .ok (.aload_n 0, 1) := by decide +kernel
theorem dX11_expandWord_15 : decode cX11_expandWord 15 = .ok (.invokevirtual 283, 3) := by decide +kernel
theorem dX11_expandWord_18 : decode cX11_expandWord 18 = .ok (.aload_n 0, 1) := by decide +kernel
theorem dX11_expandWord_19 : decode cX11_expandWord 19 = .ok (.iconst 5, 1) := by decide +kernel
theorem dX11_expandWord_20 : decode cX11_expandWord 20 = .ok (.invokevirtual 286, 3) := by decide +kernel
theorem dX11_expandWord_23 : decode cX11_expandWord 23 = .ok (.goto 37, 3) := by decide +kernel
theorem dX11_expandWord_26 : decode cX11_expandWord 26 = .ok (.aload_n 0, 1) := by decide +kernel
theorem dX11_expandWord_27 : decode cX11_expandWord 27 = .ok (.iload_n 2, 1) := by decide +kernel
theorem dX11_expandWord_28 : decode cX11_expandWord 28 = .ok (.iconst 0, 1) := by decide +kernel
theorem dX11_expandWord_29 : decode cX11_expandWord 29 = .ok (.invokevirtual 267, 3) := by decide +kernel
theorem dX11_expandWord_32 : decode cX11_expandWord 32 = .ok (.aload_n 0, 1) := by decide +kernel
theorem dX11_expandWord_33 : decode cX11_expandWord 33 = .ok (.invokevirtual 274, 3) := by decide +kernel
theorem dX11_expandWord_36 : decode cX11_expandWord 36 = .ok (.aload_n 0, 1) := by decide +kernel
theorem dX11_expandWord_37 : decode cX11_expandWord 37 = .ok (.aload_n 0, 1) := by decide +kernel
theorem dX11_expandWord_38 : decode cX11_expandWord 38 = .ok (.invokevirtual 270, 3) := by decide +kernel
theorem dX11_expandWord_41 : decode cX11_expandWord 41 = .ok (.putfield 255, 3) := by decide +kernel
theorem dX11_expandWord_44 : decode cX11_expandWord 44 = .ok (.aload_n 0, 1) := by decide +kernel
theorem dX11_expandWord_45 : decode cX11_expandWord 45 = .ok (.aload_n 0, 1) := by decide +kernel
theorem dX11_expandWord_46 : decode cX11_expandWord 46 = .ok (.getfield 249, 3) := by decide +kernel
theorem dX11_expandWord_49 : decode cX11_expandWord 49 = .ok (.putfield 258, 3) := by decide +kernel
theorem dX11_expandWord_52 : decode cX11_expandWord 52 = .ok (.aload_n 0, 1) := by decide +kernel
theorem dX11_expandWord_53 : decode cX11_expandWord 53 = .ok (.aload_n 0, 1) := by decide +kernel
theorem dX11_expandWord_54 : decode cX11_expandWord 54 = .ok (.getfield 242, 3) := by decide +kernel
theorem dX11_expandWord_57 : decode cX11_expandWord 57 = .ok (.putfield 261, 3) := by decide +kernel
theorem dX11_expandWord_60 : decode cX11_expandWord 60 = .ok (.return_, 1) := by decide +kernel
theorem dX11_lastOf_0 : decode cX11_lastOf 0 = .ok (.aload_n 0, 1) := by decide +kernel
theorem dX11_lastOf_1 : decode cX11_lastOf 1 = .ok (.getfield 48, 3) := by decide +kernel
theorem dX11_lastOf_4 : decode cX11_lastOf 4 = .ok (.aload_n 0, 1) := by decide +kernel
theorem dX11_lastOf_5 : decode cX11_lastOf 5 = .ok (.getfield 29, 3) := by decide +kernel
theorem dX11_lastOf_8 : decode cX11_lastOf 8 = .ok (.iload_n 1, 1) := by decide +kernel
theorem dX11_lastOf_9 : decode cX11_lastOf 9 = .ok (.iaload, 1) := by decide +kernel
theorem dX11_lastOf_10 : decode cX11_lastOf 10 = .ok (.aload_n 0, 1) := by decide +kernel
theorem dX11_lastOf_11 : decode cX11_lastOf 11 = .ok (.getfield 32, 3) := by decide +kernel
theorem dX11_lastOf_14 : decode cX11_lastOf 14 = .ok (.iload_n 1, 1) := by decide +kernel
theorem dX11_lastOf_15 : decode cX11_lastOf 15 = .ok (.iaload, 1) := by decide +kernel
theorem dX11_lastOf_16 : decode cX11_lastOf 16 = .ok (.iadd, 1) := by decide +kernel
theorem dX11_lastOf_17 : decode cX11_lastOf 17 = .ok (.iconst 1, 1) := by decide +kernel
theorem dX11_lastOf_18 : decode cX11_lastOf 18 = .ok (.isub, 1) := by decide +kernel
theorem dX11_lastOf_19 : decode cX11_lastOf 19 = .ok (.caload, 1) := by decide +kernel
theorem dX11_lastOf_20 : decode cX11_lastOf 20 = .ok (.ireturn, 1) := by decide +kernel
theorem dX11_write_0 : decode cX11_write 0 = .ok (.aload_n 0, 1) := by decide +kernel
theorem dX11_write_1 : decode cX11_write 1 = .ok (.getfield 69, 3) := by decide +kernel
theorem dX11_write_4 : decode cX11_write 4 = .ok (.aload_n 0, 1) := by decide +kernel
theorem dX11_write_5 : decode cX11_write 5 = .ok (.getfield 292, 3) := by decide +kernel
theorem dX11_write_8 : decode cX11_write 8 = .ok (.iload_n 1, 1) := by decide +kernel
theorem dX11_write_9 : decode cX11_write 9 = .ok (.iastore, 1) := by decide +kernel
theorem dX11_write_10 : decode cX11_write 10 = .ok (.aload_n 0, 1) := by decide +kernel
theorem dX11_write_11 : decode cX11_write 11 = .ok (.dup, 1) := by decide +kernel
theorem dX11_write_12 : decode cX11_write 12 = .ok (.getfield 292, 3) := by decide +kernel
theorem dX11_write_15 : decode cX11_write 15 = .ok (.iconst 1, 1) := by decide +kernel
theorem dX11_write_16 : decode cX11_write 16 = .ok (.iadd, 1) := by decide +kernel
theorem dX11_write_17 : decode cX11_write 17 = .ok (.putfield 292, 3) := by decide +kernel
theorem dX11_write_20 : decode cX11_write 20 = .ok (.return_, 1) := by decide +kernel
theorem dX11_addUse_0 : decode cX11_addUse 0 = .ok (.aload_n 0, 1) := by decide +kernel
theorem dX11_addUse_1 : decode cX11_addUse 1 = .ok (.dup, 1) := by decide +kernel
theorem dX11_addUse_2 : decode cX11_addUse 2 = .ok (.getfield 295, 3) := by decide +kernel
theorem dX11_addUse_5 : decode cX11_addUse 5 = .ok (.iload_n 1, 1) := by decide +kernel
theorem dX11_addUse_6 : decode cX11_addUse 6 = .ok (.ifCond .lt 7, 3) := by decide +kernel
theorem dX11_addUse_9 : decode cX11_addUse 9 = .ok (.iconst 1, 1) := by decide +kernel
theorem dX11_addUse_10 : decode cX11_addUse 10 = .ok (.goto 4, 3) := by decide +kernel
theorem dX11_addUse_13 : decode cX11_addUse 13 = .ok (.iconst 0, 1) := by decide +kernel
theorem dX11_addUse_14 : decode cX11_addUse 14 = .ok (.iadd, 1) := by decide +kernel
theorem dX11_addUse_15 : decode cX11_addUse 15 = .ok (.putfield 295, 3) := by decide +kernel
theorem dX11_addUse_18 : decode cX11_addUse 18 = .ok (.aload_n 0, 1) := by decide +kernel
theorem dX11_addUse_19 : decode cX11_addUse 19 = .ok (.dup, 1) := by decide +kernel
theorem dX11_addUse_20 : decode cX11_addUse 20 = .ok (.getfield 298, 3) := by decide +kernel
theorem dX11_addUse_23 : decode cX11_addUse 23 = .ok (.iload_n 1, 1) := by decide +kernel
theorem dX11_addUse_24 : decode cX11_addUse 24 = .ok (.ifCond .lt 12, 3) := by decide +kernel
theorem dX11_addUse_27 : decode cX11_addUse 27 = .ok (.aload_n 0, 1) := by decide +kernel
theorem dX11_addUse_28 : decode cX11_addUse 28 = .ok (.iload_n 1, 1) := by decide +kernel
theorem dX11_addUse_29 : decode cX11_addUse 29 = .ok (.iconst 1, 1) := by decide +kernel
theorem dX11_addUse_30 : decode cX11_addUse 30 = .ok (.invokevirtual 99, 3) := by decide +kernel
theorem dX11_addUse_33 : decode cX11_addUse 33 = .ok (.goto 4, 3) := by decide +kernel
theorem dX11_addUse_36 : decode cX11_addUse 36 = .ok (.iconst 0, 1) := by decide +kernel
theorem dX11_addUse_37 : decode cX11_addUse 37 = .ok (.iadd, 1) := by decide +kernel
theorem dX11_addUse_38 : decode cX11_addUse 38 = .ok (.putfield 298, 3) := by decide +kernel
theorem dX11_addUse_41 : decode cX11_addUse 41 = .ok (.return_, 1) := by decide +kernel
theorem dX11_writeWord_0 : decode cX11_writeWord 0 = .ok (.iload_n 1, 1) := by decide +kernel
theorem dX11_writeWord_1 : decode cX11_writeWord 1 = .ok (.ifCond .le 9, 3) := by decide +kernel
theorem dX11_writeWord_4 : decode cX11_writeWord 4 = .ok (.aload_n 0, 1) := by decide +kernel
theorem dX11_writeWord_5 : decode cX11_writeWord 5 = .ok (.bipush 32, 2) := by decide +kernel
theorem dX11_writeWord_7 : decode cX11_writeWord 7 = .ok (.invokevirtual 301, 3) := by decide +kernel
theorem dX11_writeWord_10 : decode cX11_writeWord 10 = .ok (.aload_n 0, 1) := by decide +kernel
theorem dX11_writeWord_11 : decode cX11_writeWord 11 = .ok (.getfield 51, 3) := by decide +kernel
theorem dX11_writeWord_14 : decode cX11_writeWord 14 = .ok (.iload_n 1, 1) := by decide +kernel
theorem dX11_writeWord_15 : decode cX11_writeWord 15 = .ok (.aload_n 0, 1) := by decide +kernel
theorem dX11_writeWord_16 : decode cX11_writeWord 16 = .ok (.getfield 255, 3) := by decide +kernel
theorem dX11_writeWord_19 : decode cX11_writeWord 19 = .ok (.iastore, 1) := by decide +kernel
theorem dX11_writeWord_20 : decode cX11_writeWord 20 = .ok (.aload_n 0, 1) := by decide +kernel
theorem dX11_writeWord_21 : decode cX11_writeWord 21 = .ok (.getfield 54, 3) := by decide +kernel
theorem dX11_writeWord_24 : decode cX11_writeWord 24 = .ok (.iload_n 1, 1) := by decide +kernel
theorem dX11_writeWord_25 : decode cX11_writeWord 25 = .ok (.aload_n 0, 1) := by decide +kernel
theorem dX11_writeWord_26 : decode cX11_writeWord 26 = .ok (.getfield 255, 3) := by decide +kernel
theorem dX11_writeWord_29 : decode cX11_writeWord 29 = .ok (.iconst 3, 1) := by decide +kernel
theorem dX11_writeWord_30 : decode cX11_writeWord 30 = .ok (.if_icmp .ne 7, 3) := by decide +kernel
theorem dX11_writeWord_33 : decode cX11_writeWord 33 = .ok (.iconst (-1), 1) := by decide +kernel
theorem dX11_writeWord_34 : decode cX11_writeWord 34 = .ok (.goto 7, 3) := by decide +kernel
theorem dX11_writeWord_37 : decode cX11_writeWord 37 = .ok (.aload_n 0, 1) := by decide +kernel
theorem dX11_writeWord_38 : decode cX11_writeWord 38 = .ok (.getfield 258, 3) := by decide +kernel
theorem dX11_writeWord_41 : decode cX11_writeWord 41 = .ok (.iastore, 1) := by decide +kernel
theorem dX11_writeWord_42 : decode cX11_writeWord 42 = .ok (.aload_n 0, 1) := by decide +kernel
theorem dX11_writeWord_43 : decode cX11_writeWord 43 = .ok (.getfield 57, 3) := by decide +kernel
theorem dX11_writeWord_46 : decode cX11_writeWord 46 = .ok (.iload_n 1, 1) := by decide +kernel
theorem dX11_writeWord_47 : decode cX11_writeWord 47 = .ok (.aload_n 0, 1) := by decide +kernel
theorem dX11_writeWord_48 : decode cX11_writeWord 48 = .ok (.getfield 261, 3) := by decide +kernel
theorem dX11_writeWord_51 : decode cX11_writeWord 51 = .ok (.iastore, 1) := by decide +kernel
theorem dX11_writeWord_52 : decode cX11_writeWord 52 = .ok (.aload_n 0, 1) := by decide +kernel
theorem dX11_writeWord_53 : decode cX11_writeWord 53 = .ok (.getfield 60, 3) := by decide +kernel
theorem dX11_writeWord_56 : decode cX11_writeWord 56 = .ok (.iload_n 1, 1) := by decide +kernel
theorem dX11_writeWord_57 : decode cX11_writeWord 57 = .ok (.aload_n 0, 1) := by decide +kernel
theorem dX11_writeWord_58 : decode cX11_writeWord 58 = .ok (.getfield 32, 3) := by decide +kernel
theorem dX11_writeWord_61 : decode cX11_writeWord 61 = .ok (.iload_n 1, 1) := by decide +kernel
theorem dX11_writeWord_62 : decode cX11_writeWord 62 = .ok (.iaload, 1) := by decide +kernel
theorem dX11_writeWord_63 : decode cX11_writeWord 63 = .ok (.iastore, 1) := by decide +kernel
theorem dX11_writeWord_64 : decode cX11_writeWord 64 = .ok (.aload_n 0, 1) := by decide +kernel
theorem dX11_writeWord_65 : decode cX11_writeWord 65 = .ok (.getfield 63, 3) := by decide +kernel
theorem dX11_writeWord_68 : decode cX11_writeWord 68 = .ok (.iload_n 1, 1) := by decide +kernel
theorem dX11_writeWord_69 : decode cX11_writeWord 69 = .ok (.aload_n 0, 1) := by decide +kernel
theorem dX11_writeWord_70 : decode cX11_writeWord 70 = .ok (.getfield 289, 3) := by decide +kernel
theorem dX11_writeWord_73 : decode cX11_writeWord 73 = .ok (.iastore, 1) := by decide +kernel
theorem dX11_writeWord_74 : decode cX11_writeWord 74 = .ok (.aload_n 0, 1) := by decide +kernel
theorem dX11_writeWord_75 : decode cX11_writeWord 75 = .ok (.getfield 66, 3) := by decide +kernel
theorem dX11_writeWord_78 : decode cX11_writeWord 78 = .ok (.iload_n 1, 1) := by decide +kernel
theorem dX11_writeWord_79 : decode cX11_writeWord 79 = .ok (.aload_n 0, 1) := by decide +kernel
theorem dX11_writeWord_80 : decode cX11_writeWord 80 = .ok (.getfield 292, 3) := by decide +kernel
theorem dX11_writeWord_83 : decode cX11_writeWord 83 = .ok (.iastore, 1) := by decide +kernel
theorem dX11_writeWord_84 : decode cX11_writeWord 84 = .ok (.iload_n 2, 1) := by decide +kernel
theorem dX11_writeWord_85 : decode cX11_writeWord 85 = .ok (.ifCond .eq 19, 3) := by decide +kernel
theorem dX11_writeWord_88 : decode cX11_writeWord 88 = .ok (.aload_n 0, 1) := by decide +kernel
theorem dX11_writeWord_89 : decode cX11_writeWord 89 = .ok (.bipush 39, 2) := by decide +kernel
theorem dX11_writeWord_91 : decode cX11_writeWord 91 = .ok (.invokevirtual 301, 3) := by decide +kernel
theorem dX11_writeWord_94 : decode cX11_writeWord 94 = .ok (.aload_n 0, 1) := by decide +kernel
theorem dX11_writeWord_95 : decode cX11_writeWord 95 = .ok (.dup, 1) := by decide +kernel
theorem dX11_writeWord_96 : decode cX11_writeWord 96 = .ok (.getfield 304, 3) := by decide +kernel
theorem dX11_writeWord_99 : decode cX11_writeWord 99 = .ok (.iconst 1, 1) := by decide +kernel
theorem dX11_writeWord_100 : decode cX11_writeWord 100 = .ok (.iadd, 1) := by decide +kernel
theorem dX11_writeWord_101 : decode cX11_writeWord 101 = .ok (.putfield 304, 3) := by decide +kernel
theorem dX11_writeWord_104 : decode cX11_writeWord 104 = .ok (.iconst 0, 1) := by decide +kernel
theorem dX11_writeWord_105 : decode cX11_writeWord 105 = .ok (.istore_n 3, 1) := by decide +kernel
theorem dX11_writeWord_106 : decode cX11_writeWord 106 = .ok (.iload_n 3, 1) := by decide +kernel
theorem dX11_writeWord_107 : decode cX11_writeWord 107 = .ok (.aload_n 0, 1) := by decide +kernel
theorem dX11_writeWord_108 : decode cX11_writeWord 108 = .ok (.getfield 289, 3) := by decide +kernel
theorem dX11_writeWord_111 : decode cX11_writeWord 111 = .ok (.if_icmp .ge 19, 3) := by decide +kernel
theorem dX11_writeWord_114 : decode cX11_writeWord 114 = .ok (.aload_n 0, 1) := by decide +kernel
theorem dX11_writeWord_115 : decode cX11_writeWord 115 = .ok (.aload_n 0, 1) := by decide +kernel
theorem dX11_writeWord_116 : decode cX11_writeWord 116 = .ok (.getfield 45, 3) := by decide +kernel
theorem dX11_writeWord_119 : decode cX11_writeWord 119 = .ok (.iload_n 3, 1) := by decide +kernel
theorem dX11_writeWord_120 : decode cX11_writeWord 120 = .ok (.iaload, 1) := by decide +kernel
theorem dX11_writeWord_121 : decode cX11_writeWord 121 = .ok (.invokevirtual 301, 3) := by decide +kernel
theorem dX11_writeWord_124 : decode cX11_writeWord 124 = .ok (.iinc 3 1, 3) := by decide +kernel
theorem dX11_writeWord_127 : decode cX11_writeWord 127 = .ok (.goto (-21), 3) := by decide +kernel
theorem dX11_writeWord_130 : decode cX11_writeWord 130 = .ok (.aload_n 0, 1) := by decide +kernel
theorem dX11_writeWord_131 : decode cX11_writeWord 131 = .ok (.aload_n 0, 1) := by decide +kernel
theorem dX11_writeWord_132 : decode cX11_writeWord 132 = .ok (.getfield 258, 3) := by decide +kernel
theorem dX11_writeWord_135 : decode cX11_writeWord 135 = .ok (.invokevirtual 307, 3) := by decide +kernel
theorem dX11_writeWord_138 : decode cX11_writeWord 138 = .ok (.aload_n 0, 1) := by decide +kernel
theorem dX11_writeWord_139 : decode cX11_writeWord 139 = .ok (.aload_n 0, 1) := by decide +kernel
theorem dX11_writeWord_140 : decode cX11_writeWord 140 = .ok (.getfield 261, 3) := by decide +kernel
theorem dX11_writeWord_143 : decode cX11_writeWord 143 = .ok (.invokevirtual 307, 3) := by decide +kernel
theorem dX11_writeWord_146 : decode cX11_writeWord 146 = .ok (.return_, 1) := by decide +kernel
theorem dX11_takeGiven_0 : decode cX11_takeGiven 0 = .ok (.iconst 0, 1) := by decide +kernel
theorem dX11_takeGiven_1 : decode cX11_takeGiven 1 = .ok (.istore_n 1, 1) := by decide +kernel
theorem dX11_takeGiven_2 : decode cX11_takeGiven 2 = .ok (.iload_n 1, 1) := by decide +kernel
theorem dX11_takeGiven_3 : decode cX11_takeGiven 3 = .ok (.bipush 100, 2) := by decide +kernel
theorem dX11_takeGiven_5 : decode cX11_takeGiven 5 = .ok (.if_icmp .ge 21, 3) := by decide +kernel
theorem dX11_takeGiven_8 : decode cX11_takeGiven 8 = .ok (.aload_n 0, 1) := by decide +kernel
theorem dX11_takeGiven_9 : decode cX11_takeGiven 9 = .ok (.getfield 48, 3) := by decide +kernel
theorem dX11_takeGiven_12 : decode cX11_takeGiven 12 = .ok (.iload_n 1, 1) := by decide +kernel
theorem dX11_takeGiven_13 : decode cX11_takeGiven 13 = .ok (.aload_n 0, 1) := by decide +kernel
theorem dX11_takeGiven_14 : decode cX11_takeGiven 14 = .ok (.getfield 21, 3) := by decide +kernel
theorem dX11_takeGiven_17 : decode cX11_takeGiven 17 = .ok (.iload_n 1, 1) := by decide +kernel
theorem dX11_takeGiven_18 : decode cX11_takeGiven 18 = .ok (.caload, 1) := by decide +kernel
theorem dX11_takeGiven_19 : decode cX11_takeGiven 19 = .ok (.castore, 1) := by decide +kernel
theorem dX11_takeGiven_20 : decode cX11_takeGiven 20 = .ok (.iinc 1 1, 3) := by decide +kernel
theorem dX11_takeGiven_23 : decode cX11_takeGiven 23 = .ok (.goto (-21), 3) := by decide +kernel
theorem dX11_takeGiven_26 : decode cX11_takeGiven 26 = .ok (.return_, 1) := by decide +kernel
theorem dX11_make_0 : decode cX11_make 0 = .ok (.aload_n 0, 1) := by decide +kernel
theorem dX11_make_1 : decode cX11_make 1 = .ok (.invokevirtual 310, 3) := by decide +kernel
theorem dX11_make_4 : decode cX11_make 4 = .ok (.aload_n 0, 1) := by decide +kernel
theorem dX11_make_5 : decode cX11_make 5 = .ok (.aload_n 0, 1) := by decide +kernel
theorem dX11_make_6 : decode cX11_make 6 = .ok (.getfield 122, 3) := by decide +kernel
theorem dX11_make_9 : decode cX11_make 9 = .ok (.putfield 313, 3) := by decide +kernel
theorem dX11_make_12 : decode cX11_make 12 = .ok (.aload_n 0, 1) := by decide +kernel
theorem dX11_make_13 : decode cX11_make 13 = .ok (.iconst 0, 1) := by decide +kernel
theorem dX11_make_14 : decode cX11_make 14 = .ok (.putfield 292, 3) := by decide +kernel
theorem dX11_make_17 : decode cX11_make 17 = .ok (.aload_n 0, 1) := by decide +kernel
theorem dX11_make_18 : decode cX11_make 18 = .ok (.iconst 0, 1) := by decide +kernel
theorem dX11_make_19 : decode cX11_make 19 = .ok (.putfield 295, 3) := by decide +kernel
theorem dX11_make_22 : decode cX11_make 22 = .ok (.aload_n 0, 1) := by decide +kernel
theorem dX11_make_23 : decode cX11_make 23 = .ok (.iconst 0, 1) := by decide +kernel
theorem dX11_make_24 : decode cX11_make 24 = .ok (.putfield 298, 3) := by decide +kernel
theorem dX11_make_27 : decode cX11_make 27 = .ok (.aload_n 0, 1) := by decide +kernel
theorem dX11_make_28 : decode cX11_make 28 = .ok (.iconst 0, 1) := by decide +kernel
theorem dX11_make_29 : decode cX11_make 29 = .ok (.putfield 304, 3) := by decide +kernel
theorem dX11_make_32 : decode cX11_make 32 = .ok (.aload_n 0, 1) := by decide +kernel
theorem dX11_make_33 : decode cX11_make 33 = .ok (.iload_n 1, 1) := by decide +kernel
theorem dX11_make_34 : decode cX11_make 34 = .ok (.ifCond .eq 7, 3) := by decide +kernel
theorem dX11_make_37 : decode cX11_make 37 = .ok (.iconst 1, 1) := by decide +kernel
theorem dX11_make_38 : decode cX11_make 38 = .ok (.goto 4, 3) := by decide +kernel
theorem dX11_make_41 : decode cX11_make 41 = .ok (.iconst 0, 1) := by decide +kernel
theorem dX11_make_42 : decode cX11_make 42 = .ok (.putfield 316, 3) := by decide +kernel
theorem dX11_make_45 : decode cX11_make 45 = .ok (.aload_n 0, 1) := by decide +kernel
theorem dX11_make_46 : decode cX11_make 46 = .ok (.aload_n 0, 1) := by decide +kernel
theorem dX11_make_47 : decode cX11_make 47 = .ok (.getfield 129, 3) := by decide +kernel
theorem dX11_make_50 : decode cX11_make 50 = .ok (.putfield 72, 3) := by decide +kernel
theorem dX11_make_53 : decode cX11_make 53 = .ok (.iconst 0, 1) := by decide +kernel
theorem dX11_make_54 : decode cX11_make 54 = .ok (.istore_n 2, 1) := by decide +kernel
theorem dX11_make_55 : decode cX11_make 55 = .ok (.iconst 0, 1) := by decide +kernel
theorem dX11_make_56 : decode cX11_make 56 = .ok (.istore_n 3, 1) := by decide +kernel
theorem dX11_make_57 : decode cX11_make 57 = .ok (.iload_n 3, 1) := by decide +kernel
theorem dX11_make_58 : decode cX11_make 58 = .ok (.aload_n 0, 1) := by decide +kernel
theorem dX11_make_59 : decode cX11_make 59 = .ok (.getfield 129, 3) := by decide +kernel
theorem dX11_make_62 : decode cX11_make 62 = .ok (.if_icmp .ge 74, 3) := by decide +kernel
theorem dX11_make_65 : decode cX11_make 65 = .ok (.iload_n 1, 1) := by decide +kernel
theorem dX11_make_66 : decode cX11_make 66 = .ok (.ifCond .eq 21, 3) := by decide +kernel
theorem dX11_make_69 : decode cX11_make 69 = .ok (.aload_n 0, 1) := by decide +kernel
theorem dX11_make_70 : decode cX11_make 70 = .ok (.iload_n 3, 1) := by decide +kernel
theorem dX11_make_71 : decode cX11_make 71 = .ok (.iload_n 2, 1) := by decide +kernel
theorem dX11_make_72 : decode cX11_make 72 = .ok (.invokevirtual 319, 3) := by decide +kernel
theorem dX11_make_75 : decode cX11_make 75 = .ok (.aload_n 0, 1) := by decide +kernel
theorem dX11_make_76 : decode cX11_make 76 = .ok (.iload_n 3, 1) := by decide +kernel
theorem dX11_make_77 : decode cX11_make 77 = .ok (.invokevirtual 323, 3) := by decide +kernel
theorem dX11_make_80 : decode cX11_make 80 = .ok (.invokestatic 326, 3) := by decide +kernel
theorem dX11_make_83 : decode cX11_make 83 = .ok (.istore_n 2, 1) := by decide +kernel
theorem dX11_make_84 : decode cX11_make 84 = .ok (.goto 24, 3) := by decide +kernel
theorem dX11_make_87 : decode cX11_make 87 = .ok (.aload_n 0, 1) := by decide +kernel
theorem dX11_make_88 : decode cX11_make 88 = .ok (.iload_n 3, 1) := by decide +kernel
theorem dX11_make_89 : decode cX11_make 89 = .ok (.iload_n 2, 1) := by decide +kernel
theorem dX11_make_90 : decode cX11_make 90 = .ok (.invokevirtual 329, 3) := by decide +kernel
theorem dX11_make_93 : decode cX11_make 93 = .ok (.aload_n 0, 1) := by decide +kernel
theorem dX11_make_94 : decode cX11_make 94 = .ok (.getfield 45, 3) := by decide +kernel
theorem dX11_make_97 : decode cX11_make 97 = .ok (.aload_n 0, 1) := by decide +kernel
theorem dX11_make_98 : decode cX11_make 98 = .ok (.getfield 289, 3) := by decide +kernel
theorem dX11_make_101 : decode cX11_make 101 = .ok (.iconst 1, 1) := by decide +kernel
theorem dX11_make_102 : decode cX11_make 102 = .ok (.isub, 1) := by decide +kernel
theorem dX11_make_103 : decode cX11_make 103 = .ok (.iaload, 1) := by decide +kernel
theorem dX11_make_104 : decode cX11_make 104 = .ok (.invokestatic 326, 3) := by decide +kernel
theorem dX11_make_107 : decode cX11_make 107 = .ok (.istore_n 2, 1) := by decide +kernel
theorem dX11_make_108 : decode cX11_make 108 = .ok (.aload_n 0, 1) := by decide +kernel
theorem dX11_make_109 : decode cX11_make 109 = .ok (.iload_n 3, 1) := by decide +kernel
theorem dX11_make_110 : decode cX11_make 110 = .ok (.iload_n 1, 1) := by decide +kernel
theorem dX11_make_111 : decode cX11_make 111 = .ok (.ifCond .eq 15, 3) := by decide +kernel
theorem dX11_make_114 : decode cX11_make 114 = .ok (.aload_n 0, 1) := by decide +kernel
theorem dX11_make_115 : decode cX11_make 115 = .ok (.getfield 255, 3) := by decide +kernel
theorem dX11_make_118 : decode cX11_make 118 = .ok (.iconst 5, 1) := by decide +kernel
theorem dX11_make_119 : decode cX11_make 119 = .ok (.if_icmp .ne 7, 3) := by decide +kernel
theorem dX11_make_122 : decode cX11_make 122 = .ok (.iconst 1, 1) := by decide +kernel
theorem dX11_make_123 : decode cX11_make 123 = .ok (.goto 4, 3) := by decide +kernel
theorem dX11_make_126 : decode cX11_make 126 = .ok (.iconst 0, 1) := by decide +kernel
theorem dX11_make_127 : decode cX11_make 127 = .ok (.invokevirtual 332, 3) := by decide +kernel
theorem dX11_make_130 : decode cX11_make 130 = .ok (.iinc 3 1, 3) := by decide +kernel
theorem dX11_make_133 : decode cX11_make 133 = .ok (.goto (-76), 3) := by decide +kernel
theorem dX11_make_136 : decode cX11_make 136 = .ok (.aload_n 0, 1) := by decide +kernel
theorem dX11_make_137 : decode cX11_make 137 = .ok (.getfield 292, 3) := by decide +kernel
theorem dX11_make_140 : decode cX11_make 140 = .ok (.ireturn, 1) := by decide +kernel
theorem dX11_abbreviate_0 : decode cX11_abbreviate 0 = .ok (.aload_n 0, 1) := by decide +kernel
theorem dX11_abbreviate_1 : decode cX11_abbreviate 1 = .ok (.iconst 1, 1) := by decide +kernel
theorem dX11_abbreviate_2 : decode cX11_abbreviate 2 = .ok (.aload_n 0, 1) := by decide +kernel
theorem dX11_abbreviate_3 : decode cX11_abbreviate 3 = .ok (.iconst 0, 1) := by decide +kernel
theorem dX11_abbreviate_4 : decode cX11_abbreviate 4 = .ok (.iconst 1, 1) := by decide +kernel
theorem dX11_abbreviate_5 : decode cX11_abbreviate 5 = .ok (.invokevirtual 335, 3) := by decide +kernel
theorem dX11_abbreviate_8 : decode cX11_abbreviate 8 = .ok (.invokevirtual 111, 3) := by decide +kernel
theorem dX11_abbreviate_11 : decode cX11_abbreviate 11 = .ok (.ifCond .eq 7, 3) := by decide +kernel
theorem dX11_abbreviate_14 : decode cX11_abbreviate 14 = .ok (.iconst 0, 1) := by decide +kernel
theorem dX11_abbreviate_15 : decode cX11_abbreviate 15 = .ok (.goto 8, 3) := by decide +kernel
theorem dX11_abbreviate_18 : decode cX11_abbreviate 18 = .ok (.aload_n 0, 1) := by decide +kernel
theorem dX11_abbreviate_19 : decode cX11_abbreviate 19 = .ok (.iconst 1, 1) := by decide +kernel
theorem dX11_abbreviate_20 : decode cX11_abbreviate 20 = .ok (.invokevirtual 339, 3) := by decide +kernel
theorem dX11_abbreviate_23 : decode cX11_abbreviate 23 = .ok (.ireturn, 1) := by decide +kernel
theorem dX11_expand_0 : decode cX11_expand 0 = .ok (.aload_n 0, 1) := by decide +kernel
theorem dX11_expand_1 : decode cX11_expand 1 = .ok (.iconst 1, 1) := by decide +kernel
theorem dX11_expand_2 : decode cX11_expand 2 = .ok (.aload_n 0, 1) := by decide +kernel
theorem dX11_expand_3 : decode cX11_expand 3 = .ok (.iconst 1, 1) := by decide +kernel
theorem dX11_expand_4 : decode cX11_expand 4 = .ok (.iconst 1, 1) := by decide +kernel
theorem dX11_expand_5 : decode cX11_expand 5 = .ok (.invokevirtual 335, 3) := by decide +kernel
theorem dX11_expand_8 : decode cX11_expand 8 = .ok (.invokevirtual 111, 3) := by decide +kernel
theorem dX11_expand_11 : decode cX11_expand 11 = .ok (.ifCond .eq 7, 3) := by decide +kernel
theorem dX11_expand_14 : decode cX11_expand 14 = .ok (.iconst 0, 1) := by decide +kernel
theorem dX11_expand_15 : decode cX11_expand 15 = .ok (.goto 8, 3) := by decide +kernel
theorem dX11_expand_18 : decode cX11_expand 18 = .ok (.aload_n 0, 1) := by decide +kernel
theorem dX11_expand_19 : decode cX11_expand 19 = .ok (.iconst 0, 1) := by decide +kernel
theorem dX11_expand_20 : decode cX11_expand 20 = .ok (.invokevirtual 339, 3) := by decide +kernel
theorem dX11_expand_23 : decode cX11_expand 23 = .ok (.ireturn, 1) := by decide +kernel
theorem dX11_errorPosition_0 : decode cX11_errorPosition 0 = .ok (.aload_n 0, 1) := by decide +kernel
theorem dX11_errorPosition_1 : decode cX11_errorPosition 1 = .ok (.iconst 1, 1) := by decide +kernel
theorem dX11_errorPosition_2 : decode cX11_errorPosition 2 = .ok (.aload_n 0, 1) := by decide +kernel
theorem dX11_errorPosition_3 : decode cX11_errorPosition 3 = .ok (.getfield 25, 3) := by decide +kernel
theorem dX11_errorPosition_6 : decode cX11_errorPosition 6 = .ok (.ifCond .ge 7, 3) := by decide +kernel
theorem dX11_errorPosition_9 : decode cX11_errorPosition 9 = .ok (.iconst 1, 1) := by decide +kernel
theorem dX11_errorPosition_10 : decode cX11_errorPosition 10 = .ok (.goto 4, 3) := by decide +kernel
theorem dX11_errorPosition_13 : decode cX11_errorPosition 13 = .ok (.iconst 0, 1) := by decide +kernel
theorem dX11_errorPosition_14 : decode cX11_errorPosition 14 = .ok (.invokevirtual 111, 3) := by decide +kernel
theorem dX11_errorPosition_17 : decode cX11_errorPosition 17 = .ok (.ifCond .eq 7, 3) := by decide +kernel
theorem dX11_errorPosition_20 : decode cX11_errorPosition 20 = .ok (.iconst 0, 1) := by decide +kernel
theorem dX11_errorPosition_21 : decode cX11_errorPosition 21 = .ok (.goto 7, 3) := by decide +kernel
theorem dX11_errorPosition_24 : decode cX11_errorPosition 24 = .ok (.aload_n 0, 1) := by decide +kernel
theorem dX11_errorPosition_25 : decode cX11_errorPosition 25 = .ok (.getfield 25, 3) := by decide +kernel
theorem dX11_errorPosition_28 : decode cX11_errorPosition 28 = .ok (.ireturn, 1) := by decide +kernel
theorem dX11_hasNone_0 : decode cX11_hasNone 0 = .ok (.aload_n 0, 1) := by decide +kernel
theorem dX11_hasNone_1 : decode cX11_hasNone 1 = .ok (.getfield 72, 3) := by decide +kernel
theorem dX11_hasNone_4 : decode cX11_hasNone 4 = .ok (.ifCond .ge 7, 3) := by decide +kernel
theorem dX11_hasNone_7 : decode cX11_hasNone 7 = .ok (.iconst 1, 1) := by decide +kernel
theorem dX11_hasNone_8 : decode cX11_hasNone 8 = .ok (.goto 4, 3) := by decide +kernel
theorem dX11_hasNone_11 : decode cX11_hasNone 11 = .ok (.iconst 0, 1) := by decide +kernel
theorem dX11_hasNone_12 : decode cX11_hasNone 12 = .ok (.ireturn, 1) := by decide +kernel
theorem dX11_output_0 : decode cX11_output 0 = .ok (.aload_n 0, 1) := by decide +kernel
theorem dX11_output_1 : decode cX11_output 1 = .ok (.iconst 1, 1) := by decide +kernel
theorem dX11_output_2 : decode cX11_output 2 = .ok (.aload_n 0, 1) := by decide +kernel
theorem dX11_output_3 : decode cX11_output 3 = .ok (.invokevirtual 342, 3) := by decide +kernel
theorem dX11_output_6 : decode cX11_output 6 = .ok (.invokevirtual 111, 3) := by decide +kernel
theorem dX11_output_9 : decode cX11_output 9 = .ok (.ifCond .ne 30, 3) := by decide +kernel
theorem dX11_output_12 : decode cX11_output 12 = .ok (.aload_n 0, 1) := by decide +kernel
theorem dX11_output_13 : decode cX11_output 13 = .ok (.iconst 2, 1) := by decide +kernel
theorem dX11_output_14 : decode cX11_output 14 = .ok (.iload_n 1, 1) := by decide +kernel
theorem dX11_output_15 : decode cX11_output 15 = .ok (.iconst 0, 1) := by decide +kernel
theorem dX11_output_16 : decode cX11_output 16 = .ok (.aload_n 0, 1) := by decide +kernel
theorem dX11_output_17 : decode cX11_output 17 = .ok (.getfield 292, 3) := by decide +kernel
theorem dX11_output_20 : decode cX11_output 20 = .ok (.iconst 1, 1) := by decide +kernel
theorem dX11_output_21 : decode cX11_output 21 = .ok (.isub, 1) := by decide +kernel
theorem dX11_output_22 : decode cX11_output 22 = .ok (.invokestatic 107, 3) := by decide +kernel
theorem dX11_output_25 : decode cX11_output 25 = .ok (.ifCond .ne 7, 3) := by decide +kernel
theorem dX11_output_28 : decode cX11_output 28 = .ok (.iconst 1, 1) := by decide +kernel
theorem dX11_output_29 : decode cX11_output 29 = .ok (.goto 4, 3) := by decide +kernel
theorem dX11_output_32 : decode cX11_output 32 = .ok (.iconst 0, 1) := by decide +kernel
theorem dX11_output_33 : decode cX11_output 33 = .ok (.invokevirtual 111, 3) := by decide +kernel
theorem dX11_output_36 : decode cX11_output 36 = .ok (.ifCond .eq 7, 3) := by decide +kernel
theorem dX11_output_39 : decode cX11_output 39 = .ok (.iconst 0, 1) := by decide +kernel
theorem dX11_output_40 : decode cX11_output 40 = .ok (.goto 10, 3) := by decide +kernel
theorem dX11_output_43 : decode cX11_output 43 = .ok (.aload_n 0, 1) := by decide +kernel
theorem dX11_output_44 : decode cX11_output 44 = .ok (.getfield 69, 3) := by decide +kernel
theorem dX11_output_47 : decode cX11_output 47 = .ok (.iload_n 1, 1) := by decide +kernel
theorem dX11_output_48 : decode cX11_output 48 = .ok (.iaload, 1) := by decide +kernel
theorem dX11_output_49 : decode cX11_output 49 = .ok (.i2c, 1) := by decide +kernel
theorem dX11_output_50 : decode cX11_output 50 = .ok (.ireturn, 1) := by decide +kernel
theorem dX11_takeBack_0 : decode cX11_takeBack 0 = .ok (.aload_n 0, 1) := by decide +kernel
theorem dX11_takeBack_1 : decode cX11_takeBack 1 = .ok (.iconst 1, 1) := by decide +kernel
theorem dX11_takeBack_2 : decode cX11_takeBack 2 = .ok (.aload_n 0, 1) := by decide +kernel
theorem dX11_takeBack_3 : decode cX11_takeBack 3 = .ok (.invokevirtual 342, 3) := by decide +kernel
theorem dX11_takeBack_6 : decode cX11_takeBack 6 = .ok (.invokevirtual 111, 3) := by decide +kernel
theorem dX11_takeBack_9 : decode cX11_takeBack 9 = .ok (.ifCond .ne 25, 3) := by decide +kernel
theorem dX11_takeBack_12 : decode cX11_takeBack 12 = .ok (.aload_n 0, 1) := by decide +kernel
theorem dX11_takeBack_13 : decode cX11_takeBack 13 = .ok (.iconst 2, 1) := by decide +kernel
theorem dX11_takeBack_14 : decode cX11_takeBack 14 = .ok (.aload_n 0, 1) := by decide +kernel
theorem dX11_takeBack_15 : decode cX11_takeBack 15 = .ok (.getfield 292, 3) := by decide +kernel
theorem dX11_takeBack_18 : decode cX11_takeBack 18 = .ok (.bipush 100, 2) := by decide +kernel
theorem dX11_takeBack_20 : decode cX11_takeBack 20 = .ok (.if_icmp .le 7, 3) := by decide +kernel
theorem dX11_takeBack_23 : decode cX11_takeBack 23 = .ok (.iconst 1, 1) := by decide +kernel
theorem dX11_takeBack_24 : decode cX11_takeBack 24 = .ok (.goto 4, 3) := by decide +kernel
theorem dX11_takeBack_27 : decode cX11_takeBack 27 = .ok (.iconst 0, 1) := by decide +kernel
theorem dX11_takeBack_28 : decode cX11_takeBack 28 = .ok (.invokevirtual 111, 3) := by decide +kernel
theorem dX11_takeBack_31 : decode cX11_takeBack 31 = .ok (.ifCond .eq 5, 3) := by decide +kernel
theorem dX11_takeBack_34 : decode cX11_takeBack 34 = .ok (.iconst 0, 1) := by decide +kernel
theorem dX11_takeBack_35 : decode cX11_takeBack 35 = .ok (.ireturn, 1) := by decide +kernel
theorem dX11_takeBack_36 : decode cX11_takeBack 36 = .ok (.iconst 0, 1) := by decide +kernel
theorem dX11_takeBack_37 : decode cX11_takeBack 37 = .ok (.istore_n 1, 1) := by decide +kernel
theorem dX11_takeBack_38 : decode cX11_takeBack 38 = .ok (.iload_n 1, 1) := by decide +kernel
theorem dX11_takeBack_39 : decode cX11_takeBack 39 = .ok (.aload_n 0, 1) := by decide +kernel
theorem dX11_takeBack_40 : decode cX11_takeBack 40 = .ok (.getfield 292, 3) := by decide +kernel
theorem dX11_takeBack_43 : decode cX11_takeBack 43 = .ok (.if_icmp .ge 22, 3) := by decide +kernel
theorem dX11_takeBack_46 : decode cX11_takeBack 46 = .ok (.aload_n 0, 1) := by decide +kernel
theorem dX11_takeBack_47 : decode cX11_takeBack 47 = .ok (.getfield 21, 3) := by decide +kernel
theorem dX11_takeBack_50 : decode cX11_takeBack 50 = .ok (.iload_n 1, 1) := by decide +kernel
theorem dX11_takeBack_51 : decode cX11_takeBack 51 = .ok (.aload_n 0, 1) := by decide +kernel
theorem dX11_takeBack_52 : decode cX11_takeBack 52 = .ok (.getfield 69, 3) := by decide +kernel
theorem dX11_takeBack_55 : decode cX11_takeBack 55 = .ok (.iload_n 1, 1) := by decide +kernel
theorem dX11_takeBack_56 : decode cX11_takeBack 56 = .ok (.iaload, 1) := by decide +kernel
theorem dX11_takeBack_57 : decode cX11_takeBack 57 = .ok (.i2c, 1) := by decide +kernel
theorem dX11_takeBack_58 : decode cX11_takeBack 58 = .ok (.castore, 1) := by decide +kernel
theorem dX11_takeBack_59 : decode cX11_takeBack 59 = .ok (.iinc 1 1, 3) := by decide +kernel
theorem dX11_takeBack_62 : decode cX11_takeBack 62 = .ok (.goto (-24), 3) := by decide +kernel
theorem dX11_takeBack_65 : decode cX11_takeBack 65 = .ok (.aload_n 0, 1) := by decide +kernel
theorem dX11_takeBack_66 : decode cX11_takeBack 66 = .ok (.aload_n 0, 1) := by decide +kernel
theorem dX11_takeBack_67 : decode cX11_takeBack 67 = .ok (.getfield 292, 3) := by decide +kernel
theorem dX11_takeBack_70 : decode cX11_takeBack 70 = .ok (.putfield 115, 3) := by decide +kernel
theorem dX11_takeBack_73 : decode cX11_takeBack 73 = .ok (.aload_n 0, 1) := by decide +kernel
theorem dX11_takeBack_74 : decode cX11_takeBack 74 = .ok (.getfield 115, 3) := by decide +kernel
theorem dX11_takeBack_77 : decode cX11_takeBack 77 = .ok (.ireturn, 1) := by decide +kernel
theorem dX11_word_0 : decode cX11_word 0 = .ok (.aload_n 0, 1) := by decide +kernel
theorem dX11_word_1 : decode cX11_word 1 = .ok (.iconst 1, 1) := by decide +kernel
theorem dX11_word_2 : decode cX11_word 2 = .ok (.aload_n 0, 1) := by decide +kernel
theorem dX11_word_3 : decode cX11_word 3 = .ok (.invokevirtual 342, 3) := by decide +kernel
theorem dX11_word_6 : decode cX11_word 6 = .ok (.invokevirtual 111, 3) := by decide +kernel
theorem dX11_word_9 : decode cX11_word 9 = .ok (.ifCond .ne 52, 3) := by decide +kernel
theorem dX11_word_12 : decode cX11_word 12 = .ok (.aload_n 0, 1) := by decide +kernel
theorem dX11_word_13 : decode cX11_word 13 = .ok (.iconst 2, 1) := by decide +kernel
theorem dX11_word_14 : decode cX11_word 14 = .ok (.iload_n 1, 1) := by decide +kernel
theorem dX11_word_15 : decode cX11_word 15 = .ok (.iconst 0, 1) := by decide +kernel
theorem dX11_word_16 : decode cX11_word 16 = .ok (.aload_n 0, 1) := by decide +kernel
theorem dX11_word_17 : decode cX11_word 17 = .ok (.getfield 72, 3) := by decide +kernel
theorem dX11_word_20 : decode cX11_word 20 = .ok (.iconst 1, 1) := by decide +kernel
theorem dX11_word_21 : decode cX11_word 21 = .ok (.isub, 1) := by decide +kernel
theorem dX11_word_22 : decode cX11_word 22 = .ok (.invokestatic 107, 3) := by decide +kernel
theorem dX11_word_25 : decode cX11_word 25 = .ok (.ifCond .ne 7, 3) := by decide +kernel
theorem dX11_word_28 : decode cX11_word 28 = .ok (.iconst 1, 1) := by decide +kernel
theorem dX11_word_29 : decode cX11_word 29 = .ok (.goto 4, 3) := by decide +kernel
theorem dX11_word_32 : decode cX11_word 32 = .ok (.iconst 0, 1) := by decide +kernel
theorem dX11_word_33 : decode cX11_word 33 = .ok (.invokevirtual 111, 3) := by decide +kernel
theorem dX11_word_36 : decode cX11_word 36 = .ok (.ifCond .ne 25, 3) := by decide +kernel
theorem dX11_word_39 : decode cX11_word 39 = .ok (.aload_n 0, 1) := by decide +kernel
theorem dX11_word_40 : decode cX11_word 40 = .ok (.iconst 3, 1) := by decide +kernel
theorem dX11_word_41 : decode cX11_word 41 = .ok (.iload_n 2, 1) := by decide +kernel
theorem dX11_word_42 : decode cX11_word 42 = .ok (.iconst 0, 1) := by decide +kernel
theorem dX11_word_43 : decode cX11_word 43 = .ok (.iconst 5, 1) := by decide +kernel
theorem dX11_word_44 : decode cX11_word 44 = .ok (.invokestatic 107, 3) := by decide +kernel
theorem dX11_word_47 : decode cX11_word 47 = .ok (.ifCond .ne 7, 3) := by decide +kernel
theorem dX11_word_50 : decode cX11_word 50 = .ok (.iconst 1, 1) := by decide +kernel
theorem dX11_word_51 : decode cX11_word 51 = .ok (.goto 4, 3) := by decide +kernel
theorem dX11_word_54 : decode cX11_word 54 = .ok (.iconst 0, 1) := by decide +kernel
theorem dX11_word_55 : decode cX11_word 55 = .ok (.invokevirtual 111, 3) := by decide +kernel
theorem dX11_word_58 : decode cX11_word 58 = .ok (.ifCond .eq 5, 3) := by decide +kernel
theorem dX11_word_61 : decode cX11_word 61 = .ok (.iconst 0, 1) := by decide +kernel
theorem dX11_word_62 : decode cX11_word 62 = .ok (.ireturn, 1) := by decide +kernel
theorem dX11_word_63 : decode cX11_word 63 = .ok (.iload_n 2, 1) := by decide +kernel
theorem dX11_word_64 : decode cX11_word 64 = .ok (.tableswitch 71 0 4 #[36, 43, 50, 57, 64], 36) := by decide +kernel
theorem dX11_word_100 : decode cX11_word 100 = .ok (.aload_n 0, 1) := by decide +kernel
theorem dX11_word_101 : decode cX11_word 101 = .ok (.getfield 51, 3) := by decide +kernel
theorem dX11_word_104 : decode cX11_word 104 = .ok (.iload_n 1, 1) := by decide +kernel
theorem dX11_word_105 : decode cX11_word 105 = .ok (.iaload, 1) := by decide +kernel
theorem dX11_word_106 : decode cX11_word 106 = .ok (.ireturn, 1) := by decide +kernel
theorem dX11_word_107 : decode cX11_word 107 = .ok (.aload_n 0, 1) := by decide +kernel
theorem dX11_word_108 : decode cX11_word 108 = .ok (.getfield 54, 3) := by decide +kernel
theorem dX11_word_111 : decode cX11_word 111 = .ok (.iload_n 1, 1) := by decide +kernel
theorem dX11_word_112 : decode cX11_word 112 = .ok (.iaload, 1) := by decide +kernel
theorem dX11_word_113 : decode cX11_word 113 = .ok (.ireturn, 1) := by decide +kernel
theorem dX11_word_114 : decode cX11_word 114 = .ok (.aload_n 0, 1) := by decide +kernel
theorem dX11_word_115 : decode cX11_word 115 = .ok (.getfield 57, 3) := by decide +kernel
theorem dX11_word_118 : decode cX11_word 118 = .ok (.iload_n 1, 1) := by decide +kernel
theorem dX11_word_119 : decode cX11_word 119 = .ok (.iaload, 1) := by decide +kernel
theorem dX11_word_120 : decode cX11_word 120 = .ok (.ireturn, 1) := by decide +kernel
theorem dX11_word_121 : decode cX11_word 121 = .ok (.aload_n 0, 1) := by decide +kernel
theorem dX11_word_122 : decode cX11_word 122 = .ok (.getfield 60, 3) := by decide +kernel
theorem dX11_word_125 : decode cX11_word 125 = .ok (.iload_n 1, 1) := by decide +kernel
theorem dX11_word_126 : decode cX11_word 126 = .ok (.iaload, 1) := by decide +kernel
theorem dX11_word_127 : decode cX11_word 127 = .ok (.ireturn, 1) := by decide +kernel
theorem dX11_word_128 : decode cX11_word 128 = .ok (.aload_n 0, 1) := by decide +kernel
theorem dX11_word_129 : decode cX11_word 129 = .ok (.getfield 63, 3) := by decide +kernel
theorem dX11_word_132 : decode cX11_word 132 = .ok (.iload_n 1, 1) := by decide +kernel
theorem dX11_word_133 : decode cX11_word 133 = .ok (.iaload, 1) := by decide +kernel
theorem dX11_word_134 : decode cX11_word 134 = .ok (.ireturn, 1) := by decide +kernel
theorem dX11_word_135 : decode cX11_word 135 = .ok (.aload_n 0, 1) := by decide +kernel
theorem dX11_word_136 : decode cX11_word 136 = .ok (.getfield 66, 3) := by decide +kernel
theorem dX11_word_139 : decode cX11_word 139 = .ok (.iload_n 1, 1) := by decide +kernel
theorem dX11_word_140 : decode cX11_word 140 = .ok (.iaload, 1) := by decide +kernel
theorem dX11_word_141 : decode cX11_word 141 = .ok (.ireturn, 1) := by decide +kernel
theorem dX11_result_0 : decode cX11_result 0 = .ok (.aload_n 0, 1) := by decide +kernel
theorem dX11_result_1 : decode cX11_result 1 = .ok (.iconst 1, 1) := by decide +kernel
theorem dX11_result_2 : decode cX11_result 2 = .ok (.aload_n 0, 1) := by decide +kernel
theorem dX11_result_3 : decode cX11_result 3 = .ok (.invokevirtual 342, 3) := by decide +kernel
theorem dX11_result_6 : decode cX11_result 6 = .ok (.invokevirtual 111, 3) := by decide +kernel
theorem dX11_result_9 : decode cX11_result 9 = .ok (.ifCond .ne 25, 3) := by decide +kernel
theorem dX11_result_12 : decode cX11_result 12 = .ok (.aload_n 0, 1) := by decide +kernel
theorem dX11_result_13 : decode cX11_result 13 = .ok (.iconst 2, 1) := by decide +kernel
theorem dX11_result_14 : decode cX11_result 14 = .ok (.iload_n 1, 1) := by decide +kernel
theorem dX11_result_15 : decode cX11_result 15 = .ok (.iconst 0, 1) := by decide +kernel
theorem dX11_result_16 : decode cX11_result 16 = .ok (.iconst 5, 1) := by decide +kernel
theorem dX11_result_17 : decode cX11_result 17 = .ok (.invokestatic 107, 3) := by decide +kernel
theorem dX11_result_20 : decode cX11_result 20 = .ok (.ifCond .ne 7, 3) := by decide +kernel
theorem dX11_result_23 : decode cX11_result 23 = .ok (.iconst 1, 1) := by decide +kernel
theorem dX11_result_24 : decode cX11_result 24 = .ok (.goto 4, 3) := by decide +kernel
theorem dX11_result_27 : decode cX11_result 27 = .ok (.iconst 0, 1) := by decide +kernel
theorem dX11_result_28 : decode cX11_result 28 = .ok (.invokevirtual 111, 3) := by decide +kernel
theorem dX11_result_31 : decode cX11_result 31 = .ok (.ifCond .eq 5, 3) := by decide +kernel
theorem dX11_result_34 : decode cX11_result 34 = .ok (.iconst 0, 1) := by decide +kernel
theorem dX11_result_35 : decode cX11_result 35 = .ok (.ireturn, 1) := by decide +kernel
theorem dX11_result_36 : decode cX11_result 36 = .ok (.iload_n 1, 1) := by decide +kernel
theorem dX11_result_37 : decode cX11_result 37 = .ok (.tableswitch 60 0 4 #[35, 40, 45, 50, 55], 35) := by decide +kernel
theorem dX11_result_72 : decode cX11_result 72 = .ok (.aload_n 0, 1) := by decide +kernel
theorem dX11_result_73 : decode cX11_result 73 = .ok (.getfield 72, 3) := by decide +kernel
theorem dX11_result_76 : decode cX11_result 76 = .ok (.ireturn, 1) := by decide +kernel
theorem dX11_result_77 : decode cX11_result 77 = .ok (.aload_n 0, 1) := by decide +kernel
theorem dX11_result_78 : decode cX11_result 78 = .ok (.getfield 292, 3) := by decide +kernel
theorem dX11_result_81 : decode cX11_result 81 = .ok (.ireturn, 1) := by decide +kernel
theorem dX11_result_82 : decode cX11_result 82 = .ok (.aload_n 0, 1) := by decide +kernel
theorem dX11_result_83 : decode cX11_result 83 = .ok (.getfield 313, 3) := by decide +kernel
theorem dX11_result_86 : decode cX11_result 86 = .ok (.ireturn, 1) := by decide +kernel
theorem dX11_result_87 : decode cX11_result 87 = .ok (.aload_n 0, 1) := by decide +kernel
theorem dX11_result_88 : decode cX11_result 88 = .ok (.getfield 295, 3) := by decide +kernel
theorem dX11_result_91 : decode cX11_result 91 = .ok (.ireturn, 1) := by decide +kernel
theorem dX11_result_92 : decode cX11_result 92 = .ok (.aload_n 0, 1) := by decide +kernel
theorem dX11_result_93 : decode cX11_result 93 = .ok (.getfield 304, 3) := by decide +kernel
theorem dX11_result_96 : decode cX11_result 96 = .ok (.ireturn, 1) := by decide +kernel
theorem dX11_result_97 : decode cX11_result 97 = .ok (.aload_n 0, 1) := by decide +kernel
theorem dX11_result_98 : decode cX11_result 98 = .ok (.getfield 316, 3) := by decide +kernel
theorem dX11_result_101 : decode cX11_result 101 = .ok (.ireturn, 1) := by decide +kernel
theorem dX11_firstLost_0 : decode cX11_firstLost 0 = .ok (.aload_n 0, 1) := by decide +kernel
theorem dX11_firstLost_1 : decode cX11_firstLost 1 = .ok (.iconst 1, 1) := by decide +kernel
theorem dX11_firstLost_2 : decode cX11_firstLost 2 = .ok (.aload_n 0, 1) := by decide +kernel
theorem dX11_firstLost_3 : decode cX11_firstLost 3 = .ok (.iconst 0, 1) := by decide +kernel
theorem dX11_firstLost_4 : decode cX11_firstLost 4 = .ok (.iconst 0, 1) := by decide +kernel
theorem dX11_firstLost_5 : decode cX11_firstLost 5 = .ok (.invokevirtual 335, 3) := by decide +kernel
theorem dX11_firstLost_8 : decode cX11_firstLost 8 = .ok (.invokevirtual 111, 3) := by decide +kernel
theorem dX11_firstLost_11 : decode cX11_firstLost 11 = .ok (.ifCond .eq 5, 3) := by decide +kernel
theorem dX11_firstLost_14 : decode cX11_firstLost 14 = .ok (.iconst 0, 1) := by decide +kernel
theorem dX11_firstLost_15 : decode cX11_firstLost 15 = .ok (.ireturn, 1) := by decide +kernel
theorem dX11_firstLost_16 : decode cX11_firstLost 16 = .ok (.aload_n 0, 1) := by decide +kernel
theorem dX11_firstLost_17 : decode cX11_firstLost 17 = .ok (.invokevirtual 310, 3) := by decide +kernel
theorem dX11_firstLost_20 : decode cX11_firstLost 20 = .ok (.iconst 0, 1) := by decide +kernel
theorem dX11_firstLost_21 : decode cX11_firstLost 21 = .ok (.istore_n 1, 1) := by decide +kernel
theorem dX11_firstLost_22 : decode cX11_firstLost 22 = .ok (.iconst (-1), 1) := by decide +kernel
theorem dX11_firstLost_23 : decode cX11_firstLost 23 = .ok (.istore_n 2, 1) := by decide +kernel
theorem dX11_firstLost_24 : decode cX11_firstLost 24 = .ok (.iconst 0, 1) := by decide +kernel
theorem dX11_firstLost_25 : decode cX11_firstLost 25 = .ok (.istore_n 3, 1) := by decide +kernel
theorem dX11_firstLost_26 : decode cX11_firstLost 26 = .ok (.iload_n 3, 1) := by decide +kernel
theorem dX11_firstLost_27 : decode cX11_firstLost 27 = .ok (.aload_n 0, 1) := by decide +kernel
theorem dX11_firstLost_28 : decode cX11_firstLost 28 = .ok (.getfield 129, 3) := by decide +kernel
theorem dX11_firstLost_31 : decode cX11_firstLost 31 = .ok (.if_icmp .ge 96, 3) := by decide +kernel
theorem dX11_firstLost_34 : decode cX11_firstLost 34 = .ok (.iload_n 2, 1) := by decide +kernel
theorem dX11_firstLost_35 : decode cX11_firstLost 35 = .ok (.ifCond .ge 92, 3) := by decide +kernel
theorem dX11_firstLost_38 : decode cX11_firstLost 38 = .ok (.aload_n 0, 1) := by decide +kernel
theorem dX11_firstLost_39 : decode cX11_firstLost 39 = .ok (.iload_n 3, 1) := by decide +kernel
theorem dX11_firstLost_40 : decode cX11_firstLost 40 = .ok (.iload_n 1, 1) := by decide +kernel
theorem dX11_firstLost_41 : decode cX11_firstLost 41 = .ok (.invokevirtual 319, 3) := by decide +kernel
theorem dX11_firstLost_44 : decode cX11_firstLost 44 = .ok (.aload_n 0, 1) := by decide +kernel
theorem dX11_firstLost_45 : decode cX11_firstLost 45 = .ok (.getfield 255, 3) := by decide +kernel
theorem dX11_firstLost_48 : decode cX11_firstLost 48 = .ok (.iconst 5, 1) := by decide +kernel
theorem dX11_firstLost_49 : decode cX11_firstLost 49 = .ok (.if_icmp .eq 63, 3) := by decide +kernel
theorem dX11_firstLost_52 : decode cX11_firstLost 52 = .ok (.aload_n 0, 1) := by decide +kernel
theorem dX11_firstLost_53 : decode cX11_firstLost 53 = .ok (.aload_n 0, 1) := by decide +kernel
theorem dX11_firstLost_54 : decode cX11_firstLost 54 = .ok (.getfield 289, 3) := by decide +kernel
theorem dX11_firstLost_57 : decode cX11_firstLost 57 = .ok (.putfield 233, 3) := by decide +kernel
theorem dX11_firstLost_60 : decode cX11_firstLost 60 = .ok (.iconst 0, 1) := by decide +kernel
theorem dX11_firstLost_61 : decode cX11_firstLost 61 = .ok (.istore 4, 2) := by decide +kernel
theorem dX11_firstLost_63 : decode cX11_firstLost 63 = .ok (.iload 4, 2) := by decide +kernel
theorem dX11_firstLost_65 : decode cX11_firstLost 65 = .ok (.aload_n 0, 1) := by decide +kernel
theorem dX11_firstLost_66 : decode cX11_firstLost 66 = .ok (.getfield 289, 3) := by decide +kernel
theorem dX11_firstLost_69 : decode cX11_firstLost 69 = .ok (.if_icmp .ge 23, 3) := by decide +kernel
theorem dX11_firstLost_72 : decode cX11_firstLost 72 = .ok (.aload_n 0, 1) := by decide +kernel
theorem dX11_firstLost_73 : decode cX11_firstLost 73 = .ok (.getfield 39, 3) := by decide +kernel
theorem dX11_firstLost_76 : decode cX11_firstLost 76 = .ok (.iload 4, 2) := by decide +kernel
theorem dX11_firstLost_78 : decode cX11_firstLost 78 = .ok (.aload_n 0, 1) := by decide +kernel
theorem dX11_firstLost_79 : decode cX11_firstLost 79 = .ok (.getfield 45, 3) := by decide +kernel
theorem dX11_firstLost_82 : decode cX11_firstLost 82 = .ok (.iload 4, 2) := by decide +kernel
theorem dX11_firstLost_84 : decode cX11_firstLost 84 = .ok (.iaload, 1) := by decide +kernel
theorem dX11_firstLost_85 : decode cX11_firstLost 85 = .ok (.iastore, 1) := by decide +kernel
theorem dX11_firstLost_86 : decode cX11_firstLost 86 = .ok (.iinc 4 1, 3) := by decide +kernel
theorem dX11_firstLost_89 : decode cX11_firstLost 89 = .ok (.goto (-26), 3) := by decide +kernel
theorem dX11_firstLost_92 : decode cX11_firstLost 92 = .ok (.aload_n 0, 1) := by decide +kernel
theorem dX11_firstLost_93 : decode cX11_firstLost 93 = .ok (.iload_n 1, 1) := by decide +kernel
theorem dX11_firstLost_94 : decode cX11_firstLost 94 = .ok (.iconst 0, 1) := by decide +kernel
theorem dX11_firstLost_95 : decode cX11_firstLost 95 = .ok (.invokevirtual 267, 3) := by decide +kernel
theorem dX11_firstLost_98 : decode cX11_firstLost 98 = .ok (.aload_n 0, 1) := by decide +kernel
theorem dX11_firstLost_99 : decode cX11_firstLost 99 = .ok (.iload_n 3, 1) := by decide +kernel
theorem dX11_firstLost_100 : decode cX11_firstLost 100 = .ok (.invokevirtual 280, 3) := by decide +kernel
theorem dX11_firstLost_103 : decode cX11_firstLost 103 = .ok (.ifCond .eq 7, 3) := by decide +kernel
theorem dX11_firstLost_106 : decode cX11_firstLost 106 = .ok (.iconst (-1), 1) := by decide +kernel
theorem dX11_firstLost_107 : decode cX11_firstLost 107 = .ok (.goto 4, 3) := by decide +kernel
theorem dX11_firstLost_110 : decode cX11_firstLost 110 = .ok (.iload_n 3, 1) := by decide +kernel
theorem dX11_firstLost_111 : decode cX11_firstLost 111 = .ok (.istore_n 2, 1) := by decide +kernel
theorem dX11_firstLost_112 : decode cX11_firstLost 112 = .ok (.aload_n 0, 1) := by decide +kernel
theorem dX11_firstLost_113 : decode cX11_firstLost 113 = .ok (.iload_n 3, 1) := by decide +kernel
theorem dX11_firstLost_114 : decode cX11_firstLost 114 = .ok (.invokevirtual 323, 3) := by decide +kernel
theorem dX11_firstLost_117 : decode cX11_firstLost 117 = .ok (.invokestatic 326, 3) := by decide +kernel
theorem dX11_firstLost_120 : decode cX11_firstLost 120 = .ok (.istore_n 1, 1) := by decide +kernel
theorem dX11_firstLost_121 : decode cX11_firstLost 121 = .ok (.iinc 3 1, 3) := by decide +kernel
theorem dX11_firstLost_124 : decode cX11_firstLost 124 = .ok (.goto (-98), 3) := by decide +kernel
theorem dX11_firstLost_127 : decode cX11_firstLost 127 = .ok (.iload_n 2, 1) := by decide +kernel
theorem dX11_firstLost_128 : decode cX11_firstLost 128 = .ok (.ireturn, 1) := by decide +kernel
theorem dX11_share_0 : decode cX11_share 0 = .ok (.aload_n 0, 1) := by decide +kernel
theorem dX11_share_1 : decode cX11_share 1 = .ok (.iconst 1, 1) := by decide +kernel
theorem dX11_share_2 : decode cX11_share 2 = .ok (.aload_n 0, 1) := by decide +kernel
theorem dX11_share_3 : decode cX11_share 3 = .ok (.invokevirtual 342, 3) := by decide +kernel
theorem dX11_share_6 : decode cX11_share 6 = .ok (.invokevirtual 111, 3) := by decide +kernel
theorem dX11_share_9 : decode cX11_share 9 = .ok (.ifCond .eq 7, 3) := by decide +kernel
theorem dX11_share_12 : decode cX11_share 12 = .ok (.dconst 0, 1) := by decide +kernel
theorem dX11_share_13 : decode cX11_share 13 = .ok (.goto 14, 3) := by decide +kernel
theorem dX11_share_16 : decode cX11_share 16 = .ok (.aload_n 0, 1) := by decide +kernel
theorem dX11_share_17 : decode cX11_share 17 = .ok (.getfield 292, 3) := by decide +kernel
theorem dX11_share_20 : decode cX11_share 20 = .ok (.i2d, 1) := by decide +kernel
theorem dX11_share_21 : decode cX11_share 21 = .ok (.aload_n 0, 1) := by decide +kernel
theorem dX11_share_22 : decode cX11_share 22 = .ok (.getfield 313, 3) := by decide +kernel
theorem dX11_share_25 : decode cX11_share 25 = .ok (.i2d, 1) := by decide +kernel
theorem dX11_share_26 : decode cX11_share 26 = .ok (.ddiv, 1) := by decide +kernel
theorem dX11_share_27 : decode cX11_share 27 = .ok (.dreturn, 1) := by decide +kernel
theorem dX11_meanPriority_0 : decode cX11_meanPriority 0 = .ok (.aload_n 0, 1) := by decide +kernel
theorem dX11_meanPriority_1 : decode cX11_meanPriority 1 = .ok (.iconst 1, 1) := by decide +kernel
theorem dX11_meanPriority_2 : decode cX11_meanPriority 2 = .ok (.aload_n 0, 1) := by decide +kernel
theorem dX11_meanPriority_3 : decode cX11_meanPriority 3 = .ok (.invokevirtual 342, 3) := by decide +kernel
theorem dX11_meanPriority_6 : decode cX11_meanPriority 6 = .ok (.invokevirtual 111, 3) := by decide +kernel
theorem dX11_meanPriority_9 : decode cX11_meanPriority 9 = .ok (.ifCond .ne 23, 3) := by decide +kernel
theorem dX11_meanPriority_12 : decode cX11_meanPriority 12 = .ok (.aload_n 0, 1) := by decide +kernel
theorem dX11_meanPriority_13 : decode cX11_meanPriority 13 = .ok (.iconst 2, 1) := by decide +kernel
theorem dX11_meanPriority_14 : decode cX11_meanPriority 14 = .ok (.aload_n 0, 1) := by decide +kernel
theorem dX11_meanPriority_15 : decode cX11_meanPriority 15 = .ok (.getfield 295, 3) := by decide +kernel
theorem dX11_meanPriority_18 : decode cX11_meanPriority 18 = .ok (.ifCond .ne 7, 3) := by decide +kernel
theorem dX11_meanPriority_21 : decode cX11_meanPriority 21 = .ok (.iconst 1, 1) := by decide +kernel
theorem dX11_meanPriority_22 : decode cX11_meanPriority 22 = .ok (.goto 4, 3) := by decide +kernel
theorem dX11_meanPriority_25 : decode cX11_meanPriority 25 = .ok (.iconst 0, 1) := by decide +kernel
theorem dX11_meanPriority_26 : decode cX11_meanPriority 26 = .ok (.invokevirtual 111, 3) := by decide +kernel
theorem dX11_meanPriority_29 : decode cX11_meanPriority 29 = .ok (.ifCond .eq 7, 3) := by decide +kernel
theorem dX11_meanPriority_32 : decode cX11_meanPriority 32 = .ok (.fconst 0, 1) := by decide +kernel
theorem dX11_meanPriority_33 : decode cX11_meanPriority 33 = .ok (.goto 14, 3) := by decide +kernel
theorem dX11_meanPriority_36 : decode cX11_meanPriority 36 = .ok (.aload_n 0, 1) := by decide +kernel
theorem dX11_meanPriority_37 : decode cX11_meanPriority 37 = .ok (.getfield 298, 3) := by decide +kernel
theorem dX11_meanPriority_40 : decode cX11_meanPriority 40 = .ok (.i2f, 1) := by decide +kernel
theorem dX11_meanPriority_41 : decode cX11_meanPriority 41 = .ok (.aload_n 0, 1) := by decide +kernel
theorem dX11_meanPriority_42 : decode cX11_meanPriority 42 = .ok (.getfield 295, 3) := by decide +kernel
theorem dX11_meanPriority_45 : decode cX11_meanPriority 45 = .ok (.i2f, 1) := by decide +kernel
theorem dX11_meanPriority_46 : decode cX11_meanPriority 46 = .ok (.fdiv, 1) := by decide +kernel
theorem dX11_meanPriority_47 : decode cX11_meanPriority 47 = .ok (.freturn, 1) := by decide +kernel
theorem dX11_isRow_0 : decode cX11_isRow 0 = .ok (.iload_n 0, 1) := by decide +kernel
theorem dX11_isRow_1 : decode cX11_isRow 1 = .ok (.iconst 0, 1) := by decide +kernel
theorem dX11_isRow_2 : decode cX11_isRow 2 = .ok (.iconst 1, 1) := by decide +kernel
theorem dX11_isRow_3 : decode cX11_isRow 3 = .ok (.invokestatic 107, 3) := by decide +kernel
theorem dX11_isRow_6 : decode cX11_isRow 6 = .ok (.ireturn, 1) := by decide +kernel
theorem dX11_storeLengths_0 : decode cX11_storeLengths 0 = .ok (.aload_n 0, 1) := by decide +kernel
theorem dX11_storeLengths_1 : decode cX11_storeLengths 1 = .ok (.iconst 1, 1) := by decide +kernel
theorem dX11_storeLengths_2 : decode cX11_storeLengths 2 = .ok (.iload_n 1, 1) := by decide +kernel
theorem dX11_storeLengths_3 : decode cX11_storeLengths 3 = .ok (.invokestatic 345, 3) := by decide +kernel
theorem dX11_storeLengths_6 : decode cX11_storeLengths 6 = .ok (.ifCond .ne 7, 3) := by decide +kernel
theorem dX11_storeLengths_9 : decode cX11_storeLengths 9 = .ok (.iconst 1, 1) := by decide +kernel
theorem dX11_storeLengths_10 : decode cX11_storeLengths 10 = .ok (.goto 4, 3) := by decide +kernel
theorem dX11_storeLengths_13 : decode cX11_storeLengths 13 = .ok (.iconst 0, 1) := by decide +kernel
theorem dX11_storeLengths_14 : decode cX11_storeLengths 14 = .ok (.invokevirtual 111, 3) := by decide +kernel
theorem dX11_storeLengths_17 : decode cX11_storeLengths 17 = .ok (.ifCond .ne 15, 3) := by decide +kernel
theorem dX11_storeLengths_20 : decode cX11_storeLengths 20 = .ok (.aload_n 0, 1) := by decide +kernel
theorem dX11_storeLengths_21 : decode cX11_storeLengths 21 = .ok (.iconst 2, 1) := by decide +kernel
theorem dX11_storeLengths_22 : decode cX11_storeLengths 22 = .ok (.aload_n 0, 1) := by decide +kernel
theorem dX11_storeLengths_23 : decode cX11_storeLengths 23 = .ok (.invokevirtual 342, 3) := by decide +kernel
theorem dX11_storeLengths_26 : decode cX11_storeLengths 26 = .ok (.invokevirtual 111, 3) := by decide +kernel
theorem dX11_storeLengths_29 : decode cX11_storeLengths 29 = .ok (.ifCond .eq 5, 3) := by decide +kernel
theorem dX11_storeLengths_32 : decode cX11_storeLengths 32 = .ok (.iconst 0, 1) := by decide +kernel
theorem dX11_storeLengths_33 : decode cX11_storeLengths 33 = .ok (.ireturn, 1) := by decide +kernel
theorem dX11_storeLengths_34 : decode cX11_storeLengths 34 = .ok (.aload_n 0, 1) := by decide +kernel
theorem dX11_storeLengths_35 : decode cX11_storeLengths 35 = .ok (.getfield 83, 3) := by decide +kernel
theorem dX11_storeLengths_38 : decode cX11_storeLengths 38 = .ok (.iload_n 1, 1) := by decide +kernel
theorem dX11_storeLengths_39 : decode cX11_storeLengths 39 = .ok (.aload_n 0, 1) := by decide +kernel
theorem dX11_storeLengths_40 : decode cX11_storeLengths 40 = .ok (.getfield 72, 3) := by decide +kernel
theorem dX11_storeLengths_43 : decode cX11_storeLengths 43 = .ok (.iastore, 1) := by decide +kernel
theorem dX11_storeLengths_44 : decode cX11_storeLengths 44 = .ok (.aload_n 0, 1) := by decide +kernel
theorem dX11_storeLengths_45 : decode cX11_storeLengths 45 = .ok (.getfield 86, 3) := by decide +kernel
theorem dX11_storeLengths_48 : decode cX11_storeLengths 48 = .ok (.iload_n 1, 1) := by decide +kernel
theorem dX11_storeLengths_49 : decode cX11_storeLengths 49 = .ok (.iload_n 2, 1) := by decide +kernel
theorem dX11_storeLengths_50 : decode cX11_storeLengths 50 = .ok (.bastore, 1) := by decide +kernel
theorem dX11_storeLengths_51 : decode cX11_storeLengths 51 = .ok (.iconst 0, 1) := by decide +kernel
theorem dX11_storeLengths_52 : decode cX11_storeLengths 52 = .ok (.istore_n 3, 1) := by decide +kernel
theorem dX11_storeLengths_53 : decode cX11_storeLengths 53 = .ok (.iload_n 3, 1) := by decide +kernel
theorem dX11_storeLengths_54 : decode cX11_storeLengths 54 = .ok (.aload_n 0, 1) := by decide +kernel
theorem dX11_storeLengths_55 : decode cX11_storeLengths 55 = .ok (.getfield 72, 3) := by decide +kernel
theorem dX11_storeLengths_58 : decode cX11_storeLengths 58 = .ok (.if_icmp .ge 46, 3) := by decide +kernel
theorem dX11_storeLengths_61 : decode cX11_storeLengths 61 = .ok (.aload_n 0, 1) := by decide +kernel
theorem dX11_storeLengths_62 : decode cX11_storeLengths 62 = .ok (.getfield 75, 3) := by decide +kernel
theorem dX11_storeLengths_65 : decode cX11_storeLengths 65 = .ok (.iload_n 1, 1) := by decide +kernel
theorem dX11_storeLengths_66 : decode cX11_storeLengths 66 = .ok (.aaload, 1) := by decide +kernel
theorem dX11_storeLengths_67 : decode cX11_storeLengths 67 = .ok (.iload_n 3, 1) := by decide +kernel
theorem dX11_storeLengths_68 : decode cX11_storeLengths 68 = .ok (.aload_n 0, 1) := by decide +kernel
theorem dX11_storeLengths_69 : decode cX11_storeLengths 69 = .ok (.getfield 63, 3) := by decide +kernel
theorem dX11_storeLengths_72 : decode cX11_storeLengths 72 = .ok (.iload_n 3, 1) := by decide +kernel
theorem dX11_storeLengths_73 : decode cX11_storeLengths 73 = .ok (.iaload, 1) := by decide +kernel
theorem dX11_storeLengths_74 : decode cX11_storeLengths 74 = .ok (.iastore, 1) := by decide +kernel
theorem dX11_storeLengths_75 : decode cX11_storeLengths 75 = .ok (.aload_n 0, 1) := by decide +kernel
theorem dX11_storeLengths_76 : decode cX11_storeLengths 76 = .ok (.getfield 80, 3) := by decide +kernel
theorem dX11_storeLengths_79 : decode cX11_storeLengths 79 = .ok (.iload_n 1, 1) := by decide +kernel
theorem dX11_storeLengths_80 : decode cX11_storeLengths 80 = .ok (.aaload, 1) := by decide +kernel
theorem dX11_storeLengths_81 : decode cX11_storeLengths 81 = .ok (.iload_n 3, 1) := by decide +kernel
theorem dX11_storeLengths_82 : decode cX11_storeLengths 82 = .ok (.aload_n 0, 1) := by decide +kernel
theorem dX11_storeLengths_83 : decode cX11_storeLengths 83 = .ok (.getfield 63, 3) := by decide +kernel
theorem dX11_storeLengths_86 : decode cX11_storeLengths 86 = .ok (.iload_n 3, 1) := by decide +kernel
theorem dX11_storeLengths_87 : decode cX11_storeLengths 87 = .ok (.iaload, 1) := by decide +kernel
theorem dX11_storeLengths_88 : decode cX11_storeLengths 88 = .ok (.i2f, 1) := by decide +kernel
theorem dX11_storeLengths_89 : decode cX11_storeLengths 89 = .ok (.aload_n 0, 1) := by decide +kernel
theorem dX11_storeLengths_90 : decode cX11_storeLengths 90 = .ok (.getfield 60, 3) := by decide +kernel
theorem dX11_storeLengths_93 : decode cX11_storeLengths 93 = .ok (.iload_n 3, 1) := by decide +kernel
theorem dX11_storeLengths_94 : decode cX11_storeLengths 94 = .ok (.iaload, 1) := by decide +kernel
theorem dX11_storeLengths_95 : decode cX11_storeLengths 95 = .ok (.i2f, 1) := by decide +kernel
theorem dX11_storeLengths_96 : decode cX11_storeLengths 96 = .ok (.fdiv, 1) := by decide +kernel
theorem dX11_storeLengths_97 : decode cX11_storeLengths 97 = .ok (.fastore, 1) := by decide +kernel
theorem dX11_storeLengths_98 : decode cX11_storeLengths 98 = .ok (.iinc 3 1, 3) := by decide +kernel
theorem dX11_storeLengths_101 : decode cX11_storeLengths 101 = .ok (.goto (-48), 3) := by decide +kernel
theorem dX11_storeLengths_104 : decode cX11_storeLengths 104 = .ok (.aload_n 0, 1) := by decide +kernel
theorem dX11_storeLengths_105 : decode cX11_storeLengths 105 = .ok (.getfield 72, 3) := by decide +kernel
theorem dX11_storeLengths_108 : decode cX11_storeLengths 108 = .ok (.ireturn, 1) := by decide +kernel
theorem dX11_copyLengths_0 : decode cX11_copyLengths 0 = .ok (.aload_n 0, 1) := by decide +kernel
theorem dX11_copyLengths_1 : decode cX11_copyLengths 1 = .ok (.iconst 1, 1) := by decide +kernel
theorem dX11_copyLengths_2 : decode cX11_copyLengths 2 = .ok (.iload_n 1, 1) := by decide +kernel
theorem dX11_copyLengths_3 : decode cX11_copyLengths 3 = .ok (.invokestatic 345, 3) := by decide +kernel
theorem dX11_copyLengths_6 : decode cX11_copyLengths 6 = .ok (.ifCond .ne 7, 3) := by decide +kernel
theorem dX11_copyLengths_9 : decode cX11_copyLengths 9 = .ok (.iconst 1, 1) := by decide +kernel
theorem dX11_copyLengths_10 : decode cX11_copyLengths 10 = .ok (.goto 4, 3) := by decide +kernel
theorem dX11_copyLengths_13 : decode cX11_copyLengths 13 = .ok (.iconst 0, 1) := by decide +kernel
theorem dX11_copyLengths_14 : decode cX11_copyLengths 14 = .ok (.invokevirtual 111, 3) := by decide +kernel
theorem dX11_copyLengths_17 : decode cX11_copyLengths 17 = .ok (.ifCond .ne 62, 3) := by decide +kernel
theorem dX11_copyLengths_20 : decode cX11_copyLengths 20 = .ok (.aload_n 0, 1) := by decide +kernel
theorem dX11_copyLengths_21 : decode cX11_copyLengths 21 = .ok (.iconst 2, 1) := by decide +kernel
theorem dX11_copyLengths_22 : decode cX11_copyLengths 22 = .ok (.aload_n 0, 1) := by decide +kernel
theorem dX11_copyLengths_23 : decode cX11_copyLengths 23 = .ok (.getfield 83, 3) := by decide +kernel
theorem dX11_copyLengths_26 : decode cX11_copyLengths 26 = .ok (.iconst 0, 1) := by decide +kernel
theorem dX11_copyLengths_27 : decode cX11_copyLengths 27 = .ok (.iaload, 1) := by decide +kernel
theorem dX11_copyLengths_28 : decode cX11_copyLengths 28 = .ok (.ifCond .lt 12, 3) := by decide +kernel
theorem dX11_copyLengths_31 : decode cX11_copyLengths 31 = .ok (.aload_n 0, 1) := by decide +kernel
theorem dX11_copyLengths_32 : decode cX11_copyLengths 32 = .ok (.getfield 83, 3) := by decide +kernel
theorem dX11_copyLengths_35 : decode cX11_copyLengths 35 = .ok (.iconst 1, 1) := by decide +kernel
theorem dX11_copyLengths_36 : decode cX11_copyLengths 36 = .ok (.iaload, 1) := by decide +kernel
theorem dX11_copyLengths_37 : decode cX11_copyLengths 37 = .ok (.ifCond .ge 7, 3) := by decide +kernel
theorem dX11_copyLengths_40 : decode cX11_copyLengths 40 = .ok (.iconst 1, 1) := by decide +kernel
theorem dX11_copyLengths_41 : decode cX11_copyLengths 41 = .ok (.goto 4, 3) := by decide +kernel
theorem dX11_copyLengths_44 : decode cX11_copyLengths 44 = .ok (.iconst 0, 1) := by decide +kernel
theorem dX11_copyLengths_45 : decode cX11_copyLengths 45 = .ok (.invokevirtual 111, 3) := by decide +kernel
theorem dX11_copyLengths_48 : decode cX11_copyLengths 48 = .ok (.ifCond .ne 31, 3) := by decide +kernel
theorem dX11_copyLengths_51 : decode cX11_copyLengths 51 = .ok (.aload_n 0, 1) := by decide +kernel
theorem dX11_copyLengths_52 : decode cX11_copyLengths 52 = .ok (.iconst 3, 1) := by decide +kernel
theorem dX11_copyLengths_53 : decode cX11_copyLengths 53 = .ok (.aload_n 0, 1) := by decide +kernel
theorem dX11_copyLengths_54 : decode cX11_copyLengths 54 = .ok (.getfield 86, 3) := by decide +kernel
theorem dX11_copyLengths_57 : decode cX11_copyLengths 57 = .ok (.iconst 0, 1) := by decide +kernel
theorem dX11_copyLengths_58 : decode cX11_copyLengths 58 = .ok (.baload, 1) := by decide +kernel
theorem dX11_copyLengths_59 : decode cX11_copyLengths 59 = .ok (.aload_n 0, 1) := by decide +kernel
theorem dX11_copyLengths_60 : decode cX11_copyLengths 60 = .ok (.getfield 86, 3) := by decide +kernel
theorem dX11_copyLengths_63 : decode cX11_copyLengths 63 = .ok (.iconst 1, 1) := by decide +kernel
theorem dX11_copyLengths_64 : decode cX11_copyLengths 64 = .ok (.baload, 1) := by decide +kernel
theorem dX11_copyLengths_65 : decode cX11_copyLengths 65 = .ok (.if_icmp .eq 7, 3) := by decide +kernel
theorem dX11_copyLengths_68 : decode cX11_copyLengths 68 = .ok (.iconst 1, 1) := by decide +kernel
theorem dX11_copyLengths_69 : decode cX11_copyLengths 69 = .ok (.goto 4, 3) := by decide +kernel
theorem dX11_copyLengths_72 : decode cX11_copyLengths 72 = .ok (.iconst 0, 1) := by decide +kernel
theorem dX11_copyLengths_73 : decode cX11_copyLengths 73 = .ok (.invokevirtual 111, 3) := by decide +kernel
theorem dX11_copyLengths_76 : decode cX11_copyLengths 76 = .ok (.ifCond .eq 5, 3) := by decide +kernel
theorem dX11_copyLengths_79 : decode cX11_copyLengths 79 = .ok (.iconst 0, 1) := by decide +kernel
theorem dX11_copyLengths_80 : decode cX11_copyLengths 80 = .ok (.ireturn, 1) := by decide +kernel
theorem dX11_copyLengths_81 : decode cX11_copyLengths 81 = .ok (.aload_n 0, 1) := by decide +kernel
theorem dX11_copyLengths_82 : decode cX11_copyLengths 82 = .ok (.iconst 4, 1) := by decide +kernel
theorem dX11_copyLengths_83 : decode cX11_copyLengths 83 = .ok (.iload_n 2, 1) := by decide +kernel
theorem dX11_copyLengths_84 : decode cX11_copyLengths 84 = .ok (.ifCond .lt 23, 3) := by decide +kernel
theorem dX11_copyLengths_87 : decode cX11_copyLengths 87 = .ok (.iload_n 2, 1) := by decide +kernel
theorem dX11_copyLengths_88 : decode cX11_copyLengths 88 = .ok (.aload_n 0, 1) := by decide +kernel
theorem dX11_copyLengths_89 : decode cX11_copyLengths 89 = .ok (.getfield 83, 3) := by decide +kernel
theorem dX11_copyLengths_92 : decode cX11_copyLengths 92 = .ok (.iconst 0, 1) := by decide +kernel
theorem dX11_copyLengths_93 : decode cX11_copyLengths 93 = .ok (.iaload, 1) := by decide +kernel
theorem dX11_copyLengths_94 : decode cX11_copyLengths 94 = .ok (.if_icmp .gt 13, 3) := by decide +kernel
theorem dX11_copyLengths_97 : decode cX11_copyLengths 97 = .ok (.iload_n 2, 1) := by decide +kernel
theorem dX11_copyLengths_98 : decode cX11_copyLengths 98 = .ok (.aload_n 0, 1) := by decide +kernel
theorem dX11_copyLengths_99 : decode cX11_copyLengths 99 = .ok (.getfield 83, 3) := by decide +kernel
theorem dX11_copyLengths_102 : decode cX11_copyLengths 102 = .ok (.iconst 1, 1) := by decide +kernel
theorem dX11_copyLengths_103 : decode cX11_copyLengths 103 = .ok (.iaload, 1) := by decide +kernel
theorem dX11_copyLengths_104 : decode cX11_copyLengths 104 = .ok (.if_icmp .le 7, 3) := by decide +kernel
theorem dX11_copyLengths_107 : decode cX11_copyLengths 107 = .ok (.iconst 1, 1) := by decide +kernel
theorem dX11_copyLengths_108 : decode cX11_copyLengths 108 = .ok (.goto 4, 3) := by decide +kernel
theorem dX11_copyLengths_111 : decode cX11_copyLengths 111 = .ok (.iconst 0, 1) := by decide +kernel
theorem dX11_copyLengths_112 : decode cX11_copyLengths 112 = .ok (.invokevirtual 111, 3) := by decide +kernel
theorem dX11_copyLengths_115 : decode cX11_copyLengths 115 = .ok (.ifCond .eq 5, 3) := by decide +kernel
theorem dX11_copyLengths_118 : decode cX11_copyLengths 118 = .ok (.iconst 0, 1) := by decide +kernel
theorem dX11_copyLengths_119 : decode cX11_copyLengths 119 = .ok (.ireturn, 1) := by decide +kernel
theorem dX11_copyLengths_120 : decode cX11_copyLengths 120 = .ok (.iconst 1, 1) := by decide +kernel
theorem dX11_copyLengths_121 : decode cX11_copyLengths 121 = .ok (.iload_n 1, 1) := by decide +kernel
theorem dX11_copyLengths_122 : decode cX11_copyLengths 122 = .ok (.isub, 1) := by decide +kernel
theorem dX11_copyLengths_123 : decode cX11_copyLengths 123 = .ok (.istore_n 3, 1) := by decide +kernel
theorem dX11_copyLengths_124 : decode cX11_copyLengths 124 = .ok (.iconst 0, 1) := by decide +kernel
theorem dX11_copyLengths_125 : decode cX11_copyLengths 125 = .ok (.istore 4, 2) := by decide +kernel
theorem dX11_copyLengths_127 : decode cX11_copyLengths 127 = .ok (.iconst 0, 1) := by decide +kernel
theorem dX11_copyLengths_128 : decode cX11_copyLengths 128 = .ok (.istore 5, 2) := by decide +kernel
theorem dX11_copyLengths_130 : decode cX11_copyLengths 130 = .ok (.iload 5, 2) := by decide +kernel
theorem dX11_copyLengths_132 : decode cX11_copyLengths 132 = .ok (.iload_n 2, 1) := by decide +kernel
theorem dX11_copyLengths_133 : decode cX11_copyLengths 133 = .ok (.if_icmp .ge 115, 3) := by decide +kernel
theorem dX11_copyLengths_136 : decode cX11_copyLengths 136 = .ok (.iload 4, 2) := by decide +kernel
theorem dX11_copyLengths_138 : decode cX11_copyLengths 138 = .ok (.aload_n 0, 1) := by decide +kernel
theorem dX11_copyLengths_139 : decode cX11_copyLengths 139 = .ok (.getfield 86, 3) := by decide +kernel
theorem dX11_copyLengths_142 : decode cX11_copyLengths 142 = .ok (.iconst 0, 1) := by decide +kernel
theorem dX11_copyLengths_143 : decode cX11_copyLengths 143 = .ok (.baload, 1) := by decide +kernel
theorem dX11_copyLengths_144 : decode cX11_copyLengths 144 = .ok (.ifCond .eq 32, 3) := by decide +kernel
theorem dX11_copyLengths_147 : decode cX11_copyLengths 147 = .ok (.aload_n 0, 1) := by decide +kernel
theorem dX11_copyLengths_148 : decode cX11_copyLengths 148 = .ok (.getfield 75, 3) := by decide +kernel
theorem dX11_copyLengths_151 : decode cX11_copyLengths 151 = .ok (.iload_n 3, 1) := by decide +kernel
theorem dX11_copyLengths_152 : decode cX11_copyLengths 152 = .ok (.aaload, 1) := by decide +kernel
theorem dX11_copyLengths_153 : decode cX11_copyLengths 153 = .ok (.iload 5, 2) := by decide +kernel
theorem dX11_copyLengths_155 : decode cX11_copyLengths 155 = .ok (.iaload, 1) := by decide +kernel
theorem dX11_copyLengths_156 : decode cX11_copyLengths 156 = .ok (.aload_n 0, 1) := by decide +kernel
theorem dX11_copyLengths_157 : decode cX11_copyLengths 157 = .ok (.getfield 75, 3) := by decide +kernel
theorem dX11_copyLengths_160 : decode cX11_copyLengths 160 = .ok (.iload_n 1, 1) := by decide +kernel
theorem dX11_copyLengths_161 : decode cX11_copyLengths 161 = .ok (.aaload, 1) := by decide +kernel
theorem dX11_copyLengths_162 : decode cX11_copyLengths 162 = .ok (.iload 5, 2) := by decide +kernel
theorem dX11_copyLengths_164 : decode cX11_copyLengths 164 = .ok (.iaload, 1) := by decide +kernel
theorem dX11_copyLengths_165 : decode cX11_copyLengths 165 = .ok (.if_icmp .eq 7, 3) := by decide +kernel
theorem dX11_copyLengths_168 : decode cX11_copyLengths 168 = .ok (.iconst 1, 1) := by decide +kernel
theorem dX11_copyLengths_169 : decode cX11_copyLengths 169 = .ok (.goto 34, 3) := by decide +kernel
theorem dX11_copyLengths_172 : decode cX11_copyLengths 172 = .ok (.iconst 0, 1) := by decide +kernel
theorem dX11_copyLengths_173 : decode cX11_copyLengths 173 = .ok (.goto 30, 3) := by decide +kernel
theorem dX11_copyLengths_176 : decode cX11_copyLengths 176 = .ok (.aload_n 0, 1) := by decide +kernel
theorem dX11_copyLengths_177 : decode cX11_copyLengths 177 = .ok (.getfield 80, 3) := by decide +kernel
theorem dX11_copyLengths_180 : decode cX11_copyLengths 180 = .ok (.iload_n 3, 1) := by decide +kernel
theorem dX11_copyLengths_181 : decode cX11_copyLengths 181 = .ok (.aaload, 1) := by decide +kernel
theorem dX11_copyLengths_182 : decode cX11_copyLengths 182 = .ok (.iload 5, 2) := by decide +kernel
theorem dX11_copyLengths_184 : decode cX11_copyLengths 184 = .ok (.faload, 1) := by decide +kernel
theorem dX11_copyLengths_185 : decode cX11_copyLengths 185 = .ok (.aload_n 0, 1) := by decide +kernel
theorem dX11_copyLengths_186 : decode cX11_copyLengths 186 = .ok (.getfield 80, 3) := by decide +kernel
theorem dX11_copyLengths_189 : decode cX11_copyLengths 189 = .ok (.iload_n 1, 1) := by decide +kernel
theorem dX11_copyLengths_190 : decode cX11_copyLengths 190 = .ok (.aaload, 1) := by decide +kernel
theorem dX11_copyLengths_191 : decode cX11_copyLengths 191 = .ok (.iload 5, 2) := by decide +kernel
theorem dX11_copyLengths_193 : decode cX11_copyLengths 193 = .ok (.faload, 1) := by decide +kernel
theorem dX11_copyLengths_194 : decode cX11_copyLengths 194 = .ok (.fcmp .l, 1) := by decide +kernel
theorem dX11_copyLengths_195 : decode cX11_copyLengths 195 = .ok (.ifCond .eq 7, 3) := by decide +kernel
theorem dX11_copyLengths_198 : decode cX11_copyLengths 198 = .ok (.iconst 1, 1) := by decide +kernel
theorem dX11_copyLengths_199 : decode cX11_copyLengths 199 = .ok (.goto 4, 3) := by decide +kernel
theorem dX11_copyLengths_202 : decode cX11_copyLengths 202 = .ok (.iconst 0, 1) := by decide +kernel
theorem dX11_copyLengths_203 : decode cX11_copyLengths 203 = .ok (.ior, 1) := by decide +kernel
theorem dX11_copyLengths_204 : decode cX11_copyLengths 204 = .ok (.istore 4, 2) := by decide +kernel
theorem dX11_copyLengths_206 : decode cX11_copyLengths 206 = .ok (.aload_n 0, 1) := by decide +kernel
theorem dX11_copyLengths_207 : decode cX11_copyLengths 207 = .ok (.getfield 75, 3) := by decide +kernel
theorem dX11_copyLengths_210 : decode cX11_copyLengths 210 = .ok (.iload_n 3, 1) := by decide +kernel
theorem dX11_copyLengths_211 : decode cX11_copyLengths 211 = .ok (.aaload, 1) := by decide +kernel
theorem dX11_copyLengths_212 : decode cX11_copyLengths 212 = .ok (.iload 5, 2) := by decide +kernel
theorem dX11_copyLengths_214 : decode cX11_copyLengths 214 = .ok (.aload_n 0, 1) := by decide +kernel
theorem dX11_copyLengths_215 : decode cX11_copyLengths 215 = .ok (.getfield 75, 3) := by decide +kernel
theorem dX11_copyLengths_218 : decode cX11_copyLengths 218 = .ok (.iload_n 1, 1) := by decide +kernel
theorem dX11_copyLengths_219 : decode cX11_copyLengths 219 = .ok (.aaload, 1) := by decide +kernel
theorem dX11_copyLengths_220 : decode cX11_copyLengths 220 = .ok (.iload 5, 2) := by decide +kernel
theorem dX11_copyLengths_222 : decode cX11_copyLengths 222 = .ok (.iaload, 1) := by decide +kernel
theorem dX11_copyLengths_223 : decode cX11_copyLengths 223 = .ok (.iastore, 1) := by decide +kernel
theorem dX11_copyLengths_224 : decode cX11_copyLengths 224 = .ok (.aload_n 0, 1) := by decide +kernel
theorem dX11_copyLengths_225 : decode cX11_copyLengths 225 = .ok (.getfield 80, 3) := by decide +kernel
theorem dX11_copyLengths_228 : decode cX11_copyLengths 228 = .ok (.iload_n 3, 1) := by decide +kernel
theorem dX11_copyLengths_229 : decode cX11_copyLengths 229 = .ok (.aaload, 1) := by decide +kernel
theorem dX11_copyLengths_230 : decode cX11_copyLengths 230 = .ok (.iload 5, 2) := by decide +kernel
theorem dX11_copyLengths_232 : decode cX11_copyLengths 232 = .ok (.aload_n 0, 1) := by decide +kernel
theorem dX11_copyLengths_233 : decode cX11_copyLengths 233 = .ok (.getfield 80, 3) := by decide +kernel
theorem dX11_copyLengths_236 : decode cX11_copyLengths 236 = .ok (.iload_n 1, 1) := by decide +kernel
theorem dX11_copyLengths_237 : decode cX11_copyLengths 237 = .ok (.aaload, 1) := by decide +kernel
theorem dX11_copyLengths_238 : decode cX11_copyLengths 238 = .ok (.iload 5, 2) := by decide +kernel
theorem dX11_copyLengths_240 : decode cX11_copyLengths 240 = .ok (.faload, 1) := by decide +kernel
theorem dX11_copyLengths_241 : decode cX11_copyLengths 241 = .ok (.fastore, 1) := by decide +kernel
theorem dX11_copyLengths_242 : decode cX11_copyLengths 242 = .ok (.iinc 5 1, 3) := by decide +kernel
theorem dX11_copyLengths_245 : decode cX11_copyLengths 245 = .ok (.goto (-115), 3) := by decide +kernel
theorem dX11_copyLengths_248 : decode cX11_copyLengths 248 = .ok (.iload 4, 2) := by decide +kernel
theorem dX11_copyLengths_250 : decode cX11_copyLengths 250 = .ok (.ireturn, 1) := by decide +kernel
theorem dX11_storedBits_0 : decode cX11_storedBits 0 = .ok (.aload_n 0, 1) := by decide +kernel
theorem dX11_storedBits_1 : decode cX11_storedBits 1 = .ok (.iconst 1, 1) := by decide +kernel
theorem dX11_storedBits_2 : decode cX11_storedBits 2 = .ok (.iload_n 1, 1) := by decide +kernel
theorem dX11_storedBits_3 : decode cX11_storedBits 3 = .ok (.invokestatic 345, 3) := by decide +kernel
theorem dX11_storedBits_6 : decode cX11_storedBits 6 = .ok (.ifCond .ne 7, 3) := by decide +kernel
theorem dX11_storedBits_9 : decode cX11_storedBits 9 = .ok (.iconst 1, 1) := by decide +kernel
theorem dX11_storedBits_10 : decode cX11_storedBits 10 = .ok (.goto 4, 3) := by decide +kernel
theorem dX11_storedBits_13 : decode cX11_storedBits 13 = .ok (.iconst 0, 1) := by decide +kernel
theorem dX11_storedBits_14 : decode cX11_storedBits 14 = .ok (.invokevirtual 111, 3) := by decide +kernel
theorem dX11_storedBits_17 : decode cX11_storedBits 17 = .ok (.ifCond .ne 32, 3) := by decide +kernel
theorem dX11_storedBits_20 : decode cX11_storedBits 20 = .ok (.aload_n 0, 1) := by decide +kernel
theorem dX11_storedBits_21 : decode cX11_storedBits 21 = .ok (.iconst 2, 1) := by decide +kernel
theorem dX11_storedBits_22 : decode cX11_storedBits 22 = .ok (.iload_n 2, 1) := by decide +kernel
theorem dX11_storedBits_23 : decode cX11_storedBits 23 = .ok (.iconst 0, 1) := by decide +kernel
theorem dX11_storedBits_24 : decode cX11_storedBits 24 = .ok (.aload_n 0, 1) := by decide +kernel
theorem dX11_storedBits_25 : decode cX11_storedBits 25 = .ok (.getfield 83, 3) := by decide +kernel
theorem dX11_storedBits_28 : decode cX11_storedBits 28 = .ok (.iload_n 1, 1) := by decide +kernel
theorem dX11_storedBits_29 : decode cX11_storedBits 29 = .ok (.iaload, 1) := by decide +kernel
theorem dX11_storedBits_30 : decode cX11_storedBits 30 = .ok (.iconst 1, 1) := by decide +kernel
theorem dX11_storedBits_31 : decode cX11_storedBits 31 = .ok (.isub, 1) := by decide +kernel
theorem dX11_storedBits_32 : decode cX11_storedBits 32 = .ok (.invokestatic 107, 3) := by decide +kernel
theorem dX11_storedBits_35 : decode cX11_storedBits 35 = .ok (.ifCond .ne 7, 3) := by decide +kernel
theorem dX11_storedBits_38 : decode cX11_storedBits 38 = .ok (.iconst 1, 1) := by decide +kernel
theorem dX11_storedBits_39 : decode cX11_storedBits 39 = .ok (.goto 4, 3) := by decide +kernel
theorem dX11_storedBits_42 : decode cX11_storedBits 42 = .ok (.iconst 0, 1) := by decide +kernel
theorem dX11_storedBits_43 : decode cX11_storedBits 43 = .ok (.invokevirtual 111, 3) := by decide +kernel
theorem dX11_storedBits_46 : decode cX11_storedBits 46 = .ok (.ifCond .eq 5, 3) := by decide +kernel
theorem dX11_storedBits_49 : decode cX11_storedBits 49 = .ok (.iconst 0, 1) := by decide +kernel
theorem dX11_storedBits_50 : decode cX11_storedBits 50 = .ok (.ireturn, 1) := by decide +kernel
theorem dX11_storedBits_51 : decode cX11_storedBits 51 = .ok (.aload_n 0, 1) := by decide +kernel
theorem dX11_storedBits_52 : decode cX11_storedBits 52 = .ok (.getfield 86, 3) := by decide +kernel
theorem dX11_storedBits_55 : decode cX11_storedBits 55 = .ok (.iload_n 1, 1) := by decide +kernel
theorem dX11_storedBits_56 : decode cX11_storedBits 56 = .ok (.baload, 1) := by decide +kernel
theorem dX11_storedBits_57 : decode cX11_storedBits 57 = .ok (.ifCond .eq 15, 3) := by decide +kernel
theorem dX11_storedBits_60 : decode cX11_storedBits 60 = .ok (.aload_n 0, 1) := by decide +kernel
theorem dX11_storedBits_61 : decode cX11_storedBits 61 = .ok (.getfield 75, 3) := by decide +kernel
theorem dX11_storedBits_64 : decode cX11_storedBits 64 = .ok (.iload_n 1, 1) := by decide +kernel
theorem dX11_storedBits_65 : decode cX11_storedBits 65 = .ok (.aaload, 1) := by decide +kernel
theorem dX11_storedBits_66 : decode cX11_storedBits 66 = .ok (.iload_n 2, 1) := by decide +kernel
theorem dX11_storedBits_67 : decode cX11_storedBits 67 = .ok (.iaload, 1) := by decide +kernel
theorem dX11_storedBits_68 : decode cX11_storedBits 68 = .ok (.i2f, 1) := by decide +kernel
theorem dX11_storedBits_69 : decode cX11_storedBits 69 = .ok (.goto 11, 3) := by decide +kernel
theorem dX11_storedBits_72 : decode cX11_storedBits 72 = .ok (.aload_n 0, 1) := by decide +kernel
theorem dX11_storedBits_73 : decode cX11_storedBits 73 = .ok (.getfield 80, 3) := by decide +kernel
theorem dX11_storedBits_76 : decode cX11_storedBits 76 = .ok (.iload_n 1, 1) := by decide +kernel
theorem dX11_storedBits_77 : decode cX11_storedBits 77 = .ok (.aaload, 1) := by decide +kernel
theorem dX11_storedBits_78 : decode cX11_storedBits 78 = .ok (.iload_n 2, 1) := by decide +kernel
theorem dX11_storedBits_79 : decode cX11_storedBits 79 = .ok (.faload, 1) := by decide +kernel
theorem dX11_storedBits_80 : decode cX11_storedBits 80 = .ok (.invokestatic 348, 3) := by decide +kernel
theorem dX11_storedBits_83 : decode cX11_storedBits 83 = .ok (.ireturn, 1) := by decide +kernel
theorem dX11_undo_0 : decode cX11_undo 0 = .ok (.aload_n 0, 1) := by decide +kernel
theorem dX11_undo_1 : decode cX11_undo 1 = .ok (.iconst 1, 1) := by decide +kernel
theorem dX11_undo_2 : decode cX11_undo 2 = .ok (.aload_n 0, 1) := by decide +kernel
theorem dX11_undo_3 : decode cX11_undo 3 = .ok (.getfield 92, 3) := by decide +kernel
theorem dX11_undo_6 : decode cX11_undo 6 = .ok (.ifCond .ne 7, 3) := by decide +kernel
theorem dX11_undo_9 : decode cX11_undo 9 = .ok (.iconst 1, 1) := by decide +kernel
theorem dX11_undo_10 : decode cX11_undo 10 = .ok (.goto 4, 3) := by decide +kernel
theorem dX11_undo_13 : decode cX11_undo 13 = .ok (.iconst 0, 1) := by decide +kernel
theorem dX11_undo_14 : decode cX11_undo 14 = .ok (.invokevirtual 111, 3) := by decide +kernel
theorem dX11_undo_17 : decode cX11_undo 17 = .ok (.ifCond .eq 5, 3) := by decide +kernel
theorem dX11_undo_20 : decode cX11_undo 20 = .ok (.iconst 0, 1) := by decide +kernel
theorem dX11_undo_21 : decode cX11_undo 21 = .ok (.ireturn, 1) := by decide +kernel
theorem dX11_undo_22 : decode cX11_undo 22 = .ok (.aload_n 0, 1) := by decide +kernel
theorem dX11_undo_23 : decode cX11_undo 23 = .ok (.dup, 1) := by decide +kernel
theorem dX11_undo_24 : decode cX11_undo 24 = .ok (.getfield 92, 3) := by decide +kernel
theorem dX11_undo_27 : decode cX11_undo 27 = .ok (.iconst 1, 1) := by decide +kernel
theorem dX11_undo_28 : decode cX11_undo 28 = .ok (.isub, 1) := by decide +kernel
theorem dX11_undo_29 : decode cX11_undo 29 = .ok (.putfield 92, 3) := by decide +kernel
theorem dX11_undo_32 : decode cX11_undo 32 = .ok (.aload_n 0, 1) := by decide +kernel
theorem dX11_undo_33 : decode cX11_undo 33 = .ok (.getfield 18, 3) := by decide +kernel
theorem dX11_undo_36 : decode cX11_undo 36 = .ok (.aload_n 0, 1) := by decide +kernel
theorem dX11_undo_37 : decode cX11_undo 37 = .ok (.getfield 92, 3) := by decide +kernel
theorem dX11_undo_40 : decode cX11_undo 40 = .ok (.aaload, 1) := by decide +kernel
theorem dX11_undo_41 : decode cX11_undo 41 = .ok (.aload_n 0, 1) := by decide +kernel
theorem dX11_undo_42 : decode cX11_undo 42 = .ok (.getfield 9, 3) := by decide +kernel
theorem dX11_undo_45 : decode cX11_undo 45 = .ok (.invokestatic 95, 3) := by decide +kernel
theorem dX11_undo_48 : decode cX11_undo 48 = .ok (.aload_n 0, 1) := by decide +kernel
theorem dX11_undo_49 : decode cX11_undo 49 = .ok (.getfield 92, 3) := by decide +kernel
theorem dX11_undo_52 : decode cX11_undo 52 = .ok (.ireturn, 1) := by decide +kernel
theorem dX11_isReplayed_0 : decode cX11_isReplayed 0 = .ok (.aload_n 0, 1) := by decide +kernel
theorem dX11_isReplayed_1 : decode cX11_isReplayed 1 = .ok (.iconst 0, 1) := by decide +kernel
theorem dX11_isReplayed_2 : decode cX11_isReplayed 2 = .ok (.putfield 89, 3) := by decide +kernel
theorem dX11_isReplayed_5 : decode cX11_isReplayed 5 = .ok (.iconst 1, 1) := by decide +kernel
theorem dX11_isReplayed_6 : decode cX11_isReplayed 6 = .ok (.ireturn, 1) := by decide +kernel
theorem dX11_snapshot_0 : decode cX11_snapshot 0 = .ok (.aload_n 0, 1) := by decide +kernel
theorem dX11_snapshot_1 : decode cX11_snapshot 1 = .ok (.iconst 0, 1) := by decide +kernel
theorem dX11_snapshot_2 : decode cX11_snapshot 2 = .ok (.putfield 89, 3) := by decide +kernel
theorem dX11_snapshot_5 : decode cX11_snapshot 5 = .ok (.aload_n 0, 1) := by decide +kernel
theorem dX11_snapshot_6 : decode cX11_snapshot 6 = .ok (.iconst 1, 1) := by decide +kernel
theorem dX11_snapshot_7 : decode cX11_snapshot 7 = .ok (.putfield 354, 3) := by decide +kernel
theorem dX11_snapshot_10 : decode cX11_snapshot 10 = .ok (.aload_n 0, 1) := by decide +kernel
theorem dX11_snapshot_11 : decode cX11_snapshot 11 = .ok (.getfield 9, 3) := by decide +kernel
theorem dX11_snapshot_14 : decode cX11_snapshot 14 = .ok (.aload_n 0, 1) := by decide +kernel
theorem dX11_snapshot_15 : decode cX11_snapshot 15 = .ok (.getfield 13, 3) := by decide +kernel
theorem dX11_snapshot_18 : decode cX11_snapshot 18 = .ok (.invokestatic 95, 3) := by decide +kernel
theorem dX11_snapshot_21 : decode cX11_snapshot 21 = .ok (.aload_n 0, 1) := by decide +kernel
theorem dX11_snapshot_22 : decode cX11_snapshot 22 = .ok (.getfield 9, 3) := by decide +kernel
theorem dX11_snapshot_25 : decode cX11_snapshot 25 = .ok (.iconst 0, 1) := by decide +kernel
theorem dX11_snapshot_26 : decode cX11_snapshot 26 = .ok (.iaload, 1) := by decide +kernel
theorem dX11_snapshot_27 : decode cX11_snapshot 27 = .ok (.ireturn, 1) := by decide +kernel
theorem dX11_restore_0 : decode cX11_restore 0 = .ok (.aload_n 0, 1) := by decide +kernel
theorem dX11_restore_1 : decode cX11_restore 1 = .ok (.iconst 1, 1) := by decide +kernel
theorem dX11_restore_2 : decode cX11_restore 2 = .ok (.aload_n 0, 1) := by decide +kernel
theorem dX11_restore_3 : decode cX11_restore 3 = .ok (.getfield 354, 3) := by decide +kernel
theorem dX11_restore_6 : decode cX11_restore 6 = .ok (.ifCond .ne 7, 3) := by decide +kernel
theorem dX11_restore_9 : decode cX11_restore 9 = .ok (.iconst 1, 1) := by decide +kernel
theorem dX11_restore_10 : decode cX11_restore 10 = .ok (.goto 4, 3) := by decide +kernel
theorem dX11_restore_13 : decode cX11_restore 13 = .ok (.iconst 0, 1) := by decide +kernel
theorem dX11_restore_14 : decode cX11_restore 14 = .ok (.invokevirtual 111, 3) := by decide +kernel
theorem dX11_restore_17 : decode cX11_restore 17 = .ok (.ifCond .eq 5, 3) := by decide +kernel
theorem dX11_restore_20 : decode cX11_restore 20 = .ok (.iconst 0, 1) := by decide +kernel
theorem dX11_restore_21 : decode cX11_restore 21 = .ok (.ireturn, 1) := by decide +kernel
theorem dX11_restore_22 : decode cX11_restore 22 = .ok (.aload_n 0, 1) := by decide +kernel
theorem dX11_restore_23 : decode cX11_restore 23 = .ok (.getfield 13, 3) := by decide +kernel
theorem dX11_restore_26 : decode cX11_restore 26 = .ok (.aload_n 0, 1) := by decide +kernel
theorem dX11_restore_27 : decode cX11_restore 27 = .ok (.getfield 9, 3) := by decide +kernel
theorem dX11_restore_30 : decode cX11_restore 30 = .ok (.invokestatic 95, 3) := by decide +kernel
theorem dX11_restore_33 : decode cX11_restore 33 = .ok (.aload_n 0, 1) := by decide +kernel
theorem dX11_restore_34 : decode cX11_restore 34 = .ok (.iconst 0, 1) := by decide +kernel
theorem dX11_restore_35 : decode cX11_restore 35 = .ok (.putfield 92, 3) := by decide +kernel
theorem dX11_restore_38 : decode cX11_restore 38 = .ok (.aload_n 0, 1) := by decide +kernel
theorem dX11_restore_39 : decode cX11_restore 39 = .ok (.getfield 9, 3) := by decide +kernel
theorem dX11_restore_42 : decode cX11_restore 42 = .ok (.iconst 0, 1) := by decide +kernel
theorem dX11_restore_43 : decode cX11_restore 43 = .ok (.iaload, 1) := by decide +kernel
theorem dX11_restore_44 : decode cX11_restore 44 = .ok (.ireturn, 1) := by decide +kernel
