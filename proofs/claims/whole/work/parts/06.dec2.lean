theorem dX9_init_0 : decode cX9_init 0 = .ok (.aload_n 0, 1) := by decide +kernel
theorem dX9_init_1 : decode cX9_init 1 = .ok (.invokespecial 1, 3) := by decide +kernel
theorem dX9_init_4 : decode cX9_init 4 = .ok (.aload_n 0, 1) := by decide +kernel
theorem dX9_init_5 : decode cX9_init 5 = .ok (.sipush 256, 3) := by decide +kernel
theorem dX9_init_8 : decode cX9_init 8 = .ok (.newarray .int, 2) := by decide +kernel
theorem dX9_init_10 : decode cX9_init 10 = .ok (.putfield 7, 3) := by decide +kernel
theorem dX9_init_13 : decode cX9_init 13 = .ok (.aload_n 0, 1) := by decide +kernel
theorem dX9_init_14 : decode cX9_init 14 = .ok (.sipush 400, 3) := by decide +kernel
theorem dX9_init_17 : decode cX9_init 17 = .ok (.newarray .int, 2) := by decide +kernel
theorem dX9_init_19 : decode cX9_init 19 = .ok (.putfield 13, 3) := by decide +kernel
theorem dX9_init_22 : decode cX9_init 22 = .ok (.aload_n 0, 1) := by decide +kernel
theorem dX9_init_23 : decode cX9_init 23 = .ok (.sipush 400, 3) := by decide +kernel
theorem dX9_init_26 : decode cX9_init 26 = .ok (.newarray .int, 2) := by decide +kernel
theorem dX9_init_28 : decode cX9_init 28 = .ok (.putfield 16, 3) := by decide +kernel
theorem dX9_init_31 : decode cX9_init 31 = .ok (.aload_n 0, 1) := by decide +kernel
theorem dX9_init_32 : decode cX9_init 32 = .ok (.iconst 2, 1) := by decide +kernel
theorem dX9_init_33 : decode cX9_init 33 = .ok (.newarray .int, 2) := by decide +kernel
theorem dX9_init_35 : decode cX9_init 35 = .ok (.putfield 19, 3) := by decide +kernel
theorem dX9_init_38 : decode cX9_init 38 = .ok (.aload_n 0, 1) := by decide +kernel
theorem dX9_init_39 : decode cX9_init 39 = .ok (.bipush 80, 2) := by decide +kernel
theorem dX9_init_41 : decode cX9_init 41 = .ok (.newarray .int, 2) := by decide +kernel
theorem dX9_init_43 : decode cX9_init 43 = .ok (.putfield 22, 3) := by decide +kernel
theorem dX9_init_46 : decode cX9_init 46 = .ok (.aload_n 0, 1) := by decide +kernel
theorem dX9_init_47 : decode cX9_init 47 = .ok (.iconst 2, 1) := by decide +kernel
theorem dX9_init_48 : decode cX9_init 48 = .ok (.newarray .int, 2) := by decide +kernel
theorem dX9_init_50 : decode cX9_init 50 = .ok (.putfield 25, 3) := by decide +kernel
theorem dX9_init_53 : decode cX9_init 53 = .ok (.aload_n 0, 1) := by decide +kernel
theorem dX9_init_54 : decode cX9_init 54 = .ok (.bipush 12, 2) := by decide +kernel
theorem dX9_init_56 : decode cX9_init 56 = .ok (.newarray .int, 2) := by decide +kernel
theorem dX9_init_58 : decode cX9_init 58 = .ok (.putfield 28, 3) := by decide +kernel
theorem dX9_init_61 : decode cX9_init 61 = .ok (.aload_n 0, 1) := by decide +kernel
theorem dX9_init_62 : decode cX9_init 62 = .ok (.sipush 480, 3) := by decide +kernel
theorem dX9_init_65 : decode cX9_init 65 = .ok (.newarray .int, 2) := by decide +kernel
theorem dX9_init_67 : decode cX9_init 67 = .ok (.putfield 31, 3) := by decide +kernel
theorem dX9_init_70 : decode cX9_init 70 = .ok (.aload_n 0, 1) := by decide +kernel
theorem dX9_init_71 : decode cX9_init 71 = .ok (.iconst 2, 1) := by decide +kernel
theorem dX9_init_72 : decode cX9_init 72 = .ok (.newarray .int, 2) := by decide +kernel
theorem dX9_init_74 : decode cX9_init 74 = .ok (.putfield 34, 3) := by decide +kernel
theorem dX9_init_77 : decode cX9_init 77 = .ok (.aload_n 0, 1) := by decide +kernel
theorem dX9_init_78 : decode cX9_init 78 = .ok (.iconst 2, 1) := by decide +kernel
theorem dX9_init_79 : decode cX9_init 79 = .ok (.newarray .int, 2) := by decide +kernel
theorem dX9_init_81 : decode cX9_init 81 = .ok (.putfield 37, 3) := by decide +kernel
theorem dX9_init_84 : decode cX9_init 84 = .ok (.aload_n 0, 1) := by decide +kernel
theorem dX9_init_85 : decode cX9_init 85 = .ok (.bipush 82, 2) := by decide +kernel
theorem dX9_init_87 : decode cX9_init 87 = .ok (.newarray .int, 2) := by decide +kernel
theorem dX9_init_89 : decode cX9_init 89 = .ok (.putfield 40, 3) := by decide +kernel
theorem dX9_init_92 : decode cX9_init 92 = .ok (.aload_n 0, 1) := by decide +kernel
theorem dX9_init_93 : decode cX9_init 93 = .ok (.iconst 2, 1) := by decide +kernel
theorem dX9_init_94 : decode cX9_init 94 = .ok (.newarray .int, 2) := by decide +kernel
theorem dX9_init_96 : decode cX9_init 96 = .ok (.putfield 43, 3) := by decide +kernel
theorem dX9_init_99 : decode cX9_init 99 = .ok (.aload_n 0, 1) := by decide +kernel
theorem dX9_init_100 : decode cX9_init 100 = .ok (.iconst 2, 1) := by decide +kernel
theorem dX9_init_101 : decode cX9_init 101 = .ok (.newarray .int, 2) := by decide +kernel
theorem dX9_init_103 : decode cX9_init 103 = .ok (.putfield 46, 3) := by decide +kernel
theorem dX9_init_106 : decode cX9_init 106 = .ok (.aload_n 0, 1) := by decide +kernel
theorem dX9_init_107 : decode cX9_init 107 = .ok (.iconst 2, 1) := by decide +kernel
theorem dX9_init_108 : decode cX9_init 108 = .ok (.newarray .boolean, 2) := by decide +kernel
theorem dX9_init_110 : decode cX9_init 110 = .ok (.putfield 49, 3) := by decide +kernel
theorem dX9_init_113 : decode cX9_init 113 = .ok (.aload_n 0, 1) := by decide +kernel
theorem dX9_init_114 : decode cX9_init 114 = .ok (.bipush 26, 2) := by decide +kernel
theorem dX9_init_116 : decode cX9_init 116 = .ok (.newarray .int, 2) := by decide +kernel
theorem dX9_init_118 : decode cX9_init 118 = .ok (.putfield 53, 3) := by decide +kernel
theorem dX9_init_121 : decode cX9_init 121 = .ok (.aload_n 0, 1) := by decide +kernel
theorem dX9_init_122 : decode cX9_init 122 = .ok (.iconst 2, 1) := by decide +kernel
theorem dX9_init_123 : decode cX9_init 123 = .ok (.newarray .int, 2) := by decide +kernel
theorem dX9_init_125 : decode cX9_init 125 = .ok (.putfield 56, 3) := by decide +kernel
theorem dX9_init_128 : decode cX9_init 128 = .ok (.aload_n 0, 1) := by decide +kernel
theorem dX9_init_129 : decode cX9_init 129 = .ok (.bipush 12, 2) := by decide +kernel
theorem dX9_init_131 : decode cX9_init 131 = .ok (.newarray .int, 2) := by decide +kernel
theorem dX9_init_133 : decode cX9_init 133 = .ok (.putfield 59, 3) := by decide +kernel
theorem dX9_init_136 : decode cX9_init 136 = .ok (.aload_n 0, 1) := by decide +kernel
theorem dX9_init_137 : decode cX9_init 137 = .ok (.sipush 3060, 3) := by decide +kernel
theorem dX9_init_140 : decode cX9_init 140 = .ok (.newarray .int, 2) := by decide +kernel
theorem dX9_init_142 : decode cX9_init 142 = .ok (.putfield 62, 3) := by decide +kernel
theorem dX9_init_145 : decode cX9_init 145 = .ok (.aload_n 0, 1) := by decide +kernel
theorem dX9_init_146 : decode cX9_init 146 = .ok (.iconst 2, 1) := by decide +kernel
theorem dX9_init_147 : decode cX9_init 147 = .ok (.newarray .int, 2) := by decide +kernel
theorem dX9_init_149 : decode cX9_init 149 = .ok (.putfield 65, 3) := by decide +kernel
theorem dX9_init_152 : decode cX9_init 152 = .ok (.aload_n 0, 1) := by decide +kernel
theorem dX9_init_153 : decode cX9_init 153 = .ok (.iconst 2, 1) := by decide +kernel
theorem dX9_init_154 : decode cX9_init 154 = .ok (.newarray .int, 2) := by decide +kernel
theorem dX9_init_156 : decode cX9_init 156 = .ok (.putfield 68, 3) := by decide +kernel
theorem dX9_init_159 : decode cX9_init 159 = .ok (.aload_n 0, 1) := by decide +kernel
theorem dX9_init_160 : decode cX9_init 160 = .ok (.sipush 640, 3) := by decide +kernel
theorem dX9_init_163 : decode cX9_init 163 = .ok (.newarray .int, 2) := by decide +kernel
theorem dX9_init_165 : decode cX9_init 165 = .ok (.putfield 71, 3) := by decide +kernel
theorem dX9_init_168 : decode cX9_init 168 = .ok (.aload_n 0, 1) := by decide +kernel
theorem dX9_init_169 : decode cX9_init 169 = .ok (.iconst 2, 1) := by decide +kernel
theorem dX9_init_170 : decode cX9_init 170 = .ok (.newarray .boolean, 2) := by decide +kernel
theorem dX9_init_172 : decode cX9_init 172 = .ok (.putfield 74, 3) := by decide +kernel
theorem dX9_init_175 : decode cX9_init 175 = .ok (.aload_n 0, 1) := by decide +kernel
theorem dX9_init_176 : decode cX9_init 176 = .ok (.iconst 2, 1) := by decide +kernel
theorem dX9_init_177 : decode cX9_init 177 = .ok (.newarray .int, 2) := by decide +kernel
theorem dX9_init_179 : decode cX9_init 179 = .ok (.putfield 77, 3) := by decide +kernel
theorem dX9_init_182 : decode cX9_init 182 = .ok (.aload_n 0, 1) := by decide +kernel
theorem dX9_init_183 : decode cX9_init 183 = .ok (.iconst 2, 1) := by decide +kernel
theorem dX9_init_184 : decode cX9_init 184 = .ok (.newarray .int, 2) := by decide +kernel
theorem dX9_init_186 : decode cX9_init 186 = .ok (.putfield 80, 3) := by decide +kernel
theorem dX9_init_189 : decode cX9_init 189 = .ok (.aload_n 0, 1) := by decide +kernel
theorem dX9_init_190 : decode cX9_init 190 = .ok (.iconst 2, 1) := by decide +kernel
theorem dX9_init_191 : decode cX9_init 191 = .ok (.newarray .boolean, 2) := by decide +kernel
theorem dX9_init_193 : decode cX9_init 193 = .ok (.putfield 83, 3) := by decide +kernel
theorem dX9_init_196 : decode cX9_init 196 = .ok (.aload_n 0, 1) := by decide +kernel
theorem dX9_init_197 : decode cX9_init 197 = .ok (.iconst 2, 1) := by decide +kernel
theorem dX9_init_198 : decode cX9_init 198 = .ok (.newarray .boolean, 2) := by decide +kernel
theorem dX9_init_200 : decode cX9_init 200 = .ok (.putfield 86, 3) := by decide +kernel
theorem dX9_init_203 : decode cX9_init 203 = .ok (.aload_n 0, 1) := by decide +kernel
theorem dX9_init_204 : decode cX9_init 204 = .ok (.iconst 2, 1) := by decide +kernel
theorem dX9_init_205 : decode cX9_init 205 = .ok (.newarray .int, 2) := by decide +kernel
theorem dX9_init_207 : decode cX9_init 207 = .ok (.putfield 89, 3) := by decide +kernel
theorem dX9_init_210 : decode cX9_init 210 = .ok (.aload_n 0, 1) := by decide +kernel
theorem dX9_init_211 : decode cX9_init 211 = .ok (.iconst 2, 1) := by decide +kernel
theorem dX9_init_212 : decode cX9_init 212 = .ok (.newarray .int, 2) := by decide +kernel
theorem dX9_init_214 : decode cX9_init 214 = .ok (.putfield 92, 3) := by decide +kernel
theorem dX9_init_217 : decode cX9_init 217 = .ok (.aload_n 0, 1) := by decide +kernel
theorem dX9_init_218 : decode cX9_init 218 = .ok (.iload_n 1, 1) := by decide +kernel
theorem dX9_init_219 : decode cX9_init 219 = .ok (.iconst 1, 1) := by decide +kernel
theorem dX9_init_220 : decode cX9_init 220 = .ok (.if_icmp .ge 7, 3) := by decide +kernel
theorem dX9_init_223 : decode cX9_init 223 = .ok (.iconst 1, 1) := by decide +kernel
theorem dX9_init_224 : decode cX9_init 224 = .ok (.goto 15, 3) := by decide +kernel
theorem dX9_init_227 : decode cX9_init 227 = .ok (.iload_n 1, 1) := by decide +kernel
theorem dX9_init_228 : decode cX9_init 228 = .ok (.bipush 7, 2) := by decide +kernel
theorem dX9_init_230 : decode cX9_init 230 = .ok (.if_icmp .le 8, 3) := by decide +kernel
theorem dX9_init_233 : decode cX9_init 233 = .ok (.bipush 7, 2) := by decide +kernel
theorem dX9_init_235 : decode cX9_init 235 = .ok (.goto 4, 3) := by decide +kernel
theorem dX9_init_238 : decode cX9_init 238 = .ok (.iload_n 1, 1) := by decide +kernel
theorem dX9_init_239 : decode cX9_init 239 = .ok (.putfield 95, 3) := by decide +kernel
theorem dX9_init_242 : decode cX9_init 242 = .ok (.iconst 0, 1) := by decide +kernel
theorem dX9_init_243 : decode cX9_init 243 = .ok (.istore_n 2, 1) := by decide +kernel
theorem dX9_init_244 : decode cX9_init 244 = .ok (.iload_n 2, 1) := by decide +kernel
theorem dX9_init_245 : decode cX9_init 245 = .ok (.iconst 2, 1) := by decide +kernel
theorem dX9_init_246 : decode cX9_init 246 = .ok (.if_icmp .ge 16, 3) := by decide +kernel
theorem dX9_init_249 : decode cX9_init 249 = .ok (.aload_n 0, 1) := by decide +kernel
theorem dX9_init_250 : decode cX9_init 250 = .ok (.getfield 65, 3) := by decide +kernel
theorem dX9_init_253 : decode cX9_init 253 = .ok (.iload_n 2, 1) := by decide +kernel
theorem dX9_init_254 : decode cX9_init 254 = .ok (.iconst (-1), 1) := by decide +kernel
theorem dX9_init_255 : decode cX9_init 255 = .ok (.iastore, 1) := by decide +kernel
theorem dX9_init_256 : decode cX9_init 256 = .ok (.iinc 2 1, 3) := by decide +kernel
theorem dX9_init_259 : decode cX9_init 259 = .ok (.goto (-15), 3) := by decide +kernel
theorem dX9_init_262 : decode cX9_init 262 = .ok (.return_, 1) := by decide +kernel
theorem dX9_in_0 : decode cX9_in 0 = .ok (.iload_n 0, 1) := by decide +kernel
theorem dX9_in_1 : decode cX9_in 1 = .ok (.iload_n 1, 1) := by decide +kernel
theorem dX9_in_2 : decode cX9_in 2 = .ok (.if_icmp .lt 12, 3) := by decide +kernel
theorem dX9_in_5 : decode cX9_in 5 = .ok (.iload_n 0, 1) := by decide +kernel
theorem dX9_in_6 : decode cX9_in 6 = .ok (.iload_n 2, 1) := by decide +kernel
theorem dX9_in_7 : decode cX9_in 7 = .ok (.if_icmp .gt 7, 3) := by decide +kernel
theorem dX9_in_10 : decode cX9_in 10 = .ok (.iconst 1, 1) := by decide +kernel
theorem dX9_in_11 : decode cX9_in 11 = .ok (.goto 4, 3) := by decide +kernel
theorem dX9_in_14 : decode cX9_in 14 = .ok (.iconst 0, 1) := by decide +kernel
theorem dX9_in_15 : decode cX9_in 15 = .ok (.ireturn, 1) := by decide +kernel
theorem dX9_guard_0 : decode cX9_guard 0 = .ok (.iload_n 1, 1) := by decide +kernel
theorem dX9_guard_1 : decode cX9_guard 1 = .ok (.iconst 0, 1) := by decide +kernel
theorem dX9_guard_2 : decode cX9_guard 2 = .ok (.iconst 1, 1) := by decide +kernel
theorem dX9_guard_3 : decode cX9_guard 3 = .ok (.invokestatic 99, 3) := by decide +kernel
theorem dX9_guard_6 : decode cX9_guard 6 = .ok (.ifCond .ne 5, 3) := by decide +kernel
theorem dX9_guard_9 : decode cX9_guard 9 = .ok (.iconst (-1), 1) := by decide +kernel
theorem dX9_guard_10 : decode cX9_guard 10 = .ok (.ireturn, 1) := by decide +kernel
theorem dX9_guard_11 : decode cX9_guard 11 = .ok (.aload_n 0, 1) := by decide +kernel
theorem dX9_guard_12 : decode cX9_guard 12 = .ok (.getfield 74, 3) := by decide +kernel
theorem dX9_guard_15 : decode cX9_guard 15 = .ok (.iload_n 1, 1) := by decide +kernel
theorem dX9_guard_16 : decode cX9_guard 16 = .ok (.iload_n 2, 1) := by decide +kernel
theorem dX9_guard_17 : decode cX9_guard 17 = .ok (.ifCond .ne 7, 3) := by decide +kernel
theorem dX9_guard_20 : decode cX9_guard 20 = .ok (.iconst 1, 1) := by decide +kernel
theorem dX9_guard_21 : decode cX9_guard 21 = .ok (.goto 4, 3) := by decide +kernel
theorem dX9_guard_24 : decode cX9_guard 24 = .ok (.iconst 0, 1) := by decide +kernel
theorem dX9_guard_25 : decode cX9_guard 25 = .ok (.bastore, 1) := by decide +kernel
theorem dX9_guard_26 : decode cX9_guard 26 = .ok (.iconst 0, 1) := by decide +kernel
theorem dX9_guard_27 : decode cX9_guard 27 = .ok (.ireturn, 1) := by decide +kernel
theorem dX9_write_0 : decode cX9_write 0 = .ok (.iload_n 1, 1) := by decide +kernel
theorem dX9_write_1 : decode cX9_write 1 = .ok (.iconst 0, 1) := by decide +kernel
theorem dX9_write_2 : decode cX9_write 2 = .ok (.iconst 1, 1) := by decide +kernel
theorem dX9_write_3 : decode cX9_write 3 = .ok (.invokestatic 99, 3) := by decide +kernel
theorem dX9_write_6 : decode cX9_write 6 = .ok (.ifCond .eq 14, 3) := by decide +kernel
theorem dX9_write_9 : decode cX9_write 9 = .ok (.iload_n 2, 1) := by decide +kernel
theorem dX9_write_10 : decode cX9_write 10 = .ok (.iconst 0, 1) := by decide +kernel
theorem dX9_write_11 : decode cX9_write 11 = .ok (.sipush 255, 3) := by decide +kernel
theorem dX9_write_14 : decode cX9_write 14 = .ok (.invokestatic 99, 3) := by decide +kernel
theorem dX9_write_17 : decode cX9_write 17 = .ok (.ifCond .ne 5, 3) := by decide +kernel
theorem dX9_write_20 : decode cX9_write 20 = .ok (.iconst (-1), 1) := by decide +kernel
theorem dX9_write_21 : decode cX9_write 21 = .ok (.ireturn, 1) := by decide +kernel
theorem dX9_write_22 : decode cX9_write 22 = .ok (.aload_n 0, 1) := by decide +kernel
theorem dX9_write_23 : decode cX9_write 23 = .ok (.getfield 19, 3) := by decide +kernel
theorem dX9_write_26 : decode cX9_write 26 = .ok (.iload_n 1, 1) := by decide +kernel
theorem dX9_write_27 : decode cX9_write 27 = .ok (.iaload, 1) := by decide +kernel
theorem dX9_write_28 : decode cX9_write 28 = .ok (.bipush 40, 2) := by decide +kernel
theorem dX9_write_30 : decode cX9_write 30 = .ok (.if_icmp .ne 6, 3) := by decide +kernel
theorem dX9_write_33 : decode cX9_write 33 = .ok (.bipush (-2), 2) := by decide +kernel
theorem dX9_write_35 : decode cX9_write 35 = .ok (.ireturn, 1) := by decide +kernel
theorem dX9_write_36 : decode cX9_write 36 = .ok (.aload_n 0, 1) := by decide +kernel
theorem dX9_write_37 : decode cX9_write 37 = .ok (.getfield 22, 3) := by decide +kernel
theorem dX9_write_40 : decode cX9_write 40 = .ok (.bipush 40, 2) := by decide +kernel
theorem dX9_write_42 : decode cX9_write 42 = .ok (.iload_n 1, 1) := by decide +kernel
theorem dX9_write_43 : decode cX9_write 43 = .ok (.imul, 1) := by decide +kernel
theorem dX9_write_44 : decode cX9_write 44 = .ok (.aload_n 0, 1) := by decide +kernel
theorem dX9_write_45 : decode cX9_write 45 = .ok (.getfield 19, 3) := by decide +kernel
theorem dX9_write_48 : decode cX9_write 48 = .ok (.iload_n 1, 1) := by decide +kernel
theorem dX9_write_49 : decode cX9_write 49 = .ok (.iaload, 1) := by decide +kernel
theorem dX9_write_50 : decode cX9_write 50 = .ok (.iadd, 1) := by decide +kernel
theorem dX9_write_51 : decode cX9_write 51 = .ok (.iload_n 2, 1) := by decide +kernel
theorem dX9_write_52 : decode cX9_write 52 = .ok (.iastore, 1) := by decide +kernel
theorem dX9_write_53 : decode cX9_write 53 = .ok (.aload_n 0, 1) := by decide +kernel
theorem dX9_write_54 : decode cX9_write 54 = .ok (.getfield 19, 3) := by decide +kernel
theorem dX9_write_57 : decode cX9_write 57 = .ok (.iload_n 1, 1) := by decide +kernel
theorem dX9_write_58 : decode cX9_write 58 = .ok (.dup2, 1) := by decide +kernel
theorem dX9_write_59 : decode cX9_write 59 = .ok (.iaload, 1) := by decide +kernel
theorem dX9_write_60 : decode cX9_write 60 = .ok (.iconst 1, 1) := by decide +kernel
theorem dX9_write_61 : decode cX9_write 61 = .ok (.iadd, 1) := by decide +kernel
theorem dX9_write_62 : decode cX9_write 62 = .ok (.iastore, 1) := by decide +kernel
theorem dX9_write_63 : decode cX9_write 63 = .ok (.aload_n 0, 1) := by decide +kernel
theorem dX9_write_64 : decode cX9_write 64 = .ok (.getfield 19, 3) := by decide +kernel
theorem dX9_write_67 : decode cX9_write 67 = .ok (.iload_n 1, 1) := by decide +kernel
theorem dX9_write_68 : decode cX9_write 68 = .ok (.iaload, 1) := by decide +kernel
theorem dX9_write_69 : decode cX9_write 69 = .ok (.ireturn, 1) := by decide +kernel
theorem dX9_send_0 : decode cX9_send 0 = .ok (.iload_n 1, 1) := by decide +kernel
theorem dX9_send_1 : decode cX9_send 1 = .ok (.iconst 0, 1) := by decide +kernel
theorem dX9_send_2 : decode cX9_send 2 = .ok (.iconst 1, 1) := by decide +kernel
theorem dX9_send_3 : decode cX9_send 3 = .ok (.invokestatic 99, 3) := by decide +kernel
theorem dX9_send_6 : decode cX9_send 6 = .ok (.ifCond .eq 12, 3) := by decide +kernel
theorem dX9_send_9 : decode cX9_send 9 = .ok (.aload_n 0, 1) := by decide +kernel
theorem dX9_send_10 : decode cX9_send 10 = .ok (.getfield 19, 3) := by decide +kernel
theorem dX9_send_13 : decode cX9_send 13 = .ok (.iload_n 1, 1) := by decide +kernel
theorem dX9_send_14 : decode cX9_send 14 = .ok (.iaload, 1) := by decide +kernel
theorem dX9_send_15 : decode cX9_send 15 = .ok (.ifCond .ne 5, 3) := by decide +kernel
theorem dX9_send_18 : decode cX9_send 18 = .ok (.iconst (-1), 1) := by decide +kernel
theorem dX9_send_19 : decode cX9_send 19 = .ok (.ireturn, 1) := by decide +kernel
theorem dX9_send_20 : decode cX9_send 20 = .ok (.aload_n 0, 1) := by decide +kernel
theorem dX9_send_21 : decode cX9_send 21 = .ok (.getfield 25, 3) := by decide +kernel
theorem dX9_send_24 : decode cX9_send 24 = .ok (.iload_n 1, 1) := by decide +kernel
theorem dX9_send_25 : decode cX9_send 25 = .ok (.iaload, 1) := by decide +kernel
theorem dX9_send_26 : decode cX9_send 26 = .ok (.bipush 6, 2) := by decide +kernel
theorem dX9_send_28 : decode cX9_send 28 = .ok (.if_icmp .ne 6, 3) := by decide +kernel
theorem dX9_send_31 : decode cX9_send 31 = .ok (.bipush (-2), 2) := by decide +kernel
theorem dX9_send_33 : decode cX9_send 33 = .ok (.ireturn, 1) := by decide +kernel
theorem dX9_send_34 : decode cX9_send 34 = .ok (.bipush 6, 2) := by decide +kernel
theorem dX9_send_36 : decode cX9_send 36 = .ok (.iload_n 1, 1) := by decide +kernel
theorem dX9_send_37 : decode cX9_send 37 = .ok (.imul, 1) := by decide +kernel
theorem dX9_send_38 : decode cX9_send 38 = .ok (.aload_n 0, 1) := by decide +kernel
theorem dX9_send_39 : decode cX9_send 39 = .ok (.getfield 25, 3) := by decide +kernel
theorem dX9_send_42 : decode cX9_send 42 = .ok (.iload_n 1, 1) := by decide +kernel
theorem dX9_send_43 : decode cX9_send 43 = .ok (.iaload, 1) := by decide +kernel
theorem dX9_send_44 : decode cX9_send 44 = .ok (.iadd, 1) := by decide +kernel
theorem dX9_send_45 : decode cX9_send 45 = .ok (.istore_n 2, 1) := by decide +kernel
theorem dX9_send_46 : decode cX9_send 46 = .ok (.aload_n 0, 1) := by decide +kernel
theorem dX9_send_47 : decode cX9_send 47 = .ok (.getfield 28, 3) := by decide +kernel
theorem dX9_send_50 : decode cX9_send 50 = .ok (.iload_n 2, 1) := by decide +kernel
theorem dX9_send_51 : decode cX9_send 51 = .ok (.aload_n 0, 1) := by decide +kernel
theorem dX9_send_52 : decode cX9_send 52 = .ok (.getfield 19, 3) := by decide +kernel
theorem dX9_send_55 : decode cX9_send 55 = .ok (.iload_n 1, 1) := by decide +kernel
theorem dX9_send_56 : decode cX9_send 56 = .ok (.iaload, 1) := by decide +kernel
theorem dX9_send_57 : decode cX9_send 57 = .ok (.iastore, 1) := by decide +kernel
theorem dX9_send_58 : decode cX9_send 58 = .ok (.iconst 0, 1) := by decide +kernel
theorem dX9_send_59 : decode cX9_send 59 = .ok (.istore_n 3, 1) := by decide +kernel
theorem dX9_send_60 : decode cX9_send 60 = .ok (.iload_n 3, 1) := by decide +kernel
theorem dX9_send_61 : decode cX9_send 61 = .ok (.aload_n 0, 1) := by decide +kernel
theorem dX9_send_62 : decode cX9_send 62 = .ok (.getfield 19, 3) := by decide +kernel
theorem dX9_send_65 : decode cX9_send 65 = .ok (.iload_n 1, 1) := by decide +kernel
theorem dX9_send_66 : decode cX9_send 66 = .ok (.iaload, 1) := by decide +kernel
theorem dX9_send_67 : decode cX9_send 67 = .ok (.if_icmp .ge 31, 3) := by decide +kernel
theorem dX9_send_70 : decode cX9_send 70 = .ok (.aload_n 0, 1) := by decide +kernel
theorem dX9_send_71 : decode cX9_send 71 = .ok (.getfield 31, 3) := by decide +kernel
theorem dX9_send_74 : decode cX9_send 74 = .ok (.bipush 40, 2) := by decide +kernel
theorem dX9_send_76 : decode cX9_send 76 = .ok (.iload_n 2, 1) := by decide +kernel
theorem dX9_send_77 : decode cX9_send 77 = .ok (.imul, 1) := by decide +kernel
theorem dX9_send_78 : decode cX9_send 78 = .ok (.iload_n 3, 1) := by decide +kernel
theorem dX9_send_79 : decode cX9_send 79 = .ok (.iadd, 1) := by decide +kernel
theorem dX9_send_80 : decode cX9_send 80 = .ok (.aload_n 0, 1) := by decide +kernel
theorem dX9_send_81 : decode cX9_send 81 = .ok (.getfield 22, 3) := by decide +kernel
theorem dX9_send_84 : decode cX9_send 84 = .ok (.bipush 40, 2) := by decide +kernel
theorem dX9_send_86 : decode cX9_send 86 = .ok (.iload_n 1, 1) := by decide +kernel
theorem dX9_send_87 : decode cX9_send 87 = .ok (.imul, 1) := by decide +kernel
theorem dX9_send_88 : decode cX9_send 88 = .ok (.iload_n 3, 1) := by decide +kernel
theorem dX9_send_89 : decode cX9_send 89 = .ok (.iadd, 1) := by decide +kernel
theorem dX9_send_90 : decode cX9_send 90 = .ok (.iaload, 1) := by decide +kernel
theorem dX9_send_91 : decode cX9_send 91 = .ok (.iastore, 1) := by decide +kernel
theorem dX9_send_92 : decode cX9_send 92 = .ok (.iinc 3 1, 3) := by decide +kernel
theorem dX9_send_95 : decode cX9_send 95 = .ok (.goto (-35), 3) := by decide +kernel
theorem dX9_send_98 : decode cX9_send 98 = .ok (.aload_n 0, 1) := by decide +kernel
theorem dX9_send_99 : decode cX9_send 99 = .ok (.getfield 25, 3) := by decide +kernel
theorem dX9_send_102 : decode cX9_send 102 = .ok (.iload_n 1, 1) := by decide +kernel
theorem dX9_send_103 : decode cX9_send 103 = .ok (.dup2, 1) := by decide +kernel
theorem dX9_send_104 : decode cX9_send 104 = .ok (.iaload, 1) := by decide +kernel
theorem dX9_send_105 : decode cX9_send 105 = .ok (.iconst 1, 1) := by decide +kernel
theorem dX9_send_106 : decode cX9_send 106 = .ok (.iadd, 1) := by decide +kernel
theorem dX9_send_107 : decode cX9_send 107 = .ok (.iastore, 1) := by decide +kernel
theorem dX9_send_108 : decode cX9_send 108 = .ok (.aload_n 0, 1) := by decide +kernel
theorem dX9_send_109 : decode cX9_send 109 = .ok (.getfield 19, 3) := by decide +kernel
theorem dX9_send_112 : decode cX9_send 112 = .ok (.iload_n 1, 1) := by decide +kernel
theorem dX9_send_113 : decode cX9_send 113 = .ok (.iconst 0, 1) := by decide +kernel
theorem dX9_send_114 : decode cX9_send 114 = .ok (.iastore, 1) := by decide +kernel
theorem dX9_send_115 : decode cX9_send 115 = .ok (.aload_n 0, 1) := by decide +kernel
theorem dX9_send_116 : decode cX9_send 116 = .ok (.getfield 25, 3) := by decide +kernel
theorem dX9_send_119 : decode cX9_send 119 = .ok (.iload_n 1, 1) := by decide +kernel
theorem dX9_send_120 : decode cX9_send 120 = .ok (.iaload, 1) := by decide +kernel
theorem dX9_send_121 : decode cX9_send 121 = .ok (.ireturn, 1) := by decide +kernel
theorem dX9_whiten_0 : decode cX9_whiten 0 = .ok (.iconst 0, 1) := by decide +kernel
theorem dX9_whiten_1 : decode cX9_whiten 1 = .ok (.istore_n 2, 1) := by decide +kernel
theorem dX9_whiten_2 : decode cX9_whiten 2 = .ok (.iload_n 2, 1) := by decide +kernel
theorem dX9_whiten_3 : decode cX9_whiten 3 = .ok (.sipush 400, 3) := by decide +kernel
theorem dX9_whiten_6 : decode cX9_whiten 6 = .ok (.if_icmp .ge 53, 3) := by decide +kernel
theorem dX9_whiten_9 : decode cX9_whiten 9 = .ok (.aload_n 0, 1) := by decide +kernel
theorem dX9_whiten_10 : decode cX9_whiten 10 = .ok (.getfield 13, 3) := by decide +kernel
theorem dX9_whiten_13 : decode cX9_whiten 13 = .ok (.iload_n 2, 1) := by decide +kernel
theorem dX9_whiten_14 : decode cX9_whiten 14 = .ok (.iload_n 2, 1) := by decide +kernel
theorem dX9_whiten_15 : decode cX9_whiten 15 = .ok (.bipush 7, 2) := by decide +kernel
theorem dX9_whiten_17 : decode cX9_whiten 17 = .ok (.if_icmp .ge 17, 3) := by decide +kernel
theorem dX9_whiten_20 : decode cX9_whiten 20 = .ok (.bipush 64, 2) := by decide +kernel
theorem dX9_whiten_22 : decode cX9_whiten 22 = .ok (.iload_n 1, 1) := by decide +kernel
theorem dX9_whiten_23 : decode cX9_whiten 23 = .ok (.bipush 64, 2) := by decide +kernel
theorem dX9_whiten_25 : decode cX9_whiten 25 = .ok (.irem, 1) := by decide +kernel
theorem dX9_whiten_26 : decode cX9_whiten 26 = .ok (.iadd, 1) := by decide +kernel
theorem dX9_whiten_27 : decode cX9_whiten 27 = .ok (.iload_n 2, 1) := by decide +kernel
theorem dX9_whiten_28 : decode cX9_whiten 28 = .ok (.ishr, 1) := by decide +kernel
theorem dX9_whiten_29 : decode cX9_whiten 29 = .ok (.iconst 1, 1) := by decide +kernel
theorem dX9_whiten_30 : decode cX9_whiten 30 = .ok (.iand, 1) := by decide +kernel
theorem dX9_whiten_31 : decode cX9_whiten 31 = .ok (.goto 21, 3) := by decide +kernel
theorem dX9_whiten_34 : decode cX9_whiten 34 = .ok (.aload_n 0, 1) := by decide +kernel
theorem dX9_whiten_35 : decode cX9_whiten 35 = .ok (.getfield 13, 3) := by decide +kernel
theorem dX9_whiten_38 : decode cX9_whiten 38 = .ok (.iload_n 2, 1) := by decide +kernel
theorem dX9_whiten_39 : decode cX9_whiten 39 = .ok (.bipush 7, 2) := by decide +kernel
theorem dX9_whiten_41 : decode cX9_whiten 41 = .ok (.isub, 1) := by decide +kernel
theorem dX9_whiten_42 : decode cX9_whiten 42 = .ok (.iaload, 1) := by decide +kernel
theorem dX9_whiten_43 : decode cX9_whiten 43 = .ok (.aload_n 0, 1) := by decide +kernel
theorem dX9_whiten_44 : decode cX9_whiten 44 = .ok (.getfield 13, 3) := by decide +kernel
theorem dX9_whiten_47 : decode cX9_whiten 47 = .ok (.iload_n 2, 1) := by decide +kernel
theorem dX9_whiten_48 : decode cX9_whiten 48 = .ok (.iconst 3, 1) := by decide +kernel
theorem dX9_whiten_49 : decode cX9_whiten 49 = .ok (.isub, 1) := by decide +kernel
theorem dX9_whiten_50 : decode cX9_whiten 50 = .ok (.iaload, 1) := by decide +kernel
theorem dX9_whiten_51 : decode cX9_whiten 51 = .ok (.ixor, 1) := by decide +kernel
theorem dX9_whiten_52 : decode cX9_whiten 52 = .ok (.iastore, 1) := by decide +kernel
theorem dX9_whiten_53 : decode cX9_whiten 53 = .ok (.iinc 2 1, 3) := by decide +kernel
theorem dX9_whiten_56 : decode cX9_whiten 56 = .ok (.goto (-54), 3) := by decide +kernel
theorem dX9_whiten_59 : decode cX9_whiten 59 = .ok (.return_, 1) := by decide +kernel
theorem dX9_put_0 : decode cX9_put 0 = .ok (.iconst 0, 1) := by decide +kernel
theorem dX9_put_1 : decode cX9_put 1 = .ok (.istore_n 3, 1) := by decide +kernel
theorem dX9_put_2 : decode cX9_put 2 = .ok (.iload_n 3, 1) := by decide +kernel
theorem dX9_put_3 : decode cX9_put 3 = .ok (.iload_n 2, 1) := by decide +kernel
theorem dX9_put_4 : decode cX9_put 4 = .ok (.if_icmp .ge 33, 3) := by decide +kernel
theorem dX9_put_7 : decode cX9_put 7 = .ok (.aload_n 0, 1) := by decide +kernel
theorem dX9_put_8 : decode cX9_put 8 = .ok (.getfield 16, 3) := by decide +kernel
theorem dX9_put_11 : decode cX9_put 11 = .ok (.aload_n 0, 1) := by decide +kernel
theorem dX9_put_12 : decode cX9_put 12 = .ok (.getfield 103, 3) := by decide +kernel
theorem dX9_put_15 : decode cX9_put 15 = .ok (.iload_n 1, 1) := by decide +kernel
theorem dX9_put_16 : decode cX9_put 16 = .ok (.iload_n 3, 1) := by decide +kernel
theorem dX9_put_17 : decode cX9_put 17 = .ok (.ishr, 1) := by decide +kernel
theorem dX9_put_18 : decode cX9_put 18 = .ok (.iconst 1, 1) := by decide +kernel
theorem dX9_put_19 : decode cX9_put 19 = .ok (.iand, 1) := by decide +kernel
theorem dX9_put_20 : decode cX9_put 20 = .ok (.iastore, 1) := by decide +kernel
theorem dX9_put_21 : decode cX9_put 21 = .ok (.aload_n 0, 1) := by decide +kernel
theorem dX9_put_22 : decode cX9_put 22 = .ok (.dup, 1) := by decide +kernel
theorem dX9_put_23 : decode cX9_put 23 = .ok (.getfield 103, 3) := by decide +kernel
theorem dX9_put_26 : decode cX9_put 26 = .ok (.iconst 1, 1) := by decide +kernel
theorem dX9_put_27 : decode cX9_put 27 = .ok (.iadd, 1) := by decide +kernel
theorem dX9_put_28 : decode cX9_put 28 = .ok (.putfield 103, 3) := by decide +kernel
theorem dX9_put_31 : decode cX9_put 31 = .ok (.iinc 3 1, 3) := by decide +kernel
theorem dX9_put_34 : decode cX9_put 34 = .ok (.goto (-32), 3) := by decide +kernel
theorem dX9_put_37 : decode cX9_put 37 = .ok (.return_, 1) := by decide +kernel
theorem dX9_rem_0 : decode cX9_rem 0 = .ok (.iconst 1, 1) := by decide +kernel
theorem dX9_rem_1 : decode cX9_rem 1 = .ok (.istore 5, 2) := by decide +kernel
theorem dX9_rem_3 : decode cX9_rem 3 = .ok (.iconst 0, 1) := by decide +kernel
theorem dX9_rem_4 : decode cX9_rem 4 = .ok (.istore 6, 2) := by decide +kernel
theorem dX9_rem_6 : decode cX9_rem 6 = .ok (.iload 6, 2) := by decide +kernel
theorem dX9_rem_8 : decode cX9_rem 8 = .ok (.iload 4, 2) := by decide +kernel
theorem dX9_rem_10 : decode cX9_rem 10 = .ok (.if_icmp .ge 19, 3) := by decide +kernel
theorem dX9_rem_13 : decode cX9_rem 13 = .ok (.iload 5, 2) := by decide +kernel
theorem dX9_rem_15 : decode cX9_rem 15 = .ok (.iload_n 3, 1) := by decide +kernel
theorem dX9_rem_16 : decode cX9_rem 16 = .ok (.iload 4, 2) := by decide +kernel
theorem dX9_rem_18 : decode cX9_rem 18 = .ok (.invokestatic 106, 3) := by decide +kernel
theorem dX9_rem_21 : decode cX9_rem 21 = .ok (.istore 5, 2) := by decide +kernel
theorem dX9_rem_23 : decode cX9_rem 23 = .ok (.iinc 6 1, 3) := by decide +kernel
theorem dX9_rem_26 : decode cX9_rem 26 = .ok (.goto (-20), 3) := by decide +kernel
theorem dX9_rem_29 : decode cX9_rem 29 = .ok (.iconst 0, 1) := by decide +kernel
theorem dX9_rem_30 : decode cX9_rem 30 = .ok (.istore 6, 2) := by decide +kernel
theorem dX9_rem_32 : decode cX9_rem 32 = .ok (.iload_n 2, 1) := by decide +kernel
theorem dX9_rem_33 : decode cX9_rem 33 = .ok (.iconst 1, 1) := by decide +kernel
theorem dX9_rem_34 : decode cX9_rem 34 = .ok (.isub, 1) := by decide +kernel
theorem dX9_rem_35 : decode cX9_rem 35 = .ok (.istore 7, 2) := by decide +kernel
theorem dX9_rem_37 : decode cX9_rem 37 = .ok (.iload 7, 2) := by decide +kernel
theorem dX9_rem_39 : decode cX9_rem 39 = .ok (.iload_n 1, 1) := by decide +kernel
theorem dX9_rem_40 : decode cX9_rem 40 = .ok (.if_icmp .lt 37, 3) := by decide +kernel
theorem dX9_rem_43 : decode cX9_rem 43 = .ok (.aload_n 0, 1) := by decide +kernel
theorem dX9_rem_44 : decode cX9_rem 44 = .ok (.getfield 16, 3) := by decide +kernel
theorem dX9_rem_47 : decode cX9_rem 47 = .ok (.iload 7, 2) := by decide +kernel
theorem dX9_rem_49 : decode cX9_rem 49 = .ok (.iaload, 1) := by decide +kernel
theorem dX9_rem_50 : decode cX9_rem 50 = .ok (.iconst 1, 1) := by decide +kernel
theorem dX9_rem_51 : decode cX9_rem 51 = .ok (.if_icmp .ne 10, 3) := by decide +kernel
theorem dX9_rem_54 : decode cX9_rem 54 = .ok (.iload 6, 2) := by decide +kernel
theorem dX9_rem_56 : decode cX9_rem 56 = .ok (.iload 5, 2) := by decide +kernel
theorem dX9_rem_58 : decode cX9_rem 58 = .ok (.ixor, 1) := by decide +kernel
theorem dX9_rem_59 : decode cX9_rem 59 = .ok (.istore 6, 2) := by decide +kernel
theorem dX9_rem_61 : decode cX9_rem 61 = .ok (.iload 5, 2) := by decide +kernel
theorem dX9_rem_63 : decode cX9_rem 63 = .ok (.iload_n 3, 1) := by decide +kernel
theorem dX9_rem_64 : decode cX9_rem 64 = .ok (.iload 4, 2) := by decide +kernel
theorem dX9_rem_66 : decode cX9_rem 66 = .ok (.invokestatic 106, 3) := by decide +kernel
theorem dX9_rem_69 : decode cX9_rem 69 = .ok (.istore 5, 2) := by decide +kernel
theorem dX9_rem_71 : decode cX9_rem 71 = .ok (.iinc 7 (-1), 3) := by decide +kernel
theorem dX9_rem_74 : decode cX9_rem 74 = .ok (.goto (-37), 3) := by decide +kernel
theorem dX9_rem_77 : decode cX9_rem 77 = .ok (.iload 6, 2) := by decide +kernel
theorem dX9_rem_79 : decode cX9_rem 79 = .ok (.ireturn, 1) := by decide +kernel
theorem dX9_twice_0 : decode cX9_twice 0 = .ok (.iload_n 0, 1) := by decide +kernel
theorem dX9_twice_1 : decode cX9_twice 1 = .ok (.iload_n 2, 1) := by decide +kernel
theorem dX9_twice_2 : decode cX9_twice 2 = .ok (.iconst 1, 1) := by decide +kernel
theorem dX9_twice_3 : decode cX9_twice 3 = .ok (.isub, 1) := by decide +kernel
theorem dX9_twice_4 : decode cX9_twice 4 = .ok (.ishr, 1) := by decide +kernel
theorem dX9_twice_5 : decode cX9_twice 5 = .ok (.iconst 1, 1) := by decide +kernel
theorem dX9_twice_6 : decode cX9_twice 6 = .ok (.if_icmp .ne 11, 3) := by decide +kernel
theorem dX9_twice_9 : decode cX9_twice 9 = .ok (.iload_n 0, 1) := by decide +kernel
theorem dX9_twice_10 : decode cX9_twice 10 = .ok (.iconst 1, 1) := by decide +kernel
theorem dX9_twice_11 : decode cX9_twice 11 = .ok (.ishl, 1) := by decide +kernel
theorem dX9_twice_12 : decode cX9_twice 12 = .ok (.iload_n 1, 1) := by decide +kernel
theorem dX9_twice_13 : decode cX9_twice 13 = .ok (.ixor, 1) := by decide +kernel
theorem dX9_twice_14 : decode cX9_twice 14 = .ok (.goto 6, 3) := by decide +kernel
theorem dX9_twice_17 : decode cX9_twice 17 = .ok (.iload_n 0, 1) := by decide +kernel
theorem dX9_twice_18 : decode cX9_twice 18 = .ok (.iconst 1, 1) := by decide +kernel
theorem dX9_twice_19 : decode cX9_twice 19 = .ok (.ishl, 1) := by decide +kernel
theorem dX9_twice_20 : decode cX9_twice 20 = .ok (.ireturn, 1) := by decide +kernel
theorem dX9_putRem_0 : decode cX9_putRem 0 = .ok (.aload_n 0, 1) := by decide +kernel
theorem dX9_putRem_1 : decode cX9_putRem 1 = .ok (.iload_n 1, 1) := by decide +kernel
theorem dX9_putRem_2 : decode cX9_putRem 2 = .ok (.iload_n 2, 1) := by decide +kernel
theorem dX9_putRem_3 : decode cX9_putRem 3 = .ok (.iload_n 3, 1) := by decide +kernel
theorem dX9_putRem_4 : decode cX9_putRem 4 = .ok (.iload 4, 2) := by decide +kernel
theorem dX9_putRem_6 : decode cX9_putRem 6 = .ok (.invokevirtual 110, 3) := by decide +kernel
theorem dX9_putRem_9 : decode cX9_putRem 9 = .ok (.istore 5, 2) := by decide +kernel
theorem dX9_putRem_11 : decode cX9_putRem 11 = .ok (.iload 4, 2) := by decide +kernel
theorem dX9_putRem_13 : decode cX9_putRem 13 = .ok (.iconst 1, 1) := by decide +kernel
theorem dX9_putRem_14 : decode cX9_putRem 14 = .ok (.isub, 1) := by decide +kernel
theorem dX9_putRem_15 : decode cX9_putRem 15 = .ok (.istore 6, 2) := by decide +kernel
theorem dX9_putRem_17 : decode cX9_putRem 17 = .ok (.iload 6, 2) := by decide +kernel
theorem dX9_putRem_19 : decode cX9_putRem 19 = .ok (.ifCond .lt 19, 3) := by decide +kernel
theorem dX9_putRem_22 : decode cX9_putRem 22 = .ok (.aload_n 0, 1) := by decide +kernel
theorem dX9_putRem_23 : decode cX9_putRem 23 = .ok (.iload 5, 2) := by decide +kernel
theorem dX9_putRem_25 : decode cX9_putRem 25 = .ok (.iload 6, 2) := by decide +kernel
theorem dX9_putRem_27 : decode cX9_putRem 27 = .ok (.ishr, 1) := by decide +kernel
theorem dX9_putRem_28 : decode cX9_putRem 28 = .ok (.iconst 1, 1) := by decide +kernel
theorem dX9_putRem_29 : decode cX9_putRem 29 = .ok (.invokevirtual 114, 3) := by decide +kernel
theorem dX9_putRem_32 : decode cX9_putRem 32 = .ok (.iinc 6 (-1), 3) := by decide +kernel
theorem dX9_putRem_35 : decode cX9_putRem 35 = .ok (.goto (-18), 3) := by decide +kernel
theorem dX9_putRem_38 : decode cX9_putRem 38 = .ok (.return_, 1) := by decide +kernel
theorem dX9_remStands_0 : decode cX9_remStands 0 = .ok (.aload_n 0, 1) := by decide +kernel
theorem dX9_remStands_1 : decode cX9_remStands 1 = .ok (.iload_n 1, 1) := by decide +kernel
theorem dX9_remStands_2 : decode cX9_remStands 2 = .ok (.iload_n 2, 1) := by decide +kernel
theorem dX9_remStands_3 : decode cX9_remStands 3 = .ok (.iload_n 3, 1) := by decide +kernel
theorem dX9_remStands_4 : decode cX9_remStands 4 = .ok (.iload 4, 2) := by decide +kernel
theorem dX9_remStands_6 : decode cX9_remStands 6 = .ok (.invokevirtual 110, 3) := by decide +kernel
theorem dX9_remStands_9 : decode cX9_remStands 9 = .ok (.istore 5, 2) := by decide +kernel
theorem dX9_remStands_11 : decode cX9_remStands 11 = .ok (.iconst 0, 1) := by decide +kernel
theorem dX9_remStands_12 : decode cX9_remStands 12 = .ok (.istore 6, 2) := by decide +kernel
theorem dX9_remStands_14 : decode cX9_remStands 14 = .ok (.iload 6, 2) := by decide +kernel
theorem dX9_remStands_16 : decode cX9_remStands 16 = .ok (.iload 4, 2) := by decide +kernel
theorem dX9_remStands_18 : decode cX9_remStands 18 = .ok (.if_icmp .ge 35, 3) := by decide +kernel
theorem dX9_remStands_21 : decode cX9_remStands 21 = .ok (.aload_n 0, 1) := by decide +kernel
theorem dX9_remStands_22 : decode cX9_remStands 22 = .ok (.getfield 16, 3) := by decide +kernel
theorem dX9_remStands_25 : decode cX9_remStands 25 = .ok (.iload_n 2, 1) := by decide +kernel
theorem dX9_remStands_26 : decode cX9_remStands 26 = .ok (.iload 6, 2) := by decide +kernel
theorem dX9_remStands_28 : decode cX9_remStands 28 = .ok (.iadd, 1) := by decide +kernel
theorem dX9_remStands_29 : decode cX9_remStands 29 = .ok (.iaload, 1) := by decide +kernel
theorem dX9_remStands_30 : decode cX9_remStands 30 = .ok (.iload 5, 2) := by decide +kernel
theorem dX9_remStands_32 : decode cX9_remStands 32 = .ok (.iload 4, 2) := by decide +kernel
theorem dX9_remStands_34 : decode cX9_remStands 34 = .ok (.iconst 1, 1) := by decide +kernel
theorem dX9_remStands_35 : decode cX9_remStands 35 = .ok (.isub, 1) := by decide +kernel
theorem dX9_remStands_36 : decode cX9_remStands 36 = .ok (.iload 6, 2) := by decide +kernel
theorem dX9_remStands_38 : decode cX9_remStands 38 = .ok (.isub, 1) := by decide +kernel
theorem dX9_remStands_39 : decode cX9_remStands 39 = .ok (.ishr, 1) := by decide +kernel
theorem dX9_remStands_40 : decode cX9_remStands 40 = .ok (.iconst 1, 1) := by decide +kernel
theorem dX9_remStands_41 : decode cX9_remStands 41 = .ok (.iand, 1) := by decide +kernel
theorem dX9_remStands_42 : decode cX9_remStands 42 = .ok (.if_icmp .eq 5, 3) := by decide +kernel
theorem dX9_remStands_45 : decode cX9_remStands 45 = .ok (.iconst 0, 1) := by decide +kernel
theorem dX9_remStands_46 : decode cX9_remStands 46 = .ok (.ireturn, 1) := by decide +kernel
theorem dX9_remStands_47 : decode cX9_remStands 47 = .ok (.iinc 6 1, 3) := by decide +kernel
theorem dX9_remStands_50 : decode cX9_remStands 50 = .ok (.goto (-36), 3) := by decide +kernel
theorem dX9_remStands_53 : decode cX9_remStands 53 = .ok (.iconst 1, 1) := by decide +kernel
theorem dX9_remStands_54 : decode cX9_remStands 54 = .ok (.ireturn, 1) := by decide +kernel
theorem dX9_number_0 : decode cX9_number 0 = .ok (.iconst 0, 1) := by decide +kernel
theorem dX9_number_1 : decode cX9_number 1 = .ok (.istore_n 3, 1) := by decide +kernel
theorem dX9_number_2 : decode cX9_number 2 = .ok (.iconst 0, 1) := by decide +kernel
theorem dX9_number_3 : decode cX9_number 3 = .ok (.istore 4, 2) := by decide +kernel
theorem dX9_number_5 : decode cX9_number 5 = .ok (.iload 4, 2) := by decide +kernel
theorem dX9_number_7 : decode cX9_number 7 = .ok (.iload_n 2, 1) := by decide +kernel
theorem dX9_number_8 : decode cX9_number 8 = .ok (.if_icmp .ge 24, 3) := by decide +kernel
theorem dX9_number_11 : decode cX9_number 11 = .ok (.iload_n 3, 1) := by decide +kernel
theorem dX9_number_12 : decode cX9_number 12 = .ok (.aload_n 0, 1) := by decide +kernel
theorem dX9_number_13 : decode cX9_number 13 = .ok (.getfield 16, 3) := by decide +kernel
theorem dX9_number_16 : decode cX9_number 16 = .ok (.iload_n 1, 1) := by decide +kernel
theorem dX9_number_17 : decode cX9_number 17 = .ok (.iload 4, 2) := by decide +kernel
theorem dX9_number_19 : decode cX9_number 19 = .ok (.iadd, 1) := by decide +kernel
theorem dX9_number_20 : decode cX9_number 20 = .ok (.iaload, 1) := by decide +kernel
theorem dX9_number_21 : decode cX9_number 21 = .ok (.iload 4, 2) := by decide +kernel
theorem dX9_number_23 : decode cX9_number 23 = .ok (.ishl, 1) := by decide +kernel
theorem dX9_number_24 : decode cX9_number 24 = .ok (.ior, 1) := by decide +kernel
theorem dX9_number_25 : decode cX9_number 25 = .ok (.istore_n 3, 1) := by decide +kernel
theorem dX9_number_26 : decode cX9_number 26 = .ok (.iinc 4 1, 3) := by decide +kernel
theorem dX9_number_29 : decode cX9_number 29 = .ok (.goto (-24), 3) := by decide +kernel
theorem dX9_number_32 : decode cX9_number 32 = .ok (.iload_n 3, 1) := by decide +kernel
theorem dX9_number_33 : decode cX9_number 33 = .ok (.ireturn, 1) := by decide +kernel
theorem dX9_startSending_0 : decode cX9_startSending 0 = .ok (.bipush 6, 2) := by decide +kernel
theorem dX9_startSending_2 : decode cX9_startSending 2 = .ok (.iload_n 1, 1) := by decide +kernel
theorem dX9_startSending_3 : decode cX9_startSending 3 = .ok (.imul, 1) := by decide +kernel
theorem dX9_startSending_4 : decode cX9_startSending 4 = .ok (.istore_n 2, 1) := by decide +kernel
theorem dX9_startSending_5 : decode cX9_startSending 5 = .ok (.aload_n 0, 1) := by decide +kernel
theorem dX9_startSending_6 : decode cX9_startSending 6 = .ok (.getfield 40, 3) := by decide +kernel
theorem dX9_startSending_9 : decode cX9_startSending 9 = .ok (.bipush 41, 2) := by decide +kernel
theorem dX9_startSending_11 : decode cX9_startSending 11 = .ok (.iload_n 1, 1) := by decide +kernel
theorem dX9_startSending_12 : decode cX9_startSending 12 = .ok (.imul, 1) := by decide +kernel
theorem dX9_startSending_13 : decode cX9_startSending 13 = .ok (.aload_n 0, 1) := by decide +kernel
theorem dX9_startSending_14 : decode cX9_startSending 14 = .ok (.getfield 28, 3) := by decide +kernel
theorem dX9_startSending_17 : decode cX9_startSending 17 = .ok (.iload_n 2, 1) := by decide +kernel
theorem dX9_startSending_18 : decode cX9_startSending 18 = .ok (.iaload, 1) := by decide +kernel
theorem dX9_startSending_19 : decode cX9_startSending 19 = .ok (.iastore, 1) := by decide +kernel
theorem dX9_startSending_20 : decode cX9_startSending 20 = .ok (.iconst 0, 1) := by decide +kernel
theorem dX9_startSending_21 : decode cX9_startSending 21 = .ok (.istore_n 3, 1) := by decide +kernel
theorem dX9_startSending_22 : decode cX9_startSending 22 = .ok (.iload_n 3, 1) := by decide +kernel
theorem dX9_startSending_23 : decode cX9_startSending 23 = .ok (.aload_n 0, 1) := by decide +kernel
theorem dX9_startSending_24 : decode cX9_startSending 24 = .ok (.getfield 28, 3) := by decide +kernel
theorem dX9_startSending_27 : decode cX9_startSending 27 = .ok (.iload_n 2, 1) := by decide +kernel
theorem dX9_startSending_28 : decode cX9_startSending 28 = .ok (.iaload, 1) := by decide +kernel
theorem dX9_startSending_29 : decode cX9_startSending 29 = .ok (.if_icmp .ge 33, 3) := by decide +kernel
theorem dX9_startSending_32 : decode cX9_startSending 32 = .ok (.aload_n 0, 1) := by decide +kernel
theorem dX9_startSending_33 : decode cX9_startSending 33 = .ok (.getfield 40, 3) := by decide +kernel
theorem dX9_startSending_36 : decode cX9_startSending 36 = .ok (.bipush 41, 2) := by decide +kernel
theorem dX9_startSending_38 : decode cX9_startSending 38 = .ok (.iload_n 1, 1) := by decide +kernel
theorem dX9_startSending_39 : decode cX9_startSending 39 = .ok (.imul, 1) := by decide +kernel
theorem dX9_startSending_40 : decode cX9_startSending 40 = .ok (.iconst 1, 1) := by decide +kernel
theorem dX9_startSending_41 : decode cX9_startSending 41 = .ok (.iadd, 1) := by decide +kernel
theorem dX9_startSending_42 : decode cX9_startSending 42 = .ok (.iload_n 3, 1) := by decide +kernel
theorem dX9_startSending_43 : decode cX9_startSending 43 = .ok (.iadd, 1) := by decide +kernel
theorem dX9_startSending_44 : decode cX9_startSending 44 = .ok (.aload_n 0, 1) := by decide +kernel
theorem dX9_startSending_45 : decode cX9_startSending 45 = .ok (.getfield 31, 3) := by decide +kernel
theorem dX9_startSending_48 : decode cX9_startSending 48 = .ok (.bipush 40, 2) := by decide +kernel
theorem dX9_startSending_50 : decode cX9_startSending 50 = .ok (.iload_n 2, 1) := by decide +kernel
theorem dX9_startSending_51 : decode cX9_startSending 51 = .ok (.imul, 1) := by decide +kernel
theorem dX9_startSending_52 : decode cX9_startSending 52 = .ok (.iload_n 3, 1) := by decide +kernel
theorem dX9_startSending_53 : decode cX9_startSending 53 = .ok (.iadd, 1) := by decide +kernel
theorem dX9_startSending_54 : decode cX9_startSending 54 = .ok (.iaload, 1) := by decide +kernel
theorem dX9_startSending_55 : decode cX9_startSending 55 = .ok (.iastore, 1) := by decide +kernel
theorem dX9_startSending_56 : decode cX9_startSending 56 = .ok (.iinc 3 1, 3) := by decide +kernel
theorem dX9_startSending_59 : decode cX9_startSending 59 = .ok (.goto (-37), 3) := by decide +kernel
theorem dX9_startSending_62 : decode cX9_startSending 62 = .ok (.aload_n 0, 1) := by decide +kernel
theorem dX9_startSending_63 : decode cX9_startSending 63 = .ok (.getfield 34, 3) := by decide +kernel
theorem dX9_startSending_66 : decode cX9_startSending 66 = .ok (.iload_n 1, 1) := by decide +kernel
theorem dX9_startSending_67 : decode cX9_startSending 67 = .ok (.aload_n 0, 1) := by decide +kernel
theorem dX9_startSending_68 : decode cX9_startSending 68 = .ok (.getfield 28, 3) := by decide +kernel
theorem dX9_startSending_71 : decode cX9_startSending 71 = .ok (.iload_n 2, 1) := by decide +kernel
theorem dX9_startSending_72 : decode cX9_startSending 72 = .ok (.iaload, 1) := by decide +kernel
theorem dX9_startSending_73 : decode cX9_startSending 73 = .ok (.iconst 1, 1) := by decide +kernel
theorem dX9_startSending_74 : decode cX9_startSending 74 = .ok (.iadd, 1) := by decide +kernel
theorem dX9_startSending_75 : decode cX9_startSending 75 = .ok (.iastore, 1) := by decide +kernel
theorem dX9_startSending_76 : decode cX9_startSending 76 = .ok (.aload_n 0, 1) := by decide +kernel
theorem dX9_startSending_77 : decode cX9_startSending 77 = .ok (.getfield 37, 3) := by decide +kernel
theorem dX9_startSending_80 : decode cX9_startSending 80 = .ok (.iload_n 1, 1) := by decide +kernel
theorem dX9_startSending_81 : decode cX9_startSending 81 = .ok (.iconst 0, 1) := by decide +kernel
theorem dX9_startSending_82 : decode cX9_startSending 82 = .ok (.iastore, 1) := by decide +kernel
theorem dX9_startSending_83 : decode cX9_startSending 83 = .ok (.aload_n 0, 1) := by decide +kernel
theorem dX9_startSending_84 : decode cX9_startSending 84 = .ok (.getfield 25, 3) := by decide +kernel
theorem dX9_startSending_87 : decode cX9_startSending 87 = .ok (.iload_n 1, 1) := by decide +kernel
theorem dX9_startSending_88 : decode cX9_startSending 88 = .ok (.dup2, 1) := by decide +kernel
theorem dX9_startSending_89 : decode cX9_startSending 89 = .ok (.iaload, 1) := by decide +kernel
theorem dX9_startSending_90 : decode cX9_startSending 90 = .ok (.iconst 1, 1) := by decide +kernel
theorem dX9_startSending_91 : decode cX9_startSending 91 = .ok (.isub, 1) := by decide +kernel
theorem dX9_startSending_92 : decode cX9_startSending 92 = .ok (.iastore, 1) := by decide +kernel
theorem dX9_startSending_93 : decode cX9_startSending 93 = .ok (.iload_n 2, 1) := by decide +kernel
theorem dX9_startSending_94 : decode cX9_startSending 94 = .ok (.istore_n 3, 1) := by decide +kernel
theorem dX9_startSending_95 : decode cX9_startSending 95 = .ok (.iload_n 3, 1) := by decide +kernel
theorem dX9_startSending_96 : decode cX9_startSending 96 = .ok (.iload_n 2, 1) := by decide +kernel
theorem dX9_startSending_97 : decode cX9_startSending 97 = .ok (.aload_n 0, 1) := by decide +kernel
theorem dX9_startSending_98 : decode cX9_startSending 98 = .ok (.getfield 25, 3) := by decide +kernel
theorem dX9_startSending_101 : decode cX9_startSending 101 = .ok (.iload_n 1, 1) := by decide +kernel
theorem dX9_startSending_102 : decode cX9_startSending 102 = .ok (.iaload, 1) := by decide +kernel
theorem dX9_startSending_103 : decode cX9_startSending 103 = .ok (.iadd, 1) := by decide +kernel
theorem dX9_startSending_104 : decode cX9_startSending 104 = .ok (.if_icmp .ge 66, 3) := by decide +kernel
theorem dX9_startSending_107 : decode cX9_startSending 107 = .ok (.aload_n 0, 1) := by decide +kernel
theorem dX9_startSending_108 : decode cX9_startSending 108 = .ok (.getfield 28, 3) := by decide +kernel
theorem dX9_startSending_111 : decode cX9_startSending 111 = .ok (.iload_n 3, 1) := by decide +kernel
theorem dX9_startSending_112 : decode cX9_startSending 112 = .ok (.aload_n 0, 1) := by decide +kernel
theorem dX9_startSending_113 : decode cX9_startSending 113 = .ok (.getfield 28, 3) := by decide +kernel
theorem dX9_startSending_116 : decode cX9_startSending 116 = .ok (.iload_n 3, 1) := by decide +kernel
theorem dX9_startSending_117 : decode cX9_startSending 117 = .ok (.iconst 1, 1) := by decide +kernel
theorem dX9_startSending_118 : decode cX9_startSending 118 = .ok (.iadd, 1) := by decide +kernel
theorem dX9_startSending_119 : decode cX9_startSending 119 = .ok (.iaload, 1) := by decide +kernel
theorem dX9_startSending_120 : decode cX9_startSending 120 = .ok (.iastore, 1) := by decide +kernel
theorem dX9_startSending_121 : decode cX9_startSending 121 = .ok (.iconst 0, 1) := by decide +kernel
theorem dX9_startSending_122 : decode cX9_startSending 122 = .ok (.istore 4, 2) := by decide +kernel
theorem dX9_startSending_124 : decode cX9_startSending 124 = .ok (.iload 4, 2) := by decide +kernel
theorem dX9_startSending_126 : decode cX9_startSending 126 = .ok (.bipush 40, 2) := by decide +kernel
theorem dX9_startSending_128 : decode cX9_startSending 128 = .ok (.if_icmp .ge 36, 3) := by decide +kernel
theorem dX9_startSending_131 : decode cX9_startSending 131 = .ok (.aload_n 0, 1) := by decide +kernel
theorem dX9_startSending_132 : decode cX9_startSending 132 = .ok (.getfield 31, 3) := by decide +kernel
theorem dX9_startSending_135 : decode cX9_startSending 135 = .ok (.bipush 40, 2) := by decide +kernel
theorem dX9_startSending_137 : decode cX9_startSending 137 = .ok (.iload_n 3, 1) := by decide +kernel
theorem dX9_startSending_138 : decode cX9_startSending 138 = .ok (.imul, 1) := by decide +kernel
theorem dX9_startSending_139 : decode cX9_startSending 139 = .ok (.iload 4, 2) := by decide +kernel
theorem dX9_startSending_141 : decode cX9_startSending 141 = .ok (.iadd, 1) := by decide +kernel
theorem dX9_startSending_142 : decode cX9_startSending 142 = .ok (.aload_n 0, 1) := by decide +kernel
theorem dX9_startSending_143 : decode cX9_startSending 143 = .ok (.getfield 31, 3) := by decide +kernel
theorem dX9_startSending_146 : decode cX9_startSending 146 = .ok (.bipush 40, 2) := by decide +kernel
theorem dX9_startSending_148 : decode cX9_startSending 148 = .ok (.iload_n 3, 1) := by decide +kernel
theorem dX9_startSending_149 : decode cX9_startSending 149 = .ok (.imul, 1) := by decide +kernel
theorem dX9_startSending_150 : decode cX9_startSending 150 = .ok (.bipush 40, 2) := by decide +kernel
theorem dX9_startSending_152 : decode cX9_startSending 152 = .ok (.iadd, 1) := by decide +kernel
theorem dX9_startSending_153 : decode cX9_startSending 153 = .ok (.iload 4, 2) := by decide +kernel
theorem dX9_startSending_155 : decode cX9_startSending 155 = .ok (.iadd, 1) := by decide +kernel
theorem dX9_startSending_156 : decode cX9_startSending 156 = .ok (.iaload, 1) := by decide +kernel
theorem dX9_startSending_157 : decode cX9_startSending 157 = .ok (.iastore, 1) := by decide +kernel
theorem dX9_startSending_158 : decode cX9_startSending 158 = .ok (.iinc 4 1, 3) := by decide +kernel
theorem dX9_startSending_161 : decode cX9_startSending 161 = .ok (.goto (-37), 3) := by decide +kernel
theorem dX9_startSending_164 : decode cX9_startSending 164 = .ok (.iinc 3 1, 3) := by decide +kernel
theorem dX9_startSending_167 : decode cX9_startSending 167 = .ok (.goto (-72), 3) := by decide +kernel
theorem dX9_startSending_170 : decode cX9_startSending 170 = .ok (.return_, 1) := by decide +kernel
theorem dX9_newFrame_0 : decode cX9_newFrame 0 = .ok (.aload_n 0, 1) := by decide +kernel
theorem dX9_newFrame_1 : decode cX9_newFrame 1 = .ok (.getfield 37, 3) := by decide +kernel
theorem dX9_newFrame_4 : decode cX9_newFrame 4 = .ok (.iload_n 1, 1) := by decide +kernel
theorem dX9_newFrame_5 : decode cX9_newFrame 5 = .ok (.iaload, 1) := by decide +kernel
theorem dX9_newFrame_6 : decode cX9_newFrame 6 = .ok (.aload_n 0, 1) := by decide +kernel
theorem dX9_newFrame_7 : decode cX9_newFrame 7 = .ok (.getfield 34, 3) := by decide +kernel
theorem dX9_newFrame_10 : decode cX9_newFrame 10 = .ok (.iload_n 1, 1) := by decide +kernel
theorem dX9_newFrame_11 : decode cX9_newFrame 11 = .ok (.iaload, 1) := by decide +kernel
theorem dX9_newFrame_12 : decode cX9_newFrame 12 = .ok (.if_icmp .ne 8, 3) := by decide +kernel
theorem dX9_newFrame_15 : decode cX9_newFrame 15 = .ok (.aload_n 0, 1) := by decide +kernel
theorem dX9_newFrame_16 : decode cX9_newFrame 16 = .ok (.iload_n 1, 1) := by decide +kernel
theorem dX9_newFrame_17 : decode cX9_newFrame 17 = .ok (.invokevirtual 118, 3) := by decide +kernel
theorem dX9_newFrame_20 : decode cX9_newFrame 20 = .ok (.aload_n 0, 1) := by decide +kernel
theorem dX9_newFrame_21 : decode cX9_newFrame 21 = .ok (.getfield 74, 3) := by decide +kernel
theorem dX9_newFrame_24 : decode cX9_newFrame 24 = .ok (.iload_n 1, 1) := by decide +kernel
theorem dX9_newFrame_25 : decode cX9_newFrame 25 = .ok (.baload, 1) := by decide +kernel
theorem dX9_newFrame_26 : decode cX9_newFrame 26 = .ok (.ifCond .eq 8, 3) := by decide +kernel
theorem dX9_newFrame_29 : decode cX9_newFrame 29 = .ok (.bipush 13, 2) := by decide +kernel
theorem dX9_newFrame_31 : decode cX9_newFrame 31 = .ok (.goto 5, 3) := by decide +kernel
theorem dX9_newFrame_34 : decode cX9_newFrame 34 = .ok (.bipush 9, 2) := by decide +kernel
theorem dX9_newFrame_36 : decode cX9_newFrame 36 = .ok (.istore_n 2, 1) := by decide +kernel
theorem dX9_newFrame_37 : decode cX9_newFrame 37 = .ok (.aload_n 0, 1) := by decide +kernel
theorem dX9_newFrame_38 : decode cX9_newFrame 38 = .ok (.getfield 34, 3) := by decide +kernel
theorem dX9_newFrame_41 : decode cX9_newFrame 41 = .ok (.iload_n 1, 1) := by decide +kernel
theorem dX9_newFrame_42 : decode cX9_newFrame 42 = .ok (.iaload, 1) := by decide +kernel
theorem dX9_newFrame_43 : decode cX9_newFrame 43 = .ok (.aload_n 0, 1) := by decide +kernel
theorem dX9_newFrame_44 : decode cX9_newFrame 44 = .ok (.getfield 37, 3) := by decide +kernel
theorem dX9_newFrame_47 : decode cX9_newFrame 47 = .ok (.iload_n 1, 1) := by decide +kernel
theorem dX9_newFrame_48 : decode cX9_newFrame 48 = .ok (.iaload, 1) := by decide +kernel
theorem dX9_newFrame_49 : decode cX9_newFrame 49 = .ok (.isub, 1) := by decide +kernel
theorem dX9_newFrame_50 : decode cX9_newFrame 50 = .ok (.istore_n 3, 1) := by decide +kernel
theorem dX9_newFrame_51 : decode cX9_newFrame 51 = .ok (.aload_n 0, 1) := by decide +kernel
theorem dX9_newFrame_52 : decode cX9_newFrame 52 = .ok (.getfield 43, 3) := by decide +kernel
theorem dX9_newFrame_55 : decode cX9_newFrame 55 = .ok (.iload_n 1, 1) := by decide +kernel
theorem dX9_newFrame_56 : decode cX9_newFrame 56 = .ok (.iload_n 3, 1) := by decide +kernel
theorem dX9_newFrame_57 : decode cX9_newFrame 57 = .ok (.iload_n 2, 1) := by decide +kernel
theorem dX9_newFrame_58 : decode cX9_newFrame 58 = .ok (.if_icmp .ge 7, 3) := by decide +kernel
theorem dX9_newFrame_61 : decode cX9_newFrame 61 = .ok (.iload_n 3, 1) := by decide +kernel
theorem dX9_newFrame_62 : decode cX9_newFrame 62 = .ok (.goto 4, 3) := by decide +kernel
theorem dX9_newFrame_65 : decode cX9_newFrame 65 = .ok (.iload_n 2, 1) := by decide +kernel
theorem dX9_newFrame_66 : decode cX9_newFrame 66 = .ok (.iastore, 1) := by decide +kernel
theorem dX9_newFrame_67 : decode cX9_newFrame 67 = .ok (.aload_n 0, 1) := by decide +kernel
theorem dX9_newFrame_68 : decode cX9_newFrame 68 = .ok (.getfield 46, 3) := by decide +kernel
theorem dX9_newFrame_71 : decode cX9_newFrame 71 = .ok (.iload_n 1, 1) := by decide +kernel
theorem dX9_newFrame_72 : decode cX9_newFrame 72 = .ok (.aload_n 0, 1) := by decide +kernel
theorem dX9_newFrame_73 : decode cX9_newFrame 73 = .ok (.getfield 74, 3) := by decide +kernel
theorem dX9_newFrame_76 : decode cX9_newFrame 76 = .ok (.iload_n 1, 1) := by decide +kernel
theorem dX9_newFrame_77 : decode cX9_newFrame 77 = .ok (.baload, 1) := by decide +kernel
theorem dX9_newFrame_78 : decode cX9_newFrame 78 = .ok (.ifCond .eq 7, 3) := by decide +kernel
theorem dX9_newFrame_81 : decode cX9_newFrame 81 = .ok (.iconst 4, 1) := by decide +kernel
theorem dX9_newFrame_82 : decode cX9_newFrame 82 = .ok (.goto 4, 3) := by decide +kernel
theorem dX9_newFrame_85 : decode cX9_newFrame 85 = .ok (.iconst 3, 1) := by decide +kernel
theorem dX9_newFrame_86 : decode cX9_newFrame 86 = .ok (.iastore, 1) := by decide +kernel
theorem dX9_newFrame_87 : decode cX9_newFrame 87 = .ok (.aload_n 0, 1) := by decide +kernel
theorem dX9_newFrame_88 : decode cX9_newFrame 88 = .ok (.getfield 49, 3) := by decide +kernel
theorem dX9_newFrame_91 : decode cX9_newFrame 91 = .ok (.iload_n 1, 1) := by decide +kernel
theorem dX9_newFrame_92 : decode cX9_newFrame 92 = .ok (.aload_n 0, 1) := by decide +kernel
theorem dX9_newFrame_93 : decode cX9_newFrame 93 = .ok (.getfield 37, 3) := by decide +kernel
theorem dX9_newFrame_96 : decode cX9_newFrame 96 = .ok (.iload_n 1, 1) := by decide +kernel
theorem dX9_newFrame_97 : decode cX9_newFrame 97 = .ok (.iaload, 1) := by decide +kernel
theorem dX9_newFrame_98 : decode cX9_newFrame 98 = .ok (.ifCond .ne 7, 3) := by decide +kernel
theorem dX9_newFrame_101 : decode cX9_newFrame 101 = .ok (.iconst 1, 1) := by decide +kernel
theorem dX9_newFrame_102 : decode cX9_newFrame 102 = .ok (.goto 4, 3) := by decide +kernel
theorem dX9_newFrame_105 : decode cX9_newFrame 105 = .ok (.iconst 0, 1) := by decide +kernel
theorem dX9_newFrame_106 : decode cX9_newFrame 106 = .ok (.bastore, 1) := by decide +kernel
theorem dX9_newFrame_107 : decode cX9_newFrame 107 = .ok (.iconst 0, 1) := by decide +kernel
theorem dX9_newFrame_108 : decode cX9_newFrame 108 = .ok (.istore 4, 2) := by decide +kernel
theorem dX9_newFrame_110 : decode cX9_newFrame 110 = .ok (.iload 4, 2) := by decide +kernel
theorem dX9_newFrame_112 : decode cX9_newFrame 112 = .ok (.aload_n 0, 1) := by decide +kernel
theorem dX9_newFrame_113 : decode cX9_newFrame 113 = .ok (.getfield 43, 3) := by decide +kernel
theorem dX9_newFrame_116 : decode cX9_newFrame 116 = .ok (.iload_n 1, 1) := by decide +kernel
theorem dX9_newFrame_117 : decode cX9_newFrame 117 = .ok (.iaload, 1) := by decide +kernel
theorem dX9_newFrame_118 : decode cX9_newFrame 118 = .ok (.if_icmp .ge 40, 3) := by decide +kernel
theorem dX9_newFrame_121 : decode cX9_newFrame 121 = .ok (.aload_n 0, 1) := by decide +kernel
theorem dX9_newFrame_122 : decode cX9_newFrame 122 = .ok (.getfield 53, 3) := by decide +kernel
theorem dX9_newFrame_125 : decode cX9_newFrame 125 = .ok (.bipush 13, 2) := by decide +kernel
theorem dX9_newFrame_127 : decode cX9_newFrame 127 = .ok (.iload_n 1, 1) := by decide +kernel
theorem dX9_newFrame_128 : decode cX9_newFrame 128 = .ok (.imul, 1) := by decide +kernel
theorem dX9_newFrame_129 : decode cX9_newFrame 129 = .ok (.iload 4, 2) := by decide +kernel
theorem dX9_newFrame_131 : decode cX9_newFrame 131 = .ok (.iadd, 1) := by decide +kernel
theorem dX9_newFrame_132 : decode cX9_newFrame 132 = .ok (.aload_n 0, 1) := by decide +kernel
theorem dX9_newFrame_133 : decode cX9_newFrame 133 = .ok (.getfield 40, 3) := by decide +kernel
theorem dX9_newFrame_136 : decode cX9_newFrame 136 = .ok (.bipush 41, 2) := by decide +kernel
theorem dX9_newFrame_138 : decode cX9_newFrame 138 = .ok (.iload_n 1, 1) := by decide +kernel
theorem dX9_newFrame_139 : decode cX9_newFrame 139 = .ok (.imul, 1) := by decide +kernel
theorem dX9_newFrame_140 : decode cX9_newFrame 140 = .ok (.aload_n 0, 1) := by decide +kernel
theorem dX9_newFrame_141 : decode cX9_newFrame 141 = .ok (.getfield 37, 3) := by decide +kernel
theorem dX9_newFrame_144 : decode cX9_newFrame 144 = .ok (.iload_n 1, 1) := by decide +kernel
theorem dX9_newFrame_145 : decode cX9_newFrame 145 = .ok (.iaload, 1) := by decide +kernel
theorem dX9_newFrame_146 : decode cX9_newFrame 146 = .ok (.iadd, 1) := by decide +kernel
theorem dX9_newFrame_147 : decode cX9_newFrame 147 = .ok (.iload 4, 2) := by decide +kernel
theorem dX9_newFrame_149 : decode cX9_newFrame 149 = .ok (.iadd, 1) := by decide +kernel
theorem dX9_newFrame_150 : decode cX9_newFrame 150 = .ok (.iaload, 1) := by decide +kernel
theorem dX9_newFrame_151 : decode cX9_newFrame 151 = .ok (.iastore, 1) := by decide +kernel
theorem dX9_newFrame_152 : decode cX9_newFrame 152 = .ok (.iinc 4 1, 3) := by decide +kernel
theorem dX9_newFrame_155 : decode cX9_newFrame 155 = .ok (.goto (-45), 3) := by decide +kernel
theorem dX9_newFrame_158 : decode cX9_newFrame 158 = .ok (.aload_n 0, 1) := by decide +kernel
theorem dX9_newFrame_159 : decode cX9_newFrame 159 = .ok (.getfield 37, 3) := by decide +kernel
theorem dX9_newFrame_162 : decode cX9_newFrame 162 = .ok (.iload_n 1, 1) := by decide +kernel
theorem dX9_newFrame_163 : decode cX9_newFrame 163 = .ok (.dup2, 1) := by decide +kernel
theorem dX9_newFrame_164 : decode cX9_newFrame 164 = .ok (.iaload, 1) := by decide +kernel
theorem dX9_newFrame_165 : decode cX9_newFrame 165 = .ok (.aload_n 0, 1) := by decide +kernel
theorem dX9_newFrame_166 : decode cX9_newFrame 166 = .ok (.getfield 43, 3) := by decide +kernel
theorem dX9_newFrame_169 : decode cX9_newFrame 169 = .ok (.iload_n 1, 1) := by decide +kernel
theorem dX9_newFrame_170 : decode cX9_newFrame 170 = .ok (.iaload, 1) := by decide +kernel
theorem dX9_newFrame_171 : decode cX9_newFrame 171 = .ok (.iadd, 1) := by decide +kernel
theorem dX9_newFrame_172 : decode cX9_newFrame 172 = .ok (.iastore, 1) := by decide +kernel
theorem dX9_newFrame_173 : decode cX9_newFrame 173 = .ok (.aload_n 0, 1) := by decide +kernel
theorem dX9_newFrame_174 : decode cX9_newFrame 174 = .ok (.getfield 77, 3) := by decide +kernel
theorem dX9_newFrame_177 : decode cX9_newFrame 177 = .ok (.iload_n 1, 1) := by decide +kernel
theorem dX9_newFrame_178 : decode cX9_newFrame 178 = .ok (.iconst 1, 1) := by decide +kernel
theorem dX9_newFrame_179 : decode cX9_newFrame 179 = .ok (.aload_n 0, 1) := by decide +kernel
theorem dX9_newFrame_180 : decode cX9_newFrame 180 = .ok (.getfield 77, 3) := by decide +kernel
theorem dX9_newFrame_183 : decode cX9_newFrame 183 = .ok (.iload_n 1, 1) := by decide +kernel
theorem dX9_newFrame_184 : decode cX9_newFrame 184 = .ok (.iaload, 1) := by decide +kernel
theorem dX9_newFrame_185 : decode cX9_newFrame 185 = .ok (.isub, 1) := by decide +kernel
theorem dX9_newFrame_186 : decode cX9_newFrame 186 = .ok (.iastore, 1) := by decide +kernel
theorem dX9_newFrame_187 : decode cX9_newFrame 187 = .ok (.return_, 1) := by decide +kernel
theorem dX9_sendBits_0 : decode cX9_sendBits 0 = .ok (.aload_n 0, 1) := by decide +kernel
theorem dX9_sendBits_1 : decode cX9_sendBits 1 = .ok (.iconst 0, 1) := by decide +kernel
theorem dX9_sendBits_2 : decode cX9_sendBits 2 = .ok (.putfield 122, 3) := by decide +kernel
theorem dX9_sendBits_5 : decode cX9_sendBits 5 = .ok (.iconst 0, 1) := by decide +kernel
theorem dX9_sendBits_6 : decode cX9_sendBits 6 = .ok (.istore_n 2, 1) := by decide +kernel
theorem dX9_sendBits_7 : decode cX9_sendBits 7 = .ok (.iload_n 2, 1) := by decide +kernel
theorem dX9_sendBits_8 : decode cX9_sendBits 8 = .ok (.bipush 54, 2) := by decide +kernel
theorem dX9_sendBits_10 : decode cX9_sendBits 10 = .ok (.if_icmp .ge 30, 3) := by decide +kernel
theorem dX9_sendBits_13 : decode cX9_sendBits 13 = .ok (.aload_n 0, 1) := by decide +kernel
theorem dX9_sendBits_14 : decode cX9_sendBits 14 = .ok (.aload_n 0, 1) := by decide +kernel
theorem dX9_sendBits_15 : decode cX9_sendBits 15 = .ok (.getfield 16, 3) := by decide +kernel
theorem dX9_sendBits_18 : decode cX9_sendBits 18 = .ok (.iload_n 2, 1) := by decide +kernel
theorem dX9_sendBits_19 : decode cX9_sendBits 19 = .ok (.iconst 3, 1) := by decide +kernel
theorem dX9_sendBits_20 : decode cX9_sendBits 20 = .ok (.idiv, 1) := by decide +kernel
theorem dX9_sendBits_21 : decode cX9_sendBits 21 = .ok (.iaload, 1) := by decide +kernel
theorem dX9_sendBits_22 : decode cX9_sendBits 22 = .ok (.aload_n 0, 1) := by decide +kernel
theorem dX9_sendBits_23 : decode cX9_sendBits 23 = .ok (.getfield 13, 3) := by decide +kernel
theorem dX9_sendBits_26 : decode cX9_sendBits 26 = .ok (.iload_n 2, 1) := by decide +kernel
theorem dX9_sendBits_27 : decode cX9_sendBits 27 = .ok (.iconst 3, 1) := by decide +kernel
theorem dX9_sendBits_28 : decode cX9_sendBits 28 = .ok (.idiv, 1) := by decide +kernel
theorem dX9_sendBits_29 : decode cX9_sendBits 29 = .ok (.iaload, 1) := by decide +kernel
theorem dX9_sendBits_30 : decode cX9_sendBits 30 = .ok (.ixor, 1) := by decide +kernel
theorem dX9_sendBits_31 : decode cX9_sendBits 31 = .ok (.invokevirtual 125, 3) := by decide +kernel
theorem dX9_sendBits_34 : decode cX9_sendBits 34 = .ok (.iinc 2 1, 3) := by decide +kernel
theorem dX9_sendBits_37 : decode cX9_sendBits 37 = .ok (.goto (-30), 3) := by decide +kernel
theorem dX9_sendBits_40 : decode cX9_sendBits 40 = .ok (.iload_n 1, 1) := by decide +kernel
theorem dX9_sendBits_41 : decode cX9_sendBits 41 = .ok (.iconst 3, 1) := by decide +kernel
theorem dX9_sendBits_42 : decode cX9_sendBits 42 = .ok (.if_icmp .ge 4, 3) := by decide +kernel
theorem dX9_sendBits_45 : decode cX9_sendBits 45 = .ok (.return_, 1) := by decide +kernel
theorem dX9_sendBits_46 : decode cX9_sendBits 46 = .ok (.aload_n 0, 1) := by decide +kernel
theorem dX9_sendBits_47 : decode cX9_sendBits 47 = .ok (.getfield 103, 3) := by decide +kernel
theorem dX9_sendBits_50 : decode cX9_sendBits 50 = .ok (.bipush 18, 2) := by decide +kernel
theorem dX9_sendBits_52 : decode cX9_sendBits 52 = .ok (.isub, 1) := by decide +kernel
theorem dX9_sendBits_53 : decode cX9_sendBits 53 = .ok (.istore_n 2, 1) := by decide +kernel
theorem dX9_sendBits_54 : decode cX9_sendBits 54 = .ok (.iconst 0, 1) := by decide +kernel
theorem dX9_sendBits_55 : decode cX9_sendBits 55 = .ok (.istore_n 3, 1) := by decide +kernel
theorem dX9_sendBits_56 : decode cX9_sendBits 56 = .ok (.iload_n 3, 1) := by decide +kernel
theorem dX9_sendBits_57 : decode cX9_sendBits 57 = .ok (.iload_n 2, 1) := by decide +kernel
theorem dX9_sendBits_58 : decode cX9_sendBits 58 = .ok (.if_icmp .ge 34, 3) := by decide +kernel
theorem dX9_sendBits_61 : decode cX9_sendBits 61 = .ok (.aload_n 0, 1) := by decide +kernel
theorem dX9_sendBits_62 : decode cX9_sendBits 62 = .ok (.getfield 16, 3) := by decide +kernel
theorem dX9_sendBits_65 : decode cX9_sendBits 65 = .ok (.iload_n 3, 1) := by decide +kernel
theorem dX9_sendBits_66 : decode cX9_sendBits 66 = .ok (.aload_n 0, 1) := by decide +kernel
theorem dX9_sendBits_67 : decode cX9_sendBits 67 = .ok (.getfield 16, 3) := by decide +kernel
theorem dX9_sendBits_70 : decode cX9_sendBits 70 = .ok (.bipush 18, 2) := by decide +kernel
theorem dX9_sendBits_72 : decode cX9_sendBits 72 = .ok (.iload_n 3, 1) := by decide +kernel
theorem dX9_sendBits_73 : decode cX9_sendBits 73 = .ok (.iadd, 1) := by decide +kernel
theorem dX9_sendBits_74 : decode cX9_sendBits 74 = .ok (.iaload, 1) := by decide +kernel
theorem dX9_sendBits_75 : decode cX9_sendBits 75 = .ok (.aload_n 0, 1) := by decide +kernel
theorem dX9_sendBits_76 : decode cX9_sendBits 76 = .ok (.getfield 13, 3) := by decide +kernel
theorem dX9_sendBits_79 : decode cX9_sendBits 79 = .ok (.bipush 18, 2) := by decide +kernel
theorem dX9_sendBits_81 : decode cX9_sendBits 81 = .ok (.iload_n 3, 1) := by decide +kernel
theorem dX9_sendBits_82 : decode cX9_sendBits 82 = .ok (.iadd, 1) := by decide +kernel
theorem dX9_sendBits_83 : decode cX9_sendBits 83 = .ok (.iaload, 1) := by decide +kernel
theorem dX9_sendBits_84 : decode cX9_sendBits 84 = .ok (.ixor, 1) := by decide +kernel
theorem dX9_sendBits_85 : decode cX9_sendBits 85 = .ok (.iastore, 1) := by decide +kernel
theorem dX9_sendBits_86 : decode cX9_sendBits 86 = .ok (.iinc 3 1, 3) := by decide +kernel
theorem dX9_sendBits_89 : decode cX9_sendBits 89 = .ok (.goto (-33), 3) := by decide +kernel
theorem dX9_sendBits_92 : decode cX9_sendBits 92 = .ok (.iload_n 1, 1) := by decide +kernel
theorem dX9_sendBits_93 : decode cX9_sendBits 93 = .ok (.iconst 4, 1) := by decide +kernel
theorem dX9_sendBits_94 : decode cX9_sendBits 94 = .ok (.if_icmp .ne 27, 3) := by decide +kernel
theorem dX9_sendBits_97 : decode cX9_sendBits 97 = .ok (.iconst 0, 1) := by decide +kernel
theorem dX9_sendBits_98 : decode cX9_sendBits 98 = .ok (.istore_n 3, 1) := by decide +kernel
theorem dX9_sendBits_99 : decode cX9_sendBits 99 = .ok (.iload_n 3, 1) := by decide +kernel
theorem dX9_sendBits_100 : decode cX9_sendBits 100 = .ok (.iload_n 2, 1) := by decide +kernel
theorem dX9_sendBits_101 : decode cX9_sendBits 101 = .ok (.if_icmp .ge 19, 3) := by decide +kernel
theorem dX9_sendBits_104 : decode cX9_sendBits 104 = .ok (.aload_n 0, 1) := by decide +kernel
theorem dX9_sendBits_105 : decode cX9_sendBits 105 = .ok (.aload_n 0, 1) := by decide +kernel
theorem dX9_sendBits_106 : decode cX9_sendBits 106 = .ok (.getfield 16, 3) := by decide +kernel
theorem dX9_sendBits_109 : decode cX9_sendBits 109 = .ok (.iload_n 3, 1) := by decide +kernel
theorem dX9_sendBits_110 : decode cX9_sendBits 110 = .ok (.iaload, 1) := by decide +kernel
theorem dX9_sendBits_111 : decode cX9_sendBits 111 = .ok (.invokevirtual 125, 3) := by decide +kernel
theorem dX9_sendBits_114 : decode cX9_sendBits 114 = .ok (.iinc 3 1, 3) := by decide +kernel
theorem dX9_sendBits_117 : decode cX9_sendBits 117 = .ok (.goto (-18), 3) := by decide +kernel
theorem dX9_sendBits_120 : decode cX9_sendBits 120 = .ok (.return_, 1) := by decide +kernel
theorem dX9_sendBits_121 : decode cX9_sendBits 121 = .ok (.iload_n 2, 1) := by decide +kernel
theorem dX9_sendBits_122 : decode cX9_sendBits 122 = .ok (.bipush 9, 2) := by decide +kernel
theorem dX9_sendBits_124 : decode cX9_sendBits 124 = .ok (.iadd, 1) := by decide +kernel
theorem dX9_sendBits_125 : decode cX9_sendBits 125 = .ok (.bipush 10, 2) := by decide +kernel
theorem dX9_sendBits_127 : decode cX9_sendBits 127 = .ok (.idiv, 1) := by decide +kernel
theorem dX9_sendBits_128 : decode cX9_sendBits 128 = .ok (.istore_n 3, 1) := by decide +kernel
theorem dX9_sendBits_129 : decode cX9_sendBits 129 = .ok (.iload_n 2, 1) := by decide +kernel
theorem dX9_sendBits_130 : decode cX9_sendBits 130 = .ok (.istore 4, 2) := by decide +kernel
theorem dX9_sendBits_132 : decode cX9_sendBits 132 = .ok (.iload 4, 2) := by decide +kernel
theorem dX9_sendBits_134 : decode cX9_sendBits 134 = .ok (.bipush 10, 2) := by decide +kernel
theorem dX9_sendBits_136 : decode cX9_sendBits 136 = .ok (.iload_n 3, 1) := by decide +kernel
theorem dX9_sendBits_137 : decode cX9_sendBits 137 = .ok (.imul, 1) := by decide +kernel
theorem dX9_sendBits_138 : decode cX9_sendBits 138 = .ok (.if_icmp .ge 17, 3) := by decide +kernel
theorem dX9_sendBits_141 : decode cX9_sendBits 141 = .ok (.aload_n 0, 1) := by decide +kernel
theorem dX9_sendBits_142 : decode cX9_sendBits 142 = .ok (.getfield 16, 3) := by decide +kernel
theorem dX9_sendBits_145 : decode cX9_sendBits 145 = .ok (.iload 4, 2) := by decide +kernel
theorem dX9_sendBits_147 : decode cX9_sendBits 147 = .ok (.iconst 0, 1) := by decide +kernel
theorem dX9_sendBits_148 : decode cX9_sendBits 148 = .ok (.iastore, 1) := by decide +kernel
theorem dX9_sendBits_149 : decode cX9_sendBits 149 = .ok (.iinc 4 1, 3) := by decide +kernel
theorem dX9_sendBits_152 : decode cX9_sendBits 152 = .ok (.goto (-20), 3) := by decide +kernel
theorem dX9_sendBits_155 : decode cX9_sendBits 155 = .ok (.iconst 0, 1) := by decide +kernel
theorem dX9_sendBits_156 : decode cX9_sendBits 156 = .ok (.istore 4, 2) := by decide +kernel
theorem dX9_sendBits_158 : decode cX9_sendBits 158 = .ok (.iload 4, 2) := by decide +kernel
theorem dX9_sendBits_160 : decode cX9_sendBits 160 = .ok (.iload_n 3, 1) := by decide +kernel
theorem dX9_sendBits_161 : decode cX9_sendBits 161 = .ok (.if_icmp .ge 89, 3) := by decide +kernel
theorem dX9_sendBits_164 : decode cX9_sendBits 164 = .ok (.iconst 0, 1) := by decide +kernel
theorem dX9_sendBits_165 : decode cX9_sendBits 165 = .ok (.istore 5, 2) := by decide +kernel
theorem dX9_sendBits_167 : decode cX9_sendBits 167 = .ok (.iload 5, 2) := by decide +kernel
theorem dX9_sendBits_169 : decode cX9_sendBits 169 = .ok (.bipush 10, 2) := by decide +kernel
theorem dX9_sendBits_171 : decode cX9_sendBits 171 = .ok (.if_icmp .ge 26, 3) := by decide +kernel
theorem dX9_sendBits_174 : decode cX9_sendBits 174 = .ok (.aload_n 0, 1) := by decide +kernel
theorem dX9_sendBits_175 : decode cX9_sendBits 175 = .ok (.aload_n 0, 1) := by decide +kernel
theorem dX9_sendBits_176 : decode cX9_sendBits 176 = .ok (.getfield 16, 3) := by decide +kernel
theorem dX9_sendBits_179 : decode cX9_sendBits 179 = .ok (.bipush 10, 2) := by decide +kernel
theorem dX9_sendBits_181 : decode cX9_sendBits 181 = .ok (.iload 4, 2) := by decide +kernel
theorem dX9_sendBits_183 : decode cX9_sendBits 183 = .ok (.imul, 1) := by decide +kernel
theorem dX9_sendBits_184 : decode cX9_sendBits 184 = .ok (.iload 5, 2) := by decide +kernel
theorem dX9_sendBits_186 : decode cX9_sendBits 186 = .ok (.iadd, 1) := by decide +kernel
theorem dX9_sendBits_187 : decode cX9_sendBits 187 = .ok (.iaload, 1) := by decide +kernel
theorem dX9_sendBits_188 : decode cX9_sendBits 188 = .ok (.invokevirtual 125, 3) := by decide +kernel
theorem dX9_sendBits_191 : decode cX9_sendBits 191 = .ok (.iinc 5 1, 3) := by decide +kernel
theorem dX9_sendBits_194 : decode cX9_sendBits 194 = .ok (.goto (-27), 3) := by decide +kernel
theorem dX9_sendBits_197 : decode cX9_sendBits 197 = .ok (.aload_n 0, 1) := by decide +kernel
theorem dX9_sendBits_198 : decode cX9_sendBits 198 = .ok (.bipush 10, 2) := by decide +kernel
theorem dX9_sendBits_200 : decode cX9_sendBits 200 = .ok (.iload 4, 2) := by decide +kernel
theorem dX9_sendBits_202 : decode cX9_sendBits 202 = .ok (.imul, 1) := by decide +kernel
theorem dX9_sendBits_203 : decode cX9_sendBits 203 = .ok (.bipush 10, 2) := by decide +kernel
theorem dX9_sendBits_205 : decode cX9_sendBits 205 = .ok (.iload 4, 2) := by decide +kernel
theorem dX9_sendBits_207 : decode cX9_sendBits 207 = .ok (.imul, 1) := by decide +kernel
theorem dX9_sendBits_208 : decode cX9_sendBits 208 = .ok (.bipush 10, 2) := by decide +kernel
theorem dX9_sendBits_210 : decode cX9_sendBits 210 = .ok (.iadd, 1) := by decide +kernel
theorem dX9_sendBits_211 : decode cX9_sendBits 211 = .ok (.bipush 53, 2) := by decide +kernel
theorem dX9_sendBits_213 : decode cX9_sendBits 213 = .ok (.iconst 5, 1) := by decide +kernel
theorem dX9_sendBits_214 : decode cX9_sendBits 214 = .ok (.invokevirtual 110, 3) := by decide +kernel
theorem dX9_sendBits_217 : decode cX9_sendBits 217 = .ok (.istore 5, 2) := by decide +kernel
theorem dX9_sendBits_219 : decode cX9_sendBits 219 = .ok (.iconst 4, 1) := by decide +kernel
theorem dX9_sendBits_220 : decode cX9_sendBits 220 = .ok (.istore 6, 2) := by decide +kernel
theorem dX9_sendBits_222 : decode cX9_sendBits 222 = .ok (.iload 6, 2) := by decide +kernel
theorem dX9_sendBits_224 : decode cX9_sendBits 224 = .ok (.ifCond .lt 20, 3) := by decide +kernel
theorem dX9_sendBits_227 : decode cX9_sendBits 227 = .ok (.aload_n 0, 1) := by decide +kernel
theorem dX9_sendBits_228 : decode cX9_sendBits 228 = .ok (.iload 5, 2) := by decide +kernel
theorem dX9_sendBits_230 : decode cX9_sendBits 230 = .ok (.iload 6, 2) := by decide +kernel
theorem dX9_sendBits_232 : decode cX9_sendBits 232 = .ok (.ishr, 1) := by decide +kernel
theorem dX9_sendBits_233 : decode cX9_sendBits 233 = .ok (.iconst 1, 1) := by decide +kernel
theorem dX9_sendBits_234 : decode cX9_sendBits 234 = .ok (.iand, 1) := by decide +kernel
theorem dX9_sendBits_235 : decode cX9_sendBits 235 = .ok (.invokevirtual 125, 3) := by decide +kernel
theorem dX9_sendBits_238 : decode cX9_sendBits 238 = .ok (.iinc 6 (-1), 3) := by decide +kernel
theorem dX9_sendBits_241 : decode cX9_sendBits 241 = .ok (.goto (-19), 3) := by decide +kernel
theorem dX9_sendBits_244 : decode cX9_sendBits 244 = .ok (.iinc 4 1, 3) := by decide +kernel
theorem dX9_sendBits_247 : decode cX9_sendBits 247 = .ok (.goto (-89), 3) := by decide +kernel
theorem dX9_sendBits_250 : decode cX9_sendBits 250 = .ok (.return_, 1) := by decide +kernel
theorem dX9_push_0 : decode cX9_push 0 = .ok (.aload_n 0, 1) := by decide +kernel
theorem dX9_push_1 : decode cX9_push 1 = .ok (.getfield 7, 3) := by decide +kernel
theorem dX9_push_4 : decode cX9_push 4 = .ok (.aload_n 0, 1) := by decide +kernel
theorem dX9_push_5 : decode cX9_push 5 = .ok (.getfield 122, 3) := by decide +kernel
theorem dX9_push_8 : decode cX9_push 8 = .ok (.iload_n 1, 1) := by decide +kernel
theorem dX9_push_9 : decode cX9_push 9 = .ok (.iastore, 1) := by decide +kernel
theorem dX9_push_10 : decode cX9_push 10 = .ok (.aload_n 0, 1) := by decide +kernel
theorem dX9_push_11 : decode cX9_push 11 = .ok (.dup, 1) := by decide +kernel
theorem dX9_push_12 : decode cX9_push 12 = .ok (.getfield 122, 3) := by decide +kernel
theorem dX9_push_15 : decode cX9_push 15 = .ok (.iconst 1, 1) := by decide +kernel
theorem dX9_push_16 : decode cX9_push 16 = .ok (.iadd, 1) := by decide +kernel
theorem dX9_push_17 : decode cX9_push 17 = .ok (.putfield 122, 3) := by decide +kernel
theorem dX9_push_20 : decode cX9_push 20 = .ok (.return_, 1) := by decide +kernel
theorem dX9_speak_0 : decode cX9_speak 0 = .ok (.aload_n 0, 1) := by decide +kernel
theorem dX9_speak_1 : decode cX9_speak 1 = .ok (.getfield 25, 3) := by decide +kernel
theorem dX9_speak_4 : decode cX9_speak 4 = .ok (.iload_n 1, 1) := by decide +kernel
theorem dX9_speak_5 : decode cX9_speak 5 = .ok (.iaload, 1) := by decide +kernel
theorem dX9_speak_6 : decode cX9_speak 6 = .ok (.ifCond .gt 18, 3) := by decide +kernel
theorem dX9_speak_9 : decode cX9_speak 9 = .ok (.aload_n 0, 1) := by decide +kernel
theorem dX9_speak_10 : decode cX9_speak 10 = .ok (.getfield 37, 3) := by decide +kernel
theorem dX9_speak_13 : decode cX9_speak 13 = .ok (.iload_n 1, 1) := by decide +kernel
theorem dX9_speak_14 : decode cX9_speak 14 = .ok (.iaload, 1) := by decide +kernel
theorem dX9_speak_15 : decode cX9_speak 15 = .ok (.aload_n 0, 1) := by decide +kernel
theorem dX9_speak_16 : decode cX9_speak 16 = .ok (.getfield 34, 3) := by decide +kernel
theorem dX9_speak_19 : decode cX9_speak 19 = .ok (.iload_n 1, 1) := by decide +kernel
theorem dX9_speak_20 : decode cX9_speak 20 = .ok (.iaload, 1) := by decide +kernel
theorem dX9_speak_21 : decode cX9_speak 21 = .ok (.if_icmp .ge 7, 3) := by decide +kernel
theorem dX9_speak_24 : decode cX9_speak 24 = .ok (.iconst 1, 1) := by decide +kernel
theorem dX9_speak_25 : decode cX9_speak 25 = .ok (.goto 4, 3) := by decide +kernel
theorem dX9_speak_28 : decode cX9_speak 28 = .ok (.iconst 0, 1) := by decide +kernel
theorem dX9_speak_29 : decode cX9_speak 29 = .ok (.istore_n 2, 1) := by decide +kernel
theorem dX9_speak_30 : decode cX9_speak 30 = .ok (.aload_n 0, 1) := by decide +kernel
theorem dX9_speak_31 : decode cX9_speak 31 = .ok (.getfield 43, 3) := by decide +kernel
theorem dX9_speak_34 : decode cX9_speak 34 = .ok (.iload_n 1, 1) := by decide +kernel
theorem dX9_speak_35 : decode cX9_speak 35 = .ok (.iaload, 1) := by decide +kernel
theorem dX9_speak_36 : decode cX9_speak 36 = .ok (.ifCond .ne 12, 3) := by decide +kernel
theorem dX9_speak_39 : decode cX9_speak 39 = .ok (.iload_n 2, 1) := by decide +kernel
theorem dX9_speak_40 : decode cX9_speak 40 = .ok (.ifCond .eq 8, 3) := by decide +kernel
theorem dX9_speak_43 : decode cX9_speak 43 = .ok (.aload_n 0, 1) := by decide +kernel
theorem dX9_speak_44 : decode cX9_speak 44 = .ok (.iload_n 1, 1) := by decide +kernel
theorem dX9_speak_45 : decode cX9_speak 45 = .ok (.invokevirtual 128, 3) := by decide +kernel
theorem dX9_speak_48 : decode cX9_speak 48 = .ok (.aload_n 0, 1) := by decide +kernel
theorem dX9_speak_49 : decode cX9_speak 49 = .ok (.getfield 43, 3) := by decide +kernel
theorem dX9_speak_52 : decode cX9_speak 52 = .ok (.iload_n 1, 1) := by decide +kernel
theorem dX9_speak_53 : decode cX9_speak 53 = .ok (.iaload, 1) := by decide +kernel
theorem dX9_speak_54 : decode cX9_speak 54 = .ok (.ifCond .le 12, 3) := by decide +kernel
theorem dX9_speak_57 : decode cX9_speak 57 = .ok (.aload_n 0, 1) := by decide +kernel
theorem dX9_speak_58 : decode cX9_speak 58 = .ok (.getfield 46, 3) := by decide +kernel
theorem dX9_speak_61 : decode cX9_speak 61 = .ok (.iload_n 1, 1) := by decide +kernel
theorem dX9_speak_62 : decode cX9_speak 62 = .ok (.iaload, 1) := by decide +kernel
theorem dX9_speak_63 : decode cX9_speak 63 = .ok (.goto 6, 3) := by decide +kernel
theorem dX9_speak_66 : decode cX9_speak 66 = .ok (.iload_n 1, 1) := by decide +kernel
theorem dX9_speak_67 : decode cX9_speak 67 = .ok (.iconst 1, 1) := by decide +kernel
theorem dX9_speak_68 : decode cX9_speak 68 = .ok (.iadd, 1) := by decide +kernel
theorem dX9_speak_69 : decode cX9_speak 69 = .ok (.istore_n 3, 1) := by decide +kernel
theorem dX9_speak_70 : decode cX9_speak 70 = .ok (.aload_n 0, 1) := by decide +kernel
theorem dX9_speak_71 : decode cX9_speak 71 = .ok (.aload_n 0, 1) := by decide +kernel
theorem dX9_speak_72 : decode cX9_speak 72 = .ok (.getfield 131, 3) := by decide +kernel
theorem dX9_speak_75 : decode cX9_speak 75 = .ok (.invokevirtual 134, 3) := by decide +kernel
theorem dX9_speak_78 : decode cX9_speak 78 = .ok (.aload_n 0, 1) := by decide +kernel
theorem dX9_speak_79 : decode cX9_speak 79 = .ok (.iconst 0, 1) := by decide +kernel
theorem dX9_speak_80 : decode cX9_speak 80 = .ok (.putfield 103, 3) := by decide +kernel
theorem dX9_speak_83 : decode cX9_speak 83 = .ok (.aload_n 0, 1) := by decide +kernel
theorem dX9_speak_84 : decode cX9_speak 84 = .ok (.aload_n 0, 1) := by decide +kernel
theorem dX9_speak_85 : decode cX9_speak 85 = .ok (.getfield 95, 3) := by decide +kernel
theorem dX9_speak_88 : decode cX9_speak 88 = .ok (.iconst 3, 1) := by decide +kernel
theorem dX9_speak_89 : decode cX9_speak 89 = .ok (.invokevirtual 114, 3) := by decide +kernel
theorem dX9_speak_92 : decode cX9_speak 92 = .ok (.aload_n 0, 1) := by decide +kernel
theorem dX9_speak_93 : decode cX9_speak 93 = .ok (.iload_n 3, 1) := by decide +kernel
theorem dX9_speak_94 : decode cX9_speak 94 = .ok (.iconst 4, 1) := by decide +kernel
theorem dX9_speak_95 : decode cX9_speak 95 = .ok (.invokevirtual 114, 3) := by decide +kernel
theorem dX9_speak_98 : decode cX9_speak 98 = .ok (.aload_n 0, 1) := by decide +kernel
theorem dX9_speak_99 : decode cX9_speak 99 = .ok (.iconst 1, 1) := by decide +kernel
theorem dX9_speak_100 : decode cX9_speak 100 = .ok (.iconst 1, 1) := by decide +kernel
theorem dX9_speak_101 : decode cX9_speak 101 = .ok (.invokevirtual 114, 3) := by decide +kernel
theorem dX9_speak_104 : decode cX9_speak 104 = .ok (.aload_n 0, 1) := by decide +kernel
theorem dX9_speak_105 : decode cX9_speak 105 = .ok (.aload_n 0, 1) := by decide +kernel
theorem dX9_speak_106 : decode cX9_speak 106 = .ok (.getfield 83, 3) := by decide +kernel
theorem dX9_speak_109 : decode cX9_speak 109 = .ok (.iload_n 1, 1) := by decide +kernel
theorem dX9_speak_110 : decode cX9_speak 110 = .ok (.baload, 1) := by decide +kernel
theorem dX9_speak_111 : decode cX9_speak 111 = .ok (.ifCond .eq 7, 3) := by decide +kernel
theorem dX9_speak_114 : decode cX9_speak 114 = .ok (.iconst 1, 1) := by decide +kernel
theorem dX9_speak_115 : decode cX9_speak 115 = .ok (.goto 4, 3) := by decide +kernel
theorem dX9_speak_118 : decode cX9_speak 118 = .ok (.iconst 0, 1) := by decide +kernel
theorem dX9_speak_119 : decode cX9_speak 119 = .ok (.iconst 1, 1) := by decide +kernel
theorem dX9_speak_120 : decode cX9_speak 120 = .ok (.invokevirtual 114, 3) := by decide +kernel
theorem dX9_speak_123 : decode cX9_speak 123 = .ok (.aload_n 0, 1) := by decide +kernel
theorem dX9_speak_124 : decode cX9_speak 124 = .ok (.aload_n 0, 1) := by decide +kernel
theorem dX9_speak_125 : decode cX9_speak 125 = .ok (.getfield 77, 3) := by decide +kernel
theorem dX9_speak_128 : decode cX9_speak 128 = .ok (.iload_n 1, 1) := by decide +kernel
theorem dX9_speak_129 : decode cX9_speak 129 = .ok (.iaload, 1) := by decide +kernel
theorem dX9_speak_130 : decode cX9_speak 130 = .ok (.iconst 1, 1) := by decide +kernel
theorem dX9_speak_131 : decode cX9_speak 131 = .ok (.invokevirtual 114, 3) := by decide +kernel
theorem dX9_speak_134 : decode cX9_speak 134 = .ok (.aload_n 0, 1) := by decide +kernel
theorem dX9_speak_135 : decode cX9_speak 135 = .ok (.iconst 0, 1) := by decide +kernel
theorem dX9_speak_136 : decode cX9_speak 136 = .ok (.bipush 10, 2) := by decide +kernel
theorem dX9_speak_138 : decode cX9_speak 138 = .ok (.sipush 423, 3) := by decide +kernel
theorem dX9_speak_141 : decode cX9_speak 141 = .ok (.bipush 8, 2) := by decide +kernel
theorem dX9_speak_143 : decode cX9_speak 143 = .ok (.invokevirtual 137, 3) := by decide +kernel
theorem dX9_speak_146 : decode cX9_speak 146 = .ok (.iload_n 3, 1) := by decide +kernel
theorem dX9_speak_147 : decode cX9_speak 147 = .ok (.iconst 2, 1) := by decide +kernel
theorem dX9_speak_148 : decode cX9_speak 148 = .ok (.if_icmp .le 84, 3) := by decide +kernel
theorem dX9_speak_151 : decode cX9_speak 151 = .ok (.aload_n 0, 1) := by decide +kernel
theorem dX9_speak_152 : decode cX9_speak 152 = .ok (.iconst 4, 1) := by decide +kernel
theorem dX9_speak_153 : decode cX9_speak 153 = .ok (.aload_n 0, 1) := by decide +kernel
theorem dX9_speak_154 : decode cX9_speak 154 = .ok (.getfield 43, 3) := by decide +kernel
theorem dX9_speak_157 : decode cX9_speak 157 = .ok (.iload_n 1, 1) := by decide +kernel
theorem dX9_speak_158 : decode cX9_speak 158 = .ok (.iaload, 1) := by decide +kernel
theorem dX9_speak_159 : decode cX9_speak 159 = .ok (.imul, 1) := by decide +kernel
theorem dX9_speak_160 : decode cX9_speak 160 = .ok (.aload_n 0, 1) := by decide +kernel
theorem dX9_speak_161 : decode cX9_speak 161 = .ok (.getfield 49, 3) := by decide +kernel
theorem dX9_speak_164 : decode cX9_speak 164 = .ok (.iload_n 1, 1) := by decide +kernel
theorem dX9_speak_165 : decode cX9_speak 165 = .ok (.baload, 1) := by decide +kernel
theorem dX9_speak_166 : decode cX9_speak 166 = .ok (.ifCond .eq 7, 3) := by decide +kernel
theorem dX9_speak_169 : decode cX9_speak 169 = .ok (.iconst 2, 1) := by decide +kernel
theorem dX9_speak_170 : decode cX9_speak 170 = .ok (.goto 4, 3) := by decide +kernel
theorem dX9_speak_173 : decode cX9_speak 173 = .ok (.iconst 1, 1) := by decide +kernel
theorem dX9_speak_174 : decode cX9_speak 174 = .ok (.iadd, 1) := by decide +kernel
theorem dX9_speak_175 : decode cX9_speak 175 = .ok (.bipush 8, 2) := by decide +kernel
theorem dX9_speak_177 : decode cX9_speak 177 = .ok (.invokevirtual 114, 3) := by decide +kernel
theorem dX9_speak_180 : decode cX9_speak 180 = .ok (.iconst 0, 1) := by decide +kernel
theorem dX9_speak_181 : decode cX9_speak 181 = .ok (.istore 4, 2) := by decide +kernel
theorem dX9_speak_183 : decode cX9_speak 183 = .ok (.iload 4, 2) := by decide +kernel
theorem dX9_speak_185 : decode cX9_speak 185 = .ok (.aload_n 0, 1) := by decide +kernel
theorem dX9_speak_186 : decode cX9_speak 186 = .ok (.getfield 43, 3) := by decide +kernel
theorem dX9_speak_189 : decode cX9_speak 189 = .ok (.iload_n 1, 1) := by decide +kernel
theorem dX9_speak_190 : decode cX9_speak 190 = .ok (.iaload, 1) := by decide +kernel
theorem dX9_speak_191 : decode cX9_speak 191 = .ok (.if_icmp .ge 27, 3) := by decide +kernel
theorem dX9_speak_194 : decode cX9_speak 194 = .ok (.aload_n 0, 1) := by decide +kernel
theorem dX9_speak_195 : decode cX9_speak 195 = .ok (.aload_n 0, 1) := by decide +kernel
theorem dX9_speak_196 : decode cX9_speak 196 = .ok (.getfield 53, 3) := by decide +kernel
theorem dX9_speak_199 : decode cX9_speak 199 = .ok (.bipush 13, 2) := by decide +kernel
theorem dX9_speak_201 : decode cX9_speak 201 = .ok (.iload_n 1, 1) := by decide +kernel
theorem dX9_speak_202 : decode cX9_speak 202 = .ok (.imul, 1) := by decide +kernel
theorem dX9_speak_203 : decode cX9_speak 203 = .ok (.iload 4, 2) := by decide +kernel
theorem dX9_speak_205 : decode cX9_speak 205 = .ok (.iadd, 1) := by decide +kernel
theorem dX9_speak_206 : decode cX9_speak 206 = .ok (.iaload, 1) := by decide +kernel
theorem dX9_speak_207 : decode cX9_speak 207 = .ok (.bipush 8, 2) := by decide +kernel
theorem dX9_speak_209 : decode cX9_speak 209 = .ok (.invokevirtual 114, 3) := by decide +kernel
theorem dX9_speak_212 : decode cX9_speak 212 = .ok (.iinc 4 1, 3) := by decide +kernel
theorem dX9_speak_215 : decode cX9_speak 215 = .ok (.goto (-32), 3) := by decide +kernel
theorem dX9_speak_218 : decode cX9_speak 218 = .ok (.aload_n 0, 1) := by decide +kernel
theorem dX9_speak_219 : decode cX9_speak 219 = .ok (.bipush 18, 2) := by decide +kernel
theorem dX9_speak_221 : decode cX9_speak 221 = .ok (.aload_n 0, 1) := by decide +kernel
theorem dX9_speak_222 : decode cX9_speak 222 = .ok (.getfield 103, 3) := by decide +kernel
theorem dX9_speak_225 : decode cX9_speak 225 = .ok (.ldc 141, 2) := by decide +kernel
theorem dX9_speak_227 : decode cX9_speak 227 = .ok (.bipush 16, 2) := by decide +kernel
theorem dX9_speak_229 : decode cX9_speak 229 = .ok (.invokevirtual 137, 3) := by decide +kernel
theorem dX9_speak_232 : decode cX9_speak 232 = .ok (.aload_n 0, 1) := by decide +kernel
theorem dX9_speak_233 : decode cX9_speak 233 = .ok (.iload_n 3, 1) := by decide +kernel
theorem dX9_speak_234 : decode cX9_speak 234 = .ok (.invokevirtual 142, 3) := by decide +kernel
theorem dX9_speak_237 : decode cX9_speak 237 = .ok (.aload_n 0, 1) := by decide +kernel
theorem dX9_speak_238 : decode cX9_speak 238 = .ok (.getfield 83, 3) := by decide +kernel
theorem dX9_speak_241 : decode cX9_speak 241 = .ok (.iload_n 1, 1) := by decide +kernel
theorem dX9_speak_242 : decode cX9_speak 242 = .ok (.iconst 0, 1) := by decide +kernel
theorem dX9_speak_243 : decode cX9_speak 243 = .ok (.bastore, 1) := by decide +kernel
theorem dX9_speak_244 : decode cX9_speak 244 = .ok (.aload_n 0, 1) := by decide +kernel
theorem dX9_speak_245 : decode cX9_speak 245 = .ok (.getfield 86, 3) := by decide +kernel
theorem dX9_speak_248 : decode cX9_speak 248 = .ok (.iload_n 1, 1) := by decide +kernel
theorem dX9_speak_249 : decode cX9_speak 249 = .ok (.iconst 0, 1) := by decide +kernel
theorem dX9_speak_250 : decode cX9_speak 250 = .ok (.bastore, 1) := by decide +kernel
theorem dX9_speak_251 : decode cX9_speak 251 = .ok (.iload_n 3, 1) := by decide +kernel
theorem dX9_speak_252 : decode cX9_speak 252 = .ok (.ireturn, 1) := by decide +kernel
theorem dX9_slot_0 : decode cX9_slot 0 = .ok (.aload_n 0, 1) := by decide +kernel
theorem dX9_slot_1 : decode cX9_slot 1 = .ok (.getfield 131, 3) := by decide +kernel
theorem dX9_slot_4 : decode cX9_slot 4 = .ok (.iconst 1, 1) := by decide +kernel
theorem dX9_slot_5 : decode cX9_slot 5 = .ok (.iand, 1) := by decide +kernel
theorem dX9_slot_6 : decode cX9_slot 6 = .ok (.istore_n 1, 1) := by decide +kernel
theorem dX9_slot_7 : decode cX9_slot 7 = .ok (.aload_n 0, 1) := by decide +kernel
theorem dX9_slot_8 : decode cX9_slot 8 = .ok (.iconst 0, 1) := by decide +kernel
theorem dX9_slot_9 : decode cX9_slot 9 = .ok (.putfield 122, 3) := by decide +kernel
theorem dX9_slot_12 : decode cX9_slot 12 = .ok (.iload_n 1, 1) := by decide +kernel
theorem dX9_slot_13 : decode cX9_slot 13 = .ok (.ifCond .eq 12, 3) := by decide +kernel
theorem dX9_slot_16 : decode cX9_slot 16 = .ok (.aload_n 0, 1) := by decide +kernel
theorem dX9_slot_17 : decode cX9_slot 17 = .ok (.getfield 86, 3) := by decide +kernel
theorem dX9_slot_20 : decode cX9_slot 20 = .ok (.iconst 1, 1) := by decide +kernel
theorem dX9_slot_21 : decode cX9_slot 21 = .ok (.baload, 1) := by decide +kernel
theorem dX9_slot_22 : decode cX9_slot 22 = .ok (.ifCond .eq 11, 3) := by decide +kernel
theorem dX9_slot_25 : decode cX9_slot 25 = .ok (.aload_n 0, 1) := by decide +kernel
theorem dX9_slot_26 : decode cX9_slot 26 = .ok (.iload_n 1, 1) := by decide +kernel
theorem dX9_slot_27 : decode cX9_slot 27 = .ok (.invokevirtual 145, 3) := by decide +kernel
theorem dX9_slot_30 : decode cX9_slot 30 = .ok (.goto 4, 3) := by decide +kernel
theorem dX9_slot_33 : decode cX9_slot 33 = .ok (.iconst 0, 1) := by decide +kernel
theorem dX9_slot_34 : decode cX9_slot 34 = .ok (.istore_n 2, 1) := by decide +kernel
theorem dX9_slot_35 : decode cX9_slot 35 = .ok (.aload_n 0, 1) := by decide +kernel
theorem dX9_slot_36 : decode cX9_slot 36 = .ok (.dup, 1) := by decide +kernel
theorem dX9_slot_37 : decode cX9_slot 37 = .ok (.getfield 131, 3) := by decide +kernel
theorem dX9_slot_40 : decode cX9_slot 40 = .ok (.iconst 1, 1) := by decide +kernel
theorem dX9_slot_41 : decode cX9_slot 41 = .ok (.iadd, 1) := by decide +kernel
theorem dX9_slot_42 : decode cX9_slot 42 = .ok (.putfield 131, 3) := by decide +kernel
theorem dX9_slot_45 : decode cX9_slot 45 = .ok (.iload_n 2, 1) := by decide +kernel
theorem dX9_slot_46 : decode cX9_slot 46 = .ok (.ireturn, 1) := by decide +kernel
theorem dX9_air_0 : decode cX9_air 0 = .ok (.iload_n 1, 1) := by decide +kernel
theorem dX9_air_1 : decode cX9_air 1 = .ok (.ifCond .lt 11, 3) := by decide +kernel
theorem dX9_air_4 : decode cX9_air 4 = .ok (.iload_n 1, 1) := by decide +kernel
theorem dX9_air_5 : decode cX9_air 5 = .ok (.aload_n 0, 1) := by decide +kernel
theorem dX9_air_6 : decode cX9_air 6 = .ok (.getfield 122, 3) := by decide +kernel
theorem dX9_air_9 : decode cX9_air 9 = .ok (.if_icmp .lt 7, 3) := by decide +kernel
theorem dX9_air_12 : decode cX9_air 12 = .ok (.iconst (-1), 1) := by decide +kernel
theorem dX9_air_13 : decode cX9_air 13 = .ok (.goto 9, 3) := by decide +kernel
theorem dX9_air_16 : decode cX9_air 16 = .ok (.aload_n 0, 1) := by decide +kernel
theorem dX9_air_17 : decode cX9_air 17 = .ok (.getfield 7, 3) := by decide +kernel
theorem dX9_air_20 : decode cX9_air 20 = .ok (.iload_n 1, 1) := by decide +kernel
theorem dX9_air_21 : decode cX9_air 21 = .ok (.iaload, 1) := by decide +kernel
theorem dX9_air_22 : decode cX9_air 22 = .ok (.ireturn, 1) := by decide +kernel
theorem dX9_flip_0 : decode cX9_flip 0 = .ok (.iload_n 1, 1) := by decide +kernel
theorem dX9_flip_1 : decode cX9_flip 1 = .ok (.ifCond .lt 11, 3) := by decide +kernel
theorem dX9_flip_4 : decode cX9_flip 4 = .ok (.iload_n 1, 1) := by decide +kernel
theorem dX9_flip_5 : decode cX9_flip 5 = .ok (.aload_n 0, 1) := by decide +kernel
theorem dX9_flip_6 : decode cX9_flip 6 = .ok (.getfield 122, 3) := by decide +kernel
theorem dX9_flip_9 : decode cX9_flip 9 = .ok (.if_icmp .lt 5, 3) := by decide +kernel
theorem dX9_flip_12 : decode cX9_flip 12 = .ok (.iconst (-1), 1) := by decide +kernel
theorem dX9_flip_13 : decode cX9_flip 13 = .ok (.ireturn, 1) := by decide +kernel
theorem dX9_flip_14 : decode cX9_flip 14 = .ok (.aload_n 0, 1) := by decide +kernel
theorem dX9_flip_15 : decode cX9_flip 15 = .ok (.getfield 7, 3) := by decide +kernel
theorem dX9_flip_18 : decode cX9_flip 18 = .ok (.iload_n 1, 1) := by decide +kernel
theorem dX9_flip_19 : decode cX9_flip 19 = .ok (.iconst 1, 1) := by decide +kernel
theorem dX9_flip_20 : decode cX9_flip 20 = .ok (.aload_n 0, 1) := by decide +kernel
theorem dX9_flip_21 : decode cX9_flip 21 = .ok (.getfield 7, 3) := by decide +kernel
theorem dX9_flip_24 : decode cX9_flip 24 = .ok (.iload_n 1, 1) := by decide +kernel
theorem dX9_flip_25 : decode cX9_flip 25 = .ok (.iaload, 1) := by decide +kernel
theorem dX9_flip_26 : decode cX9_flip 26 = .ok (.isub, 1) := by decide +kernel
theorem dX9_flip_27 : decode cX9_flip 27 = .ok (.iastore, 1) := by decide +kernel
theorem dX9_flip_28 : decode cX9_flip 28 = .ok (.iconst 0, 1) := by decide +kernel
theorem dX9_flip_29 : decode cX9_flip 29 = .ok (.ireturn, 1) := by decide +kernel
theorem dX9_headGood_0 : decode cX9_headGood 0 = .ok (.iconst 0, 1) := by decide +kernel
theorem dX9_headGood_1 : decode cX9_headGood 1 = .ok (.istore_n 1, 1) := by decide +kernel
theorem dX9_headGood_2 : decode cX9_headGood 2 = .ok (.iload_n 1, 1) := by decide +kernel
theorem dX9_headGood_3 : decode cX9_headGood 3 = .ok (.bipush 18, 2) := by decide +kernel
theorem dX9_headGood_5 : decode cX9_headGood 5 = .ok (.if_icmp .ge 63, 3) := by decide +kernel
theorem dX9_headGood_8 : decode cX9_headGood 8 = .ok (.aload_n 0, 1) := by decide +kernel
theorem dX9_headGood_9 : decode cX9_headGood 9 = .ok (.getfield 7, 3) := by decide +kernel
theorem dX9_headGood_12 : decode cX9_headGood 12 = .ok (.iconst 3, 1) := by decide +kernel
theorem dX9_headGood_13 : decode cX9_headGood 13 = .ok (.iload_n 1, 1) := by decide +kernel
theorem dX9_headGood_14 : decode cX9_headGood 14 = .ok (.imul, 1) := by decide +kernel
theorem dX9_headGood_15 : decode cX9_headGood 15 = .ok (.iaload, 1) := by decide +kernel
theorem dX9_headGood_16 : decode cX9_headGood 16 = .ok (.aload_n 0, 1) := by decide +kernel
theorem dX9_headGood_17 : decode cX9_headGood 17 = .ok (.getfield 7, 3) := by decide +kernel
theorem dX9_headGood_20 : decode cX9_headGood 20 = .ok (.iconst 3, 1) := by decide +kernel
theorem dX9_headGood_21 : decode cX9_headGood 21 = .ok (.iload_n 1, 1) := by decide +kernel
theorem dX9_headGood_22 : decode cX9_headGood 22 = .ok (.imul, 1) := by decide +kernel
theorem dX9_headGood_23 : decode cX9_headGood 23 = .ok (.iconst 1, 1) := by decide +kernel
theorem dX9_headGood_24 : decode cX9_headGood 24 = .ok (.iadd, 1) := by decide +kernel
theorem dX9_headGood_25 : decode cX9_headGood 25 = .ok (.iaload, 1) := by decide +kernel
theorem dX9_headGood_26 : decode cX9_headGood 26 = .ok (.iadd, 1) := by decide +kernel
theorem dX9_headGood_27 : decode cX9_headGood 27 = .ok (.aload_n 0, 1) := by decide +kernel
theorem dX9_headGood_28 : decode cX9_headGood 28 = .ok (.getfield 7, 3) := by decide +kernel
theorem dX9_headGood_31 : decode cX9_headGood 31 = .ok (.iconst 3, 1) := by decide +kernel
theorem dX9_headGood_32 : decode cX9_headGood 32 = .ok (.iload_n 1, 1) := by decide +kernel
theorem dX9_headGood_33 : decode cX9_headGood 33 = .ok (.imul, 1) := by decide +kernel
theorem dX9_headGood_34 : decode cX9_headGood 34 = .ok (.iconst 2, 1) := by decide +kernel
theorem dX9_headGood_35 : decode cX9_headGood 35 = .ok (.iadd, 1) := by decide +kernel
theorem dX9_headGood_36 : decode cX9_headGood 36 = .ok (.iaload, 1) := by decide +kernel
theorem dX9_headGood_37 : decode cX9_headGood 37 = .ok (.iadd, 1) := by decide +kernel
theorem dX9_headGood_38 : decode cX9_headGood 38 = .ok (.istore_n 2, 1) := by decide +kernel
theorem dX9_headGood_39 : decode cX9_headGood 39 = .ok (.aload_n 0, 1) := by decide +kernel
theorem dX9_headGood_40 : decode cX9_headGood 40 = .ok (.getfield 16, 3) := by decide +kernel
theorem dX9_headGood_43 : decode cX9_headGood 43 = .ok (.iload_n 1, 1) := by decide +kernel
theorem dX9_headGood_44 : decode cX9_headGood 44 = .ok (.iload_n 2, 1) := by decide +kernel
theorem dX9_headGood_45 : decode cX9_headGood 45 = .ok (.iconst 1, 1) := by decide +kernel
theorem dX9_headGood_46 : decode cX9_headGood 46 = .ok (.if_icmp .le 7, 3) := by decide +kernel
theorem dX9_headGood_49 : decode cX9_headGood 49 = .ok (.iconst 1, 1) := by decide +kernel
theorem dX9_headGood_50 : decode cX9_headGood 50 = .ok (.goto 4, 3) := by decide +kernel
theorem dX9_headGood_53 : decode cX9_headGood 53 = .ok (.iconst 0, 1) := by decide +kernel
theorem dX9_headGood_54 : decode cX9_headGood 54 = .ok (.aload_n 0, 1) := by decide +kernel
theorem dX9_headGood_55 : decode cX9_headGood 55 = .ok (.getfield 13, 3) := by decide +kernel
theorem dX9_headGood_58 : decode cX9_headGood 58 = .ok (.iload_n 1, 1) := by decide +kernel
theorem dX9_headGood_59 : decode cX9_headGood 59 = .ok (.iaload, 1) := by decide +kernel
theorem dX9_headGood_60 : decode cX9_headGood 60 = .ok (.ixor, 1) := by decide +kernel
theorem dX9_headGood_61 : decode cX9_headGood 61 = .ok (.iastore, 1) := by decide +kernel
theorem dX9_headGood_62 : decode cX9_headGood 62 = .ok (.iinc 1 1, 3) := by decide +kernel
theorem dX9_headGood_65 : decode cX9_headGood 65 = .ok (.goto (-63), 3) := by decide +kernel
theorem dX9_headGood_68 : decode cX9_headGood 68 = .ok (.aload_n 0, 1) := by decide +kernel
theorem dX9_headGood_69 : decode cX9_headGood 69 = .ok (.iconst 0, 1) := by decide +kernel
theorem dX9_headGood_70 : decode cX9_headGood 70 = .ok (.bipush 10, 2) := by decide +kernel
theorem dX9_headGood_72 : decode cX9_headGood 72 = .ok (.sipush 423, 3) := by decide +kernel
theorem dX9_headGood_75 : decode cX9_headGood 75 = .ok (.bipush 8, 2) := by decide +kernel
theorem dX9_headGood_77 : decode cX9_headGood 77 = .ok (.invokevirtual 149, 3) := by decide +kernel
theorem dX9_headGood_80 : decode cX9_headGood 80 = .ok (.ifCond .eq 45, 3) := by decide +kernel
theorem dX9_headGood_83 : decode cX9_headGood 83 = .ok (.aload_n 0, 1) := by decide +kernel
theorem dX9_headGood_84 : decode cX9_headGood 84 = .ok (.iconst 0, 1) := by decide +kernel
theorem dX9_headGood_85 : decode cX9_headGood 85 = .ok (.iconst 3, 1) := by decide +kernel
theorem dX9_headGood_86 : decode cX9_headGood 86 = .ok (.invokevirtual 153, 3) := by decide +kernel
theorem dX9_headGood_89 : decode cX9_headGood 89 = .ok (.aload_n 0, 1) := by decide +kernel
theorem dX9_headGood_90 : decode cX9_headGood 90 = .ok (.getfield 95, 3) := by decide +kernel
theorem dX9_headGood_93 : decode cX9_headGood 93 = .ok (.if_icmp .ne 32, 3) := by decide +kernel
theorem dX9_headGood_96 : decode cX9_headGood 96 = .ok (.aload_n 0, 1) := by decide +kernel
theorem dX9_headGood_97 : decode cX9_headGood 97 = .ok (.getfield 16, 3) := by decide +kernel
theorem dX9_headGood_100 : decode cX9_headGood 100 = .ok (.bipush 7, 2) := by decide +kernel
theorem dX9_headGood_102 : decode cX9_headGood 102 = .ok (.iaload, 1) := by decide +kernel
theorem dX9_headGood_103 : decode cX9_headGood 103 = .ok (.iconst 1, 1) := by decide +kernel
theorem dX9_headGood_104 : decode cX9_headGood 104 = .ok (.if_icmp .ne 21, 3) := by decide +kernel
theorem dX9_headGood_107 : decode cX9_headGood 107 = .ok (.aload_n 0, 1) := by decide +kernel
theorem dX9_headGood_108 : decode cX9_headGood 108 = .ok (.iconst 3, 1) := by decide +kernel
theorem dX9_headGood_109 : decode cX9_headGood 109 = .ok (.iconst 4, 1) := by decide +kernel
theorem dX9_headGood_110 : decode cX9_headGood 110 = .ok (.invokevirtual 153, 3) := by decide +kernel
theorem dX9_headGood_113 : decode cX9_headGood 113 = .ok (.iconst 1, 1) := by decide +kernel
theorem dX9_headGood_114 : decode cX9_headGood 114 = .ok (.iconst 4, 1) := by decide +kernel
theorem dX9_headGood_115 : decode cX9_headGood 115 = .ok (.invokestatic 99, 3) := by decide +kernel
theorem dX9_headGood_118 : decode cX9_headGood 118 = .ok (.ifCond .eq 7, 3) := by decide +kernel
theorem dX9_headGood_121 : decode cX9_headGood 121 = .ok (.iconst 1, 1) := by decide +kernel
theorem dX9_headGood_122 : decode cX9_headGood 122 = .ok (.goto 4, 3) := by decide +kernel
theorem dX9_headGood_125 : decode cX9_headGood 125 = .ok (.iconst 0, 1) := by decide +kernel
theorem dX9_headGood_126 : decode cX9_headGood 126 = .ok (.ireturn, 1) := by decide +kernel
theorem dX9_mended_0 : decode cX9_mended 0 = .ok (.aload_n 0, 1) := by decide +kernel
theorem dX9_mended_1 : decode cX9_mended 1 = .ok (.iconst 0, 1) := by decide +kernel
theorem dX9_mended_2 : decode cX9_mended 2 = .ok (.bipush 10, 2) := by decide +kernel
theorem dX9_mended_4 : decode cX9_mended 4 = .ok (.bipush 53, 2) := by decide +kernel
theorem dX9_mended_6 : decode cX9_mended 6 = .ok (.iconst 5, 1) := by decide +kernel
theorem dX9_mended_7 : decode cX9_mended 7 = .ok (.invokevirtual 149, 3) := by decide +kernel
theorem dX9_mended_10 : decode cX9_mended 10 = .ok (.ifCond .eq 5, 3) := by decide +kernel
theorem dX9_mended_13 : decode cX9_mended 13 = .ok (.iconst 1, 1) := by decide +kernel
theorem dX9_mended_14 : decode cX9_mended 14 = .ok (.ireturn, 1) := by decide +kernel
theorem dX9_mended_15 : decode cX9_mended 15 = .ok (.iconst 0, 1) := by decide +kernel
theorem dX9_mended_16 : decode cX9_mended 16 = .ok (.istore_n 2, 1) := by decide +kernel
theorem dX9_mended_17 : decode cX9_mended 17 = .ok (.iload_n 2, 1) := by decide +kernel
theorem dX9_mended_18 : decode cX9_mended 18 = .ok (.bipush 15, 2) := by decide +kernel
theorem dX9_mended_20 : decode cX9_mended 20 = .ok (.if_icmp .ge 62, 3) := by decide +kernel
theorem dX9_mended_23 : decode cX9_mended 23 = .ok (.aload_n 0, 1) := by decide +kernel
theorem dX9_mended_24 : decode cX9_mended 24 = .ok (.getfield 16, 3) := by decide +kernel
theorem dX9_mended_27 : decode cX9_mended 27 = .ok (.iload_n 2, 1) := by decide +kernel
theorem dX9_mended_28 : decode cX9_mended 28 = .ok (.iconst 1, 1) := by decide +kernel
theorem dX9_mended_29 : decode cX9_mended 29 = .ok (.aload_n 0, 1) := by decide +kernel
theorem dX9_mended_30 : decode cX9_mended 30 = .ok (.getfield 16, 3) := by decide +kernel
theorem dX9_mended_33 : decode cX9_mended 33 = .ok (.iload_n 2, 1) := by decide +kernel
theorem dX9_mended_34 : decode cX9_mended 34 = .ok (.iaload, 1) := by decide +kernel
theorem dX9_mended_35 : decode cX9_mended 35 = .ok (.isub, 1) := by decide +kernel
theorem dX9_mended_36 : decode cX9_mended 36 = .ok (.iastore, 1) := by decide +kernel
theorem dX9_mended_37 : decode cX9_mended 37 = .ok (.aload_n 0, 1) := by decide +kernel
theorem dX9_mended_38 : decode cX9_mended 38 = .ok (.iconst 0, 1) := by decide +kernel
theorem dX9_mended_39 : decode cX9_mended 39 = .ok (.bipush 10, 2) := by decide +kernel
theorem dX9_mended_41 : decode cX9_mended 41 = .ok (.bipush 53, 2) := by decide +kernel
theorem dX9_mended_43 : decode cX9_mended 43 = .ok (.iconst 5, 1) := by decide +kernel
theorem dX9_mended_44 : decode cX9_mended 44 = .ok (.invokevirtual 149, 3) := by decide +kernel
theorem dX9_mended_47 : decode cX9_mended 47 = .ok (.ifCond .eq 15, 3) := by decide +kernel
theorem dX9_mended_50 : decode cX9_mended 50 = .ok (.aload_n 0, 1) := by decide +kernel
theorem dX9_mended_51 : decode cX9_mended 51 = .ok (.getfield 92, 3) := by decide +kernel
theorem dX9_mended_54 : decode cX9_mended 54 = .ok (.iload_n 1, 1) := by decide +kernel
theorem dX9_mended_55 : decode cX9_mended 55 = .ok (.dup2, 1) := by decide +kernel
theorem dX9_mended_56 : decode cX9_mended 56 = .ok (.iaload, 1) := by decide +kernel
theorem dX9_mended_57 : decode cX9_mended 57 = .ok (.iconst 1, 1) := by decide +kernel
theorem dX9_mended_58 : decode cX9_mended 58 = .ok (.iadd, 1) := by decide +kernel
theorem dX9_mended_59 : decode cX9_mended 59 = .ok (.iastore, 1) := by decide +kernel
theorem dX9_mended_60 : decode cX9_mended 60 = .ok (.iconst 1, 1) := by decide +kernel
theorem dX9_mended_61 : decode cX9_mended 61 = .ok (.ireturn, 1) := by decide +kernel
theorem dX9_mended_62 : decode cX9_mended 62 = .ok (.aload_n 0, 1) := by decide +kernel
theorem dX9_mended_63 : decode cX9_mended 63 = .ok (.getfield 16, 3) := by decide +kernel
theorem dX9_mended_66 : decode cX9_mended 66 = .ok (.iload_n 2, 1) := by decide +kernel
theorem dX9_mended_67 : decode cX9_mended 67 = .ok (.iconst 1, 1) := by decide +kernel
theorem dX9_mended_68 : decode cX9_mended 68 = .ok (.aload_n 0, 1) := by decide +kernel
theorem dX9_mended_69 : decode cX9_mended 69 = .ok (.getfield 16, 3) := by decide +kernel
theorem dX9_mended_72 : decode cX9_mended 72 = .ok (.iload_n 2, 1) := by decide +kernel
theorem dX9_mended_73 : decode cX9_mended 73 = .ok (.iaload, 1) := by decide +kernel
theorem dX9_mended_74 : decode cX9_mended 74 = .ok (.isub, 1) := by decide +kernel
theorem dX9_mended_75 : decode cX9_mended 75 = .ok (.iastore, 1) := by decide +kernel
theorem dX9_mended_76 : decode cX9_mended 76 = .ok (.iinc 2 1, 3) := by decide +kernel
theorem dX9_mended_79 : decode cX9_mended 79 = .ok (.goto (-62), 3) := by decide +kernel
theorem dX9_mended_82 : decode cX9_mended 82 = .ok (.iconst 0, 1) := by decide +kernel
theorem dX9_mended_83 : decode cX9_mended 83 = .ok (.ireturn, 1) := by decide +kernel
theorem dX9_loadBits_0 : decode cX9_loadBits 0 = .ok (.iconst 1, 1) := by decide +kernel
theorem dX9_loadBits_1 : decode cX9_loadBits 1 = .ok (.istore_n 3, 1) := by decide +kernel
theorem dX9_loadBits_2 : decode cX9_loadBits 2 = .ok (.aload_n 0, 1) := by decide +kernel
theorem dX9_loadBits_3 : decode cX9_loadBits 3 = .ok (.bipush 15, 2) := by decide +kernel
theorem dX9_loadBits_5 : decode cX9_loadBits 5 = .ok (.putfield 103, 3) := by decide +kernel
theorem dX9_loadBits_8 : decode cX9_loadBits 8 = .ok (.bipush 54, 2) := by decide +kernel
theorem dX9_loadBits_10 : decode cX9_loadBits 10 = .ok (.istore 4, 2) := by decide +kernel
theorem dX9_loadBits_12 : decode cX9_loadBits 12 = .ok (.iload_n 2, 1) := by decide +kernel
theorem dX9_loadBits_13 : decode cX9_loadBits 13 = .ok (.iconst 3, 1) := by decide +kernel
theorem dX9_loadBits_14 : decode cX9_loadBits 14 = .ok (.if_icmp .ne 90, 3) := by decide +kernel
theorem dX9_loadBits_17 : decode cX9_loadBits 17 = .ok (.iload 4, 2) := by decide +kernel
theorem dX9_loadBits_19 : decode cX9_loadBits 19 = .ok (.bipush 15, 2) := by decide +kernel
theorem dX9_loadBits_21 : decode cX9_loadBits 21 = .ok (.iadd, 1) := by decide +kernel
theorem dX9_loadBits_22 : decode cX9_loadBits 22 = .ok (.aload_n 0, 1) := by decide +kernel
theorem dX9_loadBits_23 : decode cX9_loadBits 23 = .ok (.getfield 122, 3) := by decide +kernel
theorem dX9_loadBits_26 : decode cX9_loadBits 26 = .ok (.if_icmp .gt 78, 3) := by decide +kernel
theorem dX9_loadBits_29 : decode cX9_loadBits 29 = .ok (.iconst 0, 1) := by decide +kernel
theorem dX9_loadBits_30 : decode cX9_loadBits 30 = .ok (.istore 5, 2) := by decide +kernel
theorem dX9_loadBits_32 : decode cX9_loadBits 32 = .ok (.iload 5, 2) := by decide +kernel
theorem dX9_loadBits_34 : decode cX9_loadBits 34 = .ok (.bipush 15, 2) := by decide +kernel
theorem dX9_loadBits_36 : decode cX9_loadBits 36 = .ok (.if_icmp .ge 26, 3) := by decide +kernel
theorem dX9_loadBits_39 : decode cX9_loadBits 39 = .ok (.aload_n 0, 1) := by decide +kernel
theorem dX9_loadBits_40 : decode cX9_loadBits 40 = .ok (.getfield 16, 3) := by decide +kernel
theorem dX9_loadBits_43 : decode cX9_loadBits 43 = .ok (.iload 5, 2) := by decide +kernel
theorem dX9_loadBits_45 : decode cX9_loadBits 45 = .ok (.aload_n 0, 1) := by decide +kernel
theorem dX9_loadBits_46 : decode cX9_loadBits 46 = .ok (.getfield 7, 3) := by decide +kernel
theorem dX9_loadBits_49 : decode cX9_loadBits 49 = .ok (.iload 4, 2) := by decide +kernel
theorem dX9_loadBits_51 : decode cX9_loadBits 51 = .ok (.iload 5, 2) := by decide +kernel
theorem dX9_loadBits_53 : decode cX9_loadBits 53 = .ok (.iadd, 1) := by decide +kernel
theorem dX9_loadBits_54 : decode cX9_loadBits 54 = .ok (.iaload, 1) := by decide +kernel
theorem dX9_loadBits_55 : decode cX9_loadBits 55 = .ok (.iastore, 1) := by decide +kernel
theorem dX9_loadBits_56 : decode cX9_loadBits 56 = .ok (.iinc 5 1, 3) := by decide +kernel
theorem dX9_loadBits_59 : decode cX9_loadBits 59 = .ok (.goto (-27), 3) := by decide +kernel
theorem dX9_loadBits_62 : decode cX9_loadBits 62 = .ok (.iload_n 3, 1) := by decide +kernel
theorem dX9_loadBits_63 : decode cX9_loadBits 63 = .ok (.aload_n 0, 1) := by decide +kernel
theorem dX9_loadBits_64 : decode cX9_loadBits 64 = .ok (.iload_n 1, 1) := by decide +kernel
theorem dX9_loadBits_65 : decode cX9_loadBits 65 = .ok (.invokevirtual 157, 3) := by decide +kernel
theorem dX9_loadBits_68 : decode cX9_loadBits 68 = .ok (.iand, 1) := by decide +kernel
theorem dX9_loadBits_69 : decode cX9_loadBits 69 = .ok (.istore_n 3, 1) := by decide +kernel
theorem dX9_loadBits_70 : decode cX9_loadBits 70 = .ok (.iconst 0, 1) := by decide +kernel
theorem dX9_loadBits_71 : decode cX9_loadBits 71 = .ok (.istore 5, 2) := by decide +kernel
theorem dX9_loadBits_73 : decode cX9_loadBits 73 = .ok (.iload 5, 2) := by decide +kernel
theorem dX9_loadBits_75 : decode cX9_loadBits 75 = .ok (.bipush 10, 2) := by decide +kernel
theorem dX9_loadBits_77 : decode cX9_loadBits 77 = .ok (.if_icmp .ge 21, 3) := by decide +kernel
theorem dX9_loadBits_80 : decode cX9_loadBits 80 = .ok (.aload_n 0, 1) := by decide +kernel
theorem dX9_loadBits_81 : decode cX9_loadBits 81 = .ok (.aload_n 0, 1) := by decide +kernel
theorem dX9_loadBits_82 : decode cX9_loadBits 82 = .ok (.getfield 16, 3) := by decide +kernel
theorem dX9_loadBits_85 : decode cX9_loadBits 85 = .ok (.iload 5, 2) := by decide +kernel
theorem dX9_loadBits_87 : decode cX9_loadBits 87 = .ok (.iaload, 1) := by decide +kernel
theorem dX9_loadBits_88 : decode cX9_loadBits 88 = .ok (.iconst 1, 1) := by decide +kernel
theorem dX9_loadBits_89 : decode cX9_loadBits 89 = .ok (.invokevirtual 114, 3) := by decide +kernel
theorem dX9_loadBits_92 : decode cX9_loadBits 92 = .ok (.iinc 5 1, 3) := by decide +kernel
theorem dX9_loadBits_95 : decode cX9_loadBits 95 = .ok (.goto (-22), 3) := by decide +kernel
theorem dX9_loadBits_98 : decode cX9_loadBits 98 = .ok (.iinc 4 15, 3) := by decide +kernel
theorem dX9_loadBits_101 : decode cX9_loadBits 101 = .ok (.goto (-89), 3) := by decide +kernel
theorem dX9_loadBits_104 : decode cX9_loadBits 104 = .ok (.bipush 54, 2) := by decide +kernel
theorem dX9_loadBits_106 : decode cX9_loadBits 106 = .ok (.istore 4, 2) := by decide +kernel
theorem dX9_loadBits_108 : decode cX9_loadBits 108 = .ok (.iload_n 2, 1) := by decide +kernel
theorem dX9_loadBits_109 : decode cX9_loadBits 109 = .ok (.iconst 4, 1) := by decide +kernel
theorem dX9_loadBits_110 : decode cX9_loadBits 110 = .ok (.if_icmp .ne 30, 3) := by decide +kernel
theorem dX9_loadBits_113 : decode cX9_loadBits 113 = .ok (.iload 4, 2) := by decide +kernel
theorem dX9_loadBits_115 : decode cX9_loadBits 115 = .ok (.aload_n 0, 1) := by decide +kernel
theorem dX9_loadBits_116 : decode cX9_loadBits 116 = .ok (.getfield 122, 3) := by decide +kernel
theorem dX9_loadBits_119 : decode cX9_loadBits 119 = .ok (.if_icmp .ge 21, 3) := by decide +kernel
theorem dX9_loadBits_122 : decode cX9_loadBits 122 = .ok (.aload_n 0, 1) := by decide +kernel
theorem dX9_loadBits_123 : decode cX9_loadBits 123 = .ok (.aload_n 0, 1) := by decide +kernel
theorem dX9_loadBits_124 : decode cX9_loadBits 124 = .ok (.getfield 7, 3) := by decide +kernel
theorem dX9_loadBits_127 : decode cX9_loadBits 127 = .ok (.iload 4, 2) := by decide +kernel
theorem dX9_loadBits_129 : decode cX9_loadBits 129 = .ok (.iaload, 1) := by decide +kernel
theorem dX9_loadBits_130 : decode cX9_loadBits 130 = .ok (.iconst 1, 1) := by decide +kernel
theorem dX9_loadBits_131 : decode cX9_loadBits 131 = .ok (.invokevirtual 114, 3) := by decide +kernel
theorem dX9_loadBits_134 : decode cX9_loadBits 134 = .ok (.iinc 4 1, 3) := by decide +kernel
theorem dX9_loadBits_137 : decode cX9_loadBits 137 = .ok (.goto (-29), 3) := by decide +kernel
theorem dX9_loadBits_140 : decode cX9_loadBits 140 = .ok (.bipush 15, 2) := by decide +kernel
theorem dX9_loadBits_142 : decode cX9_loadBits 142 = .ok (.istore 4, 2) := by decide +kernel
theorem dX9_loadBits_144 : decode cX9_loadBits 144 = .ok (.iload 4, 2) := by decide +kernel
theorem dX9_loadBits_146 : decode cX9_loadBits 146 = .ok (.aload_n 0, 1) := by decide +kernel
theorem dX9_loadBits_147 : decode cX9_loadBits 147 = .ok (.getfield 103, 3) := by decide +kernel
theorem dX9_loadBits_150 : decode cX9_loadBits 150 = .ok (.if_icmp .ge 28, 3) := by decide +kernel
theorem dX9_loadBits_153 : decode cX9_loadBits 153 = .ok (.aload_n 0, 1) := by decide +kernel
theorem dX9_loadBits_154 : decode cX9_loadBits 154 = .ok (.getfield 16, 3) := by decide +kernel
theorem dX9_loadBits_157 : decode cX9_loadBits 157 = .ok (.iload 4, 2) := by decide +kernel
theorem dX9_loadBits_159 : decode cX9_loadBits 159 = .ok (.dup2, 1) := by decide +kernel
theorem dX9_loadBits_160 : decode cX9_loadBits 160 = .ok (.iaload, 1) := by decide +kernel
theorem dX9_loadBits_161 : decode cX9_loadBits 161 = .ok (.aload_n 0, 1) := by decide +kernel
theorem dX9_loadBits_162 : decode cX9_loadBits 162 = .ok (.getfield 13, 3) := by decide +kernel
theorem dX9_loadBits_165 : decode cX9_loadBits 165 = .ok (.iconst 3, 1) := by decide +kernel
theorem dX9_loadBits_166 : decode cX9_loadBits 166 = .ok (.iload 4, 2) := by decide +kernel
theorem dX9_loadBits_168 : decode cX9_loadBits 168 = .ok (.iadd, 1) := by decide +kernel
theorem dX9_loadBits_169 : decode cX9_loadBits 169 = .ok (.iaload, 1) := by decide +kernel
theorem dX9_loadBits_170 : decode cX9_loadBits 170 = .ok (.ixor, 1) := by decide +kernel
theorem dX9_loadBits_171 : decode cX9_loadBits 171 = .ok (.iastore, 1) := by decide +kernel
theorem dX9_loadBits_172 : decode cX9_loadBits 172 = .ok (.iinc 4 1, 3) := by decide +kernel
theorem dX9_loadBits_175 : decode cX9_loadBits 175 = .ok (.goto (-31), 3) := by decide +kernel
theorem dX9_loadBits_178 : decode cX9_loadBits 178 = .ok (.iload_n 3, 1) := by decide +kernel
theorem dX9_loadBits_179 : decode cX9_loadBits 179 = .ok (.ireturn, 1) := by decide +kernel
theorem dX9_loadGood_0 : decode cX9_loadGood 0 = .ok (.aload_n 0, 1) := by decide +kernel
theorem dX9_loadGood_1 : decode cX9_loadGood 1 = .ok (.iload_n 1, 1) := by decide +kernel
theorem dX9_loadGood_2 : decode cX9_loadGood 2 = .ok (.iload_n 2, 1) := by decide +kernel
theorem dX9_loadGood_3 : decode cX9_loadGood 3 = .ok (.invokevirtual 161, 3) := by decide +kernel
theorem dX9_loadGood_6 : decode cX9_loadGood 6 = .ok (.ifCond .eq 12, 3) := by decide +kernel
theorem dX9_loadGood_9 : decode cX9_loadGood 9 = .ok (.aload_n 0, 1) := by decide +kernel
theorem dX9_loadGood_10 : decode cX9_loadGood 10 = .ok (.getfield 103, 3) := by decide +kernel
theorem dX9_loadGood_13 : decode cX9_loadGood 13 = .ok (.bipush 23, 2) := by decide +kernel
theorem dX9_loadGood_15 : decode cX9_loadGood 15 = .ok (.if_icmp .ge 5, 3) := by decide +kernel
theorem dX9_loadGood_18 : decode cX9_loadGood 18 = .ok (.iconst 0, 1) := by decide +kernel
theorem dX9_loadGood_19 : decode cX9_loadGood 19 = .ok (.ireturn, 1) := by decide +kernel
theorem dX9_loadGood_20 : decode cX9_loadGood 20 = .ok (.aload_n 0, 1) := by decide +kernel
theorem dX9_loadGood_21 : decode cX9_loadGood 21 = .ok (.bipush 15, 2) := by decide +kernel
theorem dX9_loadGood_23 : decode cX9_loadGood 23 = .ok (.bipush 8, 2) := by decide +kernel
theorem dX9_loadGood_25 : decode cX9_loadGood 25 = .ok (.invokevirtual 153, 3) := by decide +kernel
theorem dX9_loadGood_28 : decode cX9_loadGood 28 = .ok (.iconst 4, 1) := by decide +kernel
theorem dX9_loadGood_29 : decode cX9_loadGood 29 = .ok (.idiv, 1) := by decide +kernel
theorem dX9_loadGood_30 : decode cX9_loadGood 30 = .ok (.istore_n 3, 1) := by decide +kernel
theorem dX9_loadGood_31 : decode cX9_loadGood 31 = .ok (.iload_n 3, 1) := by decide +kernel
theorem dX9_loadGood_32 : decode cX9_loadGood 32 = .ok (.ifCond .eq 37, 3) := by decide +kernel
theorem dX9_loadGood_35 : decode cX9_loadGood 35 = .ok (.aload_n 0, 1) := by decide +kernel
theorem dX9_loadGood_36 : decode cX9_loadGood 36 = .ok (.getfield 103, 3) := by decide +kernel
theorem dX9_loadGood_39 : decode cX9_loadGood 39 = .ok (.bipush 15, 2) := by decide +kernel
theorem dX9_loadGood_41 : decode cX9_loadGood 41 = .ok (.isub, 1) := by decide +kernel
theorem dX9_loadGood_42 : decode cX9_loadGood 42 = .ok (.bipush 24, 2) := by decide +kernel
theorem dX9_loadGood_44 : decode cX9_loadGood 44 = .ok (.bipush 8, 2) := by decide +kernel
theorem dX9_loadGood_46 : decode cX9_loadGood 46 = .ok (.iload_n 3, 1) := by decide +kernel
theorem dX9_loadGood_47 : decode cX9_loadGood 47 = .ok (.imul, 1) := by decide +kernel
theorem dX9_loadGood_48 : decode cX9_loadGood 48 = .ok (.iadd, 1) := by decide +kernel
theorem dX9_loadGood_49 : decode cX9_loadGood 49 = .ok (.if_icmp .lt 20, 3) := by decide +kernel
theorem dX9_loadGood_52 : decode cX9_loadGood 52 = .ok (.aload_n 0, 1) := by decide +kernel
theorem dX9_loadGood_53 : decode cX9_loadGood 53 = .ok (.getfield 16, 3) := by decide +kernel
theorem dX9_loadGood_56 : decode cX9_loadGood 56 = .ok (.bipush 15, 2) := by decide +kernel
theorem dX9_loadGood_58 : decode cX9_loadGood 58 = .ok (.iaload, 1) := by decide +kernel
theorem dX9_loadGood_59 : decode cX9_loadGood 59 = .ok (.aload_n 0, 1) := by decide +kernel
theorem dX9_loadGood_60 : decode cX9_loadGood 60 = .ok (.getfield 16, 3) := by decide +kernel
theorem dX9_loadGood_63 : decode cX9_loadGood 63 = .ok (.bipush 16, 2) := by decide +kernel
theorem dX9_loadGood_65 : decode cX9_loadGood 65 = .ok (.iaload, 1) := by decide +kernel
theorem dX9_loadGood_66 : decode cX9_loadGood 66 = .ok (.if_icmp .ne 5, 3) := by decide +kernel
theorem dX9_loadGood_69 : decode cX9_loadGood 69 = .ok (.iconst 0, 1) := by decide +kernel
theorem dX9_loadGood_70 : decode cX9_loadGood 70 = .ok (.ireturn, 1) := by decide +kernel
theorem dX9_loadGood_71 : decode cX9_loadGood 71 = .ok (.aload_n 0, 1) := by decide +kernel
theorem dX9_loadGood_72 : decode cX9_loadGood 72 = .ok (.bipush 15, 2) := by decide +kernel
theorem dX9_loadGood_74 : decode cX9_loadGood 74 = .ok (.bipush 23, 2) := by decide +kernel
theorem dX9_loadGood_76 : decode cX9_loadGood 76 = .ok (.bipush 8, 2) := by decide +kernel
theorem dX9_loadGood_78 : decode cX9_loadGood 78 = .ok (.iload_n 3, 1) := by decide +kernel
theorem dX9_loadGood_79 : decode cX9_loadGood 79 = .ok (.imul, 1) := by decide +kernel
theorem dX9_loadGood_80 : decode cX9_loadGood 80 = .ok (.iadd, 1) := by decide +kernel
theorem dX9_loadGood_81 : decode cX9_loadGood 81 = .ok (.ldc 141, 2) := by decide +kernel
theorem dX9_loadGood_83 : decode cX9_loadGood 83 = .ok (.bipush 16, 2) := by decide +kernel
theorem dX9_loadGood_85 : decode cX9_loadGood 85 = .ok (.invokevirtual 149, 3) := by decide +kernel
theorem dX9_loadGood_88 : decode cX9_loadGood 88 = .ok (.ireturn, 1) := by decide +kernel
theorem dX9_finish_0 : decode cX9_finish 0 = .ok (.aload_n 0, 1) := by decide +kernel
theorem dX9_finish_1 : decode cX9_finish 1 = .ok (.getfield 68, 3) := by decide +kernel
theorem dX9_finish_4 : decode cX9_finish 4 = .ok (.iload_n 1, 1) := by decide +kernel
theorem dX9_finish_5 : decode cX9_finish 5 = .ok (.iaload, 1) := by decide +kernel
theorem dX9_finish_6 : decode cX9_finish 6 = .ok (.aload_n 0, 1) := by decide +kernel
theorem dX9_finish_7 : decode cX9_finish 7 = .ok (.getfield 65, 3) := by decide +kernel
theorem dX9_finish_10 : decode cX9_finish 10 = .ok (.iload_n 1, 1) := by decide +kernel
theorem dX9_finish_11 : decode cX9_finish 11 = .ok (.iaload, 1) := by decide +kernel
theorem dX9_finish_12 : decode cX9_finish 12 = .ok (.if_icmp .ge 4, 3) := by decide +kernel
theorem dX9_finish_15 : decode cX9_finish 15 = .ok (.return_, 1) := by decide +kernel
theorem dX9_finish_16 : decode cX9_finish 16 = .ok (.aload_n 0, 1) := by decide +kernel
theorem dX9_finish_17 : decode cX9_finish 17 = .ok (.getfield 68, 3) := by decide +kernel
theorem dX9_finish_20 : decode cX9_finish 20 = .ok (.iload_n 1, 1) := by decide +kernel
theorem dX9_finish_21 : decode cX9_finish 21 = .ok (.iaload, 1) := by decide +kernel
theorem dX9_finish_22 : decode cX9_finish 22 = .ok (.aload_n 0, 1) := by decide +kernel
theorem dX9_finish_23 : decode cX9_finish 23 = .ok (.getfield 65, 3) := by decide +kernel
theorem dX9_finish_26 : decode cX9_finish 26 = .ok (.iload_n 1, 1) := by decide +kernel
theorem dX9_finish_27 : decode cX9_finish 27 = .ok (.iaload, 1) := by decide +kernel
theorem dX9_finish_28 : decode cX9_finish 28 = .ok (.if_icmp .gt 14, 3) := by decide +kernel
theorem dX9_finish_31 : decode cX9_finish 31 = .ok (.aload_n 0, 1) := by decide +kernel
theorem dX9_finish_32 : decode cX9_finish 32 = .ok (.getfield 56, 3) := by decide +kernel
theorem dX9_finish_35 : decode cX9_finish 35 = .ok (.iload_n 1, 1) := by decide +kernel
theorem dX9_finish_36 : decode cX9_finish 36 = .ok (.iaload, 1) := by decide +kernel
theorem dX9_finish_37 : decode cX9_finish 37 = .ok (.bipush 6, 2) := by decide +kernel
theorem dX9_finish_39 : decode cX9_finish 39 = .ok (.if_icmp .ne 16, 3) := by decide +kernel
theorem dX9_finish_42 : decode cX9_finish 42 = .ok (.aload_n 0, 1) := by decide +kernel
theorem dX9_finish_43 : decode cX9_finish 43 = .ok (.getfield 89, 3) := by decide +kernel
theorem dX9_finish_46 : decode cX9_finish 46 = .ok (.iload_n 1, 1) := by decide +kernel
theorem dX9_finish_47 : decode cX9_finish 47 = .ok (.dup2, 1) := by decide +kernel
theorem dX9_finish_48 : decode cX9_finish 48 = .ok (.iaload, 1) := by decide +kernel
theorem dX9_finish_49 : decode cX9_finish 49 = .ok (.iconst 1, 1) := by decide +kernel
theorem dX9_finish_50 : decode cX9_finish 50 = .ok (.iadd, 1) := by decide +kernel
theorem dX9_finish_51 : decode cX9_finish 51 = .ok (.iastore, 1) := by decide +kernel
theorem dX9_finish_52 : decode cX9_finish 52 = .ok (.goto 79, 3) := by decide +kernel
theorem dX9_finish_55 : decode cX9_finish 55 = .ok (.bipush 6, 2) := by decide +kernel
theorem dX9_finish_57 : decode cX9_finish 57 = .ok (.iload_n 1, 1) := by decide +kernel
theorem dX9_finish_58 : decode cX9_finish 58 = .ok (.imul, 1) := by decide +kernel
theorem dX9_finish_59 : decode cX9_finish 59 = .ok (.aload_n 0, 1) := by decide +kernel
theorem dX9_finish_60 : decode cX9_finish 60 = .ok (.getfield 56, 3) := by decide +kernel
theorem dX9_finish_63 : decode cX9_finish 63 = .ok (.iload_n 1, 1) := by decide +kernel
theorem dX9_finish_64 : decode cX9_finish 64 = .ok (.iaload, 1) := by decide +kernel
theorem dX9_finish_65 : decode cX9_finish 65 = .ok (.iadd, 1) := by decide +kernel
theorem dX9_finish_66 : decode cX9_finish 66 = .ok (.istore_n 2, 1) := by decide +kernel
theorem dX9_finish_67 : decode cX9_finish 67 = .ok (.aload_n 0, 1) := by decide +kernel
theorem dX9_finish_68 : decode cX9_finish 68 = .ok (.getfield 59, 3) := by decide +kernel
theorem dX9_finish_71 : decode cX9_finish 71 = .ok (.iload_n 2, 1) := by decide +kernel
theorem dX9_finish_72 : decode cX9_finish 72 = .ok (.aload_n 0, 1) := by decide +kernel
theorem dX9_finish_73 : decode cX9_finish 73 = .ok (.getfield 68, 3) := by decide +kernel
theorem dX9_finish_76 : decode cX9_finish 76 = .ok (.iload_n 1, 1) := by decide +kernel
theorem dX9_finish_77 : decode cX9_finish 77 = .ok (.iaload, 1) := by decide +kernel
theorem dX9_finish_78 : decode cX9_finish 78 = .ok (.iastore, 1) := by decide +kernel
theorem dX9_finish_79 : decode cX9_finish 79 = .ok (.iconst 0, 1) := by decide +kernel
theorem dX9_finish_80 : decode cX9_finish 80 = .ok (.istore_n 3, 1) := by decide +kernel
theorem dX9_finish_81 : decode cX9_finish 81 = .ok (.iload_n 3, 1) := by decide +kernel
theorem dX9_finish_82 : decode cX9_finish 82 = .ok (.aload_n 0, 1) := by decide +kernel
theorem dX9_finish_83 : decode cX9_finish 83 = .ok (.getfield 68, 3) := by decide +kernel
theorem dX9_finish_86 : decode cX9_finish 86 = .ok (.iload_n 1, 1) := by decide +kernel
theorem dX9_finish_87 : decode cX9_finish 87 = .ok (.iaload, 1) := by decide +kernel
theorem dX9_finish_88 : decode cX9_finish 88 = .ok (.if_icmp .ge 33, 3) := by decide +kernel
theorem dX9_finish_91 : decode cX9_finish 91 = .ok (.aload_n 0, 1) := by decide +kernel
theorem dX9_finish_92 : decode cX9_finish 92 = .ok (.getfield 62, 3) := by decide +kernel
theorem dX9_finish_95 : decode cX9_finish 95 = .ok (.sipush 255, 3) := by decide +kernel
theorem dX9_finish_98 : decode cX9_finish 98 = .ok (.iload_n 2, 1) := by decide +kernel
theorem dX9_finish_99 : decode cX9_finish 99 = .ok (.imul, 1) := by decide +kernel
theorem dX9_finish_100 : decode cX9_finish 100 = .ok (.iload_n 3, 1) := by decide +kernel
theorem dX9_finish_101 : decode cX9_finish 101 = .ok (.iadd, 1) := by decide +kernel
theorem dX9_finish_102 : decode cX9_finish 102 = .ok (.aload_n 0, 1) := by decide +kernel
theorem dX9_finish_103 : decode cX9_finish 103 = .ok (.getfield 71, 3) := by decide +kernel
theorem dX9_finish_106 : decode cX9_finish 106 = .ok (.sipush 320, 3) := by decide +kernel
theorem dX9_finish_109 : decode cX9_finish 109 = .ok (.iload_n 1, 1) := by decide +kernel
theorem dX9_finish_110 : decode cX9_finish 110 = .ok (.imul, 1) := by decide +kernel
theorem dX9_finish_111 : decode cX9_finish 111 = .ok (.iload_n 3, 1) := by decide +kernel
theorem dX9_finish_112 : decode cX9_finish 112 = .ok (.iadd, 1) := by decide +kernel
theorem dX9_finish_113 : decode cX9_finish 113 = .ok (.iaload, 1) := by decide +kernel
theorem dX9_finish_114 : decode cX9_finish 114 = .ok (.iastore, 1) := by decide +kernel
theorem dX9_finish_115 : decode cX9_finish 115 = .ok (.iinc 3 1, 3) := by decide +kernel
theorem dX9_finish_118 : decode cX9_finish 118 = .ok (.goto (-37), 3) := by decide +kernel
theorem dX9_finish_121 : decode cX9_finish 121 = .ok (.aload_n 0, 1) := by decide +kernel
theorem dX9_finish_122 : decode cX9_finish 122 = .ok (.getfield 56, 3) := by decide +kernel
theorem dX9_finish_125 : decode cX9_finish 125 = .ok (.iload_n 1, 1) := by decide +kernel
theorem dX9_finish_126 : decode cX9_finish 126 = .ok (.dup2, 1) := by decide +kernel
theorem dX9_finish_127 : decode cX9_finish 127 = .ok (.iaload, 1) := by decide +kernel
theorem dX9_finish_128 : decode cX9_finish 128 = .ok (.iconst 1, 1) := by decide +kernel
theorem dX9_finish_129 : decode cX9_finish 129 = .ok (.iadd, 1) := by decide +kernel
theorem dX9_finish_130 : decode cX9_finish 130 = .ok (.iastore, 1) := by decide +kernel
theorem dX9_finish_131 : decode cX9_finish 131 = .ok (.aload_n 0, 1) := by decide +kernel
theorem dX9_finish_132 : decode cX9_finish 132 = .ok (.getfield 65, 3) := by decide +kernel
theorem dX9_finish_135 : decode cX9_finish 135 = .ok (.iload_n 1, 1) := by decide +kernel
theorem dX9_finish_136 : decode cX9_finish 136 = .ok (.iconst (-1), 1) := by decide +kernel
theorem dX9_finish_137 : decode cX9_finish 137 = .ok (.iastore, 1) := by decide +kernel
theorem dX9_finish_138 : decode cX9_finish 138 = .ok (.return_, 1) := by decide +kernel
theorem dX9_use_0 : decode cX9_use 0 = .ok (.aload_n 0, 1) := by decide +kernel
theorem dX9_use_1 : decode cX9_use 1 = .ok (.bipush 15, 2) := by decide +kernel
theorem dX9_use_3 : decode cX9_use 3 = .ok (.bipush 8, 2) := by decide +kernel
theorem dX9_use_5 : decode cX9_use 5 = .ok (.invokevirtual 153, 3) := by decide +kernel
theorem dX9_use_8 : decode cX9_use 8 = .ok (.iconst 4, 1) := by decide +kernel
theorem dX9_use_9 : decode cX9_use 9 = .ok (.idiv, 1) := by decide +kernel
theorem dX9_use_10 : decode cX9_use 10 = .ok (.istore_n 2, 1) := by decide +kernel
theorem dX9_use_11 : decode cX9_use 11 = .ok (.iconst 0, 1) := by decide +kernel
theorem dX9_use_12 : decode cX9_use 12 = .ok (.istore_n 3, 1) := by decide +kernel
theorem dX9_use_13 : decode cX9_use 13 = .ok (.aload_n 0, 1) := by decide +kernel
theorem dX9_use_14 : decode cX9_use 14 = .ok (.getfield 16, 3) := by decide +kernel
theorem dX9_use_17 : decode cX9_use 17 = .ok (.bipush 16, 2) := by decide +kernel
theorem dX9_use_19 : decode cX9_use 19 = .ok (.iaload, 1) := by decide +kernel
theorem dX9_use_20 : decode cX9_use 20 = .ok (.iconst 1, 1) := by decide +kernel
theorem dX9_use_21 : decode cX9_use 21 = .ok (.if_icmp .ne 45, 3) := by decide +kernel
theorem dX9_use_24 : decode cX9_use 24 = .ok (.aload_n 0, 1) := by decide +kernel
theorem dX9_use_25 : decode cX9_use 25 = .ok (.getfield 65, 3) := by decide +kernel
theorem dX9_use_28 : decode cX9_use 28 = .ok (.iload_n 1, 1) := by decide +kernel
theorem dX9_use_29 : decode cX9_use 29 = .ok (.iaload, 1) := by decide +kernel
theorem dX9_use_30 : decode cX9_use 30 = .ok (.ifCond .lt 13, 3) := by decide +kernel
theorem dX9_use_33 : decode cX9_use 33 = .ok (.aload_n 0, 1) := by decide +kernel
theorem dX9_use_34 : decode cX9_use 34 = .ok (.getfield 89, 3) := by decide +kernel
theorem dX9_use_37 : decode cX9_use 37 = .ok (.iload_n 1, 1) := by decide +kernel
theorem dX9_use_38 : decode cX9_use 38 = .ok (.dup2, 1) := by decide +kernel
theorem dX9_use_39 : decode cX9_use 39 = .ok (.iaload, 1) := by decide +kernel
theorem dX9_use_40 : decode cX9_use 40 = .ok (.iconst 1, 1) := by decide +kernel
theorem dX9_use_41 : decode cX9_use 41 = .ok (.iadd, 1) := by decide +kernel
theorem dX9_use_42 : decode cX9_use 42 = .ok (.iastore, 1) := by decide +kernel
theorem dX9_use_43 : decode cX9_use 43 = .ok (.aload_n 0, 1) := by decide +kernel
theorem dX9_use_44 : decode cX9_use 44 = .ok (.getfield 65, 3) := by decide +kernel
theorem dX9_use_47 : decode cX9_use 47 = .ok (.iload_n 1, 1) := by decide +kernel
theorem dX9_use_48 : decode cX9_use 48 = .ok (.aload_n 0, 1) := by decide +kernel
theorem dX9_use_49 : decode cX9_use 49 = .ok (.bipush 23, 2) := by decide +kernel
theorem dX9_use_51 : decode cX9_use 51 = .ok (.bipush 8, 2) := by decide +kernel
theorem dX9_use_53 : decode cX9_use 53 = .ok (.invokevirtual 153, 3) := by decide +kernel
theorem dX9_use_56 : decode cX9_use 56 = .ok (.iastore, 1) := by decide +kernel
theorem dX9_use_57 : decode cX9_use 57 = .ok (.aload_n 0, 1) := by decide +kernel
theorem dX9_use_58 : decode cX9_use 58 = .ok (.getfield 68, 3) := by decide +kernel
theorem dX9_use_61 : decode cX9_use 61 = .ok (.iload_n 1, 1) := by decide +kernel
theorem dX9_use_62 : decode cX9_use 62 = .ok (.iconst 0, 1) := by decide +kernel
theorem dX9_use_63 : decode cX9_use 63 = .ok (.iastore, 1) := by decide +kernel
theorem dX9_use_64 : decode cX9_use 64 = .ok (.iconst 1, 1) := by decide +kernel
theorem dX9_use_65 : decode cX9_use 65 = .ok (.istore_n 3, 1) := by decide +kernel
theorem dX9_use_66 : decode cX9_use 66 = .ok (.aload_n 0, 1) := by decide +kernel
theorem dX9_use_67 : decode cX9_use 67 = .ok (.getfield 65, 3) := by decide +kernel
theorem dX9_use_70 : decode cX9_use 70 = .ok (.iload_n 1, 1) := by decide +kernel
theorem dX9_use_71 : decode cX9_use 71 = .ok (.iaload, 1) := by decide +kernel
theorem dX9_use_72 : decode cX9_use 72 = .ok (.ifCond .ge 4, 3) := by decide +kernel
theorem dX9_use_75 : decode cX9_use 75 = .ok (.return_, 1) := by decide +kernel
theorem dX9_use_76 : decode cX9_use 76 = .ok (.iload_n 3, 1) := by decide +kernel
theorem dX9_use_77 : decode cX9_use 77 = .ok (.istore 4, 2) := by decide +kernel
theorem dX9_use_79 : decode cX9_use 79 = .ok (.iload 4, 2) := by decide +kernel
theorem dX9_use_81 : decode cX9_use 81 = .ok (.iload_n 2, 1) := by decide +kernel
theorem dX9_use_82 : decode cX9_use 82 = .ok (.if_icmp .ge 50, 3) := by decide +kernel
theorem dX9_use_85 : decode cX9_use 85 = .ok (.aload_n 0, 1) := by decide +kernel
theorem dX9_use_86 : decode cX9_use 86 = .ok (.getfield 71, 3) := by decide +kernel
theorem dX9_use_89 : decode cX9_use 89 = .ok (.sipush 320, 3) := by decide +kernel
theorem dX9_use_92 : decode cX9_use 92 = .ok (.iload_n 1, 1) := by decide +kernel
theorem dX9_use_93 : decode cX9_use 93 = .ok (.imul, 1) := by decide +kernel
theorem dX9_use_94 : decode cX9_use 94 = .ok (.aload_n 0, 1) := by decide +kernel
theorem dX9_use_95 : decode cX9_use 95 = .ok (.getfield 68, 3) := by decide +kernel
theorem dX9_use_98 : decode cX9_use 98 = .ok (.iload_n 1, 1) := by decide +kernel
theorem dX9_use_99 : decode cX9_use 99 = .ok (.iaload, 1) := by decide +kernel
theorem dX9_use_100 : decode cX9_use 100 = .ok (.iadd, 1) := by decide +kernel
theorem dX9_use_101 : decode cX9_use 101 = .ok (.aload_n 0, 1) := by decide +kernel
theorem dX9_use_102 : decode cX9_use 102 = .ok (.bipush 23, 2) := by decide +kernel
theorem dX9_use_104 : decode cX9_use 104 = .ok (.bipush 8, 2) := by decide +kernel
theorem dX9_use_106 : decode cX9_use 106 = .ok (.iload 4, 2) := by decide +kernel
theorem dX9_use_108 : decode cX9_use 108 = .ok (.imul, 1) := by decide +kernel
theorem dX9_use_109 : decode cX9_use 109 = .ok (.iadd, 1) := by decide +kernel
theorem dX9_use_110 : decode cX9_use 110 = .ok (.bipush 8, 2) := by decide +kernel
theorem dX9_use_112 : decode cX9_use 112 = .ok (.invokevirtual 153, 3) := by decide +kernel
theorem dX9_use_115 : decode cX9_use 115 = .ok (.iastore, 1) := by decide +kernel
theorem dX9_use_116 : decode cX9_use 116 = .ok (.aload_n 0, 1) := by decide +kernel
theorem dX9_use_117 : decode cX9_use 117 = .ok (.getfield 68, 3) := by decide +kernel
theorem dX9_use_120 : decode cX9_use 120 = .ok (.iload_n 1, 1) := by decide +kernel
theorem dX9_use_121 : decode cX9_use 121 = .ok (.dup2, 1) := by decide +kernel
theorem dX9_use_122 : decode cX9_use 122 = .ok (.iaload, 1) := by decide +kernel
theorem dX9_use_123 : decode cX9_use 123 = .ok (.iconst 1, 1) := by decide +kernel
theorem dX9_use_124 : decode cX9_use 124 = .ok (.iadd, 1) := by decide +kernel
theorem dX9_use_125 : decode cX9_use 125 = .ok (.iastore, 1) := by decide +kernel
theorem dX9_use_126 : decode cX9_use 126 = .ok (.iinc 4 1, 3) := by decide +kernel
theorem dX9_use_129 : decode cX9_use 129 = .ok (.goto (-50), 3) := by decide +kernel
theorem dX9_use_132 : decode cX9_use 132 = .ok (.aload_n 0, 1) := by decide +kernel
theorem dX9_use_133 : decode cX9_use 133 = .ok (.iload_n 1, 1) := by decide +kernel
theorem dX9_use_134 : decode cX9_use 134 = .ok (.invokevirtual 165, 3) := by decide +kernel
theorem dX9_use_137 : decode cX9_use 137 = .ok (.return_, 1) := by decide +kernel
theorem dX9_hear_0 : decode cX9_hear 0 = .ok (.aload_n 0, 1) := by decide +kernel
theorem dX9_hear_1 : decode cX9_hear 1 = .ok (.getfield 122, 3) := by decide +kernel
theorem dX9_hear_4 : decode cX9_hear 4 = .ok (.ifCond .ne 5, 3) := by decide +kernel
theorem dX9_hear_7 : decode cX9_hear 7 = .ok (.iconst 0, 1) := by decide +kernel
theorem dX9_hear_8 : decode cX9_hear 8 = .ok (.ireturn, 1) := by decide +kernel
theorem dX9_hear_9 : decode cX9_hear 9 = .ok (.aload_n 0, 1) := by decide +kernel
theorem dX9_hear_10 : decode cX9_hear 10 = .ok (.getfield 131, 3) := by decide +kernel
theorem dX9_hear_13 : decode cX9_hear 13 = .ok (.iconst 1, 1) := by decide +kernel
theorem dX9_hear_14 : decode cX9_hear 14 = .ok (.iand, 1) := by decide +kernel
theorem dX9_hear_15 : decode cX9_hear 15 = .ok (.istore_n 1, 1) := by decide +kernel
theorem dX9_hear_16 : decode cX9_hear 16 = .ok (.aload_n 0, 1) := by decide +kernel
theorem dX9_hear_17 : decode cX9_hear 17 = .ok (.aload_n 0, 1) := by decide +kernel
theorem dX9_hear_18 : decode cX9_hear 18 = .ok (.getfield 131, 3) := by decide +kernel
theorem dX9_hear_21 : decode cX9_hear 21 = .ok (.iconst 1, 1) := by decide +kernel
theorem dX9_hear_22 : decode cX9_hear 22 = .ok (.isub, 1) := by decide +kernel
theorem dX9_hear_23 : decode cX9_hear 23 = .ok (.invokevirtual 134, 3) := by decide +kernel
theorem dX9_hear_26 : decode cX9_hear 26 = .ok (.aload_n 0, 1) := by decide +kernel
theorem dX9_hear_27 : decode cX9_hear 27 = .ok (.invokevirtual 168, 3) := by decide +kernel
theorem dX9_hear_30 : decode cX9_hear 30 = .ok (.istore_n 2, 1) := by decide +kernel
theorem dX9_hear_31 : decode cX9_hear 31 = .ok (.aload_n 0, 1) := by decide +kernel
theorem dX9_hear_32 : decode cX9_hear 32 = .ok (.iconst 3, 1) := by decide +kernel
theorem dX9_hear_33 : decode cX9_hear 33 = .ok (.iconst 4, 1) := by decide +kernel
theorem dX9_hear_34 : decode cX9_hear 34 = .ok (.invokevirtual 153, 3) := by decide +kernel
theorem dX9_hear_37 : decode cX9_hear 37 = .ok (.istore_n 3, 1) := by decide +kernel
theorem dX9_hear_38 : decode cX9_hear 38 = .ok (.aload_n 0, 1) := by decide +kernel
theorem dX9_hear_39 : decode cX9_hear 39 = .ok (.getfield 16, 3) := by decide +kernel
theorem dX9_hear_42 : decode cX9_hear 42 = .ok (.bipush 8, 2) := by decide +kernel
theorem dX9_hear_44 : decode cX9_hear 44 = .ok (.iaload, 1) := by decide +kernel
theorem dX9_hear_45 : decode cX9_hear 45 = .ok (.istore 4, 2) := by decide +kernel
theorem dX9_hear_47 : decode cX9_hear 47 = .ok (.aload_n 0, 1) := by decide +kernel
theorem dX9_hear_48 : decode cX9_hear 48 = .ok (.getfield 16, 3) := by decide +kernel
theorem dX9_hear_51 : decode cX9_hear 51 = .ok (.bipush 9, 2) := by decide +kernel
theorem dX9_hear_53 : decode cX9_hear 53 = .ok (.iaload, 1) := by decide +kernel
theorem dX9_hear_54 : decode cX9_hear 54 = .ok (.istore 5, 2) := by decide +kernel
theorem dX9_hear_56 : decode cX9_hear 56 = .ok (.iconst 5, 1) := by decide +kernel
theorem dX9_hear_57 : decode cX9_hear 57 = .ok (.istore 6, 2) := by decide +kernel
theorem dX9_hear_59 : decode cX9_hear 59 = .ok (.iload_n 2, 1) := by decide +kernel
theorem dX9_hear_60 : decode cX9_hear 60 = .ok (.ifCond .eq 108, 3) := by decide +kernel
theorem dX9_hear_63 : decode cX9_hear 63 = .ok (.aload_n 0, 1) := by decide +kernel
theorem dX9_hear_64 : decode cX9_hear 64 = .ok (.getfield 86, 3) := by decide +kernel
theorem dX9_hear_67 : decode cX9_hear 67 = .ok (.iload_n 1, 1) := by decide +kernel
theorem dX9_hear_68 : decode cX9_hear 68 = .ok (.iconst 1, 1) := by decide +kernel
theorem dX9_hear_69 : decode cX9_hear 69 = .ok (.bastore, 1) := by decide +kernel
theorem dX9_hear_70 : decode cX9_hear 70 = .ok (.iload 4, 2) := by decide +kernel
theorem dX9_hear_72 : decode cX9_hear 72 = .ok (.iconst 1, 1) := by decide +kernel
theorem dX9_hear_73 : decode cX9_hear 73 = .ok (.if_icmp .ne 10, 3) := by decide +kernel
theorem dX9_hear_76 : decode cX9_hear 76 = .ok (.aload_n 0, 1) := by decide +kernel
theorem dX9_hear_77 : decode cX9_hear 77 = .ok (.getfield 43, 3) := by decide +kernel
theorem dX9_hear_80 : decode cX9_hear 80 = .ok (.iload_n 1, 1) := by decide +kernel
theorem dX9_hear_81 : decode cX9_hear 81 = .ok (.iconst 0, 1) := by decide +kernel
theorem dX9_hear_82 : decode cX9_hear 82 = .ok (.iastore, 1) := by decide +kernel
theorem dX9_hear_83 : decode cX9_hear 83 = .ok (.iload_n 3, 1) := by decide +kernel
theorem dX9_hear_84 : decode cX9_hear 84 = .ok (.iconst 3, 1) := by decide +kernel
theorem dX9_hear_85 : decode cX9_hear 85 = .ok (.if_icmp .ge 8, 3) := by decide +kernel
theorem dX9_hear_88 : decode cX9_hear 88 = .ok (.bipush 9, 2) := by decide +kernel
theorem dX9_hear_90 : decode cX9_hear 90 = .ok (.goto 35, 3) := by decide +kernel
theorem dX9_hear_93 : decode cX9_hear 93 = .ok (.aload_n 0, 1) := by decide +kernel
theorem dX9_hear_94 : decode cX9_hear 94 = .ok (.iload_n 1, 1) := by decide +kernel
theorem dX9_hear_95 : decode cX9_hear 95 = .ok (.iload_n 3, 1) := by decide +kernel
theorem dX9_hear_96 : decode cX9_hear 96 = .ok (.invokevirtual 172, 3) := by decide +kernel
theorem dX9_hear_99 : decode cX9_hear 99 = .ok (.ifCond .eq 24, 3) := by decide +kernel
theorem dX9_hear_102 : decode cX9_hear 102 = .ok (.iload 5, 2) := by decide +kernel
theorem dX9_hear_104 : decode cX9_hear 104 = .ok (.aload_n 0, 1) := by decide +kernel
theorem dX9_hear_105 : decode cX9_hear 105 = .ok (.getfield 80, 3) := by decide +kernel
theorem dX9_hear_108 : decode cX9_hear 108 = .ok (.iload_n 1, 1) := by decide +kernel
theorem dX9_hear_109 : decode cX9_hear 109 = .ok (.iaload, 1) := by decide +kernel
theorem dX9_hear_110 : decode cX9_hear 110 = .ok (.if_icmp .ne 8, 3) := by decide +kernel
theorem dX9_hear_113 : decode cX9_hear 113 = .ok (.bipush 8, 2) := by decide +kernel
theorem dX9_hear_115 : decode cX9_hear 115 = .ok (.goto 10, 3) := by decide +kernel
theorem dX9_hear_118 : decode cX9_hear 118 = .ok (.bipush 6, 2) := by decide +kernel
theorem dX9_hear_120 : decode cX9_hear 120 = .ok (.goto 5, 3) := by decide +kernel
theorem dX9_hear_123 : decode cX9_hear 123 = .ok (.bipush 7, 2) := by decide +kernel
theorem dX9_hear_125 : decode cX9_hear 125 = .ok (.istore 6, 2) := by decide +kernel
theorem dX9_hear_127 : decode cX9_hear 127 = .ok (.iload 6, 2) := by decide +kernel
theorem dX9_hear_129 : decode cX9_hear 129 = .ok (.bipush 6, 2) := by decide +kernel
theorem dX9_hear_131 : decode cX9_hear 131 = .ok (.if_icmp .eq 10, 3) := by decide +kernel
theorem dX9_hear_134 : decode cX9_hear 134 = .ok (.iload 6, 2) := by decide +kernel
theorem dX9_hear_136 : decode cX9_hear 136 = .ok (.bipush 8, 2) := by decide +kernel
theorem dX9_hear_138 : decode cX9_hear 138 = .ok (.if_icmp .ne 10, 3) := by decide +kernel
theorem dX9_hear_141 : decode cX9_hear 141 = .ok (.aload_n 0, 1) := by decide +kernel
theorem dX9_hear_142 : decode cX9_hear 142 = .ok (.getfield 83, 3) := by decide +kernel
theorem dX9_hear_145 : decode cX9_hear 145 = .ok (.iload_n 1, 1) := by decide +kernel
theorem dX9_hear_146 : decode cX9_hear 146 = .ok (.iconst 1, 1) := by decide +kernel
theorem dX9_hear_147 : decode cX9_hear 147 = .ok (.bastore, 1) := by decide +kernel
theorem dX9_hear_148 : decode cX9_hear 148 = .ok (.iload 6, 2) := by decide +kernel
theorem dX9_hear_150 : decode cX9_hear 150 = .ok (.bipush 6, 2) := by decide +kernel
theorem dX9_hear_152 : decode cX9_hear 152 = .ok (.if_icmp .ne 16, 3) := by decide +kernel
theorem dX9_hear_155 : decode cX9_hear 155 = .ok (.aload_n 0, 1) := by decide +kernel
theorem dX9_hear_156 : decode cX9_hear 156 = .ok (.getfield 80, 3) := by decide +kernel
theorem dX9_hear_159 : decode cX9_hear 159 = .ok (.iload_n 1, 1) := by decide +kernel
theorem dX9_hear_160 : decode cX9_hear 160 = .ok (.iload 5, 2) := by decide +kernel
theorem dX9_hear_162 : decode cX9_hear 162 = .ok (.iastore, 1) := by decide +kernel
theorem dX9_hear_163 : decode cX9_hear 163 = .ok (.aload_n 0, 1) := by decide +kernel
theorem dX9_hear_164 : decode cX9_hear 164 = .ok (.iload_n 1, 1) := by decide +kernel
theorem dX9_hear_165 : decode cX9_hear 165 = .ok (.invokevirtual 175, 3) := by decide +kernel
theorem dX9_hear_168 : decode cX9_hear 168 = .ok (.aload_n 0, 1) := by decide +kernel
theorem dX9_hear_169 : decode cX9_hear 169 = .ok (.iconst 0, 1) := by decide +kernel
theorem dX9_hear_170 : decode cX9_hear 170 = .ok (.putfield 122, 3) := by decide +kernel
theorem dX9_hear_173 : decode cX9_hear 173 = .ok (.iload 6, 2) := by decide +kernel
theorem dX9_hear_175 : decode cX9_hear 175 = .ok (.ireturn, 1) := by decide +kernel
theorem dX9_read_0 : decode cX9_read 0 = .ok (.iload_n 1, 1) := by decide +kernel
theorem dX9_read_1 : decode cX9_read 1 = .ok (.iconst 0, 1) := by decide +kernel
theorem dX9_read_2 : decode cX9_read 2 = .ok (.iconst 1, 1) := by decide +kernel
theorem dX9_read_3 : decode cX9_read 3 = .ok (.invokestatic 99, 3) := by decide +kernel
theorem dX9_read_6 : decode cX9_read 6 = .ok (.ifCond .eq 29, 3) := by decide +kernel
theorem dX9_read_9 : decode cX9_read 9 = .ok (.aload_n 0, 1) := by decide +kernel
theorem dX9_read_10 : decode cX9_read 10 = .ok (.getfield 56, 3) := by decide +kernel
theorem dX9_read_13 : decode cX9_read 13 = .ok (.iload_n 1, 1) := by decide +kernel
theorem dX9_read_14 : decode cX9_read 14 = .ok (.iaload, 1) := by decide +kernel
theorem dX9_read_15 : decode cX9_read 15 = .ok (.ifCond .eq 20, 3) := by decide +kernel
theorem dX9_read_18 : decode cX9_read 18 = .ok (.iload_n 2, 1) := by decide +kernel
theorem dX9_read_19 : decode cX9_read 19 = .ok (.ifCond .lt 16, 3) := by decide +kernel
theorem dX9_read_22 : decode cX9_read 22 = .ok (.iload_n 2, 1) := by decide +kernel
theorem dX9_read_23 : decode cX9_read 23 = .ok (.aload_n 0, 1) := by decide +kernel
theorem dX9_read_24 : decode cX9_read 24 = .ok (.getfield 59, 3) := by decide +kernel
theorem dX9_read_27 : decode cX9_read 27 = .ok (.bipush 6, 2) := by decide +kernel
theorem dX9_read_29 : decode cX9_read 29 = .ok (.iload_n 1, 1) := by decide +kernel
theorem dX9_read_30 : decode cX9_read 30 = .ok (.imul, 1) := by decide +kernel
theorem dX9_read_31 : decode cX9_read 31 = .ok (.iaload, 1) := by decide +kernel
theorem dX9_read_32 : decode cX9_read 32 = .ok (.if_icmp .lt 5, 3) := by decide +kernel
theorem dX9_read_35 : decode cX9_read 35 = .ok (.iconst (-1), 1) := by decide +kernel
theorem dX9_read_36 : decode cX9_read 36 = .ok (.ireturn, 1) := by decide +kernel
theorem dX9_read_37 : decode cX9_read 37 = .ok (.aload_n 0, 1) := by decide +kernel
theorem dX9_read_38 : decode cX9_read 38 = .ok (.getfield 62, 3) := by decide +kernel
theorem dX9_read_41 : decode cX9_read 41 = .ok (.sipush 1530, 3) := by decide +kernel
theorem dX9_read_44 : decode cX9_read 44 = .ok (.iload_n 1, 1) := by decide +kernel
theorem dX9_read_45 : decode cX9_read 45 = .ok (.imul, 1) := by decide +kernel
theorem dX9_read_46 : decode cX9_read 46 = .ok (.iload_n 2, 1) := by decide +kernel
theorem dX9_read_47 : decode cX9_read 47 = .ok (.iadd, 1) := by decide +kernel
theorem dX9_read_48 : decode cX9_read 48 = .ok (.iaload, 1) := by decide +kernel
theorem dX9_read_49 : decode cX9_read 49 = .ok (.ireturn, 1) := by decide +kernel
theorem dX9_next_0 : decode cX9_next 0 = .ok (.iload_n 1, 1) := by decide +kernel
theorem dX9_next_1 : decode cX9_next 1 = .ok (.iconst 0, 1) := by decide +kernel
theorem dX9_next_2 : decode cX9_next 2 = .ok (.iconst 1, 1) := by decide +kernel
theorem dX9_next_3 : decode cX9_next 3 = .ok (.invokestatic 99, 3) := by decide +kernel
theorem dX9_next_6 : decode cX9_next 6 = .ok (.ifCond .eq 12, 3) := by decide +kernel
theorem dX9_next_9 : decode cX9_next 9 = .ok (.aload_n 0, 1) := by decide +kernel
theorem dX9_next_10 : decode cX9_next 10 = .ok (.getfield 56, 3) := by decide +kernel
theorem dX9_next_13 : decode cX9_next 13 = .ok (.iload_n 1, 1) := by decide +kernel
theorem dX9_next_14 : decode cX9_next 14 = .ok (.iaload, 1) := by decide +kernel
theorem dX9_next_15 : decode cX9_next 15 = .ok (.ifCond .ne 5, 3) := by decide +kernel
theorem dX9_next_18 : decode cX9_next 18 = .ok (.iconst (-1), 1) := by decide +kernel
theorem dX9_next_19 : decode cX9_next 19 = .ok (.ireturn, 1) := by decide +kernel
theorem dX9_next_20 : decode cX9_next 20 = .ok (.aload_n 0, 1) := by decide +kernel
theorem dX9_next_21 : decode cX9_next 21 = .ok (.getfield 59, 3) := by decide +kernel
theorem dX9_next_24 : decode cX9_next 24 = .ok (.bipush 6, 2) := by decide +kernel
theorem dX9_next_26 : decode cX9_next 26 = .ok (.iload_n 1, 1) := by decide +kernel
theorem dX9_next_27 : decode cX9_next 27 = .ok (.imul, 1) := by decide +kernel
theorem dX9_next_28 : decode cX9_next 28 = .ok (.iaload, 1) := by decide +kernel
theorem dX9_next_29 : decode cX9_next 29 = .ok (.istore_n 2, 1) := by decide +kernel
theorem dX9_next_30 : decode cX9_next 30 = .ok (.aload_n 0, 1) := by decide +kernel
theorem dX9_next_31 : decode cX9_next 31 = .ok (.getfield 56, 3) := by decide +kernel
theorem dX9_next_34 : decode cX9_next 34 = .ok (.iload_n 1, 1) := by decide +kernel
theorem dX9_next_35 : decode cX9_next 35 = .ok (.dup2, 1) := by decide +kernel
theorem dX9_next_36 : decode cX9_next 36 = .ok (.iaload, 1) := by decide +kernel
theorem dX9_next_37 : decode cX9_next 37 = .ok (.iconst 1, 1) := by decide +kernel
theorem dX9_next_38 : decode cX9_next 38 = .ok (.isub, 1) := by decide +kernel
theorem dX9_next_39 : decode cX9_next 39 = .ok (.iastore, 1) := by decide +kernel
theorem dX9_next_40 : decode cX9_next 40 = .ok (.bipush 6, 2) := by decide +kernel
theorem dX9_next_42 : decode cX9_next 42 = .ok (.iload_n 1, 1) := by decide +kernel
theorem dX9_next_43 : decode cX9_next 43 = .ok (.imul, 1) := by decide +kernel
theorem dX9_next_44 : decode cX9_next 44 = .ok (.istore_n 3, 1) := by decide +kernel
theorem dX9_next_45 : decode cX9_next 45 = .ok (.iload_n 3, 1) := by decide +kernel
theorem dX9_next_46 : decode cX9_next 46 = .ok (.bipush 6, 2) := by decide +kernel
theorem dX9_next_48 : decode cX9_next 48 = .ok (.iload_n 1, 1) := by decide +kernel
theorem dX9_next_49 : decode cX9_next 49 = .ok (.imul, 1) := by decide +kernel
theorem dX9_next_50 : decode cX9_next 50 = .ok (.aload_n 0, 1) := by decide +kernel
theorem dX9_next_51 : decode cX9_next 51 = .ok (.getfield 56, 3) := by decide +kernel
theorem dX9_next_54 : decode cX9_next 54 = .ok (.iload_n 1, 1) := by decide +kernel
theorem dX9_next_55 : decode cX9_next 55 = .ok (.iaload, 1) := by decide +kernel
theorem dX9_next_56 : decode cX9_next 56 = .ok (.iadd, 1) := by decide +kernel
theorem dX9_next_57 : decode cX9_next 57 = .ok (.if_icmp .ge 70, 3) := by decide +kernel
theorem dX9_next_60 : decode cX9_next 60 = .ok (.aload_n 0, 1) := by decide +kernel
theorem dX9_next_61 : decode cX9_next 61 = .ok (.getfield 59, 3) := by decide +kernel
theorem dX9_next_64 : decode cX9_next 64 = .ok (.iload_n 3, 1) := by decide +kernel
theorem dX9_next_65 : decode cX9_next 65 = .ok (.aload_n 0, 1) := by decide +kernel
theorem dX9_next_66 : decode cX9_next 66 = .ok (.getfield 59, 3) := by decide +kernel
theorem dX9_next_69 : decode cX9_next 69 = .ok (.iload_n 3, 1) := by decide +kernel
theorem dX9_next_70 : decode cX9_next 70 = .ok (.iconst 1, 1) := by decide +kernel
theorem dX9_next_71 : decode cX9_next 71 = .ok (.iadd, 1) := by decide +kernel
theorem dX9_next_72 : decode cX9_next 72 = .ok (.iaload, 1) := by decide +kernel
theorem dX9_next_73 : decode cX9_next 73 = .ok (.iastore, 1) := by decide +kernel
theorem dX9_next_74 : decode cX9_next 74 = .ok (.iconst 0, 1) := by decide +kernel
theorem dX9_next_75 : decode cX9_next 75 = .ok (.istore 4, 2) := by decide +kernel
theorem dX9_next_77 : decode cX9_next 77 = .ok (.iload 4, 2) := by decide +kernel
theorem dX9_next_79 : decode cX9_next 79 = .ok (.sipush 255, 3) := by decide +kernel
theorem dX9_next_82 : decode cX9_next 82 = .ok (.if_icmp .ge 39, 3) := by decide +kernel
theorem dX9_next_85 : decode cX9_next 85 = .ok (.aload_n 0, 1) := by decide +kernel
theorem dX9_next_86 : decode cX9_next 86 = .ok (.getfield 62, 3) := by decide +kernel
theorem dX9_next_89 : decode cX9_next 89 = .ok (.sipush 255, 3) := by decide +kernel
theorem dX9_next_92 : decode cX9_next 92 = .ok (.iload_n 3, 1) := by decide +kernel
theorem dX9_next_93 : decode cX9_next 93 = .ok (.imul, 1) := by decide +kernel
theorem dX9_next_94 : decode cX9_next 94 = .ok (.iload 4, 2) := by decide +kernel
theorem dX9_next_96 : decode cX9_next 96 = .ok (.iadd, 1) := by decide +kernel
theorem dX9_next_97 : decode cX9_next 97 = .ok (.aload_n 0, 1) := by decide +kernel
theorem dX9_next_98 : decode cX9_next 98 = .ok (.getfield 62, 3) := by decide +kernel
theorem dX9_next_101 : decode cX9_next 101 = .ok (.sipush 255, 3) := by decide +kernel
theorem dX9_next_104 : decode cX9_next 104 = .ok (.iload_n 3, 1) := by decide +kernel
theorem dX9_next_105 : decode cX9_next 105 = .ok (.imul, 1) := by decide +kernel
theorem dX9_next_106 : decode cX9_next 106 = .ok (.sipush 255, 3) := by decide +kernel
theorem dX9_next_109 : decode cX9_next 109 = .ok (.iadd, 1) := by decide +kernel
theorem dX9_next_110 : decode cX9_next 110 = .ok (.iload 4, 2) := by decide +kernel
theorem dX9_next_112 : decode cX9_next 112 = .ok (.iadd, 1) := by decide +kernel
theorem dX9_next_113 : decode cX9_next 113 = .ok (.iaload, 1) := by decide +kernel
theorem dX9_next_114 : decode cX9_next 114 = .ok (.iastore, 1) := by decide +kernel
theorem dX9_next_115 : decode cX9_next 115 = .ok (.iinc 4 1, 3) := by decide +kernel
theorem dX9_next_118 : decode cX9_next 118 = .ok (.goto (-41), 3) := by decide +kernel
theorem dX9_next_121 : decode cX9_next 121 = .ok (.iinc 3 1, 3) := by decide +kernel
theorem dX9_next_124 : decode cX9_next 124 = .ok (.goto (-79), 3) := by decide +kernel
theorem dX9_next_127 : decode cX9_next 127 = .ok (.iload_n 2, 1) := by decide +kernel
theorem dX9_next_128 : decode cX9_next 128 = .ok (.ireturn, 1) := by decide +kernel
theorem dX9_state_0 : decode cX9_state 0 = .ok (.iload_n 1, 1) := by decide +kernel
theorem dX9_state_1 : decode cX9_state 1 = .ok (.iconst 0, 1) := by decide +kernel
theorem dX9_state_2 : decode cX9_state 2 = .ok (.iconst 1, 1) := by decide +kernel
theorem dX9_state_3 : decode cX9_state 3 = .ok (.invokestatic 99, 3) := by decide +kernel
theorem dX9_state_6 : decode cX9_state 6 = .ok (.ifCond .ne 5, 3) := by decide +kernel
theorem dX9_state_9 : decode cX9_state 9 = .ok (.iconst (-1), 1) := by decide +kernel
theorem dX9_state_10 : decode cX9_state 10 = .ok (.ireturn, 1) := by decide +kernel
theorem dX9_state_11 : decode cX9_state 11 = .ok (.iload_n 2, 1) := by decide +kernel
theorem dX9_state_12 : decode cX9_state 12 = .ok (.tableswitch 162 0 9 #[56, 63, 70, 84, 91, 111, 118, 125, 132, 147], 56) := by decide +kernel
theorem dX9_state_68 : decode cX9_state 68 = .ok (.aload_n 0, 1) := by decide +kernel
theorem dX9_state_69 : decode cX9_state 69 = .ok (.getfield 25, 3) := by decide +kernel
theorem dX9_state_72 : decode cX9_state 72 = .ok (.iload_n 1, 1) := by decide +kernel
theorem dX9_state_73 : decode cX9_state 73 = .ok (.iaload, 1) := by decide +kernel
theorem dX9_state_74 : decode cX9_state 74 = .ok (.ireturn, 1) := by decide +kernel
theorem dX9_state_75 : decode cX9_state 75 = .ok (.aload_n 0, 1) := by decide +kernel
theorem dX9_state_76 : decode cX9_state 76 = .ok (.getfield 56, 3) := by decide +kernel
theorem dX9_state_79 : decode cX9_state 79 = .ok (.iload_n 1, 1) := by decide +kernel
theorem dX9_state_80 : decode cX9_state 80 = .ok (.iaload, 1) := by decide +kernel
theorem dX9_state_81 : decode cX9_state 81 = .ok (.ireturn, 1) := by decide +kernel
theorem dX9_state_82 : decode cX9_state 82 = .ok (.aload_n 0, 1) := by decide +kernel
theorem dX9_state_83 : decode cX9_state 83 = .ok (.getfield 34, 3) := by decide +kernel
theorem dX9_state_86 : decode cX9_state 86 = .ok (.iload_n 1, 1) := by decide +kernel
theorem dX9_state_87 : decode cX9_state 87 = .ok (.iaload, 1) := by decide +kernel
theorem dX9_state_88 : decode cX9_state 88 = .ok (.aload_n 0, 1) := by decide +kernel
theorem dX9_state_89 : decode cX9_state 89 = .ok (.getfield 37, 3) := by decide +kernel
theorem dX9_state_92 : decode cX9_state 92 = .ok (.iload_n 1, 1) := by decide +kernel
theorem dX9_state_93 : decode cX9_state 93 = .ok (.iaload, 1) := by decide +kernel
theorem dX9_state_94 : decode cX9_state 94 = .ok (.isub, 1) := by decide +kernel
theorem dX9_state_95 : decode cX9_state 95 = .ok (.ireturn, 1) := by decide +kernel
theorem dX9_state_96 : decode cX9_state 96 = .ok (.aload_n 0, 1) := by decide +kernel
theorem dX9_state_97 : decode cX9_state 97 = .ok (.getfield 43, 3) := by decide +kernel
theorem dX9_state_100 : decode cX9_state 100 = .ok (.iload_n 1, 1) := by decide +kernel
theorem dX9_state_101 : decode cX9_state 101 = .ok (.iaload, 1) := by decide +kernel
theorem dX9_state_102 : decode cX9_state 102 = .ok (.ireturn, 1) := by decide +kernel
theorem dX9_state_103 : decode cX9_state 103 = .ok (.aload_n 0, 1) := by decide +kernel
theorem dX9_state_104 : decode cX9_state 104 = .ok (.getfield 65, 3) := by decide +kernel
theorem dX9_state_107 : decode cX9_state 107 = .ok (.iload_n 1, 1) := by decide +kernel
theorem dX9_state_108 : decode cX9_state 108 = .ok (.iaload, 1) := by decide +kernel
theorem dX9_state_109 : decode cX9_state 109 = .ok (.ifCond .ge 7, 3) := by decide +kernel
theorem dX9_state_112 : decode cX9_state 112 = .ok (.iconst 0, 1) := by decide +kernel
theorem dX9_state_113 : decode cX9_state 113 = .ok (.goto 9, 3) := by decide +kernel
theorem dX9_state_116 : decode cX9_state 116 = .ok (.aload_n 0, 1) := by decide +kernel
theorem dX9_state_117 : decode cX9_state 117 = .ok (.getfield 68, 3) := by decide +kernel
theorem dX9_state_120 : decode cX9_state 120 = .ok (.iload_n 1, 1) := by decide +kernel
theorem dX9_state_121 : decode cX9_state 121 = .ok (.iaload, 1) := by decide +kernel
theorem dX9_state_122 : decode cX9_state 122 = .ok (.ireturn, 1) := by decide +kernel
theorem dX9_state_123 : decode cX9_state 123 = .ok (.aload_n 0, 1) := by decide +kernel
theorem dX9_state_124 : decode cX9_state 124 = .ok (.getfield 89, 3) := by decide +kernel
theorem dX9_state_127 : decode cX9_state 127 = .ok (.iload_n 1, 1) := by decide +kernel
theorem dX9_state_128 : decode cX9_state 128 = .ok (.iaload, 1) := by decide +kernel
theorem dX9_state_129 : decode cX9_state 129 = .ok (.ireturn, 1) := by decide +kernel
theorem dX9_state_130 : decode cX9_state 130 = .ok (.aload_n 0, 1) := by decide +kernel
theorem dX9_state_131 : decode cX9_state 131 = .ok (.getfield 92, 3) := by decide +kernel
theorem dX9_state_134 : decode cX9_state 134 = .ok (.iload_n 1, 1) := by decide +kernel
theorem dX9_state_135 : decode cX9_state 135 = .ok (.iaload, 1) := by decide +kernel
theorem dX9_state_136 : decode cX9_state 136 = .ok (.ireturn, 1) := by decide +kernel
theorem dX9_state_137 : decode cX9_state 137 = .ok (.aload_n 0, 1) := by decide +kernel
theorem dX9_state_138 : decode cX9_state 138 = .ok (.getfield 77, 3) := by decide +kernel
theorem dX9_state_141 : decode cX9_state 141 = .ok (.iload_n 1, 1) := by decide +kernel
theorem dX9_state_142 : decode cX9_state 142 = .ok (.iaload, 1) := by decide +kernel
theorem dX9_state_143 : decode cX9_state 143 = .ok (.ireturn, 1) := by decide +kernel
theorem dX9_state_144 : decode cX9_state 144 = .ok (.aload_n 0, 1) := by decide +kernel
theorem dX9_state_145 : decode cX9_state 145 = .ok (.getfield 83, 3) := by decide +kernel
theorem dX9_state_148 : decode cX9_state 148 = .ok (.iload_n 1, 1) := by decide +kernel
theorem dX9_state_149 : decode cX9_state 149 = .ok (.baload, 1) := by decide +kernel
theorem dX9_state_150 : decode cX9_state 150 = .ok (.ifCond .eq 7, 3) := by decide +kernel
theorem dX9_state_153 : decode cX9_state 153 = .ok (.iconst 1, 1) := by decide +kernel
theorem dX9_state_154 : decode cX9_state 154 = .ok (.goto 4, 3) := by decide +kernel
theorem dX9_state_157 : decode cX9_state 157 = .ok (.iconst 0, 1) := by decide +kernel
theorem dX9_state_158 : decode cX9_state 158 = .ok (.ireturn, 1) := by decide +kernel
theorem dX9_state_159 : decode cX9_state 159 = .ok (.aload_n 0, 1) := by decide +kernel
theorem dX9_state_160 : decode cX9_state 160 = .ok (.getfield 86, 3) := by decide +kernel
theorem dX9_state_163 : decode cX9_state 163 = .ok (.iload_n 1, 1) := by decide +kernel
theorem dX9_state_164 : decode cX9_state 164 = .ok (.baload, 1) := by decide +kernel
theorem dX9_state_165 : decode cX9_state 165 = .ok (.ifCond .eq 7, 3) := by decide +kernel
theorem dX9_state_168 : decode cX9_state 168 = .ok (.iconst 1, 1) := by decide +kernel
theorem dX9_state_169 : decode cX9_state 169 = .ok (.goto 4, 3) := by decide +kernel
theorem dX9_state_172 : decode cX9_state 172 = .ok (.iconst 0, 1) := by decide +kernel
theorem dX9_state_173 : decode cX9_state 173 = .ok (.ireturn, 1) := by decide +kernel
theorem dX9_state_174 : decode cX9_state 174 = .ok (.iconst (-1), 1) := by decide +kernel
theorem dX9_state_175 : decode cX9_state 175 = .ok (.ireturn, 1) := by decide +kernel
theorem dX9_count_0 : decode cX9_count 0 = .ok (.iload_n 1, 1) := by decide +kernel
theorem dX9_count_1 : decode cX9_count 1 = .ok (.iconst 0, 1) := by decide +kernel
theorem dX9_count_2 : decode cX9_count 2 = .ok (.iconst 1, 1) := by decide +kernel
theorem dX9_count_3 : decode cX9_count 3 = .ok (.invokestatic 99, 3) := by decide +kernel
theorem dX9_count_6 : decode cX9_count 6 = .ok (.ifCond .eq 19, 3) := by decide +kernel
theorem dX9_count_9 : decode cX9_count 9 = .ok (.iload_n 1, 1) := by decide +kernel
theorem dX9_count_10 : decode cX9_count 10 = .ok (.ifCond .ne 10, 3) := by decide +kernel
theorem dX9_count_13 : decode cX9_count 13 = .ok (.aload_n 0, 1) := by decide +kernel
theorem dX9_count_14 : decode cX9_count 14 = .ok (.getfield 131, 3) := by decide +kernel
theorem dX9_count_17 : decode cX9_count 17 = .ok (.goto 7, 3) := by decide +kernel
theorem dX9_count_20 : decode cX9_count 20 = .ok (.aload_n 0, 1) := by decide +kernel
theorem dX9_count_21 : decode cX9_count 21 = .ok (.getfield 122, 3) := by decide +kernel
theorem dX9_count_24 : decode cX9_count 24 = .ok (.ireturn, 1) := by decide +kernel
theorem dX9_count_25 : decode cX9_count 25 = .ok (.iload_n 1, 1) := by decide +kernel
theorem dX9_count_26 : decode cX9_count 26 = .ok (.iconst 2, 1) := by decide +kernel
theorem dX9_count_27 : decode cX9_count 27 = .ok (.iconst 3, 1) := by decide +kernel
theorem dX9_count_28 : decode cX9_count 28 = .ok (.invokestatic 99, 3) := by decide +kernel
theorem dX9_count_31 : decode cX9_count 31 = .ok (.ifCond .eq 14, 3) := by decide +kernel
theorem dX9_count_34 : decode cX9_count 34 = .ok (.aload_n 0, 1) := by decide +kernel
theorem dX9_count_35 : decode cX9_count 35 = .ok (.getfield 19, 3) := by decide +kernel
theorem dX9_count_38 : decode cX9_count 38 = .ok (.iload_n 1, 1) := by decide +kernel
theorem dX9_count_39 : decode cX9_count 39 = .ok (.iconst 2, 1) := by decide +kernel
theorem dX9_count_40 : decode cX9_count 40 = .ok (.isub, 1) := by decide +kernel
theorem dX9_count_41 : decode cX9_count 41 = .ok (.iaload, 1) := by decide +kernel
theorem dX9_count_42 : decode cX9_count 42 = .ok (.goto 4, 3) := by decide +kernel
theorem dX9_count_45 : decode cX9_count 45 = .ok (.iconst (-1), 1) := by decide +kernel
theorem dX9_count_46 : decode cX9_count 46 = .ok (.ireturn, 1) := by decide +kernel
