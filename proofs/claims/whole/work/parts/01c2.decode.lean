theorem dX11_take_31 : decode cX11_take 31 = .ok (.iconst 0, 1) := by decide +kernel
theorem dX11_take_32 : decode cX11_take 32 = .ok (.ireturn, 1) := by decide +kernel
theorem dX11_take_33 : decode cX11_take 33 = .ok (.bipush 8, 2) := by decide +kernel
theorem dX11_take_35 : decode cX11_take 35 = .ok (.iload_n 1, 1) := by decide +kernel
theorem dX11_take_36 : decode cX11_take 36 = .ok (.imul, 1) := by decide +kernel
theorem dX11_take_37 : decode cX11_take 37 = .ok (.iload_n 2, 1) := by decide +kernel
theorem dX11_take_38 : decode cX11_take 38 = .ok (.iadd, 1) := by decide +kernel
theorem dX11_take_39 : decode cX11_take 39 = .ok (.istore 4, 2) := by decide +kernel
theorem dX11_take_41 : decode cX11_take 41 = .ok (.aload_n 0, 1) := by decide +kernel
theorem dX11_take_42 : decode cX11_take 42 = .ok (.getfield 73, 3) := by decide +kernel
theorem dX11_take_45 : decode cX11_take 45 = .ok (.iload 4, 2) := by decide +kernel
theorem dX11_take_47 : decode cX11_take 47 = .ok (.aload_n 0, 1) := by decide +kernel
theorem dX11_take_48 : decode cX11_take 48 = .ok (.getfield 73, 3) := by decide +kernel
theorem dX11_take_51 : decode cX11_take 51 = .ok (.iload 4, 2) := by decide +kernel
theorem dX11_take_53 : decode cX11_take 53 = .ok (.iaload, 1) := by decide +kernel
theorem dX11_take_54 : decode cX11_take 54 = .ok (.iload_n 3, 1) := by decide +kernel
theorem dX11_take_55 : decode cX11_take 55 = .ok (.iadd, 1) := by decide +kernel
theorem dX11_take_56 : decode cX11_take 56 = .ok (.iastore, 1) := by decide +kernel
theorem dX11_take_57 : decode cX11_take 57 = .ok (.aload_n 0, 1) := by decide +kernel
theorem dX11_take_58 : decode cX11_take 58 = .ok (.iload_n 1, 1) := by decide +kernel
theorem dX11_take_59 : decode cX11_take 59 = .ok (.iload_n 2, 1) := by decide +kernel
theorem dX11_take_60 : decode cX11_take 60 = .ok (.invokevirtual 163, 3) := by decide +kernel
theorem dX11_take_63 : decode cX11_take 63 = .ok (.iload_n 3, 1) := by decide +kernel
theorem dX11_take_64 : decode cX11_take 64 = .ok (.if_icmp .ge 16, 3) := by decide +kernel
theorem dX11_take_67 : decode cX11_take 67 = .ok (.aload_n 0, 1) := by decide +kernel
theorem dX11_take_68 : decode cX11_take 68 = .ok (.getfield 85, 3) := by decide +kernel
theorem dX11_take_71 : decode cX11_take 71 = .ok (.iload 4, 2) := by decide +kernel
theorem dX11_take_73 : decode cX11_take 73 = .ok (.dup2, 1) := by decide +kernel
theorem dX11_take_74 : decode cX11_take 74 = .ok (.iaload, 1) := by decide +kernel
theorem dX11_take_75 : decode cX11_take 75 = .ok (.iconst 1, 1) := by decide +kernel
theorem dX11_take_76 : decode cX11_take 76 = .ok (.iadd, 1) := by decide +kernel
theorem dX11_take_77 : decode cX11_take 77 = .ok (.iastore, 1) := by decide +kernel
theorem dX11_take_78 : decode cX11_take 78 = .ok (.iconst 0, 1) := by decide +kernel
theorem dX11_take_79 : decode cX11_take 79 = .ok (.ireturn, 1) := by decide +kernel
theorem dX11_take_80 : decode cX11_take 80 = .ok (.iload_n 3, 1) := by decide +kernel
theorem dX11_take_81 : decode cX11_take 81 = .ok (.istore 5, 2) := by decide +kernel
theorem dX11_take_83 : decode cX11_take 83 = .ok (.iload 5, 2) := by decide +kernel
theorem dX11_take_85 : decode cX11_take 85 = .ok (.ifCond .le 159, 3) := by decide +kernel
theorem dX11_take_88 : decode cX11_take 88 = .ok (.iconst (-1), 1) := by decide +kernel
theorem dX11_take_89 : decode cX11_take 89 = .ok (.istore 6, 2) := by decide +kernel
theorem dX11_take_91 : decode cX11_take 91 = .ok (.iconst 0, 1) := by decide +kernel
theorem dX11_take_92 : decode cX11_take 92 = .ok (.istore 7, 2) := by decide +kernel
theorem dX11_take_94 : decode cX11_take 94 = .ok (.iconst 0, 1) := by decide +kernel
theorem dX11_take_95 : decode cX11_take 95 = .ok (.istore 8, 2) := by decide +kernel
theorem dX11_take_97 : decode cX11_take 97 = .ok (.iload 8, 2) := by decide +kernel
theorem dX11_take_99 : decode cX11_take 99 = .ok (.aload_n 0, 1) := by decide +kernel
theorem dX11_take_100 : decode cX11_take 100 = .ok (.getfield 111, 3) := by decide +kernel
theorem dX11_take_103 : decode cX11_take 103 = .ok (.if_icmp .ge 70, 3) := by decide +kernel
theorem dX11_take_106 : decode cX11_take 106 = .ok (.aload_n 0, 1) := by decide +kernel
theorem dX11_take_107 : decode cX11_take 107 = .ok (.iload_n 1, 1) := by decide +kernel
theorem dX11_take_108 : decode cX11_take 108 = .ok (.iload_n 2, 1) := by decide +kernel
theorem dX11_take_109 : decode cX11_take 109 = .ok (.iload 8, 2) := by decide +kernel
theorem dX11_take_111 : decode cX11_take 111 = .ok (.invokevirtual 153, 3) := by decide +kernel
theorem dX11_take_114 : decode cX11_take 114 = .ok (.ifCond .eq 53, 3) := by decide +kernel
theorem dX11_take_117 : decode cX11_take 117 = .ok (.aload_n 0, 1) := by decide +kernel
theorem dX11_take_118 : decode cX11_take 118 = .ok (.iload_n 1, 1) := by decide +kernel
theorem dX11_take_119 : decode cX11_take 119 = .ok (.iload 8, 2) := by decide +kernel
theorem dX11_take_121 : decode cX11_take 121 = .ok (.invokevirtual 156, 3) := by decide +kernel
theorem dX11_take_124 : decode cX11_take 124 = .ok (.ifCond .eq 43, 3) := by decide +kernel
theorem dX11_take_127 : decode cX11_take 127 = .ok (.aload_n 0, 1) := by decide +kernel
theorem dX11_take_128 : decode cX11_take 128 = .ok (.getfield 97, 3) := by decide +kernel
theorem dX11_take_131 : decode cX11_take 131 = .ok (.iload 8, 2) := by decide +kernel
theorem dX11_take_133 : decode cX11_take 133 = .ok (.iaload, 1) := by decide +kernel
theorem dX11_take_134 : decode cX11_take 134 = .ok (.invokestatic 150, 3) := by decide +kernel
theorem dX11_take_137 : decode cX11_take 137 = .ok (.aload_n 0, 1) := by decide +kernel
theorem dX11_take_138 : decode cX11_take 138 = .ok (.iload_n 1, 1) := by decide +kernel
theorem dX11_take_139 : decode cX11_take 139 = .ok (.iload 8, 2) := by decide +kernel
theorem dX11_take_141 : decode cX11_take 141 = .ok (.invokevirtual 146, 3) := by decide +kernel
theorem dX11_take_144 : decode cX11_take 144 = .ok (.isub, 1) := by decide +kernel
theorem dX11_take_145 : decode cX11_take 145 = .ok (.istore 9, 2) := by decide +kernel
theorem dX11_take_147 : decode cX11_take 147 = .ok (.iload 6, 2) := by decide +kernel
theorem dX11_take_149 : decode cX11_take 149 = .ok (.ifCond .lt 10, 3) := by decide +kernel
theorem dX11_take_152 : decode cX11_take 152 = .ok (.iload 9, 2) := by decide +kernel
theorem dX11_take_154 : decode cX11_take 154 = .ok (.iload 7, 2) := by decide +kernel
theorem dX11_take_156 : decode cX11_take 156 = .ok (.if_icmp .ge 11, 3) := by decide +kernel
theorem dX11_take_159 : decode cX11_take 159 = .ok (.iload 8, 2) := by decide +kernel
theorem dX11_take_161 : decode cX11_take 161 = .ok (.istore 6, 2) := by decide +kernel
theorem dX11_take_163 : decode cX11_take 163 = .ok (.iload 9, 2) := by decide +kernel
theorem dX11_take_165 : decode cX11_take 165 = .ok (.istore 7, 2) := by decide +kernel
theorem dX11_take_167 : decode cX11_take 167 = .ok (.iinc 8 1, 3) := by decide +kernel
theorem dX11_take_170 : decode cX11_take 170 = .ok (.goto (-73), 3) := by decide +kernel
theorem dX11_take_173 : decode cX11_take 173 = .ok (.aload_n 0, 1) := by decide +kernel
theorem dX11_take_174 : decode cX11_take 174 = .ok (.getfield 91, 3) := by decide +kernel
theorem dX11_take_177 : decode cX11_take 177 = .ok (.iload 6, 2) := by decide +kernel
theorem dX11_take_179 : decode cX11_take 179 = .ok (.iaload, 1) := by decide +kernel
theorem dX11_take_180 : decode cX11_take 180 = .ok (.iload 5, 2) := by decide +kernel
theorem dX11_take_182 : decode cX11_take 182 = .ok (.if_icmp .ge 13, 3) := by decide +kernel
theorem dX11_take_185 : decode cX11_take 185 = .ok (.aload_n 0, 1) := by decide +kernel
theorem dX11_take_186 : decode cX11_take 186 = .ok (.getfield 91, 3) := by decide +kernel
theorem dX11_take_189 : decode cX11_take 189 = .ok (.iload 6, 2) := by decide +kernel
theorem dX11_take_191 : decode cX11_take 191 = .ok (.iaload, 1) := by decide +kernel
theorem dX11_take_192 : decode cX11_take 192 = .ok (.goto 5, 3) := by decide +kernel
theorem dX11_take_195 : decode cX11_take 195 = .ok (.iload 5, 2) := by decide +kernel
theorem dX11_take_197 : decode cX11_take 197 = .ok (.istore 8, 2) := by decide +kernel
theorem dX11_take_199 : decode cX11_take 199 = .ok (.aload_n 0, 1) := by decide +kernel
theorem dX11_take_200 : decode cX11_take 200 = .ok (.getfield 91, 3) := by decide +kernel
theorem dX11_take_203 : decode cX11_take 203 = .ok (.iload 6, 2) := by decide +kernel
theorem dX11_take_205 : decode cX11_take 205 = .ok (.aload_n 0, 1) := by decide +kernel
theorem dX11_take_206 : decode cX11_take 206 = .ok (.getfield 91, 3) := by decide +kernel
theorem dX11_take_209 : decode cX11_take 209 = .ok (.iload 6, 2) := by decide +kernel
theorem dX11_take_211 : decode cX11_take 211 = .ok (.iaload, 1) := by decide +kernel
theorem dX11_take_212 : decode cX11_take 212 = .ok (.iload 8, 2) := by decide +kernel
theorem dX11_take_214 : decode cX11_take 214 = .ok (.isub, 1) := by decide +kernel
theorem dX11_take_215 : decode cX11_take 215 = .ok (.iastore, 1) := by decide +kernel
theorem dX11_take_216 : decode cX11_take 216 = .ok (.iload 5, 2) := by decide +kernel
theorem dX11_take_218 : decode cX11_take 218 = .ok (.iload 8, 2) := by decide +kernel
theorem dX11_take_220 : decode cX11_take 220 = .ok (.isub, 1) := by decide +kernel
theorem dX11_take_221 : decode cX11_take 221 = .ok (.istore 5, 2) := by decide +kernel
theorem dX11_take_223 : decode cX11_take 223 = .ok (.aload_n 0, 1) := by decide +kernel
theorem dX11_take_224 : decode cX11_take 224 = .ok (.getfield 91, 3) := by decide +kernel
theorem dX11_take_227 : decode cX11_take 227 = .ok (.iload 6, 2) := by decide +kernel
theorem dX11_take_229 : decode cX11_take 229 = .ok (.iaload, 1) := by decide +kernel
theorem dX11_take_230 : decode cX11_take 230 = .ok (.ifCond .ne 11, 3) := by decide +kernel
theorem dX11_take_233 : decode cX11_take 233 = .ok (.aload_n 0, 1) := by decide +kernel
theorem dX11_take_234 : decode cX11_take 234 = .ok (.getfield 88, 3) := by decide +kernel
theorem dX11_take_237 : decode cX11_take 237 = .ok (.iload 6, 2) := by decide +kernel
theorem dX11_take_239 : decode cX11_take 239 = .ok (.iconst 0, 1) := by decide +kernel
theorem dX11_take_240 : decode cX11_take 240 = .ok (.iastore, 1) := by decide +kernel
theorem dX11_take_241 : decode cX11_take 241 = .ok (.goto (-158), 3) := by decide +kernel
theorem dX11_take_244 : decode cX11_take 244 = .ok (.aload_n 0, 1) := by decide +kernel
theorem dX11_take_245 : decode cX11_take 245 = .ok (.getfield 85, 3) := by decide +kernel
theorem dX11_take_248 : decode cX11_take 248 = .ok (.iload 4, 2) := by decide +kernel
theorem dX11_take_250 : decode cX11_take 250 = .ok (.iconst 0, 1) := by decide +kernel
theorem dX11_take_251 : decode cX11_take 251 = .ok (.iastore, 1) := by decide +kernel
theorem dX11_take_252 : decode cX11_take 252 = .ok (.aload_n 0, 1) := by decide +kernel
theorem dX11_take_253 : decode cX11_take 253 = .ok (.getfield 26, 3) := by decide +kernel
theorem dX11_take_256 : decode cX11_take 256 = .ok (.iload_n 2, 1) := by decide +kernel
theorem dX11_take_257 : decode cX11_take 257 = .ok (.aload_n 0, 1) := by decide +kernel
theorem dX11_take_258 : decode cX11_take 258 = .ok (.getfield 26, 3) := by decide +kernel
theorem dX11_take_261 : decode cX11_take 261 = .ok (.iload_n 2, 1) := by decide +kernel
theorem dX11_take_262 : decode cX11_take 262 = .ok (.iaload, 1) := by decide +kernel
theorem dX11_take_263 : decode cX11_take 263 = .ok (.iload_n 3, 1) := by decide +kernel
theorem dX11_take_264 : decode cX11_take 264 = .ok (.iadd, 1) := by decide +kernel
theorem dX11_take_265 : decode cX11_take 265 = .ok (.iastore, 1) := by decide +kernel
theorem dX11_take_266 : decode cX11_take 266 = .ok (.iconst 1, 1) := by decide +kernel
theorem dX11_take_267 : decode cX11_take 267 = .ok (.ireturn, 1) := by decide +kernel
theorem dX11_send_0 : decode cX11_send 0 = .ok (.aload_n 0, 1) := by decide +kernel
theorem dX11_send_1 : decode cX11_send 1 = .ok (.getfield 166, 3) := by decide +kernel
theorem dX11_send_4 : decode cX11_send 4 = .ok (.sipush 300, 3) := by decide +kernel
theorem dX11_send_7 : decode cX11_send 7 = .ok (.if_icmp .ne 5, 3) := by decide +kernel
theorem dX11_send_10 : decode cX11_send 10 = .ok (.iconst 0, 1) := by decide +kernel
theorem dX11_send_11 : decode cX11_send 11 = .ok (.ireturn, 1) := by decide +kernel
theorem dX11_send_12 : decode cX11_send 12 = .ok (.bipush 8, 2) := by decide +kernel
theorem dX11_send_14 : decode cX11_send 14 = .ok (.aload_n 0, 1) := by decide +kernel
theorem dX11_send_15 : decode cX11_send 15 = .ok (.getfield 166, 3) := by decide +kernel
theorem dX11_send_18 : decode cX11_send 18 = .ok (.imul, 1) := by decide +kernel
theorem dX11_send_19 : decode cX11_send 19 = .ok (.istore 8, 2) := by decide +kernel
theorem dX11_send_21 : decode cX11_send 21 = .ok (.aload_n 0, 1) := by decide +kernel
theorem dX11_send_22 : decode cX11_send 22 = .ok (.getfield 100, 3) := by decide +kernel
theorem dX11_send_25 : decode cX11_send 25 = .ok (.iload 8, 2) := by decide +kernel
theorem dX11_send_27 : decode cX11_send 27 = .ok (.iload_n 1, 1) := by decide +kernel
theorem dX11_send_28 : decode cX11_send 28 = .ok (.iastore, 1) := by decide +kernel
theorem dX11_send_29 : decode cX11_send 29 = .ok (.aload_n 0, 1) := by decide +kernel
theorem dX11_send_30 : decode cX11_send 30 = .ok (.getfield 100, 3) := by decide +kernel
theorem dX11_send_33 : decode cX11_send 33 = .ok (.iload 8, 2) := by decide +kernel
theorem dX11_send_35 : decode cX11_send 35 = .ok (.iconst 1, 1) := by decide +kernel
theorem dX11_send_36 : decode cX11_send 36 = .ok (.iadd, 1) := by decide +kernel
theorem dX11_send_37 : decode cX11_send 37 = .ok (.iload_n 2, 1) := by decide +kernel
theorem dX11_send_38 : decode cX11_send 38 = .ok (.iastore, 1) := by decide +kernel
theorem dX11_send_39 : decode cX11_send 39 = .ok (.aload_n 0, 1) := by decide +kernel
theorem dX11_send_40 : decode cX11_send 40 = .ok (.getfield 100, 3) := by decide +kernel
theorem dX11_send_43 : decode cX11_send 43 = .ok (.iload 8, 2) := by decide +kernel
theorem dX11_send_45 : decode cX11_send 45 = .ok (.iconst 2, 1) := by decide +kernel
theorem dX11_send_46 : decode cX11_send 46 = .ok (.iadd, 1) := by decide +kernel
theorem dX11_send_47 : decode cX11_send 47 = .ok (.iload_n 3, 1) := by decide +kernel
theorem dX11_send_48 : decode cX11_send 48 = .ok (.iastore, 1) := by decide +kernel
theorem dX11_send_49 : decode cX11_send 49 = .ok (.aload_n 0, 1) := by decide +kernel
theorem dX11_send_50 : decode cX11_send 50 = .ok (.getfield 100, 3) := by decide +kernel
theorem dX11_send_53 : decode cX11_send 53 = .ok (.iload 8, 2) := by decide +kernel
theorem dX11_send_55 : decode cX11_send 55 = .ok (.iconst 3, 1) := by decide +kernel
theorem dX11_send_56 : decode cX11_send 56 = .ok (.iadd, 1) := by decide +kernel
theorem dX11_send_57 : decode cX11_send 57 = .ok (.iload 4, 2) := by decide +kernel
theorem dX11_send_59 : decode cX11_send 59 = .ok (.iastore, 1) := by decide +kernel
theorem dX11_send_60 : decode cX11_send 60 = .ok (.aload_n 0, 1) := by decide +kernel
theorem dX11_send_61 : decode cX11_send 61 = .ok (.getfield 100, 3) := by decide +kernel
theorem dX11_send_64 : decode cX11_send 64 = .ok (.iload 8, 2) := by decide +kernel
theorem dX11_send_66 : decode cX11_send 66 = .ok (.iconst 4, 1) := by decide +kernel
theorem dX11_send_67 : decode cX11_send 67 = .ok (.iadd, 1) := by decide +kernel
theorem dX11_send_68 : decode cX11_send 68 = .ok (.iload 5, 2) := by decide +kernel
theorem dX11_send_70 : decode cX11_send 70 = .ok (.iastore, 1) := by decide +kernel
theorem dX11_send_71 : decode cX11_send 71 = .ok (.aload_n 0, 1) := by decide +kernel
theorem dX11_send_72 : decode cX11_send 72 = .ok (.getfield 100, 3) := by decide +kernel
theorem dX11_send_75 : decode cX11_send 75 = .ok (.iload 8, 2) := by decide +kernel
theorem dX11_send_77 : decode cX11_send 77 = .ok (.iconst 5, 1) := by decide +kernel
theorem dX11_send_78 : decode cX11_send 78 = .ok (.iadd, 1) := by decide +kernel
theorem dX11_send_79 : decode cX11_send 79 = .ok (.iload 6, 2) := by decide +kernel
theorem dX11_send_81 : decode cX11_send 81 = .ok (.iastore, 1) := by decide +kernel
theorem dX11_send_82 : decode cX11_send 82 = .ok (.aload_n 0, 1) := by decide +kernel
theorem dX11_send_83 : decode cX11_send 83 = .ok (.getfield 100, 3) := by decide +kernel
theorem dX11_send_86 : decode cX11_send 86 = .ok (.iload 8, 2) := by decide +kernel
theorem dX11_send_88 : decode cX11_send 88 = .ok (.bipush 6, 2) := by decide +kernel
theorem dX11_send_90 : decode cX11_send 90 = .ok (.iadd, 1) := by decide +kernel
theorem dX11_send_91 : decode cX11_send 91 = .ok (.iload 7, 2) := by decide +kernel
theorem dX11_send_93 : decode cX11_send 93 = .ok (.iastore, 1) := by decide +kernel
theorem dX11_send_94 : decode cX11_send 94 = .ok (.aload_n 0, 1) := by decide +kernel
theorem dX11_send_95 : decode cX11_send 95 = .ok (.getfield 100, 3) := by decide +kernel
theorem dX11_send_98 : decode cX11_send 98 = .ok (.iload 8, 2) := by decide +kernel
theorem dX11_send_100 : decode cX11_send 100 = .ok (.bipush 7, 2) := by decide +kernel
theorem dX11_send_102 : decode cX11_send 102 = .ok (.iadd, 1) := by decide +kernel
theorem dX11_send_103 : decode cX11_send 103 = .ok (.iconst 0, 1) := by decide +kernel
theorem dX11_send_104 : decode cX11_send 104 = .ok (.iastore, 1) := by decide +kernel
theorem dX11_send_105 : decode cX11_send 105 = .ok (.aload_n 0, 1) := by decide +kernel
theorem dX11_send_106 : decode cX11_send 106 = .ok (.getfield 103, 3) := by decide +kernel
theorem dX11_send_109 : decode cX11_send 109 = .ok (.aload_n 0, 1) := by decide +kernel
theorem dX11_send_110 : decode cX11_send 110 = .ok (.getfield 166, 3) := by decide +kernel
theorem dX11_send_113 : decode cX11_send 113 = .ok (.iconst 1, 1) := by decide +kernel
theorem dX11_send_114 : decode cX11_send 114 = .ok (.bastore, 1) := by decide +kernel
theorem dX11_send_115 : decode cX11_send 115 = .ok (.aload_n 0, 1) := by decide +kernel
theorem dX11_send_116 : decode cX11_send 116 = .ok (.dup, 1) := by decide +kernel
theorem dX11_send_117 : decode cX11_send 117 = .ok (.getfield 166, 3) := by decide +kernel
theorem dX11_send_120 : decode cX11_send 120 = .ok (.iconst 1, 1) := by decide +kernel
theorem dX11_send_121 : decode cX11_send 121 = .ok (.iadd, 1) := by decide +kernel
theorem dX11_send_122 : decode cX11_send 122 = .ok (.putfield 166, 3) := by decide +kernel
theorem dX11_send_125 : decode cX11_send 125 = .ok (.iconst 1, 1) := by decide +kernel
theorem dX11_send_126 : decode cX11_send 126 = .ok (.ireturn, 1) := by decide +kernel
set_option maxRecDepth 20000 in
theorem ggX11_giveBack_X11_isHold : GoodIn wsX11_giveBack wsX11_isHold := goodIn_r _ [10, 3, 11, 37, 38, 39, 40, 41, 42, 43, 44, 45, 46, 47, 48, 49, 50, 51, 52, 53, 54, 55, 56, 57, 58, 59, 60, 61, 62, 63, 64, 65, 66, 67, 68, 69, 70] (by decide +kernel) (by decide +kernel)
set_option maxRecDepth 20000 in
theorem gX11_giveBack_X11_isHold : GoodIn wsX11_giveBack (wsV RX11 153 RX11 yX11_isHold wsX11_isHold) := goodIn_app (goodIn_of _ (by decide +kernel)) ggX11_giveBack_X11_isHold
set_option maxRecDepth 20000 in
theorem ggX11_giveBack_X11_isLive : GoodIn wsX11_giveBack wsX11_isLive := goodIn_r _ [15, 2, 16, 17, 18, 9, 19, 20, 21, 22, 23, 24, 25, 26, 27, 28, 29, 37, 38, 39, 40, 41, 42, 43, 44, 45, 46, 47, 48, 49, 50, 51, 52, 53, 54, 55, 56, 57, 58, 59, 60, 61, 62, 63, 64, 65, 66, 67, 68, 69, 70] (by decide +kernel) (by decide +kernel)
set_option maxRecDepth 20000 in
theorem gX11_giveBack_X11_isLive : GoodIn wsX11_giveBack (wsV RX11 156 RX11 yX11_isLive wsX11_isLive) := goodIn_app (goodIn_of _ (by decide +kernel)) ggX11_giveBack_X11_isLive
set_option maxRecDepth 20000 in
theorem ggX11_giveBack_X11_age : GoodIn wsX11_giveBack wsX11_age := goodIn_r _ [19, 20, 21, 22, 23, 9, 24, 25, 26, 37, 38, 39, 40, 41, 42, 43, 44, 45, 46, 47, 48, 49, 50, 51, 52, 53, 54, 55, 56, 57, 58, 59, 60, 61, 62, 63, 64, 65, 66, 67, 68, 69, 70] (by decide +kernel) (by decide +kernel)
set_option maxRecDepth 20000 in
theorem gX11_giveBack_X11_age : GoodIn wsX11_giveBack (wsV RX11 146 RX11 yX11_age wsX11_age) := goodIn_app (goodIn_of _ (by decide +kernel)) ggX11_giveBack_X11_age
set_option maxRecDepth 20000 in
theorem ggX11_giveBack_X11_liveTime : GoodIn wsX11_giveBack wsX11_liveTime := goodIn_r _ [29] (by decide +kernel) (by decide +kernel)
set_option maxRecDepth 20000 in
theorem gX11_giveBack_X11_liveTime : GoodIn wsX11_giveBack (va_wsS RX11 150 yX11_liveTime wsX11_liveTime) := goodIn_app (goodIn_of _ (by decide +kernel)) ggX11_giveBack_X11_liveTime
set_option maxRecDepth 20000 in
theorem ggX11_giveBack_X11_send : GoodIn wsX11_giveBack wsX11_send := goodIn_r _ [33, 34, 35, 36, 37, 38, 39, 40, 41, 42, 43, 44, 45, 46, 47, 48, 49, 50, 51, 52, 53, 54, 55, 56, 57, 58, 59, 60, 61, 62, 63, 64, 65, 66, 67, 68, 69, 70] (by decide +kernel) (by decide +kernel)
set_option maxRecDepth 20000 in
theorem gX11_giveBack_X11_send : GoodIn wsX11_giveBack (wsV RX11 169 RX11 yX11_send wsX11_send) := goodIn_app (goodIn_of _ (by decide +kernel)) ggX11_giveBack_X11_send
theorem dX11_giveBack_0 : decode cX11_giveBack 0 = .ok (.iconst 0, 1) := by decide +kernel
theorem dX11_giveBack_1 : decode cX11_giveBack 1 = .ok (.istore_n 3, 1) := by decide +kernel
theorem dX11_giveBack_2 : decode cX11_giveBack 2 = .ok (.iconst 0, 1) := by decide +kernel
theorem dX11_giveBack_3 : decode cX11_giveBack 3 = .ok (.istore 4, 2) := by decide +kernel
theorem dX11_giveBack_5 : decode cX11_giveBack 5 = .ok (.iload 4, 2) := by decide +kernel
theorem dX11_giveBack_7 : decode cX11_giveBack 7 = .ok (.aload_n 0, 1) := by decide +kernel
theorem dX11_giveBack_8 : decode cX11_giveBack 8 = .ok (.getfield 111, 3) := by decide +kernel
theorem dX11_giveBack_11 : decode cX11_giveBack 11 = .ok (.if_icmp .ge 112, 3) := by decide +kernel
theorem dX11_giveBack_14 : decode cX11_giveBack 14 = .ok (.aload_n 0, 1) := by decide +kernel
theorem dX11_giveBack_15 : decode cX11_giveBack 15 = .ok (.iload_n 1, 1) := by decide +kernel
theorem dX11_giveBack_16 : decode cX11_giveBack 16 = .ok (.iload_n 2, 1) := by decide +kernel
theorem dX11_giveBack_17 : decode cX11_giveBack 17 = .ok (.iload 4, 2) := by decide +kernel
theorem dX11_giveBack_19 : decode cX11_giveBack 19 = .ok (.invokevirtual 153, 3) := by decide +kernel
theorem dX11_giveBack_22 : decode cX11_giveBack 22 = .ok (.ifCond .eq 95, 3) := by decide +kernel
theorem dX11_giveBack_25 : decode cX11_giveBack 25 = .ok (.aload_n 0, 1) := by decide +kernel
theorem dX11_giveBack_26 : decode cX11_giveBack 26 = .ok (.iload_n 1, 1) := by decide +kernel
theorem dX11_giveBack_27 : decode cX11_giveBack 27 = .ok (.iload 4, 2) := by decide +kernel
theorem dX11_giveBack_29 : decode cX11_giveBack 29 = .ok (.invokevirtual 156, 3) := by decide +kernel
theorem dX11_giveBack_32 : decode cX11_giveBack 32 = .ok (.istore 5, 2) := by decide +kernel
theorem dX11_giveBack_34 : decode cX11_giveBack 34 = .ok (.iconst 2, 1) := by decide +kernel
theorem dX11_giveBack_35 : decode cX11_giveBack 35 = .ok (.aload_n 0, 1) := by decide +kernel
theorem dX11_giveBack_36 : decode cX11_giveBack 36 = .ok (.iload_n 1, 1) := by decide +kernel
theorem dX11_giveBack_37 : decode cX11_giveBack 37 = .ok (.iload 4, 2) := by decide +kernel
theorem dX11_giveBack_39 : decode cX11_giveBack 39 = .ok (.invokevirtual 146, 3) := by decide +kernel
theorem dX11_giveBack_42 : decode cX11_giveBack 42 = .ok (.imul, 1) := by decide +kernel
theorem dX11_giveBack_43 : decode cX11_giveBack 43 = .ok (.aload_n 0, 1) := by decide +kernel
theorem dX11_giveBack_44 : decode cX11_giveBack 44 = .ok (.getfield 97, 3) := by decide +kernel
theorem dX11_giveBack_47 : decode cX11_giveBack 47 = .ok (.iload 4, 2) := by decide +kernel
theorem dX11_giveBack_49 : decode cX11_giveBack 49 = .ok (.iaload, 1) := by decide +kernel
theorem dX11_giveBack_50 : decode cX11_giveBack 50 = .ok (.invokestatic 150, 3) := by decide +kernel
theorem dX11_giveBack_53 : decode cX11_giveBack 53 = .ok (.if_icmp .lt 7, 3) := by decide +kernel
theorem dX11_giveBack_56 : decode cX11_giveBack 56 = .ok (.iconst 1, 1) := by decide +kernel
theorem dX11_giveBack_57 : decode cX11_giveBack 57 = .ok (.goto 4, 3) := by decide +kernel
theorem dX11_giveBack_60 : decode cX11_giveBack 60 = .ok (.iconst 0, 1) := by decide +kernel
theorem dX11_giveBack_61 : decode cX11_giveBack 61 = .ok (.istore 6, 2) := by decide +kernel
theorem dX11_giveBack_63 : decode cX11_giveBack 63 = .ok (.iload 5, 2) := by decide +kernel
theorem dX11_giveBack_65 : decode cX11_giveBack 65 = .ok (.ifCond .eq 8, 3) := by decide +kernel
theorem dX11_giveBack_68 : decode cX11_giveBack 68 = .ok (.iload 6, 2) := by decide +kernel
theorem dX11_giveBack_70 : decode cX11_giveBack 70 = .ok (.ifCond .eq 11, 3) := by decide +kernel
theorem dX11_giveBack_73 : decode cX11_giveBack 73 = .ok (.aload_n 0, 1) := by decide +kernel
theorem dX11_giveBack_74 : decode cX11_giveBack 74 = .ok (.getfield 88, 3) := by decide +kernel
theorem dX11_giveBack_77 : decode cX11_giveBack 77 = .ok (.iload 4, 2) := by decide +kernel
theorem dX11_giveBack_79 : decode cX11_giveBack 79 = .ok (.iconst 0, 1) := by decide +kernel
theorem dX11_giveBack_80 : decode cX11_giveBack 80 = .ok (.iastore, 1) := by decide +kernel
theorem dX11_giveBack_81 : decode cX11_giveBack 81 = .ok (.iload 5, 2) := by decide +kernel
theorem dX11_giveBack_83 : decode cX11_giveBack 83 = .ok (.ifCond .eq 34, 3) := by decide +kernel
theorem dX11_giveBack_86 : decode cX11_giveBack 86 = .ok (.iload 6, 2) := by decide +kernel
theorem dX11_giveBack_88 : decode cX11_giveBack 88 = .ok (.ifCond .eq 29, 3) := by decide +kernel
theorem dX11_giveBack_91 : decode cX11_giveBack 91 = .ok (.iload_n 3, 1) := by decide +kernel
theorem dX11_giveBack_92 : decode cX11_giveBack 92 = .ok (.aload_n 0, 1) := by decide +kernel
theorem dX11_giveBack_93 : decode cX11_giveBack 93 = .ok (.iconst 2, 1) := by decide +kernel
theorem dX11_giveBack_94 : decode cX11_giveBack 94 = .ok (.iload_n 1, 1) := by decide +kernel
theorem dX11_giveBack_95 : decode cX11_giveBack 95 = .ok (.iload_n 2, 1) := by decide +kernel
theorem dX11_giveBack_96 : decode cX11_giveBack 96 = .ok (.aload_n 0, 1) := by decide +kernel
theorem dX11_giveBack_97 : decode cX11_giveBack 97 = .ok (.getfield 91, 3) := by decide +kernel
theorem dX11_giveBack_100 : decode cX11_giveBack 100 = .ok (.iload 4, 2) := by decide +kernel
theorem dX11_giveBack_102 : decode cX11_giveBack 102 = .ok (.iaload, 1) := by decide +kernel
theorem dX11_giveBack_103 : decode cX11_giveBack 103 = .ok (.aload_n 0, 1) := by decide +kernel
theorem dX11_giveBack_104 : decode cX11_giveBack 104 = .ok (.getfield 67, 3) := by decide +kernel
theorem dX11_giveBack_107 : decode cX11_giveBack 107 = .ok (.iload_n 1, 1) := by decide +kernel
theorem dX11_giveBack_108 : decode cX11_giveBack 108 = .ok (.iaload, 1) := by decide +kernel
theorem dX11_giveBack_109 : decode cX11_giveBack 109 = .ok (.iconst (-1), 1) := by decide +kernel
theorem dX11_giveBack_110 : decode cX11_giveBack 110 = .ok (.iload 4, 2) := by decide +kernel
theorem dX11_giveBack_112 : decode cX11_giveBack 112 = .ok (.invokevirtual 169, 3) := by decide +kernel
theorem dX11_giveBack_115 : decode cX11_giveBack 115 = .ok (.iadd, 1) := by decide +kernel
theorem dX11_giveBack_116 : decode cX11_giveBack 116 = .ok (.istore_n 3, 1) := by decide +kernel
theorem dX11_giveBack_117 : decode cX11_giveBack 117 = .ok (.iinc 4 1, 3) := by decide +kernel
theorem dX11_giveBack_120 : decode cX11_giveBack 120 = .ok (.goto (-115), 3) := by decide +kernel
theorem dX11_giveBack_123 : decode cX11_giveBack 123 = .ok (.iload_n 3, 1) := by decide +kernel
theorem dX11_giveBack_124 : decode cX11_giveBack 124 = .ok (.ireturn, 1) := by decide +kernel
set_option maxRecDepth 20000 in
theorem ggX11_work_X11_isIn : GoodIn wsX11_work wsX11_isIn := goodIn_r _ [10] (by decide +kernel) (by decide +kernel)
set_option maxRecDepth 20000 in
theorem gX11_work_X11_isIn : GoodIn wsX11_work (va_wsS RX11 118 yX11_isIn wsX11_isIn) := goodIn_app (goodIn_of _ (by decide +kernel)) ggX11_work_X11_isIn
set_option maxRecDepth 20000 in
theorem ggX11_work_X11_refused : GoodIn wsX11_work wsX11_refused := goodIn_r _ [14, 15, 58, 59, 60, 61, 62, 63, 64, 65, 66, 67, 68, 69, 70, 71, 72, 73, 74, 75, 76, 77, 78, 79, 80, 81, 82, 83, 84, 85, 86, 87, 88, 89, 90, 91] (by decide +kernel) (by decide +kernel)
set_option maxRecDepth 20000 in
theorem gX11_work_X11_refused : GoodIn wsX11_work (wsV RX11 124 RX11 yX11_refused wsX11_refused) := goodIn_app (goodIn_of _ (by decide +kernel)) ggX11_work_X11_refused
set_option maxRecDepth 20000 in
theorem ggX11_work_X11_giveBack : GoodIn wsX11_work wsX11_giveBack := goodIn_r _ [19, 20, 21, 22, 23, 6, 24, 25, 26, 9, 27, 28, 29, 30, 31, 32, 33, 34, 35, 36, 37, 38, 39, 40, 41, 42, 43, 44, 45, 46, 47, 48, 49, 50, 51, 52, 53, 58, 59, 60, 61, 62, 63, 64, 65, 66, 67, 68, 69, 70, 71, 72, 73, 74, 75, 76, 77, 78, 79, 80, 81, 82, 83, 84, 85, 86, 87, 88, 89, 90, 91] (by decide +kernel) (by decide +kernel)
set_option maxRecDepth 20000 in
theorem gX11_work_X11_giveBack : GoodIn wsX11_work (wsV RX11 173 RX11 yX11_giveBack wsX11_giveBack) := goodIn_app (goodIn_of _ (by decide +kernel)) ggX11_work_X11_giveBack
set_option maxRecDepth 20000 in
theorem ggX11_work_X11_live : GoodIn wsX11_work wsX11_live := goodIn_r _ [57, 20, 23, 24, 25, 26, 9, 27, 22, 28, 29, 30, 31, 32, 21, 33, 34, 35, 36, 37, 38, 39, 40, 41, 42, 43, 44, 45, 46, 58, 59, 60, 61, 62, 63, 64, 65, 66, 67, 68, 69, 70, 71, 72, 73, 74, 75, 76, 77, 78, 79, 80, 81, 82, 83, 84, 85, 86, 87, 88, 89, 90, 91] (by decide +kernel) (by decide +kernel)
set_option maxRecDepth 20000 in
theorem gX11_work_X11_live : GoodIn wsX11_work (wsV RX11 163 RX11 yX11_live wsX11_live) := goodIn_app (goodIn_of _ (by decide +kernel)) ggX11_work_X11_live
set_option maxRecDepth 20000 in
theorem ggX11_work_X11_clockOf : GoodIn wsX11_work wsX11_clockOf := goodIn_r _ [41, 42, 43, 58, 59, 60, 61, 62, 63, 64, 65, 66, 67, 68, 69, 70, 71, 72, 73, 74, 75, 76, 77, 78, 79, 80, 81, 82, 83, 84, 85, 86, 87, 88, 89, 90, 91] (by decide +kernel) (by decide +kernel)
set_option maxRecDepth 20000 in
theorem gX11_work_X11_clockOf : GoodIn wsX11_work (wsV RX11 139 RX11 yX11_clockOf wsX11_clockOf) := goodIn_app (goodIn_of _ (by decide +kernel)) ggX11_work_X11_clockOf
set_option maxRecDepth 20000 in
theorem ggX11_work_X11_send : GoodIn wsX11_work wsX11_send := goodIn_r _ [50, 51, 52, 53, 58, 59, 60, 61, 62, 63, 64, 65, 66, 67, 68, 69, 70, 71, 72, 73, 74, 75, 76, 77, 78, 79, 80, 81, 82, 83, 84, 85, 86, 87, 88, 89, 90, 91] (by decide +kernel) (by decide +kernel)
set_option maxRecDepth 20000 in
theorem gX11_work_X11_send : GoodIn wsX11_work (wsV RX11 169 RX11 yX11_send wsX11_send) := goodIn_app (goodIn_of _ (by decide +kernel)) ggX11_work_X11_send
theorem dX11_work_0 : decode cX11_work 0 = .ok (.aload_n 0, 1) := by decide +kernel
theorem dX11_work_1 : decode cX11_work 1 = .ok (.iload_n 1, 1) := by decide +kernel
theorem dX11_work_2 : decode cX11_work 2 = .ok (.iconst 0, 1) := by decide +kernel
theorem dX11_work_3 : decode cX11_work 3 = .ok (.iconst 5, 1) := by decide +kernel
theorem dX11_work_4 : decode cX11_work 4 = .ok (.invokestatic 118, 3) := by decide +kernel
theorem dX11_work_7 : decode cX11_work 7 = .ok (.ifCond .eq 7, 3) := by decide +kernel
theorem dX11_work_10 : decode cX11_work 10 = .ok (.iconst 0, 1) := by decide +kernel
theorem dX11_work_11 : decode cX11_work 11 = .ok (.goto 4, 3) := by decide +kernel
theorem dX11_work_14 : decode cX11_work 14 = .ok (.iconst 1, 1) := by decide +kernel
theorem dX11_work_15 : decode cX11_work 15 = .ok (.invokevirtual 124, 3) := by decide +kernel
theorem dX11_work_18 : decode cX11_work 18 = .ok (.ifCond .eq 5, 3) := by decide +kernel
theorem dX11_work_21 : decode cX11_work 21 = .ok (.iconst 0, 1) := by decide +kernel
theorem dX11_work_22 : decode cX11_work 22 = .ok (.ireturn, 1) := by decide +kernel
theorem dX11_work_23 : decode cX11_work 23 = .ok (.iconst 0, 1) := by decide +kernel
theorem dX11_work_24 : decode cX11_work 24 = .ok (.istore_n 2, 1) := by decide +kernel
theorem dX11_work_25 : decode cX11_work 25 = .ok (.iconst 0, 1) := by decide +kernel
theorem dX11_work_26 : decode cX11_work 26 = .ok (.istore_n 3, 1) := by decide +kernel
theorem dX11_work_27 : decode cX11_work 27 = .ok (.iload_n 3, 1) := by decide +kernel
theorem dX11_work_28 : decode cX11_work 28 = .ok (.bipush 8, 2) := by decide +kernel
theorem dX11_work_30 : decode cX11_work 30 = .ok (.if_icmp .ge 167, 3) := by decide +kernel
theorem dX11_work_33 : decode cX11_work 33 = .ok (.iload_n 2, 1) := by decide +kernel
theorem dX11_work_34 : decode cX11_work 34 = .ok (.aload_n 0, 1) := by decide +kernel
theorem dX11_work_35 : decode cX11_work 35 = .ok (.iload_n 1, 1) := by decide +kernel
theorem dX11_work_36 : decode cX11_work 36 = .ok (.iload_n 3, 1) := by decide +kernel
theorem dX11_work_37 : decode cX11_work 37 = .ok (.invokevirtual 173, 3) := by decide +kernel
theorem dX11_work_40 : decode cX11_work 40 = .ok (.iadd, 1) := by decide +kernel
theorem dX11_work_41 : decode cX11_work 41 = .ok (.istore_n 2, 1) := by decide +kernel
theorem dX11_work_42 : decode cX11_work 42 = .ok (.bipush 8, 2) := by decide +kernel
theorem dX11_work_44 : decode cX11_work 44 = .ok (.iload_n 1, 1) := by decide +kernel
theorem dX11_work_45 : decode cX11_work 45 = .ok (.imul, 1) := by decide +kernel
theorem dX11_work_46 : decode cX11_work 46 = .ok (.iload_n 3, 1) := by decide +kernel
theorem dX11_work_47 : decode cX11_work 47 = .ok (.iadd, 1) := by decide +kernel
theorem dX11_work_48 : decode cX11_work 48 = .ok (.istore 4, 2) := by decide +kernel
theorem dX11_work_50 : decode cX11_work 50 = .ok (.aload_n 0, 1) := by decide +kernel
theorem dX11_work_51 : decode cX11_work 51 = .ok (.getfield 70, 3) := by decide +kernel
theorem dX11_work_54 : decode cX11_work 54 = .ok (.iload 4, 2) := by decide +kernel
theorem dX11_work_56 : decode cX11_work 56 = .ok (.aload_n 0, 1) := by decide +kernel
theorem dX11_work_57 : decode cX11_work 57 = .ok (.getfield 73, 3) := by decide +kernel
theorem dX11_work_60 : decode cX11_work 60 = .ok (.iload 4, 2) := by decide +kernel
theorem dX11_work_62 : decode cX11_work 62 = .ok (.iaload, 1) := by decide +kernel
theorem dX11_work_63 : decode cX11_work 63 = .ok (.aload_n 0, 1) := by decide +kernel
theorem dX11_work_64 : decode cX11_work 64 = .ok (.getfield 70, 3) := by decide +kernel
theorem dX11_work_67 : decode cX11_work 67 = .ok (.iload 4, 2) := by decide +kernel
theorem dX11_work_69 : decode cX11_work 69 = .ok (.iaload, 1) := by decide +kernel
theorem dX11_work_70 : decode cX11_work 70 = .ok (.iconst 2, 1) := by decide +kernel
theorem dX11_work_71 : decode cX11_work 71 = .ok (.idiv, 1) := by decide +kernel
theorem dX11_work_72 : decode cX11_work 72 = .ok (.iadd, 1) := by decide +kernel
theorem dX11_work_73 : decode cX11_work 73 = .ok (.iastore, 1) := by decide +kernel
theorem dX11_work_74 : decode cX11_work 74 = .ok (.aload_n 0, 1) := by decide +kernel
theorem dX11_work_75 : decode cX11_work 75 = .ok (.getfield 73, 3) := by decide +kernel
theorem dX11_work_78 : decode cX11_work 78 = .ok (.iload 4, 2) := by decide +kernel
theorem dX11_work_80 : decode cX11_work 80 = .ok (.iconst 0, 1) := by decide +kernel
theorem dX11_work_81 : decode cX11_work 81 = .ok (.iastore, 1) := by decide +kernel
theorem dX11_work_82 : decode cX11_work 82 = .ok (.iconst 2, 1) := by decide +kernel
theorem dX11_work_83 : decode cX11_work 83 = .ok (.aload_n 0, 1) := by decide +kernel
theorem dX11_work_84 : decode cX11_work 84 = .ok (.getfield 70, 3) := by decide +kernel
theorem dX11_work_87 : decode cX11_work 87 = .ok (.iload 4, 2) := by decide +kernel
theorem dX11_work_89 : decode cX11_work 89 = .ok (.iaload, 1) := by decide +kernel
theorem dX11_work_90 : decode cX11_work 90 = .ok (.imul, 1) := by decide +kernel
theorem dX11_work_91 : decode cX11_work 91 = .ok (.aload_n 0, 1) := by decide +kernel
theorem dX11_work_92 : decode cX11_work 92 = .ok (.iload_n 1, 1) := by decide +kernel
theorem dX11_work_93 : decode cX11_work 93 = .ok (.iload_n 3, 1) := by decide +kernel
theorem dX11_work_94 : decode cX11_work 94 = .ok (.invokevirtual 163, 3) := by decide +kernel
theorem dX11_work_97 : decode cX11_work 97 = .ok (.isub, 1) := by decide +kernel
theorem dX11_work_98 : decode cX11_work 98 = .ok (.istore 5, 2) := by decide +kernel
theorem dX11_work_100 : decode cX11_work 100 = .ok (.iload 5, 2) := by decide +kernel
theorem dX11_work_102 : decode cX11_work 102 = .ok (.ifCond .le 89, 3) := by decide +kernel
theorem dX11_work_105 : decode cX11_work 105 = .ok (.aload_n 0, 1) := by decide +kernel
theorem dX11_work_106 : decode cX11_work 106 = .ok (.getfield 79, 3) := by decide +kernel
theorem dX11_work_109 : decode cX11_work 109 = .ok (.iload 4, 2) := by decide +kernel
theorem dX11_work_111 : decode cX11_work 111 = .ok (.baload, 1) := by decide +kernel
theorem dX11_work_112 : decode cX11_work 112 = .ok (.ifCond .eq 22, 3) := by decide +kernel
theorem dX11_work_115 : decode cX11_work 115 = .ok (.aload_n 0, 1) := by decide +kernel
theorem dX11_work_116 : decode cX11_work 116 = .ok (.iload_n 1, 1) := by decide +kernel
theorem dX11_work_117 : decode cX11_work 117 = .ok (.invokevirtual 139, 3) := by decide +kernel
theorem dX11_work_120 : decode cX11_work 120 = .ok (.aload_n 0, 1) := by decide +kernel
theorem dX11_work_121 : decode cX11_work 121 = .ok (.getfield 82, 3) := by decide +kernel
theorem dX11_work_124 : decode cX11_work 124 = .ok (.iload 4, 2) := by decide +kernel
theorem dX11_work_126 : decode cX11_work 126 = .ok (.iaload, 1) := by decide +kernel
theorem dX11_work_127 : decode cX11_work 127 = .ok (.isub, 1) := by decide +kernel
theorem dX11_work_128 : decode cX11_work 128 = .ok (.sipush 500, 3) := by decide +kernel
theorem dX11_work_131 : decode cX11_work 131 = .ok (.if_icmp .lt 60, 3) := by decide +kernel
theorem dX11_work_134 : decode cX11_work 134 = .ok (.aload_n 0, 1) := by decide +kernel
theorem dX11_work_135 : decode cX11_work 135 = .ok (.getfield 76, 3) := by decide +kernel
theorem dX11_work_138 : decode cX11_work 138 = .ok (.iload 4, 2) := by decide +kernel
theorem dX11_work_140 : decode cX11_work 140 = .ok (.dup2, 1) := by decide +kernel
theorem dX11_work_141 : decode cX11_work 141 = .ok (.iaload, 1) := by decide +kernel
theorem dX11_work_142 : decode cX11_work 142 = .ok (.iconst 1, 1) := by decide +kernel
theorem dX11_work_143 : decode cX11_work 143 = .ok (.iadd, 1) := by decide +kernel
theorem dX11_work_144 : decode cX11_work 144 = .ok (.iastore, 1) := by decide +kernel
theorem dX11_work_145 : decode cX11_work 145 = .ok (.aload_n 0, 1) := by decide +kernel
theorem dX11_work_146 : decode cX11_work 146 = .ok (.getfield 79, 3) := by decide +kernel
theorem dX11_work_149 : decode cX11_work 149 = .ok (.iload 4, 2) := by decide +kernel
theorem dX11_work_151 : decode cX11_work 151 = .ok (.iconst 1, 1) := by decide +kernel
theorem dX11_work_152 : decode cX11_work 152 = .ok (.bastore, 1) := by decide +kernel
theorem dX11_work_153 : decode cX11_work 153 = .ok (.aload_n 0, 1) := by decide +kernel
theorem dX11_work_154 : decode cX11_work 154 = .ok (.getfield 82, 3) := by decide +kernel
theorem dX11_work_157 : decode cX11_work 157 = .ok (.iload 4, 2) := by decide +kernel
theorem dX11_work_159 : decode cX11_work 159 = .ok (.aload_n 0, 1) := by decide +kernel
theorem dX11_work_160 : decode cX11_work 160 = .ok (.iload_n 1, 1) := by decide +kernel
theorem dX11_work_161 : decode cX11_work 161 = .ok (.invokevirtual 139, 3) := by decide +kernel
theorem dX11_work_164 : decode cX11_work 164 = .ok (.iastore, 1) := by decide +kernel
theorem dX11_work_165 : decode cX11_work 165 = .ok (.iload_n 2, 1) := by decide +kernel
theorem dX11_work_166 : decode cX11_work 166 = .ok (.aload_n 0, 1) := by decide +kernel
theorem dX11_work_167 : decode cX11_work 167 = .ok (.iconst 0, 1) := by decide +kernel
theorem dX11_work_168 : decode cX11_work 168 = .ok (.iload_n 1, 1) := by decide +kernel
theorem dX11_work_169 : decode cX11_work 169 = .ok (.iload_n 3, 1) := by decide +kernel
theorem dX11_work_170 : decode cX11_work 170 = .ok (.iload 5, 2) := by decide +kernel
theorem dX11_work_172 : decode cX11_work 172 = .ok (.aload_n 0, 1) := by decide +kernel
theorem dX11_work_173 : decode cX11_work 173 = .ok (.getfield 67, 3) := by decide +kernel
theorem dX11_work_176 : decode cX11_work 176 = .ok (.iload_n 1, 1) := by decide +kernel
theorem dX11_work_177 : decode cX11_work 177 = .ok (.iaload, 1) := by decide +kernel
theorem dX11_work_178 : decode cX11_work 178 = .ok (.aload_n 0, 1) := by decide +kernel
theorem dX11_work_179 : decode cX11_work 179 = .ok (.getfield 76, 3) := by decide +kernel
theorem dX11_work_182 : decode cX11_work 182 = .ok (.iload 4, 2) := by decide +kernel
theorem dX11_work_184 : decode cX11_work 184 = .ok (.iaload, 1) := by decide +kernel
theorem dX11_work_185 : decode cX11_work 185 = .ok (.iconst (-1), 1) := by decide +kernel
theorem dX11_work_186 : decode cX11_work 186 = .ok (.invokevirtual 169, 3) := by decide +kernel
theorem dX11_work_189 : decode cX11_work 189 = .ok (.iadd, 1) := by decide +kernel
theorem dX11_work_190 : decode cX11_work 190 = .ok (.istore_n 2, 1) := by decide +kernel
theorem dX11_work_191 : decode cX11_work 191 = .ok (.iinc 3 1, 3) := by decide +kernel
theorem dX11_work_194 : decode cX11_work 194 = .ok (.goto (-167), 3) := by decide +kernel
theorem dX11_work_197 : decode cX11_work 197 = .ok (.iload_n 2, 1) := by decide +kernel
theorem dX11_work_198 : decode cX11_work 198 = .ok (.ireturn, 1) := by decide +kernel
set_option maxRecDepth 20000 in
theorem ggX11_restart_X11_isIn : GoodIn wsX11_restart wsX11_isIn := goodIn_r _ [13] (by decide +kernel) (by decide +kernel)
set_option maxRecDepth 20000 in
theorem gX11_restart_X11_isIn : GoodIn wsX11_restart (va_wsS RX11 118 yX11_isIn wsX11_isIn) := goodIn_app (goodIn_of _ (by decide +kernel)) ggX11_restart_X11_isIn
set_option maxRecDepth 20000 in
theorem ggX11_restart_X11_refused : GoodIn wsX11_restart wsX11_refused := goodIn_r _ [17, 18, 19, 20, 21, 22, 23, 24, 25, 26, 27, 28, 29, 30, 31, 32, 33, 34, 35, 36, 37, 38, 39, 40, 41, 42, 43, 44, 45, 46, 47, 48, 49, 50, 51, 52] (by decide +kernel) (by decide +kernel)
set_option maxRecDepth 20000 in
theorem gX11_restart_X11_refused : GoodIn wsX11_restart (wsV RX11 124 RX11 yX11_refused wsX11_refused) := goodIn_app (goodIn_of _ (by decide +kernel)) ggX11_restart_X11_refused
theorem dX11_restart_0 : decode cX11_restart 0 = .ok (.aload_n 0, 1) := by decide +kernel
theorem dX11_restart_1 : decode cX11_restart 1 = .ok (.iload_n 1, 1) := by decide +kernel
theorem dX11_restart_2 : decode cX11_restart 2 = .ok (.iconst 0, 1) := by decide +kernel
theorem dX11_restart_3 : decode cX11_restart 3 = .ok (.iconst 5, 1) := by decide +kernel
theorem dX11_restart_4 : decode cX11_restart 4 = .ok (.invokestatic 118, 3) := by decide +kernel
theorem dX11_restart_7 : decode cX11_restart 7 = .ok (.ifCond .eq 7, 3) := by decide +kernel
theorem dX11_restart_10 : decode cX11_restart 10 = .ok (.iconst 0, 1) := by decide +kernel
theorem dX11_restart_11 : decode cX11_restart 11 = .ok (.goto 4, 3) := by decide +kernel
theorem dX11_restart_14 : decode cX11_restart 14 = .ok (.iconst 1, 1) := by decide +kernel
theorem dX11_restart_15 : decode cX11_restart 15 = .ok (.invokevirtual 124, 3) := by decide +kernel
theorem dX11_restart_18 : decode cX11_restart 18 = .ok (.ifCond .eq 5, 3) := by decide +kernel
theorem dX11_restart_21 : decode cX11_restart 21 = .ok (.iconst 0, 1) := by decide +kernel
theorem dX11_restart_22 : decode cX11_restart 22 = .ok (.ireturn, 1) := by decide +kernel
theorem dX11_restart_23 : decode cX11_restart 23 = .ok (.aload_n 0, 1) := by decide +kernel
theorem dX11_restart_24 : decode cX11_restart 24 = .ok (.getfield 67, 3) := by decide +kernel
theorem dX11_restart_27 : decode cX11_restart 27 = .ok (.iload_n 1, 1) := by decide +kernel
theorem dX11_restart_28 : decode cX11_restart 28 = .ok (.dup2, 1) := by decide +kernel
theorem dX11_restart_29 : decode cX11_restart 29 = .ok (.iaload, 1) := by decide +kernel
theorem dX11_restart_30 : decode cX11_restart 30 = .ok (.iconst 1, 1) := by decide +kernel
theorem dX11_restart_31 : decode cX11_restart 31 = .ok (.iadd, 1) := by decide +kernel
theorem dX11_restart_32 : decode cX11_restart 32 = .ok (.iastore, 1) := by decide +kernel
theorem dX11_restart_33 : decode cX11_restart 33 = .ok (.iconst 0, 1) := by decide +kernel
theorem dX11_restart_34 : decode cX11_restart 34 = .ok (.istore_n 2, 1) := by decide +kernel
theorem dX11_restart_35 : decode cX11_restart 35 = .ok (.iload_n 2, 1) := by decide +kernel
theorem dX11_restart_36 : decode cX11_restart 36 = .ok (.aload_n 0, 1) := by decide +kernel
theorem dX11_restart_37 : decode cX11_restart 37 = .ok (.getfield 111, 3) := by decide +kernel
theorem dX11_restart_40 : decode cX11_restart 40 = .ok (.if_icmp .ge 37, 3) := by decide +kernel
theorem dX11_restart_43 : decode cX11_restart 43 = .ok (.aload_n 0, 1) := by decide +kernel
theorem dX11_restart_44 : decode cX11_restart 44 = .ok (.getfield 88, 3) := by decide +kernel
theorem dX11_restart_47 : decode cX11_restart 47 = .ok (.iload_n 2, 1) := by decide +kernel
theorem dX11_restart_48 : decode cX11_restart 48 = .ok (.aload_n 0, 1) := by decide +kernel
theorem dX11_restart_49 : decode cX11_restart 49 = .ok (.getfield 88, 3) := by decide +kernel
theorem dX11_restart_52 : decode cX11_restart 52 = .ok (.iload_n 2, 1) := by decide +kernel
theorem dX11_restart_53 : decode cX11_restart 53 = .ok (.iaload, 1) := by decide +kernel
theorem dX11_restart_54 : decode cX11_restart 54 = .ok (.iload_n 1, 1) := by decide +kernel
theorem dX11_restart_55 : decode cX11_restart 55 = .ok (.iconst 1, 1) := by decide +kernel
theorem dX11_restart_56 : decode cX11_restart 56 = .ok (.iadd, 1) := by decide +kernel
theorem dX11_restart_57 : decode cX11_restart 57 = .ok (.if_icmp .ne 7, 3) := by decide +kernel
theorem dX11_restart_60 : decode cX11_restart 60 = .ok (.iconst 0, 1) := by decide +kernel
theorem dX11_restart_61 : decode cX11_restart 61 = .ok (.goto 9, 3) := by decide +kernel
theorem dX11_restart_64 : decode cX11_restart 64 = .ok (.aload_n 0, 1) := by decide +kernel
theorem dX11_restart_65 : decode cX11_restart 65 = .ok (.getfield 88, 3) := by decide +kernel
theorem dX11_restart_68 : decode cX11_restart 68 = .ok (.iload_n 2, 1) := by decide +kernel
theorem dX11_restart_69 : decode cX11_restart 69 = .ok (.iaload, 1) := by decide +kernel
theorem dX11_restart_70 : decode cX11_restart 70 = .ok (.iastore, 1) := by decide +kernel
theorem dX11_restart_71 : decode cX11_restart 71 = .ok (.iinc 2 1, 3) := by decide +kernel
theorem dX11_restart_74 : decode cX11_restart 74 = .ok (.goto (-39), 3) := by decide +kernel
theorem dX11_restart_77 : decode cX11_restart 77 = .ok (.bipush 8, 2) := by decide +kernel
theorem dX11_restart_79 : decode cX11_restart 79 = .ok (.iload_n 1, 1) := by decide +kernel
theorem dX11_restart_80 : decode cX11_restart 80 = .ok (.imul, 1) := by decide +kernel
theorem dX11_restart_81 : decode cX11_restart 81 = .ok (.istore_n 2, 1) := by decide +kernel
theorem dX11_restart_82 : decode cX11_restart 82 = .ok (.iload_n 2, 1) := by decide +kernel
theorem dX11_restart_83 : decode cX11_restart 83 = .ok (.bipush 8, 2) := by decide +kernel
theorem dX11_restart_85 : decode cX11_restart 85 = .ok (.iload_n 1, 1) := by decide +kernel
theorem dX11_restart_86 : decode cX11_restart 86 = .ok (.imul, 1) := by decide +kernel
theorem dX11_restart_87 : decode cX11_restart 87 = .ok (.bipush 8, 2) := by decide +kernel
theorem dX11_restart_89 : decode cX11_restart 89 = .ok (.iadd, 1) := by decide +kernel
theorem dX11_restart_90 : decode cX11_restart 90 = .ok (.if_icmp .ge 51, 3) := by decide +kernel
theorem dX11_restart_93 : decode cX11_restart 93 = .ok (.aload_n 0, 1) := by decide +kernel
theorem dX11_restart_94 : decode cX11_restart 94 = .ok (.getfield 70, 3) := by decide +kernel
theorem dX11_restart_97 : decode cX11_restart 97 = .ok (.iload_n 2, 1) := by decide +kernel
theorem dX11_restart_98 : decode cX11_restart 98 = .ok (.iconst 0, 1) := by decide +kernel
theorem dX11_restart_99 : decode cX11_restart 99 = .ok (.iastore, 1) := by decide +kernel
theorem dX11_restart_100 : decode cX11_restart 100 = .ok (.aload_n 0, 1) := by decide +kernel
theorem dX11_restart_101 : decode cX11_restart 101 = .ok (.getfield 73, 3) := by decide +kernel
theorem dX11_restart_104 : decode cX11_restart 104 = .ok (.iload_n 2, 1) := by decide +kernel
theorem dX11_restart_105 : decode cX11_restart 105 = .ok (.iconst 0, 1) := by decide +kernel
theorem dX11_restart_106 : decode cX11_restart 106 = .ok (.iastore, 1) := by decide +kernel
theorem dX11_restart_107 : decode cX11_restart 107 = .ok (.aload_n 0, 1) := by decide +kernel
theorem dX11_restart_108 : decode cX11_restart 108 = .ok (.getfield 76, 3) := by decide +kernel
theorem dX11_restart_111 : decode cX11_restart 111 = .ok (.iload_n 2, 1) := by decide +kernel
theorem dX11_restart_112 : decode cX11_restart 112 = .ok (.iconst 0, 1) := by decide +kernel
theorem dX11_restart_113 : decode cX11_restart 113 = .ok (.iastore, 1) := by decide +kernel
theorem dX11_restart_114 : decode cX11_restart 114 = .ok (.aload_n 0, 1) := by decide +kernel
theorem dX11_restart_115 : decode cX11_restart 115 = .ok (.getfield 79, 3) := by decide +kernel
theorem dX11_restart_118 : decode cX11_restart 118 = .ok (.iload_n 2, 1) := by decide +kernel
theorem dX11_restart_119 : decode cX11_restart 119 = .ok (.iconst 0, 1) := by decide +kernel
theorem dX11_restart_120 : decode cX11_restart 120 = .ok (.bastore, 1) := by decide +kernel
theorem dX11_restart_121 : decode cX11_restart 121 = .ok (.aload_n 0, 1) := by decide +kernel
theorem dX11_restart_122 : decode cX11_restart 122 = .ok (.getfield 82, 3) := by decide +kernel
theorem dX11_restart_125 : decode cX11_restart 125 = .ok (.iload_n 2, 1) := by decide +kernel
theorem dX11_restart_126 : decode cX11_restart 126 = .ok (.iconst 0, 1) := by decide +kernel
theorem dX11_restart_127 : decode cX11_restart 127 = .ok (.iastore, 1) := by decide +kernel
theorem dX11_restart_128 : decode cX11_restart 128 = .ok (.aload_n 0, 1) := by decide +kernel
theorem dX11_restart_129 : decode cX11_restart 129 = .ok (.getfield 85, 3) := by decide +kernel
theorem dX11_restart_132 : decode cX11_restart 132 = .ok (.iload_n 2, 1) := by decide +kernel
theorem dX11_restart_133 : decode cX11_restart 133 = .ok (.iconst 0, 1) := by decide +kernel
theorem dX11_restart_134 : decode cX11_restart 134 = .ok (.iastore, 1) := by decide +kernel
theorem dX11_restart_135 : decode cX11_restart 135 = .ok (.iinc 2 1, 3) := by decide +kernel
theorem dX11_restart_138 : decode cX11_restart 138 = .ok (.goto (-56), 3) := by decide +kernel
theorem dX11_restart_141 : decode cX11_restart 141 = .ok (.aload_n 0, 1) := by decide +kernel
theorem dX11_restart_142 : decode cX11_restart 142 = .ok (.getfield 67, 3) := by decide +kernel
theorem dX11_restart_145 : decode cX11_restart 145 = .ok (.iload_n 1, 1) := by decide +kernel
theorem dX11_restart_146 : decode cX11_restart 146 = .ok (.iaload, 1) := by decide +kernel
theorem dX11_restart_147 : decode cX11_restart 147 = .ok (.ireturn, 1) := by decide +kernel
theorem dX11_isMessage_0 : decode cX11_isMessage 0 = .ok (.iload_n 1, 1) := by decide +kernel
theorem dX11_isMessage_1 : decode cX11_isMessage 1 = .ok (.ifCond .lt 24, 3) := by decide +kernel
theorem dX11_isMessage_4 : decode cX11_isMessage 4 = .ok (.iload_n 1, 1) := by decide +kernel
theorem dX11_isMessage_5 : decode cX11_isMessage 5 = .ok (.aload_n 0, 1) := by decide +kernel
theorem dX11_isMessage_6 : decode cX11_isMessage 6 = .ok (.getfield 166, 3) := by decide +kernel
theorem dX11_isMessage_9 : decode cX11_isMessage 9 = .ok (.if_icmp .ge 16, 3) := by decide +kernel
theorem dX11_isMessage_12 : decode cX11_isMessage 12 = .ok (.aload_n 0, 1) := by decide +kernel
theorem dX11_isMessage_13 : decode cX11_isMessage 13 = .ok (.getfield 103, 3) := by decide +kernel
theorem dX11_isMessage_16 : decode cX11_isMessage 16 = .ok (.iload_n 1, 1) := by decide +kernel
theorem dX11_isMessage_17 : decode cX11_isMessage 17 = .ok (.baload, 1) := by decide +kernel
theorem dX11_isMessage_18 : decode cX11_isMessage 18 = .ok (.ifCond .eq 7, 3) := by decide +kernel
theorem dX11_isMessage_21 : decode cX11_isMessage 21 = .ok (.iconst 1, 1) := by decide +kernel
theorem dX11_isMessage_22 : decode cX11_isMessage 22 = .ok (.goto 4, 3) := by decide +kernel
theorem dX11_isMessage_25 : decode cX11_isMessage 25 = .ok (.iconst 0, 1) := by decide +kernel
theorem dX11_isMessage_26 : decode cX11_isMessage 26 = .ok (.ireturn, 1) := by decide +kernel
set_option maxRecDepth 20000 in
theorem ggX11_sendGrant_X11_send : GoodIn wsX11_sendGrant wsX11_send := goodIn_r _ [12, 1, 6, 13, 14, 15, 16, 17, 18, 19, 20, 21, 22, 23, 24, 25, 26, 27, 28, 29, 30, 31, 32, 33, 34, 35, 36, 37, 38, 39, 40, 41, 42, 43, 44, 45, 46, 47] (by decide +kernel) (by decide +kernel)
set_option maxRecDepth 20000 in
theorem gX11_sendGrant_X11_send : GoodIn wsX11_sendGrant (wsV RX11 169 RX11 yX11_send wsX11_send) := goodIn_app (goodIn_of _ (by decide +kernel)) ggX11_sendGrant_X11_send
theorem dX11_sendGrant_0 : decode cX11_sendGrant 0 = .ok (.bipush 8, 2) := by decide +kernel
theorem dX11_sendGrant_2 : decode cX11_sendGrant 2 = .ok (.iload_n 1, 1) := by decide +kernel
theorem dX11_sendGrant_3 : decode cX11_sendGrant 3 = .ok (.imul, 1) := by decide +kernel
theorem dX11_sendGrant_4 : decode cX11_sendGrant 4 = .ok (.iload_n 2, 1) := by decide +kernel
theorem dX11_sendGrant_5 : decode cX11_sendGrant 5 = .ok (.iadd, 1) := by decide +kernel
theorem dX11_sendGrant_6 : decode cX11_sendGrant 6 = .ok (.istore_n 3, 1) := by decide +kernel
theorem dX11_sendGrant_7 : decode cX11_sendGrant 7 = .ok (.aload_n 0, 1) := by decide +kernel
theorem dX11_sendGrant_8 : decode cX11_sendGrant 8 = .ok (.getfield 166, 3) := by decide +kernel
theorem dX11_sendGrant_11 : decode cX11_sendGrant 11 = .ok (.istore 4, 2) := by decide +kernel
theorem dX11_sendGrant_13 : decode cX11_sendGrant 13 = .ok (.aload_n 0, 1) := by decide +kernel
theorem dX11_sendGrant_14 : decode cX11_sendGrant 14 = .ok (.iconst 1, 1) := by decide +kernel
theorem dX11_sendGrant_15 : decode cX11_sendGrant 15 = .ok (.iload_n 1, 1) := by decide +kernel
theorem dX11_sendGrant_16 : decode cX11_sendGrant 16 = .ok (.iload_n 2, 1) := by decide +kernel
theorem dX11_sendGrant_17 : decode cX11_sendGrant 17 = .ok (.aload_n 0, 1) := by decide +kernel
theorem dX11_sendGrant_18 : decode cX11_sendGrant 18 = .ok (.getfield 51, 3) := by decide +kernel
theorem dX11_sendGrant_21 : decode cX11_sendGrant 21 = .ok (.iload_n 3, 1) := by decide +kernel
theorem dX11_sendGrant_22 : decode cX11_sendGrant 22 = .ok (.iaload, 1) := by decide +kernel
theorem dX11_sendGrant_23 : decode cX11_sendGrant 23 = .ok (.aload_n 0, 1) := by decide +kernel
theorem dX11_sendGrant_24 : decode cX11_sendGrant 24 = .ok (.getfield 42, 3) := by decide +kernel
theorem dX11_sendGrant_27 : decode cX11_sendGrant 27 = .ok (.iload_n 1, 1) := by decide +kernel
theorem dX11_sendGrant_28 : decode cX11_sendGrant 28 = .ok (.iaload, 1) := by decide +kernel
theorem dX11_sendGrant_29 : decode cX11_sendGrant 29 = .ok (.aload_n 0, 1) := by decide +kernel
theorem dX11_sendGrant_30 : decode cX11_sendGrant 30 = .ok (.getfield 45, 3) := by decide +kernel
theorem dX11_sendGrant_33 : decode cX11_sendGrant 33 = .ok (.iload_n 3, 1) := by decide +kernel
theorem dX11_sendGrant_34 : decode cX11_sendGrant 34 = .ok (.iaload, 1) := by decide +kernel
theorem dX11_sendGrant_35 : decode cX11_sendGrant 35 = .ok (.aload_n 0, 1) := by decide +kernel
theorem dX11_sendGrant_36 : decode cX11_sendGrant 36 = .ok (.getfield 48, 3) := by decide +kernel
theorem dX11_sendGrant_39 : decode cX11_sendGrant 39 = .ok (.iload_n 3, 1) := by decide +kernel
theorem dX11_sendGrant_40 : decode cX11_sendGrant 40 = .ok (.iaload, 1) := by decide +kernel
theorem dX11_sendGrant_41 : decode cX11_sendGrant 41 = .ok (.invokevirtual 169, 3) := by decide +kernel
theorem dX11_sendGrant_44 : decode cX11_sendGrant 44 = .ok (.ifCond .le 22, 3) := by decide +kernel
theorem dX11_sendGrant_47 : decode cX11_sendGrant 47 = .ok (.aload_n 0, 1) := by decide +kernel
theorem dX11_sendGrant_48 : decode cX11_sendGrant 48 = .ok (.getfield 100, 3) := by decide +kernel
theorem dX11_sendGrant_51 : decode cX11_sendGrant 51 = .ok (.bipush 8, 2) := by decide +kernel
theorem dX11_sendGrant_53 : decode cX11_sendGrant 53 = .ok (.iload 4, 2) := by decide +kernel
theorem dX11_sendGrant_55 : decode cX11_sendGrant 55 = .ok (.imul, 1) := by decide +kernel
theorem dX11_sendGrant_56 : decode cX11_sendGrant 56 = .ok (.bipush 7, 2) := by decide +kernel
theorem dX11_sendGrant_58 : decode cX11_sendGrant 58 = .ok (.iadd, 1) := by decide +kernel
theorem dX11_sendGrant_59 : decode cX11_sendGrant 59 = .ok (.aload_n 0, 1) := by decide +kernel
theorem dX11_sendGrant_60 : decode cX11_sendGrant 60 = .ok (.getfield 54, 3) := by decide +kernel
theorem dX11_sendGrant_63 : decode cX11_sendGrant 63 = .ok (.iload_n 3, 1) := by decide +kernel
theorem dX11_sendGrant_64 : decode cX11_sendGrant 64 = .ok (.iaload, 1) := by decide +kernel
theorem dX11_sendGrant_65 : decode cX11_sendGrant 65 = .ok (.iastore, 1) := by decide +kernel
theorem dX11_sendGrant_66 : decode cX11_sendGrant 66 = .ok (.return_, 1) := by decide +kernel
set_option maxRecDepth 20000 in
theorem ggX11_asks_X11_answer : GoodIn wsX11_asks wsX11_answer := goodIn_r _ [7, 8, 9, 10, 11, 12, 2, 13, 14, 15, 16, 17, 18, 19, 20, 21, 22, 23, 6, 24, 25, 37, 38, 39, 40, 41, 42, 43, 44, 45, 46, 47, 48, 49, 50, 51, 52, 53, 54, 55, 56, 57, 58, 59, 60, 61, 62, 63, 64, 65, 66, 67, 68, 69, 70] (by decide +kernel) (by decide +kernel)
set_option maxRecDepth 20000 in
theorem gX11_asks_X11_answer : GoodIn wsX11_asks (wsV RX11 176 RX11 yX11_answer wsX11_answer) := goodIn_app (goodIn_of _ (by decide +kernel)) ggX11_asks_X11_answer
set_option maxRecDepth 20000 in
theorem ggX11_asks_X11_sendGrant : GoodIn wsX11_asks wsX11_sendGrant := goodIn_r _ [29, 30, 13, 1, 2, 16, 31, 14, 32, 33, 34, 6, 35, 36, 37, 38, 39, 40, 41, 42, 43, 44, 45, 46, 47, 48, 49, 50, 51, 52, 53, 54, 55, 56, 57, 58, 59, 60, 61, 62, 63, 64, 65, 66, 67, 68, 69, 70] (by decide +kernel) (by decide +kernel)
set_option maxRecDepth 20000 in
theorem gX11_asks_X11_sendGrant : GoodIn wsX11_asks (wsV RX11 180 RX11 yX11_sendGrant wsX11_sendGrant) := goodIn_app (goodIn_of _ (by decide +kernel)) ggX11_asks_X11_sendGrant
theorem dX11_asks_0 : decode cX11_asks 0 = .ok (.iload 4, 2) := by decide +kernel
theorem dX11_asks_2 : decode cX11_asks 2 = .ok (.aload_n 0, 1) := by decide +kernel
theorem dX11_asks_3 : decode cX11_asks 3 = .ok (.getfield 42, 3) := by decide +kernel
theorem dX11_asks_6 : decode cX11_asks 6 = .ok (.iload_n 1, 1) := by decide +kernel
theorem dX11_asks_7 : decode cX11_asks 7 = .ok (.iaload, 1) := by decide +kernel
theorem dX11_asks_8 : decode cX11_asks 8 = .ok (.if_icmp .ge 5, 3) := by decide +kernel
theorem dX11_asks_11 : decode cX11_asks 11 = .ok (.iconst 0, 1) := by decide +kernel
theorem dX11_asks_12 : decode cX11_asks 12 = .ok (.ireturn, 1) := by decide +kernel
theorem dX11_asks_13 : decode cX11_asks 13 = .ok (.iload 4, 2) := by decide +kernel
theorem dX11_asks_15 : decode cX11_asks 15 = .ok (.aload_n 0, 1) := by decide +kernel
theorem dX11_asks_16 : decode cX11_asks 16 = .ok (.getfield 42, 3) := by decide +kernel
theorem dX11_asks_19 : decode cX11_asks 19 = .ok (.iload_n 1, 1) := by decide +kernel
theorem dX11_asks_20 : decode cX11_asks 20 = .ok (.iaload, 1) := by decide +kernel
theorem dX11_asks_21 : decode cX11_asks 21 = .ok (.if_icmp .le 43, 3) := by decide +kernel
theorem dX11_asks_24 : decode cX11_asks 24 = .ok (.aload_n 0, 1) := by decide +kernel
theorem dX11_asks_25 : decode cX11_asks 25 = .ok (.getfield 42, 3) := by decide +kernel
theorem dX11_asks_28 : decode cX11_asks 28 = .ok (.iload_n 1, 1) := by decide +kernel
theorem dX11_asks_29 : decode cX11_asks 29 = .ok (.iload 4, 2) := by decide +kernel
theorem dX11_asks_31 : decode cX11_asks 31 = .ok (.iastore, 1) := by decide +kernel
theorem dX11_asks_32 : decode cX11_asks 32 = .ok (.bipush 8, 2) := by decide +kernel
theorem dX11_asks_34 : decode cX11_asks 34 = .ok (.iload_n 1, 1) := by decide +kernel
theorem dX11_asks_35 : decode cX11_asks 35 = .ok (.imul, 1) := by decide +kernel
theorem dX11_asks_36 : decode cX11_asks 36 = .ok (.istore 6, 2) := by decide +kernel
theorem dX11_asks_38 : decode cX11_asks 38 = .ok (.iload 6, 2) := by decide +kernel
theorem dX11_asks_40 : decode cX11_asks 40 = .ok (.bipush 8, 2) := by decide +kernel
theorem dX11_asks_42 : decode cX11_asks 42 = .ok (.iload_n 1, 1) := by decide +kernel
theorem dX11_asks_43 : decode cX11_asks 43 = .ok (.imul, 1) := by decide +kernel
theorem dX11_asks_44 : decode cX11_asks 44 = .ok (.bipush 8, 2) := by decide +kernel
theorem dX11_asks_46 : decode cX11_asks 46 = .ok (.iadd, 1) := by decide +kernel
theorem dX11_asks_47 : decode cX11_asks 47 = .ok (.if_icmp .ge 17, 3) := by decide +kernel
theorem dX11_asks_50 : decode cX11_asks 50 = .ok (.aload_n 0, 1) := by decide +kernel
theorem dX11_asks_51 : decode cX11_asks 51 = .ok (.getfield 45, 3) := by decide +kernel
theorem dX11_asks_54 : decode cX11_asks 54 = .ok (.iload 6, 2) := by decide +kernel
theorem dX11_asks_56 : decode cX11_asks 56 = .ok (.iconst (-1), 1) := by decide +kernel
theorem dX11_asks_57 : decode cX11_asks 57 = .ok (.iastore, 1) := by decide +kernel
theorem dX11_asks_58 : decode cX11_asks 58 = .ok (.iinc 6 1, 3) := by decide +kernel
theorem dX11_asks_61 : decode cX11_asks 61 = .ok (.goto (-23), 3) := by decide +kernel
theorem dX11_asks_64 : decode cX11_asks 64 = .ok (.bipush 8, 2) := by decide +kernel
theorem dX11_asks_66 : decode cX11_asks 66 = .ok (.iload_n 1, 1) := by decide +kernel
theorem dX11_asks_67 : decode cX11_asks 67 = .ok (.imul, 1) := by decide +kernel
theorem dX11_asks_68 : decode cX11_asks 68 = .ok (.iload_n 2, 1) := by decide +kernel
theorem dX11_asks_69 : decode cX11_asks 69 = .ok (.iadd, 1) := by decide +kernel
theorem dX11_asks_70 : decode cX11_asks 70 = .ok (.istore 6, 2) := by decide +kernel
theorem dX11_asks_72 : decode cX11_asks 72 = .ok (.iload 5, 2) := by decide +kernel
theorem dX11_asks_74 : decode cX11_asks 74 = .ok (.aload_n 0, 1) := by decide +kernel
theorem dX11_asks_75 : decode cX11_asks 75 = .ok (.getfield 45, 3) := by decide +kernel
theorem dX11_asks_78 : decode cX11_asks 78 = .ok (.iload 6, 2) := by decide +kernel
theorem dX11_asks_80 : decode cX11_asks 80 = .ok (.iaload, 1) := by decide +kernel
theorem dX11_asks_81 : decode cX11_asks 81 = .ok (.if_icmp .ge 5, 3) := by decide +kernel
theorem dX11_asks_84 : decode cX11_asks 84 = .ok (.iconst 0, 1) := by decide +kernel
theorem dX11_asks_85 : decode cX11_asks 85 = .ok (.ireturn, 1) := by decide +kernel
theorem dX11_asks_86 : decode cX11_asks 86 = .ok (.iload 5, 2) := by decide +kernel
theorem dX11_asks_88 : decode cX11_asks 88 = .ok (.aload_n 0, 1) := by decide +kernel
theorem dX11_asks_89 : decode cX11_asks 89 = .ok (.getfield 45, 3) := by decide +kernel
theorem dX11_asks_92 : decode cX11_asks 92 = .ok (.iload 6, 2) := by decide +kernel
theorem dX11_asks_94 : decode cX11_asks 94 = .ok (.iaload, 1) := by decide +kernel
theorem dX11_asks_95 : decode cX11_asks 95 = .ok (.if_icmp .le 12, 3) := by decide +kernel
theorem dX11_asks_98 : decode cX11_asks 98 = .ok (.aload_n 0, 1) := by decide +kernel
theorem dX11_asks_99 : decode cX11_asks 99 = .ok (.iload_n 1, 1) := by decide +kernel
theorem dX11_asks_100 : decode cX11_asks 100 = .ok (.iload_n 2, 1) := by decide +kernel
theorem dX11_asks_101 : decode cX11_asks 101 = .ok (.iload_n 3, 1) := by decide +kernel
theorem dX11_asks_102 : decode cX11_asks 102 = .ok (.iload 5, 2) := by decide +kernel
theorem dX11_asks_104 : decode cX11_asks 104 = .ok (.invokevirtual 176, 3) := by decide +kernel
theorem dX11_asks_107 : decode cX11_asks 107 = .ok (.aload_n 0, 1) := by decide +kernel
theorem dX11_asks_108 : decode cX11_asks 108 = .ok (.iload_n 1, 1) := by decide +kernel
theorem dX11_asks_109 : decode cX11_asks 109 = .ok (.iload_n 2, 1) := by decide +kernel
theorem dX11_asks_110 : decode cX11_asks 110 = .ok (.invokevirtual 180, 3) := by decide +kernel
theorem dX11_asks_113 : decode cX11_asks 113 = .ok (.iconst 1, 1) := by decide +kernel
theorem dX11_asks_114 : decode cX11_asks 114 = .ok (.ireturn, 1) := by decide +kernel
set_option maxRecDepth 20000 in
theorem ggX11_answer_X11_clockOf : GoodIn wsX11_answer wsX11_clockOf := goodIn_r _ [19, 20, 4, 21, 22, 23, 24, 25, 26, 27, 28, 29, 30, 31, 32, 33, 34, 35, 36, 37, 38, 39, 40, 41, 42, 43, 44, 45, 46, 47, 48, 49, 50, 51, 52, 53, 54] (by decide +kernel) (by decide +kernel)
set_option maxRecDepth 20000 in
theorem gX11_answer_X11_clockOf : GoodIn wsX11_answer (wsV RX11 139 RX11 yX11_clockOf wsX11_clockOf) := goodIn_app (goodIn_of _ (by decide +kernel)) ggX11_answer_X11_clockOf
theorem dX11_answer_0 : decode cX11_answer 0 = .ok (.bipush 8, 2) := by decide +kernel
theorem dX11_answer_2 : decode cX11_answer 2 = .ok (.iload_n 1, 1) := by decide +kernel
theorem dX11_answer_3 : decode cX11_answer 3 = .ok (.imul, 1) := by decide +kernel
theorem dX11_answer_4 : decode cX11_answer 4 = .ok (.iload_n 2, 1) := by decide +kernel
theorem dX11_answer_5 : decode cX11_answer 5 = .ok (.iadd, 1) := by decide +kernel
theorem dX11_answer_6 : decode cX11_answer 6 = .ok (.istore 5, 2) := by decide +kernel
theorem dX11_answer_8 : decode cX11_answer 8 = .ok (.aload_n 0, 1) := by decide +kernel
theorem dX11_answer_9 : decode cX11_answer 9 = .ok (.bipush 6, 2) := by decide +kernel
theorem dX11_answer_11 : decode cX11_answer 11 = .ok (.invokevirtual 139, 3) := by decide +kernel
theorem dX11_answer_14 : decode cX11_answer 14 = .ok (.istore 6, 2) := by decide +kernel
theorem dX11_answer_16 : decode cX11_answer 16 = .ok (.aload_n 0, 1) := by decide +kernel
theorem dX11_answer_17 : decode cX11_answer 17 = .ok (.getfield 57, 3) := by decide +kernel
theorem dX11_answer_20 : decode cX11_answer 20 = .ok (.iload 5, 2) := by decide +kernel
theorem dX11_answer_22 : decode cX11_answer 22 = .ok (.iconst 1, 1) := by decide +kernel
theorem dX11_answer_23 : decode cX11_answer 23 = .ok (.bastore, 1) := by decide +kernel
theorem dX11_answer_24 : decode cX11_answer 24 = .ok (.aload_n 0, 1) := by decide +kernel
theorem dX11_answer_25 : decode cX11_answer 25 = .ok (.getfield 61, 3) := by decide +kernel
theorem dX11_answer_28 : decode cX11_answer 28 = .ok (.iload 5, 2) := by decide +kernel
theorem dX11_answer_30 : decode cX11_answer 30 = .ok (.iload 6, 2) := by decide +kernel
theorem dX11_answer_32 : decode cX11_answer 32 = .ok (.iastore, 1) := by decide +kernel
theorem dX11_answer_33 : decode cX11_answer 33 = .ok (.aload_n 0, 1) := by decide +kernel
theorem dX11_answer_34 : decode cX11_answer 34 = .ok (.getfield 23, 3) := by decide +kernel
theorem dX11_answer_37 : decode cX11_answer 37 = .ok (.iload_n 2, 1) := by decide +kernel
theorem dX11_answer_38 : decode cX11_answer 38 = .ok (.laload, 1) := by decide +kernel
theorem dX11_answer_39 : decode cX11_answer 39 = .ok (.ldc2_w 109, 3) := by decide +kernel
theorem dX11_answer_42 : decode cX11_answer 42 = .ok (.ldiv, 1) := by decide +kernel
theorem dX11_answer_43 : decode cX11_answer 43 = .ok (.l2i, 1) := by decide +kernel
theorem dX11_answer_44 : decode cX11_answer 44 = .ok (.istore 7, 2) := by decide +kernel
theorem dX11_answer_46 : decode cX11_answer 46 = .ok (.iload_n 3, 1) := by decide +kernel
theorem dX11_answer_47 : decode cX11_answer 47 = .ok (.istore 8, 2) := by decide +kernel
theorem dX11_answer_49 : decode cX11_answer 49 = .ok (.iload 7, 2) := by decide +kernel
theorem dX11_answer_51 : decode cX11_answer 51 = .ok (.iload_n 3, 1) := by decide +kernel
theorem dX11_answer_52 : decode cX11_answer 52 = .ok (.if_icmp .ge 103, 3) := by decide +kernel
theorem dX11_answer_55 : decode cX11_answer 55 = .ok (.iconst 0, 1) := by decide +kernel
theorem dX11_answer_56 : decode cX11_answer 56 = .ok (.istore 9, 2) := by decide +kernel
theorem dX11_answer_58 : decode cX11_answer 58 = .ok (.iconst 0, 1) := by decide +kernel
theorem dX11_answer_59 : decode cX11_answer 59 = .ok (.istore 10, 2) := by decide +kernel
theorem dX11_answer_61 : decode cX11_answer 61 = .ok (.iload 10, 2) := by decide +kernel
theorem dX11_answer_63 : decode cX11_answer 63 = .ok (.bipush 6, 2) := by decide +kernel
theorem dX11_answer_65 : decode cX11_answer 65 = .ok (.if_icmp .ge 61, 3) := by decide +kernel
theorem dX11_answer_68 : decode cX11_answer 68 = .ok (.bipush 8, 2) := by decide +kernel
theorem dX11_answer_70 : decode cX11_answer 70 = .ok (.iload 10, 2) := by decide +kernel
theorem dX11_answer_72 : decode cX11_answer 72 = .ok (.imul, 1) := by decide +kernel
theorem dX11_answer_73 : decode cX11_answer 73 = .ok (.iload_n 2, 1) := by decide +kernel
theorem dX11_answer_74 : decode cX11_answer 74 = .ok (.iadd, 1) := by decide +kernel
theorem dX11_answer_75 : decode cX11_answer 75 = .ok (.istore 11, 2) := by decide +kernel
theorem dX11_answer_77 : decode cX11_answer 77 = .ok (.aload_n 0, 1) := by decide +kernel
theorem dX11_answer_78 : decode cX11_answer 78 = .ok (.getfield 57, 3) := by decide +kernel
theorem dX11_answer_81 : decode cX11_answer 81 = .ok (.iload 11, 2) := by decide +kernel
theorem dX11_answer_83 : decode cX11_answer 83 = .ok (.baload, 1) := by decide +kernel
theorem dX11_answer_84 : decode cX11_answer 84 = .ok (.ifCond .eq 32, 3) := by decide +kernel
theorem dX11_answer_87 : decode cX11_answer 87 = .ok (.iload 6, 2) := by decide +kernel
theorem dX11_answer_89 : decode cX11_answer 89 = .ok (.aload_n 0, 1) := by decide +kernel
theorem dX11_answer_90 : decode cX11_answer 90 = .ok (.getfield 61, 3) := by decide +kernel
theorem dX11_answer_93 : decode cX11_answer 93 = .ok (.iload 11, 2) := by decide +kernel
theorem dX11_answer_95 : decode cX11_answer 95 = .ok (.iaload, 1) := by decide +kernel
theorem dX11_answer_96 : decode cX11_answer 96 = .ok (.isub, 1) := by decide +kernel
theorem dX11_answer_97 : decode cX11_answer 97 = .ok (.sipush 1000, 3) := by decide +kernel
theorem dX11_answer_100 : decode cX11_answer 100 = .ok (.if_icmp .ge 16, 3) := by decide +kernel
theorem dX11_answer_103 : decode cX11_answer 103 = .ok (.iload 9, 2) := by decide +kernel
theorem dX11_answer_105 : decode cX11_answer 105 = .ok (.aload_n 0, 1) := by decide +kernel
theorem dX11_answer_106 : decode cX11_answer 106 = .ok (.getfield 64, 3) := by decide +kernel
theorem dX11_answer_109 : decode cX11_answer 109 = .ok (.iload 11, 2) := by decide +kernel
theorem dX11_answer_111 : decode cX11_answer 111 = .ok (.iaload, 1) := by decide +kernel
theorem dX11_answer_112 : decode cX11_answer 112 = .ok (.iadd, 1) := by decide +kernel
theorem dX11_answer_113 : decode cX11_answer 113 = .ok (.goto 5, 3) := by decide +kernel
theorem dX11_answer_116 : decode cX11_answer 116 = .ok (.iload 9, 2) := by decide +kernel
theorem dX11_answer_118 : decode cX11_answer 118 = .ok (.istore 9, 2) := by decide +kernel
theorem dX11_answer_120 : decode cX11_answer 120 = .ok (.iinc 10 1, 3) := by decide +kernel
theorem dX11_answer_123 : decode cX11_answer 123 = .ok (.goto (-62), 3) := by decide +kernel
theorem dX11_answer_126 : decode cX11_answer 126 = .ok (.iload 7, 2) := by decide +kernel
theorem dX11_answer_128 : decode cX11_answer 128 = .ok (.aload_n 0, 1) := by decide +kernel
theorem dX11_answer_129 : decode cX11_answer 129 = .ok (.getfield 64, 3) := by decide +kernel
theorem dX11_answer_132 : decode cX11_answer 132 = .ok (.iload 5, 2) := by decide +kernel
theorem dX11_answer_134 : decode cX11_answer 134 = .ok (.iaload, 1) := by decide +kernel
theorem dX11_answer_135 : decode cX11_answer 135 = .ok (.imul, 1) := by decide +kernel
theorem dX11_answer_136 : decode cX11_answer 136 = .ok (.iload 9, 2) := by decide +kernel
theorem dX11_answer_138 : decode cX11_answer 138 = .ok (.idiv, 1) := by decide +kernel
theorem dX11_answer_139 : decode cX11_answer 139 = .ok (.istore 8, 2) := by decide +kernel
theorem dX11_answer_141 : decode cX11_answer 141 = .ok (.iload 8, 2) := by decide +kernel
theorem dX11_answer_143 : decode cX11_answer 143 = .ok (.iload_n 3, 1) := by decide +kernel
theorem dX11_answer_144 : decode cX11_answer 144 = .ok (.if_icmp .ge 8, 3) := by decide +kernel
theorem dX11_answer_147 : decode cX11_answer 147 = .ok (.iload 8, 2) := by decide +kernel
theorem dX11_answer_149 : decode cX11_answer 149 = .ok (.goto 4, 3) := by decide +kernel
theorem dX11_answer_152 : decode cX11_answer 152 = .ok (.iload_n 3, 1) := by decide +kernel
theorem dX11_answer_153 : decode cX11_answer 153 = .ok (.istore 8, 2) := by decide +kernel
theorem dX11_answer_155 : decode cX11_answer 155 = .ok (.aload_n 0, 1) := by decide +kernel
theorem dX11_answer_156 : decode cX11_answer 156 = .ok (.getfield 23, 3) := by decide +kernel
theorem dX11_answer_159 : decode cX11_answer 159 = .ok (.iload_n 2, 1) := by decide +kernel
theorem dX11_answer_160 : decode cX11_answer 160 = .ok (.aload_n 0, 1) := by decide +kernel
theorem dX11_answer_161 : decode cX11_answer 161 = .ok (.getfield 23, 3) := by decide +kernel
theorem dX11_answer_164 : decode cX11_answer 164 = .ok (.iload_n 2, 1) := by decide +kernel
theorem dX11_answer_165 : decode cX11_answer 165 = .ok (.laload, 1) := by decide +kernel
theorem dX11_answer_166 : decode cX11_answer 166 = .ok (.ldc2_w 109, 3) := by decide +kernel
theorem dX11_answer_169 : decode cX11_answer 169 = .ok (.iload 8, 2) := by decide +kernel
theorem dX11_answer_171 : decode cX11_answer 171 = .ok (.i2l, 1) := by decide +kernel
theorem dX11_answer_172 : decode cX11_answer 172 = .ok (.lmul, 1) := by decide +kernel
theorem dX11_answer_173 : decode cX11_answer 173 = .ok (.lsub, 1) := by decide +kernel
theorem dX11_answer_174 : decode cX11_answer 174 = .ok (.lastore, 1) := by decide +kernel
theorem dX11_answer_175 : decode cX11_answer 175 = .ok (.aload_n 0, 1) := by decide +kernel
theorem dX11_answer_176 : decode cX11_answer 176 = .ok (.getfield 45, 3) := by decide +kernel
theorem dX11_answer_179 : decode cX11_answer 179 = .ok (.iload 5, 2) := by decide +kernel
theorem dX11_answer_181 : decode cX11_answer 181 = .ok (.iload 4, 2) := by decide +kernel
theorem dX11_answer_183 : decode cX11_answer 183 = .ok (.iastore, 1) := by decide +kernel
theorem dX11_answer_184 : decode cX11_answer 184 = .ok (.aload_n 0, 1) := by decide +kernel
theorem dX11_answer_185 : decode cX11_answer 185 = .ok (.getfield 51, 3) := by decide +kernel
theorem dX11_answer_188 : decode cX11_answer 188 = .ok (.iload 5, 2) := by decide +kernel
theorem dX11_answer_190 : decode cX11_answer 190 = .ok (.iload 8, 2) := by decide +kernel
theorem dX11_answer_192 : decode cX11_answer 192 = .ok (.iastore, 1) := by decide +kernel
theorem dX11_answer_193 : decode cX11_answer 193 = .ok (.aload_n 0, 1) := by decide +kernel
theorem dX11_answer_194 : decode cX11_answer 194 = .ok (.getfield 54, 3) := by decide +kernel
theorem dX11_answer_197 : decode cX11_answer 197 = .ok (.iload 5, 2) := by decide +kernel
theorem dX11_answer_199 : decode cX11_answer 199 = .ok (.aload_n 0, 1) := by decide +kernel
theorem dX11_answer_200 : decode cX11_answer 200 = .ok (.getfield 38, 3) := by decide +kernel
theorem dX11_answer_203 : decode cX11_answer 203 = .ok (.iastore, 1) := by decide +kernel
theorem dX11_answer_204 : decode cX11_answer 204 = .ok (.aload_n 0, 1) := by decide +kernel
theorem dX11_answer_205 : decode cX11_answer 205 = .ok (.getfield 48, 3) := by decide +kernel
theorem dX11_answer_208 : decode cX11_answer 208 = .ok (.iload 5, 2) := by decide +kernel
theorem dX11_answer_210 : decode cX11_answer 210 = .ok (.iconst (-1), 1) := by decide +kernel
theorem dX11_answer_211 : decode cX11_answer 211 = .ok (.iastore, 1) := by decide +kernel
theorem dX11_answer_212 : decode cX11_answer 212 = .ok (.iload 8, 2) := by decide +kernel
theorem dX11_answer_214 : decode cX11_answer 214 = .ok (.ifCond .le 61, 3) := by decide +kernel
theorem dX11_answer_217 : decode cX11_answer 217 = .ok (.aload_n 0, 1) := by decide +kernel
theorem dX11_answer_218 : decode cX11_answer 218 = .ok (.getfield 48, 3) := by decide +kernel
theorem dX11_answer_221 : decode cX11_answer 221 = .ok (.iload 5, 2) := by decide +kernel
theorem dX11_answer_223 : decode cX11_answer 223 = .ok (.aload_n 0, 1) := by decide +kernel
theorem dX11_answer_224 : decode cX11_answer 224 = .ok (.getfield 111, 3) := by decide +kernel
theorem dX11_answer_227 : decode cX11_answer 227 = .ok (.iastore, 1) := by decide +kernel
theorem dX11_answer_228 : decode cX11_answer 228 = .ok (.aload_n 0, 1) := by decide +kernel
theorem dX11_answer_229 : decode cX11_answer 229 = .ok (.getfield 29, 3) := by decide +kernel
theorem dX11_answer_232 : decode cX11_answer 232 = .ok (.aload_n 0, 1) := by decide +kernel
theorem dX11_answer_233 : decode cX11_answer 233 = .ok (.getfield 111, 3) := by decide +kernel
theorem dX11_answer_236 : decode cX11_answer 236 = .ok (.iload_n 2, 1) := by decide +kernel
theorem dX11_answer_237 : decode cX11_answer 237 = .ok (.iastore, 1) := by decide +kernel
theorem dX11_answer_238 : decode cX11_answer 238 = .ok (.aload_n 0, 1) := by decide +kernel
theorem dX11_answer_239 : decode cX11_answer 239 = .ok (.getfield 32, 3) := by decide +kernel
theorem dX11_answer_242 : decode cX11_answer 242 = .ok (.aload_n 0, 1) := by decide +kernel
theorem dX11_answer_243 : decode cX11_answer 243 = .ok (.getfield 111, 3) := by decide +kernel
theorem dX11_answer_246 : decode cX11_answer 246 = .ok (.iload 8, 2) := by decide +kernel
theorem dX11_answer_248 : decode cX11_answer 248 = .ok (.iastore, 1) := by decide +kernel
theorem dX11_answer_249 : decode cX11_answer 249 = .ok (.aload_n 0, 1) := by decide +kernel
theorem dX11_answer_250 : decode cX11_answer 250 = .ok (.getfield 35, 3) := by decide +kernel
theorem dX11_answer_253 : decode cX11_answer 253 = .ok (.aload_n 0, 1) := by decide +kernel
theorem dX11_answer_254 : decode cX11_answer 254 = .ok (.getfield 111, 3) := by decide +kernel
theorem dX11_answer_257 : decode cX11_answer 257 = .ok (.iload 6, 2) := by decide +kernel
theorem dX11_answer_259 : decode cX11_answer 259 = .ok (.aload_n 0, 1) := by decide +kernel
theorem dX11_answer_260 : decode cX11_answer 260 = .ok (.getfield 38, 3) := by decide +kernel
theorem dX11_answer_263 : decode cX11_answer 263 = .ok (.iadd, 1) := by decide +kernel
theorem dX11_answer_264 : decode cX11_answer 264 = .ok (.iastore, 1) := by decide +kernel
theorem dX11_answer_265 : decode cX11_answer 265 = .ok (.aload_n 0, 1) := by decide +kernel
theorem dX11_answer_266 : decode cX11_answer 266 = .ok (.dup, 1) := by decide +kernel
theorem dX11_answer_267 : decode cX11_answer 267 = .ok (.getfield 111, 3) := by decide +kernel
theorem dX11_answer_270 : decode cX11_answer 270 = .ok (.iconst 1, 1) := by decide +kernel
theorem dX11_answer_271 : decode cX11_answer 271 = .ok (.iadd, 1) := by decide +kernel
theorem dX11_answer_272 : decode cX11_answer 272 = .ok (.putfield 111, 3) := by decide +kernel
theorem dX11_answer_275 : decode cX11_answer 275 = .ok (.return_, 1) := by decide +kernel
set_option maxRecDepth 20000 in
theorem ggX11_returns_X11_fill : GoodIn wsX11_returns wsX11_fill := goodIn_r _ [10, 5, 11, 4, 12, 13, 14, 9, 15, 16, 3, 2, 17, 18, 19, 20, 21, 22, 23, 24, 25, 26, 27, 28, 29, 30, 31, 32, 33, 34, 35, 36, 37, 38, 39, 40, 41, 42, 43, 44, 45, 46, 47, 48, 49, 50] (by decide +kernel) (by decide +kernel)
set_option maxRecDepth 20000 in
theorem gX11_returns_X11_fill : GoodIn wsX11_returns (wsV RX11 128 RX11 yX11_fill wsX11_fill) := goodIn_app (goodIn_of _ (by decide +kernel)) ggX11_returns_X11_fill
theorem dX11_returns_0 : decode cX11_returns 0 = .ok (.iload_n 3, 1) := by decide +kernel
theorem dX11_returns_1 : decode cX11_returns 1 = .ok (.aload_n 0, 1) := by decide +kernel
theorem dX11_returns_2 : decode cX11_returns 2 = .ok (.getfield 42, 3) := by decide +kernel
theorem dX11_returns_5 : decode cX11_returns 5 = .ok (.iload_n 1, 1) := by decide +kernel
theorem dX11_returns_6 : decode cX11_returns 6 = .ok (.iaload, 1) := by decide +kernel
theorem dX11_returns_7 : decode cX11_returns 7 = .ok (.if_icmp .lt 13, 3) := by decide +kernel
theorem dX11_returns_10 : decode cX11_returns 10 = .ok (.aload_n 0, 1) := by decide +kernel
theorem dX11_returns_11 : decode cX11_returns 11 = .ok (.getfield 32, 3) := by decide +kernel
theorem dX11_returns_14 : decode cX11_returns 14 = .ok (.iload 4, 2) := by decide +kernel
theorem dX11_returns_16 : decode cX11_returns 16 = .ok (.iaload, 1) := by decide +kernel
theorem dX11_returns_17 : decode cX11_returns 17 = .ok (.ifCond .ne 5, 3) := by decide +kernel
theorem dX11_returns_20 : decode cX11_returns 20 = .ok (.iconst 0, 1) := by decide +kernel
theorem dX11_returns_21 : decode cX11_returns 21 = .ok (.ireturn, 1) := by decide +kernel
theorem dX11_returns_22 : decode cX11_returns 22 = .ok (.aload_n 0, 1) := by decide +kernel
theorem dX11_returns_23 : decode cX11_returns 23 = .ok (.getfield 29, 3) := by decide +kernel
theorem dX11_returns_26 : decode cX11_returns 26 = .ok (.iload 4, 2) := by decide +kernel
theorem dX11_returns_28 : decode cX11_returns 28 = .ok (.iaload, 1) := by decide +kernel
theorem dX11_returns_29 : decode cX11_returns 29 = .ok (.istore 5, 2) := by decide +kernel
theorem dX11_returns_31 : decode cX11_returns 31 = .ok (.aload_n 0, 1) := by decide +kernel
theorem dX11_returns_32 : decode cX11_returns 32 = .ok (.getfield 32, 3) := by decide +kernel
theorem dX11_returns_35 : decode cX11_returns 35 = .ok (.iload 4, 2) := by decide +kernel
theorem dX11_returns_37 : decode cX11_returns 37 = .ok (.iconst 0, 1) := by decide +kernel
theorem dX11_returns_38 : decode cX11_returns 38 = .ok (.iastore, 1) := by decide +kernel
theorem dX11_returns_39 : decode cX11_returns 39 = .ok (.aload_n 0, 1) := by decide +kernel
theorem dX11_returns_40 : decode cX11_returns 40 = .ok (.iload 5, 2) := by decide +kernel
theorem dX11_returns_42 : decode cX11_returns 42 = .ok (.aload_n 0, 1) := by decide +kernel
theorem dX11_returns_43 : decode cX11_returns 43 = .ok (.getfield 23, 3) := by decide +kernel
theorem dX11_returns_46 : decode cX11_returns 46 = .ok (.iload 5, 2) := by decide +kernel
theorem dX11_returns_48 : decode cX11_returns 48 = .ok (.laload, 1) := by decide +kernel
theorem dX11_returns_49 : decode cX11_returns 49 = .ok (.ldc2_w 109, 3) := by decide +kernel
theorem dX11_returns_52 : decode cX11_returns 52 = .ok (.iload_n 2, 1) := by decide +kernel
theorem dX11_returns_53 : decode cX11_returns 53 = .ok (.i2l, 1) := by decide +kernel
theorem dX11_returns_54 : decode cX11_returns 54 = .ok (.lmul, 1) := by decide +kernel
theorem dX11_returns_55 : decode cX11_returns 55 = .ok (.ladd, 1) := by decide +kernel
theorem dX11_returns_56 : decode cX11_returns 56 = .ok (.invokevirtual 128, 3) := by decide +kernel
theorem dX11_returns_59 : decode cX11_returns 59 = .ok (.iconst 1, 1) := by decide +kernel
theorem dX11_returns_60 : decode cX11_returns 60 = .ok (.ireturn, 1) := by decide +kernel
theorem dX11_arrives_0 : decode cX11_arrives 0 = .ok (.aload_n 0, 1) := by decide +kernel
theorem dX11_arrives_1 : decode cX11_arrives 1 = .ok (.getfield 100, 3) := by decide +kernel
theorem dX11_arrives_4 : decode cX11_arrives 4 = .ok (.iload_n 1, 1) := by decide +kernel
theorem dX11_arrives_5 : decode cX11_arrives 5 = .ok (.iconst 1, 1) := by decide +kernel
theorem dX11_arrives_6 : decode cX11_arrives 6 = .ok (.iadd, 1) := by decide +kernel
theorem dX11_arrives_7 : decode cX11_arrives 7 = .ok (.iaload, 1) := by decide +kernel
theorem dX11_arrives_8 : decode cX11_arrives 8 = .ok (.istore_n 2, 1) := by decide +kernel
theorem dX11_arrives_9 : decode cX11_arrives 9 = .ok (.bipush 8, 2) := by decide +kernel
theorem dX11_arrives_11 : decode cX11_arrives 11 = .ok (.iload_n 2, 1) := by decide +kernel
theorem dX11_arrives_12 : decode cX11_arrives 12 = .ok (.imul, 1) := by decide +kernel
theorem dX11_arrives_13 : decode cX11_arrives 13 = .ok (.aload_n 0, 1) := by decide +kernel
theorem dX11_arrives_14 : decode cX11_arrives 14 = .ok (.getfield 100, 3) := by decide +kernel
theorem dX11_arrives_17 : decode cX11_arrives 17 = .ok (.iload_n 1, 1) := by decide +kernel
theorem dX11_arrives_18 : decode cX11_arrives 18 = .ok (.iconst 2, 1) := by decide +kernel
theorem dX11_arrives_19 : decode cX11_arrives 19 = .ok (.iadd, 1) := by decide +kernel
theorem dX11_arrives_20 : decode cX11_arrives 20 = .ok (.iaload, 1) := by decide +kernel
theorem dX11_arrives_21 : decode cX11_arrives 21 = .ok (.iadd, 1) := by decide +kernel
theorem dX11_arrives_22 : decode cX11_arrives 22 = .ok (.istore_n 3, 1) := by decide +kernel
theorem dX11_arrives_23 : decode cX11_arrives 23 = .ok (.aload_n 0, 1) := by decide +kernel
theorem dX11_arrives_24 : decode cX11_arrives 24 = .ok (.getfield 100, 3) := by decide +kernel
theorem dX11_arrives_27 : decode cX11_arrives 27 = .ok (.iload_n 1, 1) := by decide +kernel
theorem dX11_arrives_28 : decode cX11_arrives 28 = .ok (.iconst 4, 1) := by decide +kernel
theorem dX11_arrives_29 : decode cX11_arrives 29 = .ok (.iadd, 1) := by decide +kernel
theorem dX11_arrives_30 : decode cX11_arrives 30 = .ok (.iaload, 1) := by decide +kernel
theorem dX11_arrives_31 : decode cX11_arrives 31 = .ok (.aload_n 0, 1) := by decide +kernel
theorem dX11_arrives_32 : decode cX11_arrives 32 = .ok (.getfield 67, 3) := by decide +kernel
theorem dX11_arrives_35 : decode cX11_arrives 35 = .ok (.iload_n 2, 1) := by decide +kernel
theorem dX11_arrives_36 : decode cX11_arrives 36 = .ok (.iaload, 1) := by decide +kernel
theorem dX11_arrives_37 : decode cX11_arrives 37 = .ok (.if_icmp .ne 29, 3) := by decide +kernel
theorem dX11_arrives_40 : decode cX11_arrives 40 = .ok (.aload_n 0, 1) := by decide +kernel
theorem dX11_arrives_41 : decode cX11_arrives 41 = .ok (.getfield 79, 3) := by decide +kernel
theorem dX11_arrives_44 : decode cX11_arrives 44 = .ok (.iload_n 3, 1) := by decide +kernel
theorem dX11_arrives_45 : decode cX11_arrives 45 = .ok (.baload, 1) := by decide +kernel
theorem dX11_arrives_46 : decode cX11_arrives 46 = .ok (.ifCond .eq 20, 3) := by decide +kernel
theorem dX11_arrives_49 : decode cX11_arrives 49 = .ok (.aload_n 0, 1) := by decide +kernel
theorem dX11_arrives_50 : decode cX11_arrives 50 = .ok (.getfield 100, 3) := by decide +kernel
theorem dX11_arrives_53 : decode cX11_arrives 53 = .ok (.iload_n 1, 1) := by decide +kernel
theorem dX11_arrives_54 : decode cX11_arrives 54 = .ok (.iconst 5, 1) := by decide +kernel
theorem dX11_arrives_55 : decode cX11_arrives 55 = .ok (.iadd, 1) := by decide +kernel
theorem dX11_arrives_56 : decode cX11_arrives 56 = .ok (.iaload, 1) := by decide +kernel
theorem dX11_arrives_57 : decode cX11_arrives 57 = .ok (.aload_n 0, 1) := by decide +kernel
theorem dX11_arrives_58 : decode cX11_arrives 58 = .ok (.getfield 76, 3) := by decide +kernel
theorem dX11_arrives_61 : decode cX11_arrives 61 = .ok (.iload_n 3, 1) := by decide +kernel
theorem dX11_arrives_62 : decode cX11_arrives 62 = .ok (.iaload, 1) := by decide +kernel
theorem dX11_arrives_63 : decode cX11_arrives 63 = .ok (.if_icmp .eq 5, 3) := by decide +kernel
theorem dX11_arrives_66 : decode cX11_arrives 66 = .ok (.iconst 0, 1) := by decide +kernel
theorem dX11_arrives_67 : decode cX11_arrives 67 = .ok (.ireturn, 1) := by decide +kernel
theorem dX11_arrives_68 : decode cX11_arrives 68 = .ok (.aload_n 0, 1) := by decide +kernel
theorem dX11_arrives_69 : decode cX11_arrives 69 = .ok (.getfield 79, 3) := by decide +kernel
theorem dX11_arrives_72 : decode cX11_arrives 72 = .ok (.iload_n 3, 1) := by decide +kernel
theorem dX11_arrives_73 : decode cX11_arrives 73 = .ok (.iconst 0, 1) := by decide +kernel
theorem dX11_arrives_74 : decode cX11_arrives 74 = .ok (.bastore, 1) := by decide +kernel
theorem dX11_arrives_75 : decode cX11_arrives 75 = .ok (.aload_n 0, 1) := by decide +kernel
theorem dX11_arrives_76 : decode cX11_arrives 76 = .ok (.getfield 100, 3) := by decide +kernel
theorem dX11_arrives_79 : decode cX11_arrives 79 = .ok (.iload_n 1, 1) := by decide +kernel
theorem dX11_arrives_80 : decode cX11_arrives 80 = .ok (.bipush 6, 2) := by decide +kernel
theorem dX11_arrives_82 : decode cX11_arrives 82 = .ok (.iadd, 1) := by decide +kernel
theorem dX11_arrives_83 : decode cX11_arrives 83 = .ok (.iaload, 1) := by decide +kernel
theorem dX11_arrives_84 : decode cX11_arrives 84 = .ok (.istore 4, 2) := by decide +kernel
theorem dX11_arrives_86 : decode cX11_arrives 86 = .ok (.aload_n 0, 1) := by decide +kernel
theorem dX11_arrives_87 : decode cX11_arrives 87 = .ok (.getfield 100, 3) := by decide +kernel
theorem dX11_arrives_90 : decode cX11_arrives 90 = .ok (.iload_n 1, 1) := by decide +kernel
theorem dX11_arrives_91 : decode cX11_arrives 91 = .ok (.iconst 3, 1) := by decide +kernel
theorem dX11_arrives_92 : decode cX11_arrives 92 = .ok (.iadd, 1) := by decide +kernel
theorem dX11_arrives_93 : decode cX11_arrives 93 = .ok (.iaload, 1) := by decide +kernel
theorem dX11_arrives_94 : decode cX11_arrives 94 = .ok (.ifCond .le 57, 3) := by decide +kernel
theorem dX11_arrives_97 : decode cX11_arrives 97 = .ok (.aload_n 0, 1) := by decide +kernel
theorem dX11_arrives_98 : decode cX11_arrives 98 = .ok (.getfield 88, 3) := by decide +kernel
theorem dX11_arrives_101 : decode cX11_arrives 101 = .ok (.iload 4, 2) := by decide +kernel
theorem dX11_arrives_103 : decode cX11_arrives 103 = .ok (.iload_n 2, 1) := by decide +kernel
theorem dX11_arrives_104 : decode cX11_arrives 104 = .ok (.iconst 1, 1) := by decide +kernel
theorem dX11_arrives_105 : decode cX11_arrives 105 = .ok (.iadd, 1) := by decide +kernel
theorem dX11_arrives_106 : decode cX11_arrives 106 = .ok (.iastore, 1) := by decide +kernel
theorem dX11_arrives_107 : decode cX11_arrives 107 = .ok (.aload_n 0, 1) := by decide +kernel
theorem dX11_arrives_108 : decode cX11_arrives 108 = .ok (.getfield 91, 3) := by decide +kernel
theorem dX11_arrives_111 : decode cX11_arrives 111 = .ok (.iload 4, 2) := by decide +kernel
theorem dX11_arrives_113 : decode cX11_arrives 113 = .ok (.aload_n 0, 1) := by decide +kernel
theorem dX11_arrives_114 : decode cX11_arrives 114 = .ok (.getfield 100, 3) := by decide +kernel
theorem dX11_arrives_117 : decode cX11_arrives 117 = .ok (.iload_n 1, 1) := by decide +kernel
theorem dX11_arrives_118 : decode cX11_arrives 118 = .ok (.iconst 3, 1) := by decide +kernel
theorem dX11_arrives_119 : decode cX11_arrives 119 = .ok (.iadd, 1) := by decide +kernel
theorem dX11_arrives_120 : decode cX11_arrives 120 = .ok (.iaload, 1) := by decide +kernel
theorem dX11_arrives_121 : decode cX11_arrives 121 = .ok (.iastore, 1) := by decide +kernel
theorem dX11_arrives_122 : decode cX11_arrives 122 = .ok (.aload_n 0, 1) := by decide +kernel
theorem dX11_arrives_123 : decode cX11_arrives 123 = .ok (.getfield 94, 3) := by decide +kernel
theorem dX11_arrives_126 : decode cX11_arrives 126 = .ok (.iload 4, 2) := by decide +kernel
theorem dX11_arrives_128 : decode cX11_arrives 128 = .ok (.aload_n 0, 1) := by decide +kernel
theorem dX11_arrives_129 : decode cX11_arrives 129 = .ok (.getfield 82, 3) := by decide +kernel
theorem dX11_arrives_132 : decode cX11_arrives 132 = .ok (.iload_n 3, 1) := by decide +kernel
theorem dX11_arrives_133 : decode cX11_arrives 133 = .ok (.iaload, 1) := by decide +kernel
theorem dX11_arrives_134 : decode cX11_arrives 134 = .ok (.iastore, 1) := by decide +kernel
theorem dX11_arrives_135 : decode cX11_arrives 135 = .ok (.aload_n 0, 1) := by decide +kernel
theorem dX11_arrives_136 : decode cX11_arrives 136 = .ok (.getfield 97, 3) := by decide +kernel
theorem dX11_arrives_139 : decode cX11_arrives 139 = .ok (.iload 4, 2) := by decide +kernel
theorem dX11_arrives_141 : decode cX11_arrives 141 = .ok (.aload_n 0, 1) := by decide +kernel
theorem dX11_arrives_142 : decode cX11_arrives 142 = .ok (.getfield 100, 3) := by decide +kernel
theorem dX11_arrives_145 : decode cX11_arrives 145 = .ok (.iload_n 1, 1) := by decide +kernel
theorem dX11_arrives_146 : decode cX11_arrives 146 = .ok (.bipush 7, 2) := by decide +kernel
theorem dX11_arrives_148 : decode cX11_arrives 148 = .ok (.iadd, 1) := by decide +kernel
theorem dX11_arrives_149 : decode cX11_arrives 149 = .ok (.iaload, 1) := by decide +kernel
theorem dX11_arrives_150 : decode cX11_arrives 150 = .ok (.iastore, 1) := by decide +kernel
theorem dX11_arrives_151 : decode cX11_arrives 151 = .ok (.iconst 1, 1) := by decide +kernel
theorem dX11_arrives_152 : decode cX11_arrives 152 = .ok (.ireturn, 1) := by decide +kernel
set_option maxRecDepth 20000 in
theorem ggX11_carry_X11_isMessage : GoodIn wsX11_carry wsX11_isMessage := goodIn_r _ [6, 7, 8, 75, 76, 77, 78, 79, 80, 81, 82, 83, 84, 85, 86, 87, 88, 89, 90, 91, 92, 93, 94, 95, 96, 97, 98, 99, 100, 101, 102, 103, 104, 105, 106, 107, 108] (by decide +kernel) (by decide +kernel)
set_option maxRecDepth 20000 in
theorem gX11_carry_X11_isMessage : GoodIn wsX11_carry (wsV RX11 183 RX11 yX11_isMessage wsX11_isMessage) := goodIn_app (goodIn_of _ (by decide +kernel)) ggX11_carry_X11_isMessage
set_option maxRecDepth 20000 in
theorem ggX11_carry_X11_refused : GoodIn wsX11_carry wsX11_refused := goodIn_r _ [12, 13, 75, 76, 77, 78, 79, 80, 81, 82, 83, 84, 85, 86, 87, 88, 89, 90, 91, 92, 93, 94, 95, 96, 97, 98, 99, 100, 101, 102, 103, 104, 105, 106, 107, 108] (by decide +kernel) (by decide +kernel)
set_option maxRecDepth 20000 in
theorem gX11_carry_X11_refused : GoodIn wsX11_carry (wsV RX11 124 RX11 yX11_refused wsX11_refused) := goodIn_app (goodIn_of _ (by decide +kernel)) ggX11_carry_X11_refused
set_option maxRecDepth 20000 in
theorem ggX11_carry_X11_asks : GoodIn wsX11_carry wsX11_asks := goodIn_r _ [17, 18, 19, 20, 21, 22, 5, 23, 24, 25, 26, 27, 28, 29, 30, 31, 32, 33, 34, 35, 36, 37, 38, 39, 40, 41, 42, 43, 44, 45, 7, 1, 46, 47, 48, 49, 8, 75, 76, 77, 78, 79, 80, 81, 82, 83, 84, 85, 86, 87, 88, 89, 90, 91, 92, 93, 94, 95, 96, 97, 98, 99, 100, 101, 102, 103, 104, 105, 106, 107, 108] (by decide +kernel) (by decide +kernel)
set_option maxRecDepth 20000 in
theorem gX11_carry_X11_asks : GoodIn wsX11_carry (wsV RX11 186 RX11 yX11_asks wsX11_asks) := goodIn_app (goodIn_of _ (by decide +kernel)) ggX11_carry_X11_asks
set_option maxRecDepth 20000 in
theorem ggX11_carry_X11_arrives : GoodIn wsX11_carry wsX11_arrives := goodIn_r _ [53, 1, 54, 55, 56, 57, 58, 59, 60, 61, 75, 76, 77, 78, 79, 80, 81, 82, 83, 84, 85, 86, 87, 88, 89, 90, 91, 92, 93, 94, 95, 96, 97, 98, 99, 100, 101, 102, 103, 104, 105, 106, 107, 108] (by decide +kernel) (by decide +kernel)
set_option maxRecDepth 20000 in
theorem gX11_carry_X11_arrives : GoodIn wsX11_carry (wsV RX11 190 RX11 yX11_arrives wsX11_arrives) := goodIn_app (goodIn_of _ (by decide +kernel)) ggX11_carry_X11_arrives
set_option maxRecDepth 20000 in
theorem ggX11_carry_X11_returns : GoodIn wsX11_carry wsX11_returns := goodIn_r _ [65, 18, 35, 34, 26, 27, 66, 67, 68, 5, 69, 70, 71, 72, 73, 74, 33, 75, 76, 77, 78, 79, 80, 81, 82, 83, 84, 85, 86, 87, 88, 89, 90, 91, 92, 93, 94, 95, 96, 97, 98, 99, 100, 101, 102, 103, 104, 105, 106, 107, 108] (by decide +kernel) (by decide +kernel)
set_option maxRecDepth 20000 in
theorem gX11_carry_X11_returns : GoodIn wsX11_carry (wsV RX11 193 RX11 yX11_returns wsX11_returns) := goodIn_app (goodIn_of _ (by decide +kernel)) ggX11_carry_X11_returns
theorem dX11_carry_0 : decode cX11_carry 0 = .ok (.aload_n 0, 1) := by decide +kernel
theorem dX11_carry_1 : decode cX11_carry 1 = .ok (.aload_n 0, 1) := by decide +kernel
theorem dX11_carry_2 : decode cX11_carry 2 = .ok (.iload_n 1, 1) := by decide +kernel
theorem dX11_carry_3 : decode cX11_carry 3 = .ok (.invokevirtual 183, 3) := by decide +kernel
theorem dX11_carry_6 : decode cX11_carry 6 = .ok (.ifCond .eq 7, 3) := by decide +kernel
theorem dX11_carry_9 : decode cX11_carry 9 = .ok (.iconst 0, 1) := by decide +kernel
theorem dX11_carry_10 : decode cX11_carry 10 = .ok (.goto 4, 3) := by decide +kernel
theorem dX11_carry_13 : decode cX11_carry 13 = .ok (.iconst 1, 1) := by decide +kernel
theorem dX11_carry_14 : decode cX11_carry 14 = .ok (.invokevirtual 124, 3) := by decide +kernel
theorem dX11_carry_17 : decode cX11_carry 17 = .ok (.ifCond .eq 5, 3) := by decide +kernel
theorem dX11_carry_20 : decode cX11_carry 20 = .ok (.iconst 0, 1) := by decide +kernel
theorem dX11_carry_21 : decode cX11_carry 21 = .ok (.ireturn, 1) := by decide +kernel
theorem dX11_carry_22 : decode cX11_carry 22 = .ok (.bipush 8, 2) := by decide +kernel
theorem dX11_carry_24 : decode cX11_carry 24 = .ok (.iload_n 1, 1) := by decide +kernel
theorem dX11_carry_25 : decode cX11_carry 25 = .ok (.imul, 1) := by decide +kernel
theorem dX11_carry_26 : decode cX11_carry 26 = .ok (.istore_n 2, 1) := by decide +kernel
theorem dX11_carry_27 : decode cX11_carry 27 = .ok (.aload_n 0, 1) := by decide +kernel
theorem dX11_carry_28 : decode cX11_carry 28 = .ok (.getfield 100, 3) := by decide +kernel
theorem dX11_carry_31 : decode cX11_carry 31 = .ok (.iload_n 2, 1) := by decide +kernel
theorem dX11_carry_32 : decode cX11_carry 32 = .ok (.iaload, 1) := by decide +kernel
theorem dX11_carry_33 : decode cX11_carry 33 = .ok (.ifCond .ne 50, 3) := by decide +kernel
theorem dX11_carry_36 : decode cX11_carry 36 = .ok (.aload_n 0, 1) := by decide +kernel
theorem dX11_carry_37 : decode cX11_carry 37 = .ok (.aload_n 0, 1) := by decide +kernel
theorem dX11_carry_38 : decode cX11_carry 38 = .ok (.getfield 100, 3) := by decide +kernel
theorem dX11_carry_41 : decode cX11_carry 41 = .ok (.iload_n 2, 1) := by decide +kernel
theorem dX11_carry_42 : decode cX11_carry 42 = .ok (.iconst 1, 1) := by decide +kernel
theorem dX11_carry_43 : decode cX11_carry 43 = .ok (.iadd, 1) := by decide +kernel
theorem dX11_carry_44 : decode cX11_carry 44 = .ok (.iaload, 1) := by decide +kernel
theorem dX11_carry_45 : decode cX11_carry 45 = .ok (.aload_n 0, 1) := by decide +kernel
theorem dX11_carry_46 : decode cX11_carry 46 = .ok (.getfield 100, 3) := by decide +kernel
theorem dX11_carry_49 : decode cX11_carry 49 = .ok (.iload_n 2, 1) := by decide +kernel
theorem dX11_carry_50 : decode cX11_carry 50 = .ok (.iconst 2, 1) := by decide +kernel
theorem dX11_carry_51 : decode cX11_carry 51 = .ok (.iadd, 1) := by decide +kernel
theorem dX11_carry_52 : decode cX11_carry 52 = .ok (.iaload, 1) := by decide +kernel
theorem dX11_carry_53 : decode cX11_carry 53 = .ok (.aload_n 0, 1) := by decide +kernel
theorem dX11_carry_54 : decode cX11_carry 54 = .ok (.getfield 100, 3) := by decide +kernel
theorem dX11_carry_57 : decode cX11_carry 57 = .ok (.iload_n 2, 1) := by decide +kernel
theorem dX11_carry_58 : decode cX11_carry 58 = .ok (.iconst 3, 1) := by decide +kernel
theorem dX11_carry_59 : decode cX11_carry 59 = .ok (.iadd, 1) := by decide +kernel
theorem dX11_carry_60 : decode cX11_carry 60 = .ok (.iaload, 1) := by decide +kernel
theorem dX11_carry_61 : decode cX11_carry 61 = .ok (.aload_n 0, 1) := by decide +kernel
theorem dX11_carry_62 : decode cX11_carry 62 = .ok (.getfield 100, 3) := by decide +kernel
theorem dX11_carry_65 : decode cX11_carry 65 = .ok (.iload_n 2, 1) := by decide +kernel
theorem dX11_carry_66 : decode cX11_carry 66 = .ok (.iconst 4, 1) := by decide +kernel
theorem dX11_carry_67 : decode cX11_carry 67 = .ok (.iadd, 1) := by decide +kernel
theorem dX11_carry_68 : decode cX11_carry 68 = .ok (.iaload, 1) := by decide +kernel
theorem dX11_carry_69 : decode cX11_carry 69 = .ok (.aload_n 0, 1) := by decide +kernel
theorem dX11_carry_70 : decode cX11_carry 70 = .ok (.getfield 100, 3) := by decide +kernel
theorem dX11_carry_73 : decode cX11_carry 73 = .ok (.iload_n 2, 1) := by decide +kernel
theorem dX11_carry_74 : decode cX11_carry 74 = .ok (.iconst 5, 1) := by decide +kernel
theorem dX11_carry_75 : decode cX11_carry 75 = .ok (.iadd, 1) := by decide +kernel
theorem dX11_carry_76 : decode cX11_carry 76 = .ok (.iaload, 1) := by decide +kernel
theorem dX11_carry_77 : decode cX11_carry 77 = .ok (.invokevirtual 186, 3) := by decide +kernel
theorem dX11_carry_80 : decode cX11_carry 80 = .ok (.goto 58, 3) := by decide +kernel
theorem dX11_carry_83 : decode cX11_carry 83 = .ok (.aload_n 0, 1) := by decide +kernel
theorem dX11_carry_84 : decode cX11_carry 84 = .ok (.getfield 100, 3) := by decide +kernel
theorem dX11_carry_87 : decode cX11_carry 87 = .ok (.iload_n 2, 1) := by decide +kernel
theorem dX11_carry_88 : decode cX11_carry 88 = .ok (.iaload, 1) := by decide +kernel
theorem dX11_carry_89 : decode cX11_carry 89 = .ok (.iconst 1, 1) := by decide +kernel
theorem dX11_carry_90 : decode cX11_carry 90 = .ok (.if_icmp .ne 11, 3) := by decide +kernel
theorem dX11_carry_93 : decode cX11_carry 93 = .ok (.aload_n 0, 1) := by decide +kernel
theorem dX11_carry_94 : decode cX11_carry 94 = .ok (.iload_n 2, 1) := by decide +kernel
theorem dX11_carry_95 : decode cX11_carry 95 = .ok (.invokevirtual 190, 3) := by decide +kernel
theorem dX11_carry_98 : decode cX11_carry 98 = .ok (.goto 40, 3) := by decide +kernel
theorem dX11_carry_101 : decode cX11_carry 101 = .ok (.aload_n 0, 1) := by decide +kernel
theorem dX11_carry_102 : decode cX11_carry 102 = .ok (.aload_n 0, 1) := by decide +kernel
theorem dX11_carry_103 : decode cX11_carry 103 = .ok (.getfield 100, 3) := by decide +kernel
theorem dX11_carry_106 : decode cX11_carry 106 = .ok (.iload_n 2, 1) := by decide +kernel
theorem dX11_carry_107 : decode cX11_carry 107 = .ok (.iconst 1, 1) := by decide +kernel
theorem dX11_carry_108 : decode cX11_carry 108 = .ok (.iadd, 1) := by decide +kernel
theorem dX11_carry_109 : decode cX11_carry 109 = .ok (.iaload, 1) := by decide +kernel
theorem dX11_carry_110 : decode cX11_carry 110 = .ok (.aload_n 0, 1) := by decide +kernel
theorem dX11_carry_111 : decode cX11_carry 111 = .ok (.getfield 100, 3) := by decide +kernel
theorem dX11_carry_114 : decode cX11_carry 114 = .ok (.iload_n 2, 1) := by decide +kernel
theorem dX11_carry_115 : decode cX11_carry 115 = .ok (.iconst 3, 1) := by decide +kernel
theorem dX11_carry_116 : decode cX11_carry 116 = .ok (.iadd, 1) := by decide +kernel
theorem dX11_carry_117 : decode cX11_carry 117 = .ok (.iaload, 1) := by decide +kernel
theorem dX11_carry_118 : decode cX11_carry 118 = .ok (.aload_n 0, 1) := by decide +kernel
theorem dX11_carry_119 : decode cX11_carry 119 = .ok (.getfield 100, 3) := by decide +kernel
theorem dX11_carry_122 : decode cX11_carry 122 = .ok (.iload_n 2, 1) := by decide +kernel
theorem dX11_carry_123 : decode cX11_carry 123 = .ok (.iconst 4, 1) := by decide +kernel
theorem dX11_carry_124 : decode cX11_carry 124 = .ok (.iadd, 1) := by decide +kernel
theorem dX11_carry_125 : decode cX11_carry 125 = .ok (.iaload, 1) := by decide +kernel
theorem dX11_carry_126 : decode cX11_carry 126 = .ok (.aload_n 0, 1) := by decide +kernel
theorem dX11_carry_127 : decode cX11_carry 127 = .ok (.getfield 100, 3) := by decide +kernel
theorem dX11_carry_130 : decode cX11_carry 130 = .ok (.iload_n 2, 1) := by decide +kernel
theorem dX11_carry_131 : decode cX11_carry 131 = .ok (.bipush 6, 2) := by decide +kernel
theorem dX11_carry_133 : decode cX11_carry 133 = .ok (.iadd, 1) := by decide +kernel
theorem dX11_carry_134 : decode cX11_carry 134 = .ok (.iaload, 1) := by decide +kernel
theorem dX11_carry_135 : decode cX11_carry 135 = .ok (.invokevirtual 193, 3) := by decide +kernel
theorem dX11_carry_138 : decode cX11_carry 138 = .ok (.ireturn, 1) := by decide +kernel
set_option maxRecDepth 20000 in
theorem ggX11_drop_X11_isMessage : GoodIn wsX11_drop wsX11_isMessage := goodIn_r _ [6, 7, 1, 13, 14, 15, 16, 17, 18, 19, 20, 21, 22, 23, 24, 25, 26, 27, 28, 29, 30, 31, 32, 33, 34, 35, 36, 37, 38, 39, 40, 41, 42, 43, 44, 45, 46] (by decide +kernel) (by decide +kernel)
set_option maxRecDepth 20000 in
theorem gX11_drop_X11_isMessage : GoodIn wsX11_drop (wsV RX11 183 RX11 yX11_isMessage wsX11_isMessage) := goodIn_app (goodIn_of _ (by decide +kernel)) ggX11_drop_X11_isMessage
set_option maxRecDepth 20000 in
theorem ggX11_drop_X11_refused : GoodIn wsX11_drop wsX11_refused := goodIn_r _ [11, 12, 13, 14, 15, 16, 17, 18, 19, 20, 21, 22, 23, 24, 25, 26, 27, 28, 29, 30, 31, 32, 33, 34, 35, 36, 37, 38, 39, 40, 41, 42, 43, 44, 45, 46] (by decide +kernel) (by decide +kernel)
set_option maxRecDepth 20000 in
theorem gX11_drop_X11_refused : GoodIn wsX11_drop (wsV RX11 124 RX11 yX11_refused wsX11_refused) := goodIn_app (goodIn_of _ (by decide +kernel)) ggX11_drop_X11_refused
theorem dX11_drop_0 : decode cX11_drop 0 = .ok (.aload_n 0, 1) := by decide +kernel
theorem dX11_drop_1 : decode cX11_drop 1 = .ok (.aload_n 0, 1) := by decide +kernel
theorem dX11_drop_2 : decode cX11_drop 2 = .ok (.iload_n 1, 1) := by decide +kernel
theorem dX11_drop_3 : decode cX11_drop 3 = .ok (.invokevirtual 183, 3) := by decide +kernel
theorem dX11_drop_6 : decode cX11_drop 6 = .ok (.ifCond .eq 7, 3) := by decide +kernel
theorem dX11_drop_9 : decode cX11_drop 9 = .ok (.iconst 0, 1) := by decide +kernel
theorem dX11_drop_10 : decode cX11_drop 10 = .ok (.goto 4, 3) := by decide +kernel
theorem dX11_drop_13 : decode cX11_drop 13 = .ok (.iconst 1, 1) := by decide +kernel
theorem dX11_drop_14 : decode cX11_drop 14 = .ok (.invokevirtual 124, 3) := by decide +kernel
theorem dX11_drop_17 : decode cX11_drop 17 = .ok (.ifCond .eq 4, 3) := by decide +kernel
theorem dX11_drop_20 : decode cX11_drop 20 = .ok (.return_, 1) := by decide +kernel
theorem dX11_drop_21 : decode cX11_drop 21 = .ok (.aload_n 0, 1) := by decide +kernel
theorem dX11_drop_22 : decode cX11_drop 22 = .ok (.getfield 103, 3) := by decide +kernel
theorem dX11_drop_25 : decode cX11_drop 25 = .ok (.iload_n 1, 1) := by decide +kernel
theorem dX11_drop_26 : decode cX11_drop 26 = .ok (.iconst 0, 1) := by decide +kernel
theorem dX11_drop_27 : decode cX11_drop 27 = .ok (.bastore, 1) := by decide +kernel
theorem dX11_drop_28 : decode cX11_drop 28 = .ok (.return_, 1) := by decide +kernel
set_option maxRecDepth 20000 in
theorem ggX11_root_X11_isIn : GoodIn wsX11_root wsX11_isIn := goodIn_r _ [9] (by decide +kernel) (by decide +kernel)
set_option maxRecDepth 20000 in
theorem gX11_root_X11_isIn : GoodIn wsX11_root (va_wsS RX11 118 yX11_isIn wsX11_isIn) := goodIn_app (goodIn_of _ (by decide +kernel)) ggX11_root_X11_isIn
set_option maxRecDepth 20000 in
theorem ggX11_root_X11_refused : GoodIn wsX11_root wsX11_refused := goodIn_r _ [13, 14, 19, 20, 21, 22, 23, 24, 25, 26, 27, 28, 29, 30, 31, 32, 33, 34, 35, 36, 37, 38, 39, 40, 41, 42, 43, 44, 45, 46, 47, 48, 49, 50, 51, 52] (by decide +kernel) (by decide +kernel)
set_option maxRecDepth 20000 in
theorem gX11_root_X11_refused : GoodIn wsX11_root (wsV RX11 124 RX11 yX11_refused wsX11_refused) := goodIn_app (goodIn_of _ (by decide +kernel)) ggX11_root_X11_refused
set_option maxRecDepth 20000 in
theorem ggX11_root_X11_lent : GoodIn wsX11_root wsX11_lent := goodIn_r _ [18, 1, 2, 3, 19, 20, 21, 22, 23, 24, 25, 26, 27, 28, 29, 30, 31, 32, 33, 34, 35, 36, 37, 38, 39, 40, 41, 42, 43, 44, 45, 46, 47, 48, 49, 50, 51, 52] (by decide +kernel) (by decide +kernel)
set_option maxRecDepth 20000 in
theorem gX11_root_X11_lent : GoodIn wsX11_root (wsV RX11 114 RX11 yX11_lent wsX11_lent) := goodIn_app (goodIn_of _ (by decide +kernel)) ggX11_root_X11_lent
theorem dX11_root_0 : decode cX11_root 0 = .ok (.aload_n 0, 1) := by decide +kernel
theorem dX11_root_1 : decode cX11_root 1 = .ok (.iload_n 1, 1) := by decide +kernel
theorem dX11_root_2 : decode cX11_root 2 = .ok (.iconst 0, 1) := by decide +kernel
theorem dX11_root_3 : decode cX11_root 3 = .ok (.bipush 7, 2) := by decide +kernel
theorem dX11_root_5 : decode cX11_root 5 = .ok (.invokestatic 118, 3) := by decide +kernel
theorem dX11_root_8 : decode cX11_root 8 = .ok (.ifCond .eq 16, 3) := by decide +kernel
theorem dX11_root_11 : decode cX11_root 11 = .ok (.iload_n 2, 1) := by decide +kernel
theorem dX11_root_12 : decode cX11_root 12 = .ok (.iconst 0, 1) := by decide +kernel
theorem dX11_root_13 : decode cX11_root 13 = .ok (.iconst 3, 1) := by decide +kernel
theorem dX11_root_14 : decode cX11_root 14 = .ok (.invokestatic 118, 3) := by decide +kernel
theorem dX11_root_17 : decode cX11_root 17 = .ok (.ifCond .eq 7, 3) := by decide +kernel
theorem dX11_root_20 : decode cX11_root 20 = .ok (.iconst 0, 1) := by decide +kernel
theorem dX11_root_21 : decode cX11_root 21 = .ok (.goto 4, 3) := by decide +kernel
theorem dX11_root_24 : decode cX11_root 24 = .ok (.iconst 1, 1) := by decide +kernel
theorem dX11_root_25 : decode cX11_root 25 = .ok (.invokevirtual 124, 3) := by decide +kernel
theorem dX11_root_28 : decode cX11_root 28 = .ok (.ifCond .eq 5, 3) := by decide +kernel
theorem dX11_root_31 : decode cX11_root 31 = .ok (.iconst 0, 1) := by decide +kernel
theorem dX11_root_32 : decode cX11_root 32 = .ok (.ireturn, 1) := by decide +kernel
theorem dX11_root_33 : decode cX11_root 33 = .ok (.iconst 0, 1) := by decide +kernel
theorem dX11_root_34 : decode cX11_root 34 = .ok (.istore_n 3, 1) := by decide +kernel
theorem dX11_root_35 : decode cX11_root 35 = .ok (.iconst 0, 1) := by decide +kernel
theorem dX11_root_36 : decode cX11_root 36 = .ok (.istore 4, 2) := by decide +kernel
theorem dX11_root_38 : decode cX11_root 38 = .ok (.iload 4, 2) := by decide +kernel
theorem dX11_root_40 : decode cX11_root 40 = .ok (.aload_n 0, 1) := by decide +kernel
theorem dX11_root_41 : decode cX11_root 41 = .ok (.getfield 111, 3) := by decide +kernel
theorem dX11_root_44 : decode cX11_root 44 = .ok (.if_icmp .ge 38, 3) := by decide +kernel
theorem dX11_root_47 : decode cX11_root 47 = .ok (.aload_n 0, 1) := by decide +kernel
theorem dX11_root_48 : decode cX11_root 48 = .ok (.getfield 29, 3) := by decide +kernel
theorem dX11_root_51 : decode cX11_root 51 = .ok (.iload 4, 2) := by decide +kernel
theorem dX11_root_53 : decode cX11_root 53 = .ok (.iaload, 1) := by decide +kernel
theorem dX11_root_54 : decode cX11_root 54 = .ok (.iload_n 1, 1) := by decide +kernel
theorem dX11_root_55 : decode cX11_root 55 = .ok (.if_icmp .ne 19, 3) := by decide +kernel
theorem dX11_root_58 : decode cX11_root 58 = .ok (.aload_n 0, 1) := by decide +kernel
theorem dX11_root_59 : decode cX11_root 59 = .ok (.getfield 32, 3) := by decide +kernel
theorem dX11_root_62 : decode cX11_root 62 = .ok (.iload 4, 2) := by decide +kernel
theorem dX11_root_64 : decode cX11_root 64 = .ok (.iaload, 1) := by decide +kernel
theorem dX11_root_65 : decode cX11_root 65 = .ok (.ifCond .le 9, 3) := by decide +kernel
theorem dX11_root_68 : decode cX11_root 68 = .ok (.iload_n 3, 1) := by decide +kernel
theorem dX11_root_69 : decode cX11_root 69 = .ok (.iconst 1, 1) := by decide +kernel
theorem dX11_root_70 : decode cX11_root 70 = .ok (.iadd, 1) := by decide +kernel
theorem dX11_root_71 : decode cX11_root 71 = .ok (.goto 4, 3) := by decide +kernel
theorem dX11_root_74 : decode cX11_root 74 = .ok (.iload_n 3, 1) := by decide +kernel
theorem dX11_root_75 : decode cX11_root 75 = .ok (.istore_n 3, 1) := by decide +kernel
theorem dX11_root_76 : decode cX11_root 76 = .ok (.iinc 4 1, 3) := by decide +kernel
theorem dX11_root_79 : decode cX11_root 79 = .ok (.goto (-41), 3) := by decide +kernel
theorem dX11_root_82 : decode cX11_root 82 = .ok (.iload_n 2, 1) := by decide +kernel
theorem dX11_root_83 : decode cX11_root 83 = .ok (.ifCond .ne 12, 3) := by decide +kernel
theorem dX11_root_86 : decode cX11_root 86 = .ok (.aload_n 0, 1) := by decide +kernel
theorem dX11_root_87 : decode cX11_root 87 = .ok (.getfield 26, 3) := by decide +kernel
theorem dX11_root_90 : decode cX11_root 90 = .ok (.iload_n 1, 1) := by decide +kernel
theorem dX11_root_91 : decode cX11_root 91 = .ok (.iaload, 1) := by decide +kernel
theorem dX11_root_92 : decode cX11_root 92 = .ok (.goto 32, 3) := by decide +kernel
theorem dX11_root_95 : decode cX11_root 95 = .ok (.iload_n 2, 1) := by decide +kernel
theorem dX11_root_96 : decode cX11_root 96 = .ok (.iconst 1, 1) := by decide +kernel
theorem dX11_root_97 : decode cX11_root 97 = .ok (.if_icmp .ne 13, 3) := by decide +kernel
theorem dX11_root_100 : decode cX11_root 100 = .ok (.aload_n 0, 1) := by decide +kernel
theorem dX11_root_101 : decode cX11_root 101 = .ok (.getfield 23, 3) := by decide +kernel
theorem dX11_root_104 : decode cX11_root 104 = .ok (.iload_n 1, 1) := by decide +kernel
theorem dX11_root_105 : decode cX11_root 105 = .ok (.laload, 1) := by decide +kernel
theorem dX11_root_106 : decode cX11_root 106 = .ok (.l2i, 1) := by decide +kernel
theorem dX11_root_107 : decode cX11_root 107 = .ok (.goto 17, 3) := by decide +kernel
theorem dX11_root_110 : decode cX11_root 110 = .ok (.iload_n 2, 1) := by decide +kernel
theorem dX11_root_111 : decode cX11_root 111 = .ok (.iconst 2, 1) := by decide +kernel
theorem dX11_root_112 : decode cX11_root 112 = .ok (.if_icmp .ne 11, 3) := by decide +kernel
theorem dX11_root_115 : decode cX11_root 115 = .ok (.aload_n 0, 1) := by decide +kernel
theorem dX11_root_116 : decode cX11_root 116 = .ok (.iload_n 1, 1) := by decide +kernel
theorem dX11_root_117 : decode cX11_root 117 = .ok (.invokevirtual 114, 3) := by decide +kernel
theorem dX11_root_120 : decode cX11_root 120 = .ok (.goto 4, 3) := by decide +kernel
theorem dX11_root_123 : decode cX11_root 123 = .ok (.iload_n 3, 1) := by decide +kernel
theorem dX11_root_124 : decode cX11_root 124 = .ok (.ireturn, 1) := by decide +kernel
set_option maxRecDepth 20000 in
theorem ggX11_gate_X11_isPlace : GoodIn wsX11_gate wsX11_isPlace := goodIn_r _ [10, 11, 12, 9, 13] (by decide +kernel) (by decide +kernel)
set_option maxRecDepth 20000 in
theorem gX11_gate_X11_isPlace : GoodIn wsX11_gate (va_wsS RX11 160 yX11_isPlace wsX11_isPlace) := goodIn_app (goodIn_of _ (by decide +kernel)) ggX11_gate_X11_isPlace
set_option maxRecDepth 20000 in
theorem ggX11_gate_X11_isIn : GoodIn wsX11_gate wsX11_isIn := goodIn_r _ [13] (by decide +kernel) (by decide +kernel)
set_option maxRecDepth 20000 in
theorem gX11_gate_X11_isIn : GoodIn wsX11_gate (va_wsS RX11 118 yX11_isIn wsX11_isIn) := goodIn_app (goodIn_of _ (by decide +kernel)) ggX11_gate_X11_isIn
set_option maxRecDepth 20000 in
theorem ggX11_gate_X11_refused : GoodIn wsX11_gate wsX11_refused := goodIn_r _ [17, 18, 49, 50, 51, 52, 53, 54, 55, 56, 57, 58, 59, 60, 61, 62, 63, 64, 65, 66, 67, 68, 69, 70, 71, 72, 73, 74, 75, 76, 77, 78, 79, 80, 81, 82] (by decide +kernel) (by decide +kernel)
set_option maxRecDepth 20000 in
theorem gX11_gate_X11_refused : GoodIn wsX11_gate (wsV RX11 124 RX11 yX11_refused wsX11_refused) := goodIn_app (goodIn_of _ (by decide +kernel)) ggX11_gate_X11_refused
set_option maxRecDepth 20000 in
theorem ggX11_gate_X11_isHold : GoodIn wsX11_gate wsX11_isHold := goodIn_r _ [22, 23, 24, 49, 50, 51, 52, 53, 54, 55, 56, 57, 58, 59, 60, 61, 62, 63, 64, 65, 66, 67, 68, 69, 70, 71, 72, 73, 74, 75, 76, 77, 78, 79, 80, 81, 82] (by decide +kernel) (by decide +kernel)
set_option maxRecDepth 20000 in
theorem gX11_gate_X11_isHold : GoodIn wsX11_gate (wsV RX11 153 RX11 yX11_isHold wsX11_isHold) := goodIn_app (goodIn_of _ (by decide +kernel)) ggX11_gate_X11_isHold
set_option maxRecDepth 20000 in
theorem ggX11_gate_X11_live : GoodIn wsX11_gate wsX11_live := goodIn_r _ [28, 1, 29, 19, 20, 21, 9, 22, 23, 24, 30, 31, 32, 33, 34, 35, 36, 37, 38, 39, 40, 41, 42, 43, 44, 45, 46, 47, 48, 49, 50, 51, 52, 53, 54, 55, 56, 57, 58, 59, 60, 61, 62, 63, 64, 65, 66, 67, 68, 69, 70, 71, 72, 73, 74, 75, 76, 77, 78, 79, 80, 81, 82] (by decide +kernel) (by decide +kernel)
set_option maxRecDepth 20000 in
theorem gX11_gate_X11_live : GoodIn wsX11_gate (wsV RX11 163 RX11 yX11_live wsX11_live) := goodIn_app (goodIn_of _ (by decide +kernel)) ggX11_gate_X11_live
theorem dX11_gate_0 : decode cX11_gate 0 = .ok (.aload_n 0, 1) := by decide +kernel
theorem dX11_gate_1 : decode cX11_gate 1 = .ok (.iload_n 1, 1) := by decide +kernel
theorem dX11_gate_2 : decode cX11_gate 2 = .ok (.iload_n 2, 1) := by decide +kernel
theorem dX11_gate_3 : decode cX11_gate 3 = .ok (.invokestatic 160, 3) := by decide +kernel
theorem dX11_gate_6 : decode cX11_gate 6 = .ok (.ifCond .eq 17, 3) := by decide +kernel
theorem dX11_gate_9 : decode cX11_gate 9 = .ok (.iload_n 3, 1) := by decide +kernel
theorem dX11_gate_10 : decode cX11_gate 10 = .ok (.iconst 0, 1) := by decide +kernel
theorem dX11_gate_11 : decode cX11_gate 11 = .ok (.bipush 6, 2) := by decide +kernel
theorem dX11_gate_13 : decode cX11_gate 13 = .ok (.invokestatic 118, 3) := by decide +kernel
theorem dX11_gate_16 : decode cX11_gate 16 = .ok (.ifCond .eq 7, 3) := by decide +kernel
theorem dX11_gate_19 : decode cX11_gate 19 = .ok (.iconst 0, 1) := by decide +kernel
theorem dX11_gate_20 : decode cX11_gate 20 = .ok (.goto 4, 3) := by decide +kernel
theorem dX11_gate_23 : decode cX11_gate 23 = .ok (.iconst 1, 1) := by decide +kernel
theorem dX11_gate_24 : decode cX11_gate 24 = .ok (.invokevirtual 124, 3) := by decide +kernel
theorem dX11_gate_27 : decode cX11_gate 27 = .ok (.ifCond .eq 5, 3) := by decide +kernel
theorem dX11_gate_30 : decode cX11_gate 30 = .ok (.iconst 0, 1) := by decide +kernel
theorem dX11_gate_31 : decode cX11_gate 31 = .ok (.ireturn, 1) := by decide +kernel
theorem dX11_gate_32 : decode cX11_gate 32 = .ok (.bipush 8, 2) := by decide +kernel
theorem dX11_gate_34 : decode cX11_gate 34 = .ok (.iload_n 1, 1) := by decide +kernel
theorem dX11_gate_35 : decode cX11_gate 35 = .ok (.imul, 1) := by decide +kernel
theorem dX11_gate_36 : decode cX11_gate 36 = .ok (.iload_n 2, 1) := by decide +kernel
theorem dX11_gate_37 : decode cX11_gate 37 = .ok (.iadd, 1) := by decide +kernel
theorem dX11_gate_38 : decode cX11_gate 38 = .ok (.istore 4, 2) := by decide +kernel
theorem dX11_gate_40 : decode cX11_gate 40 = .ok (.iconst 0, 1) := by decide +kernel
theorem dX11_gate_41 : decode cX11_gate 41 = .ok (.istore 5, 2) := by decide +kernel
theorem dX11_gate_43 : decode cX11_gate 43 = .ok (.iconst 0, 1) := by decide +kernel
theorem dX11_gate_44 : decode cX11_gate 44 = .ok (.istore 6, 2) := by decide +kernel
theorem dX11_gate_46 : decode cX11_gate 46 = .ok (.iload 6, 2) := by decide +kernel
theorem dX11_gate_48 : decode cX11_gate 48 = .ok (.aload_n 0, 1) := by decide +kernel
theorem dX11_gate_49 : decode cX11_gate 49 = .ok (.getfield 111, 3) := by decide +kernel
theorem dX11_gate_52 : decode cX11_gate 52 = .ok (.if_icmp .ge 31, 3) := by decide +kernel
theorem dX11_gate_55 : decode cX11_gate 55 = .ok (.aload_n 0, 1) := by decide +kernel
theorem dX11_gate_56 : decode cX11_gate 56 = .ok (.iload_n 1, 1) := by decide +kernel
theorem dX11_gate_57 : decode cX11_gate 57 = .ok (.iload_n 2, 1) := by decide +kernel
theorem dX11_gate_58 : decode cX11_gate 58 = .ok (.iload 6, 2) := by decide +kernel
theorem dX11_gate_60 : decode cX11_gate 60 = .ok (.invokevirtual 153, 3) := by decide +kernel
theorem dX11_gate_63 : decode cX11_gate 63 = .ok (.ifCond .eq 10, 3) := by decide +kernel
theorem dX11_gate_66 : decode cX11_gate 66 = .ok (.iload 5, 2) := by decide +kernel
theorem dX11_gate_68 : decode cX11_gate 68 = .ok (.iconst 1, 1) := by decide +kernel
theorem dX11_gate_69 : decode cX11_gate 69 = .ok (.iadd, 1) := by decide +kernel
theorem dX11_gate_70 : decode cX11_gate 70 = .ok (.goto 5, 3) := by decide +kernel
theorem dX11_gate_73 : decode cX11_gate 73 = .ok (.iload 5, 2) := by decide +kernel
theorem dX11_gate_75 : decode cX11_gate 75 = .ok (.istore 5, 2) := by decide +kernel
theorem dX11_gate_77 : decode cX11_gate 77 = .ok (.iinc 6 1, 3) := by decide +kernel
theorem dX11_gate_80 : decode cX11_gate 80 = .ok (.goto (-34), 3) := by decide +kernel
theorem dX11_gate_83 : decode cX11_gate 83 = .ok (.iload_n 3, 1) := by decide +kernel
theorem dX11_gate_84 : decode cX11_gate 84 = .ok (.tableswitch 90 0 5 #[40, 47, 50, 58, 66, 74], 40) := by decide +kernel
theorem dX11_gate_124 : decode cX11_gate 124 = .ok (.aload_n 0, 1) := by decide +kernel
theorem dX11_gate_125 : decode cX11_gate 125 = .ok (.iload_n 1, 1) := by decide +kernel
theorem dX11_gate_126 : decode cX11_gate 126 = .ok (.iload_n 2, 1) := by decide +kernel
theorem dX11_gate_127 : decode cX11_gate 127 = .ok (.invokevirtual 163, 3) := by decide +kernel
theorem dX11_gate_130 : decode cX11_gate 130 = .ok (.ireturn, 1) := by decide +kernel
theorem dX11_gate_131 : decode cX11_gate 131 = .ok (.iload 5, 2) := by decide +kernel
theorem dX11_gate_133 : decode cX11_gate 133 = .ok (.ireturn, 1) := by decide +kernel
theorem dX11_gate_134 : decode cX11_gate 134 = .ok (.aload_n 0, 1) := by decide +kernel
theorem dX11_gate_135 : decode cX11_gate 135 = .ok (.getfield 70, 3) := by decide +kernel
theorem dX11_gate_138 : decode cX11_gate 138 = .ok (.iload 4, 2) := by decide +kernel
theorem dX11_gate_140 : decode cX11_gate 140 = .ok (.iaload, 1) := by decide +kernel
theorem dX11_gate_141 : decode cX11_gate 141 = .ok (.ireturn, 1) := by decide +kernel
theorem dX11_gate_142 : decode cX11_gate 142 = .ok (.aload_n 0, 1) := by decide +kernel
theorem dX11_gate_143 : decode cX11_gate 143 = .ok (.getfield 73, 3) := by decide +kernel
theorem dX11_gate_146 : decode cX11_gate 146 = .ok (.iload 4, 2) := by decide +kernel
theorem dX11_gate_148 : decode cX11_gate 148 = .ok (.iaload, 1) := by decide +kernel
theorem dX11_gate_149 : decode cX11_gate 149 = .ok (.ireturn, 1) := by decide +kernel
theorem dX11_gate_150 : decode cX11_gate 150 = .ok (.aload_n 0, 1) := by decide +kernel
theorem dX11_gate_151 : decode cX11_gate 151 = .ok (.getfield 76, 3) := by decide +kernel
theorem dX11_gate_154 : decode cX11_gate 154 = .ok (.iload 4, 2) := by decide +kernel
theorem dX11_gate_156 : decode cX11_gate 156 = .ok (.iaload, 1) := by decide +kernel
theorem dX11_gate_157 : decode cX11_gate 157 = .ok (.ireturn, 1) := by decide +kernel
theorem dX11_gate_158 : decode cX11_gate 158 = .ok (.aload_n 0, 1) := by decide +kernel
theorem dX11_gate_159 : decode cX11_gate 159 = .ok (.getfield 79, 3) := by decide +kernel
theorem dX11_gate_162 : decode cX11_gate 162 = .ok (.iload 4, 2) := by decide +kernel
theorem dX11_gate_164 : decode cX11_gate 164 = .ok (.baload, 1) := by decide +kernel
theorem dX11_gate_165 : decode cX11_gate 165 = .ok (.ifCond .eq 7, 3) := by decide +kernel
theorem dX11_gate_168 : decode cX11_gate 168 = .ok (.iconst 1, 1) := by decide +kernel
theorem dX11_gate_169 : decode cX11_gate 169 = .ok (.goto 4, 3) := by decide +kernel
theorem dX11_gate_172 : decode cX11_gate 172 = .ok (.iconst 0, 1) := by decide +kernel
theorem dX11_gate_173 : decode cX11_gate 173 = .ok (.ireturn, 1) := by decide +kernel
theorem dX11_gate_174 : decode cX11_gate 174 = .ok (.aload_n 0, 1) := by decide +kernel
theorem dX11_gate_175 : decode cX11_gate 175 = .ok (.getfield 85, 3) := by decide +kernel
theorem dX11_gate_178 : decode cX11_gate 178 = .ok (.iload 4, 2) := by decide +kernel
theorem dX11_gate_180 : decode cX11_gate 180 = .ok (.iaload, 1) := by decide +kernel
theorem dX11_gate_181 : decode cX11_gate 181 = .ok (.ireturn, 1) := by decide +kernel
set_option maxRecDepth 20000 in
theorem ggX11_message_X11_isMessage : GoodIn wsX11_message wsX11_isMessage := goodIn_r _ [6, 7, 8, 17, 18, 19, 20, 21, 22, 23, 24, 25, 26, 27, 28, 29, 30, 31, 32, 33, 34, 35, 36, 37, 38, 39, 40, 41, 42, 43, 44, 45, 46, 47, 48, 49, 50] (by decide +kernel) (by decide +kernel)
set_option maxRecDepth 20000 in
theorem gX11_message_X11_isMessage : GoodIn wsX11_message (wsV RX11 183 RX11 yX11_isMessage wsX11_isMessage) := goodIn_app (goodIn_of _ (by decide +kernel)) ggX11_message_X11_isMessage
set_option maxRecDepth 20000 in
theorem ggX11_message_X11_isIn : GoodIn wsX11_message wsX11_isIn := goodIn_r _ [11] (by decide +kernel) (by decide +kernel)
set_option maxRecDepth 20000 in
theorem gX11_message_X11_isIn : GoodIn wsX11_message (va_wsS RX11 118 yX11_isIn wsX11_isIn) := goodIn_app (goodIn_of _ (by decide +kernel)) ggX11_message_X11_isIn
set_option maxRecDepth 20000 in
theorem ggX11_message_X11_refused : GoodIn wsX11_message wsX11_refused := goodIn_r _ [15, 16, 17, 18, 19, 20, 21, 22, 23, 24, 25, 26, 27, 28, 29, 30, 31, 32, 33, 34, 35, 36, 37, 38, 39, 40, 41, 42, 43, 44, 45, 46, 47, 48, 49, 50] (by decide +kernel) (by decide +kernel)
set_option maxRecDepth 20000 in
theorem gX11_message_X11_refused : GoodIn wsX11_message (wsV RX11 124 RX11 yX11_refused wsX11_refused) := goodIn_app (goodIn_of _ (by decide +kernel)) ggX11_message_X11_refused
theorem dX11_message_0 : decode cX11_message 0 = .ok (.aload_n 0, 1) := by decide +kernel
theorem dX11_message_1 : decode cX11_message 1 = .ok (.aload_n 0, 1) := by decide +kernel
theorem dX11_message_2 : decode cX11_message 2 = .ok (.iload_n 1, 1) := by decide +kernel
theorem dX11_message_3 : decode cX11_message 3 = .ok (.invokevirtual 183, 3) := by decide +kernel
theorem dX11_message_6 : decode cX11_message 6 = .ok (.ifCond .eq 17, 3) := by decide +kernel
theorem dX11_message_9 : decode cX11_message 9 = .ok (.iload_n 2, 1) := by decide +kernel
theorem dX11_message_10 : decode cX11_message 10 = .ok (.iconst 0, 1) := by decide +kernel
theorem dX11_message_11 : decode cX11_message 11 = .ok (.bipush 6, 2) := by decide +kernel
theorem dX11_message_13 : decode cX11_message 13 = .ok (.invokestatic 118, 3) := by decide +kernel
theorem dX11_message_16 : decode cX11_message 16 = .ok (.ifCond .eq 7, 3) := by decide +kernel
theorem dX11_message_19 : decode cX11_message 19 = .ok (.iconst 0, 1) := by decide +kernel
theorem dX11_message_20 : decode cX11_message 20 = .ok (.goto 4, 3) := by decide +kernel
theorem dX11_message_23 : decode cX11_message 23 = .ok (.iconst 1, 1) := by decide +kernel
theorem dX11_message_24 : decode cX11_message 24 = .ok (.invokevirtual 124, 3) := by decide +kernel
theorem dX11_message_27 : decode cX11_message 27 = .ok (.ifCond .eq 5, 3) := by decide +kernel
theorem dX11_message_30 : decode cX11_message 30 = .ok (.iconst 0, 1) := by decide +kernel
theorem dX11_message_31 : decode cX11_message 31 = .ok (.ireturn, 1) := by decide +kernel
theorem dX11_message_32 : decode cX11_message 32 = .ok (.aload_n 0, 1) := by decide +kernel
theorem dX11_message_33 : decode cX11_message 33 = .ok (.getfield 100, 3) := by decide +kernel
theorem dX11_message_36 : decode cX11_message 36 = .ok (.bipush 8, 2) := by decide +kernel
theorem dX11_message_38 : decode cX11_message 38 = .ok (.iload_n 1, 1) := by decide +kernel
theorem dX11_message_39 : decode cX11_message 39 = .ok (.imul, 1) := by decide +kernel
theorem dX11_message_40 : decode cX11_message 40 = .ok (.iload_n 2, 1) := by decide +kernel
theorem dX11_message_41 : decode cX11_message 41 = .ok (.iadd, 1) := by decide +kernel
theorem dX11_message_42 : decode cX11_message 42 = .ok (.iaload, 1) := by decide +kernel
theorem dX11_message_43 : decode cX11_message 43 = .ok (.ireturn, 1) := by decide +kernel
theorem dX11_sent_0 : decode cX11_sent 0 = .ok (.aload_n 0, 1) := by decide +kernel
theorem dX11_sent_1 : decode cX11_sent 1 = .ok (.iconst 0, 1) := by decide +kernel
theorem dX11_sent_2 : decode cX11_sent 2 = .ok (.putfield 106, 3) := by decide +kernel
theorem dX11_sent_5 : decode cX11_sent 5 = .ok (.aload_n 0, 1) := by decide +kernel
theorem dX11_sent_6 : decode cX11_sent 6 = .ok (.getfield 166, 3) := by decide +kernel
theorem dX11_sent_9 : decode cX11_sent 9 = .ok (.ireturn, 1) := by decide +kernel
set_option maxRecDepth 20000 in
theorem ggX11_clock_X11_isIn : GoodIn wsX11_clock wsX11_isIn := goodIn_r _ [4] (by decide +kernel) (by decide +kernel)
set_option maxRecDepth 20000 in
theorem gX11_clock_X11_isIn : GoodIn wsX11_clock (va_wsS RX11 118 yX11_isIn wsX11_isIn) := goodIn_app (goodIn_of _ (by decide +kernel)) ggX11_clock_X11_isIn
set_option maxRecDepth 20000 in
theorem ggX11_clock_X11_refused : GoodIn wsX11_clock wsX11_refused := goodIn_r _ [8, 9, 16, 17, 18, 19, 20, 21, 22, 23, 24, 25, 26, 27, 28, 29, 30, 31, 32, 33, 34, 35, 36, 37, 38, 39, 40, 41, 42, 43, 44, 45, 46, 47, 48, 49] (by decide +kernel) (by decide +kernel)
set_option maxRecDepth 20000 in
theorem gX11_clock_X11_refused : GoodIn wsX11_clock (wsV RX11 124 RX11 yX11_refused wsX11_refused) := goodIn_app (goodIn_of _ (by decide +kernel)) ggX11_clock_X11_refused
set_option maxRecDepth 20000 in
theorem ggX11_clock_X11_clockOf : GoodIn wsX11_clock wsX11_clockOf := goodIn_r _ [13, 14, 15, 16, 17, 18, 19, 20, 21, 22, 23, 24, 25, 26, 27, 28, 29, 30, 31, 32, 33, 34, 35, 36, 37, 38, 39, 40, 41, 42, 43, 44, 45, 46, 47, 48, 49] (by decide +kernel) (by decide +kernel)
set_option maxRecDepth 20000 in
theorem gX11_clock_X11_clockOf : GoodIn wsX11_clock (wsV RX11 139 RX11 yX11_clockOf wsX11_clockOf) := goodIn_app (goodIn_of _ (by decide +kernel)) ggX11_clock_X11_clockOf
theorem dX11_clock_0 : decode cX11_clock 0 = .ok (.aload_n 0, 1) := by decide +kernel
theorem dX11_clock_1 : decode cX11_clock 1 = .ok (.iload_n 1, 1) := by decide +kernel
theorem dX11_clock_2 : decode cX11_clock 2 = .ok (.iconst (-1), 1) := by decide +kernel
theorem dX11_clock_3 : decode cX11_clock 3 = .ok (.iconst 5, 1) := by decide +kernel
theorem dX11_clock_4 : decode cX11_clock 4 = .ok (.invokestatic 118, 3) := by decide +kernel
theorem dX11_clock_7 : decode cX11_clock 7 = .ok (.ifCond .eq 7, 3) := by decide +kernel
theorem dX11_clock_10 : decode cX11_clock 10 = .ok (.iconst 0, 1) := by decide +kernel
theorem dX11_clock_11 : decode cX11_clock 11 = .ok (.goto 4, 3) := by decide +kernel
theorem dX11_clock_14 : decode cX11_clock 14 = .ok (.iconst 1, 1) := by decide +kernel
theorem dX11_clock_15 : decode cX11_clock 15 = .ok (.invokevirtual 124, 3) := by decide +kernel
theorem dX11_clock_18 : decode cX11_clock 18 = .ok (.ifCond .eq 7, 3) := by decide +kernel
theorem dX11_clock_21 : decode cX11_clock 21 = .ok (.iconst 0, 1) := by decide +kernel
theorem dX11_clock_22 : decode cX11_clock 22 = .ok (.goto 17, 3) := by decide +kernel
theorem dX11_clock_25 : decode cX11_clock 25 = .ok (.aload_n 0, 1) := by decide +kernel
theorem dX11_clock_26 : decode cX11_clock 26 = .ok (.iload_n 1, 1) := by decide +kernel
theorem dX11_clock_27 : decode cX11_clock 27 = .ok (.ifCond .ge 8, 3) := by decide +kernel
theorem dX11_clock_30 : decode cX11_clock 30 = .ok (.bipush 6, 2) := by decide +kernel
theorem dX11_clock_32 : decode cX11_clock 32 = .ok (.goto 4, 3) := by decide +kernel
theorem dX11_clock_35 : decode cX11_clock 35 = .ok (.iload_n 1, 1) := by decide +kernel
theorem dX11_clock_36 : decode cX11_clock 36 = .ok (.invokevirtual 139, 3) := by decide +kernel
theorem dX11_clock_39 : decode cX11_clock 39 = .ok (.ireturn, 1) := by decide +kernel
theorem dJ9_max_7cf53_0 : decode cJ9_max_7cf53 0 = .ok (.iload_n 0, 1) := by decide +kernel
theorem dJ9_max_7cf53_1 : decode cJ9_max_7cf53 1 = .ok (.iload_n 1, 1) := by decide +kernel
