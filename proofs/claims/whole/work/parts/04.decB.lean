theorem dX11_init_0 : decode cX11_init 0 = .ok (.aload_n 0, 1) := by decide +kernel
theorem dX11_init_1 : decode cX11_init 1 = .ok (.invokespecial 1, 3) := by decide +kernel
theorem dX11_init_4 : decode cX11_init 4 = .ok (.aload_n 0, 1) := by decide +kernel
theorem dX11_init_5 : decode cX11_init 5 = .ok (.sipush 4096, 3) := by decide +kernel
theorem dX11_init_8 : decode cX11_init 8 = .ok (.newarray .int, 2) := by decide +kernel
theorem dX11_init_10 : decode cX11_init 10 = .ok (.putfield 7, 3) := by decide +kernel
theorem dX11_init_13 : decode cX11_init 13 = .ok (.aload_n 0, 1) := by decide +kernel
theorem dX11_init_14 : decode cX11_init 14 = .ok (.bipush 8, 2) := by decide +kernel
theorem dX11_init_16 : decode cX11_init 16 = .ok (.newarray .int, 2) := by decide +kernel
theorem dX11_init_18 : decode cX11_init 18 = .ok (.putfield 13, 3) := by decide +kernel
theorem dX11_init_21 : decode cX11_init 21 = .ok (.aload_n 0, 1) := by decide +kernel
theorem dX11_init_22 : decode cX11_init 22 = .ok (.bipush 8, 2) := by decide +kernel
theorem dX11_init_24 : decode cX11_init 24 = .ok (.newarray .int, 2) := by decide +kernel
theorem dX11_init_26 : decode cX11_init 26 = .ok (.putfield 16, 3) := by decide +kernel
theorem dX11_init_29 : decode cX11_init 29 = .ok (.aload_n 0, 1) := by decide +kernel
theorem dX11_init_30 : decode cX11_init 30 = .ok (.bipush 8, 2) := by decide +kernel
theorem dX11_init_32 : decode cX11_init 32 = .ok (.newarray .boolean, 2) := by decide +kernel
theorem dX11_init_34 : decode cX11_init 34 = .ok (.putfield 19, 3) := by decide +kernel
theorem dX11_init_37 : decode cX11_init 37 = .ok (.aload_n 0, 1) := by decide +kernel
theorem dX11_init_38 : decode cX11_init 38 = .ok (.sipush 4100, 3) := by decide +kernel
theorem dX11_init_41 : decode cX11_init 41 = .ok (.newarray .int, 2) := by decide +kernel
theorem dX11_init_43 : decode cX11_init 43 = .ok (.putfield 23, 3) := by decide +kernel
theorem dX11_init_46 : decode cX11_init 46 = .ok (.aload_n 0, 1) := by decide +kernel
theorem dX11_init_47 : decode cX11_init 47 = .ok (.iconst 2, 1) := by decide +kernel
theorem dX11_init_48 : decode cX11_init 48 = .ok (.newarray .int, 2) := by decide +kernel
theorem dX11_init_50 : decode cX11_init 50 = .ok (.putfield 26, 3) := by decide +kernel
theorem dX11_init_53 : decode cX11_init 53 = .ok (.aload_n 0, 1) := by decide +kernel
theorem dX11_init_54 : decode cX11_init 54 = .ok (.iconst 2, 1) := by decide +kernel
theorem dX11_init_55 : decode cX11_init 55 = .ok (.newarray .int, 2) := by decide +kernel
theorem dX11_init_57 : decode cX11_init 57 = .ok (.putfield 29, 3) := by decide +kernel
theorem dX11_init_60 : decode cX11_init 60 = .ok (.aload_n 0, 1) := by decide +kernel
theorem dX11_init_61 : decode cX11_init 61 = .ok (.bipush 16, 2) := by decide +kernel
theorem dX11_init_63 : decode cX11_init 63 = .ok (.newarray .int, 2) := by decide +kernel
theorem dX11_init_65 : decode cX11_init 65 = .ok (.putfield 32, 3) := by decide +kernel
theorem dX11_init_68 : decode cX11_init 68 = .ok (.aload_n 0, 1) := by decide +kernel
theorem dX11_init_69 : decode cX11_init 69 = .ok (.bipush 16, 2) := by decide +kernel
theorem dX11_init_71 : decode cX11_init 71 = .ok (.newarray .int, 2) := by decide +kernel
theorem dX11_init_73 : decode cX11_init 73 = .ok (.putfield 35, 3) := by decide +kernel
theorem dX11_init_76 : decode cX11_init 76 = .ok (.aload_n 0, 1) := by decide +kernel
theorem dX11_init_77 : decode cX11_init 77 = .ok (.bipush 16, 2) := by decide +kernel
theorem dX11_init_79 : decode cX11_init 79 = .ok (.newarray .int, 2) := by decide +kernel
theorem dX11_init_81 : decode cX11_init 81 = .ok (.putfield 38, 3) := by decide +kernel
theorem dX11_init_84 : decode cX11_init 84 = .ok (.aload_n 0, 1) := by decide +kernel
theorem dX11_init_85 : decode cX11_init 85 = .ok (.sipush 8192, 3) := by decide +kernel
theorem dX11_init_88 : decode cX11_init 88 = .ok (.newarray .int, 2) := by decide +kernel
theorem dX11_init_90 : decode cX11_init 90 = .ok (.putfield 41, 3) := by decide +kernel
theorem dX11_init_93 : decode cX11_init 93 = .ok (.aload_n 0, 1) := by decide +kernel
theorem dX11_init_94 : decode cX11_init 94 = .ok (.sipush 8192, 3) := by decide +kernel
theorem dX11_init_97 : decode cX11_init 97 = .ok (.newarray .int, 2) := by decide +kernel
theorem dX11_init_99 : decode cX11_init 99 = .ok (.putfield 44, 3) := by decide +kernel
theorem dX11_init_102 : decode cX11_init 102 = .ok (.aload_n 0, 1) := by decide +kernel
theorem dX11_init_103 : decode cX11_init 103 = .ok (.sipush 9216, 3) := by decide +kernel
theorem dX11_init_106 : decode cX11_init 106 = .ok (.newarray .int, 2) := by decide +kernel
theorem dX11_init_108 : decode cX11_init 108 = .ok (.putfield 47, 3) := by decide +kernel
theorem dX11_init_111 : decode cX11_init 111 = .ok (.aload_n 0, 1) := by decide +kernel
theorem dX11_init_112 : decode cX11_init 112 = .ok (.sipush 16896, 3) := by decide +kernel
theorem dX11_init_115 : decode cX11_init 115 = .ok (.newarray .int, 2) := by decide +kernel
theorem dX11_init_117 : decode cX11_init 117 = .ok (.putfield 50, 3) := by decide +kernel
theorem dX11_init_120 : decode cX11_init 120 = .ok (.aload_n 0, 1) := by decide +kernel
theorem dX11_init_121 : decode cX11_init 121 = .ok (.iconst 2, 1) := by decide +kernel
theorem dX11_init_122 : decode cX11_init 122 = .ok (.newarray .long, 2) := by decide +kernel
theorem dX11_init_124 : decode cX11_init 124 = .ok (.putfield 53, 3) := by decide +kernel
theorem dX11_init_127 : decode cX11_init 127 = .ok (.aload_n 0, 1) := by decide +kernel
theorem dX11_init_128 : decode cX11_init 128 = .ok (.iconst 2, 1) := by decide +kernel
theorem dX11_init_129 : decode cX11_init 129 = .ok (.newarray .long, 2) := by decide +kernel
theorem dX11_init_131 : decode cX11_init 131 = .ok (.putfield 57, 3) := by decide +kernel
theorem dX11_init_134 : decode cX11_init 134 = .ok (.aload_n 0, 1) := by decide +kernel
theorem dX11_init_135 : decode cX11_init 135 = .ok (.sipush 3200, 3) := by decide +kernel
theorem dX11_init_138 : decode cX11_init 138 = .ok (.newarray .int, 2) := by decide +kernel
theorem dX11_init_140 : decode cX11_init 140 = .ok (.putfield 60, 3) := by decide +kernel
theorem dX11_init_143 : decode cX11_init 143 = .ok (.aload_n 0, 1) := by decide +kernel
theorem dX11_init_144 : decode cX11_init 144 = .ok (.bipush 9, 2) := by decide +kernel
theorem dX11_init_146 : decode cX11_init 146 = .ok (.newarray .int, 2) := by decide +kernel
theorem dX11_init_148 : decode cX11_init 148 = .ok (.putfield 63, 3) := by decide +kernel
theorem dX11_init_151 : decode cX11_init 151 = .ok (.aload_n 0, 1) := by decide +kernel
theorem dX11_init_152 : decode cX11_init 152 = .ok (.iload_n 1, 1) := by decide +kernel
theorem dX11_init_153 : decode cX11_init 153 = .ok (.bipush 6, 2) := by decide +kernel
theorem dX11_init_155 : decode cX11_init 155 = .ok (.if_icmp .ge 8, 3) := by decide +kernel
theorem dX11_init_158 : decode cX11_init 158 = .ok (.bipush 6, 2) := by decide +kernel
theorem dX11_init_160 : decode cX11_init 160 = .ok (.goto 15, 3) := by decide +kernel
theorem dX11_init_163 : decode cX11_init 163 = .ok (.iload_n 1, 1) := by decide +kernel
theorem dX11_init_164 : decode cX11_init 164 = .ok (.bipush 12, 2) := by decide +kernel
theorem dX11_init_166 : decode cX11_init 166 = .ok (.if_icmp .le 8, 3) := by decide +kernel
theorem dX11_init_169 : decode cX11_init 169 = .ok (.bipush 12, 2) := by decide +kernel
theorem dX11_init_171 : decode cX11_init 171 = .ok (.goto 4, 3) := by decide +kernel
theorem dX11_init_174 : decode cX11_init 174 = .ok (.iload_n 1, 1) := by decide +kernel
theorem dX11_init_175 : decode cX11_init 175 = .ok (.putfield 66, 3) := by decide +kernel
theorem dX11_init_178 : decode cX11_init 178 = .ok (.sipush (-2047), 3) := by decide +kernel
theorem dX11_init_181 : decode cX11_init 181 = .ok (.istore_n 2, 1) := by decide +kernel
theorem dX11_init_182 : decode cX11_init 182 = .ok (.iconst 0, 1) := by decide +kernel
theorem dX11_init_183 : decode cX11_init 183 = .ok (.istore_n 3, 1) := by decide +kernel
theorem dX11_init_184 : decode cX11_init 184 = .ok (.iload_n 3, 1) := by decide +kernel
theorem dX11_init_185 : decode cX11_init 185 = .ok (.sipush 4096, 3) := by decide +kernel
theorem dX11_init_188 : decode cX11_init 188 = .ok (.if_icmp .ge 37, 3) := by decide +kernel
theorem dX11_init_191 : decode cX11_init 191 = .ok (.iload_n 2, 1) := by decide +kernel
theorem dX11_init_192 : decode cX11_init 192 = .ok (.sipush 2047, 3) := by decide +kernel
theorem dX11_init_195 : decode cX11_init 195 = .ok (.if_icmp .ge 17, 3) := by decide +kernel
theorem dX11_init_198 : decode cX11_init 198 = .ok (.iload_n 2, 1) := by decide +kernel
theorem dX11_init_199 : decode cX11_init 199 = .ok (.invokestatic 70, 3) := by decide +kernel
theorem dX11_init_202 : decode cX11_init 202 = .ok (.iload_n 3, 1) := by decide +kernel
theorem dX11_init_203 : decode cX11_init 203 = .ok (.if_icmp .ge 9, 3) := by decide +kernel
theorem dX11_init_206 : decode cX11_init 206 = .ok (.iinc 2 1, 3) := by decide +kernel
theorem dX11_init_209 : decode cX11_init 209 = .ok (.goto (-18), 3) := by decide +kernel
theorem dX11_init_212 : decode cX11_init 212 = .ok (.aload_n 0, 1) := by decide +kernel
theorem dX11_init_213 : decode cX11_init 213 = .ok (.getfield 7, 3) := by decide +kernel
theorem dX11_init_216 : decode cX11_init 216 = .ok (.iload_n 3, 1) := by decide +kernel
theorem dX11_init_217 : decode cX11_init 217 = .ok (.iload_n 2, 1) := by decide +kernel
theorem dX11_init_218 : decode cX11_init 218 = .ok (.iastore, 1) := by decide +kernel
theorem dX11_init_219 : decode cX11_init 219 = .ok (.iinc 3 1, 3) := by decide +kernel
theorem dX11_init_222 : decode cX11_init 222 = .ok (.goto (-38), 3) := by decide +kernel
theorem dX11_init_225 : decode cX11_init 225 = .ok (.aload_n 0, 1) := by decide +kernel
theorem dX11_init_226 : decode cX11_init 226 = .ok (.invokevirtual 74, 3) := by decide +kernel
theorem dX11_init_229 : decode cX11_init 229 = .ok (.return_, 1) := by decide +kernel
theorem dX11_thrown_0 : decode cX11_thrown 0 = .ok (.aload_n 0, 1) := by decide +kernel
theorem dX11_thrown_1 : decode cX11_thrown 1 = .ok (.getfield 77, 3) := by decide +kernel
theorem dX11_thrown_4 : decode cX11_thrown 4 = .ok (.ireturn, 1) := by decide +kernel
theorem dX11_squashed_0 : decode cX11_squashed 0 = .ok (.iload_n 0, 1) := by decide +kernel
theorem dX11_squashed_1 : decode cX11_squashed 1 = .ok (.sipush 2047, 3) := by decide +kernel
theorem dX11_squashed_4 : decode cX11_squashed 4 = .ok (.if_icmp .le 7, 3) := by decide +kernel
theorem dX11_squashed_7 : decode cX11_squashed 7 = .ok (.sipush 4095, 3) := by decide +kernel
theorem dX11_squashed_10 : decode cX11_squashed 10 = .ok (.ireturn, 1) := by decide +kernel
theorem dX11_squashed_11 : decode cX11_squashed 11 = .ok (.iload_n 0, 1) := by decide +kernel
theorem dX11_squashed_12 : decode cX11_squashed 12 = .ok (.sipush (-2047), 3) := by decide +kernel
theorem dX11_squashed_15 : decode cX11_squashed 15 = .ok (.if_icmp .ge 5, 3) := by decide +kernel
theorem dX11_squashed_18 : decode cX11_squashed 18 = .ok (.iconst 0, 1) := by decide +kernel
theorem dX11_squashed_19 : decode cX11_squashed 19 = .ok (.ireturn, 1) := by decide +kernel
theorem dX11_squashed_20 : decode cX11_squashed 20 = .ok (.iload_n 0, 1) := by decide +kernel
theorem dX11_squashed_21 : decode cX11_squashed 21 = .ok (.bipush 7, 2) := by decide +kernel
theorem dX11_squashed_23 : decode cX11_squashed 23 = .ok (.ishr, 1) := by decide +kernel
theorem dX11_squashed_24 : decode cX11_squashed 24 = .ok (.bipush 16, 2) := by decide +kernel
theorem dX11_squashed_26 : decode cX11_squashed 26 = .ok (.iadd, 1) := by decide +kernel
theorem dX11_squashed_27 : decode cX11_squashed 27 = .ok (.istore_n 1, 1) := by decide +kernel
theorem dX11_squashed_28 : decode cX11_squashed 28 = .ok (.iload_n 0, 1) := by decide +kernel
theorem dX11_squashed_29 : decode cX11_squashed 29 = .ok (.bipush 127, 2) := by decide +kernel
theorem dX11_squashed_31 : decode cX11_squashed 31 = .ok (.iand, 1) := by decide +kernel
theorem dX11_squashed_32 : decode cX11_squashed 32 = .ok (.istore_n 2, 1) := by decide +kernel
theorem dX11_squashed_33 : decode cX11_squashed 33 = .ok (.getstatic 80, 3) := by decide +kernel
theorem dX11_squashed_36 : decode cX11_squashed 36 = .ok (.iload_n 1, 1) := by decide +kernel
theorem dX11_squashed_37 : decode cX11_squashed 37 = .ok (.iaload, 1) := by decide +kernel
theorem dX11_squashed_38 : decode cX11_squashed 38 = .ok (.sipush 128, 3) := by decide +kernel
theorem dX11_squashed_41 : decode cX11_squashed 41 = .ok (.iload_n 2, 1) := by decide +kernel
theorem dX11_squashed_42 : decode cX11_squashed 42 = .ok (.isub, 1) := by decide +kernel
theorem dX11_squashed_43 : decode cX11_squashed 43 = .ok (.imul, 1) := by decide +kernel
theorem dX11_squashed_44 : decode cX11_squashed 44 = .ok (.getstatic 80, 3) := by decide +kernel
theorem dX11_squashed_47 : decode cX11_squashed 47 = .ok (.iload_n 1, 1) := by decide +kernel
theorem dX11_squashed_48 : decode cX11_squashed 48 = .ok (.iconst 1, 1) := by decide +kernel
theorem dX11_squashed_49 : decode cX11_squashed 49 = .ok (.iadd, 1) := by decide +kernel
theorem dX11_squashed_50 : decode cX11_squashed 50 = .ok (.iaload, 1) := by decide +kernel
theorem dX11_squashed_51 : decode cX11_squashed 51 = .ok (.iload_n 2, 1) := by decide +kernel
theorem dX11_squashed_52 : decode cX11_squashed 52 = .ok (.imul, 1) := by decide +kernel
theorem dX11_squashed_53 : decode cX11_squashed 53 = .ok (.iadd, 1) := by decide +kernel
theorem dX11_squashed_54 : decode cX11_squashed 54 = .ok (.bipush 64, 2) := by decide +kernel
theorem dX11_squashed_56 : decode cX11_squashed 56 = .ok (.iadd, 1) := by decide +kernel
theorem dX11_squashed_57 : decode cX11_squashed 57 = .ok (.bipush 7, 2) := by decide +kernel
theorem dX11_squashed_59 : decode cX11_squashed 59 = .ok (.ishr, 1) := by decide +kernel
theorem dX11_squashed_60 : decode cX11_squashed 60 = .ok (.ireturn, 1) := by decide +kernel
theorem dX11_hash_0 : decode cX11_hash 0 = .ok (.iload_n 0, 1) := by decide +kernel
theorem dX11_hash_1 : decode cX11_hash 1 = .ok (.ldc 83, 2) := by decide +kernel
theorem dX11_hash_3 : decode cX11_hash 3 = .ok (.ixor, 1) := by decide +kernel
theorem dX11_hash_4 : decode cX11_hash 4 = .ok (.ldc 84, 2) := by decide +kernel
theorem dX11_hash_6 : decode cX11_hash 6 = .ok (.imul, 1) := by decide +kernel
theorem dX11_hash_7 : decode cX11_hash 7 = .ok (.iload_n 1, 1) := by decide +kernel
theorem dX11_hash_8 : decode cX11_hash 8 = .ok (.ldc 85, 2) := by decide +kernel
theorem dX11_hash_10 : decode cX11_hash 10 = .ok (.imul, 1) := by decide +kernel
theorem dX11_hash_11 : decode cX11_hash 11 = .ok (.iadd, 1) := by decide +kernel
theorem dX11_hash_12 : decode cX11_hash 12 = .ok (.istore_n 2, 1) := by decide +kernel
theorem dX11_hash_13 : decode cX11_hash 13 = .ok (.iload_n 2, 1) := by decide +kernel
theorem dX11_hash_14 : decode cX11_hash 14 = .ok (.iload_n 2, 1) := by decide +kernel
theorem dX11_hash_15 : decode cX11_hash 15 = .ok (.bipush 15, 2) := by decide +kernel
theorem dX11_hash_17 : decode cX11_hash 17 = .ok (.iushr, 1) := by decide +kernel
theorem dX11_hash_18 : decode cX11_hash 18 = .ok (.ixor, 1) := by decide +kernel
theorem dX11_hash_19 : decode cX11_hash 19 = .ok (.ireturn, 1) := by decide +kernel
theorem dX11_bound_0 : decode cX11_bound 0 = .ok (.iload_n 0, 1) := by decide +kernel
theorem dX11_bound_1 : decode cX11_bound 1 = .ok (.iload_n 1, 1) := by decide +kernel
theorem dX11_bound_2 : decode cX11_bound 2 = .ok (.if_icmp .ge 7, 3) := by decide +kernel
theorem dX11_bound_5 : decode cX11_bound 5 = .ok (.iload_n 1, 1) := by decide +kernel
theorem dX11_bound_6 : decode cX11_bound 6 = .ok (.goto 13, 3) := by decide +kernel
theorem dX11_bound_9 : decode cX11_bound 9 = .ok (.iload_n 0, 1) := by decide +kernel
theorem dX11_bound_10 : decode cX11_bound 10 = .ok (.iload_n 2, 1) := by decide +kernel
theorem dX11_bound_11 : decode cX11_bound 11 = .ok (.if_icmp .le 7, 3) := by decide +kernel
theorem dX11_bound_14 : decode cX11_bound 14 = .ok (.iload_n 2, 1) := by decide +kernel
theorem dX11_bound_15 : decode cX11_bound 15 = .ok (.goto 4, 3) := by decide +kernel
theorem dX11_bound_18 : decode cX11_bound 18 = .ok (.iload_n 0, 1) := by decide +kernel
theorem dX11_bound_19 : decode cX11_bound 19 = .ok (.ireturn, 1) := by decide +kernel
theorem dX11_squash_0 : decode cX11_squash 0 = .ok (.aload_n 0, 1) := by decide +kernel
theorem dX11_squash_1 : decode cX11_squash 1 = .ok (.iconst 0, 1) := by decide +kernel
theorem dX11_squash_2 : decode cX11_squash 2 = .ok (.putfield 77, 3) := by decide +kernel
theorem dX11_squash_5 : decode cX11_squash 5 = .ok (.iload_n 1, 1) := by decide +kernel
theorem dX11_squash_6 : decode cX11_squash 6 = .ok (.invokestatic 70, 3) := by decide +kernel
theorem dX11_squash_9 : decode cX11_squash 9 = .ok (.ireturn, 1) := by decide +kernel
theorem dX11_stretch_0 : decode cX11_stretch 0 = .ok (.aload_n 0, 1) := by decide +kernel
theorem dX11_stretch_1 : decode cX11_stretch 1 = .ok (.iconst 0, 1) := by decide +kernel
theorem dX11_stretch_2 : decode cX11_stretch 2 = .ok (.putfield 77, 3) := by decide +kernel
theorem dX11_stretch_5 : decode cX11_stretch 5 = .ok (.iload_n 1, 1) := by decide +kernel
theorem dX11_stretch_6 : decode cX11_stretch 6 = .ok (.ifCond .lt 10, 3) := by decide +kernel
theorem dX11_stretch_9 : decode cX11_stretch 9 = .ok (.iload_n 1, 1) := by decide +kernel
theorem dX11_stretch_10 : decode cX11_stretch 10 = .ok (.sipush 4095, 3) := by decide +kernel
theorem dX11_stretch_13 : decode cX11_stretch 13 = .ok (.if_icmp .le 9, 3) := by decide +kernel
theorem dX11_stretch_16 : decode cX11_stretch 16 = .ok (.sipush (-9999), 3) := by decide +kernel
theorem dX11_stretch_19 : decode cX11_stretch 19 = .ok (.goto 9, 3) := by decide +kernel
theorem dX11_stretch_22 : decode cX11_stretch 22 = .ok (.aload_n 0, 1) := by decide +kernel
theorem dX11_stretch_23 : decode cX11_stretch 23 = .ok (.getfield 7, 3) := by decide +kernel
theorem dX11_stretch_26 : decode cX11_stretch 26 = .ok (.iload_n 1, 1) := by decide +kernel
theorem dX11_stretch_27 : decode cX11_stretch 27 = .ok (.iaload, 1) := by decide +kernel
theorem dX11_stretch_28 : decode cX11_stretch 28 = .ok (.ireturn, 1) := by decide +kernel
theorem dX11_fresh_0 : decode cX11_fresh 0 = .ok (.aload_n 0, 1) := by decide +kernel
theorem dX11_fresh_1 : decode cX11_fresh 1 = .ok (.getfield 26, 3) := by decide +kernel
theorem dX11_fresh_4 : decode cX11_fresh 4 = .ok (.iload_n 1, 1) := by decide +kernel
theorem dX11_fresh_5 : decode cX11_fresh 5 = .ok (.iconst 0, 1) := by decide +kernel
theorem dX11_fresh_6 : decode cX11_fresh 6 = .ok (.iastore, 1) := by decide +kernel
theorem dX11_fresh_7 : decode cX11_fresh 7 = .ok (.aload_n 0, 1) := by decide +kernel
theorem dX11_fresh_8 : decode cX11_fresh 8 = .ok (.getfield 29, 3) := by decide +kernel
theorem dX11_fresh_11 : decode cX11_fresh 11 = .ok (.iload_n 1, 1) := by decide +kernel
theorem dX11_fresh_12 : decode cX11_fresh 12 = .ok (.iconst 1, 1) := by decide +kernel
theorem dX11_fresh_13 : decode cX11_fresh 13 = .ok (.iastore, 1) := by decide +kernel
theorem dX11_fresh_14 : decode cX11_fresh 14 = .ok (.iconst 0, 1) := by decide +kernel
theorem dX11_fresh_15 : decode cX11_fresh 15 = .ok (.istore_n 2, 1) := by decide +kernel
theorem dX11_fresh_16 : decode cX11_fresh 16 = .ok (.iload_n 2, 1) := by decide +kernel
theorem dX11_fresh_17 : decode cX11_fresh 17 = .ok (.sipush 4096, 3) := by decide +kernel
theorem dX11_fresh_20 : decode cX11_fresh 20 = .ok (.if_icmp .ge 36, 3) := by decide +kernel
theorem dX11_fresh_23 : decode cX11_fresh 23 = .ok (.aload_n 0, 1) := by decide +kernel
theorem dX11_fresh_24 : decode cX11_fresh 24 = .ok (.getfield 41, 3) := by decide +kernel
theorem dX11_fresh_27 : decode cX11_fresh 27 = .ok (.sipush 4096, 3) := by decide +kernel
theorem dX11_fresh_30 : decode cX11_fresh 30 = .ok (.iload_n 1, 1) := by decide +kernel
theorem dX11_fresh_31 : decode cX11_fresh 31 = .ok (.imul, 1) := by decide +kernel
theorem dX11_fresh_32 : decode cX11_fresh 32 = .ok (.iload_n 2, 1) := by decide +kernel
theorem dX11_fresh_33 : decode cX11_fresh 33 = .ok (.iadd, 1) := by decide +kernel
theorem dX11_fresh_34 : decode cX11_fresh 34 = .ok (.ldc 86, 2) := by decide +kernel
theorem dX11_fresh_36 : decode cX11_fresh 36 = .ok (.iastore, 1) := by decide +kernel
theorem dX11_fresh_37 : decode cX11_fresh 37 = .ok (.aload_n 0, 1) := by decide +kernel
theorem dX11_fresh_38 : decode cX11_fresh 38 = .ok (.getfield 44, 3) := by decide +kernel
theorem dX11_fresh_41 : decode cX11_fresh 41 = .ok (.sipush 4096, 3) := by decide +kernel
theorem dX11_fresh_44 : decode cX11_fresh 44 = .ok (.iload_n 1, 1) := by decide +kernel
theorem dX11_fresh_45 : decode cX11_fresh 45 = .ok (.imul, 1) := by decide +kernel
theorem dX11_fresh_46 : decode cX11_fresh 46 = .ok (.iload_n 2, 1) := by decide +kernel
theorem dX11_fresh_47 : decode cX11_fresh 47 = .ok (.iadd, 1) := by decide +kernel
theorem dX11_fresh_48 : decode cX11_fresh 48 = .ok (.iconst 0, 1) := by decide +kernel
theorem dX11_fresh_49 : decode cX11_fresh 49 = .ok (.iastore, 1) := by decide +kernel
theorem dX11_fresh_50 : decode cX11_fresh 50 = .ok (.iinc 2 1, 3) := by decide +kernel
theorem dX11_fresh_53 : decode cX11_fresh 53 = .ok (.goto (-37), 3) := by decide +kernel
theorem dX11_fresh_56 : decode cX11_fresh 56 = .ok (.iconst 0, 1) := by decide +kernel
theorem dX11_fresh_57 : decode cX11_fresh 57 = .ok (.istore_n 2, 1) := by decide +kernel
theorem dX11_fresh_58 : decode cX11_fresh 58 = .ok (.iload_n 2, 1) := by decide +kernel
theorem dX11_fresh_59 : decode cX11_fresh 59 = .ok (.iconst 2, 1) := by decide +kernel
theorem dX11_fresh_60 : decode cX11_fresh 60 = .ok (.if_icmp .ge 69, 3) := by decide +kernel
theorem dX11_fresh_63 : decode cX11_fresh 63 = .ok (.iconst 0, 1) := by decide +kernel
theorem dX11_fresh_64 : decode cX11_fresh 64 = .ok (.istore_n 3, 1) := by decide +kernel
theorem dX11_fresh_65 : decode cX11_fresh 65 = .ok (.iload_n 3, 1) := by decide +kernel
theorem dX11_fresh_66 : decode cX11_fresh 66 = .ok (.sipush 256, 3) := by decide +kernel
theorem dX11_fresh_69 : decode cX11_fresh 69 = .ok (.if_icmp .ge 54, 3) := by decide +kernel
theorem dX11_fresh_72 : decode cX11_fresh 72 = .ok (.iconst 0, 1) := by decide +kernel
theorem dX11_fresh_73 : decode cX11_fresh 73 = .ok (.istore 4, 2) := by decide +kernel
theorem dX11_fresh_75 : decode cX11_fresh 75 = .ok (.iload 4, 2) := by decide +kernel
theorem dX11_fresh_77 : decode cX11_fresh 77 = .ok (.bipush 9, 2) := by decide +kernel
theorem dX11_fresh_79 : decode cX11_fresh 79 = .ok (.if_icmp .ge 38, 3) := by decide +kernel
theorem dX11_fresh_82 : decode cX11_fresh 82 = .ok (.aload_n 0, 1) := by decide +kernel
theorem dX11_fresh_83 : decode cX11_fresh 83 = .ok (.getfield 47, 3) := by decide +kernel
theorem dX11_fresh_86 : decode cX11_fresh 86 = .ok (.iload_n 1, 1) := by decide +kernel
theorem dX11_fresh_87 : decode cX11_fresh 87 = .ok (.iload_n 2, 1) := by decide +kernel
theorem dX11_fresh_88 : decode cX11_fresh 88 = .ok (.iload_n 3, 1) := by decide +kernel
theorem dX11_fresh_89 : decode cX11_fresh 89 = .ok (.iload 4, 2) := by decide +kernel
theorem dX11_fresh_91 : decode cX11_fresh 91 = .ok (.invokestatic 87, 3) := by decide +kernel
theorem dX11_fresh_94 : decode cX11_fresh 94 = .ok (.iload 4, 2) := by decide +kernel
theorem dX11_fresh_96 : decode cX11_fresh 96 = .ok (.aload_n 0, 1) := by decide +kernel
theorem dX11_fresh_97 : decode cX11_fresh 97 = .ok (.getfield 91, 3) := by decide +kernel
theorem dX11_fresh_100 : decode cX11_fresh 100 = .ok (.if_icmp .ge 9, 3) := by decide +kernel
theorem dX11_fresh_103 : decode cX11_fresh 103 = .ok (.sipush 20000, 3) := by decide +kernel
theorem dX11_fresh_106 : decode cX11_fresh 106 = .ok (.goto 4, 3) := by decide +kernel
theorem dX11_fresh_109 : decode cX11_fresh 109 = .ok (.iconst 0, 1) := by decide +kernel
theorem dX11_fresh_110 : decode cX11_fresh 110 = .ok (.iastore, 1) := by decide +kernel
theorem dX11_fresh_111 : decode cX11_fresh 111 = .ok (.iinc 4 1, 3) := by decide +kernel
theorem dX11_fresh_114 : decode cX11_fresh 114 = .ok (.goto (-39), 3) := by decide +kernel
theorem dX11_fresh_117 : decode cX11_fresh 117 = .ok (.iinc 3 1, 3) := by decide +kernel
theorem dX11_fresh_120 : decode cX11_fresh 120 = .ok (.goto (-55), 3) := by decide +kernel
theorem dX11_fresh_123 : decode cX11_fresh 123 = .ok (.iinc 2 1, 3) := by decide +kernel
theorem dX11_fresh_126 : decode cX11_fresh 126 = .ok (.goto (-68), 3) := by decide +kernel
theorem dX11_fresh_129 : decode cX11_fresh 129 = .ok (.iconst 0, 1) := by decide +kernel
theorem dX11_fresh_130 : decode cX11_fresh 130 = .ok (.istore_n 2, 1) := by decide +kernel
theorem dX11_fresh_131 : decode cX11_fresh 131 = .ok (.iload_n 2, 1) := by decide +kernel
theorem dX11_fresh_132 : decode cX11_fresh 132 = .ok (.sipush 256, 3) := by decide +kernel
theorem dX11_fresh_135 : decode cX11_fresh 135 = .ok (.if_icmp .ge 54, 3) := by decide +kernel
theorem dX11_fresh_138 : decode cX11_fresh 138 = .ok (.iconst 0, 1) := by decide +kernel
theorem dX11_fresh_139 : decode cX11_fresh 139 = .ok (.istore_n 3, 1) := by decide +kernel
theorem dX11_fresh_140 : decode cX11_fresh 140 = .ok (.iload_n 3, 1) := by decide +kernel
theorem dX11_fresh_141 : decode cX11_fresh 141 = .ok (.bipush 33, 2) := by decide +kernel
theorem dX11_fresh_143 : decode cX11_fresh 143 = .ok (.if_icmp .ge 40, 3) := by decide +kernel
theorem dX11_fresh_146 : decode cX11_fresh 146 = .ok (.aload_n 0, 1) := by decide +kernel
theorem dX11_fresh_147 : decode cX11_fresh 147 = .ok (.getfield 50, 3) := by decide +kernel
theorem dX11_fresh_150 : decode cX11_fresh 150 = .ok (.sipush 8448, 3) := by decide +kernel
theorem dX11_fresh_153 : decode cX11_fresh 153 = .ok (.iload_n 1, 1) := by decide +kernel
theorem dX11_fresh_154 : decode cX11_fresh 154 = .ok (.imul, 1) := by decide +kernel
theorem dX11_fresh_155 : decode cX11_fresh 155 = .ok (.bipush 33, 2) := by decide +kernel
theorem dX11_fresh_157 : decode cX11_fresh 157 = .ok (.iload_n 2, 1) := by decide +kernel
theorem dX11_fresh_158 : decode cX11_fresh 158 = .ok (.imul, 1) := by decide +kernel
theorem dX11_fresh_159 : decode cX11_fresh 159 = .ok (.iadd, 1) := by decide +kernel
theorem dX11_fresh_160 : decode cX11_fresh 160 = .ok (.iload_n 3, 1) := by decide +kernel
theorem dX11_fresh_161 : decode cX11_fresh 161 = .ok (.iadd, 1) := by decide +kernel
theorem dX11_fresh_162 : decode cX11_fresh 162 = .ok (.iload_n 3, 1) := by decide +kernel
theorem dX11_fresh_163 : decode cX11_fresh 163 = .ok (.bipush 16, 2) := by decide +kernel
theorem dX11_fresh_165 : decode cX11_fresh 165 = .ok (.isub, 1) := by decide +kernel
theorem dX11_fresh_166 : decode cX11_fresh 166 = .ok (.sipush 128, 3) := by decide +kernel
theorem dX11_fresh_169 : decode cX11_fresh 169 = .ok (.imul, 1) := by decide +kernel
theorem dX11_fresh_170 : decode cX11_fresh 170 = .ok (.invokestatic 70, 3) := by decide +kernel
theorem dX11_fresh_173 : decode cX11_fresh 173 = .ok (.bipush 16, 2) := by decide +kernel
theorem dX11_fresh_175 : decode cX11_fresh 175 = .ok (.imul, 1) := by decide +kernel
theorem dX11_fresh_176 : decode cX11_fresh 176 = .ok (.iastore, 1) := by decide +kernel
theorem dX11_fresh_177 : decode cX11_fresh 177 = .ok (.iinc 3 1, 3) := by decide +kernel
theorem dX11_fresh_180 : decode cX11_fresh 180 = .ok (.goto (-40), 3) := by decide +kernel
theorem dX11_fresh_183 : decode cX11_fresh 183 = .ok (.iinc 2 1, 3) := by decide +kernel
theorem dX11_fresh_186 : decode cX11_fresh 186 = .ok (.goto (-55), 3) := by decide +kernel
theorem dX11_fresh_189 : decode cX11_fresh 189 = .ok (.iconst 0, 1) := by decide +kernel
theorem dX11_fresh_190 : decode cX11_fresh 190 = .ok (.istore_n 2, 1) := by decide +kernel
theorem dX11_fresh_191 : decode cX11_fresh 191 = .ok (.iload_n 2, 1) := by decide +kernel
theorem dX11_fresh_192 : decode cX11_fresh 192 = .ok (.bipush 8, 2) := by decide +kernel
theorem dX11_fresh_194 : decode cX11_fresh 194 = .ok (.if_icmp .ge 33, 3) := by decide +kernel
theorem dX11_fresh_197 : decode cX11_fresh 197 = .ok (.aload_n 0, 1) := by decide +kernel
theorem dX11_fresh_198 : decode cX11_fresh 198 = .ok (.getfield 35, 3) := by decide +kernel
theorem dX11_fresh_201 : decode cX11_fresh 201 = .ok (.bipush 8, 2) := by decide +kernel
theorem dX11_fresh_203 : decode cX11_fresh 203 = .ok (.iload_n 1, 1) := by decide +kernel
theorem dX11_fresh_204 : decode cX11_fresh 204 = .ok (.imul, 1) := by decide +kernel
theorem dX11_fresh_205 : decode cX11_fresh 205 = .ok (.iload_n 2, 1) := by decide +kernel
theorem dX11_fresh_206 : decode cX11_fresh 206 = .ok (.iadd, 1) := by decide +kernel
theorem dX11_fresh_207 : decode cX11_fresh 207 = .ok (.iconst 0, 1) := by decide +kernel
theorem dX11_fresh_208 : decode cX11_fresh 208 = .ok (.iastore, 1) := by decide +kernel
theorem dX11_fresh_209 : decode cX11_fresh 209 = .ok (.aload_n 0, 1) := by decide +kernel
theorem dX11_fresh_210 : decode cX11_fresh 210 = .ok (.getfield 38, 3) := by decide +kernel
theorem dX11_fresh_213 : decode cX11_fresh 213 = .ok (.bipush 8, 2) := by decide +kernel
theorem dX11_fresh_215 : decode cX11_fresh 215 = .ok (.iload_n 1, 1) := by decide +kernel
theorem dX11_fresh_216 : decode cX11_fresh 216 = .ok (.imul, 1) := by decide +kernel
theorem dX11_fresh_217 : decode cX11_fresh 217 = .ok (.iload_n 2, 1) := by decide +kernel
theorem dX11_fresh_218 : decode cX11_fresh 218 = .ok (.iadd, 1) := by decide +kernel
theorem dX11_fresh_219 : decode cX11_fresh 219 = .ok (.iconst 0, 1) := by decide +kernel
theorem dX11_fresh_220 : decode cX11_fresh 220 = .ok (.iastore, 1) := by decide +kernel
theorem dX11_fresh_221 : decode cX11_fresh 221 = .ok (.iinc 2 1, 3) := by decide +kernel
theorem dX11_fresh_224 : decode cX11_fresh 224 = .ok (.goto (-33), 3) := by decide +kernel
theorem dX11_fresh_227 : decode cX11_fresh 227 = .ok (.aload_n 0, 1) := by decide +kernel
theorem dX11_fresh_228 : decode cX11_fresh 228 = .ok (.getfield 53, 3) := by decide +kernel
theorem dX11_fresh_231 : decode cX11_fresh 231 = .ok (.iload_n 1, 1) := by decide +kernel
theorem dX11_fresh_232 : decode cX11_fresh 232 = .ok (.lconst 0, 1) := by decide +kernel
theorem dX11_fresh_233 : decode cX11_fresh 233 = .ok (.lastore, 1) := by decide +kernel
theorem dX11_fresh_234 : decode cX11_fresh 234 = .ok (.aload_n 0, 1) := by decide +kernel
theorem dX11_fresh_235 : decode cX11_fresh 235 = .ok (.getfield 57, 3) := by decide +kernel
theorem dX11_fresh_238 : decode cX11_fresh 238 = .ok (.iload_n 1, 1) := by decide +kernel
theorem dX11_fresh_239 : decode cX11_fresh 239 = .ok (.ldc2_w 94, 3) := by decide +kernel
theorem dX11_fresh_242 : decode cX11_fresh 242 = .ok (.lastore, 1) := by decide +kernel
theorem dX11_fresh_243 : decode cX11_fresh 243 = .ok (.aload_n 0, 1) := by decide +kernel
theorem dX11_fresh_244 : decode cX11_fresh 244 = .ok (.iload_n 1, 1) := by decide +kernel
theorem dX11_fresh_245 : decode cX11_fresh 245 = .ok (.iconst 0, 1) := by decide +kernel
theorem dX11_fresh_246 : decode cX11_fresh 246 = .ok (.invokevirtual 96, 3) := by decide +kernel
theorem dX11_fresh_249 : decode cX11_fresh 249 = .ok (.return_, 1) := by decide +kernel
theorem dX11_freshAll_0 : decode cX11_freshAll 0 = .ok (.aload_n 0, 1) := by decide +kernel
theorem dX11_freshAll_1 : decode cX11_freshAll 1 = .ok (.iconst 0, 1) := by decide +kernel
theorem dX11_freshAll_2 : decode cX11_freshAll 2 = .ok (.invokevirtual 100, 3) := by decide +kernel
theorem dX11_freshAll_5 : decode cX11_freshAll 5 = .ok (.aload_n 0, 1) := by decide +kernel
theorem dX11_freshAll_6 : decode cX11_freshAll 6 = .ok (.iconst 1, 1) := by decide +kernel
theorem dX11_freshAll_7 : decode cX11_freshAll 7 = .ok (.invokevirtual 100, 3) := by decide +kernel
theorem dX11_freshAll_10 : decode cX11_freshAll 10 = .ok (.aload_n 0, 1) := by decide +kernel
theorem dX11_freshAll_11 : decode cX11_freshAll 11 = .ok (.iconst 0, 1) := by decide +kernel
theorem dX11_freshAll_12 : decode cX11_freshAll 12 = .ok (.putfield 104, 3) := by decide +kernel
theorem dX11_freshAll_15 : decode cX11_freshAll 15 = .ok (.aload_n 0, 1) := by decide +kernel
theorem dX11_freshAll_16 : decode cX11_freshAll 16 = .ok (.iconst 0, 1) := by decide +kernel
theorem dX11_freshAll_17 : decode cX11_freshAll 17 = .ok (.putfield 107, 3) := by decide +kernel
theorem dX11_freshAll_20 : decode cX11_freshAll 20 = .ok (.aload_n 0, 1) := by decide +kernel
theorem dX11_freshAll_21 : decode cX11_freshAll 21 = .ok (.iconst 0, 1) := by decide +kernel
theorem dX11_freshAll_22 : decode cX11_freshAll 22 = .ok (.putfield 110, 3) := by decide +kernel
theorem dX11_freshAll_25 : decode cX11_freshAll 25 = .ok (.aload_n 0, 1) := by decide +kernel
theorem dX11_freshAll_26 : decode cX11_freshAll 26 = .ok (.iconst 0, 1) := by decide +kernel
theorem dX11_freshAll_27 : decode cX11_freshAll 27 = .ok (.putfield 114, 3) := by decide +kernel
theorem dX11_freshAll_30 : decode cX11_freshAll 30 = .ok (.return_, 1) := by decide +kernel
theorem dX11_weightAt_0 : decode cX11_weightAt 0 = .ok (.iconst 2, 1) := by decide +kernel
theorem dX11_weightAt_1 : decode cX11_weightAt 1 = .ok (.iload_n 0, 1) := by decide +kernel
theorem dX11_weightAt_2 : decode cX11_weightAt 2 = .ok (.imul, 1) := by decide +kernel
theorem dX11_weightAt_3 : decode cX11_weightAt 3 = .ok (.iload_n 1, 1) := by decide +kernel
theorem dX11_weightAt_4 : decode cX11_weightAt 4 = .ok (.iadd, 1) := by decide +kernel
theorem dX11_weightAt_5 : decode cX11_weightAt 5 = .ok (.sipush 256, 3) := by decide +kernel
theorem dX11_weightAt_8 : decode cX11_weightAt 8 = .ok (.imul, 1) := by decide +kernel
theorem dX11_weightAt_9 : decode cX11_weightAt 9 = .ok (.iload_n 2, 1) := by decide +kernel
theorem dX11_weightAt_10 : decode cX11_weightAt 10 = .ok (.iadd, 1) := by decide +kernel
theorem dX11_weightAt_11 : decode cX11_weightAt 11 = .ok (.bipush 9, 2) := by decide +kernel
theorem dX11_weightAt_13 : decode cX11_weightAt 13 = .ok (.imul, 1) := by decide +kernel
theorem dX11_weightAt_14 : decode cX11_weightAt 14 = .ok (.iload_n 3, 1) := by decide +kernel
theorem dX11_weightAt_15 : decode cX11_weightAt 15 = .ok (.iadd, 1) := by decide +kernel
theorem dX11_weightAt_16 : decode cX11_weightAt 16 = .ok (.ireturn, 1) := by decide +kernel
theorem dX11_latest_0 : decode cX11_latest 0 = .ok (.aload_n 0, 1) := by decide +kernel
theorem dX11_latest_1 : decode cX11_latest 1 = .ok (.getfield 26, 3) := by decide +kernel
theorem dX11_latest_4 : decode cX11_latest 4 = .ok (.iload_n 1, 1) := by decide +kernel
theorem dX11_latest_5 : decode cX11_latest 5 = .ok (.iaload, 1) := by decide +kernel
theorem dX11_latest_6 : decode cX11_latest 6 = .ok (.iload_n 2, 1) := by decide +kernel
theorem dX11_latest_7 : decode cX11_latest 7 = .ok (.isub, 1) := by decide +kernel
theorem dX11_latest_8 : decode cX11_latest 8 = .ok (.ifCond .ge 7, 3) := by decide +kernel
theorem dX11_latest_11 : decode cX11_latest 11 = .ok (.iconst 0, 1) := by decide +kernel
theorem dX11_latest_12 : decode cX11_latest 12 = .ok (.goto 22, 3) := by decide +kernel
theorem dX11_latest_15 : decode cX11_latest 15 = .ok (.aload_n 0, 1) := by decide +kernel
theorem dX11_latest_16 : decode cX11_latest 16 = .ok (.getfield 23, 3) := by decide +kernel
theorem dX11_latest_19 : decode cX11_latest 19 = .ok (.sipush 2050, 3) := by decide +kernel
theorem dX11_latest_22 : decode cX11_latest 22 = .ok (.iload_n 1, 1) := by decide +kernel
theorem dX11_latest_23 : decode cX11_latest 23 = .ok (.imul, 1) := by decide +kernel
theorem dX11_latest_24 : decode cX11_latest 24 = .ok (.aload_n 0, 1) := by decide +kernel
theorem dX11_latest_25 : decode cX11_latest 25 = .ok (.getfield 26, 3) := by decide +kernel
theorem dX11_latest_28 : decode cX11_latest 28 = .ok (.iload_n 1, 1) := by decide +kernel
theorem dX11_latest_29 : decode cX11_latest 29 = .ok (.iaload, 1) := by decide +kernel
theorem dX11_latest_30 : decode cX11_latest 30 = .ok (.iadd, 1) := by decide +kernel
theorem dX11_latest_31 : decode cX11_latest 31 = .ok (.iload_n 2, 1) := by decide +kernel
theorem dX11_latest_32 : decode cX11_latest 32 = .ok (.isub, 1) := by decide +kernel
theorem dX11_latest_33 : decode cX11_latest 33 = .ok (.iaload, 1) := by decide +kernel
theorem dX11_latest_34 : decode cX11_latest 34 = .ok (.ireturn, 1) := by decide +kernel
theorem dX11_isLetter_0 : decode cX11_isLetter 0 = .ok (.iload_n 0, 1) := by decide +kernel
theorem dX11_isLetter_1 : decode cX11_isLetter 1 = .ok (.bipush 65, 2) := by decide +kernel
theorem dX11_isLetter_3 : decode cX11_isLetter 3 = .ok (.if_icmp .lt 9, 3) := by decide +kernel
theorem dX11_isLetter_6 : decode cX11_isLetter 6 = .ok (.iload_n 0, 1) := by decide +kernel
theorem dX11_isLetter_7 : decode cX11_isLetter 7 = .ok (.bipush 90, 2) := by decide +kernel
theorem dX11_isLetter_9 : decode cX11_isLetter 9 = .ok (.if_icmp .le 15, 3) := by decide +kernel
theorem dX11_isLetter_12 : decode cX11_isLetter 12 = .ok (.iload_n 0, 1) := by decide +kernel
theorem dX11_isLetter_13 : decode cX11_isLetter 13 = .ok (.bipush 97, 2) := by decide +kernel
theorem dX11_isLetter_15 : decode cX11_isLetter 15 = .ok (.if_icmp .lt 13, 3) := by decide +kernel
theorem dX11_isLetter_18 : decode cX11_isLetter 18 = .ok (.iload_n 0, 1) := by decide +kernel
theorem dX11_isLetter_19 : decode cX11_isLetter 19 = .ok (.bipush 122, 2) := by decide +kernel
theorem dX11_isLetter_21 : decode cX11_isLetter 21 = .ok (.if_icmp .gt 7, 3) := by decide +kernel
theorem dX11_isLetter_24 : decode cX11_isLetter 24 = .ok (.iconst 1, 1) := by decide +kernel
theorem dX11_isLetter_25 : decode cX11_isLetter 25 = .ok (.goto 4, 3) := by decide +kernel
theorem dX11_isLetter_28 : decode cX11_isLetter 28 = .ok (.iconst 0, 1) := by decide +kernel
theorem dX11_isLetter_29 : decode cX11_isLetter 29 = .ok (.ireturn, 1) := by decide +kernel
theorem dX11_contextOf_0 : decode cX11_contextOf 0 = .ok (.aload_n 0, 1) := by decide +kernel
theorem dX11_contextOf_1 : decode cX11_contextOf 1 = .ok (.getfield 16, 3) := by decide +kernel
theorem dX11_contextOf_4 : decode cX11_contextOf 4 = .ok (.iload_n 2, 1) := by decide +kernel
theorem dX11_contextOf_5 : decode cX11_contextOf 5 = .ok (.iaload, 1) := by decide +kernel
theorem dX11_contextOf_6 : decode cX11_contextOf 6 = .ok (.istore_n 3, 1) := by decide +kernel
theorem dX11_contextOf_7 : decode cX11_contextOf 7 = .ok (.aload_n 0, 1) := by decide +kernel
theorem dX11_contextOf_8 : decode cX11_contextOf 8 = .ok (.getfield 13, 3) := by decide +kernel
theorem dX11_contextOf_11 : decode cX11_contextOf 11 = .ok (.iload_n 2, 1) := by decide +kernel
theorem dX11_contextOf_12 : decode cX11_contextOf 12 = .ok (.iaload, 1) := by decide +kernel
theorem dX11_contextOf_13 : decode cX11_contextOf 13 = .ok (.ifCond .ne 44, 3) := by decide +kernel
theorem dX11_contextOf_16 : decode cX11_contextOf 16 = .ok (.iload_n 3, 1) := by decide +kernel
theorem dX11_contextOf_17 : decode cX11_contextOf 17 = .ok (.iconst 1, 1) := by decide +kernel
theorem dX11_contextOf_18 : decode cX11_contextOf 18 = .ok (.iadd, 1) := by decide +kernel
theorem dX11_contextOf_19 : decode cX11_contextOf 19 = .ok (.iconst 0, 1) := by decide +kernel
theorem dX11_contextOf_20 : decode cX11_contextOf 20 = .ok (.invokestatic 117, 3) := by decide +kernel
theorem dX11_contextOf_23 : decode cX11_contextOf 23 = .ok (.istore 4, 2) := by decide +kernel
theorem dX11_contextOf_25 : decode cX11_contextOf 25 = .ok (.iconst 1, 1) := by decide +kernel
theorem dX11_contextOf_26 : decode cX11_contextOf 26 = .ok (.istore 5, 2) := by decide +kernel
theorem dX11_contextOf_28 : decode cX11_contextOf 28 = .ok (.iload 5, 2) := by decide +kernel
theorem dX11_contextOf_30 : decode cX11_contextOf 30 = .ok (.iload_n 3, 1) := by decide +kernel
theorem dX11_contextOf_31 : decode cX11_contextOf 31 = .ok (.if_icmp .gt 23, 3) := by decide +kernel
theorem dX11_contextOf_34 : decode cX11_contextOf 34 = .ok (.iload 4, 2) := by decide +kernel
theorem dX11_contextOf_36 : decode cX11_contextOf 36 = .ok (.aload_n 0, 1) := by decide +kernel
theorem dX11_contextOf_37 : decode cX11_contextOf 37 = .ok (.iload_n 1, 1) := by decide +kernel
theorem dX11_contextOf_38 : decode cX11_contextOf 38 = .ok (.iload 5, 2) := by decide +kernel
theorem dX11_contextOf_40 : decode cX11_contextOf 40 = .ok (.invokevirtual 121, 3) := by decide +kernel
theorem dX11_contextOf_43 : decode cX11_contextOf 43 = .ok (.invokestatic 117, 3) := by decide +kernel
theorem dX11_contextOf_46 : decode cX11_contextOf 46 = .ok (.istore 4, 2) := by decide +kernel
theorem dX11_contextOf_48 : decode cX11_contextOf 48 = .ok (.iinc 5 1, 3) := by decide +kernel
theorem dX11_contextOf_51 : decode cX11_contextOf 51 = .ok (.goto (-23), 3) := by decide +kernel
theorem dX11_contextOf_54 : decode cX11_contextOf 54 = .ok (.goto 195, 3) := by decide +kernel
theorem dX11_contextOf_57 : decode cX11_contextOf 57 = .ok (.aload_n 0, 1) := by decide +kernel
theorem dX11_contextOf_58 : decode cX11_contextOf 58 = .ok (.getfield 13, 3) := by decide +kernel
theorem dX11_contextOf_61 : decode cX11_contextOf 61 = .ok (.iload_n 2, 1) := by decide +kernel
theorem dX11_contextOf_62 : decode cX11_contextOf 62 = .ok (.iaload, 1) := by decide +kernel
theorem dX11_contextOf_63 : decode cX11_contextOf 63 = .ok (.iconst 1, 1) := by decide +kernel
theorem dX11_contextOf_64 : decode cX11_contextOf 64 = .ok (.if_icmp .ne 85, 3) := by decide +kernel
theorem dX11_contextOf_67 : decode cX11_contextOf 67 = .ok (.bipush 32, 2) := by decide +kernel
theorem dX11_contextOf_69 : decode cX11_contextOf 69 = .ok (.iconst 0, 1) := by decide +kernel
theorem dX11_contextOf_70 : decode cX11_contextOf 70 = .ok (.invokestatic 117, 3) := by decide +kernel
theorem dX11_contextOf_73 : decode cX11_contextOf 73 = .ok (.istore 4, 2) := by decide +kernel
theorem dX11_contextOf_75 : decode cX11_contextOf 75 = .ok (.iconst 0, 1) := by decide +kernel
theorem dX11_contextOf_76 : decode cX11_contextOf 76 = .ok (.istore 5, 2) := by decide +kernel
theorem dX11_contextOf_78 : decode cX11_contextOf 78 = .ok (.iload 5, 2) := by decide +kernel
theorem dX11_contextOf_80 : decode cX11_contextOf 80 = .ok (.bipush 16, 2) := by decide +kernel
theorem dX11_contextOf_82 : decode cX11_contextOf 82 = .ok (.if_icmp .ge 35, 3) := by decide +kernel
theorem dX11_contextOf_85 : decode cX11_contextOf 85 = .ok (.iload 5, 2) := by decide +kernel
theorem dX11_contextOf_87 : decode cX11_contextOf 87 = .ok (.aload_n 0, 1) := by decide +kernel
theorem dX11_contextOf_88 : decode cX11_contextOf 88 = .ok (.getfield 26, 3) := by decide +kernel
theorem dX11_contextOf_91 : decode cX11_contextOf 91 = .ok (.iload_n 1, 1) := by decide +kernel
theorem dX11_contextOf_92 : decode cX11_contextOf 92 = .ok (.iaload, 1) := by decide +kernel
theorem dX11_contextOf_93 : decode cX11_contextOf 93 = .ok (.if_icmp .ge 24, 3) := by decide +kernel
theorem dX11_contextOf_96 : decode cX11_contextOf 96 = .ok (.aload_n 0, 1) := by decide +kernel
theorem dX11_contextOf_97 : decode cX11_contextOf 97 = .ok (.iload_n 1, 1) := by decide +kernel
theorem dX11_contextOf_98 : decode cX11_contextOf 98 = .ok (.iload 5, 2) := by decide +kernel
theorem dX11_contextOf_100 : decode cX11_contextOf 100 = .ok (.iconst 1, 1) := by decide +kernel
theorem dX11_contextOf_101 : decode cX11_contextOf 101 = .ok (.iadd, 1) := by decide +kernel
theorem dX11_contextOf_102 : decode cX11_contextOf 102 = .ok (.invokevirtual 121, 3) := by decide +kernel
theorem dX11_contextOf_105 : decode cX11_contextOf 105 = .ok (.invokestatic 124, 3) := by decide +kernel
theorem dX11_contextOf_108 : decode cX11_contextOf 108 = .ok (.ifCond .eq 9, 3) := by decide +kernel
theorem dX11_contextOf_111 : decode cX11_contextOf 111 = .ok (.iinc 5 1, 3) := by decide +kernel
theorem dX11_contextOf_114 : decode cX11_contextOf 114 = .ok (.goto (-36), 3) := by decide +kernel
theorem dX11_contextOf_117 : decode cX11_contextOf 117 = .ok (.iload 5, 2) := by decide +kernel
theorem dX11_contextOf_119 : decode cX11_contextOf 119 = .ok (.istore 6, 2) := by decide +kernel
theorem dX11_contextOf_121 : decode cX11_contextOf 121 = .ok (.iload 6, 2) := by decide +kernel
theorem dX11_contextOf_123 : decode cX11_contextOf 123 = .ok (.ifCond .le 23, 3) := by decide +kernel
theorem dX11_contextOf_126 : decode cX11_contextOf 126 = .ok (.iload 4, 2) := by decide +kernel
theorem dX11_contextOf_128 : decode cX11_contextOf 128 = .ok (.aload_n 0, 1) := by decide +kernel
theorem dX11_contextOf_129 : decode cX11_contextOf 129 = .ok (.iload_n 1, 1) := by decide +kernel
theorem dX11_contextOf_130 : decode cX11_contextOf 130 = .ok (.iload 6, 2) := by decide +kernel
theorem dX11_contextOf_132 : decode cX11_contextOf 132 = .ok (.invokevirtual 121, 3) := by decide +kernel
theorem dX11_contextOf_135 : decode cX11_contextOf 135 = .ok (.invokestatic 117, 3) := by decide +kernel
theorem dX11_contextOf_138 : decode cX11_contextOf 138 = .ok (.istore 4, 2) := by decide +kernel
theorem dX11_contextOf_140 : decode cX11_contextOf 140 = .ok (.iinc 6 (-1), 3) := by decide +kernel
theorem dX11_contextOf_143 : decode cX11_contextOf 143 = .ok (.goto (-22), 3) := by decide +kernel
theorem dX11_contextOf_146 : decode cX11_contextOf 146 = .ok (.goto 103, 3) := by decide +kernel
theorem dX11_contextOf_149 : decode cX11_contextOf 149 = .ok (.aload_n 0, 1) := by decide +kernel
theorem dX11_contextOf_150 : decode cX11_contextOf 150 = .ok (.getfield 13, 3) := by decide +kernel
theorem dX11_contextOf_153 : decode cX11_contextOf 153 = .ok (.iload_n 2, 1) := by decide +kernel
theorem dX11_contextOf_154 : decode cX11_contextOf 154 = .ok (.iaload, 1) := by decide +kernel
theorem dX11_contextOf_155 : decode cX11_contextOf 155 = .ok (.iconst 2, 1) := by decide +kernel
theorem dX11_contextOf_156 : decode cX11_contextOf 156 = .ok (.if_icmp .ne 36, 3) := by decide +kernel
theorem dX11_contextOf_159 : decode cX11_contextOf 159 = .ok (.bipush 64, 2) := by decide +kernel
theorem dX11_contextOf_161 : decode cX11_contextOf 161 = .ok (.iload_n 3, 1) := by decide +kernel
theorem dX11_contextOf_162 : decode cX11_contextOf 162 = .ok (.iadd, 1) := by decide +kernel
theorem dX11_contextOf_163 : decode cX11_contextOf 163 = .ok (.iconst 0, 1) := by decide +kernel
theorem dX11_contextOf_164 : decode cX11_contextOf 164 = .ok (.invokestatic 117, 3) := by decide +kernel
theorem dX11_contextOf_167 : decode cX11_contextOf 167 = .ok (.aload_n 0, 1) := by decide +kernel
theorem dX11_contextOf_168 : decode cX11_contextOf 168 = .ok (.getfield 26, 3) := by decide +kernel
theorem dX11_contextOf_171 : decode cX11_contextOf 171 = .ok (.iload_n 1, 1) := by decide +kernel
theorem dX11_contextOf_172 : decode cX11_contextOf 172 = .ok (.iaload, 1) := by decide +kernel
theorem dX11_contextOf_173 : decode cX11_contextOf 173 = .ok (.iload_n 3, 1) := by decide +kernel
theorem dX11_contextOf_174 : decode cX11_contextOf 174 = .ok (.irem, 1) := by decide +kernel
theorem dX11_contextOf_175 : decode cX11_contextOf 175 = .ok (.invokestatic 117, 3) := by decide +kernel
theorem dX11_contextOf_178 : decode cX11_contextOf 178 = .ok (.aload_n 0, 1) := by decide +kernel
theorem dX11_contextOf_179 : decode cX11_contextOf 179 = .ok (.iload_n 1, 1) := by decide +kernel
theorem dX11_contextOf_180 : decode cX11_contextOf 180 = .ok (.iload_n 3, 1) := by decide +kernel
theorem dX11_contextOf_181 : decode cX11_contextOf 181 = .ok (.invokevirtual 121, 3) := by decide +kernel
theorem dX11_contextOf_184 : decode cX11_contextOf 184 = .ok (.invokestatic 117, 3) := by decide +kernel
theorem dX11_contextOf_187 : decode cX11_contextOf 187 = .ok (.istore 4, 2) := by decide +kernel
theorem dX11_contextOf_189 : decode cX11_contextOf 189 = .ok (.goto 60, 3) := by decide +kernel
theorem dX11_contextOf_192 : decode cX11_contextOf 192 = .ok (.sipush 128, 3) := by decide +kernel
theorem dX11_contextOf_195 : decode cX11_contextOf 195 = .ok (.iload_n 3, 1) := by decide +kernel
theorem dX11_contextOf_196 : decode cX11_contextOf 196 = .ok (.iadd, 1) := by decide +kernel
theorem dX11_contextOf_197 : decode cX11_contextOf 197 = .ok (.iconst 0, 1) := by decide +kernel
theorem dX11_contextOf_198 : decode cX11_contextOf 198 = .ok (.invokestatic 117, 3) := by decide +kernel
theorem dX11_contextOf_201 : decode cX11_contextOf 201 = .ok (.istore 4, 2) := by decide +kernel
theorem dX11_contextOf_203 : decode cX11_contextOf 203 = .ok (.iconst 0, 1) := by decide +kernel
theorem dX11_contextOf_204 : decode cX11_contextOf 204 = .ok (.istore 5, 2) := by decide +kernel
theorem dX11_contextOf_206 : decode cX11_contextOf 206 = .ok (.iload 5, 2) := by decide +kernel
theorem dX11_contextOf_208 : decode cX11_contextOf 208 = .ok (.iconst 4, 1) := by decide +kernel
theorem dX11_contextOf_209 : decode cX11_contextOf 209 = .ok (.if_icmp .ge 40, 3) := by decide +kernel
theorem dX11_contextOf_212 : decode cX11_contextOf 212 = .ok (.iload_n 3, 1) := by decide +kernel
theorem dX11_contextOf_213 : decode cX11_contextOf 213 = .ok (.iload 5, 2) := by decide +kernel
theorem dX11_contextOf_215 : decode cX11_contextOf 215 = .ok (.ishr, 1) := by decide +kernel
theorem dX11_contextOf_216 : decode cX11_contextOf 216 = .ok (.iconst 1, 1) := by decide +kernel
theorem dX11_contextOf_217 : decode cX11_contextOf 217 = .ok (.iand, 1) := by decide +kernel
theorem dX11_contextOf_218 : decode cX11_contextOf 218 = .ok (.iconst 1, 1) := by decide +kernel
theorem dX11_contextOf_219 : decode cX11_contextOf 219 = .ok (.if_icmp .ne 20, 3) := by decide +kernel
theorem dX11_contextOf_222 : decode cX11_contextOf 222 = .ok (.iload 4, 2) := by decide +kernel
theorem dX11_contextOf_224 : decode cX11_contextOf 224 = .ok (.aload_n 0, 1) := by decide +kernel
theorem dX11_contextOf_225 : decode cX11_contextOf 225 = .ok (.iload_n 1, 1) := by decide +kernel
theorem dX11_contextOf_226 : decode cX11_contextOf 226 = .ok (.iload 5, 2) := by decide +kernel
theorem dX11_contextOf_228 : decode cX11_contextOf 228 = .ok (.iconst 1, 1) := by decide +kernel
theorem dX11_contextOf_229 : decode cX11_contextOf 229 = .ok (.iadd, 1) := by decide +kernel
theorem dX11_contextOf_230 : decode cX11_contextOf 230 = .ok (.invokevirtual 121, 3) := by decide +kernel
theorem dX11_contextOf_233 : decode cX11_contextOf 233 = .ok (.invokestatic 117, 3) := by decide +kernel
theorem dX11_contextOf_236 : decode cX11_contextOf 236 = .ok (.goto 5, 3) := by decide +kernel
theorem dX11_contextOf_239 : decode cX11_contextOf 239 = .ok (.iload 4, 2) := by decide +kernel
theorem dX11_contextOf_241 : decode cX11_contextOf 241 = .ok (.istore 4, 2) := by decide +kernel
theorem dX11_contextOf_243 : decode cX11_contextOf 243 = .ok (.iinc 5 1, 3) := by decide +kernel
theorem dX11_contextOf_246 : decode cX11_contextOf 246 = .ok (.goto (-40), 3) := by decide +kernel
theorem dX11_contextOf_249 : decode cX11_contextOf 249 = .ok (.iload 4, 2) := by decide +kernel
theorem dX11_contextOf_251 : decode cX11_contextOf 251 = .ok (.ireturn, 1) := by decide +kernel
theorem dX11_byteBegins_0 : decode cX11_byteBegins 0 = .ok (.iconst 0, 1) := by decide +kernel
theorem dX11_byteBegins_1 : decode cX11_byteBegins 1 = .ok (.istore_n 3, 1) := by decide +kernel
theorem dX11_byteBegins_2 : decode cX11_byteBegins 2 = .ok (.iload_n 3, 1) := by decide +kernel
theorem dX11_byteBegins_3 : decode cX11_byteBegins 3 = .ok (.aload_n 0, 1) := by decide +kernel
theorem dX11_byteBegins_4 : decode cX11_byteBegins 4 = .ok (.getfield 91, 3) := by decide +kernel
theorem dX11_byteBegins_7 : decode cX11_byteBegins 7 = .ok (.if_icmp .ge 46, 3) := by decide +kernel
theorem dX11_byteBegins_10 : decode cX11_byteBegins 10 = .ok (.aload_n 0, 1) := by decide +kernel
theorem dX11_byteBegins_11 : decode cX11_byteBegins 11 = .ok (.getfield 13, 3) := by decide +kernel
theorem dX11_byteBegins_14 : decode cX11_byteBegins 14 = .ok (.iload_n 3, 1) := by decide +kernel
theorem dX11_byteBegins_15 : decode cX11_byteBegins 15 = .ok (.iaload, 1) := by decide +kernel
theorem dX11_byteBegins_16 : decode cX11_byteBegins 16 = .ok (.iconst 4, 1) := by decide +kernel
theorem dX11_byteBegins_17 : decode cX11_byteBegins 17 = .ok (.if_icmp .ge 23, 3) := by decide +kernel
theorem dX11_byteBegins_20 : decode cX11_byteBegins 20 = .ok (.aload_n 0, 1) := by decide +kernel
theorem dX11_byteBegins_21 : decode cX11_byteBegins 21 = .ok (.getfield 32, 3) := by decide +kernel
theorem dX11_byteBegins_24 : decode cX11_byteBegins 24 = .ok (.bipush 8, 2) := by decide +kernel
theorem dX11_byteBegins_26 : decode cX11_byteBegins 26 = .ok (.iload_n 1, 1) := by decide +kernel
theorem dX11_byteBegins_27 : decode cX11_byteBegins 27 = .ok (.imul, 1) := by decide +kernel
theorem dX11_byteBegins_28 : decode cX11_byteBegins 28 = .ok (.iload_n 3, 1) := by decide +kernel
theorem dX11_byteBegins_29 : decode cX11_byteBegins 29 = .ok (.iadd, 1) := by decide +kernel
theorem dX11_byteBegins_30 : decode cX11_byteBegins 30 = .ok (.aload_n 0, 1) := by decide +kernel
theorem dX11_byteBegins_31 : decode cX11_byteBegins 31 = .ok (.iload_n 1, 1) := by decide +kernel
theorem dX11_byteBegins_32 : decode cX11_byteBegins 32 = .ok (.iload_n 3, 1) := by decide +kernel
theorem dX11_byteBegins_33 : decode cX11_byteBegins 33 = .ok (.invokevirtual 128, 3) := by decide +kernel
theorem dX11_byteBegins_36 : decode cX11_byteBegins 36 = .ok (.iastore, 1) := by decide +kernel
theorem dX11_byteBegins_37 : decode cX11_byteBegins 37 = .ok (.goto 10, 3) := by decide +kernel
theorem dX11_byteBegins_40 : decode cX11_byteBegins 40 = .ok (.aload_n 0, 1) := by decide +kernel
theorem dX11_byteBegins_41 : decode cX11_byteBegins 41 = .ok (.iload_n 1, 1) := by decide +kernel
theorem dX11_byteBegins_42 : decode cX11_byteBegins 42 = .ok (.iload_n 3, 1) := by decide +kernel
theorem dX11_byteBegins_43 : decode cX11_byteBegins 43 = .ok (.iload_n 2, 1) := by decide +kernel
theorem dX11_byteBegins_44 : decode cX11_byteBegins 44 = .ok (.invokevirtual 131, 3) := by decide +kernel
theorem dX11_byteBegins_47 : decode cX11_byteBegins 47 = .ok (.iinc 3 1, 3) := by decide +kernel
theorem dX11_byteBegins_50 : decode cX11_byteBegins 50 = .ok (.goto (-48), 3) := by decide +kernel
theorem dX11_byteBegins_53 : decode cX11_byteBegins 53 = .ok (.return_, 1) := by decide +kernel
theorem dX11_match_0 : decode cX11_match 0 = .ok (.bipush 8, 2) := by decide +kernel
theorem dX11_match_2 : decode cX11_match 2 = .ok (.iload_n 1, 1) := by decide +kernel
theorem dX11_match_3 : decode cX11_match 3 = .ok (.imul, 1) := by decide +kernel
theorem dX11_match_4 : decode cX11_match 4 = .ok (.iload_n 2, 1) := by decide +kernel
theorem dX11_match_5 : decode cX11_match 5 = .ok (.iadd, 1) := by decide +kernel
theorem dX11_match_6 : decode cX11_match 6 = .ok (.istore 4, 2) := by decide +kernel
theorem dX11_match_8 : decode cX11_match 8 = .ok (.iload_n 3, 1) := by decide +kernel
theorem dX11_match_9 : decode cX11_match 9 = .ok (.ifCond .eq 87, 3) := by decide +kernel
theorem dX11_match_12 : decode cX11_match 12 = .ok (.aload_n 0, 1) := by decide +kernel
theorem dX11_match_13 : decode cX11_match 13 = .ok (.getfield 38, 3) := by decide +kernel
theorem dX11_match_16 : decode cX11_match 16 = .ok (.iload 4, 2) := by decide +kernel
theorem dX11_match_18 : decode cX11_match 18 = .ok (.iaload, 1) := by decide +kernel
theorem dX11_match_19 : decode cX11_match 19 = .ok (.ifCond .le 77, 3) := by decide +kernel
theorem dX11_match_22 : decode cX11_match 22 = .ok (.aload_n 0, 1) := by decide +kernel
theorem dX11_match_23 : decode cX11_match 23 = .ok (.getfield 23, 3) := by decide +kernel
theorem dX11_match_26 : decode cX11_match 26 = .ok (.sipush 2050, 3) := by decide +kernel
theorem dX11_match_29 : decode cX11_match 29 = .ok (.iload_n 1, 1) := by decide +kernel
theorem dX11_match_30 : decode cX11_match 30 = .ok (.imul, 1) := by decide +kernel
theorem dX11_match_31 : decode cX11_match 31 = .ok (.aload_n 0, 1) := by decide +kernel
theorem dX11_match_32 : decode cX11_match 32 = .ok (.getfield 35, 3) := by decide +kernel
theorem dX11_match_35 : decode cX11_match 35 = .ok (.iload 4, 2) := by decide +kernel
theorem dX11_match_37 : decode cX11_match 37 = .ok (.iaload, 1) := by decide +kernel
theorem dX11_match_38 : decode cX11_match 38 = .ok (.iadd, 1) := by decide +kernel
theorem dX11_match_39 : decode cX11_match 39 = .ok (.iaload, 1) := by decide +kernel
theorem dX11_match_40 : decode cX11_match 40 = .ok (.aload_n 0, 1) := by decide +kernel
theorem dX11_match_41 : decode cX11_match 41 = .ok (.iload_n 1, 1) := by decide +kernel
theorem dX11_match_42 : decode cX11_match 42 = .ok (.iconst 1, 1) := by decide +kernel
theorem dX11_match_43 : decode cX11_match 43 = .ok (.invokevirtual 121, 3) := by decide +kernel
theorem dX11_match_46 : decode cX11_match 46 = .ok (.if_icmp .ne 50, 3) := by decide +kernel
theorem dX11_match_49 : decode cX11_match 49 = .ok (.aload_n 0, 1) := by decide +kernel
theorem dX11_match_50 : decode cX11_match 50 = .ok (.getfield 35, 3) := by decide +kernel
theorem dX11_match_53 : decode cX11_match 53 = .ok (.iload 4, 2) := by decide +kernel
theorem dX11_match_55 : decode cX11_match 55 = .ok (.dup2, 1) := by decide +kernel
theorem dX11_match_56 : decode cX11_match 56 = .ok (.iaload, 1) := by decide +kernel
theorem dX11_match_57 : decode cX11_match 57 = .ok (.iconst 1, 1) := by decide +kernel
theorem dX11_match_58 : decode cX11_match 58 = .ok (.iadd, 1) := by decide +kernel
theorem dX11_match_59 : decode cX11_match 59 = .ok (.iastore, 1) := by decide +kernel
theorem dX11_match_60 : decode cX11_match 60 = .ok (.aload_n 0, 1) := by decide +kernel
theorem dX11_match_61 : decode cX11_match 61 = .ok (.getfield 38, 3) := by decide +kernel
theorem dX11_match_64 : decode cX11_match 64 = .ok (.iload 4, 2) := by decide +kernel
theorem dX11_match_66 : decode cX11_match 66 = .ok (.aload_n 0, 1) := by decide +kernel
theorem dX11_match_67 : decode cX11_match 67 = .ok (.getfield 38, 3) := by decide +kernel
theorem dX11_match_70 : decode cX11_match 70 = .ok (.iload 4, 2) := by decide +kernel
theorem dX11_match_72 : decode cX11_match 72 = .ok (.iaload, 1) := by decide +kernel
theorem dX11_match_73 : decode cX11_match 73 = .ok (.bipush 32, 2) := by decide +kernel
theorem dX11_match_75 : decode cX11_match 75 = .ok (.if_icmp .ge 15, 3) := by decide +kernel
theorem dX11_match_78 : decode cX11_match 78 = .ok (.aload_n 0, 1) := by decide +kernel
theorem dX11_match_79 : decode cX11_match 79 = .ok (.getfield 38, 3) := by decide +kernel
theorem dX11_match_82 : decode cX11_match 82 = .ok (.iload 4, 2) := by decide +kernel
theorem dX11_match_84 : decode cX11_match 84 = .ok (.iaload, 1) := by decide +kernel
theorem dX11_match_85 : decode cX11_match 85 = .ok (.iconst 1, 1) := by decide +kernel
theorem dX11_match_86 : decode cX11_match 86 = .ok (.iadd, 1) := by decide +kernel
theorem dX11_match_87 : decode cX11_match 87 = .ok (.goto 5, 3) := by decide +kernel
theorem dX11_match_90 : decode cX11_match 90 = .ok (.bipush 32, 2) := by decide +kernel
theorem dX11_match_92 : decode cX11_match 92 = .ok (.iastore, 1) := by decide +kernel
theorem dX11_match_93 : decode cX11_match 93 = .ok (.goto 11, 3) := by decide +kernel
theorem dX11_match_96 : decode cX11_match 96 = .ok (.aload_n 0, 1) := by decide +kernel
theorem dX11_match_97 : decode cX11_match 97 = .ok (.getfield 38, 3) := by decide +kernel
theorem dX11_match_100 : decode cX11_match 100 = .ok (.iload 4, 2) := by decide +kernel
theorem dX11_match_102 : decode cX11_match 102 = .ok (.iconst 0, 1) := by decide +kernel
theorem dX11_match_103 : decode cX11_match 103 = .ok (.iastore, 1) := by decide +kernel
theorem dX11_match_104 : decode cX11_match 104 = .ok (.aload_n 0, 1) := by decide +kernel
theorem dX11_match_105 : decode cX11_match 105 = .ok (.getfield 16, 3) := by decide +kernel
theorem dX11_match_108 : decode cX11_match 108 = .ok (.iload_n 2, 1) := by decide +kernel
theorem dX11_match_109 : decode cX11_match 109 = .ok (.iaload, 1) := by decide +kernel
theorem dX11_match_110 : decode cX11_match 110 = .ok (.istore 5, 2) := by decide +kernel
theorem dX11_match_112 : decode cX11_match 112 = .ok (.aload_n 0, 1) := by decide +kernel
theorem dX11_match_113 : decode cX11_match 113 = .ok (.getfield 26, 3) := by decide +kernel
theorem dX11_match_116 : decode cX11_match 116 = .ok (.iload_n 1, 1) := by decide +kernel
theorem dX11_match_117 : decode cX11_match 117 = .ok (.iaload, 1) := by decide +kernel
theorem dX11_match_118 : decode cX11_match 118 = .ok (.iconst 1, 1) := by decide +kernel
theorem dX11_match_119 : decode cX11_match 119 = .ok (.isub, 1) := by decide +kernel
theorem dX11_match_120 : decode cX11_match 120 = .ok (.istore 6, 2) := by decide +kernel
theorem dX11_match_122 : decode cX11_match 122 = .ok (.iload 6, 2) := by decide +kernel
theorem dX11_match_124 : decode cX11_match 124 = .ok (.iload 5, 2) := by decide +kernel
theorem dX11_match_126 : decode cX11_match 126 = .ok (.if_icmp .lt 113, 3) := by decide +kernel
theorem dX11_match_129 : decode cX11_match 129 = .ok (.iload 6, 2) := by decide +kernel
theorem dX11_match_131 : decode cX11_match 131 = .ok (.aload_n 0, 1) := by decide +kernel
theorem dX11_match_132 : decode cX11_match 132 = .ok (.getfield 26, 3) := by decide +kernel
theorem dX11_match_135 : decode cX11_match 135 = .ok (.iload_n 1, 1) := by decide +kernel
theorem dX11_match_136 : decode cX11_match 136 = .ok (.iaload, 1) := by decide +kernel
theorem dX11_match_137 : decode cX11_match 137 = .ok (.bipush 64, 2) := by decide +kernel
theorem dX11_match_139 : decode cX11_match 139 = .ok (.isub, 1) := by decide +kernel
theorem dX11_match_140 : decode cX11_match 140 = .ok (.if_icmp .lt 99, 3) := by decide +kernel
theorem dX11_match_143 : decode cX11_match 143 = .ok (.aload_n 0, 1) := by decide +kernel
theorem dX11_match_144 : decode cX11_match 144 = .ok (.getfield 38, 3) := by decide +kernel
theorem dX11_match_147 : decode cX11_match 147 = .ok (.iload 4, 2) := by decide +kernel
theorem dX11_match_149 : decode cX11_match 149 = .ok (.iaload, 1) := by decide +kernel
theorem dX11_match_150 : decode cX11_match 150 = .ok (.ifCond .ne 89, 3) := by decide +kernel
theorem dX11_match_153 : decode cX11_match 153 = .ok (.iconst 1, 1) := by decide +kernel
theorem dX11_match_154 : decode cX11_match 154 = .ok (.istore 7, 2) := by decide +kernel
theorem dX11_match_156 : decode cX11_match 156 = .ok (.iconst 1, 1) := by decide +kernel
theorem dX11_match_157 : decode cX11_match 157 = .ok (.istore 8, 2) := by decide +kernel
theorem dX11_match_159 : decode cX11_match 159 = .ok (.iload 8, 2) := by decide +kernel
theorem dX11_match_161 : decode cX11_match 161 = .ok (.iload 5, 2) := by decide +kernel
theorem dX11_match_163 : decode cX11_match 163 = .ok (.if_icmp .gt 47, 3) := by decide +kernel
theorem dX11_match_166 : decode cX11_match 166 = .ok (.iload 7, 2) := by decide +kernel
theorem dX11_match_168 : decode cX11_match 168 = .ok (.ifCond .eq 42, 3) := by decide +kernel
theorem dX11_match_171 : decode cX11_match 171 = .ok (.aload_n 0, 1) := by decide +kernel
theorem dX11_match_172 : decode cX11_match 172 = .ok (.getfield 23, 3) := by decide +kernel
theorem dX11_match_175 : decode cX11_match 175 = .ok (.sipush 2050, 3) := by decide +kernel
theorem dX11_match_178 : decode cX11_match 178 = .ok (.iload_n 1, 1) := by decide +kernel
theorem dX11_match_179 : decode cX11_match 179 = .ok (.imul, 1) := by decide +kernel
theorem dX11_match_180 : decode cX11_match 180 = .ok (.iload 6, 2) := by decide +kernel
theorem dX11_match_182 : decode cX11_match 182 = .ok (.iadd, 1) := by decide +kernel
theorem dX11_match_183 : decode cX11_match 183 = .ok (.iload 8, 2) := by decide +kernel
theorem dX11_match_185 : decode cX11_match 185 = .ok (.isub, 1) := by decide +kernel
theorem dX11_match_186 : decode cX11_match 186 = .ok (.iaload, 1) := by decide +kernel
theorem dX11_match_187 : decode cX11_match 187 = .ok (.aload_n 0, 1) := by decide +kernel
theorem dX11_match_188 : decode cX11_match 188 = .ok (.iload_n 1, 1) := by decide +kernel
theorem dX11_match_189 : decode cX11_match 189 = .ok (.iload 8, 2) := by decide +kernel
theorem dX11_match_191 : decode cX11_match 191 = .ok (.invokevirtual 121, 3) := by decide +kernel
theorem dX11_match_194 : decode cX11_match 194 = .ok (.if_icmp .ne 7, 3) := by decide +kernel
theorem dX11_match_197 : decode cX11_match 197 = .ok (.iconst 1, 1) := by decide +kernel
theorem dX11_match_198 : decode cX11_match 198 = .ok (.goto 4, 3) := by decide +kernel
theorem dX11_match_201 : decode cX11_match 201 = .ok (.iconst 0, 1) := by decide +kernel
theorem dX11_match_202 : decode cX11_match 202 = .ok (.istore 7, 2) := by decide +kernel
theorem dX11_match_204 : decode cX11_match 204 = .ok (.iinc 8 1, 3) := by decide +kernel
theorem dX11_match_207 : decode cX11_match 207 = .ok (.goto (-48), 3) := by decide +kernel
theorem dX11_match_210 : decode cX11_match 210 = .ok (.iload 7, 2) := by decide +kernel
theorem dX11_match_212 : decode cX11_match 212 = .ok (.ifCond .eq 21, 3) := by decide +kernel
theorem dX11_match_215 : decode cX11_match 215 = .ok (.aload_n 0, 1) := by decide +kernel
theorem dX11_match_216 : decode cX11_match 216 = .ok (.getfield 35, 3) := by decide +kernel
theorem dX11_match_219 : decode cX11_match 219 = .ok (.iload 4, 2) := by decide +kernel
theorem dX11_match_221 : decode cX11_match 221 = .ok (.iload 6, 2) := by decide +kernel
theorem dX11_match_223 : decode cX11_match 223 = .ok (.iastore, 1) := by decide +kernel
theorem dX11_match_224 : decode cX11_match 224 = .ok (.aload_n 0, 1) := by decide +kernel
theorem dX11_match_225 : decode cX11_match 225 = .ok (.getfield 38, 3) := by decide +kernel
theorem dX11_match_228 : decode cX11_match 228 = .ok (.iload 4, 2) := by decide +kernel
theorem dX11_match_230 : decode cX11_match 230 = .ok (.iload 5, 2) := by decide +kernel
theorem dX11_match_232 : decode cX11_match 232 = .ok (.iastore, 1) := by decide +kernel
theorem dX11_match_233 : decode cX11_match 233 = .ok (.iinc 6 (-1), 3) := by decide +kernel
theorem dX11_match_236 : decode cX11_match 236 = .ok (.goto (-114), 3) := by decide +kernel
theorem dX11_match_239 : decode cX11_match 239 = .ok (.return_, 1) := by decide +kernel
theorem dX11_bitsDone_0 : decode cX11_bitsDone 0 = .ok (.iconst 0, 1) := by decide +kernel
theorem dX11_bitsDone_1 : decode cX11_bitsDone 1 = .ok (.istore_n 2, 1) := by decide +kernel
theorem dX11_bitsDone_2 : decode cX11_bitsDone 2 = .ok (.aload_n 0, 1) := by decide +kernel
theorem dX11_bitsDone_3 : decode cX11_bitsDone 3 = .ok (.getfield 29, 3) := by decide +kernel
theorem dX11_bitsDone_6 : decode cX11_bitsDone 6 = .ok (.iload_n 1, 1) := by decide +kernel
theorem dX11_bitsDone_7 : decode cX11_bitsDone 7 = .ok (.iaload, 1) := by decide +kernel
theorem dX11_bitsDone_8 : decode cX11_bitsDone 8 = .ok (.iload_n 2, 1) := by decide +kernel
theorem dX11_bitsDone_9 : decode cX11_bitsDone 9 = .ok (.ishr, 1) := by decide +kernel
theorem dX11_bitsDone_10 : decode cX11_bitsDone 10 = .ok (.iconst 1, 1) := by decide +kernel
theorem dX11_bitsDone_11 : decode cX11_bitsDone 11 = .ok (.if_icmp .le 9, 3) := by decide +kernel
theorem dX11_bitsDone_14 : decode cX11_bitsDone 14 = .ok (.iinc 2 1, 3) := by decide +kernel
theorem dX11_bitsDone_17 : decode cX11_bitsDone 17 = .ok (.goto (-15), 3) := by decide +kernel
theorem dX11_bitsDone_20 : decode cX11_bitsDone 20 = .ok (.iload_n 2, 1) := by decide +kernel
theorem dX11_bitsDone_21 : decode cX11_bitsDone 21 = .ok (.ireturn, 1) := by decide +kernel
theorem dX11_slotOf_0 : decode cX11_slotOf 0 = .ok (.sipush 4096, 3) := by decide +kernel
theorem dX11_slotOf_3 : decode cX11_slotOf 3 = .ok (.iload_n 1, 1) := by decide +kernel
theorem dX11_slotOf_4 : decode cX11_slotOf 4 = .ok (.imul, 1) := by decide +kernel
theorem dX11_slotOf_5 : decode cX11_slotOf 5 = .ok (.aload_n 0, 1) := by decide +kernel
theorem dX11_slotOf_6 : decode cX11_slotOf 6 = .ok (.getfield 32, 3) := by decide +kernel
theorem dX11_slotOf_9 : decode cX11_slotOf 9 = .ok (.bipush 8, 2) := by decide +kernel
theorem dX11_slotOf_11 : decode cX11_slotOf 11 = .ok (.iload_n 1, 1) := by decide +kernel
theorem dX11_slotOf_12 : decode cX11_slotOf 12 = .ok (.imul, 1) := by decide +kernel
theorem dX11_slotOf_13 : decode cX11_slotOf 13 = .ok (.iload_n 2, 1) := by decide +kernel
theorem dX11_slotOf_14 : decode cX11_slotOf 14 = .ok (.iadd, 1) := by decide +kernel
theorem dX11_slotOf_15 : decode cX11_slotOf 15 = .ok (.iaload, 1) := by decide +kernel
theorem dX11_slotOf_16 : decode cX11_slotOf 16 = .ok (.aload_n 0, 1) := by decide +kernel
theorem dX11_slotOf_17 : decode cX11_slotOf 17 = .ok (.getfield 29, 3) := by decide +kernel
theorem dX11_slotOf_20 : decode cX11_slotOf 20 = .ok (.iload_n 1, 1) := by decide +kernel
theorem dX11_slotOf_21 : decode cX11_slotOf 21 = .ok (.iaload, 1) := by decide +kernel
theorem dX11_slotOf_22 : decode cX11_slotOf 22 = .ok (.invokestatic 117, 3) := by decide +kernel
theorem dX11_slotOf_25 : decode cX11_slotOf 25 = .ok (.iconst 1, 1) := by decide +kernel
theorem dX11_slotOf_26 : decode cX11_slotOf 26 = .ok (.aload_n 0, 1) := by decide +kernel
theorem dX11_slotOf_27 : decode cX11_slotOf 27 = .ok (.getfield 66, 3) := by decide +kernel
theorem dX11_slotOf_30 : decode cX11_slotOf 30 = .ok (.ishl, 1) := by decide +kernel
theorem dX11_slotOf_31 : decode cX11_slotOf 31 = .ok (.iconst 1, 1) := by decide +kernel
theorem dX11_slotOf_32 : decode cX11_slotOf 32 = .ok (.isub, 1) := by decide +kernel
theorem dX11_slotOf_33 : decode cX11_slotOf 33 = .ok (.iand, 1) := by decide +kernel
theorem dX11_slotOf_34 : decode cX11_slotOf 34 = .ok (.iadd, 1) := by decide +kernel
theorem dX11_slotOf_35 : decode cX11_slotOf 35 = .ok (.ireturn, 1) := by decide +kernel
theorem dX11_inputOf_0 : decode cX11_inputOf 0 = .ok (.iload_n 2, 1) := by decide +kernel
theorem dX11_inputOf_1 : decode cX11_inputOf 1 = .ok (.aload_n 0, 1) := by decide +kernel
theorem dX11_inputOf_2 : decode cX11_inputOf 2 = .ok (.getfield 91, 3) := by decide +kernel
theorem dX11_inputOf_5 : decode cX11_inputOf 5 = .ok (.if_icmp .ne 7, 3) := by decide +kernel
theorem dX11_inputOf_8 : decode cX11_inputOf 8 = .ok (.sipush 256, 3) := by decide +kernel
theorem dX11_inputOf_11 : decode cX11_inputOf 11 = .ok (.ireturn, 1) := by decide +kernel
theorem dX11_inputOf_12 : decode cX11_inputOf 12 = .ok (.aload_n 0, 1) := by decide +kernel
theorem dX11_inputOf_13 : decode cX11_inputOf 13 = .ok (.getfield 19, 3) := by decide +kernel
theorem dX11_inputOf_16 : decode cX11_inputOf 16 = .ok (.iload_n 2, 1) := by decide +kernel
theorem dX11_inputOf_17 : decode cX11_inputOf 17 = .ok (.baload, 1) := by decide +kernel
theorem dX11_inputOf_18 : decode cX11_inputOf 18 = .ok (.ifCond .eq 5, 3) := by decide +kernel
theorem dX11_inputOf_21 : decode cX11_inputOf 21 = .ok (.iconst 0, 1) := by decide +kernel
theorem dX11_inputOf_22 : decode cX11_inputOf 22 = .ok (.ireturn, 1) := by decide +kernel
theorem dX11_inputOf_23 : decode cX11_inputOf 23 = .ok (.aload_n 0, 1) := by decide +kernel
theorem dX11_inputOf_24 : decode cX11_inputOf 24 = .ok (.getfield 13, 3) := by decide +kernel
theorem dX11_inputOf_27 : decode cX11_inputOf 27 = .ok (.iload_n 2, 1) := by decide +kernel
theorem dX11_inputOf_28 : decode cX11_inputOf 28 = .ok (.iaload, 1) := by decide +kernel
theorem dX11_inputOf_29 : decode cX11_inputOf 29 = .ok (.iconst 4, 1) := by decide +kernel
theorem dX11_inputOf_30 : decode cX11_inputOf 30 = .ok (.if_icmp .ge 22, 3) := by decide +kernel
theorem dX11_inputOf_33 : decode cX11_inputOf 33 = .ok (.aload_n 0, 1) := by decide +kernel
theorem dX11_inputOf_34 : decode cX11_inputOf 34 = .ok (.getfield 7, 3) := by decide +kernel
theorem dX11_inputOf_37 : decode cX11_inputOf 37 = .ok (.aload_n 0, 1) := by decide +kernel
theorem dX11_inputOf_38 : decode cX11_inputOf 38 = .ok (.getfield 41, 3) := by decide +kernel
theorem dX11_inputOf_41 : decode cX11_inputOf 41 = .ok (.aload_n 0, 1) := by decide +kernel
theorem dX11_inputOf_42 : decode cX11_inputOf 42 = .ok (.iload_n 1, 1) := by decide +kernel
theorem dX11_inputOf_43 : decode cX11_inputOf 43 = .ok (.iload_n 2, 1) := by decide +kernel
theorem dX11_inputOf_44 : decode cX11_inputOf 44 = .ok (.invokevirtual 135, 3) := by decide +kernel
theorem dX11_inputOf_47 : decode cX11_inputOf 47 = .ok (.iaload, 1) := by decide +kernel
theorem dX11_inputOf_48 : decode cX11_inputOf 48 = .ok (.iconst 4, 1) := by decide +kernel
theorem dX11_inputOf_49 : decode cX11_inputOf 49 = .ok (.ishr, 1) := by decide +kernel
theorem dX11_inputOf_50 : decode cX11_inputOf 50 = .ok (.iaload, 1) := by decide +kernel
theorem dX11_inputOf_51 : decode cX11_inputOf 51 = .ok (.ireturn, 1) := by decide +kernel
theorem dX11_inputOf_52 : decode cX11_inputOf 52 = .ok (.bipush 8, 2) := by decide +kernel
theorem dX11_inputOf_54 : decode cX11_inputOf 54 = .ok (.iload_n 1, 1) := by decide +kernel
theorem dX11_inputOf_55 : decode cX11_inputOf 55 = .ok (.imul, 1) := by decide +kernel
theorem dX11_inputOf_56 : decode cX11_inputOf 56 = .ok (.iload_n 2, 1) := by decide +kernel
theorem dX11_inputOf_57 : decode cX11_inputOf 57 = .ok (.iadd, 1) := by decide +kernel
theorem dX11_inputOf_58 : decode cX11_inputOf 58 = .ok (.istore_n 3, 1) := by decide +kernel
theorem dX11_inputOf_59 : decode cX11_inputOf 59 = .ok (.aload_n 0, 1) := by decide +kernel
theorem dX11_inputOf_60 : decode cX11_inputOf 60 = .ok (.iload_n 1, 1) := by decide +kernel
theorem dX11_inputOf_61 : decode cX11_inputOf 61 = .ok (.invokevirtual 138, 3) := by decide +kernel
theorem dX11_inputOf_64 : decode cX11_inputOf 64 = .ok (.istore 4, 2) := by decide +kernel
theorem dX11_inputOf_66 : decode cX11_inputOf 66 = .ok (.aload_n 0, 1) := by decide +kernel
theorem dX11_inputOf_67 : decode cX11_inputOf 67 = .ok (.getfield 23, 3) := by decide +kernel
theorem dX11_inputOf_70 : decode cX11_inputOf 70 = .ok (.sipush 2050, 3) := by decide +kernel
theorem dX11_inputOf_73 : decode cX11_inputOf 73 = .ok (.iload_n 1, 1) := by decide +kernel
theorem dX11_inputOf_74 : decode cX11_inputOf 74 = .ok (.imul, 1) := by decide +kernel
theorem dX11_inputOf_75 : decode cX11_inputOf 75 = .ok (.aload_n 0, 1) := by decide +kernel
theorem dX11_inputOf_76 : decode cX11_inputOf 76 = .ok (.getfield 35, 3) := by decide +kernel
theorem dX11_inputOf_79 : decode cX11_inputOf 79 = .ok (.iload_n 3, 1) := by decide +kernel
theorem dX11_inputOf_80 : decode cX11_inputOf 80 = .ok (.iaload, 1) := by decide +kernel
theorem dX11_inputOf_81 : decode cX11_inputOf 81 = .ok (.iadd, 1) := by decide +kernel
theorem dX11_inputOf_82 : decode cX11_inputOf 82 = .ok (.iaload, 1) := by decide +kernel
theorem dX11_inputOf_83 : decode cX11_inputOf 83 = .ok (.sipush 256, 3) := by decide +kernel
theorem dX11_inputOf_86 : decode cX11_inputOf 86 = .ok (.ior, 1) := by decide +kernel
theorem dX11_inputOf_87 : decode cX11_inputOf 87 = .ok (.istore 5, 2) := by decide +kernel
theorem dX11_inputOf_89 : decode cX11_inputOf 89 = .ok (.aload_n 0, 1) := by decide +kernel
theorem dX11_inputOf_90 : decode cX11_inputOf 90 = .ok (.getfield 38, 3) := by decide +kernel
theorem dX11_inputOf_93 : decode cX11_inputOf 93 = .ok (.iload_n 3, 1) := by decide +kernel
theorem dX11_inputOf_94 : decode cX11_inputOf 94 = .ok (.iaload, 1) := by decide +kernel
theorem dX11_inputOf_95 : decode cX11_inputOf 95 = .ok (.ifCond .eq 20, 3) := by decide +kernel
theorem dX11_inputOf_98 : decode cX11_inputOf 98 = .ok (.iload 5, 2) := by decide +kernel
theorem dX11_inputOf_100 : decode cX11_inputOf 100 = .ok (.bipush 8, 2) := by decide +kernel
theorem dX11_inputOf_102 : decode cX11_inputOf 102 = .ok (.iload 4, 2) := by decide +kernel
theorem dX11_inputOf_104 : decode cX11_inputOf 104 = .ok (.isub, 1) := by decide +kernel
theorem dX11_inputOf_105 : decode cX11_inputOf 105 = .ok (.ishr, 1) := by decide +kernel
theorem dX11_inputOf_106 : decode cX11_inputOf 106 = .ok (.aload_n 0, 1) := by decide +kernel
theorem dX11_inputOf_107 : decode cX11_inputOf 107 = .ok (.getfield 29, 3) := by decide +kernel
theorem dX11_inputOf_110 : decode cX11_inputOf 110 = .ok (.iload_n 1, 1) := by decide +kernel
theorem dX11_inputOf_111 : decode cX11_inputOf 111 = .ok (.iaload, 1) := by decide +kernel
theorem dX11_inputOf_112 : decode cX11_inputOf 112 = .ok (.if_icmp .eq 5, 3) := by decide +kernel
theorem dX11_inputOf_115 : decode cX11_inputOf 115 = .ok (.iconst 0, 1) := by decide +kernel
theorem dX11_inputOf_116 : decode cX11_inputOf 116 = .ok (.ireturn, 1) := by decide +kernel
theorem dX11_inputOf_117 : decode cX11_inputOf 117 = .ok (.bipush 64, 2) := by decide +kernel
theorem dX11_inputOf_119 : decode cX11_inputOf 119 = .ok (.aload_n 0, 1) := by decide +kernel
theorem dX11_inputOf_120 : decode cX11_inputOf 120 = .ok (.getfield 38, 3) := by decide +kernel
theorem dX11_inputOf_123 : decode cX11_inputOf 123 = .ok (.iload_n 3, 1) := by decide +kernel
theorem dX11_inputOf_124 : decode cX11_inputOf 124 = .ok (.iaload, 1) := by decide +kernel
theorem dX11_inputOf_125 : decode cX11_inputOf 125 = .ok (.bipush 16, 2) := by decide +kernel
theorem dX11_inputOf_127 : decode cX11_inputOf 127 = .ok (.if_icmp .ge 12, 3) := by decide +kernel
theorem dX11_inputOf_130 : decode cX11_inputOf 130 = .ok (.aload_n 0, 1) := by decide +kernel
theorem dX11_inputOf_131 : decode cX11_inputOf 131 = .ok (.getfield 38, 3) := by decide +kernel
theorem dX11_inputOf_134 : decode cX11_inputOf 134 = .ok (.iload_n 3, 1) := by decide +kernel
theorem dX11_inputOf_135 : decode cX11_inputOf 135 = .ok (.iaload, 1) := by decide +kernel
theorem dX11_inputOf_136 : decode cX11_inputOf 136 = .ok (.goto 5, 3) := by decide +kernel
theorem dX11_inputOf_139 : decode cX11_inputOf 139 = .ok (.bipush 16, 2) := by decide +kernel
theorem dX11_inputOf_141 : decode cX11_inputOf 141 = .ok (.imul, 1) := by decide +kernel
theorem dX11_inputOf_142 : decode cX11_inputOf 142 = .ok (.istore 6, 2) := by decide +kernel
theorem dX11_inputOf_144 : decode cX11_inputOf 144 = .ok (.iload 5, 2) := by decide +kernel
theorem dX11_inputOf_146 : decode cX11_inputOf 146 = .ok (.bipush 7, 2) := by decide +kernel
theorem dX11_inputOf_148 : decode cX11_inputOf 148 = .ok (.iload 4, 2) := by decide +kernel
theorem dX11_inputOf_150 : decode cX11_inputOf 150 = .ok (.isub, 1) := by decide +kernel
theorem dX11_inputOf_151 : decode cX11_inputOf 151 = .ok (.ishr, 1) := by decide +kernel
theorem dX11_inputOf_152 : decode cX11_inputOf 152 = .ok (.iconst 1, 1) := by decide +kernel
theorem dX11_inputOf_153 : decode cX11_inputOf 153 = .ok (.iand, 1) := by decide +kernel
theorem dX11_inputOf_154 : decode cX11_inputOf 154 = .ok (.iconst 1, 1) := by decide +kernel
theorem dX11_inputOf_155 : decode cX11_inputOf 155 = .ok (.if_icmp .ne 8, 3) := by decide +kernel
theorem dX11_inputOf_158 : decode cX11_inputOf 158 = .ok (.iload 6, 2) := by decide +kernel
theorem dX11_inputOf_160 : decode cX11_inputOf 160 = .ok (.goto 6, 3) := by decide +kernel
theorem dX11_inputOf_163 : decode cX11_inputOf 163 = .ok (.iload 6, 2) := by decide +kernel
theorem dX11_inputOf_165 : decode cX11_inputOf 165 = .ok (.ineg, 1) := by decide +kernel
theorem dX11_inputOf_166 : decode cX11_inputOf 166 = .ok (.ireturn, 1) := by decide +kernel
theorem dX11_told_0 : decode cX11_told 0 = .ok (.lconst 0, 1) := by decide +kernel
theorem dX11_told_1 : decode cX11_told 1 = .ok (.lstore 4, 2) := by decide +kernel
theorem dX11_told_3 : decode cX11_told 3 = .ok (.iconst 0, 1) := by decide +kernel
theorem dX11_told_4 : decode cX11_told 4 = .ok (.istore 6, 2) := by decide +kernel
theorem dX11_told_6 : decode cX11_told 6 = .ok (.iload 6, 2) := by decide +kernel
theorem dX11_told_8 : decode cX11_told 8 = .ok (.aload_n 0, 1) := by decide +kernel
theorem dX11_told_9 : decode cX11_told 9 = .ok (.getfield 91, 3) := by decide +kernel
theorem dX11_told_12 : decode cX11_told 12 = .ok (.if_icmp .gt 37, 3) := by decide +kernel
theorem dX11_told_15 : decode cX11_told 15 = .ok (.lload 4, 2) := by decide +kernel
theorem dX11_told_17 : decode cX11_told 17 = .ok (.aload_n 0, 1) := by decide +kernel
theorem dX11_told_18 : decode cX11_told 18 = .ok (.getfield 47, 3) := by decide +kernel
theorem dX11_told_21 : decode cX11_told 21 = .ok (.iload_n 1, 1) := by decide +kernel
theorem dX11_told_22 : decode cX11_told 22 = .ok (.iload_n 2, 1) := by decide +kernel
theorem dX11_told_23 : decode cX11_told 23 = .ok (.iload_n 3, 1) := by decide +kernel
theorem dX11_told_24 : decode cX11_told 24 = .ok (.iload 6, 2) := by decide +kernel
theorem dX11_told_26 : decode cX11_told 26 = .ok (.invokestatic 87, 3) := by decide +kernel
theorem dX11_told_29 : decode cX11_told 29 = .ok (.iaload, 1) := by decide +kernel
theorem dX11_told_30 : decode cX11_told 30 = .ok (.i2l, 1) := by decide +kernel
theorem dX11_told_31 : decode cX11_told 31 = .ok (.aload_n 0, 1) := by decide +kernel
theorem dX11_told_32 : decode cX11_told 32 = .ok (.getfield 63, 3) := by decide +kernel
theorem dX11_told_35 : decode cX11_told 35 = .ok (.iload 6, 2) := by decide +kernel
theorem dX11_told_37 : decode cX11_told 37 = .ok (.iaload, 1) := by decide +kernel
theorem dX11_told_38 : decode cX11_told 38 = .ok (.i2l, 1) := by decide +kernel
theorem dX11_told_39 : decode cX11_told 39 = .ok (.lmul, 1) := by decide +kernel
theorem dX11_told_40 : decode cX11_told 40 = .ok (.ladd, 1) := by decide +kernel
theorem dX11_told_41 : decode cX11_told 41 = .ok (.lstore 4, 2) := by decide +kernel
theorem dX11_told_43 : decode cX11_told 43 = .ok (.iinc 6 1, 3) := by decide +kernel
theorem dX11_told_46 : decode cX11_told 46 = .ok (.goto (-40), 3) := by decide +kernel
theorem dX11_told_49 : decode cX11_told 49 = .ok (.lload 4, 2) := by decide +kernel
theorem dX11_told_51 : decode cX11_told 51 = .ok (.bipush 16, 2) := by decide +kernel
theorem dX11_told_53 : decode cX11_told 53 = .ok (.lshr, 1) := by decide +kernel
theorem dX11_told_54 : decode cX11_told 54 = .ok (.lstore 6, 2) := by decide +kernel
theorem dX11_told_56 : decode cX11_told 56 = .ok (.lload 6, 2) := by decide +kernel
theorem dX11_told_58 : decode cX11_told 58 = .ok (.ldc2_w 141, 3) := by decide +kernel
theorem dX11_told_61 : decode cX11_told 61 = .ok (.lcmp, 1) := by decide +kernel
theorem dX11_told_62 : decode cX11_told 62 = .ok (.ifCond .ge 9, 3) := by decide +kernel
theorem dX11_told_65 : decode cX11_told 65 = .ok (.sipush (-2047), 3) := by decide +kernel
theorem dX11_told_68 : decode cX11_told 68 = .ok (.goto 21, 3) := by decide +kernel
theorem dX11_told_71 : decode cX11_told 71 = .ok (.lload 6, 2) := by decide +kernel
theorem dX11_told_73 : decode cX11_told 73 = .ok (.ldc2_w 143, 3) := by decide +kernel
theorem dX11_told_76 : decode cX11_told 76 = .ok (.lcmp, 1) := by decide +kernel
theorem dX11_told_77 : decode cX11_told 77 = .ok (.ifCond .le 9, 3) := by decide +kernel
theorem dX11_told_80 : decode cX11_told 80 = .ok (.sipush 2047, 3) := by decide +kernel
theorem dX11_told_83 : decode cX11_told 83 = .ok (.goto 6, 3) := by decide +kernel
theorem dX11_told_86 : decode cX11_told 86 = .ok (.lload 6, 2) := by decide +kernel
theorem dX11_told_88 : decode cX11_told 88 = .ok (.l2i, 1) := by decide +kernel
theorem dX11_told_89 : decode cX11_told 89 = .ok (.invokestatic 70, 3) := by decide +kernel
theorem dX11_told_92 : decode cX11_told 92 = .ok (.ireturn, 1) := by decide +kernel
theorem dX11_work_0 : decode cX11_work 0 = .ok (.iconst 0, 1) := by decide +kernel
theorem dX11_work_1 : decode cX11_work 1 = .ok (.istore_n 2, 1) := by decide +kernel
theorem dX11_work_2 : decode cX11_work 2 = .ok (.iload_n 2, 1) := by decide +kernel
theorem dX11_work_3 : decode cX11_work 3 = .ok (.aload_n 0, 1) := by decide +kernel
theorem dX11_work_4 : decode cX11_work 4 = .ok (.getfield 91, 3) := by decide +kernel
theorem dX11_work_7 : decode cX11_work 7 = .ok (.if_icmp .gt 21, 3) := by decide +kernel
theorem dX11_work_10 : decode cX11_work 10 = .ok (.aload_n 0, 1) := by decide +kernel
theorem dX11_work_11 : decode cX11_work 11 = .ok (.getfield 63, 3) := by decide +kernel
theorem dX11_work_14 : decode cX11_work 14 = .ok (.iload_n 2, 1) := by decide +kernel
theorem dX11_work_15 : decode cX11_work 15 = .ok (.aload_n 0, 1) := by decide +kernel
theorem dX11_work_16 : decode cX11_work 16 = .ok (.iload_n 1, 1) := by decide +kernel
theorem dX11_work_17 : decode cX11_work 17 = .ok (.iload_n 2, 1) := by decide +kernel
theorem dX11_work_18 : decode cX11_work 18 = .ok (.invokevirtual 145, 3) := by decide +kernel
theorem dX11_work_21 : decode cX11_work 21 = .ok (.iastore, 1) := by decide +kernel
theorem dX11_work_22 : decode cX11_work 22 = .ok (.iinc 2 1, 3) := by decide +kernel
theorem dX11_work_25 : decode cX11_work 25 = .ok (.goto (-23), 3) := by decide +kernel
theorem dX11_work_28 : decode cX11_work 28 = .ok (.aload_n 0, 1) := by decide +kernel
theorem dX11_work_29 : decode cX11_work 29 = .ok (.aload_n 0, 1) := by decide +kernel
theorem dX11_work_30 : decode cX11_work 30 = .ok (.iload_n 1, 1) := by decide +kernel
theorem dX11_work_31 : decode cX11_work 31 = .ok (.iconst 1, 1) := by decide +kernel
theorem dX11_work_32 : decode cX11_work 32 = .ok (.invokevirtual 121, 3) := by decide +kernel
theorem dX11_work_35 : decode cX11_work 35 = .ok (.putfield 148, 3) := by decide +kernel
theorem dX11_work_38 : decode cX11_work 38 = .ok (.aload_n 0, 1) := by decide +kernel
theorem dX11_work_39 : decode cX11_work 39 = .ok (.aload_n 0, 1) := by decide +kernel
theorem dX11_work_40 : decode cX11_work 40 = .ok (.iload_n 1, 1) := by decide +kernel
theorem dX11_work_41 : decode cX11_work 41 = .ok (.iconst 0, 1) := by decide +kernel
theorem dX11_work_42 : decode cX11_work 42 = .ok (.aload_n 0, 1) := by decide +kernel
theorem dX11_work_43 : decode cX11_work 43 = .ok (.getfield 29, 3) := by decide +kernel
theorem dX11_work_46 : decode cX11_work 46 = .ok (.iload_n 1, 1) := by decide +kernel
theorem dX11_work_47 : decode cX11_work 47 = .ok (.iaload, 1) := by decide +kernel
theorem dX11_work_48 : decode cX11_work 48 = .ok (.invokevirtual 151, 3) := by decide +kernel
theorem dX11_work_51 : decode cX11_work 51 = .ok (.putfield 155, 3) := by decide +kernel
theorem dX11_work_54 : decode cX11_work 54 = .ok (.aload_n 0, 1) := by decide +kernel
theorem dX11_work_55 : decode cX11_work 55 = .ok (.aload_n 0, 1) := by decide +kernel
theorem dX11_work_56 : decode cX11_work 56 = .ok (.iload_n 1, 1) := by decide +kernel
theorem dX11_work_57 : decode cX11_work 57 = .ok (.iconst 1, 1) := by decide +kernel
theorem dX11_work_58 : decode cX11_work 58 = .ok (.aload_n 0, 1) := by decide +kernel
theorem dX11_work_59 : decode cX11_work 59 = .ok (.getfield 148, 3) := by decide +kernel
theorem dX11_work_62 : decode cX11_work 62 = .ok (.invokevirtual 151, 3) := by decide +kernel
theorem dX11_work_65 : decode cX11_work 65 = .ok (.putfield 158, 3) := by decide +kernel
theorem dX11_work_68 : decode cX11_work 68 = .ok (.aload_n 0, 1) := by decide +kernel
theorem dX11_work_69 : decode cX11_work 69 = .ok (.getfield 155, 3) := by decide +kernel
theorem dX11_work_72 : decode cX11_work 72 = .ok (.aload_n 0, 1) := by decide +kernel
theorem dX11_work_73 : decode cX11_work 73 = .ok (.getfield 158, 3) := by decide +kernel
theorem dX11_work_76 : decode cX11_work 76 = .ok (.iadd, 1) := by decide +kernel
theorem dX11_work_77 : decode cX11_work 77 = .ok (.iconst 1, 1) := by decide +kernel
theorem dX11_work_78 : decode cX11_work 78 = .ok (.iadd, 1) := by decide +kernel
theorem dX11_work_79 : decode cX11_work 79 = .ok (.iconst 1, 1) := by decide +kernel
theorem dX11_work_80 : decode cX11_work 80 = .ok (.ishr, 1) := by decide +kernel
theorem dX11_work_81 : decode cX11_work 81 = .ok (.istore_n 2, 1) := by decide +kernel
theorem dX11_work_82 : decode cX11_work 82 = .ok (.aload_n 0, 1) := by decide +kernel
theorem dX11_work_83 : decode cX11_work 83 = .ok (.getfield 7, 3) := by decide +kernel
theorem dX11_work_86 : decode cX11_work 86 = .ok (.iload_n 2, 1) := by decide +kernel
theorem dX11_work_87 : decode cX11_work 87 = .ok (.iaload, 1) := by decide +kernel
theorem dX11_work_88 : decode cX11_work 88 = .ok (.sipush 2048, 3) := by decide +kernel
theorem dX11_work_91 : decode cX11_work 91 = .ok (.iadd, 1) := by decide +kernel
theorem dX11_work_92 : decode cX11_work 92 = .ok (.istore_n 3, 1) := by decide +kernel
theorem dX11_work_93 : decode cX11_work 93 = .ok (.iload_n 3, 1) := by decide +kernel
theorem dX11_work_94 : decode cX11_work 94 = .ok (.bipush 7, 2) := by decide +kernel
theorem dX11_work_96 : decode cX11_work 96 = .ok (.ishr, 1) := by decide +kernel
theorem dX11_work_97 : decode cX11_work 97 = .ok (.istore 4, 2) := by decide +kernel
theorem dX11_work_99 : decode cX11_work 99 = .ok (.aload_n 0, 1) := by decide +kernel
theorem dX11_work_100 : decode cX11_work 100 = .ok (.iload_n 3, 1) := by decide +kernel
theorem dX11_work_101 : decode cX11_work 101 = .ok (.bipush 127, 2) := by decide +kernel
theorem dX11_work_103 : decode cX11_work 103 = .ok (.iand, 1) := by decide +kernel
theorem dX11_work_104 : decode cX11_work 104 = .ok (.putfield 161, 3) := by decide +kernel
theorem dX11_work_107 : decode cX11_work 107 = .ok (.aload_n 0, 1) := by decide +kernel
theorem dX11_work_108 : decode cX11_work 108 = .ok (.sipush 8448, 3) := by decide +kernel
theorem dX11_work_111 : decode cX11_work 111 = .ok (.iload_n 1, 1) := by decide +kernel
theorem dX11_work_112 : decode cX11_work 112 = .ok (.imul, 1) := by decide +kernel
theorem dX11_work_113 : decode cX11_work 113 = .ok (.bipush 33, 2) := by decide +kernel
theorem dX11_work_115 : decode cX11_work 115 = .ok (.aload_n 0, 1) := by decide +kernel
theorem dX11_work_116 : decode cX11_work 116 = .ok (.getfield 29, 3) := by decide +kernel
theorem dX11_work_119 : decode cX11_work 119 = .ok (.iload_n 1, 1) := by decide +kernel
theorem dX11_work_120 : decode cX11_work 120 = .ok (.iaload, 1) := by decide +kernel
theorem dX11_work_121 : decode cX11_work 121 = .ok (.imul, 1) := by decide +kernel
theorem dX11_work_122 : decode cX11_work 122 = .ok (.iadd, 1) := by decide +kernel
theorem dX11_work_123 : decode cX11_work 123 = .ok (.iload 4, 2) := by decide +kernel
theorem dX11_work_125 : decode cX11_work 125 = .ok (.iadd, 1) := by decide +kernel
theorem dX11_work_126 : decode cX11_work 126 = .ok (.putfield 164, 3) := by decide +kernel
theorem dX11_work_129 : decode cX11_work 129 = .ok (.aload_n 0, 1) := by decide +kernel
theorem dX11_work_130 : decode cX11_work 130 = .ok (.getfield 50, 3) := by decide +kernel
theorem dX11_work_133 : decode cX11_work 133 = .ok (.aload_n 0, 1) := by decide +kernel
theorem dX11_work_134 : decode cX11_work 134 = .ok (.getfield 164, 3) := by decide +kernel
theorem dX11_work_137 : decode cX11_work 137 = .ok (.iaload, 1) := by decide +kernel
theorem dX11_work_138 : decode cX11_work 138 = .ok (.sipush 128, 3) := by decide +kernel
theorem dX11_work_141 : decode cX11_work 141 = .ok (.aload_n 0, 1) := by decide +kernel
theorem dX11_work_142 : decode cX11_work 142 = .ok (.getfield 161, 3) := by decide +kernel
theorem dX11_work_145 : decode cX11_work 145 = .ok (.isub, 1) := by decide +kernel
theorem dX11_work_146 : decode cX11_work 146 = .ok (.imul, 1) := by decide +kernel
theorem dX11_work_147 : decode cX11_work 147 = .ok (.aload_n 0, 1) := by decide +kernel
theorem dX11_work_148 : decode cX11_work 148 = .ok (.getfield 50, 3) := by decide +kernel
theorem dX11_work_151 : decode cX11_work 151 = .ok (.aload_n 0, 1) := by decide +kernel
theorem dX11_work_152 : decode cX11_work 152 = .ok (.getfield 164, 3) := by decide +kernel
theorem dX11_work_155 : decode cX11_work 155 = .ok (.iconst 1, 1) := by decide +kernel
theorem dX11_work_156 : decode cX11_work 156 = .ok (.iadd, 1) := by decide +kernel
theorem dX11_work_157 : decode cX11_work 157 = .ok (.iaload, 1) := by decide +kernel
theorem dX11_work_158 : decode cX11_work 158 = .ok (.aload_n 0, 1) := by decide +kernel
theorem dX11_work_159 : decode cX11_work 159 = .ok (.getfield 161, 3) := by decide +kernel
theorem dX11_work_162 : decode cX11_work 162 = .ok (.imul, 1) := by decide +kernel
theorem dX11_work_163 : decode cX11_work 163 = .ok (.iadd, 1) := by decide +kernel
theorem dX11_work_164 : decode cX11_work 164 = .ok (.sipush 2048, 3) := by decide +kernel
theorem dX11_work_167 : decode cX11_work 167 = .ok (.idiv, 1) := by decide +kernel
theorem dX11_work_168 : decode cX11_work 168 = .ok (.istore 5, 2) := by decide +kernel
theorem dX11_work_170 : decode cX11_work 170 = .ok (.aload_n 0, 1) := by decide +kernel
theorem dX11_work_171 : decode cX11_work 171 = .ok (.iload_n 2, 1) := by decide +kernel
theorem dX11_work_172 : decode cX11_work 172 = .ok (.iconst 3, 1) := by decide +kernel
theorem dX11_work_173 : decode cX11_work 173 = .ok (.iload 5, 2) := by decide +kernel
theorem dX11_work_175 : decode cX11_work 175 = .ok (.imul, 1) := by decide +kernel
theorem dX11_work_176 : decode cX11_work 176 = .ok (.iadd, 1) := by decide +kernel
theorem dX11_work_177 : decode cX11_work 177 = .ok (.iconst 2, 1) := by decide +kernel
theorem dX11_work_178 : decode cX11_work 178 = .ok (.iadd, 1) := by decide +kernel
theorem dX11_work_179 : decode cX11_work 179 = .ok (.iconst 2, 1) := by decide +kernel
theorem dX11_work_180 : decode cX11_work 180 = .ok (.ishr, 1) := by decide +kernel
theorem dX11_work_181 : decode cX11_work 181 = .ok (.iconst 1, 1) := by decide +kernel
theorem dX11_work_182 : decode cX11_work 182 = .ok (.sipush 4095, 3) := by decide +kernel
theorem dX11_work_185 : decode cX11_work 185 = .ok (.invokestatic 167, 3) := by decide +kernel
theorem dX11_work_188 : decode cX11_work 188 = .ok (.putfield 170, 3) := by decide +kernel
theorem dX11_work_191 : decode cX11_work 191 = .ok (.return_, 1) := by decide +kernel
theorem dX11_learn_0 : decode cX11_learn 0 = .ok (.iload_n 2, 1) := by decide +kernel
theorem dX11_learn_1 : decode cX11_learn 1 = .ok (.iconst 1, 1) := by decide +kernel
theorem dX11_learn_2 : decode cX11_learn 2 = .ok (.if_icmp .ne 9, 3) := by decide +kernel
theorem dX11_learn_5 : decode cX11_learn 5 = .ok (.sipush 4095, 3) := by decide +kernel
theorem dX11_learn_8 : decode cX11_learn 8 = .ok (.goto 4, 3) := by decide +kernel
theorem dX11_learn_11 : decode cX11_learn 11 = .ok (.iconst 0, 1) := by decide +kernel
theorem dX11_learn_12 : decode cX11_learn 12 = .ok (.aload_n 0, 1) := by decide +kernel
theorem dX11_learn_13 : decode cX11_learn 13 = .ok (.getfield 155, 3) := by decide +kernel
theorem dX11_learn_16 : decode cX11_learn 16 = .ok (.isub, 1) := by decide +kernel
theorem dX11_learn_17 : decode cX11_learn 17 = .ok (.bipush 7, 2) := by decide +kernel
theorem dX11_learn_19 : decode cX11_learn 19 = .ok (.imul, 1) := by decide +kernel
theorem dX11_learn_20 : decode cX11_learn 20 = .ok (.istore_n 3, 1) := by decide +kernel
theorem dX11_learn_21 : decode cX11_learn 21 = .ok (.iload_n 2, 1) := by decide +kernel
theorem dX11_learn_22 : decode cX11_learn 22 = .ok (.iconst 1, 1) := by decide +kernel
theorem dX11_learn_23 : decode cX11_learn 23 = .ok (.if_icmp .ne 9, 3) := by decide +kernel
theorem dX11_learn_26 : decode cX11_learn 26 = .ok (.sipush 4095, 3) := by decide +kernel
theorem dX11_learn_29 : decode cX11_learn 29 = .ok (.goto 4, 3) := by decide +kernel
theorem dX11_learn_32 : decode cX11_learn 32 = .ok (.iconst 0, 1) := by decide +kernel
theorem dX11_learn_33 : decode cX11_learn 33 = .ok (.aload_n 0, 1) := by decide +kernel
theorem dX11_learn_34 : decode cX11_learn 34 = .ok (.getfield 158, 3) := by decide +kernel
theorem dX11_learn_37 : decode cX11_learn 37 = .ok (.isub, 1) := by decide +kernel
theorem dX11_learn_38 : decode cX11_learn 38 = .ok (.bipush 7, 2) := by decide +kernel
theorem dX11_learn_40 : decode cX11_learn 40 = .ok (.imul, 1) := by decide +kernel
theorem dX11_learn_41 : decode cX11_learn 41 = .ok (.istore 4, 2) := by decide +kernel
theorem dX11_learn_43 : decode cX11_learn 43 = .ok (.iconst 0, 1) := by decide +kernel
theorem dX11_learn_44 : decode cX11_learn 44 = .ok (.istore 5, 2) := by decide +kernel
theorem dX11_learn_46 : decode cX11_learn 46 = .ok (.iload 5, 2) := by decide +kernel
theorem dX11_learn_48 : decode cX11_learn 48 = .ok (.aload_n 0, 1) := by decide +kernel
theorem dX11_learn_49 : decode cX11_learn 49 = .ok (.getfield 91, 3) := by decide +kernel
theorem dX11_learn_52 : decode cX11_learn 52 = .ok (.if_icmp .gt 112, 3) := by decide +kernel
theorem dX11_learn_55 : decode cX11_learn 55 = .ok (.iload_n 1, 1) := by decide +kernel
theorem dX11_learn_56 : decode cX11_learn 56 = .ok (.iconst 0, 1) := by decide +kernel
theorem dX11_learn_57 : decode cX11_learn 57 = .ok (.aload_n 0, 1) := by decide +kernel
theorem dX11_learn_58 : decode cX11_learn 58 = .ok (.getfield 29, 3) := by decide +kernel
theorem dX11_learn_61 : decode cX11_learn 61 = .ok (.iload_n 1, 1) := by decide +kernel
theorem dX11_learn_62 : decode cX11_learn 62 = .ok (.iaload, 1) := by decide +kernel
theorem dX11_learn_63 : decode cX11_learn 63 = .ok (.iload 5, 2) := by decide +kernel
theorem dX11_learn_65 : decode cX11_learn 65 = .ok (.invokestatic 87, 3) := by decide +kernel
theorem dX11_learn_68 : decode cX11_learn 68 = .ok (.istore 6, 2) := by decide +kernel
theorem dX11_learn_70 : decode cX11_learn 70 = .ok (.iload_n 1, 1) := by decide +kernel
theorem dX11_learn_71 : decode cX11_learn 71 = .ok (.iconst 1, 1) := by decide +kernel
theorem dX11_learn_72 : decode cX11_learn 72 = .ok (.aload_n 0, 1) := by decide +kernel
theorem dX11_learn_73 : decode cX11_learn 73 = .ok (.getfield 148, 3) := by decide +kernel
theorem dX11_learn_76 : decode cX11_learn 76 = .ok (.iload 5, 2) := by decide +kernel
theorem dX11_learn_78 : decode cX11_learn 78 = .ok (.invokestatic 87, 3) := by decide +kernel
theorem dX11_learn_81 : decode cX11_learn 81 = .ok (.istore 7, 2) := by decide +kernel
theorem dX11_learn_83 : decode cX11_learn 83 = .ok (.aload_n 0, 1) := by decide +kernel
theorem dX11_learn_84 : decode cX11_learn 84 = .ok (.getfield 47, 3) := by decide +kernel
theorem dX11_learn_87 : decode cX11_learn 87 = .ok (.iload 6, 2) := by decide +kernel
theorem dX11_learn_89 : decode cX11_learn 89 = .ok (.aload_n 0, 1) := by decide +kernel
theorem dX11_learn_90 : decode cX11_learn 90 = .ok (.getfield 47, 3) := by decide +kernel
theorem dX11_learn_93 : decode cX11_learn 93 = .ok (.iload 6, 2) := by decide +kernel
theorem dX11_learn_95 : decode cX11_learn 95 = .ok (.iaload, 1) := by decide +kernel
theorem dX11_learn_96 : decode cX11_learn 96 = .ok (.aload_n 0, 1) := by decide +kernel
theorem dX11_learn_97 : decode cX11_learn 97 = .ok (.getfield 63, 3) := by decide +kernel
theorem dX11_learn_100 : decode cX11_learn 100 = .ok (.iload 5, 2) := by decide +kernel
theorem dX11_learn_102 : decode cX11_learn 102 = .ok (.iaload, 1) := by decide +kernel
theorem dX11_learn_103 : decode cX11_learn 103 = .ok (.iload_n 3, 1) := by decide +kernel
theorem dX11_learn_104 : decode cX11_learn 104 = .ok (.imul, 1) := by decide +kernel
theorem dX11_learn_105 : decode cX11_learn 105 = .ok (.ldc 86, 2) := by decide +kernel
theorem dX11_learn_107 : decode cX11_learn 107 = .ok (.iadd, 1) := by decide +kernel
theorem dX11_learn_108 : decode cX11_learn 108 = .ok (.bipush 16, 2) := by decide +kernel
theorem dX11_learn_110 : decode cX11_learn 110 = .ok (.ishr, 1) := by decide +kernel
theorem dX11_learn_111 : decode cX11_learn 111 = .ok (.iadd, 1) := by decide +kernel
theorem dX11_learn_112 : decode cX11_learn 112 = .ok (.ldc 173, 2) := by decide +kernel
theorem dX11_learn_114 : decode cX11_learn 114 = .ok (.ldc 174, 2) := by decide +kernel
theorem dX11_learn_116 : decode cX11_learn 116 = .ok (.invokestatic 167, 3) := by decide +kernel
theorem dX11_learn_119 : decode cX11_learn 119 = .ok (.iastore, 1) := by decide +kernel
theorem dX11_learn_120 : decode cX11_learn 120 = .ok (.aload_n 0, 1) := by decide +kernel
theorem dX11_learn_121 : decode cX11_learn 121 = .ok (.getfield 47, 3) := by decide +kernel
theorem dX11_learn_124 : decode cX11_learn 124 = .ok (.iload 7, 2) := by decide +kernel
theorem dX11_learn_126 : decode cX11_learn 126 = .ok (.aload_n 0, 1) := by decide +kernel
theorem dX11_learn_127 : decode cX11_learn 127 = .ok (.getfield 47, 3) := by decide +kernel
theorem dX11_learn_130 : decode cX11_learn 130 = .ok (.iload 7, 2) := by decide +kernel
theorem dX11_learn_132 : decode cX11_learn 132 = .ok (.iaload, 1) := by decide +kernel
theorem dX11_learn_133 : decode cX11_learn 133 = .ok (.aload_n 0, 1) := by decide +kernel
theorem dX11_learn_134 : decode cX11_learn 134 = .ok (.getfield 63, 3) := by decide +kernel
theorem dX11_learn_137 : decode cX11_learn 137 = .ok (.iload 5, 2) := by decide +kernel
theorem dX11_learn_139 : decode cX11_learn 139 = .ok (.iaload, 1) := by decide +kernel
theorem dX11_learn_140 : decode cX11_learn 140 = .ok (.iload 4, 2) := by decide +kernel
theorem dX11_learn_142 : decode cX11_learn 142 = .ok (.imul, 1) := by decide +kernel
theorem dX11_learn_143 : decode cX11_learn 143 = .ok (.ldc 86, 2) := by decide +kernel
theorem dX11_learn_145 : decode cX11_learn 145 = .ok (.iadd, 1) := by decide +kernel
theorem dX11_learn_146 : decode cX11_learn 146 = .ok (.bipush 16, 2) := by decide +kernel
theorem dX11_learn_148 : decode cX11_learn 148 = .ok (.ishr, 1) := by decide +kernel
theorem dX11_learn_149 : decode cX11_learn 149 = .ok (.iadd, 1) := by decide +kernel
theorem dX11_learn_150 : decode cX11_learn 150 = .ok (.ldc 173, 2) := by decide +kernel
theorem dX11_learn_152 : decode cX11_learn 152 = .ok (.ldc 174, 2) := by decide +kernel
theorem dX11_learn_154 : decode cX11_learn 154 = .ok (.invokestatic 167, 3) := by decide +kernel
theorem dX11_learn_157 : decode cX11_learn 157 = .ok (.iastore, 1) := by decide +kernel
theorem dX11_learn_158 : decode cX11_learn 158 = .ok (.iinc 5 1, 3) := by decide +kernel
theorem dX11_learn_161 : decode cX11_learn 161 = .ok (.goto (-115), 3) := by decide +kernel
theorem dX11_learn_164 : decode cX11_learn 164 = .ok (.aload_n 0, 1) := by decide +kernel
theorem dX11_learn_165 : decode cX11_learn 165 = .ok (.getfield 161, 3) := by decide +kernel
theorem dX11_learn_168 : decode cX11_learn 168 = .ok (.bipush 64, 2) := by decide +kernel
theorem dX11_learn_170 : decode cX11_learn 170 = .ok (.if_icmp .lt 12, 3) := by decide +kernel
theorem dX11_learn_173 : decode cX11_learn 173 = .ok (.aload_n 0, 1) := by decide +kernel
theorem dX11_learn_174 : decode cX11_learn 174 = .ok (.getfield 164, 3) := by decide +kernel
theorem dX11_learn_177 : decode cX11_learn 177 = .ok (.iconst 1, 1) := by decide +kernel
theorem dX11_learn_178 : decode cX11_learn 178 = .ok (.iadd, 1) := by decide +kernel
theorem dX11_learn_179 : decode cX11_learn 179 = .ok (.goto 7, 3) := by decide +kernel
theorem dX11_learn_182 : decode cX11_learn 182 = .ok (.aload_n 0, 1) := by decide +kernel
theorem dX11_learn_183 : decode cX11_learn 183 = .ok (.getfield 164, 3) := by decide +kernel
theorem dX11_learn_186 : decode cX11_learn 186 = .ok (.istore 5, 2) := by decide +kernel
theorem dX11_learn_188 : decode cX11_learn 188 = .ok (.aload_n 0, 1) := by decide +kernel
theorem dX11_learn_189 : decode cX11_learn 189 = .ok (.getfield 50, 3) := by decide +kernel
theorem dX11_learn_192 : decode cX11_learn 192 = .ok (.iload 5, 2) := by decide +kernel
theorem dX11_learn_194 : decode cX11_learn 194 = .ok (.dup2, 1) := by decide +kernel
theorem dX11_learn_195 : decode cX11_learn 195 = .ok (.iaload, 1) := by decide +kernel
theorem dX11_learn_196 : decode cX11_learn 196 = .ok (.iload_n 2, 1) := by decide +kernel
theorem dX11_learn_197 : decode cX11_learn 197 = .ok (.iconst 1, 1) := by decide +kernel
theorem dX11_learn_198 : decode cX11_learn 198 = .ok (.if_icmp .ne 8, 3) := by decide +kernel
theorem dX11_learn_201 : decode cX11_learn 201 = .ok (.ldc 175, 2) := by decide +kernel
theorem dX11_learn_203 : decode cX11_learn 203 = .ok (.goto 4, 3) := by decide +kernel
theorem dX11_learn_206 : decode cX11_learn 206 = .ok (.iconst 0, 1) := by decide +kernel
theorem dX11_learn_207 : decode cX11_learn 207 = .ok (.aload_n 0, 1) := by decide +kernel
theorem dX11_learn_208 : decode cX11_learn 208 = .ok (.getfield 50, 3) := by decide +kernel
theorem dX11_learn_211 : decode cX11_learn 211 = .ok (.iload 5, 2) := by decide +kernel
theorem dX11_learn_213 : decode cX11_learn 213 = .ok (.iaload, 1) := by decide +kernel
theorem dX11_learn_214 : decode cX11_learn 214 = .ok (.isub, 1) := by decide +kernel
theorem dX11_learn_215 : decode cX11_learn 215 = .ok (.bipush 7, 2) := by decide +kernel
theorem dX11_learn_217 : decode cX11_learn 217 = .ok (.ishr, 1) := by decide +kernel
theorem dX11_learn_218 : decode cX11_learn 218 = .ok (.iadd, 1) := by decide +kernel
theorem dX11_learn_219 : decode cX11_learn 219 = .ok (.iastore, 1) := by decide +kernel
theorem dX11_learn_220 : decode cX11_learn 220 = .ok (.iconst 0, 1) := by decide +kernel
theorem dX11_learn_221 : decode cX11_learn 221 = .ok (.istore 6, 2) := by decide +kernel
theorem dX11_learn_223 : decode cX11_learn 223 = .ok (.iload 6, 2) := by decide +kernel
theorem dX11_learn_225 : decode cX11_learn 225 = .ok (.aload_n 0, 1) := by decide +kernel
theorem dX11_learn_226 : decode cX11_learn 226 = .ok (.getfield 91, 3) := by decide +kernel
theorem dX11_learn_229 : decode cX11_learn 229 = .ok (.if_icmp .ge 121, 3) := by decide +kernel
theorem dX11_learn_232 : decode cX11_learn 232 = .ok (.aload_n 0, 1) := by decide +kernel
theorem dX11_learn_233 : decode cX11_learn 233 = .ok (.getfield 13, 3) := by decide +kernel
theorem dX11_learn_236 : decode cX11_learn 236 = .ok (.iload 6, 2) := by decide +kernel
theorem dX11_learn_238 : decode cX11_learn 238 = .ok (.iaload, 1) := by decide +kernel
theorem dX11_learn_239 : decode cX11_learn 239 = .ok (.iconst 4, 1) := by decide +kernel
theorem dX11_learn_240 : decode cX11_learn 240 = .ok (.if_icmp .ge 104, 3) := by decide +kernel
theorem dX11_learn_243 : decode cX11_learn 243 = .ok (.aload_n 0, 1) := by decide +kernel
theorem dX11_learn_244 : decode cX11_learn 244 = .ok (.getfield 19, 3) := by decide +kernel
theorem dX11_learn_247 : decode cX11_learn 247 = .ok (.iload 6, 2) := by decide +kernel
theorem dX11_learn_249 : decode cX11_learn 249 = .ok (.baload, 1) := by decide +kernel
theorem dX11_learn_250 : decode cX11_learn 250 = .ok (.ifCond .ne 94, 3) := by decide +kernel
theorem dX11_learn_253 : decode cX11_learn 253 = .ok (.aload_n 0, 1) := by decide +kernel
theorem dX11_learn_254 : decode cX11_learn 254 = .ok (.iload_n 1, 1) := by decide +kernel
theorem dX11_learn_255 : decode cX11_learn 255 = .ok (.iload 6, 2) := by decide +kernel
theorem dX11_learn_257 : decode cX11_learn 257 = .ok (.invokevirtual 135, 3) := by decide +kernel
theorem dX11_learn_260 : decode cX11_learn 260 = .ok (.istore 7, 2) := by decide +kernel
theorem dX11_learn_262 : decode cX11_learn 262 = .ok (.iload_n 2, 1) := by decide +kernel
theorem dX11_learn_263 : decode cX11_learn 263 = .ok (.iconst 1, 1) := by decide +kernel
theorem dX11_learn_264 : decode cX11_learn 264 = .ok (.if_icmp .ne 8, 3) := by decide +kernel
theorem dX11_learn_267 : decode cX11_learn 267 = .ok (.ldc 175, 2) := by decide +kernel
theorem dX11_learn_269 : decode cX11_learn 269 = .ok (.goto 4, 3) := by decide +kernel
theorem dX11_learn_272 : decode cX11_learn 272 = .ok (.iconst 0, 1) := by decide +kernel
theorem dX11_learn_273 : decode cX11_learn 273 = .ok (.aload_n 0, 1) := by decide +kernel
theorem dX11_learn_274 : decode cX11_learn 274 = .ok (.getfield 41, 3) := by decide +kernel
theorem dX11_learn_277 : decode cX11_learn 277 = .ok (.iload 7, 2) := by decide +kernel
theorem dX11_learn_279 : decode cX11_learn 279 = .ok (.iaload, 1) := by decide +kernel
theorem dX11_learn_280 : decode cX11_learn 280 = .ok (.isub, 1) := by decide +kernel
theorem dX11_learn_281 : decode cX11_learn 281 = .ok (.istore 8, 2) := by decide +kernel
theorem dX11_learn_283 : decode cX11_learn 283 = .ok (.aload_n 0, 1) := by decide +kernel
theorem dX11_learn_284 : decode cX11_learn 284 = .ok (.getfield 41, 3) := by decide +kernel
theorem dX11_learn_287 : decode cX11_learn 287 = .ok (.iload 7, 2) := by decide +kernel
theorem dX11_learn_289 : decode cX11_learn 289 = .ok (.dup2, 1) := by decide +kernel
theorem dX11_learn_290 : decode cX11_learn 290 = .ok (.iaload, 1) := by decide +kernel
theorem dX11_learn_291 : decode cX11_learn 291 = .ok (.iload 8, 2) := by decide +kernel
theorem dX11_learn_293 : decode cX11_learn 293 = .ok (.ldc 176, 2) := by decide +kernel
theorem dX11_learn_295 : decode cX11_learn 295 = .ok (.aload_n 0, 1) := by decide +kernel
theorem dX11_learn_296 : decode cX11_learn 296 = .ok (.getfield 44, 3) := by decide +kernel
theorem dX11_learn_299 : decode cX11_learn 299 = .ok (.iload 7, 2) := by decide +kernel
theorem dX11_learn_301 : decode cX11_learn 301 = .ok (.iaload, 1) := by decide +kernel
theorem dX11_learn_302 : decode cX11_learn 302 = .ok (.iconst 2, 1) := by decide +kernel
theorem dX11_learn_303 : decode cX11_learn 303 = .ok (.iadd, 1) := by decide +kernel
theorem dX11_learn_304 : decode cX11_learn 304 = .ok (.idiv, 1) := by decide +kernel
theorem dX11_learn_305 : decode cX11_learn 305 = .ok (.imul, 1) := by decide +kernel
theorem dX11_learn_306 : decode cX11_learn 306 = .ok (.bipush 16, 2) := by decide +kernel
theorem dX11_learn_308 : decode cX11_learn 308 = .ok (.ishr, 1) := by decide +kernel
theorem dX11_learn_309 : decode cX11_learn 309 = .ok (.iadd, 1) := by decide +kernel
theorem dX11_learn_310 : decode cX11_learn 310 = .ok (.iastore, 1) := by decide +kernel
theorem dX11_learn_311 : decode cX11_learn 311 = .ok (.aload_n 0, 1) := by decide +kernel
theorem dX11_learn_312 : decode cX11_learn 312 = .ok (.getfield 44, 3) := by decide +kernel
theorem dX11_learn_315 : decode cX11_learn 315 = .ok (.iload 7, 2) := by decide +kernel
theorem dX11_learn_317 : decode cX11_learn 317 = .ok (.aload_n 0, 1) := by decide +kernel
theorem dX11_learn_318 : decode cX11_learn 318 = .ok (.getfield 44, 3) := by decide +kernel
theorem dX11_learn_321 : decode cX11_learn 321 = .ok (.iload 7, 2) := by decide +kernel
theorem dX11_learn_323 : decode cX11_learn 323 = .ok (.iaload, 1) := by decide +kernel
theorem dX11_learn_324 : decode cX11_learn 324 = .ok (.bipush 30, 2) := by decide +kernel
theorem dX11_learn_326 : decode cX11_learn 326 = .ok (.if_icmp .ge 15, 3) := by decide +kernel
theorem dX11_learn_329 : decode cX11_learn 329 = .ok (.aload_n 0, 1) := by decide +kernel
theorem dX11_learn_330 : decode cX11_learn 330 = .ok (.getfield 44, 3) := by decide +kernel
theorem dX11_learn_333 : decode cX11_learn 333 = .ok (.iload 7, 2) := by decide +kernel
theorem dX11_learn_335 : decode cX11_learn 335 = .ok (.iaload, 1) := by decide +kernel
theorem dX11_learn_336 : decode cX11_learn 336 = .ok (.iconst 1, 1) := by decide +kernel
theorem dX11_learn_337 : decode cX11_learn 337 = .ok (.iadd, 1) := by decide +kernel
theorem dX11_learn_338 : decode cX11_learn 338 = .ok (.goto 5, 3) := by decide +kernel
theorem dX11_learn_341 : decode cX11_learn 341 = .ok (.bipush 30, 2) := by decide +kernel
theorem dX11_learn_343 : decode cX11_learn 343 = .ok (.iastore, 1) := by decide +kernel
theorem dX11_learn_344 : decode cX11_learn 344 = .ok (.iinc 6 1, 3) := by decide +kernel
theorem dX11_learn_347 : decode cX11_learn 347 = .ok (.goto (-124), 3) := by decide +kernel
theorem dX11_learn_350 : decode cX11_learn 350 = .ok (.aload_n 0, 1) := by decide +kernel
theorem dX11_learn_351 : decode cX11_learn 351 = .ok (.getfield 29, 3) := by decide +kernel
theorem dX11_learn_354 : decode cX11_learn 354 = .ok (.iload_n 1, 1) := by decide +kernel
theorem dX11_learn_355 : decode cX11_learn 355 = .ok (.iconst 2, 1) := by decide +kernel
theorem dX11_learn_356 : decode cX11_learn 356 = .ok (.aload_n 0, 1) := by decide +kernel
theorem dX11_learn_357 : decode cX11_learn 357 = .ok (.getfield 29, 3) := by decide +kernel
theorem dX11_learn_360 : decode cX11_learn 360 = .ok (.iload_n 1, 1) := by decide +kernel
theorem dX11_learn_361 : decode cX11_learn 361 = .ok (.iaload, 1) := by decide +kernel
theorem dX11_learn_362 : decode cX11_learn 362 = .ok (.imul, 1) := by decide +kernel
theorem dX11_learn_363 : decode cX11_learn 363 = .ok (.iload_n 2, 1) := by decide +kernel
theorem dX11_learn_364 : decode cX11_learn 364 = .ok (.iadd, 1) := by decide +kernel
theorem dX11_learn_365 : decode cX11_learn 365 = .ok (.iastore, 1) := by decide +kernel
theorem dX11_learn_366 : decode cX11_learn 366 = .ok (.aload_n 0, 1) := by decide +kernel
theorem dX11_learn_367 : decode cX11_learn 367 = .ok (.getfield 29, 3) := by decide +kernel
theorem dX11_learn_370 : decode cX11_learn 370 = .ok (.iload_n 1, 1) := by decide +kernel
theorem dX11_learn_371 : decode cX11_learn 371 = .ok (.iaload, 1) := by decide +kernel
theorem dX11_learn_372 : decode cX11_learn 372 = .ok (.sipush 255, 3) := by decide +kernel
theorem dX11_learn_375 : decode cX11_learn 375 = .ok (.if_icmp .le 53, 3) := by decide +kernel
theorem dX11_learn_378 : decode cX11_learn 378 = .ok (.aload_n 0, 1) := by decide +kernel
theorem dX11_learn_379 : decode cX11_learn 379 = .ok (.getfield 23, 3) := by decide +kernel
theorem dX11_learn_382 : decode cX11_learn 382 = .ok (.sipush 2050, 3) := by decide +kernel
theorem dX11_learn_385 : decode cX11_learn 385 = .ok (.iload_n 1, 1) := by decide +kernel
theorem dX11_learn_386 : decode cX11_learn 386 = .ok (.imul, 1) := by decide +kernel
theorem dX11_learn_387 : decode cX11_learn 387 = .ok (.aload_n 0, 1) := by decide +kernel
theorem dX11_learn_388 : decode cX11_learn 388 = .ok (.getfield 26, 3) := by decide +kernel
theorem dX11_learn_391 : decode cX11_learn 391 = .ok (.iload_n 1, 1) := by decide +kernel
theorem dX11_learn_392 : decode cX11_learn 392 = .ok (.iaload, 1) := by decide +kernel
theorem dX11_learn_393 : decode cX11_learn 393 = .ok (.iadd, 1) := by decide +kernel
theorem dX11_learn_394 : decode cX11_learn 394 = .ok (.aload_n 0, 1) := by decide +kernel
theorem dX11_learn_395 : decode cX11_learn 395 = .ok (.getfield 29, 3) := by decide +kernel
theorem dX11_learn_398 : decode cX11_learn 398 = .ok (.iload_n 1, 1) := by decide +kernel
theorem dX11_learn_399 : decode cX11_learn 399 = .ok (.iaload, 1) := by decide +kernel
theorem dX11_learn_400 : decode cX11_learn 400 = .ok (.sipush 255, 3) := by decide +kernel
theorem dX11_learn_403 : decode cX11_learn 403 = .ok (.iand, 1) := by decide +kernel
theorem dX11_learn_404 : decode cX11_learn 404 = .ok (.iastore, 1) := by decide +kernel
theorem dX11_learn_405 : decode cX11_learn 405 = .ok (.aload_n 0, 1) := by decide +kernel
theorem dX11_learn_406 : decode cX11_learn 406 = .ok (.getfield 26, 3) := by decide +kernel
theorem dX11_learn_409 : decode cX11_learn 409 = .ok (.iload_n 1, 1) := by decide +kernel
theorem dX11_learn_410 : decode cX11_learn 410 = .ok (.dup2, 1) := by decide +kernel
theorem dX11_learn_411 : decode cX11_learn 411 = .ok (.iaload, 1) := by decide +kernel
theorem dX11_learn_412 : decode cX11_learn 412 = .ok (.iconst 1, 1) := by decide +kernel
theorem dX11_learn_413 : decode cX11_learn 413 = .ok (.iadd, 1) := by decide +kernel
theorem dX11_learn_414 : decode cX11_learn 414 = .ok (.iastore, 1) := by decide +kernel
theorem dX11_learn_415 : decode cX11_learn 415 = .ok (.aload_n 0, 1) := by decide +kernel
theorem dX11_learn_416 : decode cX11_learn 416 = .ok (.getfield 29, 3) := by decide +kernel
theorem dX11_learn_419 : decode cX11_learn 419 = .ok (.iload_n 1, 1) := by decide +kernel
theorem dX11_learn_420 : decode cX11_learn 420 = .ok (.iconst 1, 1) := by decide +kernel
theorem dX11_learn_421 : decode cX11_learn 421 = .ok (.iastore, 1) := by decide +kernel
theorem dX11_learn_422 : decode cX11_learn 422 = .ok (.aload_n 0, 1) := by decide +kernel
theorem dX11_learn_423 : decode cX11_learn 423 = .ok (.iload_n 1, 1) := by decide +kernel
theorem dX11_learn_424 : decode cX11_learn 424 = .ok (.iconst 1, 1) := by decide +kernel
theorem dX11_learn_425 : decode cX11_learn 425 = .ok (.invokevirtual 96, 3) := by decide +kernel
theorem dX11_learn_428 : decode cX11_learn 428 = .ok (.return_, 1) := by decide +kernel
theorem dX11_predictor_0 : decode cX11_predictor 0 = .ok (.aload_n 0, 1) := by decide +kernel
theorem dX11_predictor_1 : decode cX11_predictor 1 = .ok (.iconst 0, 1) := by decide +kernel
theorem dX11_predictor_2 : decode cX11_predictor 2 = .ok (.putfield 77, 3) := by decide +kernel
theorem dX11_predictor_5 : decode cX11_predictor 5 = .ok (.iload_n 1, 1) := by decide +kernel
theorem dX11_predictor_6 : decode cX11_predictor 6 = .ok (.ifCond .ne 21, 3) := by decide +kernel
theorem dX11_predictor_9 : decode cX11_predictor 9 = .ok (.iload_n 2, 1) := by decide +kernel
theorem dX11_predictor_10 : decode cX11_predictor 10 = .ok (.ifCond .lt 13, 3) := by decide +kernel
theorem dX11_predictor_13 : decode cX11_predictor 13 = .ok (.iload_n 2, 1) := by decide +kernel
theorem dX11_predictor_14 : decode cX11_predictor 14 = .ok (.bipush 6, 2) := by decide +kernel
theorem dX11_predictor_16 : decode cX11_predictor 16 = .ok (.if_icmp .gt 7, 3) := by decide +kernel
theorem dX11_predictor_19 : decode cX11_predictor 19 = .ok (.iconst 1, 1) := by decide +kernel
theorem dX11_predictor_20 : decode cX11_predictor 20 = .ok (.goto 85, 3) := by decide +kernel
theorem dX11_predictor_23 : decode cX11_predictor 23 = .ok (.iconst 0, 1) := by decide +kernel
theorem dX11_predictor_24 : decode cX11_predictor 24 = .ok (.goto 81, 3) := by decide +kernel
theorem dX11_predictor_27 : decode cX11_predictor 27 = .ok (.iload_n 1, 1) := by decide +kernel
theorem dX11_predictor_28 : decode cX11_predictor 28 = .ok (.iconst 1, 1) := by decide +kernel
theorem dX11_predictor_29 : decode cX11_predictor 29 = .ok (.if_icmp .ne 7, 3) := by decide +kernel
theorem dX11_predictor_32 : decode cX11_predictor 32 = .ok (.iconst 1, 1) := by decide +kernel
theorem dX11_predictor_33 : decode cX11_predictor 33 = .ok (.goto 72, 3) := by decide +kernel
theorem dX11_predictor_36 : decode cX11_predictor 36 = .ok (.iload_n 1, 1) := by decide +kernel
theorem dX11_predictor_37 : decode cX11_predictor 37 = .ok (.iconst 2, 1) := by decide +kernel
theorem dX11_predictor_38 : decode cX11_predictor 38 = .ok (.if_icmp .ne 22, 3) := by decide +kernel
theorem dX11_predictor_41 : decode cX11_predictor 41 = .ok (.iload_n 2, 1) := by decide +kernel
theorem dX11_predictor_42 : decode cX11_predictor 42 = .ok (.iconst 1, 1) := by decide +kernel
theorem dX11_predictor_43 : decode cX11_predictor 43 = .ok (.if_icmp .lt 13, 3) := by decide +kernel
theorem dX11_predictor_46 : decode cX11_predictor 46 = .ok (.iload_n 2, 1) := by decide +kernel
theorem dX11_predictor_47 : decode cX11_predictor 47 = .ok (.bipush 64, 2) := by decide +kernel
theorem dX11_predictor_49 : decode cX11_predictor 49 = .ok (.if_icmp .gt 7, 3) := by decide +kernel
theorem dX11_predictor_52 : decode cX11_predictor 52 = .ok (.iconst 1, 1) := by decide +kernel
theorem dX11_predictor_53 : decode cX11_predictor 53 = .ok (.goto 52, 3) := by decide +kernel
theorem dX11_predictor_56 : decode cX11_predictor 56 = .ok (.iconst 0, 1) := by decide +kernel
theorem dX11_predictor_57 : decode cX11_predictor 57 = .ok (.goto 48, 3) := by decide +kernel
theorem dX11_predictor_60 : decode cX11_predictor 60 = .ok (.iload_n 1, 1) := by decide +kernel
theorem dX11_predictor_61 : decode cX11_predictor 61 = .ok (.iconst 3, 1) := by decide +kernel
theorem dX11_predictor_62 : decode cX11_predictor 62 = .ok (.if_icmp .ne 22, 3) := by decide +kernel
theorem dX11_predictor_65 : decode cX11_predictor 65 = .ok (.iload_n 2, 1) := by decide +kernel
theorem dX11_predictor_66 : decode cX11_predictor 66 = .ok (.iconst 1, 1) := by decide +kernel
theorem dX11_predictor_67 : decode cX11_predictor 67 = .ok (.if_icmp .lt 13, 3) := by decide +kernel
theorem dX11_predictor_70 : decode cX11_predictor 70 = .ok (.iload_n 2, 1) := by decide +kernel
theorem dX11_predictor_71 : decode cX11_predictor 71 = .ok (.bipush 15, 2) := by decide +kernel
theorem dX11_predictor_73 : decode cX11_predictor 73 = .ok (.if_icmp .gt 7, 3) := by decide +kernel
theorem dX11_predictor_76 : decode cX11_predictor 76 = .ok (.iconst 1, 1) := by decide +kernel
theorem dX11_predictor_77 : decode cX11_predictor 77 = .ok (.goto 28, 3) := by decide +kernel
theorem dX11_predictor_80 : decode cX11_predictor 80 = .ok (.iconst 0, 1) := by decide +kernel
theorem dX11_predictor_81 : decode cX11_predictor 81 = .ok (.goto 24, 3) := by decide +kernel
theorem dX11_predictor_84 : decode cX11_predictor 84 = .ok (.iload_n 1, 1) := by decide +kernel
theorem dX11_predictor_85 : decode cX11_predictor 85 = .ok (.iconst 4, 1) := by decide +kernel
theorem dX11_predictor_86 : decode cX11_predictor 86 = .ok (.if_icmp .ne 18, 3) := by decide +kernel
theorem dX11_predictor_89 : decode cX11_predictor 89 = .ok (.iload_n 2, 1) := by decide +kernel
theorem dX11_predictor_90 : decode cX11_predictor 90 = .ok (.iconst 3, 1) := by decide +kernel
theorem dX11_predictor_91 : decode cX11_predictor 91 = .ok (.if_icmp .lt 13, 3) := by decide +kernel
theorem dX11_predictor_94 : decode cX11_predictor 94 = .ok (.iload_n 2, 1) := by decide +kernel
theorem dX11_predictor_95 : decode cX11_predictor 95 = .ok (.bipush 8, 2) := by decide +kernel
theorem dX11_predictor_97 : decode cX11_predictor 97 = .ok (.if_icmp .gt 7, 3) := by decide +kernel
theorem dX11_predictor_100 : decode cX11_predictor 100 = .ok (.iconst 1, 1) := by decide +kernel
theorem dX11_predictor_101 : decode cX11_predictor 101 = .ok (.goto 4, 3) := by decide +kernel
theorem dX11_predictor_104 : decode cX11_predictor 104 = .ok (.iconst 0, 1) := by decide +kernel
theorem dX11_predictor_105 : decode cX11_predictor 105 = .ok (.istore_n 3, 1) := by decide +kernel
theorem dX11_predictor_106 : decode cX11_predictor 106 = .ok (.iload_n 3, 1) := by decide +kernel
theorem dX11_predictor_107 : decode cX11_predictor 107 = .ok (.ifCond .ne 5, 3) := by decide +kernel
theorem dX11_predictor_110 : decode cX11_predictor 110 = .ok (.iconst (-1), 1) := by decide +kernel
theorem dX11_predictor_111 : decode cX11_predictor 111 = .ok (.ireturn, 1) := by decide +kernel
theorem dX11_predictor_112 : decode cX11_predictor 112 = .ok (.aload_n 0, 1) := by decide +kernel
theorem dX11_predictor_113 : decode cX11_predictor 113 = .ok (.invokevirtual 177, 3) := by decide +kernel
theorem dX11_predictor_116 : decode cX11_predictor 116 = .ok (.ifCond .eq 6, 3) := by decide +kernel
theorem dX11_predictor_119 : decode cX11_predictor 119 = .ok (.bipush (-4), 2) := by decide +kernel
theorem dX11_predictor_121 : decode cX11_predictor 121 = .ok (.ireturn, 1) := by decide +kernel
theorem dX11_predictor_122 : decode cX11_predictor 122 = .ok (.aload_n 0, 1) := by decide +kernel
theorem dX11_predictor_123 : decode cX11_predictor 123 = .ok (.getfield 91, 3) := by decide +kernel
theorem dX11_predictor_126 : decode cX11_predictor 126 = .ok (.bipush 8, 2) := by decide +kernel
theorem dX11_predictor_128 : decode cX11_predictor 128 = .ok (.if_icmp .ne 6, 3) := by decide +kernel
theorem dX11_predictor_131 : decode cX11_predictor 131 = .ok (.bipush (-3), 2) := by decide +kernel
theorem dX11_predictor_133 : decode cX11_predictor 133 = .ok (.ireturn, 1) := by decide +kernel
theorem dX11_predictor_134 : decode cX11_predictor 134 = .ok (.aload_n 0, 1) := by decide +kernel
theorem dX11_predictor_135 : decode cX11_predictor 135 = .ok (.getfield 13, 3) := by decide +kernel
theorem dX11_predictor_138 : decode cX11_predictor 138 = .ok (.aload_n 0, 1) := by decide +kernel
theorem dX11_predictor_139 : decode cX11_predictor 139 = .ok (.getfield 91, 3) := by decide +kernel
theorem dX11_predictor_142 : decode cX11_predictor 142 = .ok (.iload_n 1, 1) := by decide +kernel
theorem dX11_predictor_143 : decode cX11_predictor 143 = .ok (.iastore, 1) := by decide +kernel
theorem dX11_predictor_144 : decode cX11_predictor 144 = .ok (.aload_n 0, 1) := by decide +kernel
theorem dX11_predictor_145 : decode cX11_predictor 145 = .ok (.getfield 16, 3) := by decide +kernel
theorem dX11_predictor_148 : decode cX11_predictor 148 = .ok (.aload_n 0, 1) := by decide +kernel
theorem dX11_predictor_149 : decode cX11_predictor 149 = .ok (.getfield 91, 3) := by decide +kernel
theorem dX11_predictor_152 : decode cX11_predictor 152 = .ok (.iload_n 2, 1) := by decide +kernel
theorem dX11_predictor_153 : decode cX11_predictor 153 = .ok (.iastore, 1) := by decide +kernel
theorem dX11_predictor_154 : decode cX11_predictor 154 = .ok (.aload_n 0, 1) := by decide +kernel
theorem dX11_predictor_155 : decode cX11_predictor 155 = .ok (.getfield 19, 3) := by decide +kernel
theorem dX11_predictor_158 : decode cX11_predictor 158 = .ok (.aload_n 0, 1) := by decide +kernel
theorem dX11_predictor_159 : decode cX11_predictor 159 = .ok (.getfield 91, 3) := by decide +kernel
theorem dX11_predictor_162 : decode cX11_predictor 162 = .ok (.iconst 0, 1) := by decide +kernel
theorem dX11_predictor_163 : decode cX11_predictor 163 = .ok (.bastore, 1) := by decide +kernel
theorem dX11_predictor_164 : decode cX11_predictor 164 = .ok (.aload_n 0, 1) := by decide +kernel
theorem dX11_predictor_165 : decode cX11_predictor 165 = .ok (.dup, 1) := by decide +kernel
theorem dX11_predictor_166 : decode cX11_predictor 166 = .ok (.getfield 91, 3) := by decide +kernel
theorem dX11_predictor_169 : decode cX11_predictor 169 = .ok (.iconst 1, 1) := by decide +kernel
theorem dX11_predictor_170 : decode cX11_predictor 170 = .ok (.iadd, 1) := by decide +kernel
theorem dX11_predictor_171 : decode cX11_predictor 171 = .ok (.putfield 91, 3) := by decide +kernel
theorem dX11_predictor_174 : decode cX11_predictor 174 = .ok (.aload_n 0, 1) := by decide +kernel
theorem dX11_predictor_175 : decode cX11_predictor 175 = .ok (.invokevirtual 74, 3) := by decide +kernel
theorem dX11_predictor_178 : decode cX11_predictor 178 = .ok (.aload_n 0, 1) := by decide +kernel
theorem dX11_predictor_179 : decode cX11_predictor 179 = .ok (.getfield 91, 3) := by decide +kernel
theorem dX11_predictor_182 : decode cX11_predictor 182 = .ok (.iconst 1, 1) := by decide +kernel
theorem dX11_predictor_183 : decode cX11_predictor 183 = .ok (.isub, 1) := by decide +kernel
theorem dX11_predictor_184 : decode cX11_predictor 184 = .ok (.ireturn, 1) := by decide +kernel
theorem dX11_hasWritten_0 : decode cX11_hasWritten 0 = .ok (.aload_n 0, 1) := by decide +kernel
theorem dX11_hasWritten_1 : decode cX11_hasWritten 1 = .ok (.getfield 26, 3) := by decide +kernel
theorem dX11_hasWritten_4 : decode cX11_hasWritten 4 = .ok (.iconst 0, 1) := by decide +kernel
theorem dX11_hasWritten_5 : decode cX11_hasWritten 5 = .ok (.iaload, 1) := by decide +kernel
theorem dX11_hasWritten_6 : decode cX11_hasWritten 6 = .ok (.ifCond .gt 17, 3) := by decide +kernel
theorem dX11_hasWritten_9 : decode cX11_hasWritten 9 = .ok (.aload_n 0, 1) := by decide +kernel
theorem dX11_hasWritten_10 : decode cX11_hasWritten 10 = .ok (.getfield 107, 3) := by decide +kernel
theorem dX11_hasWritten_13 : decode cX11_hasWritten 13 = .ok (.ifCond .gt 10, 3) := by decide +kernel
theorem dX11_hasWritten_16 : decode cX11_hasWritten 16 = .ok (.aload_n 0, 1) := by decide +kernel
theorem dX11_hasWritten_17 : decode cX11_hasWritten 17 = .ok (.getfield 110, 3) := by decide +kernel
theorem dX11_hasWritten_20 : decode cX11_hasWritten 20 = .ok (.ifCond .eq 7, 3) := by decide +kernel
theorem dX11_hasWritten_23 : decode cX11_hasWritten 23 = .ok (.iconst 1, 1) := by decide +kernel
theorem dX11_hasWritten_24 : decode cX11_hasWritten 24 = .ok (.goto 4, 3) := by decide +kernel
theorem dX11_hasWritten_27 : decode cX11_hasWritten 27 = .ok (.iconst 0, 1) := by decide +kernel
theorem dX11_hasWritten_28 : decode cX11_hasWritten 28 = .ok (.ireturn, 1) := by decide +kernel
theorem dX11_off_0 : decode cX11_off 0 = .ok (.aload_n 0, 1) := by decide +kernel
theorem dX11_off_1 : decode cX11_off 1 = .ok (.iconst 0, 1) := by decide +kernel
theorem dX11_off_2 : decode cX11_off 2 = .ok (.putfield 77, 3) := by decide +kernel
theorem dX11_off_5 : decode cX11_off 5 = .ok (.iload_n 1, 1) := by decide +kernel
theorem dX11_off_6 : decode cX11_off 6 = .ok (.ifCond .lt 11, 3) := by decide +kernel
theorem dX11_off_9 : decode cX11_off 9 = .ok (.iload_n 1, 1) := by decide +kernel
theorem dX11_off_10 : decode cX11_off 10 = .ok (.aload_n 0, 1) := by decide +kernel
theorem dX11_off_11 : decode cX11_off 11 = .ok (.getfield 91, 3) := by decide +kernel
theorem dX11_off_14 : decode cX11_off 14 = .ok (.if_icmp .lt 5, 3) := by decide +kernel
theorem dX11_off_17 : decode cX11_off 17 = .ok (.iconst (-1), 1) := by decide +kernel
theorem dX11_off_18 : decode cX11_off 18 = .ok (.ireturn, 1) := by decide +kernel
theorem dX11_off_19 : decode cX11_off 19 = .ok (.aload_n 0, 1) := by decide +kernel
theorem dX11_off_20 : decode cX11_off 20 = .ok (.invokevirtual 177, 3) := by decide +kernel
theorem dX11_off_23 : decode cX11_off 23 = .ok (.ifCond .eq 6, 3) := by decide +kernel
theorem dX11_off_26 : decode cX11_off 26 = .ok (.bipush (-4), 2) := by decide +kernel
theorem dX11_off_28 : decode cX11_off 28 = .ok (.ireturn, 1) := by decide +kernel
theorem dX11_off_29 : decode cX11_off 29 = .ok (.aload_n 0, 1) := by decide +kernel
theorem dX11_off_30 : decode cX11_off 30 = .ok (.getfield 19, 3) := by decide +kernel
theorem dX11_off_33 : decode cX11_off 33 = .ok (.iload_n 1, 1) := by decide +kernel
theorem dX11_off_34 : decode cX11_off 34 = .ok (.baload, 1) := by decide +kernel
theorem dX11_off_35 : decode cX11_off 35 = .ok (.ifCond .eq 7, 3) := by decide +kernel
theorem dX11_off_38 : decode cX11_off 38 = .ok (.iconst 0, 1) := by decide +kernel
theorem dX11_off_39 : decode cX11_off 39 = .ok (.goto 4, 3) := by decide +kernel
theorem dX11_off_42 : decode cX11_off 42 = .ok (.iconst 1, 1) := by decide +kernel
theorem dX11_off_43 : decode cX11_off 43 = .ok (.istore_n 2, 1) := by decide +kernel
theorem dX11_off_44 : decode cX11_off 44 = .ok (.aload_n 0, 1) := by decide +kernel
theorem dX11_off_45 : decode cX11_off 45 = .ok (.getfield 19, 3) := by decide +kernel
theorem dX11_off_48 : decode cX11_off 48 = .ok (.iload_n 1, 1) := by decide +kernel
theorem dX11_off_49 : decode cX11_off 49 = .ok (.iconst 1, 1) := by decide +kernel
theorem dX11_off_50 : decode cX11_off 50 = .ok (.bastore, 1) := by decide +kernel
theorem dX11_off_51 : decode cX11_off 51 = .ok (.iload_n 2, 1) := by decide +kernel
theorem dX11_off_52 : decode cX11_off 52 = .ok (.ireturn, 1) := by decide +kernel
theorem dX11_writeBit_0 : decode cX11_writeBit 0 = .ok (.aload_n 0, 1) := by decide +kernel
theorem dX11_writeBit_1 : decode cX11_writeBit 1 = .ok (.iconst 0, 1) := by decide +kernel
theorem dX11_writeBit_2 : decode cX11_writeBit 2 = .ok (.invokevirtual 181, 3) := by decide +kernel
theorem dX11_writeBit_5 : decode cX11_writeBit 5 = .ok (.aload_n 0, 1) := by decide +kernel
theorem dX11_writeBit_6 : decode cX11_writeBit 6 = .ok (.getfield 53, 3) := by decide +kernel
theorem dX11_writeBit_9 : decode cX11_writeBit 9 = .ok (.iconst 0, 1) := by decide +kernel
theorem dX11_writeBit_10 : decode cX11_writeBit 10 = .ok (.laload, 1) := by decide +kernel
theorem dX11_writeBit_11 : decode cX11_writeBit 11 = .ok (.aload_n 0, 1) := by decide +kernel
theorem dX11_writeBit_12 : decode cX11_writeBit 12 = .ok (.getfield 57, 3) := by decide +kernel
theorem dX11_writeBit_15 : decode cX11_writeBit 15 = .ok (.iconst 0, 1) := by decide +kernel
theorem dX11_writeBit_16 : decode cX11_writeBit 16 = .ok (.laload, 1) := by decide +kernel
theorem dX11_writeBit_17 : decode cX11_writeBit 17 = .ok (.aload_n 0, 1) := by decide +kernel
theorem dX11_writeBit_18 : decode cX11_writeBit 18 = .ok (.getfield 53, 3) := by decide +kernel
theorem dX11_writeBit_21 : decode cX11_writeBit 21 = .ok (.iconst 0, 1) := by decide +kernel
theorem dX11_writeBit_22 : decode cX11_writeBit 22 = .ok (.laload, 1) := by decide +kernel
theorem dX11_writeBit_23 : decode cX11_writeBit 23 = .ok (.lsub, 1) := by decide +kernel
theorem dX11_writeBit_24 : decode cX11_writeBit 24 = .ok (.ldc2_w 184, 3) := by decide +kernel
theorem dX11_writeBit_27 : decode cX11_writeBit 27 = .ok (.ldiv, 1) := by decide +kernel
theorem dX11_writeBit_28 : decode cX11_writeBit 28 = .ok (.aload_n 0, 1) := by decide +kernel
theorem dX11_writeBit_29 : decode cX11_writeBit 29 = .ok (.getfield 170, 3) := by decide +kernel
theorem dX11_writeBit_32 : decode cX11_writeBit 32 = .ok (.i2l, 1) := by decide +kernel
theorem dX11_writeBit_33 : decode cX11_writeBit 33 = .ok (.lmul, 1) := by decide +kernel
theorem dX11_writeBit_34 : decode cX11_writeBit 34 = .ok (.ladd, 1) := by decide +kernel
theorem dX11_writeBit_35 : decode cX11_writeBit 35 = .ok (.lstore_n 2, 1) := by decide +kernel
theorem dX11_writeBit_36 : decode cX11_writeBit 36 = .ok (.iload_n 1, 1) := by decide +kernel
theorem dX11_writeBit_37 : decode cX11_writeBit 37 = .ok (.iconst 1, 1) := by decide +kernel
theorem dX11_writeBit_38 : decode cX11_writeBit 38 = .ok (.if_icmp .ne 13, 3) := by decide +kernel
theorem dX11_writeBit_41 : decode cX11_writeBit 41 = .ok (.aload_n 0, 1) := by decide +kernel
theorem dX11_writeBit_42 : decode cX11_writeBit 42 = .ok (.getfield 57, 3) := by decide +kernel
theorem dX11_writeBit_45 : decode cX11_writeBit 45 = .ok (.iconst 0, 1) := by decide +kernel
theorem dX11_writeBit_46 : decode cX11_writeBit 46 = .ok (.lload_n 2, 1) := by decide +kernel
theorem dX11_writeBit_47 : decode cX11_writeBit 47 = .ok (.lastore, 1) := by decide +kernel
theorem dX11_writeBit_48 : decode cX11_writeBit 48 = .ok (.goto 12, 3) := by decide +kernel
theorem dX11_writeBit_51 : decode cX11_writeBit 51 = .ok (.aload_n 0, 1) := by decide +kernel
theorem dX11_writeBit_52 : decode cX11_writeBit 52 = .ok (.getfield 53, 3) := by decide +kernel
theorem dX11_writeBit_55 : decode cX11_writeBit 55 = .ok (.iconst 0, 1) := by decide +kernel
theorem dX11_writeBit_56 : decode cX11_writeBit 56 = .ok (.lload_n 2, 1) := by decide +kernel
theorem dX11_writeBit_57 : decode cX11_writeBit 57 = .ok (.lconst 1, 1) := by decide +kernel
theorem dX11_writeBit_58 : decode cX11_writeBit 58 = .ok (.ladd, 1) := by decide +kernel
theorem dX11_writeBit_59 : decode cX11_writeBit 59 = .ok (.lastore, 1) := by decide +kernel
theorem dX11_writeBit_60 : decode cX11_writeBit 60 = .ok (.aload_n 0, 1) := by decide +kernel
theorem dX11_writeBit_61 : decode cX11_writeBit 61 = .ok (.getfield 53, 3) := by decide +kernel
theorem dX11_writeBit_64 : decode cX11_writeBit 64 = .ok (.iconst 0, 1) := by decide +kernel
theorem dX11_writeBit_65 : decode cX11_writeBit 65 = .ok (.laload, 1) := by decide +kernel
theorem dX11_writeBit_66 : decode cX11_writeBit 66 = .ok (.bipush 24, 2) := by decide +kernel
theorem dX11_writeBit_68 : decode cX11_writeBit 68 = .ok (.lshr, 1) := by decide +kernel
theorem dX11_writeBit_69 : decode cX11_writeBit 69 = .ok (.aload_n 0, 1) := by decide +kernel
theorem dX11_writeBit_70 : decode cX11_writeBit 70 = .ok (.getfield 57, 3) := by decide +kernel
theorem dX11_writeBit_73 : decode cX11_writeBit 73 = .ok (.iconst 0, 1) := by decide +kernel
theorem dX11_writeBit_74 : decode cX11_writeBit 74 = .ok (.laload, 1) := by decide +kernel
theorem dX11_writeBit_75 : decode cX11_writeBit 75 = .ok (.bipush 24, 2) := by decide +kernel
theorem dX11_writeBit_77 : decode cX11_writeBit 77 = .ok (.lshr, 1) := by decide +kernel
theorem dX11_writeBit_78 : decode cX11_writeBit 78 = .ok (.lcmp, 1) := by decide +kernel
theorem dX11_writeBit_79 : decode cX11_writeBit 79 = .ok (.ifCond .ne 77, 3) := by decide +kernel
theorem dX11_writeBit_82 : decode cX11_writeBit 82 = .ok (.aload_n 0, 1) := by decide +kernel
theorem dX11_writeBit_83 : decode cX11_writeBit 83 = .ok (.getfield 60, 3) := by decide +kernel
theorem dX11_writeBit_86 : decode cX11_writeBit 86 = .ok (.aload_n 0, 1) := by decide +kernel
theorem dX11_writeBit_87 : decode cX11_writeBit 87 = .ok (.getfield 104, 3) := by decide +kernel
theorem dX11_writeBit_90 : decode cX11_writeBit 90 = .ok (.aload_n 0, 1) := by decide +kernel
theorem dX11_writeBit_91 : decode cX11_writeBit 91 = .ok (.getfield 57, 3) := by decide +kernel
theorem dX11_writeBit_94 : decode cX11_writeBit 94 = .ok (.iconst 0, 1) := by decide +kernel
theorem dX11_writeBit_95 : decode cX11_writeBit 95 = .ok (.laload, 1) := by decide +kernel
theorem dX11_writeBit_96 : decode cX11_writeBit 96 = .ok (.bipush 24, 2) := by decide +kernel
theorem dX11_writeBit_98 : decode cX11_writeBit 98 = .ok (.lshr, 1) := by decide +kernel
theorem dX11_writeBit_99 : decode cX11_writeBit 99 = .ok (.l2i, 1) := by decide +kernel
theorem dX11_writeBit_100 : decode cX11_writeBit 100 = .ok (.iastore, 1) := by decide +kernel
theorem dX11_writeBit_101 : decode cX11_writeBit 101 = .ok (.aload_n 0, 1) := by decide +kernel
theorem dX11_writeBit_102 : decode cX11_writeBit 102 = .ok (.dup, 1) := by decide +kernel
theorem dX11_writeBit_103 : decode cX11_writeBit 103 = .ok (.getfield 104, 3) := by decide +kernel
theorem dX11_writeBit_106 : decode cX11_writeBit 106 = .ok (.iconst 1, 1) := by decide +kernel
theorem dX11_writeBit_107 : decode cX11_writeBit 107 = .ok (.iadd, 1) := by decide +kernel
theorem dX11_writeBit_108 : decode cX11_writeBit 108 = .ok (.putfield 104, 3) := by decide +kernel
theorem dX11_writeBit_111 : decode cX11_writeBit 111 = .ok (.aload_n 0, 1) := by decide +kernel
theorem dX11_writeBit_112 : decode cX11_writeBit 112 = .ok (.getfield 53, 3) := by decide +kernel
theorem dX11_writeBit_115 : decode cX11_writeBit 115 = .ok (.iconst 0, 1) := by decide +kernel
theorem dX11_writeBit_116 : decode cX11_writeBit 116 = .ok (.aload_n 0, 1) := by decide +kernel
theorem dX11_writeBit_117 : decode cX11_writeBit 117 = .ok (.getfield 53, 3) := by decide +kernel
theorem dX11_writeBit_120 : decode cX11_writeBit 120 = .ok (.iconst 0, 1) := by decide +kernel
theorem dX11_writeBit_121 : decode cX11_writeBit 121 = .ok (.laload, 1) := by decide +kernel
theorem dX11_writeBit_122 : decode cX11_writeBit 122 = .ok (.bipush 8, 2) := by decide +kernel
theorem dX11_writeBit_124 : decode cX11_writeBit 124 = .ok (.lshl, 1) := by decide +kernel
theorem dX11_writeBit_125 : decode cX11_writeBit 125 = .ok (.ldc2_w 94, 3) := by decide +kernel
theorem dX11_writeBit_128 : decode cX11_writeBit 128 = .ok (.land, 1) := by decide +kernel
theorem dX11_writeBit_129 : decode cX11_writeBit 129 = .ok (.lastore, 1) := by decide +kernel
theorem dX11_writeBit_130 : decode cX11_writeBit 130 = .ok (.aload_n 0, 1) := by decide +kernel
theorem dX11_writeBit_131 : decode cX11_writeBit 131 = .ok (.getfield 57, 3) := by decide +kernel
theorem dX11_writeBit_134 : decode cX11_writeBit 134 = .ok (.iconst 0, 1) := by decide +kernel
theorem dX11_writeBit_135 : decode cX11_writeBit 135 = .ok (.aload_n 0, 1) := by decide +kernel
theorem dX11_writeBit_136 : decode cX11_writeBit 136 = .ok (.getfield 57, 3) := by decide +kernel
theorem dX11_writeBit_139 : decode cX11_writeBit 139 = .ok (.iconst 0, 1) := by decide +kernel
theorem dX11_writeBit_140 : decode cX11_writeBit 140 = .ok (.laload, 1) := by decide +kernel
theorem dX11_writeBit_141 : decode cX11_writeBit 141 = .ok (.bipush 8, 2) := by decide +kernel
theorem dX11_writeBit_143 : decode cX11_writeBit 143 = .ok (.lshl, 1) := by decide +kernel
theorem dX11_writeBit_144 : decode cX11_writeBit 144 = .ok (.ldc2_w 94, 3) := by decide +kernel
theorem dX11_writeBit_147 : decode cX11_writeBit 147 = .ok (.land, 1) := by decide +kernel
theorem dX11_writeBit_148 : decode cX11_writeBit 148 = .ok (.ldc2_w 186, 3) := by decide +kernel
theorem dX11_writeBit_151 : decode cX11_writeBit 151 = .ok (.lor, 1) := by decide +kernel
theorem dX11_writeBit_152 : decode cX11_writeBit 152 = .ok (.lastore, 1) := by decide +kernel
theorem dX11_writeBit_153 : decode cX11_writeBit 153 = .ok (.goto (-93), 3) := by decide +kernel
theorem dX11_writeBit_156 : decode cX11_writeBit 156 = .ok (.aload_n 0, 1) := by decide +kernel
theorem dX11_writeBit_157 : decode cX11_writeBit 157 = .ok (.iconst 0, 1) := by decide +kernel
theorem dX11_writeBit_158 : decode cX11_writeBit 158 = .ok (.iload_n 1, 1) := by decide +kernel
theorem dX11_writeBit_159 : decode cX11_writeBit 159 = .ok (.invokevirtual 188, 3) := by decide +kernel
theorem dX11_writeBit_162 : decode cX11_writeBit 162 = .ok (.aload_n 0, 1) := by decide +kernel
theorem dX11_writeBit_163 : decode cX11_writeBit 163 = .ok (.aload_n 0, 1) := by decide +kernel
theorem dX11_writeBit_164 : decode cX11_writeBit 164 = .ok (.getfield 107, 3) := by decide +kernel
theorem dX11_writeBit_167 : decode cX11_writeBit 167 = .ok (.iconst 1, 1) := by decide +kernel
theorem dX11_writeBit_168 : decode cX11_writeBit 168 = .ok (.iadd, 1) := by decide +kernel
theorem dX11_writeBit_169 : decode cX11_writeBit 169 = .ok (.bipush 8, 2) := by decide +kernel
theorem dX11_writeBit_171 : decode cX11_writeBit 171 = .ok (.irem, 1) := by decide +kernel
theorem dX11_writeBit_172 : decode cX11_writeBit 172 = .ok (.putfield 107, 3) := by decide +kernel
theorem dX11_writeBit_175 : decode cX11_writeBit 175 = .ok (.return_, 1) := by decide +kernel
theorem dX11_isFull_0 : decode cX11_isFull 0 = .ok (.aload_n 0, 1) := by decide +kernel
theorem dX11_isFull_1 : decode cX11_isFull 1 = .ok (.getfield 26, 3) := by decide +kernel
theorem dX11_isFull_4 : decode cX11_isFull 4 = .ok (.iconst 0, 1) := by decide +kernel
theorem dX11_isFull_5 : decode cX11_isFull 5 = .ok (.iaload, 1) := by decide +kernel
theorem dX11_isFull_6 : decode cX11_isFull 6 = .ok (.sipush 2000, 3) := by decide +kernel
theorem dX11_isFull_9 : decode cX11_isFull 9 = .ok (.if_icmp .eq 13, 3) := by decide +kernel
theorem dX11_isFull_12 : decode cX11_isFull 12 = .ok (.aload_n 0, 1) := by decide +kernel
theorem dX11_isFull_13 : decode cX11_isFull 13 = .ok (.getfield 104, 3) := by decide +kernel
theorem dX11_isFull_16 : decode cX11_isFull 16 = .ok (.sipush 2992, 3) := by decide +kernel
theorem dX11_isFull_19 : decode cX11_isFull 19 = .ok (.if_icmp .le 7, 3) := by decide +kernel
theorem dX11_isFull_22 : decode cX11_isFull 22 = .ok (.iconst 1, 1) := by decide +kernel
theorem dX11_isFull_23 : decode cX11_isFull 23 = .ok (.goto 4, 3) := by decide +kernel
theorem dX11_isFull_26 : decode cX11_isFull 26 = .ok (.iconst 0, 1) := by decide +kernel
theorem dX11_isFull_27 : decode cX11_isFull 27 = .ok (.ireturn, 1) := by decide +kernel
theorem dX11_bit_0 : decode cX11_bit 0 = .ok (.aload_n 0, 1) := by decide +kernel
theorem dX11_bit_1 : decode cX11_bit 1 = .ok (.iconst 0, 1) := by decide +kernel
theorem dX11_bit_2 : decode cX11_bit 2 = .ok (.putfield 77, 3) := by decide +kernel
theorem dX11_bit_5 : decode cX11_bit 5 = .ok (.aload_n 0, 1) := by decide +kernel
theorem dX11_bit_6 : decode cX11_bit 6 = .ok (.getfield 110, 3) := by decide +kernel
theorem dX11_bit_9 : decode cX11_bit 9 = .ok (.ifCond .eq 6, 3) := by decide +kernel
theorem dX11_bit_12 : decode cX11_bit 12 = .ok (.bipush (-4), 2) := by decide +kernel
theorem dX11_bit_14 : decode cX11_bit 14 = .ok (.ireturn, 1) := by decide +kernel
theorem dX11_bit_15 : decode cX11_bit 15 = .ok (.aload_n 0, 1) := by decide +kernel
theorem dX11_bit_16 : decode cX11_bit 16 = .ok (.invokevirtual 192, 3) := by decide +kernel
theorem dX11_bit_19 : decode cX11_bit 19 = .ok (.ifCond .eq 6, 3) := by decide +kernel
theorem dX11_bit_22 : decode cX11_bit 22 = .ok (.bipush (-3), 2) := by decide +kernel
theorem dX11_bit_24 : decode cX11_bit 24 = .ok (.ireturn, 1) := by decide +kernel
theorem dX11_bit_25 : decode cX11_bit 25 = .ok (.aload_n 0, 1) := by decide +kernel
theorem dX11_bit_26 : decode cX11_bit 26 = .ok (.iload_n 1, 1) := by decide +kernel
theorem dX11_bit_27 : decode cX11_bit 27 = .ok (.ifCond .eq 7, 3) := by decide +kernel
theorem dX11_bit_30 : decode cX11_bit 30 = .ok (.iconst 1, 1) := by decide +kernel
theorem dX11_bit_31 : decode cX11_bit 31 = .ok (.goto 4, 3) := by decide +kernel
theorem dX11_bit_34 : decode cX11_bit 34 = .ok (.iconst 0, 1) := by decide +kernel
theorem dX11_bit_35 : decode cX11_bit 35 = .ok (.invokevirtual 195, 3) := by decide +kernel
theorem dX11_bit_38 : decode cX11_bit 38 = .ok (.aload_n 0, 1) := by decide +kernel
theorem dX11_bit_39 : decode cX11_bit 39 = .ok (.getfield 104, 3) := by decide +kernel
theorem dX11_bit_42 : decode cX11_bit 42 = .ok (.ireturn, 1) := by decide +kernel
theorem dX11_octet_0 : decode cX11_octet 0 = .ok (.aload_n 0, 1) := by decide +kernel
theorem dX11_octet_1 : decode cX11_octet 1 = .ok (.iconst 0, 1) := by decide +kernel
theorem dX11_octet_2 : decode cX11_octet 2 = .ok (.putfield 77, 3) := by decide +kernel
theorem dX11_octet_5 : decode cX11_octet 5 = .ok (.aload_n 0, 1) := by decide +kernel
theorem dX11_octet_6 : decode cX11_octet 6 = .ok (.getfield 110, 3) := by decide +kernel
theorem dX11_octet_9 : decode cX11_octet 9 = .ok (.ifCond .ne 10, 3) := by decide +kernel
theorem dX11_octet_12 : decode cX11_octet 12 = .ok (.aload_n 0, 1) := by decide +kernel
theorem dX11_octet_13 : decode cX11_octet 13 = .ok (.getfield 107, 3) := by decide +kernel
theorem dX11_octet_16 : decode cX11_octet 16 = .ok (.ifCond .le 6, 3) := by decide +kernel
theorem dX11_octet_19 : decode cX11_octet 19 = .ok (.bipush (-4), 2) := by decide +kernel
theorem dX11_octet_21 : decode cX11_octet 21 = .ok (.ireturn, 1) := by decide +kernel
theorem dX11_octet_22 : decode cX11_octet 22 = .ok (.aload_n 0, 1) := by decide +kernel
theorem dX11_octet_23 : decode cX11_octet 23 = .ok (.invokevirtual 192, 3) := by decide +kernel
theorem dX11_octet_26 : decode cX11_octet 26 = .ok (.ifCond .eq 6, 3) := by decide +kernel
theorem dX11_octet_29 : decode cX11_octet 29 = .ok (.bipush (-3), 2) := by decide +kernel
theorem dX11_octet_31 : decode cX11_octet 31 = .ok (.ireturn, 1) := by decide +kernel
theorem dX11_octet_32 : decode cX11_octet 32 = .ok (.bipush 7, 2) := by decide +kernel
theorem dX11_octet_34 : decode cX11_octet 34 = .ok (.istore_n 2, 1) := by decide +kernel
theorem dX11_octet_35 : decode cX11_octet 35 = .ok (.iload_n 2, 1) := by decide +kernel
theorem dX11_octet_36 : decode cX11_octet 36 = .ok (.ifCond .lt 18, 3) := by decide +kernel
theorem dX11_octet_39 : decode cX11_octet 39 = .ok (.aload_n 0, 1) := by decide +kernel
theorem dX11_octet_40 : decode cX11_octet 40 = .ok (.iload_n 1, 1) := by decide +kernel
theorem dX11_octet_41 : decode cX11_octet 41 = .ok (.iload_n 2, 1) := by decide +kernel
theorem dX11_octet_42 : decode cX11_octet 42 = .ok (.ishr, 1) := by decide +kernel
theorem dX11_octet_43 : decode cX11_octet 43 = .ok (.iconst 1, 1) := by decide +kernel
theorem dX11_octet_44 : decode cX11_octet 44 = .ok (.iand, 1) := by decide +kernel
theorem dX11_octet_45 : decode cX11_octet 45 = .ok (.invokevirtual 195, 3) := by decide +kernel
theorem dX11_octet_48 : decode cX11_octet 48 = .ok (.iinc 2 (-1), 3) := by decide +kernel
theorem dX11_octet_51 : decode cX11_octet 51 = .ok (.goto (-16), 3) := by decide +kernel
theorem dX11_octet_54 : decode cX11_octet 54 = .ok (.aload_n 0, 1) := by decide +kernel
theorem dX11_octet_55 : decode cX11_octet 55 = .ok (.getfield 104, 3) := by decide +kernel
theorem dX11_octet_58 : decode cX11_octet 58 = .ok (.ireturn, 1) := by decide +kernel
theorem dX11_end_0 : decode cX11_end 0 = .ok (.aload_n 0, 1) := by decide +kernel
theorem dX11_end_1 : decode cX11_end 1 = .ok (.iconst 0, 1) := by decide +kernel
theorem dX11_end_2 : decode cX11_end 2 = .ok (.putfield 77, 3) := by decide +kernel
theorem dX11_end_5 : decode cX11_end 5 = .ok (.aload_n 0, 1) := by decide +kernel
theorem dX11_end_6 : decode cX11_end 6 = .ok (.getfield 110, 3) := by decide +kernel
theorem dX11_end_9 : decode cX11_end 9 = .ok (.ifCond .eq 6, 3) := by decide +kernel
theorem dX11_end_12 : decode cX11_end 12 = .ok (.bipush (-4), 2) := by decide +kernel
theorem dX11_end_14 : decode cX11_end 14 = .ok (.ireturn, 1) := by decide +kernel
theorem dX11_end_15 : decode cX11_end 15 = .ok (.bipush 24, 2) := by decide +kernel
theorem dX11_end_17 : decode cX11_end 17 = .ok (.istore_n 1, 1) := by decide +kernel
theorem dX11_end_18 : decode cX11_end 18 = .ok (.iload_n 1, 1) := by decide +kernel
theorem dX11_end_19 : decode cX11_end 19 = .ok (.ifCond .lt 41, 3) := by decide +kernel
theorem dX11_end_22 : decode cX11_end 22 = .ok (.aload_n 0, 1) := by decide +kernel
theorem dX11_end_23 : decode cX11_end 23 = .ok (.getfield 60, 3) := by decide +kernel
theorem dX11_end_26 : decode cX11_end 26 = .ok (.aload_n 0, 1) := by decide +kernel
theorem dX11_end_27 : decode cX11_end 27 = .ok (.getfield 104, 3) := by decide +kernel
theorem dX11_end_30 : decode cX11_end 30 = .ok (.aload_n 0, 1) := by decide +kernel
theorem dX11_end_31 : decode cX11_end 31 = .ok (.getfield 53, 3) := by decide +kernel
theorem dX11_end_34 : decode cX11_end 34 = .ok (.iconst 0, 1) := by decide +kernel
theorem dX11_end_35 : decode cX11_end 35 = .ok (.laload, 1) := by decide +kernel
theorem dX11_end_36 : decode cX11_end 36 = .ok (.iload_n 1, 1) := by decide +kernel
theorem dX11_end_37 : decode cX11_end 37 = .ok (.lshr, 1) := by decide +kernel
theorem dX11_end_38 : decode cX11_end 38 = .ok (.l2i, 1) := by decide +kernel
theorem dX11_end_39 : decode cX11_end 39 = .ok (.sipush 255, 3) := by decide +kernel
theorem dX11_end_42 : decode cX11_end 42 = .ok (.iand, 1) := by decide +kernel
theorem dX11_end_43 : decode cX11_end 43 = .ok (.iastore, 1) := by decide +kernel
theorem dX11_end_44 : decode cX11_end 44 = .ok (.aload_n 0, 1) := by decide +kernel
theorem dX11_end_45 : decode cX11_end 45 = .ok (.dup, 1) := by decide +kernel
theorem dX11_end_46 : decode cX11_end 46 = .ok (.getfield 104, 3) := by decide +kernel
theorem dX11_end_49 : decode cX11_end 49 = .ok (.iconst 1, 1) := by decide +kernel
theorem dX11_end_50 : decode cX11_end 50 = .ok (.iadd, 1) := by decide +kernel
theorem dX11_end_51 : decode cX11_end 51 = .ok (.putfield 104, 3) := by decide +kernel
theorem dX11_end_54 : decode cX11_end 54 = .ok (.iinc 1 (-8), 3) := by decide +kernel
theorem dX11_end_57 : decode cX11_end 57 = .ok (.goto (-39), 3) := by decide +kernel
theorem dX11_end_60 : decode cX11_end 60 = .ok (.aload_n 0, 1) := by decide +kernel
theorem dX11_end_61 : decode cX11_end 61 = .ok (.iconst 1, 1) := by decide +kernel
theorem dX11_end_62 : decode cX11_end 62 = .ok (.putfield 110, 3) := by decide +kernel
theorem dX11_end_65 : decode cX11_end 65 = .ok (.aload_n 0, 1) := by decide +kernel
theorem dX11_end_66 : decode cX11_end 66 = .ok (.invokevirtual 198, 3) := by decide +kernel
theorem dX11_end_69 : decode cX11_end 69 = .ok (.aload_n 0, 1) := by decide +kernel
theorem dX11_end_70 : decode cX11_end 70 = .ok (.getfield 104, 3) := by decide +kernel
theorem dX11_end_73 : decode cX11_end 73 = .ok (.ireturn, 1) := by decide +kernel
theorem dX11_nextOut_0 : decode cX11_nextOut 0 = .ok (.aload_n 0, 1) := by decide +kernel
theorem dX11_nextOut_1 : decode cX11_nextOut 1 = .ok (.getfield 114, 3) := by decide +kernel
theorem dX11_nextOut_4 : decode cX11_nextOut 4 = .ok (.aload_n 0, 1) := by decide +kernel
theorem dX11_nextOut_5 : decode cX11_nextOut 5 = .ok (.getfield 104, 3) := by decide +kernel
theorem dX11_nextOut_8 : decode cX11_nextOut 8 = .ok (.if_icmp .ge 15, 3) := by decide +kernel
theorem dX11_nextOut_11 : decode cX11_nextOut 11 = .ok (.aload_n 0, 1) := by decide +kernel
theorem dX11_nextOut_12 : decode cX11_nextOut 12 = .ok (.getfield 60, 3) := by decide +kernel
theorem dX11_nextOut_15 : decode cX11_nextOut 15 = .ok (.aload_n 0, 1) := by decide +kernel
theorem dX11_nextOut_16 : decode cX11_nextOut 16 = .ok (.getfield 114, 3) := by decide +kernel
theorem dX11_nextOut_19 : decode cX11_nextOut 19 = .ok (.iaload, 1) := by decide +kernel
theorem dX11_nextOut_20 : decode cX11_nextOut 20 = .ok (.goto 4, 3) := by decide +kernel
theorem dX11_nextOut_23 : decode cX11_nextOut 23 = .ok (.iconst 0, 1) := by decide +kernel
theorem dX11_nextOut_24 : decode cX11_nextOut 24 = .ok (.istore_n 1, 1) := by decide +kernel
theorem dX11_nextOut_25 : decode cX11_nextOut 25 = .ok (.aload_n 0, 1) := by decide +kernel
theorem dX11_nextOut_26 : decode cX11_nextOut 26 = .ok (.dup, 1) := by decide +kernel
theorem dX11_nextOut_27 : decode cX11_nextOut 27 = .ok (.getfield 114, 3) := by decide +kernel
theorem dX11_nextOut_30 : decode cX11_nextOut 30 = .ok (.iconst 1, 1) := by decide +kernel
theorem dX11_nextOut_31 : decode cX11_nextOut 31 = .ok (.iadd, 1) := by decide +kernel
theorem dX11_nextOut_32 : decode cX11_nextOut 32 = .ok (.putfield 114, 3) := by decide +kernel
theorem dX11_nextOut_35 : decode cX11_nextOut 35 = .ok (.iload_n 1, 1) := by decide +kernel
theorem dX11_nextOut_36 : decode cX11_nextOut 36 = .ok (.ireturn, 1) := by decide +kernel
theorem dX11_loadX_0 : decode cX11_loadX 0 = .ok (.aload_n 0, 1) := by decide +kernel
theorem dX11_loadX_1 : decode cX11_loadX 1 = .ok (.iconst 0, 1) := by decide +kernel
theorem dX11_loadX_2 : decode cX11_loadX 2 = .ok (.putfield 114, 3) := by decide +kernel
theorem dX11_loadX_5 : decode cX11_loadX 5 = .ok (.aload_n 0, 1) := by decide +kernel
theorem dX11_loadX_6 : decode cX11_loadX 6 = .ok (.lconst 0, 1) := by decide +kernel
theorem dX11_loadX_7 : decode cX11_loadX 7 = .ok (.putfield 201, 3) := by decide +kernel
theorem dX11_loadX_10 : decode cX11_loadX 10 = .ok (.iconst 0, 1) := by decide +kernel
theorem dX11_loadX_11 : decode cX11_loadX 11 = .ok (.istore_n 1, 1) := by decide +kernel
theorem dX11_loadX_12 : decode cX11_loadX 12 = .ok (.iload_n 1, 1) := by decide +kernel
theorem dX11_loadX_13 : decode cX11_loadX 13 = .ok (.iconst 4, 1) := by decide +kernel
theorem dX11_loadX_14 : decode cX11_loadX 14 = .ok (.if_icmp .ge 26, 3) := by decide +kernel
theorem dX11_loadX_17 : decode cX11_loadX 17 = .ok (.aload_n 0, 1) := by decide +kernel
theorem dX11_loadX_18 : decode cX11_loadX 18 = .ok (.aload_n 0, 1) := by decide +kernel
theorem dX11_loadX_19 : decode cX11_loadX 19 = .ok (.getfield 201, 3) := by decide +kernel
theorem dX11_loadX_22 : decode cX11_loadX 22 = .ok (.bipush 8, 2) := by decide +kernel
theorem dX11_loadX_24 : decode cX11_loadX 24 = .ok (.lshl, 1) := by decide +kernel
theorem dX11_loadX_25 : decode cX11_loadX 25 = .ok (.aload_n 0, 1) := by decide +kernel
theorem dX11_loadX_26 : decode cX11_loadX 26 = .ok (.invokevirtual 205, 3) := by decide +kernel
theorem dX11_loadX_29 : decode cX11_loadX 29 = .ok (.i2l, 1) := by decide +kernel
theorem dX11_loadX_30 : decode cX11_loadX 30 = .ok (.lor, 1) := by decide +kernel
theorem dX11_loadX_31 : decode cX11_loadX 31 = .ok (.putfield 201, 3) := by decide +kernel
theorem dX11_loadX_34 : decode cX11_loadX 34 = .ok (.iinc 1 1, 3) := by decide +kernel
theorem dX11_loadX_37 : decode cX11_loadX 37 = .ok (.goto (-25), 3) := by decide +kernel
theorem dX11_loadX_40 : decode cX11_loadX 40 = .ok (.return_, 1) := by decide +kernel
theorem dX11_get_0 : decode cX11_get 0 = .ok (.aload_n 0, 1) := by decide +kernel
theorem dX11_get_1 : decode cX11_get 1 = .ok (.iconst 0, 1) := by decide +kernel
theorem dX11_get_2 : decode cX11_get 2 = .ok (.putfield 77, 3) := by decide +kernel
theorem dX11_get_5 : decode cX11_get 5 = .ok (.aload_n 0, 1) := by decide +kernel
theorem dX11_get_6 : decode cX11_get 6 = .ok (.getfield 110, 3) := by decide +kernel
theorem dX11_get_9 : decode cX11_get 9 = .ok (.ifCond .ne 6, 3) := by decide +kernel
theorem dX11_get_12 : decode cX11_get 12 = .ok (.bipush (-4), 2) := by decide +kernel
theorem dX11_get_14 : decode cX11_get 14 = .ok (.ireturn, 1) := by decide +kernel
theorem dX11_get_15 : decode cX11_get 15 = .ok (.aload_n 0, 1) := by decide +kernel
theorem dX11_get_16 : decode cX11_get 16 = .ok (.getfield 26, 3) := by decide +kernel
theorem dX11_get_19 : decode cX11_get 19 = .ok (.iconst 1, 1) := by decide +kernel
theorem dX11_get_20 : decode cX11_get 20 = .ok (.iaload, 1) := by decide +kernel
theorem dX11_get_21 : decode cX11_get 21 = .ok (.aload_n 0, 1) := by decide +kernel
theorem dX11_get_22 : decode cX11_get 22 = .ok (.getfield 26, 3) := by decide +kernel
theorem dX11_get_25 : decode cX11_get 25 = .ok (.iconst 0, 1) := by decide +kernel
theorem dX11_get_26 : decode cX11_get 26 = .ok (.iaload, 1) := by decide +kernel
theorem dX11_get_27 : decode cX11_get 27 = .ok (.if_icmp .lt 6, 3) := by decide +kernel
theorem dX11_get_30 : decode cX11_get 30 = .ok (.bipush (-2), 2) := by decide +kernel
theorem dX11_get_32 : decode cX11_get 32 = .ok (.ireturn, 1) := by decide +kernel
theorem dX11_get_33 : decode cX11_get 33 = .ok (.iconst 0, 1) := by decide +kernel
theorem dX11_get_34 : decode cX11_get 34 = .ok (.istore_n 1, 1) := by decide +kernel
theorem dX11_get_35 : decode cX11_get 35 = .ok (.iload_n 1, 1) := by decide +kernel
theorem dX11_get_36 : decode cX11_get 36 = .ok (.bipush 8, 2) := by decide +kernel
theorem dX11_get_38 : decode cX11_get 38 = .ok (.if_icmp .ge 181, 3) := by decide +kernel
theorem dX11_get_41 : decode cX11_get 41 = .ok (.aload_n 0, 1) := by decide +kernel
theorem dX11_get_42 : decode cX11_get 42 = .ok (.iconst 1, 1) := by decide +kernel
theorem dX11_get_43 : decode cX11_get 43 = .ok (.invokevirtual 181, 3) := by decide +kernel
theorem dX11_get_46 : decode cX11_get 46 = .ok (.aload_n 0, 1) := by decide +kernel
theorem dX11_get_47 : decode cX11_get 47 = .ok (.getfield 53, 3) := by decide +kernel
theorem dX11_get_50 : decode cX11_get 50 = .ok (.iconst 1, 1) := by decide +kernel
theorem dX11_get_51 : decode cX11_get 51 = .ok (.laload, 1) := by decide +kernel
theorem dX11_get_52 : decode cX11_get 52 = .ok (.aload_n 0, 1) := by decide +kernel
theorem dX11_get_53 : decode cX11_get 53 = .ok (.getfield 57, 3) := by decide +kernel
theorem dX11_get_56 : decode cX11_get 56 = .ok (.iconst 1, 1) := by decide +kernel
theorem dX11_get_57 : decode cX11_get 57 = .ok (.laload, 1) := by decide +kernel
theorem dX11_get_58 : decode cX11_get 58 = .ok (.aload_n 0, 1) := by decide +kernel
theorem dX11_get_59 : decode cX11_get 59 = .ok (.getfield 53, 3) := by decide +kernel
theorem dX11_get_62 : decode cX11_get 62 = .ok (.iconst 1, 1) := by decide +kernel
theorem dX11_get_63 : decode cX11_get 63 = .ok (.laload, 1) := by decide +kernel
theorem dX11_get_64 : decode cX11_get 64 = .ok (.lsub, 1) := by decide +kernel
theorem dX11_get_65 : decode cX11_get 65 = .ok (.ldc2_w 184, 3) := by decide +kernel
theorem dX11_get_68 : decode cX11_get 68 = .ok (.ldiv, 1) := by decide +kernel
theorem dX11_get_69 : decode cX11_get 69 = .ok (.aload_n 0, 1) := by decide +kernel
theorem dX11_get_70 : decode cX11_get 70 = .ok (.getfield 170, 3) := by decide +kernel
theorem dX11_get_73 : decode cX11_get 73 = .ok (.i2l, 1) := by decide +kernel
theorem dX11_get_74 : decode cX11_get 74 = .ok (.lmul, 1) := by decide +kernel
theorem dX11_get_75 : decode cX11_get 75 = .ok (.ladd, 1) := by decide +kernel
theorem dX11_get_76 : decode cX11_get 76 = .ok (.lstore_n 2, 1) := by decide +kernel
theorem dX11_get_77 : decode cX11_get 77 = .ok (.aload_n 0, 1) := by decide +kernel
theorem dX11_get_78 : decode cX11_get 78 = .ok (.getfield 201, 3) := by decide +kernel
theorem dX11_get_81 : decode cX11_get 81 = .ok (.lload_n 2, 1) := by decide +kernel
theorem dX11_get_82 : decode cX11_get 82 = .ok (.lcmp, 1) := by decide +kernel
theorem dX11_get_83 : decode cX11_get 83 = .ok (.ifCond .gt 7, 3) := by decide +kernel
theorem dX11_get_86 : decode cX11_get 86 = .ok (.iconst 1, 1) := by decide +kernel
theorem dX11_get_87 : decode cX11_get 87 = .ok (.goto 4, 3) := by decide +kernel
theorem dX11_get_90 : decode cX11_get 90 = .ok (.iconst 0, 1) := by decide +kernel
theorem dX11_get_91 : decode cX11_get 91 = .ok (.istore 4, 2) := by decide +kernel
theorem dX11_get_93 : decode cX11_get 93 = .ok (.iload 4, 2) := by decide +kernel
theorem dX11_get_95 : decode cX11_get 95 = .ok (.iconst 1, 1) := by decide +kernel
theorem dX11_get_96 : decode cX11_get 96 = .ok (.if_icmp .ne 13, 3) := by decide +kernel
theorem dX11_get_99 : decode cX11_get 99 = .ok (.aload_n 0, 1) := by decide +kernel
theorem dX11_get_100 : decode cX11_get 100 = .ok (.getfield 57, 3) := by decide +kernel
theorem dX11_get_103 : decode cX11_get 103 = .ok (.iconst 1, 1) := by decide +kernel
theorem dX11_get_104 : decode cX11_get 104 = .ok (.lload_n 2, 1) := by decide +kernel
theorem dX11_get_105 : decode cX11_get 105 = .ok (.lastore, 1) := by decide +kernel
theorem dX11_get_106 : decode cX11_get 106 = .ok (.goto 12, 3) := by decide +kernel
theorem dX11_get_109 : decode cX11_get 109 = .ok (.aload_n 0, 1) := by decide +kernel
theorem dX11_get_110 : decode cX11_get 110 = .ok (.getfield 53, 3) := by decide +kernel
theorem dX11_get_113 : decode cX11_get 113 = .ok (.iconst 1, 1) := by decide +kernel
theorem dX11_get_114 : decode cX11_get 114 = .ok (.lload_n 2, 1) := by decide +kernel
theorem dX11_get_115 : decode cX11_get 115 = .ok (.lconst 1, 1) := by decide +kernel
theorem dX11_get_116 : decode cX11_get 116 = .ok (.ladd, 1) := by decide +kernel
theorem dX11_get_117 : decode cX11_get 117 = .ok (.lastore, 1) := by decide +kernel
theorem dX11_get_118 : decode cX11_get 118 = .ok (.aload_n 0, 1) := by decide +kernel
theorem dX11_get_119 : decode cX11_get 119 = .ok (.getfield 53, 3) := by decide +kernel
theorem dX11_get_122 : decode cX11_get 122 = .ok (.iconst 1, 1) := by decide +kernel
theorem dX11_get_123 : decode cX11_get 123 = .ok (.laload, 1) := by decide +kernel
theorem dX11_get_124 : decode cX11_get 124 = .ok (.bipush 24, 2) := by decide +kernel
theorem dX11_get_126 : decode cX11_get 126 = .ok (.lshr, 1) := by decide +kernel
theorem dX11_get_127 : decode cX11_get 127 = .ok (.aload_n 0, 1) := by decide +kernel
theorem dX11_get_128 : decode cX11_get 128 = .ok (.getfield 57, 3) := by decide +kernel
theorem dX11_get_131 : decode cX11_get 131 = .ok (.iconst 1, 1) := by decide +kernel
theorem dX11_get_132 : decode cX11_get 132 = .ok (.laload, 1) := by decide +kernel
theorem dX11_get_133 : decode cX11_get 133 = .ok (.bipush 24, 2) := by decide +kernel
theorem dX11_get_135 : decode cX11_get 135 = .ok (.lshr, 1) := by decide +kernel
theorem dX11_get_136 : decode cX11_get 136 = .ok (.lcmp, 1) := by decide +kernel
theorem dX11_get_137 : decode cX11_get 137 = .ok (.ifCond .ne 69, 3) := by decide +kernel
theorem dX11_get_140 : decode cX11_get 140 = .ok (.aload_n 0, 1) := by decide +kernel
theorem dX11_get_141 : decode cX11_get 141 = .ok (.getfield 53, 3) := by decide +kernel
theorem dX11_get_144 : decode cX11_get 144 = .ok (.iconst 1, 1) := by decide +kernel
theorem dX11_get_145 : decode cX11_get 145 = .ok (.aload_n 0, 1) := by decide +kernel
theorem dX11_get_146 : decode cX11_get 146 = .ok (.getfield 53, 3) := by decide +kernel
theorem dX11_get_149 : decode cX11_get 149 = .ok (.iconst 1, 1) := by decide +kernel
theorem dX11_get_150 : decode cX11_get 150 = .ok (.laload, 1) := by decide +kernel
theorem dX11_get_151 : decode cX11_get 151 = .ok (.bipush 8, 2) := by decide +kernel
theorem dX11_get_153 : decode cX11_get 153 = .ok (.lshl, 1) := by decide +kernel
theorem dX11_get_154 : decode cX11_get 154 = .ok (.ldc2_w 94, 3) := by decide +kernel
theorem dX11_get_157 : decode cX11_get 157 = .ok (.land, 1) := by decide +kernel
theorem dX11_get_158 : decode cX11_get 158 = .ok (.lastore, 1) := by decide +kernel
theorem dX11_get_159 : decode cX11_get 159 = .ok (.aload_n 0, 1) := by decide +kernel
theorem dX11_get_160 : decode cX11_get 160 = .ok (.getfield 57, 3) := by decide +kernel
theorem dX11_get_163 : decode cX11_get 163 = .ok (.iconst 1, 1) := by decide +kernel
theorem dX11_get_164 : decode cX11_get 164 = .ok (.aload_n 0, 1) := by decide +kernel
theorem dX11_get_165 : decode cX11_get 165 = .ok (.getfield 57, 3) := by decide +kernel
theorem dX11_get_168 : decode cX11_get 168 = .ok (.iconst 1, 1) := by decide +kernel
theorem dX11_get_169 : decode cX11_get 169 = .ok (.laload, 1) := by decide +kernel
theorem dX11_get_170 : decode cX11_get 170 = .ok (.bipush 8, 2) := by decide +kernel
theorem dX11_get_172 : decode cX11_get 172 = .ok (.lshl, 1) := by decide +kernel
theorem dX11_get_173 : decode cX11_get 173 = .ok (.ldc2_w 94, 3) := by decide +kernel
theorem dX11_get_176 : decode cX11_get 176 = .ok (.land, 1) := by decide +kernel
theorem dX11_get_177 : decode cX11_get 177 = .ok (.ldc2_w 186, 3) := by decide +kernel
theorem dX11_get_180 : decode cX11_get 180 = .ok (.lor, 1) := by decide +kernel
theorem dX11_get_181 : decode cX11_get 181 = .ok (.lastore, 1) := by decide +kernel
theorem dX11_get_182 : decode cX11_get 182 = .ok (.aload_n 0, 1) := by decide +kernel
theorem dX11_get_183 : decode cX11_get 183 = .ok (.aload_n 0, 1) := by decide +kernel
theorem dX11_get_184 : decode cX11_get 184 = .ok (.getfield 201, 3) := by decide +kernel
theorem dX11_get_187 : decode cX11_get 187 = .ok (.bipush 8, 2) := by decide +kernel
theorem dX11_get_189 : decode cX11_get 189 = .ok (.lshl, 1) := by decide +kernel
theorem dX11_get_190 : decode cX11_get 190 = .ok (.ldc2_w 94, 3) := by decide +kernel
theorem dX11_get_193 : decode cX11_get 193 = .ok (.land, 1) := by decide +kernel
theorem dX11_get_194 : decode cX11_get 194 = .ok (.aload_n 0, 1) := by decide +kernel
theorem dX11_get_195 : decode cX11_get 195 = .ok (.invokevirtual 205, 3) := by decide +kernel
theorem dX11_get_198 : decode cX11_get 198 = .ok (.i2l, 1) := by decide +kernel
theorem dX11_get_199 : decode cX11_get 199 = .ok (.lor, 1) := by decide +kernel
theorem dX11_get_200 : decode cX11_get 200 = .ok (.putfield 201, 3) := by decide +kernel
theorem dX11_get_203 : decode cX11_get 203 = .ok (.goto (-85), 3) := by decide +kernel
theorem dX11_get_206 : decode cX11_get 206 = .ok (.aload_n 0, 1) := by decide +kernel
theorem dX11_get_207 : decode cX11_get 207 = .ok (.iconst 1, 1) := by decide +kernel
theorem dX11_get_208 : decode cX11_get 208 = .ok (.iload 4, 2) := by decide +kernel
theorem dX11_get_210 : decode cX11_get 210 = .ok (.invokevirtual 188, 3) := by decide +kernel
theorem dX11_get_213 : decode cX11_get 213 = .ok (.iinc 1 1, 3) := by decide +kernel
theorem dX11_get_216 : decode cX11_get 216 = .ok (.goto (-181), 3) := by decide +kernel
theorem dX11_get_219 : decode cX11_get 219 = .ok (.aload_n 0, 1) := by decide +kernel
theorem dX11_get_220 : decode cX11_get 220 = .ok (.iconst 1, 1) := by decide +kernel
theorem dX11_get_221 : decode cX11_get 221 = .ok (.iconst 1, 1) := by decide +kernel
theorem dX11_get_222 : decode cX11_get 222 = .ok (.invokevirtual 121, 3) := by decide +kernel
theorem dX11_get_225 : decode cX11_get 225 = .ok (.ireturn, 1) := by decide +kernel
theorem dX11_again_0 : decode cX11_again 0 = .ok (.aload_n 0, 1) := by decide +kernel
theorem dX11_again_1 : decode cX11_again 1 = .ok (.iconst 0, 1) := by decide +kernel
theorem dX11_again_2 : decode cX11_again 2 = .ok (.putfield 77, 3) := by decide +kernel
theorem dX11_again_5 : decode cX11_again 5 = .ok (.aload_n 0, 1) := by decide +kernel
theorem dX11_again_6 : decode cX11_again 6 = .ok (.getfield 26, 3) := by decide +kernel
theorem dX11_again_9 : decode cX11_again 9 = .ok (.iconst 1, 1) := by decide +kernel
theorem dX11_again_10 : decode cX11_again 10 = .ok (.iaload, 1) := by decide +kernel
theorem dX11_again_11 : decode cX11_again 11 = .ok (.istore_n 1, 1) := by decide +kernel
theorem dX11_again_12 : decode cX11_again 12 = .ok (.aload_n 0, 1) := by decide +kernel
theorem dX11_again_13 : decode cX11_again 13 = .ok (.iconst 1, 1) := by decide +kernel
theorem dX11_again_14 : decode cX11_again 14 = .ok (.invokevirtual 100, 3) := by decide +kernel
theorem dX11_again_17 : decode cX11_again 17 = .ok (.aload_n 0, 1) := by decide +kernel
theorem dX11_again_18 : decode cX11_again 18 = .ok (.invokevirtual 198, 3) := by decide +kernel
theorem dX11_again_21 : decode cX11_again 21 = .ok (.iload_n 1, 1) := by decide +kernel
theorem dX11_again_22 : decode cX11_again 22 = .ok (.ireturn, 1) := by decide +kernel
theorem dX11_clear_0 : decode cX11_clear 0 = .ok (.aload_n 0, 1) := by decide +kernel
theorem dX11_clear_1 : decode cX11_clear 1 = .ok (.iconst 0, 1) := by decide +kernel
theorem dX11_clear_2 : decode cX11_clear 2 = .ok (.putfield 77, 3) := by decide +kernel
theorem dX11_clear_5 : decode cX11_clear 5 = .ok (.aload_n 0, 1) := by decide +kernel
theorem dX11_clear_6 : decode cX11_clear 6 = .ok (.invokevirtual 74, 3) := by decide +kernel
theorem dX11_clear_9 : decode cX11_clear 9 = .ok (.iconst 1, 1) := by decide +kernel
theorem dX11_clear_10 : decode cX11_clear 10 = .ok (.ireturn, 1) := by decide +kernel
theorem dX11_out_0 : decode cX11_out 0 = .ok (.aload_n 0, 1) := by decide +kernel
theorem dX11_out_1 : decode cX11_out 1 = .ok (.iconst 0, 1) := by decide +kernel
theorem dX11_out_2 : decode cX11_out 2 = .ok (.putfield 77, 3) := by decide +kernel
theorem dX11_out_5 : decode cX11_out 5 = .ok (.iload_n 1, 1) := by decide +kernel
theorem dX11_out_6 : decode cX11_out 6 = .ok (.ifCond .lt 11, 3) := by decide +kernel
theorem dX11_out_9 : decode cX11_out 9 = .ok (.iload_n 1, 1) := by decide +kernel
theorem dX11_out_10 : decode cX11_out 10 = .ok (.aload_n 0, 1) := by decide +kernel
theorem dX11_out_11 : decode cX11_out 11 = .ok (.getfield 104, 3) := by decide +kernel
theorem dX11_out_14 : decode cX11_out 14 = .ok (.if_icmp .lt 7, 3) := by decide +kernel
theorem dX11_out_17 : decode cX11_out 17 = .ok (.iconst (-1), 1) := by decide +kernel
theorem dX11_out_18 : decode cX11_out 18 = .ok (.goto 9, 3) := by decide +kernel
theorem dX11_out_21 : decode cX11_out 21 = .ok (.aload_n 0, 1) := by decide +kernel
theorem dX11_out_22 : decode cX11_out 22 = .ok (.getfield 60, 3) := by decide +kernel
theorem dX11_out_25 : decode cX11_out 25 = .ok (.iload_n 1, 1) := by decide +kernel
theorem dX11_out_26 : decode cX11_out 26 = .ok (.iaload, 1) := by decide +kernel
theorem dX11_out_27 : decode cX11_out 27 = .ok (.ireturn, 1) := by decide +kernel
theorem dX11_spoil_0 : decode cX11_spoil 0 = .ok (.aload_n 0, 1) := by decide +kernel
theorem dX11_spoil_1 : decode cX11_spoil 1 = .ok (.iconst 0, 1) := by decide +kernel
theorem dX11_spoil_2 : decode cX11_spoil 2 = .ok (.putfield 77, 3) := by decide +kernel
theorem dX11_spoil_5 : decode cX11_spoil 5 = .ok (.iload_n 1, 1) := by decide +kernel
theorem dX11_spoil_6 : decode cX11_spoil 6 = .ok (.ifCond .lt 23, 3) := by decide +kernel
theorem dX11_spoil_9 : decode cX11_spoil 9 = .ok (.iload_n 1, 1) := by decide +kernel
theorem dX11_spoil_10 : decode cX11_spoil 10 = .ok (.aload_n 0, 1) := by decide +kernel
theorem dX11_spoil_11 : decode cX11_spoil 11 = .ok (.getfield 104, 3) := by decide +kernel
theorem dX11_spoil_14 : decode cX11_spoil 14 = .ok (.if_icmp .ge 15, 3) := by decide +kernel
theorem dX11_spoil_17 : decode cX11_spoil 17 = .ok (.iload_n 2, 1) := by decide +kernel
theorem dX11_spoil_18 : decode cX11_spoil 18 = .ok (.iconst 1, 1) := by decide +kernel
theorem dX11_spoil_19 : decode cX11_spoil 19 = .ok (.if_icmp .lt 10, 3) := by decide +kernel
theorem dX11_spoil_22 : decode cX11_spoil 22 = .ok (.iload_n 2, 1) := by decide +kernel
theorem dX11_spoil_23 : decode cX11_spoil 23 = .ok (.sipush 255, 3) := by decide +kernel
theorem dX11_spoil_26 : decode cX11_spoil 26 = .ok (.if_icmp .le 5, 3) := by decide +kernel
theorem dX11_spoil_29 : decode cX11_spoil 29 = .ok (.iconst (-1), 1) := by decide +kernel
theorem dX11_spoil_30 : decode cX11_spoil 30 = .ok (.ireturn, 1) := by decide +kernel
theorem dX11_spoil_31 : decode cX11_spoil 31 = .ok (.aload_n 0, 1) := by decide +kernel
theorem dX11_spoil_32 : decode cX11_spoil 32 = .ok (.getfield 60, 3) := by decide +kernel
theorem dX11_spoil_35 : decode cX11_spoil 35 = .ok (.iload_n 1, 1) := by decide +kernel
theorem dX11_spoil_36 : decode cX11_spoil 36 = .ok (.dup2, 1) := by decide +kernel
theorem dX11_spoil_37 : decode cX11_spoil 37 = .ok (.iaload, 1) := by decide +kernel
theorem dX11_spoil_38 : decode cX11_spoil 38 = .ok (.iload_n 2, 1) := by decide +kernel
theorem dX11_spoil_39 : decode cX11_spoil 39 = .ok (.ixor, 1) := by decide +kernel
theorem dX11_spoil_40 : decode cX11_spoil 40 = .ok (.iastore, 1) := by decide +kernel
theorem dX11_spoil_41 : decode cX11_spoil 41 = .ok (.aload_n 0, 1) := by decide +kernel
theorem dX11_spoil_42 : decode cX11_spoil 42 = .ok (.getfield 60, 3) := by decide +kernel
theorem dX11_spoil_45 : decode cX11_spoil 45 = .ok (.iload_n 1, 1) := by decide +kernel
theorem dX11_spoil_46 : decode cX11_spoil 46 = .ok (.iaload, 1) := by decide +kernel
theorem dX11_spoil_47 : decode cX11_spoil 47 = .ok (.ireturn, 1) := by decide +kernel
theorem dX11_isSide_0 : decode cX11_isSide 0 = .ok (.iload_n 0, 1) := by decide +kernel
theorem dX11_isSide_1 : decode cX11_isSide 1 = .ok (.ifCond .lt 12, 3) := by decide +kernel
theorem dX11_isSide_4 : decode cX11_isSide 4 = .ok (.iload_n 0, 1) := by decide +kernel
theorem dX11_isSide_5 : decode cX11_isSide 5 = .ok (.iconst 1, 1) := by decide +kernel
theorem dX11_isSide_6 : decode cX11_isSide 6 = .ok (.if_icmp .gt 7, 3) := by decide +kernel
theorem dX11_isSide_9 : decode cX11_isSide 9 = .ok (.iconst 1, 1) := by decide +kernel
theorem dX11_isSide_10 : decode cX11_isSide 10 = .ok (.goto 4, 3) := by decide +kernel
theorem dX11_isSide_13 : decode cX11_isSide 13 = .ok (.iconst 0, 1) := by decide +kernel
theorem dX11_isSide_14 : decode cX11_isSide 14 = .ok (.ireturn, 1) := by decide +kernel
theorem dX11_chance_0 : decode cX11_chance 0 = .ok (.aload_n 0, 1) := by decide +kernel
theorem dX11_chance_1 : decode cX11_chance 1 = .ok (.iconst 0, 1) := by decide +kernel
theorem dX11_chance_2 : decode cX11_chance 2 = .ok (.putfield 77, 3) := by decide +kernel
theorem dX11_chance_5 : decode cX11_chance 5 = .ok (.iload_n 1, 1) := by decide +kernel
theorem dX11_chance_6 : decode cX11_chance 6 = .ok (.invokestatic 209, 3) := by decide +kernel
theorem dX11_chance_9 : decode cX11_chance 9 = .ok (.ifCond .ne 5, 3) := by decide +kernel
theorem dX11_chance_12 : decode cX11_chance 12 = .ok (.iconst (-1), 1) := by decide +kernel
theorem dX11_chance_13 : decode cX11_chance 13 = .ok (.ireturn, 1) := by decide +kernel
theorem dX11_chance_14 : decode cX11_chance 14 = .ok (.aload_n 0, 1) := by decide +kernel
theorem dX11_chance_15 : decode cX11_chance 15 = .ok (.iload_n 1, 1) := by decide +kernel
theorem dX11_chance_16 : decode cX11_chance 16 = .ok (.invokevirtual 181, 3) := by decide +kernel
theorem dX11_chance_19 : decode cX11_chance 19 = .ok (.aload_n 0, 1) := by decide +kernel
theorem dX11_chance_20 : decode cX11_chance 20 = .ok (.getfield 170, 3) := by decide +kernel
theorem dX11_chance_23 : decode cX11_chance 23 = .ok (.ireturn, 1) := by decide +kernel
theorem dX11_input_0 : decode cX11_input 0 = .ok (.aload_n 0, 1) := by decide +kernel
theorem dX11_input_1 : decode cX11_input 1 = .ok (.iconst 0, 1) := by decide +kernel
theorem dX11_input_2 : decode cX11_input 2 = .ok (.putfield 77, 3) := by decide +kernel
theorem dX11_input_5 : decode cX11_input 5 = .ok (.iload_n 1, 1) := by decide +kernel
theorem dX11_input_6 : decode cX11_input 6 = .ok (.invokestatic 209, 3) := by decide +kernel
theorem dX11_input_9 : decode cX11_input 9 = .ok (.ifCond .eq 15, 3) := by decide +kernel
theorem dX11_input_12 : decode cX11_input 12 = .ok (.iload_n 2, 1) := by decide +kernel
theorem dX11_input_13 : decode cX11_input 13 = .ok (.ifCond .lt 11, 3) := by decide +kernel
theorem dX11_input_16 : decode cX11_input 16 = .ok (.iload_n 2, 1) := by decide +kernel
theorem dX11_input_17 : decode cX11_input 17 = .ok (.aload_n 0, 1) := by decide +kernel
theorem dX11_input_18 : decode cX11_input 18 = .ok (.getfield 91, 3) := by decide +kernel
theorem dX11_input_21 : decode cX11_input 21 = .ok (.if_icmp .lt 9, 3) := by decide +kernel
theorem dX11_input_24 : decode cX11_input 24 = .ok (.sipush (-9999), 3) := by decide +kernel
theorem dX11_input_27 : decode cX11_input 27 = .ok (.goto 9, 3) := by decide +kernel
theorem dX11_input_30 : decode cX11_input 30 = .ok (.aload_n 0, 1) := by decide +kernel
theorem dX11_input_31 : decode cX11_input 31 = .ok (.iload_n 1, 1) := by decide +kernel
theorem dX11_input_32 : decode cX11_input 32 = .ok (.iload_n 2, 1) := by decide +kernel
theorem dX11_input_33 : decode cX11_input 33 = .ok (.invokevirtual 145, 3) := by decide +kernel
theorem dX11_input_36 : decode cX11_input 36 = .ok (.ireturn, 1) := by decide +kernel
theorem dX11_weight_0 : decode cX11_weight 0 = .ok (.aload_n 0, 1) := by decide +kernel
theorem dX11_weight_1 : decode cX11_weight 1 = .ok (.iconst 0, 1) := by decide +kernel
theorem dX11_weight_2 : decode cX11_weight 2 = .ok (.putfield 77, 3) := by decide +kernel
theorem dX11_weight_5 : decode cX11_weight 5 = .ok (.iload_n 1, 1) := by decide +kernel
theorem dX11_weight_6 : decode cX11_weight 6 = .ok (.invokestatic 209, 3) := by decide +kernel
theorem dX11_weight_9 : decode cX11_weight 9 = .ok (.ifCond .eq 41, 3) := by decide +kernel
theorem dX11_weight_12 : decode cX11_weight 12 = .ok (.iload_n 2, 1) := by decide +kernel
theorem dX11_weight_13 : decode cX11_weight 13 = .ok (.ifCond .lt 37, 3) := by decide +kernel
theorem dX11_weight_16 : decode cX11_weight 16 = .ok (.iload_n 2, 1) := by decide +kernel
theorem dX11_weight_17 : decode cX11_weight 17 = .ok (.iconst 1, 1) := by decide +kernel
theorem dX11_weight_18 : decode cX11_weight 18 = .ok (.if_icmp .gt 32, 3) := by decide +kernel
theorem dX11_weight_21 : decode cX11_weight 21 = .ok (.iload_n 3, 1) := by decide +kernel
theorem dX11_weight_22 : decode cX11_weight 22 = .ok (.ifCond .lt 28, 3) := by decide +kernel
theorem dX11_weight_25 : decode cX11_weight 25 = .ok (.iload_n 3, 1) := by decide +kernel
theorem dX11_weight_26 : decode cX11_weight 26 = .ok (.sipush 255, 3) := by decide +kernel
theorem dX11_weight_29 : decode cX11_weight 29 = .ok (.if_icmp .gt 21, 3) := by decide +kernel
theorem dX11_weight_32 : decode cX11_weight 32 = .ok (.iload 4, 2) := by decide +kernel
theorem dX11_weight_34 : decode cX11_weight 34 = .ok (.ifCond .lt 16, 3) := by decide +kernel
theorem dX11_weight_37 : decode cX11_weight 37 = .ok (.iload 4, 2) := by decide +kernel
theorem dX11_weight_39 : decode cX11_weight 39 = .ok (.aload_n 0, 1) := by decide +kernel
theorem dX11_weight_40 : decode cX11_weight 40 = .ok (.getfield 91, 3) := by decide +kernel
theorem dX11_weight_43 : decode cX11_weight 43 = .ok (.if_icmp .gt 7, 3) := by decide +kernel
theorem dX11_weight_46 : decode cX11_weight 46 = .ok (.iconst 1, 1) := by decide +kernel
theorem dX11_weight_47 : decode cX11_weight 47 = .ok (.goto 4, 3) := by decide +kernel
theorem dX11_weight_50 : decode cX11_weight 50 = .ok (.iconst 0, 1) := by decide +kernel
theorem dX11_weight_51 : decode cX11_weight 51 = .ok (.istore 5, 2) := by decide +kernel
theorem dX11_weight_53 : decode cX11_weight 53 = .ok (.iload 5, 2) := by decide +kernel
theorem dX11_weight_55 : decode cX11_weight 55 = .ok (.ifCond .eq 19, 3) := by decide +kernel
theorem dX11_weight_58 : decode cX11_weight 58 = .ok (.aload_n 0, 1) := by decide +kernel
theorem dX11_weight_59 : decode cX11_weight 59 = .ok (.getfield 47, 3) := by decide +kernel
theorem dX11_weight_62 : decode cX11_weight 62 = .ok (.iload_n 1, 1) := by decide +kernel
theorem dX11_weight_63 : decode cX11_weight 63 = .ok (.iload_n 2, 1) := by decide +kernel
theorem dX11_weight_64 : decode cX11_weight 64 = .ok (.iload_n 3, 1) := by decide +kernel
theorem dX11_weight_65 : decode cX11_weight 65 = .ok (.iload 4, 2) := by decide +kernel
theorem dX11_weight_67 : decode cX11_weight 67 = .ok (.invokestatic 87, 3) := by decide +kernel
theorem dX11_weight_70 : decode cX11_weight 70 = .ok (.iaload, 1) := by decide +kernel
theorem dX11_weight_71 : decode cX11_weight 71 = .ok (.goto 5, 3) := by decide +kernel
theorem dX11_weight_74 : decode cX11_weight 74 = .ok (.ldc 212, 2) := by decide +kernel
theorem dX11_weight_76 : decode cX11_weight 76 = .ok (.ireturn, 1) := by decide +kernel
theorem dX11_slot_0 : decode cX11_slot 0 = .ok (.aload_n 0, 1) := by decide +kernel
theorem dX11_slot_1 : decode cX11_slot 1 = .ok (.iconst 0, 1) := by decide +kernel
theorem dX11_slot_2 : decode cX11_slot 2 = .ok (.putfield 77, 3) := by decide +kernel
theorem dX11_slot_5 : decode cX11_slot 5 = .ok (.iload_n 1, 1) := by decide +kernel
theorem dX11_slot_6 : decode cX11_slot 6 = .ok (.invokestatic 209, 3) := by decide +kernel
theorem dX11_slot_9 : decode cX11_slot 9 = .ok (.ifCond .ne 5, 3) := by decide +kernel
theorem dX11_slot_12 : decode cX11_slot 12 = .ok (.iconst (-1), 1) := by decide +kernel
theorem dX11_slot_13 : decode cX11_slot 13 = .ok (.ireturn, 1) := by decide +kernel
theorem dX11_slot_14 : decode cX11_slot 14 = .ok (.aload_n 0, 1) := by decide +kernel
theorem dX11_slot_15 : decode cX11_slot 15 = .ok (.iload_n 2, 1) := by decide +kernel
theorem dX11_slot_16 : decode cX11_slot 16 = .ok (.ifCond .lt 13, 3) := by decide +kernel
theorem dX11_slot_19 : decode cX11_slot 19 = .ok (.iload_n 2, 1) := by decide +kernel
theorem dX11_slot_20 : decode cX11_slot 20 = .ok (.iconst 1, 1) := by decide +kernel
theorem dX11_slot_21 : decode cX11_slot 21 = .ok (.aload_n 0, 1) := by decide +kernel
theorem dX11_slot_22 : decode cX11_slot 22 = .ok (.getfield 66, 3) := by decide +kernel
theorem dX11_slot_25 : decode cX11_slot 25 = .ok (.ishl, 1) := by decide +kernel
theorem dX11_slot_26 : decode cX11_slot 26 = .ok (.if_icmp .lt 7, 3) := by decide +kernel
theorem dX11_slot_29 : decode cX11_slot 29 = .ok (.iconst 1, 1) := by decide +kernel
theorem dX11_slot_30 : decode cX11_slot 30 = .ok (.goto 4, 3) := by decide +kernel
theorem dX11_slot_33 : decode cX11_slot 33 = .ok (.iconst 0, 1) := by decide +kernel
theorem dX11_slot_34 : decode cX11_slot 34 = .ok (.putfield 77, 3) := by decide +kernel
theorem dX11_slot_37 : decode cX11_slot 37 = .ok (.aload_n 0, 1) := by decide +kernel
theorem dX11_slot_38 : decode cX11_slot 38 = .ok (.getfield 77, 3) := by decide +kernel
theorem dX11_slot_41 : decode cX11_slot 41 = .ok (.ifCond .le 7, 3) := by decide +kernel
theorem dX11_slot_44 : decode cX11_slot 44 = .ok (.iconst 0, 1) := by decide +kernel
theorem dX11_slot_45 : decode cX11_slot 45 = .ok (.goto 15, 3) := by decide +kernel
theorem dX11_slot_48 : decode cX11_slot 48 = .ok (.aload_n 0, 1) := by decide +kernel
theorem dX11_slot_49 : decode cX11_slot 49 = .ok (.getfield 41, 3) := by decide +kernel
theorem dX11_slot_52 : decode cX11_slot 52 = .ok (.sipush 4096, 3) := by decide +kernel
theorem dX11_slot_55 : decode cX11_slot 55 = .ok (.iload_n 1, 1) := by decide +kernel
theorem dX11_slot_56 : decode cX11_slot 56 = .ok (.imul, 1) := by decide +kernel
theorem dX11_slot_57 : decode cX11_slot 57 = .ok (.iload_n 2, 1) := by decide +kernel
theorem dX11_slot_58 : decode cX11_slot 58 = .ok (.iadd, 1) := by decide +kernel
theorem dX11_slot_59 : decode cX11_slot 59 = .ok (.iaload, 1) := by decide +kernel
theorem dX11_slot_60 : decode cX11_slot 60 = .ok (.ireturn, 1) := by decide +kernel
theorem dX11_seen_0 : decode cX11_seen 0 = .ok (.aload_n 0, 1) := by decide +kernel
theorem dX11_seen_1 : decode cX11_seen 1 = .ok (.iconst 0, 1) := by decide +kernel
theorem dX11_seen_2 : decode cX11_seen 2 = .ok (.putfield 77, 3) := by decide +kernel
theorem dX11_seen_5 : decode cX11_seen 5 = .ok (.iload_n 1, 1) := by decide +kernel
theorem dX11_seen_6 : decode cX11_seen 6 = .ok (.invokestatic 209, 3) := by decide +kernel
theorem dX11_seen_9 : decode cX11_seen 9 = .ok (.ifCond .eq 17, 3) := by decide +kernel
theorem dX11_seen_12 : decode cX11_seen 12 = .ok (.iload_n 2, 1) := by decide +kernel
theorem dX11_seen_13 : decode cX11_seen 13 = .ok (.ifCond .lt 13, 3) := by decide +kernel
theorem dX11_seen_16 : decode cX11_seen 16 = .ok (.iload_n 2, 1) := by decide +kernel
theorem dX11_seen_17 : decode cX11_seen 17 = .ok (.iconst 1, 1) := by decide +kernel
theorem dX11_seen_18 : decode cX11_seen 18 = .ok (.aload_n 0, 1) := by decide +kernel
theorem dX11_seen_19 : decode cX11_seen 19 = .ok (.getfield 66, 3) := by decide +kernel
theorem dX11_seen_22 : decode cX11_seen 22 = .ok (.ishl, 1) := by decide +kernel
theorem dX11_seen_23 : decode cX11_seen 23 = .ok (.if_icmp .lt 7, 3) := by decide +kernel
theorem dX11_seen_26 : decode cX11_seen 26 = .ok (.iconst (-1), 1) := by decide +kernel
theorem dX11_seen_27 : decode cX11_seen 27 = .ok (.goto 15, 3) := by decide +kernel
theorem dX11_seen_30 : decode cX11_seen 30 = .ok (.aload_n 0, 1) := by decide +kernel
theorem dX11_seen_31 : decode cX11_seen 31 = .ok (.getfield 44, 3) := by decide +kernel
theorem dX11_seen_34 : decode cX11_seen 34 = .ok (.sipush 4096, 3) := by decide +kernel
theorem dX11_seen_37 : decode cX11_seen 37 = .ok (.iload_n 1, 1) := by decide +kernel
theorem dX11_seen_38 : decode cX11_seen 38 = .ok (.imul, 1) := by decide +kernel
theorem dX11_seen_39 : decode cX11_seen 39 = .ok (.iload_n 2, 1) := by decide +kernel
theorem dX11_seen_40 : decode cX11_seen 40 = .ok (.iadd, 1) := by decide +kernel
theorem dX11_seen_41 : decode cX11_seen 41 = .ok (.iaload, 1) := by decide +kernel
theorem dX11_seen_42 : decode cX11_seen 42 = .ok (.ireturn, 1) := by decide +kernel
theorem dX11_cell_0 : decode cX11_cell 0 = .ok (.aload_n 0, 1) := by decide +kernel
theorem dX11_cell_1 : decode cX11_cell 1 = .ok (.iconst 0, 1) := by decide +kernel
theorem dX11_cell_2 : decode cX11_cell 2 = .ok (.putfield 77, 3) := by decide +kernel
theorem dX11_cell_5 : decode cX11_cell 5 = .ok (.iload_n 1, 1) := by decide +kernel
theorem dX11_cell_6 : decode cX11_cell 6 = .ok (.invokestatic 209, 3) := by decide +kernel
theorem dX11_cell_9 : decode cX11_cell 9 = .ok (.ifCond .eq 24, 3) := by decide +kernel
theorem dX11_cell_12 : decode cX11_cell 12 = .ok (.iload_n 2, 1) := by decide +kernel
theorem dX11_cell_13 : decode cX11_cell 13 = .ok (.ifCond .lt 20, 3) := by decide +kernel
theorem dX11_cell_16 : decode cX11_cell 16 = .ok (.iload_n 2, 1) := by decide +kernel
theorem dX11_cell_17 : decode cX11_cell 17 = .ok (.sipush 255, 3) := by decide +kernel
theorem dX11_cell_20 : decode cX11_cell 20 = .ok (.if_icmp .gt 13, 3) := by decide +kernel
theorem dX11_cell_23 : decode cX11_cell 23 = .ok (.iload_n 3, 1) := by decide +kernel
theorem dX11_cell_24 : decode cX11_cell 24 = .ok (.ifCond .lt 9, 3) := by decide +kernel
theorem dX11_cell_27 : decode cX11_cell 27 = .ok (.iload_n 3, 1) := by decide +kernel
theorem dX11_cell_28 : decode cX11_cell 28 = .ok (.bipush 32, 2) := by decide +kernel
theorem dX11_cell_30 : decode cX11_cell 30 = .ok (.if_icmp .le 6, 3) := by decide +kernel
theorem dX11_cell_33 : decode cX11_cell 33 = .ok (.ldc 213, 2) := by decide +kernel
theorem dX11_cell_35 : decode cX11_cell 35 = .ok (.ireturn, 1) := by decide +kernel
theorem dX11_cell_36 : decode cX11_cell 36 = .ok (.aload_n 0, 1) := by decide +kernel
theorem dX11_cell_37 : decode cX11_cell 37 = .ok (.getfield 50, 3) := by decide +kernel
theorem dX11_cell_40 : decode cX11_cell 40 = .ok (.sipush 8448, 3) := by decide +kernel
theorem dX11_cell_43 : decode cX11_cell 43 = .ok (.iload_n 1, 1) := by decide +kernel
theorem dX11_cell_44 : decode cX11_cell 44 = .ok (.imul, 1) := by decide +kernel
theorem dX11_cell_45 : decode cX11_cell 45 = .ok (.bipush 33, 2) := by decide +kernel
theorem dX11_cell_47 : decode cX11_cell 47 = .ok (.iload_n 2, 1) := by decide +kernel
theorem dX11_cell_48 : decode cX11_cell 48 = .ok (.imul, 1) := by decide +kernel
theorem dX11_cell_49 : decode cX11_cell 49 = .ok (.iadd, 1) := by decide +kernel
theorem dX11_cell_50 : decode cX11_cell 50 = .ok (.iload_n 3, 1) := by decide +kernel
theorem dX11_cell_51 : decode cX11_cell 51 = .ok (.iadd, 1) := by decide +kernel
theorem dX11_cell_52 : decode cX11_cell 52 = .ok (.iaload, 1) := by decide +kernel
theorem dX11_cell_53 : decode cX11_cell 53 = .ok (.istore 4, 2) := by decide +kernel
theorem dX11_cell_55 : decode cX11_cell 55 = .ok (.iload 4, 2) := by decide +kernel
theorem dX11_cell_57 : decode cX11_cell 57 = .ok (.sipush 32767, 3) := by decide +kernel
theorem dX11_cell_60 : decode cX11_cell 60 = .ok (.if_icmp .le 11, 3) := by decide +kernel
theorem dX11_cell_63 : decode cX11_cell 63 = .ok (.iload 4, 2) := by decide +kernel
theorem dX11_cell_65 : decode cX11_cell 65 = .ok (.ldc 176, 2) := by decide +kernel
theorem dX11_cell_67 : decode cX11_cell 67 = .ok (.isub, 1) := by decide +kernel
theorem dX11_cell_68 : decode cX11_cell 68 = .ok (.goto 5, 3) := by decide +kernel
theorem dX11_cell_71 : decode cX11_cell 71 = .ok (.iload 4, 2) := by decide +kernel
theorem dX11_cell_73 : decode cX11_cell 73 = .ok (.ireturn, 1) := by decide +kernel
theorem dX11_equal_0 : decode cX11_equal 0 = .ok (.aload_n 0, 1) := by decide +kernel
theorem dX11_equal_1 : decode cX11_equal 1 = .ok (.iconst 0, 1) := by decide +kernel
theorem dX11_equal_2 : decode cX11_equal 2 = .ok (.putfield 77, 3) := by decide +kernel
theorem dX11_equal_5 : decode cX11_equal 5 = .ok (.aload_n 0, 1) := by decide +kernel
theorem dX11_equal_6 : decode cX11_equal 6 = .ok (.getfield 26, 3) := by decide +kernel
theorem dX11_equal_9 : decode cX11_equal 9 = .ok (.iconst 0, 1) := by decide +kernel
theorem dX11_equal_10 : decode cX11_equal 10 = .ok (.iaload, 1) := by decide +kernel
theorem dX11_equal_11 : decode cX11_equal 11 = .ok (.aload_n 0, 1) := by decide +kernel
theorem dX11_equal_12 : decode cX11_equal 12 = .ok (.getfield 26, 3) := by decide +kernel
theorem dX11_equal_15 : decode cX11_equal 15 = .ok (.iconst 1, 1) := by decide +kernel
theorem dX11_equal_16 : decode cX11_equal 16 = .ok (.iaload, 1) := by decide +kernel
theorem dX11_equal_17 : decode cX11_equal 17 = .ok (.if_icmp .ne 22, 3) := by decide +kernel
theorem dX11_equal_20 : decode cX11_equal 20 = .ok (.aload_n 0, 1) := by decide +kernel
theorem dX11_equal_21 : decode cX11_equal 21 = .ok (.getfield 29, 3) := by decide +kernel
theorem dX11_equal_24 : decode cX11_equal 24 = .ok (.iconst 0, 1) := by decide +kernel
theorem dX11_equal_25 : decode cX11_equal 25 = .ok (.iaload, 1) := by decide +kernel
theorem dX11_equal_26 : decode cX11_equal 26 = .ok (.aload_n 0, 1) := by decide +kernel
theorem dX11_equal_27 : decode cX11_equal 27 = .ok (.getfield 29, 3) := by decide +kernel
theorem dX11_equal_30 : decode cX11_equal 30 = .ok (.iconst 1, 1) := by decide +kernel
theorem dX11_equal_31 : decode cX11_equal 31 = .ok (.iaload, 1) := by decide +kernel
theorem dX11_equal_32 : decode cX11_equal 32 = .ok (.if_icmp .ne 7, 3) := by decide +kernel
theorem dX11_equal_35 : decode cX11_equal 35 = .ok (.iconst 1, 1) := by decide +kernel
theorem dX11_equal_36 : decode cX11_equal 36 = .ok (.goto 4, 3) := by decide +kernel
theorem dX11_equal_39 : decode cX11_equal 39 = .ok (.iconst 0, 1) := by decide +kernel
theorem dX11_equal_40 : decode cX11_equal 40 = .ok (.istore_n 1, 1) := by decide +kernel
theorem dX11_equal_41 : decode cX11_equal 41 = .ok (.iconst 0, 1) := by decide +kernel
theorem dX11_equal_42 : decode cX11_equal 42 = .ok (.istore_n 2, 1) := by decide +kernel
theorem dX11_equal_43 : decode cX11_equal 43 = .ok (.iload_n 2, 1) := by decide +kernel
theorem dX11_equal_44 : decode cX11_equal 44 = .ok (.aload_n 0, 1) := by decide +kernel
theorem dX11_equal_45 : decode cX11_equal 45 = .ok (.getfield 26, 3) := by decide +kernel
theorem dX11_equal_48 : decode cX11_equal 48 = .ok (.iconst 0, 1) := by decide +kernel
theorem dX11_equal_49 : decode cX11_equal 49 = .ok (.iaload, 1) := by decide +kernel
theorem dX11_equal_50 : decode cX11_equal 50 = .ok (.if_icmp .ge 38, 3) := by decide +kernel
theorem dX11_equal_53 : decode cX11_equal 53 = .ok (.iload_n 1, 1) := by decide +kernel
theorem dX11_equal_54 : decode cX11_equal 54 = .ok (.ifCond .eq 34, 3) := by decide +kernel
theorem dX11_equal_57 : decode cX11_equal 57 = .ok (.aload_n 0, 1) := by decide +kernel
theorem dX11_equal_58 : decode cX11_equal 58 = .ok (.getfield 23, 3) := by decide +kernel
theorem dX11_equal_61 : decode cX11_equal 61 = .ok (.iload_n 2, 1) := by decide +kernel
theorem dX11_equal_62 : decode cX11_equal 62 = .ok (.iaload, 1) := by decide +kernel
theorem dX11_equal_63 : decode cX11_equal 63 = .ok (.aload_n 0, 1) := by decide +kernel
theorem dX11_equal_64 : decode cX11_equal 64 = .ok (.getfield 23, 3) := by decide +kernel
theorem dX11_equal_67 : decode cX11_equal 67 = .ok (.sipush 2050, 3) := by decide +kernel
theorem dX11_equal_70 : decode cX11_equal 70 = .ok (.iload_n 2, 1) := by decide +kernel
theorem dX11_equal_71 : decode cX11_equal 71 = .ok (.iadd, 1) := by decide +kernel
theorem dX11_equal_72 : decode cX11_equal 72 = .ok (.iaload, 1) := by decide +kernel
theorem dX11_equal_73 : decode cX11_equal 73 = .ok (.if_icmp .ne 7, 3) := by decide +kernel
theorem dX11_equal_76 : decode cX11_equal 76 = .ok (.iconst 1, 1) := by decide +kernel
theorem dX11_equal_77 : decode cX11_equal 77 = .ok (.goto 4, 3) := by decide +kernel
theorem dX11_equal_80 : decode cX11_equal 80 = .ok (.iconst 0, 1) := by decide +kernel
theorem dX11_equal_81 : decode cX11_equal 81 = .ok (.istore_n 1, 1) := by decide +kernel
theorem dX11_equal_82 : decode cX11_equal 82 = .ok (.iinc 2 1, 3) := by decide +kernel
theorem dX11_equal_85 : decode cX11_equal 85 = .ok (.goto (-42), 3) := by decide +kernel
theorem dX11_equal_88 : decode cX11_equal 88 = .ok (.iconst 0, 1) := by decide +kernel
theorem dX11_equal_89 : decode cX11_equal 89 = .ok (.istore_n 2, 1) := by decide +kernel
theorem dX11_equal_90 : decode cX11_equal 90 = .ok (.iload_n 2, 1) := by decide +kernel
theorem dX11_equal_91 : decode cX11_equal 91 = .ok (.sipush 4096, 3) := by decide +kernel
theorem dX11_equal_94 : decode cX11_equal 94 = .ok (.if_icmp .ge 57, 3) := by decide +kernel
theorem dX11_equal_97 : decode cX11_equal 97 = .ok (.iload_n 1, 1) := by decide +kernel
theorem dX11_equal_98 : decode cX11_equal 98 = .ok (.ifCond .eq 53, 3) := by decide +kernel
theorem dX11_equal_101 : decode cX11_equal 101 = .ok (.aload_n 0, 1) := by decide +kernel
theorem dX11_equal_102 : decode cX11_equal 102 = .ok (.getfield 41, 3) := by decide +kernel
theorem dX11_equal_105 : decode cX11_equal 105 = .ok (.iload_n 2, 1) := by decide +kernel
theorem dX11_equal_106 : decode cX11_equal 106 = .ok (.iaload, 1) := by decide +kernel
theorem dX11_equal_107 : decode cX11_equal 107 = .ok (.aload_n 0, 1) := by decide +kernel
theorem dX11_equal_108 : decode cX11_equal 108 = .ok (.getfield 41, 3) := by decide +kernel
theorem dX11_equal_111 : decode cX11_equal 111 = .ok (.sipush 4096, 3) := by decide +kernel
theorem dX11_equal_114 : decode cX11_equal 114 = .ok (.iload_n 2, 1) := by decide +kernel
theorem dX11_equal_115 : decode cX11_equal 115 = .ok (.iadd, 1) := by decide +kernel
theorem dX11_equal_116 : decode cX11_equal 116 = .ok (.iaload, 1) := by decide +kernel
theorem dX11_equal_117 : decode cX11_equal 117 = .ok (.if_icmp .ne 26, 3) := by decide +kernel
theorem dX11_equal_120 : decode cX11_equal 120 = .ok (.aload_n 0, 1) := by decide +kernel
theorem dX11_equal_121 : decode cX11_equal 121 = .ok (.getfield 44, 3) := by decide +kernel
theorem dX11_equal_124 : decode cX11_equal 124 = .ok (.iload_n 2, 1) := by decide +kernel
theorem dX11_equal_125 : decode cX11_equal 125 = .ok (.iaload, 1) := by decide +kernel
theorem dX11_equal_126 : decode cX11_equal 126 = .ok (.aload_n 0, 1) := by decide +kernel
theorem dX11_equal_127 : decode cX11_equal 127 = .ok (.getfield 44, 3) := by decide +kernel
theorem dX11_equal_130 : decode cX11_equal 130 = .ok (.sipush 4096, 3) := by decide +kernel
theorem dX11_equal_133 : decode cX11_equal 133 = .ok (.iload_n 2, 1) := by decide +kernel
theorem dX11_equal_134 : decode cX11_equal 134 = .ok (.iadd, 1) := by decide +kernel
theorem dX11_equal_135 : decode cX11_equal 135 = .ok (.iaload, 1) := by decide +kernel
theorem dX11_equal_136 : decode cX11_equal 136 = .ok (.if_icmp .ne 7, 3) := by decide +kernel
theorem dX11_equal_139 : decode cX11_equal 139 = .ok (.iconst 1, 1) := by decide +kernel
theorem dX11_equal_140 : decode cX11_equal 140 = .ok (.goto 4, 3) := by decide +kernel
theorem dX11_equal_143 : decode cX11_equal 143 = .ok (.iconst 0, 1) := by decide +kernel
theorem dX11_equal_144 : decode cX11_equal 144 = .ok (.istore_n 1, 1) := by decide +kernel
theorem dX11_equal_145 : decode cX11_equal 145 = .ok (.iinc 2 1, 3) := by decide +kernel
theorem dX11_equal_148 : decode cX11_equal 148 = .ok (.goto (-58), 3) := by decide +kernel
theorem dX11_equal_151 : decode cX11_equal 151 = .ok (.iconst 0, 1) := by decide +kernel
theorem dX11_equal_152 : decode cX11_equal 152 = .ok (.istore_n 2, 1) := by decide +kernel
theorem dX11_equal_153 : decode cX11_equal 153 = .ok (.iload_n 2, 1) := by decide +kernel
theorem dX11_equal_154 : decode cX11_equal 154 = .ok (.sipush 4608, 3) := by decide +kernel
theorem dX11_equal_157 : decode cX11_equal 157 = .ok (.if_icmp .ge 38, 3) := by decide +kernel
theorem dX11_equal_160 : decode cX11_equal 160 = .ok (.iload_n 1, 1) := by decide +kernel
theorem dX11_equal_161 : decode cX11_equal 161 = .ok (.ifCond .eq 34, 3) := by decide +kernel
theorem dX11_equal_164 : decode cX11_equal 164 = .ok (.aload_n 0, 1) := by decide +kernel
theorem dX11_equal_165 : decode cX11_equal 165 = .ok (.getfield 47, 3) := by decide +kernel
theorem dX11_equal_168 : decode cX11_equal 168 = .ok (.iload_n 2, 1) := by decide +kernel
theorem dX11_equal_169 : decode cX11_equal 169 = .ok (.iaload, 1) := by decide +kernel
theorem dX11_equal_170 : decode cX11_equal 170 = .ok (.aload_n 0, 1) := by decide +kernel
theorem dX11_equal_171 : decode cX11_equal 171 = .ok (.getfield 47, 3) := by decide +kernel
theorem dX11_equal_174 : decode cX11_equal 174 = .ok (.sipush 4608, 3) := by decide +kernel
theorem dX11_equal_177 : decode cX11_equal 177 = .ok (.iload_n 2, 1) := by decide +kernel
theorem dX11_equal_178 : decode cX11_equal 178 = .ok (.iadd, 1) := by decide +kernel
theorem dX11_equal_179 : decode cX11_equal 179 = .ok (.iaload, 1) := by decide +kernel
theorem dX11_equal_180 : decode cX11_equal 180 = .ok (.if_icmp .ne 7, 3) := by decide +kernel
theorem dX11_equal_183 : decode cX11_equal 183 = .ok (.iconst 1, 1) := by decide +kernel
theorem dX11_equal_184 : decode cX11_equal 184 = .ok (.goto 4, 3) := by decide +kernel
theorem dX11_equal_187 : decode cX11_equal 187 = .ok (.iconst 0, 1) := by decide +kernel
theorem dX11_equal_188 : decode cX11_equal 188 = .ok (.istore_n 1, 1) := by decide +kernel
theorem dX11_equal_189 : decode cX11_equal 189 = .ok (.iinc 2 1, 3) := by decide +kernel
theorem dX11_equal_192 : decode cX11_equal 192 = .ok (.goto (-39), 3) := by decide +kernel
theorem dX11_equal_195 : decode cX11_equal 195 = .ok (.iconst 0, 1) := by decide +kernel
theorem dX11_equal_196 : decode cX11_equal 196 = .ok (.istore_n 2, 1) := by decide +kernel
theorem dX11_equal_197 : decode cX11_equal 197 = .ok (.iload_n 2, 1) := by decide +kernel
theorem dX11_equal_198 : decode cX11_equal 198 = .ok (.sipush 8448, 3) := by decide +kernel
theorem dX11_equal_201 : decode cX11_equal 201 = .ok (.if_icmp .ge 38, 3) := by decide +kernel
theorem dX11_equal_204 : decode cX11_equal 204 = .ok (.iload_n 1, 1) := by decide +kernel
theorem dX11_equal_205 : decode cX11_equal 205 = .ok (.ifCond .eq 34, 3) := by decide +kernel
theorem dX11_equal_208 : decode cX11_equal 208 = .ok (.aload_n 0, 1) := by decide +kernel
theorem dX11_equal_209 : decode cX11_equal 209 = .ok (.getfield 50, 3) := by decide +kernel
theorem dX11_equal_212 : decode cX11_equal 212 = .ok (.iload_n 2, 1) := by decide +kernel
theorem dX11_equal_213 : decode cX11_equal 213 = .ok (.iaload, 1) := by decide +kernel
theorem dX11_equal_214 : decode cX11_equal 214 = .ok (.aload_n 0, 1) := by decide +kernel
theorem dX11_equal_215 : decode cX11_equal 215 = .ok (.getfield 50, 3) := by decide +kernel
theorem dX11_equal_218 : decode cX11_equal 218 = .ok (.sipush 8448, 3) := by decide +kernel
theorem dX11_equal_221 : decode cX11_equal 221 = .ok (.iload_n 2, 1) := by decide +kernel
theorem dX11_equal_222 : decode cX11_equal 222 = .ok (.iadd, 1) := by decide +kernel
theorem dX11_equal_223 : decode cX11_equal 223 = .ok (.iaload, 1) := by decide +kernel
theorem dX11_equal_224 : decode cX11_equal 224 = .ok (.if_icmp .ne 7, 3) := by decide +kernel
theorem dX11_equal_227 : decode cX11_equal 227 = .ok (.iconst 1, 1) := by decide +kernel
theorem dX11_equal_228 : decode cX11_equal 228 = .ok (.goto 4, 3) := by decide +kernel
theorem dX11_equal_231 : decode cX11_equal 231 = .ok (.iconst 0, 1) := by decide +kernel
theorem dX11_equal_232 : decode cX11_equal 232 = .ok (.istore_n 1, 1) := by decide +kernel
theorem dX11_equal_233 : decode cX11_equal 233 = .ok (.iinc 2 1, 3) := by decide +kernel
theorem dX11_equal_236 : decode cX11_equal 236 = .ok (.goto (-39), 3) := by decide +kernel
theorem dX11_equal_239 : decode cX11_equal 239 = .ok (.iload_n 1, 1) := by decide +kernel
theorem dX11_equal_240 : decode cX11_equal 240 = .ok (.ifCond .eq 7, 3) := by decide +kernel
theorem dX11_equal_243 : decode cX11_equal 243 = .ok (.iconst 1, 1) := by decide +kernel
theorem dX11_equal_244 : decode cX11_equal 244 = .ok (.goto 4, 3) := by decide +kernel
theorem dX11_equal_247 : decode cX11_equal 247 = .ok (.iconst 0, 1) := by decide +kernel
theorem dX11_equal_248 : decode cX11_equal 248 = .ok (.ireturn, 1) := by decide +kernel
theorem dX11_count_0 : decode cX11_count 0 = .ok (.aload_n 0, 1) := by decide +kernel
theorem dX11_count_1 : decode cX11_count 1 = .ok (.iconst 0, 1) := by decide +kernel
theorem dX11_count_2 : decode cX11_count 2 = .ok (.putfield 77, 3) := by decide +kernel
theorem dX11_count_5 : decode cX11_count 5 = .ok (.iload_n 1, 1) := by decide +kernel
theorem dX11_count_6 : decode cX11_count 6 = .ok (.tableswitch 100 0 7 #[46, 51, 58, 63, 68, 75, 82, 95], 46) := by decide +kernel
theorem dX11_count_52 : decode cX11_count 52 = .ok (.aload_n 0, 1) := by decide +kernel
theorem dX11_count_53 : decode cX11_count 53 = .ok (.getfield 91, 3) := by decide +kernel
theorem dX11_count_56 : decode cX11_count 56 = .ok (.ireturn, 1) := by decide +kernel
theorem dX11_count_57 : decode cX11_count 57 = .ok (.aload_n 0, 1) := by decide +kernel
theorem dX11_count_58 : decode cX11_count 58 = .ok (.getfield 26, 3) := by decide +kernel
theorem dX11_count_61 : decode cX11_count 61 = .ok (.iconst 0, 1) := by decide +kernel
theorem dX11_count_62 : decode cX11_count 62 = .ok (.iaload, 1) := by decide +kernel
theorem dX11_count_63 : decode cX11_count 63 = .ok (.ireturn, 1) := by decide +kernel
theorem dX11_count_64 : decode cX11_count 64 = .ok (.aload_n 0, 1) := by decide +kernel
theorem dX11_count_65 : decode cX11_count 65 = .ok (.getfield 107, 3) := by decide +kernel
theorem dX11_count_68 : decode cX11_count 68 = .ok (.ireturn, 1) := by decide +kernel
theorem dX11_count_69 : decode cX11_count 69 = .ok (.aload_n 0, 1) := by decide +kernel
theorem dX11_count_70 : decode cX11_count 70 = .ok (.getfield 104, 3) := by decide +kernel
theorem dX11_count_73 : decode cX11_count 73 = .ok (.ireturn, 1) := by decide +kernel
theorem dX11_count_74 : decode cX11_count 74 = .ok (.aload_n 0, 1) := by decide +kernel
theorem dX11_count_75 : decode cX11_count 75 = .ok (.getfield 26, 3) := by decide +kernel
theorem dX11_count_78 : decode cX11_count 78 = .ok (.iconst 1, 1) := by decide +kernel
theorem dX11_count_79 : decode cX11_count 79 = .ok (.iaload, 1) := by decide +kernel
theorem dX11_count_80 : decode cX11_count 80 = .ok (.ireturn, 1) := by decide +kernel
theorem dX11_count_81 : decode cX11_count 81 = .ok (.iconst 1, 1) := by decide +kernel
theorem dX11_count_82 : decode cX11_count 82 = .ok (.aload_n 0, 1) := by decide +kernel
theorem dX11_count_83 : decode cX11_count 83 = .ok (.getfield 66, 3) := by decide +kernel
theorem dX11_count_86 : decode cX11_count 86 = .ok (.ishl, 1) := by decide +kernel
theorem dX11_count_87 : decode cX11_count 87 = .ok (.ireturn, 1) := by decide +kernel
theorem dX11_count_88 : decode cX11_count 88 = .ok (.aload_n 0, 1) := by decide +kernel
theorem dX11_count_89 : decode cX11_count 89 = .ok (.getfield 110, 3) := by decide +kernel
theorem dX11_count_92 : decode cX11_count 92 = .ok (.ifCond .eq 7, 3) := by decide +kernel
theorem dX11_count_95 : decode cX11_count 95 = .ok (.iconst 1, 1) := by decide +kernel
theorem dX11_count_96 : decode cX11_count 96 = .ok (.goto 4, 3) := by decide +kernel
theorem dX11_count_99 : decode cX11_count 99 = .ok (.iconst 0, 1) := by decide +kernel
theorem dX11_count_100 : decode cX11_count 100 = .ok (.ireturn, 1) := by decide +kernel
theorem dX11_count_101 : decode cX11_count 101 = .ok (.aload_n 0, 1) := by decide +kernel
theorem dX11_count_102 : decode cX11_count 102 = .ok (.invokevirtual 214, 3) := by decide +kernel
theorem dX11_count_105 : decode cX11_count 105 = .ok (.ireturn, 1) := by decide +kernel
theorem dX11_count_106 : decode cX11_count 106 = .ok (.iconst (-1), 1) := by decide +kernel
theorem dX11_count_107 : decode cX11_count 107 = .ok (.ireturn, 1) := by decide +kernel
theorem dX11_firstLength_0 : decode cX11_firstLength 0 = .ok (.iconst 0, 1) := by decide +kernel
theorem dX11_firstLength_1 : decode cX11_firstLength 1 = .ok (.istore_n 1, 1) := by decide +kernel
theorem dX11_firstLength_2 : decode cX11_firstLength 2 = .ok (.iload_n 1, 1) := by decide +kernel
theorem dX11_firstLength_3 : decode cX11_firstLength 3 = .ok (.aload_n 0, 1) := by decide +kernel
theorem dX11_firstLength_4 : decode cX11_firstLength 4 = .ok (.getfield 91, 3) := by decide +kernel
theorem dX11_firstLength_7 : decode cX11_firstLength 7 = .ok (.if_icmp .ge 26, 3) := by decide +kernel
theorem dX11_firstLength_10 : decode cX11_firstLength 10 = .ok (.aload_n 0, 1) := by decide +kernel
theorem dX11_firstLength_11 : decode cX11_firstLength 11 = .ok (.getfield 13, 3) := by decide +kernel
theorem dX11_firstLength_14 : decode cX11_firstLength 14 = .ok (.iload_n 1, 1) := by decide +kernel
theorem dX11_firstLength_15 : decode cX11_firstLength 15 = .ok (.iaload, 1) := by decide +kernel
theorem dX11_firstLength_16 : decode cX11_firstLength 16 = .ok (.iconst 4, 1) := by decide +kernel
theorem dX11_firstLength_17 : decode cX11_firstLength 17 = .ok (.if_icmp .ne 10, 3) := by decide +kernel
theorem dX11_firstLength_20 : decode cX11_firstLength 20 = .ok (.aload_n 0, 1) := by decide +kernel
theorem dX11_firstLength_21 : decode cX11_firstLength 21 = .ok (.getfield 38, 3) := by decide +kernel
theorem dX11_firstLength_24 : decode cX11_firstLength 24 = .ok (.iload_n 1, 1) := by decide +kernel
theorem dX11_firstLength_25 : decode cX11_firstLength 25 = .ok (.iaload, 1) := by decide +kernel
theorem dX11_firstLength_26 : decode cX11_firstLength 26 = .ok (.ireturn, 1) := by decide +kernel
theorem dX11_firstLength_27 : decode cX11_firstLength 27 = .ok (.iinc 1 1, 3) := by decide +kernel
theorem dX11_firstLength_30 : decode cX11_firstLength 30 = .ok (.goto (-28), 3) := by decide +kernel
theorem dX11_firstLength_33 : decode cX11_firstLength 33 = .ok (.iconst 0, 1) := by decide +kernel
theorem dX11_firstLength_34 : decode cX11_firstLength 34 = .ok (.ireturn, 1) := by decide +kernel
