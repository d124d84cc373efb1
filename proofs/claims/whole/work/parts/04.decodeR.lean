theorem d_R_init_0 : decode b_R_init 0 = .ok (.aload_n 0, 1) := by decide +kernel
theorem d_R_init_1 : decode b_R_init 1 = .ok (.invokespecial 1, 3) := by decide +kernel
theorem d_R_init_4 : decode b_R_init 4 = .ok (.aload_n 0, 1) := by decide +kernel
theorem d_R_init_5 : decode b_R_init 5 = .ok (.bipush 6, 2) := by decide +kernel
theorem d_R_init_7 : decode b_R_init 7 = .ok (.newarray .int, 2) := by decide +kernel
theorem d_R_init_9 : decode b_R_init 9 = .ok (.putfield 7, 3) := by decide +kernel
theorem d_R_init_12 : decode b_R_init 12 = .ok (.aload_n 0, 1) := by decide +kernel
theorem d_R_init_13 : decode b_R_init 13 = .ok (.bipush 6, 2) := by decide +kernel
theorem d_R_init_15 : decode b_R_init 15 = .ok (.newarray .int, 2) := by decide +kernel
theorem d_R_init_17 : decode b_R_init 17 = .ok (.putfield 13, 3) := by decide +kernel
theorem d_R_init_20 : decode b_R_init 20 = .ok (.aload_n 0, 1) := by decide +kernel
theorem d_R_init_21 : decode b_R_init 21 = .ok (.bipush 6, 2) := by decide +kernel
theorem d_R_init_23 : decode b_R_init 23 = .ok (.newarray .int, 2) := by decide +kernel
theorem d_R_init_25 : decode b_R_init 25 = .ok (.putfield 16, 3) := by decide +kernel
theorem d_R_init_28 : decode b_R_init 28 = .ok (.aload_n 0, 1) := by decide +kernel
theorem d_R_init_29 : decode b_R_init 29 = .ok (.bipush 40, 2) := by decide +kernel
theorem d_R_init_31 : decode b_R_init 31 = .ok (.newarray .int, 2) := by decide +kernel
theorem d_R_init_33 : decode b_R_init 33 = .ok (.putfield 19, 3) := by decide +kernel
theorem d_R_init_36 : decode b_R_init 36 = .ok (.aload_n 0, 1) := by decide +kernel
theorem d_R_init_37 : decode b_R_init 37 = .ok (.bipush 40, 2) := by decide +kernel
theorem d_R_init_39 : decode b_R_init 39 = .ok (.newarray .int, 2) := by decide +kernel
theorem d_R_init_41 : decode b_R_init 41 = .ok (.putfield 22, 3) := by decide +kernel
theorem d_R_init_44 : decode b_R_init 44 = .ok (.aload_n 0, 1) := by decide +kernel
theorem d_R_init_45 : decode b_R_init 45 = .ok (.bipush 40, 2) := by decide +kernel
theorem d_R_init_47 : decode b_R_init 47 = .ok (.newarray .int, 2) := by decide +kernel
theorem d_R_init_49 : decode b_R_init 49 = .ok (.putfield 25, 3) := by decide +kernel
theorem d_R_init_52 : decode b_R_init 52 = .ok (.aload_n 0, 1) := by decide +kernel
theorem d_R_init_53 : decode b_R_init 53 = .ok (.bipush 40, 2) := by decide +kernel
theorem d_R_init_55 : decode b_R_init 55 = .ok (.newarray .int, 2) := by decide +kernel
theorem d_R_init_57 : decode b_R_init 57 = .ok (.putfield 28, 3) := by decide +kernel
theorem d_R_init_60 : decode b_R_init 60 = .ok (.aload_n 0, 1) := by decide +kernel
theorem d_R_init_61 : decode b_R_init 61 = .ok (.bipush 40, 2) := by decide +kernel
theorem d_R_init_63 : decode b_R_init 63 = .ok (.newarray .int, 2) := by decide +kernel
theorem d_R_init_65 : decode b_R_init 65 = .ok (.putfield 31, 3) := by decide +kernel
theorem d_R_init_68 : decode b_R_init 68 = .ok (.aload_n 0, 1) := by decide +kernel
theorem d_R_init_69 : decode b_R_init 69 = .ok (.bipush 40, 2) := by decide +kernel
theorem d_R_init_71 : decode b_R_init 71 = .ok (.newarray .int, 2) := by decide +kernel
theorem d_R_init_73 : decode b_R_init 73 = .ok (.putfield 34, 3) := by decide +kernel
theorem d_R_init_76 : decode b_R_init 76 = .ok (.aload_n 0, 1) := by decide +kernel
theorem d_R_init_77 : decode b_R_init 77 = .ok (.bipush 40, 2) := by decide +kernel
theorem d_R_init_79 : decode b_R_init 79 = .ok (.newarray .boolean, 2) := by decide +kernel
theorem d_R_init_81 : decode b_R_init 81 = .ok (.putfield 37, 3) := by decide +kernel
theorem d_R_init_84 : decode b_R_init 84 = .ok (.aload_n 0, 1) := by decide +kernel
theorem d_R_init_85 : decode b_R_init 85 = .ok (.bipush 40, 2) := by decide +kernel
theorem d_R_init_87 : decode b_R_init 87 = .ok (.newarray .int, 2) := by decide +kernel
theorem d_R_init_89 : decode b_R_init 89 = .ok (.putfield 41, 3) := by decide +kernel
theorem d_R_init_92 : decode b_R_init 92 = .ok (.aload_n 0, 1) := by decide +kernel
theorem d_R_init_93 : decode b_R_init 93 = .ok (.bipush 40, 2) := by decide +kernel
theorem d_R_init_95 : decode b_R_init 95 = .ok (.newarray .long, 2) := by decide +kernel
theorem d_R_init_97 : decode b_R_init 97 = .ok (.putfield 44, 3) := by decide +kernel
theorem d_R_init_100 : decode b_R_init 100 = .ok (.aload_n 0, 1) := by decide +kernel
theorem d_R_init_101 : decode b_R_init 101 = .ok (.bipush 36, 2) := by decide +kernel
theorem d_R_init_103 : decode b_R_init 103 = .ok (.newarray .int, 2) := by decide +kernel
theorem d_R_init_105 : decode b_R_init 105 = .ok (.putfield 48, 3) := by decide +kernel
theorem d_R_init_108 : decode b_R_init 108 = .ok (.aload_n 0, 1) := by decide +kernel
theorem d_R_init_109 : decode b_R_init 109 = .ok (.bipush 36, 2) := by decide +kernel
theorem d_R_init_111 : decode b_R_init 111 = .ok (.newarray .int, 2) := by decide +kernel
theorem d_R_init_113 : decode b_R_init 113 = .ok (.putfield 51, 3) := by decide +kernel
theorem d_R_init_116 : decode b_R_init 116 = .ok (.aload_n 0, 1) := by decide +kernel
theorem d_R_init_117 : decode b_R_init 117 = .ok (.bipush 108, 2) := by decide +kernel
theorem d_R_init_119 : decode b_R_init 119 = .ok (.newarray .int, 2) := by decide +kernel
theorem d_R_init_121 : decode b_R_init 121 = .ok (.putfield 54, 3) := by decide +kernel
theorem d_R_init_124 : decode b_R_init 124 = .ok (.aload_n 0, 1) := by decide +kernel
theorem d_R_init_125 : decode b_R_init 125 = .ok (.bipush 36, 2) := by decide +kernel
theorem d_R_init_127 : decode b_R_init 127 = .ok (.newarray .int, 2) := by decide +kernel
theorem d_R_init_129 : decode b_R_init 129 = .ok (.putfield 57, 3) := by decide +kernel
theorem d_R_init_132 : decode b_R_init 132 = .ok (.aload_n 0, 1) := by decide +kernel
theorem d_R_init_133 : decode b_R_init 133 = .ok (.sipush 1440, 3) := by decide +kernel
theorem d_R_init_136 : decode b_R_init 136 = .ok (.newarray .int, 2) := by decide +kernel
theorem d_R_init_138 : decode b_R_init 138 = .ok (.putfield 60, 3) := by decide +kernel
theorem d_R_init_141 : decode b_R_init 141 = .ok (.aload_n 0, 1) := by decide +kernel
theorem d_R_init_142 : decode b_R_init 142 = .ok (.bipush 6, 2) := by decide +kernel
theorem d_R_init_144 : decode b_R_init 144 = .ok (.newarray .int, 2) := by decide +kernel
theorem d_R_init_146 : decode b_R_init 146 = .ok (.putfield 63, 3) := by decide +kernel
theorem d_R_init_149 : decode b_R_init 149 = .ok (.aload_n 0, 1) := by decide +kernel
theorem d_R_init_150 : decode b_R_init 150 = .ok (.bipush 6, 2) := by decide +kernel
theorem d_R_init_152 : decode b_R_init 152 = .ok (.newarray .long, 2) := by decide +kernel
theorem d_R_init_154 : decode b_R_init 154 = .ok (.putfield 66, 3) := by decide +kernel
theorem d_R_init_157 : decode b_R_init 157 = .ok (.aload_n 0, 1) := by decide +kernel
theorem d_R_init_158 : decode b_R_init 158 = .ok (.bipush 6, 2) := by decide +kernel
theorem d_R_init_160 : decode b_R_init 160 = .ok (.newarray .long, 2) := by decide +kernel
theorem d_R_init_162 : decode b_R_init 162 = .ok (.putfield 69, 3) := by decide +kernel
theorem d_R_init_165 : decode b_R_init 165 = .ok (.aload_n 0, 1) := by decide +kernel
theorem d_R_init_166 : decode b_R_init 166 = .ok (.bipush 6, 2) := by decide +kernel
theorem d_R_init_168 : decode b_R_init 168 = .ok (.newarray .int, 2) := by decide +kernel
theorem d_R_init_170 : decode b_R_init 170 = .ok (.putfield 72, 3) := by decide +kernel
theorem d_R_init_173 : decode b_R_init 173 = .ok (.aload_n 0, 1) := by decide +kernel
theorem d_R_init_174 : decode b_R_init 174 = .ok (.bipush 40, 2) := by decide +kernel
theorem d_R_init_176 : decode b_R_init 176 = .ok (.newarray .long, 2) := by decide +kernel
theorem d_R_init_178 : decode b_R_init 178 = .ok (.putfield 75, 3) := by decide +kernel
theorem d_R_init_181 : decode b_R_init 181 = .ok (.aload_n 0, 1) := by decide +kernel
theorem d_R_init_182 : decode b_R_init 182 = .ok (.bipush 12, 2) := by decide +kernel
theorem d_R_init_184 : decode b_R_init 184 = .ok (.newarray .long, 2) := by decide +kernel
theorem d_R_init_186 : decode b_R_init 186 = .ok (.putfield 78, 3) := by decide +kernel
theorem d_R_init_189 : decode b_R_init 189 = .ok (.aload_n 0, 1) := by decide +kernel
theorem d_R_init_190 : decode b_R_init 190 = .ok (.bipush 12, 2) := by decide +kernel
theorem d_R_init_192 : decode b_R_init 192 = .ok (.newarray .int, 2) := by decide +kernel
theorem d_R_init_194 : decode b_R_init 194 = .ok (.putfield 81, 3) := by decide +kernel
theorem d_R_init_197 : decode b_R_init 197 = .ok (.aload_n 0, 1) := by decide +kernel
theorem d_R_init_198 : decode b_R_init 198 = .ok (.bipush 40, 2) := by decide +kernel
theorem d_R_init_200 : decode b_R_init 200 = .ok (.newarray .int, 2) := by decide +kernel
theorem d_R_init_202 : decode b_R_init 202 = .ok (.putfield 84, 3) := by decide +kernel
theorem d_R_init_205 : decode b_R_init 205 = .ok (.iconst 0, 1) := by decide +kernel
theorem d_R_init_206 : decode b_R_init 206 = .ok (.istore_n 1, 1) := by decide +kernel
theorem d_R_init_207 : decode b_R_init 207 = .ok (.iload_n 1, 1) := by decide +kernel
theorem d_R_init_208 : decode b_R_init 208 = .ok (.bipush 36, 2) := by decide +kernel
theorem d_R_init_210 : decode b_R_init 210 = .ok (.if_icmp .ge 25, 3) := by decide +kernel
theorem d_R_init_213 : decode b_R_init 213 = .ok (.aload_n 0, 1) := by decide +kernel
theorem d_R_init_214 : decode b_R_init 214 = .ok (.getfield 48, 3) := by decide +kernel
theorem d_R_init_217 : decode b_R_init 217 = .ok (.iload_n 1, 1) := by decide +kernel
theorem d_R_init_218 : decode b_R_init 218 = .ok (.iconst 1, 1) := by decide +kernel
theorem d_R_init_219 : decode b_R_init 219 = .ok (.iastore, 1) := by decide +kernel
theorem d_R_init_220 : decode b_R_init 220 = .ok (.aload_n 0, 1) := by decide +kernel
theorem d_R_init_221 : decode b_R_init 221 = .ok (.getfield 54, 3) := by decide +kernel
theorem d_R_init_224 : decode b_R_init 224 = .ok (.iload_n 1, 1) := by decide +kernel
theorem d_R_init_225 : decode b_R_init 225 = .ok (.sipush 1000, 3) := by decide +kernel
theorem d_R_init_228 : decode b_R_init 228 = .ok (.iastore, 1) := by decide +kernel
theorem d_R_init_229 : decode b_R_init 229 = .ok (.iinc 1 1, 3) := by decide +kernel
theorem d_R_init_232 : decode b_R_init 232 = .ok (.goto (-25), 3) := by decide +kernel
theorem d_R_init_235 : decode b_R_init 235 = .ok (.iconst 0, 1) := by decide +kernel
theorem d_R_init_236 : decode b_R_init 236 = .ok (.istore_n 1, 1) := by decide +kernel
theorem d_R_init_237 : decode b_R_init 237 = .ok (.iload_n 1, 1) := by decide +kernel
theorem d_R_init_238 : decode b_R_init 238 = .ok (.bipush 6, 2) := by decide +kernel
theorem d_R_init_240 : decode b_R_init 240 = .ok (.if_icmp .ge 16, 3) := by decide +kernel
theorem d_R_init_243 : decode b_R_init 243 = .ok (.aload_n 0, 1) := by decide +kernel
theorem d_R_init_244 : decode b_R_init 244 = .ok (.getfield 63, 3) := by decide +kernel
theorem d_R_init_247 : decode b_R_init 247 = .ok (.iload_n 1, 1) := by decide +kernel
theorem d_R_init_248 : decode b_R_init 248 = .ok (.iconst (-1), 1) := by decide +kernel
theorem d_R_init_249 : decode b_R_init 249 = .ok (.iastore, 1) := by decide +kernel
theorem d_R_init_250 : decode b_R_init 250 = .ok (.iinc 1 1, 3) := by decide +kernel
theorem d_R_init_253 : decode b_R_init 253 = .ok (.goto (-16), 3) := by decide +kernel
theorem d_R_init_256 : decode b_R_init 256 = .ok (.return_, 1) := by decide +kernel
theorem d_R_thrown_0 : decode b_R_thrown 0 = .ok (.aload_n 0, 1) := by decide +kernel
theorem d_R_thrown_1 : decode b_R_thrown 1 = .ok (.getfield 87, 3) := by decide +kernel
theorem d_R_thrown_4 : decode b_R_thrown 4 = .ok (.ireturn, 1) := by decide +kernel
theorem d_R_isIn_0 : decode b_R_isIn 0 = .ok (.iload_n 0, 1) := by decide +kernel
theorem d_R_isIn_1 : decode b_R_isIn 1 = .ok (.iload_n 1, 1) := by decide +kernel
theorem d_R_isIn_2 : decode b_R_isIn 2 = .ok (.if_icmp .lt 12, 3) := by decide +kernel
theorem d_R_isIn_5 : decode b_R_isIn 5 = .ok (.iload_n 0, 1) := by decide +kernel
theorem d_R_isIn_6 : decode b_R_isIn 6 = .ok (.iload_n 2, 1) := by decide +kernel
theorem d_R_isIn_7 : decode b_R_isIn 7 = .ok (.if_icmp .gt 7, 3) := by decide +kernel
theorem d_R_isIn_10 : decode b_R_isIn 10 = .ok (.iconst 1, 1) := by decide +kernel
theorem d_R_isIn_11 : decode b_R_isIn 11 = .ok (.goto 4, 3) := by decide +kernel
theorem d_R_isIn_14 : decode b_R_isIn 14 = .ok (.iconst 0, 1) := by decide +kernel
theorem d_R_isIn_15 : decode b_R_isIn 15 = .ok (.ireturn, 1) := by decide +kernel
theorem d_R_isNode_0 : decode b_R_isNode 0 = .ok (.iload_n 1, 1) := by decide +kernel
theorem d_R_isNode_1 : decode b_R_isNode 1 = .ok (.iconst 0, 1) := by decide +kernel
theorem d_R_isNode_2 : decode b_R_isNode 2 = .ok (.aload_n 0, 1) := by decide +kernel
theorem d_R_isNode_3 : decode b_R_isNode 3 = .ok (.getfield 91, 3) := by decide +kernel
theorem d_R_isNode_6 : decode b_R_isNode 6 = .ok (.iconst 1, 1) := by decide +kernel
theorem d_R_isNode_7 : decode b_R_isNode 7 = .ok (.isub, 1) := by decide +kernel
theorem d_R_isNode_8 : decode b_R_isNode 8 = .ok (.invokestatic 94, 3) := by decide +kernel
theorem d_R_isNode_11 : decode b_R_isNode 11 = .ok (.ireturn, 1) := by decide +kernel
theorem d_R_isZone_0 : decode b_R_isZone 0 = .ok (.iload_n 1, 1) := by decide +kernel
theorem d_R_isZone_1 : decode b_R_isZone 1 = .ok (.iconst 0, 1) := by decide +kernel
theorem d_R_isZone_2 : decode b_R_isZone 2 = .ok (.aload_n 0, 1) := by decide +kernel
theorem d_R_isZone_3 : decode b_R_isZone 3 = .ok (.getfield 98, 3) := by decide +kernel
theorem d_R_isZone_6 : decode b_R_isZone 6 = .ok (.iconst 1, 1) := by decide +kernel
theorem d_R_isZone_7 : decode b_R_isZone 7 = .ok (.isub, 1) := by decide +kernel
theorem d_R_isZone_8 : decode b_R_isZone 8 = .ok (.invokestatic 94, 3) := by decide +kernel
theorem d_R_isZone_11 : decode b_R_isZone 11 = .ok (.ireturn, 1) := by decide +kernel
theorem d_R_isPair_0 : decode b_R_isPair 0 = .ok (.aload_n 0, 1) := by decide +kernel
theorem d_R_isPair_1 : decode b_R_isPair 1 = .ok (.iload_n 1, 1) := by decide +kernel
theorem d_R_isPair_2 : decode b_R_isPair 2 = .ok (.invokevirtual 101, 3) := by decide +kernel
theorem d_R_isPair_5 : decode b_R_isPair 5 = .ok (.ifCond .eq 15, 3) := by decide +kernel
theorem d_R_isPair_8 : decode b_R_isPair 8 = .ok (.aload_n 0, 1) := by decide +kernel
theorem d_R_isPair_9 : decode b_R_isPair 9 = .ok (.iload_n 2, 1) := by decide +kernel
theorem d_R_isPair_10 : decode b_R_isPair 10 = .ok (.invokevirtual 101, 3) := by decide +kernel
theorem d_R_isPair_13 : decode b_R_isPair 13 = .ok (.ifCond .eq 7, 3) := by decide +kernel
theorem d_R_isPair_16 : decode b_R_isPair 16 = .ok (.iconst 1, 1) := by decide +kernel
theorem d_R_isPair_17 : decode b_R_isPair 17 = .ok (.goto 4, 3) := by decide +kernel
theorem d_R_isPair_20 : decode b_R_isPair 20 = .ok (.iconst 0, 1) := by decide +kernel
theorem d_R_isPair_21 : decode b_R_isPair 21 = .ok (.ireturn, 1) := by decide +kernel
theorem d_R_isStreet_0 : decode b_R_isStreet 0 = .ok (.iload_n 1, 1) := by decide +kernel
theorem d_R_isStreet_1 : decode b_R_isStreet 1 = .ok (.iconst 0, 1) := by decide +kernel
theorem d_R_isStreet_2 : decode b_R_isStreet 2 = .ok (.aload_n 0, 1) := by decide +kernel
theorem d_R_isStreet_3 : decode b_R_isStreet 3 = .ok (.getfield 105, 3) := by decide +kernel
theorem d_R_isStreet_6 : decode b_R_isStreet 6 = .ok (.iconst 1, 1) := by decide +kernel
theorem d_R_isStreet_7 : decode b_R_isStreet 7 = .ok (.isub, 1) := by decide +kernel
theorem d_R_isStreet_8 : decode b_R_isStreet 8 = .ok (.invokestatic 94, 3) := by decide +kernel
theorem d_R_isStreet_11 : decode b_R_isStreet 11 = .ok (.ireturn, 1) := by decide +kernel
theorem d_R_node_0 : decode b_R_node 0 = .ok (.aload_n 0, 1) := by decide +kernel
theorem d_R_node_1 : decode b_R_node 1 = .ok (.aload_n 0, 1) := by decide +kernel
theorem d_R_node_2 : decode b_R_node 2 = .ok (.getfield 91, 3) := by decide +kernel
theorem d_R_node_5 : decode b_R_node 5 = .ok (.bipush 12, 2) := by decide +kernel
theorem d_R_node_7 : decode b_R_node 7 = .ok (.if_icmp .ne 7, 3) := by decide +kernel
theorem d_R_node_10 : decode b_R_node 10 = .ok (.iconst 1, 1) := by decide +kernel
theorem d_R_node_11 : decode b_R_node 11 = .ok (.goto 4, 3) := by decide +kernel
theorem d_R_node_14 : decode b_R_node 14 = .ok (.iconst 0, 1) := by decide +kernel
theorem d_R_node_15 : decode b_R_node 15 = .ok (.putfield 87, 3) := by decide +kernel
theorem d_R_node_18 : decode b_R_node 18 = .ok (.aload_n 0, 1) := by decide +kernel
theorem d_R_node_19 : decode b_R_node 19 = .ok (.getfield 87, 3) := by decide +kernel
theorem d_R_node_22 : decode b_R_node 22 = .ok (.ifCond .le 5, 3) := by decide +kernel
theorem d_R_node_25 : decode b_R_node 25 = .ok (.iconst 0, 1) := by decide +kernel
theorem d_R_node_26 : decode b_R_node 26 = .ok (.ireturn, 1) := by decide +kernel
theorem d_R_node_27 : decode b_R_node 27 = .ok (.aload_n 0, 1) := by decide +kernel
theorem d_R_node_28 : decode b_R_node 28 = .ok (.dup, 1) := by decide +kernel
theorem d_R_node_29 : decode b_R_node 29 = .ok (.getfield 91, 3) := by decide +kernel
theorem d_R_node_32 : decode b_R_node 32 = .ok (.iconst 1, 1) := by decide +kernel
theorem d_R_node_33 : decode b_R_node 33 = .ok (.iadd, 1) := by decide +kernel
theorem d_R_node_34 : decode b_R_node 34 = .ok (.putfield 91, 3) := by decide +kernel
theorem d_R_node_37 : decode b_R_node 37 = .ok (.aload_n 0, 1) := by decide +kernel
theorem d_R_node_38 : decode b_R_node 38 = .ok (.getfield 91, 3) := by decide +kernel
theorem d_R_node_41 : decode b_R_node 41 = .ok (.iconst 1, 1) := by decide +kernel
theorem d_R_node_42 : decode b_R_node 42 = .ok (.isub, 1) := by decide +kernel
theorem d_R_node_43 : decode b_R_node 43 = .ok (.ireturn, 1) := by decide +kernel
theorem d_R_zone_0 : decode b_R_zone 0 = .ok (.aload_n 0, 1) := by decide +kernel
theorem d_R_zone_1 : decode b_R_zone 1 = .ok (.aload_n 0, 1) := by decide +kernel
theorem d_R_zone_2 : decode b_R_zone 2 = .ok (.iload_n 1, 1) := by decide +kernel
theorem d_R_zone_3 : decode b_R_zone 3 = .ok (.invokevirtual 108, 3) := by decide +kernel
theorem d_R_zone_6 : decode b_R_zone 6 = .ok (.ifCond .eq 23, 3) := by decide +kernel
theorem d_R_zone_9 : decode b_R_zone 9 = .ok (.iload_n 2, 1) := by decide +kernel
theorem d_R_zone_10 : decode b_R_zone 10 = .ok (.iconst 0, 1) := by decide +kernel
theorem d_R_zone_11 : decode b_R_zone 11 = .ok (.ldc 111, 2) := by decide +kernel
theorem d_R_zone_13 : decode b_R_zone 13 = .ok (.invokestatic 94, 3) := by decide +kernel
theorem d_R_zone_16 : decode b_R_zone 16 = .ok (.ifCond .eq 13, 3) := by decide +kernel
theorem d_R_zone_19 : decode b_R_zone 19 = .ok (.iload_n 3, 1) := by decide +kernel
theorem d_R_zone_20 : decode b_R_zone 20 = .ok (.iconst 0, 1) := by decide +kernel
theorem d_R_zone_21 : decode b_R_zone 21 = .ok (.ldc 111, 2) := by decide +kernel
theorem d_R_zone_23 : decode b_R_zone 23 = .ok (.invokestatic 94, 3) := by decide +kernel
theorem d_R_zone_26 : decode b_R_zone 26 = .ok (.ifCond .ne 7, 3) := by decide +kernel
theorem d_R_zone_29 : decode b_R_zone 29 = .ok (.iconst 1, 1) := by decide +kernel
theorem d_R_zone_30 : decode b_R_zone 30 = .ok (.goto 17, 3) := by decide +kernel
theorem d_R_zone_33 : decode b_R_zone 33 = .ok (.aload_n 0, 1) := by decide +kernel
theorem d_R_zone_34 : decode b_R_zone 34 = .ok (.getfield 98, 3) := by decide +kernel
theorem d_R_zone_37 : decode b_R_zone 37 = .ok (.bipush 6, 2) := by decide +kernel
theorem d_R_zone_39 : decode b_R_zone 39 = .ok (.if_icmp .ne 7, 3) := by decide +kernel
theorem d_R_zone_42 : decode b_R_zone 42 = .ok (.iconst 2, 1) := by decide +kernel
theorem d_R_zone_43 : decode b_R_zone 43 = .ok (.goto 4, 3) := by decide +kernel
theorem d_R_zone_46 : decode b_R_zone 46 = .ok (.iconst 0, 1) := by decide +kernel
theorem d_R_zone_47 : decode b_R_zone 47 = .ok (.putfield 87, 3) := by decide +kernel
theorem d_R_zone_50 : decode b_R_zone 50 = .ok (.aload_n 0, 1) := by decide +kernel
theorem d_R_zone_51 : decode b_R_zone 51 = .ok (.getfield 87, 3) := by decide +kernel
theorem d_R_zone_54 : decode b_R_zone 54 = .ok (.ifCond .le 5, 3) := by decide +kernel
theorem d_R_zone_57 : decode b_R_zone 57 = .ok (.iconst 0, 1) := by decide +kernel
theorem d_R_zone_58 : decode b_R_zone 58 = .ok (.ireturn, 1) := by decide +kernel
theorem d_R_zone_59 : decode b_R_zone 59 = .ok (.aload_n 0, 1) := by decide +kernel
theorem d_R_zone_60 : decode b_R_zone 60 = .ok (.getfield 7, 3) := by decide +kernel
theorem d_R_zone_63 : decode b_R_zone 63 = .ok (.aload_n 0, 1) := by decide +kernel
theorem d_R_zone_64 : decode b_R_zone 64 = .ok (.getfield 98, 3) := by decide +kernel
theorem d_R_zone_67 : decode b_R_zone 67 = .ok (.iload_n 1, 1) := by decide +kernel
theorem d_R_zone_68 : decode b_R_zone 68 = .ok (.iastore, 1) := by decide +kernel
theorem d_R_zone_69 : decode b_R_zone 69 = .ok (.aload_n 0, 1) := by decide +kernel
theorem d_R_zone_70 : decode b_R_zone 70 = .ok (.getfield 13, 3) := by decide +kernel
theorem d_R_zone_73 : decode b_R_zone 73 = .ok (.aload_n 0, 1) := by decide +kernel
theorem d_R_zone_74 : decode b_R_zone 74 = .ok (.getfield 98, 3) := by decide +kernel
theorem d_R_zone_77 : decode b_R_zone 77 = .ok (.iload_n 2, 1) := by decide +kernel
theorem d_R_zone_78 : decode b_R_zone 78 = .ok (.iastore, 1) := by decide +kernel
theorem d_R_zone_79 : decode b_R_zone 79 = .ok (.aload_n 0, 1) := by decide +kernel
theorem d_R_zone_80 : decode b_R_zone 80 = .ok (.getfield 16, 3) := by decide +kernel
theorem d_R_zone_83 : decode b_R_zone 83 = .ok (.aload_n 0, 1) := by decide +kernel
theorem d_R_zone_84 : decode b_R_zone 84 = .ok (.getfield 98, 3) := by decide +kernel
theorem d_R_zone_87 : decode b_R_zone 87 = .ok (.iload_n 3, 1) := by decide +kernel
theorem d_R_zone_88 : decode b_R_zone 88 = .ok (.iastore, 1) := by decide +kernel
theorem d_R_zone_89 : decode b_R_zone 89 = .ok (.aload_n 0, 1) := by decide +kernel
theorem d_R_zone_90 : decode b_R_zone 90 = .ok (.dup, 1) := by decide +kernel
theorem d_R_zone_91 : decode b_R_zone 91 = .ok (.getfield 98, 3) := by decide +kernel
theorem d_R_zone_94 : decode b_R_zone 94 = .ok (.iconst 1, 1) := by decide +kernel
theorem d_R_zone_95 : decode b_R_zone 95 = .ok (.iadd, 1) := by decide +kernel
theorem d_R_zone_96 : decode b_R_zone 96 = .ok (.putfield 98, 3) := by decide +kernel
theorem d_R_zone_99 : decode b_R_zone 99 = .ok (.aload_n 0, 1) := by decide +kernel
theorem d_R_zone_100 : decode b_R_zone 100 = .ok (.getfield 98, 3) := by decide +kernel
theorem d_R_zone_103 : decode b_R_zone 103 = .ok (.iconst 1, 1) := by decide +kernel
theorem d_R_zone_104 : decode b_R_zone 104 = .ok (.isub, 1) := by decide +kernel
theorem d_R_zone_105 : decode b_R_zone 105 = .ok (.ireturn, 1) := by decide +kernel
theorem d_R_street_0 : decode b_R_street 0 = .ok (.aload_n 0, 1) := by decide +kernel
theorem d_R_street_1 : decode b_R_street 1 = .ok (.iload_n 1, 1) := by decide +kernel
theorem d_R_street_2 : decode b_R_street 2 = .ok (.invokevirtual 108, 3) := by decide +kernel
theorem d_R_street_5 : decode b_R_street 5 = .ok (.ifCond .eq 54, 3) := by decide +kernel
theorem d_R_street_8 : decode b_R_street 8 = .ok (.aload_n 0, 1) := by decide +kernel
theorem d_R_street_9 : decode b_R_street 9 = .ok (.iload_n 2, 1) := by decide +kernel
theorem d_R_street_10 : decode b_R_street 10 = .ok (.invokevirtual 108, 3) := by decide +kernel
theorem d_R_street_13 : decode b_R_street 13 = .ok (.ifCond .eq 46, 3) := by decide +kernel
theorem d_R_street_16 : decode b_R_street 16 = .ok (.iload_n 1, 1) := by decide +kernel
theorem d_R_street_17 : decode b_R_street 17 = .ok (.iload_n 2, 1) := by decide +kernel
theorem d_R_street_18 : decode b_R_street 18 = .ok (.if_icmp .eq 41, 3) := by decide +kernel
theorem d_R_street_21 : decode b_R_street 21 = .ok (.iload_n 3, 1) := by decide +kernel
theorem d_R_street_22 : decode b_R_street 22 = .ok (.iconst 1, 1) := by decide +kernel
theorem d_R_street_23 : decode b_R_street 23 = .ok (.sipush 1000, 3) := by decide +kernel
theorem d_R_street_26 : decode b_R_street 26 = .ok (.invokestatic 94, 3) := by decide +kernel
theorem d_R_street_29 : decode b_R_street 29 = .ok (.ifCond .eq 30, 3) := by decide +kernel
theorem d_R_street_32 : decode b_R_street 32 = .ok (.iload 4, 2) := by decide +kernel
theorem d_R_street_34 : decode b_R_street 34 = .ok (.iconst 0, 1) := by decide +kernel
theorem d_R_street_35 : decode b_R_street 35 = .ok (.sipush 1000, 3) := by decide +kernel
theorem d_R_street_38 : decode b_R_street 38 = .ok (.invokestatic 94, 3) := by decide +kernel
theorem d_R_street_41 : decode b_R_street 41 = .ok (.ifCond .eq 18, 3) := by decide +kernel
theorem d_R_street_44 : decode b_R_street 44 = .ok (.iload 5, 2) := by decide +kernel
theorem d_R_street_46 : decode b_R_street 46 = .ok (.iconst 1, 1) := by decide +kernel
theorem d_R_street_47 : decode b_R_street 47 = .ok (.ldc 112, 2) := by decide +kernel
theorem d_R_street_49 : decode b_R_street 49 = .ok (.invokestatic 94, 3) := by decide +kernel
theorem d_R_street_52 : decode b_R_street 52 = .ok (.ifCond .eq 7, 3) := by decide +kernel
theorem d_R_street_55 : decode b_R_street 55 = .ok (.iconst 1, 1) := by decide +kernel
theorem d_R_street_56 : decode b_R_street 56 = .ok (.goto 4, 3) := by decide +kernel
theorem d_R_street_59 : decode b_R_street 59 = .ok (.iconst 0, 1) := by decide +kernel
theorem d_R_street_60 : decode b_R_street 60 = .ok (.istore 6, 2) := by decide +kernel
theorem d_R_street_62 : decode b_R_street 62 = .ok (.aload_n 0, 1) := by decide +kernel
theorem d_R_street_63 : decode b_R_street 63 = .ok (.iload 6, 2) := by decide +kernel
theorem d_R_street_65 : decode b_R_street 65 = .ok (.ifCond .ne 7, 3) := by decide +kernel
theorem d_R_street_68 : decode b_R_street 68 = .ok (.iconst 1, 1) := by decide +kernel
theorem d_R_street_69 : decode b_R_street 69 = .ok (.goto 17, 3) := by decide +kernel
theorem d_R_street_72 : decode b_R_street 72 = .ok (.aload_n 0, 1) := by decide +kernel
theorem d_R_street_73 : decode b_R_street 73 = .ok (.getfield 105, 3) := by decide +kernel
theorem d_R_street_76 : decode b_R_street 76 = .ok (.bipush 40, 2) := by decide +kernel
theorem d_R_street_78 : decode b_R_street 78 = .ok (.if_icmp .ne 7, 3) := by decide +kernel
theorem d_R_street_81 : decode b_R_street 81 = .ok (.iconst 2, 1) := by decide +kernel
theorem d_R_street_82 : decode b_R_street 82 = .ok (.goto 4, 3) := by decide +kernel
theorem d_R_street_85 : decode b_R_street 85 = .ok (.iconst 0, 1) := by decide +kernel
theorem d_R_street_86 : decode b_R_street 86 = .ok (.putfield 87, 3) := by decide +kernel
theorem d_R_street_89 : decode b_R_street 89 = .ok (.aload_n 0, 1) := by decide +kernel
theorem d_R_street_90 : decode b_R_street 90 = .ok (.getfield 87, 3) := by decide +kernel
theorem d_R_street_93 : decode b_R_street 93 = .ok (.ifCond .le 5, 3) := by decide +kernel
theorem d_R_street_96 : decode b_R_street 96 = .ok (.iconst 0, 1) := by decide +kernel
theorem d_R_street_97 : decode b_R_street 97 = .ok (.ireturn, 1) := by decide +kernel
theorem d_R_street_98 : decode b_R_street 98 = .ok (.aload_n 0, 1) := by decide +kernel
theorem d_R_street_99 : decode b_R_street 99 = .ok (.getfield 19, 3) := by decide +kernel
theorem d_R_street_102 : decode b_R_street 102 = .ok (.aload_n 0, 1) := by decide +kernel
theorem d_R_street_103 : decode b_R_street 103 = .ok (.getfield 105, 3) := by decide +kernel
theorem d_R_street_106 : decode b_R_street 106 = .ok (.iload_n 1, 1) := by decide +kernel
theorem d_R_street_107 : decode b_R_street 107 = .ok (.iastore, 1) := by decide +kernel
theorem d_R_street_108 : decode b_R_street 108 = .ok (.aload_n 0, 1) := by decide +kernel
theorem d_R_street_109 : decode b_R_street 109 = .ok (.getfield 22, 3) := by decide +kernel
theorem d_R_street_112 : decode b_R_street 112 = .ok (.aload_n 0, 1) := by decide +kernel
theorem d_R_street_113 : decode b_R_street 113 = .ok (.getfield 105, 3) := by decide +kernel
theorem d_R_street_116 : decode b_R_street 116 = .ok (.iload_n 2, 1) := by decide +kernel
theorem d_R_street_117 : decode b_R_street 117 = .ok (.iastore, 1) := by decide +kernel
theorem d_R_street_118 : decode b_R_street 118 = .ok (.aload_n 0, 1) := by decide +kernel
theorem d_R_street_119 : decode b_R_street 119 = .ok (.getfield 25, 3) := by decide +kernel
theorem d_R_street_122 : decode b_R_street 122 = .ok (.aload_n 0, 1) := by decide +kernel
theorem d_R_street_123 : decode b_R_street 123 = .ok (.getfield 105, 3) := by decide +kernel
theorem d_R_street_126 : decode b_R_street 126 = .ok (.iload_n 3, 1) := by decide +kernel
theorem d_R_street_127 : decode b_R_street 127 = .ok (.iastore, 1) := by decide +kernel
theorem d_R_street_128 : decode b_R_street 128 = .ok (.aload_n 0, 1) := by decide +kernel
theorem d_R_street_129 : decode b_R_street 129 = .ok (.getfield 28, 3) := by decide +kernel
theorem d_R_street_132 : decode b_R_street 132 = .ok (.aload_n 0, 1) := by decide +kernel
theorem d_R_street_133 : decode b_R_street 133 = .ok (.getfield 105, 3) := by decide +kernel
theorem d_R_street_136 : decode b_R_street 136 = .ok (.iload 4, 2) := by decide +kernel
theorem d_R_street_138 : decode b_R_street 138 = .ok (.iastore, 1) := by decide +kernel
theorem d_R_street_139 : decode b_R_street 139 = .ok (.aload_n 0, 1) := by decide +kernel
theorem d_R_street_140 : decode b_R_street 140 = .ok (.getfield 31, 3) := by decide +kernel
theorem d_R_street_143 : decode b_R_street 143 = .ok (.aload_n 0, 1) := by decide +kernel
theorem d_R_street_144 : decode b_R_street 144 = .ok (.getfield 105, 3) := by decide +kernel
theorem d_R_street_147 : decode b_R_street 147 = .ok (.iload 5, 2) := by decide +kernel
theorem d_R_street_149 : decode b_R_street 149 = .ok (.iastore, 1) := by decide +kernel
theorem d_R_street_150 : decode b_R_street 150 = .ok (.aload_n 0, 1) := by decide +kernel
theorem d_R_street_151 : decode b_R_street 151 = .ok (.getfield 41, 3) := by decide +kernel
theorem d_R_street_154 : decode b_R_street 154 = .ok (.aload_n 0, 1) := by decide +kernel
theorem d_R_street_155 : decode b_R_street 155 = .ok (.getfield 105, 3) := by decide +kernel
theorem d_R_street_158 : decode b_R_street 158 = .ok (.iconst (-1), 1) := by decide +kernel
theorem d_R_street_159 : decode b_R_street 159 = .ok (.iastore, 1) := by decide +kernel
theorem d_R_street_160 : decode b_R_street 160 = .ok (.aload_n 0, 1) := by decide +kernel
theorem d_R_street_161 : decode b_R_street 161 = .ok (.dup, 1) := by decide +kernel
theorem d_R_street_162 : decode b_R_street 162 = .ok (.getfield 105, 3) := by decide +kernel
theorem d_R_street_165 : decode b_R_street 165 = .ok (.iconst 1, 1) := by decide +kernel
theorem d_R_street_166 : decode b_R_street 166 = .ok (.iadd, 1) := by decide +kernel
theorem d_R_street_167 : decode b_R_street 167 = .ok (.putfield 105, 3) := by decide +kernel
theorem d_R_street_170 : decode b_R_street 170 = .ok (.aload_n 0, 1) := by decide +kernel
theorem d_R_street_171 : decode b_R_street 171 = .ok (.getfield 105, 3) := by decide +kernel
theorem d_R_street_174 : decode b_R_street 174 = .ok (.iconst 1, 1) := by decide +kernel
theorem d_R_street_175 : decode b_R_street 175 = .ok (.isub, 1) := by decide +kernel
theorem d_R_street_176 : decode b_R_street 176 = .ok (.ireturn, 1) := by decide +kernel
theorem d_R_toll_0 : decode b_R_toll 0 = .ok (.aload_n 0, 1) := by decide +kernel
theorem d_R_toll_1 : decode b_R_toll 1 = .ok (.aload_n 0, 1) := by decide +kernel
theorem d_R_toll_2 : decode b_R_toll 2 = .ok (.iload_n 1, 1) := by decide +kernel
theorem d_R_toll_3 : decode b_R_toll 3 = .ok (.invokevirtual 113, 3) := by decide +kernel
theorem d_R_toll_6 : decode b_R_toll 6 = .ok (.ifCond .eq 18, 3) := by decide +kernel
theorem d_R_toll_9 : decode b_R_toll 9 = .ok (.iload_n 2, 1) := by decide +kernel
theorem d_R_toll_10 : decode b_R_toll 10 = .ok (.iconst 0, 1) := by decide +kernel
theorem d_R_toll_11 : decode b_R_toll 11 = .ok (.sipush 1000, 3) := by decide +kernel
theorem d_R_toll_14 : decode b_R_toll 14 = .ok (.invokestatic 94, 3) := by decide +kernel
theorem d_R_toll_17 : decode b_R_toll 17 = .ok (.ifCond .eq 7, 3) := by decide +kernel
theorem d_R_toll_20 : decode b_R_toll 20 = .ok (.iconst 0, 1) := by decide +kernel
theorem d_R_toll_21 : decode b_R_toll 21 = .ok (.goto 4, 3) := by decide +kernel
theorem d_R_toll_24 : decode b_R_toll 24 = .ok (.iconst 1, 1) := by decide +kernel
theorem d_R_toll_25 : decode b_R_toll 25 = .ok (.putfield 87, 3) := by decide +kernel
theorem d_R_toll_28 : decode b_R_toll 28 = .ok (.aload_n 0, 1) := by decide +kernel
theorem d_R_toll_29 : decode b_R_toll 29 = .ok (.getfield 87, 3) := by decide +kernel
theorem d_R_toll_32 : decode b_R_toll 32 = .ok (.ifCond .le 5, 3) := by decide +kernel
theorem d_R_toll_35 : decode b_R_toll 35 = .ok (.iconst 0, 1) := by decide +kernel
theorem d_R_toll_36 : decode b_R_toll 36 = .ok (.ireturn, 1) := by decide +kernel
theorem d_R_toll_37 : decode b_R_toll 37 = .ok (.aload_n 0, 1) := by decide +kernel
theorem d_R_toll_38 : decode b_R_toll 38 = .ok (.getfield 34, 3) := by decide +kernel
theorem d_R_toll_41 : decode b_R_toll 41 = .ok (.iload_n 1, 1) := by decide +kernel
theorem d_R_toll_42 : decode b_R_toll 42 = .ok (.iaload, 1) := by decide +kernel
theorem d_R_toll_43 : decode b_R_toll 43 = .ok (.istore_n 3, 1) := by decide +kernel
theorem d_R_toll_44 : decode b_R_toll 44 = .ok (.aload_n 0, 1) := by decide +kernel
theorem d_R_toll_45 : decode b_R_toll 45 = .ok (.getfield 34, 3) := by decide +kernel
theorem d_R_toll_48 : decode b_R_toll 48 = .ok (.iload_n 1, 1) := by decide +kernel
theorem d_R_toll_49 : decode b_R_toll 49 = .ok (.iload_n 2, 1) := by decide +kernel
theorem d_R_toll_50 : decode b_R_toll 50 = .ok (.iastore, 1) := by decide +kernel
theorem d_R_toll_51 : decode b_R_toll 51 = .ok (.iload_n 3, 1) := by decide +kernel
theorem d_R_toll_52 : decode b_R_toll 52 = .ok (.ireturn, 1) := by decide +kernel
theorem d_R_open_0 : decode b_R_open 0 = .ok (.aload_n 0, 1) := by decide +kernel
theorem d_R_open_1 : decode b_R_open 1 = .ok (.aload_n 0, 1) := by decide +kernel
theorem d_R_open_2 : decode b_R_open 2 = .ok (.iload_n 1, 1) := by decide +kernel
theorem d_R_open_3 : decode b_R_open 3 = .ok (.invokevirtual 113, 3) := by decide +kernel
theorem d_R_open_6 : decode b_R_open 6 = .ok (.ifCond .eq 7, 3) := by decide +kernel
theorem d_R_open_9 : decode b_R_open 9 = .ok (.iconst 0, 1) := by decide +kernel
theorem d_R_open_10 : decode b_R_open 10 = .ok (.goto 4, 3) := by decide +kernel
theorem d_R_open_13 : decode b_R_open 13 = .ok (.iconst 1, 1) := by decide +kernel
theorem d_R_open_14 : decode b_R_open 14 = .ok (.putfield 87, 3) := by decide +kernel
theorem d_R_open_17 : decode b_R_open 17 = .ok (.aload_n 0, 1) := by decide +kernel
theorem d_R_open_18 : decode b_R_open 18 = .ok (.getfield 87, 3) := by decide +kernel
theorem d_R_open_21 : decode b_R_open 21 = .ok (.ifCond .le 5, 3) := by decide +kernel
theorem d_R_open_24 : decode b_R_open 24 = .ok (.iconst 0, 1) := by decide +kernel
theorem d_R_open_25 : decode b_R_open 25 = .ok (.ireturn, 1) := by decide +kernel
theorem d_R_open_26 : decode b_R_open 26 = .ok (.aload_n 0, 1) := by decide +kernel
theorem d_R_open_27 : decode b_R_open 27 = .ok (.getfield 37, 3) := by decide +kernel
theorem d_R_open_30 : decode b_R_open 30 = .ok (.iload_n 1, 1) := by decide +kernel
theorem d_R_open_31 : decode b_R_open 31 = .ok (.baload, 1) := by decide +kernel
theorem d_R_open_32 : decode b_R_open 32 = .ok (.ifCond .ne 7, 3) := by decide +kernel
theorem d_R_open_35 : decode b_R_open 35 = .ok (.iconst 1, 1) := by decide +kernel
theorem d_R_open_36 : decode b_R_open 36 = .ok (.goto 4, 3) := by decide +kernel
theorem d_R_open_39 : decode b_R_open 39 = .ok (.iconst 0, 1) := by decide +kernel
theorem d_R_open_40 : decode b_R_open 40 = .ok (.istore_n 3, 1) := by decide +kernel
theorem d_R_open_41 : decode b_R_open 41 = .ok (.aload_n 0, 1) := by decide +kernel
theorem d_R_open_42 : decode b_R_open 42 = .ok (.getfield 37, 3) := by decide +kernel
theorem d_R_open_45 : decode b_R_open 45 = .ok (.iload_n 1, 1) := by decide +kernel
theorem d_R_open_46 : decode b_R_open 46 = .ok (.iload_n 2, 1) := by decide +kernel
theorem d_R_open_47 : decode b_R_open 47 = .ok (.ifCond .ne 7, 3) := by decide +kernel
theorem d_R_open_50 : decode b_R_open 50 = .ok (.iconst 1, 1) := by decide +kernel
theorem d_R_open_51 : decode b_R_open 51 = .ok (.goto 4, 3) := by decide +kernel
theorem d_R_open_54 : decode b_R_open 54 = .ok (.iconst 0, 1) := by decide +kernel
theorem d_R_open_55 : decode b_R_open 55 = .ok (.bastore, 1) := by decide +kernel
theorem d_R_open_56 : decode b_R_open 56 = .ok (.iload_n 3, 1) := by decide +kernel
theorem d_R_open_57 : decode b_R_open 57 = .ok (.ireturn, 1) := by decide +kernel
theorem d_R_weight_0 : decode b_R_weight 0 = .ok (.aload_n 0, 1) := by decide +kernel
theorem d_R_weight_1 : decode b_R_weight 1 = .ok (.aload_n 0, 1) := by decide +kernel
theorem d_R_weight_2 : decode b_R_weight 2 = .ok (.iload_n 1, 1) := by decide +kernel
theorem d_R_weight_3 : decode b_R_weight 3 = .ok (.iload_n 2, 1) := by decide +kernel
theorem d_R_weight_4 : decode b_R_weight 4 = .ok (.invokevirtual 116, 3) := by decide +kernel
theorem d_R_weight_7 : decode b_R_weight 7 = .ok (.ifCond .eq 18, 3) := by decide +kernel
theorem d_R_weight_10 : decode b_R_weight 10 = .ok (.iload_n 3, 1) := by decide +kernel
theorem d_R_weight_11 : decode b_R_weight 11 = .ok (.iconst 0, 1) := by decide +kernel
theorem d_R_weight_12 : decode b_R_weight 12 = .ok (.sipush 1000, 3) := by decide +kernel
theorem d_R_weight_15 : decode b_R_weight 15 = .ok (.invokestatic 94, 3) := by decide +kernel
theorem d_R_weight_18 : decode b_R_weight 18 = .ok (.ifCond .eq 7, 3) := by decide +kernel
theorem d_R_weight_21 : decode b_R_weight 21 = .ok (.iconst 0, 1) := by decide +kernel
theorem d_R_weight_22 : decode b_R_weight 22 = .ok (.goto 4, 3) := by decide +kernel
theorem d_R_weight_25 : decode b_R_weight 25 = .ok (.iconst 1, 1) := by decide +kernel
theorem d_R_weight_26 : decode b_R_weight 26 = .ok (.putfield 87, 3) := by decide +kernel
theorem d_R_weight_29 : decode b_R_weight 29 = .ok (.aload_n 0, 1) := by decide +kernel
theorem d_R_weight_30 : decode b_R_weight 30 = .ok (.getfield 87, 3) := by decide +kernel
theorem d_R_weight_33 : decode b_R_weight 33 = .ok (.ifCond .le 5, 3) := by decide +kernel
theorem d_R_weight_36 : decode b_R_weight 36 = .ok (.iconst 0, 1) := by decide +kernel
theorem d_R_weight_37 : decode b_R_weight 37 = .ok (.ireturn, 1) := by decide +kernel
theorem d_R_weight_38 : decode b_R_weight 38 = .ok (.aload_n 0, 1) := by decide +kernel
theorem d_R_weight_39 : decode b_R_weight 39 = .ok (.getfield 48, 3) := by decide +kernel
theorem d_R_weight_42 : decode b_R_weight 42 = .ok (.bipush 6, 2) := by decide +kernel
theorem d_R_weight_44 : decode b_R_weight 44 = .ok (.iload_n 1, 1) := by decide +kernel
theorem d_R_weight_45 : decode b_R_weight 45 = .ok (.imul, 1) := by decide +kernel
theorem d_R_weight_46 : decode b_R_weight 46 = .ok (.iload_n 2, 1) := by decide +kernel
theorem d_R_weight_47 : decode b_R_weight 47 = .ok (.iadd, 1) := by decide +kernel
theorem d_R_weight_48 : decode b_R_weight 48 = .ok (.iaload, 1) := by decide +kernel
theorem d_R_weight_49 : decode b_R_weight 49 = .ok (.istore 4, 2) := by decide +kernel
theorem d_R_weight_51 : decode b_R_weight 51 = .ok (.aload_n 0, 1) := by decide +kernel
theorem d_R_weight_52 : decode b_R_weight 52 = .ok (.getfield 48, 3) := by decide +kernel
theorem d_R_weight_55 : decode b_R_weight 55 = .ok (.bipush 6, 2) := by decide +kernel
theorem d_R_weight_57 : decode b_R_weight 57 = .ok (.iload_n 1, 1) := by decide +kernel
theorem d_R_weight_58 : decode b_R_weight 58 = .ok (.imul, 1) := by decide +kernel
theorem d_R_weight_59 : decode b_R_weight 59 = .ok (.iload_n 2, 1) := by decide +kernel
theorem d_R_weight_60 : decode b_R_weight 60 = .ok (.iadd, 1) := by decide +kernel
theorem d_R_weight_61 : decode b_R_weight 61 = .ok (.iload_n 3, 1) := by decide +kernel
theorem d_R_weight_62 : decode b_R_weight 62 = .ok (.iastore, 1) := by decide +kernel
theorem d_R_weight_63 : decode b_R_weight 63 = .ok (.iload 4, 2) := by decide +kernel
theorem d_R_weight_65 : decode b_R_weight 65 = .ok (.ireturn, 1) := by decide +kernel
theorem d_R_size_0 : decode b_R_size 0 = .ok (.aload_n 0, 1) := by decide +kernel
theorem d_R_size_1 : decode b_R_size 1 = .ok (.aload_n 0, 1) := by decide +kernel
theorem d_R_size_2 : decode b_R_size 2 = .ok (.iload_n 1, 1) := by decide +kernel
theorem d_R_size_3 : decode b_R_size 3 = .ok (.invokevirtual 101, 3) := by decide +kernel
theorem d_R_size_6 : decode b_R_size 6 = .ok (.ifCond .eq 26, 3) := by decide +kernel
theorem d_R_size_9 : decode b_R_size 9 = .ok (.iload_n 2, 1) := by decide +kernel
theorem d_R_size_10 : decode b_R_size 10 = .ok (.iconst 0, 1) := by decide +kernel
theorem d_R_size_11 : decode b_R_size 11 = .ok (.iconst 1, 1) := by decide +kernel
theorem d_R_size_12 : decode b_R_size 12 = .ok (.invokestatic 94, 3) := by decide +kernel
theorem d_R_size_15 : decode b_R_size 15 = .ok (.ifCond .eq 17, 3) := by decide +kernel
theorem d_R_size_18 : decode b_R_size 18 = .ok (.iload_n 3, 1) := by decide +kernel
theorem d_R_size_19 : decode b_R_size 19 = .ok (.iconst 0, 1) := by decide +kernel
theorem d_R_size_20 : decode b_R_size 20 = .ok (.ldc 111, 2) := by decide +kernel
theorem d_R_size_22 : decode b_R_size 22 = .ok (.invokestatic 94, 3) := by decide +kernel
theorem d_R_size_25 : decode b_R_size 25 = .ok (.ifCond .eq 7, 3) := by decide +kernel
theorem d_R_size_28 : decode b_R_size 28 = .ok (.iconst 0, 1) := by decide +kernel
theorem d_R_size_29 : decode b_R_size 29 = .ok (.goto 4, 3) := by decide +kernel
theorem d_R_size_32 : decode b_R_size 32 = .ok (.iconst 1, 1) := by decide +kernel
theorem d_R_size_33 : decode b_R_size 33 = .ok (.putfield 87, 3) := by decide +kernel
theorem d_R_size_36 : decode b_R_size 36 = .ok (.aload_n 0, 1) := by decide +kernel
theorem d_R_size_37 : decode b_R_size 37 = .ok (.getfield 87, 3) := by decide +kernel
theorem d_R_size_40 : decode b_R_size 40 = .ok (.ifCond .le 5, 3) := by decide +kernel
theorem d_R_size_43 : decode b_R_size 43 = .ok (.iconst 0, 1) := by decide +kernel
theorem d_R_size_44 : decode b_R_size 44 = .ok (.ireturn, 1) := by decide +kernel
theorem d_R_size_45 : decode b_R_size 45 = .ok (.iload_n 2, 1) := by decide +kernel
theorem d_R_size_46 : decode b_R_size 46 = .ok (.ifCond .ne 12, 3) := by decide +kernel
theorem d_R_size_49 : decode b_R_size 49 = .ok (.aload_n 0, 1) := by decide +kernel
theorem d_R_size_50 : decode b_R_size 50 = .ok (.getfield 13, 3) := by decide +kernel
theorem d_R_size_53 : decode b_R_size 53 = .ok (.iload_n 1, 1) := by decide +kernel
theorem d_R_size_54 : decode b_R_size 54 = .ok (.iaload, 1) := by decide +kernel
theorem d_R_size_55 : decode b_R_size 55 = .ok (.goto 9, 3) := by decide +kernel
theorem d_R_size_58 : decode b_R_size 58 = .ok (.aload_n 0, 1) := by decide +kernel
theorem d_R_size_59 : decode b_R_size 59 = .ok (.getfield 16, 3) := by decide +kernel
theorem d_R_size_62 : decode b_R_size 62 = .ok (.iload_n 1, 1) := by decide +kernel
theorem d_R_size_63 : decode b_R_size 63 = .ok (.iaload, 1) := by decide +kernel
theorem d_R_size_64 : decode b_R_size 64 = .ok (.istore 4, 2) := by decide +kernel
theorem d_R_size_66 : decode b_R_size 66 = .ok (.iload_n 2, 1) := by decide +kernel
theorem d_R_size_67 : decode b_R_size 67 = .ok (.ifCond .ne 13, 3) := by decide +kernel
theorem d_R_size_70 : decode b_R_size 70 = .ok (.aload_n 0, 1) := by decide +kernel
theorem d_R_size_71 : decode b_R_size 71 = .ok (.getfield 13, 3) := by decide +kernel
theorem d_R_size_74 : decode b_R_size 74 = .ok (.iload_n 1, 1) := by decide +kernel
theorem d_R_size_75 : decode b_R_size 75 = .ok (.iload_n 3, 1) := by decide +kernel
theorem d_R_size_76 : decode b_R_size 76 = .ok (.iastore, 1) := by decide +kernel
theorem d_R_size_77 : decode b_R_size 77 = .ok (.goto 10, 3) := by decide +kernel
theorem d_R_size_80 : decode b_R_size 80 = .ok (.aload_n 0, 1) := by decide +kernel
theorem d_R_size_81 : decode b_R_size 81 = .ok (.getfield 16, 3) := by decide +kernel
theorem d_R_size_84 : decode b_R_size 84 = .ok (.iload_n 1, 1) := by decide +kernel
theorem d_R_size_85 : decode b_R_size 85 = .ok (.iload_n 3, 1) := by decide +kernel
theorem d_R_size_86 : decode b_R_size 86 = .ok (.iastore, 1) := by decide +kernel
theorem d_R_size_87 : decode b_R_size 87 = .ok (.iload 4, 2) := by decide +kernel
theorem d_R_size_89 : decode b_R_size 89 = .ok (.ireturn, 1) := by decide +kernel
theorem d_R_share_0 : decode b_R_share 0 = .ok (.lconst 0, 1) := by decide +kernel
theorem d_R_share_1 : decode b_R_share 1 = .ok (.lstore 4, 2) := by decide +kernel
theorem d_R_share_3 : decode b_R_share 3 = .ok (.iconst 0, 1) := by decide +kernel
theorem d_R_share_4 : decode b_R_share 4 = .ok (.istore 6, 2) := by decide +kernel
theorem d_R_share_6 : decode b_R_share 6 = .ok (.iload 6, 2) := by decide +kernel
theorem d_R_share_8 : decode b_R_share 8 = .ok (.iload_n 3, 1) := by decide +kernel
theorem d_R_share_9 : decode b_R_share 9 = .ok (.if_icmp .ge 21, 3) := by decide +kernel
theorem d_R_share_12 : decode b_R_share 12 = .ok (.lload 4, 2) := by decide +kernel
theorem d_R_share_14 : decode b_R_share 14 = .ok (.aload_n 0, 1) := by decide +kernel
theorem d_R_share_15 : decode b_R_share 15 = .ok (.getfield 66, 3) := by decide +kernel
theorem d_R_share_18 : decode b_R_share 18 = .ok (.iload 6, 2) := by decide +kernel
theorem d_R_share_20 : decode b_R_share 20 = .ok (.laload, 1) := by decide +kernel
theorem d_R_share_21 : decode b_R_share 21 = .ok (.ladd, 1) := by decide +kernel
theorem d_R_share_22 : decode b_R_share 22 = .ok (.lstore 4, 2) := by decide +kernel
theorem d_R_share_24 : decode b_R_share 24 = .ok (.iinc 6 1, 3) := by decide +kernel
theorem d_R_share_27 : decode b_R_share 27 = .ok (.goto (-21), 3) := by decide +kernel
theorem d_R_share_30 : decode b_R_share 30 = .ok (.lload_n 1, 1) := by decide +kernel
theorem d_R_share_31 : decode b_R_share 31 = .ok (.lstore 6, 2) := by decide +kernel
theorem d_R_share_33 : decode b_R_share 33 = .ok (.iconst 0, 1) := by decide +kernel
theorem d_R_share_34 : decode b_R_share 34 = .ok (.istore 8, 2) := by decide +kernel
theorem d_R_share_36 : decode b_R_share 36 = .ok (.iload 8, 2) := by decide +kernel
theorem d_R_share_38 : decode b_R_share 38 = .ok (.iload_n 3, 1) := by decide +kernel
theorem d_R_share_39 : decode b_R_share 39 = .ok (.if_icmp .ge 83, 3) := by decide +kernel
theorem d_R_share_42 : decode b_R_share 42 = .ok (.aload_n 0, 1) := by decide +kernel
theorem d_R_share_43 : decode b_R_share 43 = .ok (.getfield 72, 3) := by decide +kernel
theorem d_R_share_46 : decode b_R_share 46 = .ok (.iload 8, 2) := by decide +kernel
theorem d_R_share_48 : decode b_R_share 48 = .ok (.lload 4, 2) := by decide +kernel
theorem d_R_share_50 : decode b_R_share 50 = .ok (.lconst 0, 1) := by decide +kernel
theorem d_R_share_51 : decode b_R_share 51 = .ok (.lcmp, 1) := by decide +kernel
theorem d_R_share_52 : decode b_R_share 52 = .ok (.ifCond .ne 7, 3) := by decide +kernel
theorem d_R_share_55 : decode b_R_share 55 = .ok (.iconst 0, 1) := by decide +kernel
theorem d_R_share_56 : decode b_R_share 56 = .ok (.goto 16, 3) := by decide +kernel
theorem d_R_share_59 : decode b_R_share 59 = .ok (.lload_n 1, 1) := by decide +kernel
theorem d_R_share_60 : decode b_R_share 60 = .ok (.aload_n 0, 1) := by decide +kernel
theorem d_R_share_61 : decode b_R_share 61 = .ok (.getfield 66, 3) := by decide +kernel
theorem d_R_share_64 : decode b_R_share 64 = .ok (.iload 8, 2) := by decide +kernel
theorem d_R_share_66 : decode b_R_share 66 = .ok (.laload, 1) := by decide +kernel
theorem d_R_share_67 : decode b_R_share 67 = .ok (.lmul, 1) := by decide +kernel
theorem d_R_share_68 : decode b_R_share 68 = .ok (.lload 4, 2) := by decide +kernel
theorem d_R_share_70 : decode b_R_share 70 = .ok (.ldiv, 1) := by decide +kernel
theorem d_R_share_71 : decode b_R_share 71 = .ok (.l2i, 1) := by decide +kernel
theorem d_R_share_72 : decode b_R_share 72 = .ok (.iastore, 1) := by decide +kernel
theorem d_R_share_73 : decode b_R_share 73 = .ok (.aload_n 0, 1) := by decide +kernel
theorem d_R_share_74 : decode b_R_share 74 = .ok (.getfield 69, 3) := by decide +kernel
theorem d_R_share_77 : decode b_R_share 77 = .ok (.iload 8, 2) := by decide +kernel
theorem d_R_share_79 : decode b_R_share 79 = .ok (.lload 4, 2) := by decide +kernel
theorem d_R_share_81 : decode b_R_share 81 = .ok (.lconst 0, 1) := by decide +kernel
theorem d_R_share_82 : decode b_R_share 82 = .ok (.lcmp, 1) := by decide +kernel
theorem d_R_share_83 : decode b_R_share 83 = .ok (.ifCond .ne 7, 3) := by decide +kernel
theorem d_R_share_86 : decode b_R_share 86 = .ok (.lconst 0, 1) := by decide +kernel
theorem d_R_share_87 : decode b_R_share 87 = .ok (.goto 15, 3) := by decide +kernel
theorem d_R_share_90 : decode b_R_share 90 = .ok (.lload_n 1, 1) := by decide +kernel
theorem d_R_share_91 : decode b_R_share 91 = .ok (.aload_n 0, 1) := by decide +kernel
theorem d_R_share_92 : decode b_R_share 92 = .ok (.getfield 66, 3) := by decide +kernel
theorem d_R_share_95 : decode b_R_share 95 = .ok (.iload 8, 2) := by decide +kernel
theorem d_R_share_97 : decode b_R_share 97 = .ok (.laload, 1) := by decide +kernel
theorem d_R_share_98 : decode b_R_share 98 = .ok (.lmul, 1) := by decide +kernel
theorem d_R_share_99 : decode b_R_share 99 = .ok (.lload 4, 2) := by decide +kernel
theorem d_R_share_101 : decode b_R_share 101 = .ok (.lrem, 1) := by decide +kernel
theorem d_R_share_102 : decode b_R_share 102 = .ok (.lastore, 1) := by decide +kernel
theorem d_R_share_103 : decode b_R_share 103 = .ok (.lload 6, 2) := by decide +kernel
theorem d_R_share_105 : decode b_R_share 105 = .ok (.aload_n 0, 1) := by decide +kernel
theorem d_R_share_106 : decode b_R_share 106 = .ok (.getfield 72, 3) := by decide +kernel
theorem d_R_share_109 : decode b_R_share 109 = .ok (.iload 8, 2) := by decide +kernel
theorem d_R_share_111 : decode b_R_share 111 = .ok (.iaload, 1) := by decide +kernel
theorem d_R_share_112 : decode b_R_share 112 = .ok (.i2l, 1) := by decide +kernel
theorem d_R_share_113 : decode b_R_share 113 = .ok (.lsub, 1) := by decide +kernel
theorem d_R_share_114 : decode b_R_share 114 = .ok (.lstore 6, 2) := by decide +kernel
theorem d_R_share_116 : decode b_R_share 116 = .ok (.iinc 8 1, 3) := by decide +kernel
theorem d_R_share_119 : decode b_R_share 119 = .ok (.goto (-83), 3) := by decide +kernel
theorem d_R_share_122 : decode b_R_share 122 = .ok (.lload 4, 2) := by decide +kernel
theorem d_R_share_124 : decode b_R_share 124 = .ok (.lconst 0, 1) := by decide +kernel
theorem d_R_share_125 : decode b_R_share 125 = .ok (.lcmp, 1) := by decide +kernel
theorem d_R_share_126 : decode b_R_share 126 = .ok (.ifCond .le 85, 3) := by decide +kernel
theorem d_R_share_129 : decode b_R_share 129 = .ok (.lload 6, 2) := by decide +kernel
theorem d_R_share_131 : decode b_R_share 131 = .ok (.lconst 0, 1) := by decide +kernel
theorem d_R_share_132 : decode b_R_share 132 = .ok (.lcmp, 1) := by decide +kernel
theorem d_R_share_133 : decode b_R_share 133 = .ok (.ifCond .le 78, 3) := by decide +kernel
theorem d_R_share_136 : decode b_R_share 136 = .ok (.iconst 0, 1) := by decide +kernel
theorem d_R_share_137 : decode b_R_share 137 = .ok (.istore 8, 2) := by decide +kernel
theorem d_R_share_139 : decode b_R_share 139 = .ok (.iconst 1, 1) := by decide +kernel
theorem d_R_share_140 : decode b_R_share 140 = .ok (.istore 9, 2) := by decide +kernel
theorem d_R_share_142 : decode b_R_share 142 = .ok (.iload 9, 2) := by decide +kernel
theorem d_R_share_144 : decode b_R_share 144 = .ok (.iload_n 3, 1) := by decide +kernel
theorem d_R_share_145 : decode b_R_share 145 = .ok (.if_icmp .ge 36, 3) := by decide +kernel
theorem d_R_share_148 : decode b_R_share 148 = .ok (.aload_n 0, 1) := by decide +kernel
theorem d_R_share_149 : decode b_R_share 149 = .ok (.getfield 69, 3) := by decide +kernel
theorem d_R_share_152 : decode b_R_share 152 = .ok (.iload 9, 2) := by decide +kernel
theorem d_R_share_154 : decode b_R_share 154 = .ok (.laload, 1) := by decide +kernel
theorem d_R_share_155 : decode b_R_share 155 = .ok (.aload_n 0, 1) := by decide +kernel
theorem d_R_share_156 : decode b_R_share 156 = .ok (.getfield 69, 3) := by decide +kernel
theorem d_R_share_159 : decode b_R_share 159 = .ok (.iload 8, 2) := by decide +kernel
theorem d_R_share_161 : decode b_R_share 161 = .ok (.laload, 1) := by decide +kernel
theorem d_R_share_162 : decode b_R_share 162 = .ok (.lcmp, 1) := by decide +kernel
theorem d_R_share_163 : decode b_R_share 163 = .ok (.ifCond .le 8, 3) := by decide +kernel
theorem d_R_share_166 : decode b_R_share 166 = .ok (.iload 9, 2) := by decide +kernel
theorem d_R_share_168 : decode b_R_share 168 = .ok (.goto 5, 3) := by decide +kernel
theorem d_R_share_171 : decode b_R_share 171 = .ok (.iload 8, 2) := by decide +kernel
theorem d_R_share_173 : decode b_R_share 173 = .ok (.istore 8, 2) := by decide +kernel
theorem d_R_share_175 : decode b_R_share 175 = .ok (.iinc 9 1, 3) := by decide +kernel
theorem d_R_share_178 : decode b_R_share 178 = .ok (.goto (-36), 3) := by decide +kernel
theorem d_R_share_181 : decode b_R_share 181 = .ok (.aload_n 0, 1) := by decide +kernel
theorem d_R_share_182 : decode b_R_share 182 = .ok (.getfield 72, 3) := by decide +kernel
theorem d_R_share_185 : decode b_R_share 185 = .ok (.iload 8, 2) := by decide +kernel
theorem d_R_share_187 : decode b_R_share 187 = .ok (.dup2, 1) := by decide +kernel
theorem d_R_share_188 : decode b_R_share 188 = .ok (.iaload, 1) := by decide +kernel
theorem d_R_share_189 : decode b_R_share 189 = .ok (.iconst 1, 1) := by decide +kernel
theorem d_R_share_190 : decode b_R_share 190 = .ok (.iadd, 1) := by decide +kernel
theorem d_R_share_191 : decode b_R_share 191 = .ok (.iastore, 1) := by decide +kernel
theorem d_R_share_192 : decode b_R_share 192 = .ok (.aload_n 0, 1) := by decide +kernel
theorem d_R_share_193 : decode b_R_share 193 = .ok (.getfield 69, 3) := by decide +kernel
theorem d_R_share_196 : decode b_R_share 196 = .ok (.iload 8, 2) := by decide +kernel
theorem d_R_share_198 : decode b_R_share 198 = .ok (.ldc2_w 120, 3) := by decide +kernel
theorem d_R_share_201 : decode b_R_share 201 = .ok (.lastore, 1) := by decide +kernel
theorem d_R_share_202 : decode b_R_share 202 = .ok (.lload 6, 2) := by decide +kernel
theorem d_R_share_204 : decode b_R_share 204 = .ok (.lconst 1, 1) := by decide +kernel
theorem d_R_share_205 : decode b_R_share 205 = .ok (.lsub, 1) := by decide +kernel
theorem d_R_share_206 : decode b_R_share 206 = .ok (.lstore 6, 2) := by decide +kernel
theorem d_R_share_208 : decode b_R_share 208 = .ok (.goto (-86), 3) := by decide +kernel
theorem d_R_share_211 : decode b_R_share 211 = .ok (.return_, 1) := by decide +kernel
theorem d_R_sumTo_0 : decode b_R_sumTo 0 = .ok (.lconst 0, 1) := by decide +kernel
theorem d_R_sumTo_1 : decode b_R_sumTo 1 = .ok (.lstore_n 2, 1) := by decide +kernel
theorem d_R_sumTo_2 : decode b_R_sumTo 2 = .ok (.iconst 0, 1) := by decide +kernel
theorem d_R_sumTo_3 : decode b_R_sumTo 3 = .ok (.istore 4, 2) := by decide +kernel
theorem d_R_sumTo_5 : decode b_R_sumTo 5 = .ok (.iload 4, 2) := by decide +kernel
theorem d_R_sumTo_7 : decode b_R_sumTo 7 = .ok (.aload_n 0, 1) := by decide +kernel
theorem d_R_sumTo_8 : decode b_R_sumTo 8 = .ok (.getfield 98, 3) := by decide +kernel
theorem d_R_sumTo_11 : decode b_R_sumTo 11 = .ok (.if_icmp .ge 25, 3) := by decide +kernel
theorem d_R_sumTo_14 : decode b_R_sumTo 14 = .ok (.lload_n 2, 1) := by decide +kernel
theorem d_R_sumTo_15 : decode b_R_sumTo 15 = .ok (.aload_n 0, 1) := by decide +kernel
theorem d_R_sumTo_16 : decode b_R_sumTo 16 = .ok (.getfield 51, 3) := by decide +kernel
theorem d_R_sumTo_19 : decode b_R_sumTo 19 = .ok (.bipush 6, 2) := by decide +kernel
theorem d_R_sumTo_21 : decode b_R_sumTo 21 = .ok (.iload 4, 2) := by decide +kernel
theorem d_R_sumTo_23 : decode b_R_sumTo 23 = .ok (.imul, 1) := by decide +kernel
theorem d_R_sumTo_24 : decode b_R_sumTo 24 = .ok (.iload_n 1, 1) := by decide +kernel
theorem d_R_sumTo_25 : decode b_R_sumTo 25 = .ok (.iadd, 1) := by decide +kernel
theorem d_R_sumTo_26 : decode b_R_sumTo 26 = .ok (.iaload, 1) := by decide +kernel
theorem d_R_sumTo_27 : decode b_R_sumTo 27 = .ok (.i2l, 1) := by decide +kernel
theorem d_R_sumTo_28 : decode b_R_sumTo 28 = .ok (.ladd, 1) := by decide +kernel
theorem d_R_sumTo_29 : decode b_R_sumTo 29 = .ok (.lstore_n 2, 1) := by decide +kernel
theorem d_R_sumTo_30 : decode b_R_sumTo 30 = .ok (.iinc 4 1, 3) := by decide +kernel
theorem d_R_sumTo_33 : decode b_R_sumTo 33 = .ok (.goto (-28), 3) := by decide +kernel
theorem d_R_sumTo_36 : decode b_R_sumTo 36 = .ok (.lload_n 2, 1) := by decide +kernel
theorem d_R_sumTo_37 : decode b_R_sumTo 37 = .ok (.lreturn, 1) := by decide +kernel
theorem d_R_oneRound_0 : decode b_R_oneRound 0 = .ok (.iconst 0, 1) := by decide +kernel
theorem d_R_oneRound_1 : decode b_R_oneRound 1 = .ok (.istore_n 1, 1) := by decide +kernel
theorem d_R_oneRound_2 : decode b_R_oneRound 2 = .ok (.iload_n 1, 1) := by decide +kernel
theorem d_R_oneRound_3 : decode b_R_oneRound 3 = .ok (.aload_n 0, 1) := by decide +kernel
theorem d_R_oneRound_4 : decode b_R_oneRound 4 = .ok (.getfield 98, 3) := by decide +kernel
theorem d_R_oneRound_7 : decode b_R_oneRound 7 = .ok (.if_icmp .ge 99, 3) := by decide +kernel
theorem d_R_oneRound_10 : decode b_R_oneRound 10 = .ok (.iconst 0, 1) := by decide +kernel
theorem d_R_oneRound_11 : decode b_R_oneRound 11 = .ok (.istore_n 2, 1) := by decide +kernel
theorem d_R_oneRound_12 : decode b_R_oneRound 12 = .ok (.iload_n 2, 1) := by decide +kernel
theorem d_R_oneRound_13 : decode b_R_oneRound 13 = .ok (.aload_n 0, 1) := by decide +kernel
theorem d_R_oneRound_14 : decode b_R_oneRound 14 = .ok (.getfield 98, 3) := by decide +kernel
theorem d_R_oneRound_17 : decode b_R_oneRound 17 = .ok (.if_icmp .ge 35, 3) := by decide +kernel
theorem d_R_oneRound_20 : decode b_R_oneRound 20 = .ok (.aload_n 0, 1) := by decide +kernel
theorem d_R_oneRound_21 : decode b_R_oneRound 21 = .ok (.getfield 66, 3) := by decide +kernel
theorem d_R_oneRound_24 : decode b_R_oneRound 24 = .ok (.iload_n 2, 1) := by decide +kernel
theorem d_R_oneRound_25 : decode b_R_oneRound 25 = .ok (.aload_n 0, 1) := by decide +kernel
theorem d_R_oneRound_26 : decode b_R_oneRound 26 = .ok (.getfield 48, 3) := by decide +kernel
theorem d_R_oneRound_29 : decode b_R_oneRound 29 = .ok (.bipush 6, 2) := by decide +kernel
theorem d_R_oneRound_31 : decode b_R_oneRound 31 = .ok (.iload_n 1, 1) := by decide +kernel
theorem d_R_oneRound_32 : decode b_R_oneRound 32 = .ok (.imul, 1) := by decide +kernel
theorem d_R_oneRound_33 : decode b_R_oneRound 33 = .ok (.iload_n 2, 1) := by decide +kernel
theorem d_R_oneRound_34 : decode b_R_oneRound 34 = .ok (.iadd, 1) := by decide +kernel
theorem d_R_oneRound_35 : decode b_R_oneRound 35 = .ok (.iaload, 1) := by decide +kernel
theorem d_R_oneRound_36 : decode b_R_oneRound 36 = .ok (.i2l, 1) := by decide +kernel
theorem d_R_oneRound_37 : decode b_R_oneRound 37 = .ok (.aload_n 0, 1) := by decide +kernel
theorem d_R_oneRound_38 : decode b_R_oneRound 38 = .ok (.getfield 63, 3) := by decide +kernel
theorem d_R_oneRound_41 : decode b_R_oneRound 41 = .ok (.iload_n 2, 1) := by decide +kernel
theorem d_R_oneRound_42 : decode b_R_oneRound 42 = .ok (.iaload, 1) := by decide +kernel
theorem d_R_oneRound_43 : decode b_R_oneRound 43 = .ok (.i2l, 1) := by decide +kernel
theorem d_R_oneRound_44 : decode b_R_oneRound 44 = .ok (.lmul, 1) := by decide +kernel
theorem d_R_oneRound_45 : decode b_R_oneRound 45 = .ok (.lastore, 1) := by decide +kernel
theorem d_R_oneRound_46 : decode b_R_oneRound 46 = .ok (.iinc 2 1, 3) := by decide +kernel
theorem d_R_oneRound_49 : decode b_R_oneRound 49 = .ok (.goto (-37), 3) := by decide +kernel
theorem d_R_oneRound_52 : decode b_R_oneRound 52 = .ok (.aload_n 0, 1) := by decide +kernel
theorem d_R_oneRound_53 : decode b_R_oneRound 53 = .ok (.aload_n 0, 1) := by decide +kernel
theorem d_R_oneRound_54 : decode b_R_oneRound 54 = .ok (.getfield 13, 3) := by decide +kernel
theorem d_R_oneRound_57 : decode b_R_oneRound 57 = .ok (.iload_n 1, 1) := by decide +kernel
theorem d_R_oneRound_58 : decode b_R_oneRound 58 = .ok (.iaload, 1) := by decide +kernel
theorem d_R_oneRound_59 : decode b_R_oneRound 59 = .ok (.i2l, 1) := by decide +kernel
theorem d_R_oneRound_60 : decode b_R_oneRound 60 = .ok (.aload_n 0, 1) := by decide +kernel
theorem d_R_oneRound_61 : decode b_R_oneRound 61 = .ok (.getfield 98, 3) := by decide +kernel
theorem d_R_oneRound_64 : decode b_R_oneRound 64 = .ok (.invokevirtual 122, 3) := by decide +kernel
theorem d_R_oneRound_67 : decode b_R_oneRound 67 = .ok (.iconst 0, 1) := by decide +kernel
theorem d_R_oneRound_68 : decode b_R_oneRound 68 = .ok (.istore_n 2, 1) := by decide +kernel
theorem d_R_oneRound_69 : decode b_R_oneRound 69 = .ok (.iload_n 2, 1) := by decide +kernel
theorem d_R_oneRound_70 : decode b_R_oneRound 70 = .ok (.aload_n 0, 1) := by decide +kernel
theorem d_R_oneRound_71 : decode b_R_oneRound 71 = .ok (.getfield 98, 3) := by decide +kernel
theorem d_R_oneRound_74 : decode b_R_oneRound 74 = .ok (.if_icmp .ge 26, 3) := by decide +kernel
theorem d_R_oneRound_77 : decode b_R_oneRound 77 = .ok (.aload_n 0, 1) := by decide +kernel
theorem d_R_oneRound_78 : decode b_R_oneRound 78 = .ok (.getfield 51, 3) := by decide +kernel
theorem d_R_oneRound_81 : decode b_R_oneRound 81 = .ok (.bipush 6, 2) := by decide +kernel
theorem d_R_oneRound_83 : decode b_R_oneRound 83 = .ok (.iload_n 1, 1) := by decide +kernel
theorem d_R_oneRound_84 : decode b_R_oneRound 84 = .ok (.imul, 1) := by decide +kernel
theorem d_R_oneRound_85 : decode b_R_oneRound 85 = .ok (.iload_n 2, 1) := by decide +kernel
theorem d_R_oneRound_86 : decode b_R_oneRound 86 = .ok (.iadd, 1) := by decide +kernel
theorem d_R_oneRound_87 : decode b_R_oneRound 87 = .ok (.aload_n 0, 1) := by decide +kernel
theorem d_R_oneRound_88 : decode b_R_oneRound 88 = .ok (.getfield 72, 3) := by decide +kernel
theorem d_R_oneRound_91 : decode b_R_oneRound 91 = .ok (.iload_n 2, 1) := by decide +kernel
theorem d_R_oneRound_92 : decode b_R_oneRound 92 = .ok (.iaload, 1) := by decide +kernel
theorem d_R_oneRound_93 : decode b_R_oneRound 93 = .ok (.iastore, 1) := by decide +kernel
theorem d_R_oneRound_94 : decode b_R_oneRound 94 = .ok (.iinc 2 1, 3) := by decide +kernel
theorem d_R_oneRound_97 : decode b_R_oneRound 97 = .ok (.goto (-28), 3) := by decide +kernel
theorem d_R_oneRound_100 : decode b_R_oneRound 100 = .ok (.iinc 1 1, 3) := by decide +kernel
theorem d_R_oneRound_103 : decode b_R_oneRound 103 = .ok (.goto (-101), 3) := by decide +kernel
theorem d_R_oneRound_106 : decode b_R_oneRound 106 = .ok (.return_, 1) := by decide +kernel
theorem d_R_isMet_0 : decode b_R_isMet 0 = .ok (.iconst 1, 1) := by decide +kernel
theorem d_R_isMet_1 : decode b_R_isMet 1 = .ok (.istore_n 2, 1) := by decide +kernel
theorem d_R_isMet_2 : decode b_R_isMet 2 = .ok (.iconst 0, 1) := by decide +kernel
theorem d_R_isMet_3 : decode b_R_isMet 3 = .ok (.istore_n 3, 1) := by decide +kernel
theorem d_R_isMet_4 : decode b_R_isMet 4 = .ok (.iload_n 3, 1) := by decide +kernel
theorem d_R_isMet_5 : decode b_R_isMet 5 = .ok (.aload_n 0, 1) := by decide +kernel
theorem d_R_isMet_6 : decode b_R_isMet 6 = .ok (.getfield 98, 3) := by decide +kernel
theorem d_R_isMet_9 : decode b_R_isMet 9 = .ok (.if_icmp .ge 51, 3) := by decide +kernel
theorem d_R_isMet_12 : decode b_R_isMet 12 = .ok (.aload_n 0, 1) := by decide +kernel
theorem d_R_isMet_13 : decode b_R_isMet 13 = .ok (.iload_n 3, 1) := by decide +kernel
theorem d_R_isMet_14 : decode b_R_isMet 14 = .ok (.invokevirtual 126, 3) := by decide +kernel
theorem d_R_isMet_17 : decode b_R_isMet 17 = .ok (.aload_n 0, 1) := by decide +kernel
theorem d_R_isMet_18 : decode b_R_isMet 18 = .ok (.getfield 16, 3) := by decide +kernel
theorem d_R_isMet_21 : decode b_R_isMet 21 = .ok (.iload_n 3, 1) := by decide +kernel
theorem d_R_isMet_22 : decode b_R_isMet 22 = .ok (.iaload, 1) := by decide +kernel
theorem d_R_isMet_23 : decode b_R_isMet 23 = .ok (.i2l, 1) := by decide +kernel
theorem d_R_isMet_24 : decode b_R_isMet 24 = .ok (.lsub, 1) := by decide +kernel
theorem d_R_isMet_25 : decode b_R_isMet 25 = .ok (.lstore 4, 2) := by decide +kernel
theorem d_R_isMet_27 : decode b_R_isMet 27 = .ok (.iload_n 2, 1) := by decide +kernel
theorem d_R_isMet_28 : decode b_R_isMet 28 = .ok (.ifCond .eq 24, 3) := by decide +kernel
theorem d_R_isMet_31 : decode b_R_isMet 31 = .ok (.lload 4, 2) := by decide +kernel
theorem d_R_isMet_33 : decode b_R_isMet 33 = .ok (.iload_n 1, 1) := by decide +kernel
theorem d_R_isMet_34 : decode b_R_isMet 34 = .ok (.i2l, 1) := by decide +kernel
theorem d_R_isMet_35 : decode b_R_isMet 35 = .ok (.lcmp, 1) := by decide +kernel
theorem d_R_isMet_36 : decode b_R_isMet 36 = .ok (.ifCond .gt 16, 3) := by decide +kernel
theorem d_R_isMet_39 : decode b_R_isMet 39 = .ok (.lload 4, 2) := by decide +kernel
theorem d_R_isMet_41 : decode b_R_isMet 41 = .ok (.iload_n 1, 1) := by decide +kernel
theorem d_R_isMet_42 : decode b_R_isMet 42 = .ok (.ineg, 1) := by decide +kernel
theorem d_R_isMet_43 : decode b_R_isMet 43 = .ok (.i2l, 1) := by decide +kernel
theorem d_R_isMet_44 : decode b_R_isMet 44 = .ok (.lcmp, 1) := by decide +kernel
theorem d_R_isMet_45 : decode b_R_isMet 45 = .ok (.ifCond .lt 7, 3) := by decide +kernel
theorem d_R_isMet_48 : decode b_R_isMet 48 = .ok (.iconst 1, 1) := by decide +kernel
theorem d_R_isMet_49 : decode b_R_isMet 49 = .ok (.goto 4, 3) := by decide +kernel
theorem d_R_isMet_52 : decode b_R_isMet 52 = .ok (.iconst 0, 1) := by decide +kernel
theorem d_R_isMet_53 : decode b_R_isMet 53 = .ok (.istore_n 2, 1) := by decide +kernel
theorem d_R_isMet_54 : decode b_R_isMet 54 = .ok (.iinc 3 1, 3) := by decide +kernel
theorem d_R_isMet_57 : decode b_R_isMet 57 = .ok (.goto (-53), 3) := by decide +kernel
theorem d_R_isMet_60 : decode b_R_isMet 60 = .ok (.iload_n 2, 1) := by decide +kernel
theorem d_R_isMet_61 : decode b_R_isMet 61 = .ok (.ireturn, 1) := by decide +kernel
theorem d_R_rounds_0 : decode b_R_rounds 0 = .ok (.aload_n 0, 1) := by decide +kernel
theorem d_R_rounds_1 : decode b_R_rounds 1 = .ok (.iload_n 1, 1) := by decide +kernel
theorem d_R_rounds_2 : decode b_R_rounds 2 = .ok (.iconst 1, 1) := by decide +kernel
theorem d_R_rounds_3 : decode b_R_rounds 3 = .ok (.bipush 50, 2) := by decide +kernel
theorem d_R_rounds_5 : decode b_R_rounds 5 = .ok (.invokestatic 94, 3) := by decide +kernel
theorem d_R_rounds_8 : decode b_R_rounds 8 = .ok (.ifCond .eq 17, 3) := by decide +kernel
theorem d_R_rounds_11 : decode b_R_rounds 11 = .ok (.iload_n 2, 1) := by decide +kernel
theorem d_R_rounds_12 : decode b_R_rounds 12 = .ok (.iconst 0, 1) := by decide +kernel
theorem d_R_rounds_13 : decode b_R_rounds 13 = .ok (.ldc 111, 2) := by decide +kernel
theorem d_R_rounds_15 : decode b_R_rounds 15 = .ok (.invokestatic 94, 3) := by decide +kernel
theorem d_R_rounds_18 : decode b_R_rounds 18 = .ok (.ifCond .eq 7, 3) := by decide +kernel
theorem d_R_rounds_21 : decode b_R_rounds 21 = .ok (.iconst 0, 1) := by decide +kernel
theorem d_R_rounds_22 : decode b_R_rounds 22 = .ok (.goto 4, 3) := by decide +kernel
theorem d_R_rounds_25 : decode b_R_rounds 25 = .ok (.iconst 1, 1) := by decide +kernel
theorem d_R_rounds_26 : decode b_R_rounds 26 = .ok (.putfield 87, 3) := by decide +kernel
theorem d_R_rounds_29 : decode b_R_rounds 29 = .ok (.aload_n 0, 1) := by decide +kernel
theorem d_R_rounds_30 : decode b_R_rounds 30 = .ok (.getfield 87, 3) := by decide +kernel
theorem d_R_rounds_33 : decode b_R_rounds 33 = .ok (.ifCond .le 5, 3) := by decide +kernel
theorem d_R_rounds_36 : decode b_R_rounds 36 = .ok (.iconst 0, 1) := by decide +kernel
theorem d_R_rounds_37 : decode b_R_rounds 37 = .ok (.ireturn, 1) := by decide +kernel
theorem d_R_rounds_38 : decode b_R_rounds 38 = .ok (.iconst 0, 1) := by decide +kernel
theorem d_R_rounds_39 : decode b_R_rounds 39 = .ok (.istore_n 3, 1) := by decide +kernel
theorem d_R_rounds_40 : decode b_R_rounds 40 = .ok (.iload_n 3, 1) := by decide +kernel
theorem d_R_rounds_41 : decode b_R_rounds 41 = .ok (.bipush 6, 2) := by decide +kernel
theorem d_R_rounds_43 : decode b_R_rounds 43 = .ok (.if_icmp .ge 30, 3) := by decide +kernel
theorem d_R_rounds_46 : decode b_R_rounds 46 = .ok (.aload_n 0, 1) := by decide +kernel
theorem d_R_rounds_47 : decode b_R_rounds 47 = .ok (.getfield 63, 3) := by decide +kernel
theorem d_R_rounds_50 : decode b_R_rounds 50 = .ok (.iload_n 3, 1) := by decide +kernel
theorem d_R_rounds_51 : decode b_R_rounds 51 = .ok (.iload_n 3, 1) := by decide +kernel
theorem d_R_rounds_52 : decode b_R_rounds 52 = .ok (.aload_n 0, 1) := by decide +kernel
theorem d_R_rounds_53 : decode b_R_rounds 53 = .ok (.getfield 98, 3) := by decide +kernel
theorem d_R_rounds_56 : decode b_R_rounds 56 = .ok (.if_icmp .ge 9, 3) := by decide +kernel
theorem d_R_rounds_59 : decode b_R_rounds 59 = .ok (.sipush 1000, 3) := by decide +kernel
theorem d_R_rounds_62 : decode b_R_rounds 62 = .ok (.goto 4, 3) := by decide +kernel
theorem d_R_rounds_65 : decode b_R_rounds 65 = .ok (.iconst (-1), 1) := by decide +kernel
theorem d_R_rounds_66 : decode b_R_rounds 66 = .ok (.iastore, 1) := by decide +kernel
theorem d_R_rounds_67 : decode b_R_rounds 67 = .ok (.iinc 3 1, 3) := by decide +kernel
theorem d_R_rounds_70 : decode b_R_rounds 70 = .ok (.goto (-30), 3) := by decide +kernel
theorem d_R_rounds_73 : decode b_R_rounds 73 = .ok (.iconst 1, 1) := by decide +kernel
theorem d_R_rounds_74 : decode b_R_rounds 74 = .ok (.istore_n 3, 1) := by decide +kernel
theorem d_R_rounds_75 : decode b_R_rounds 75 = .ok (.aload_n 0, 1) := by decide +kernel
theorem d_R_rounds_76 : decode b_R_rounds 76 = .ok (.invokevirtual 130, 3) := by decide +kernel
theorem d_R_rounds_79 : decode b_R_rounds 79 = .ok (.aload_n 0, 1) := by decide +kernel
theorem d_R_rounds_80 : decode b_R_rounds 80 = .ok (.iload_n 2, 1) := by decide +kernel
theorem d_R_rounds_81 : decode b_R_rounds 81 = .ok (.invokevirtual 133, 3) := by decide +kernel
theorem d_R_rounds_84 : decode b_R_rounds 84 = .ok (.ifCond .ne 108, 3) := by decide +kernel
theorem d_R_rounds_87 : decode b_R_rounds 87 = .ok (.iload_n 3, 1) := by decide +kernel
theorem d_R_rounds_88 : decode b_R_rounds 88 = .ok (.iload_n 1, 1) := by decide +kernel
theorem d_R_rounds_89 : decode b_R_rounds 89 = .ok (.if_icmp .ge 103, 3) := by decide +kernel
theorem d_R_rounds_92 : decode b_R_rounds 92 = .ok (.iconst 0, 1) := by decide +kernel
theorem d_R_rounds_93 : decode b_R_rounds 93 = .ok (.istore 4, 2) := by decide +kernel
theorem d_R_rounds_95 : decode b_R_rounds 95 = .ok (.iload 4, 2) := by decide +kernel
theorem d_R_rounds_97 : decode b_R_rounds 97 = .ok (.aload_n 0, 1) := by decide +kernel
theorem d_R_rounds_98 : decode b_R_rounds 98 = .ok (.getfield 98, 3) := by decide +kernel
theorem d_R_rounds_101 : decode b_R_rounds 101 = .ok (.if_icmp .ge 81, 3) := by decide +kernel
theorem d_R_rounds_104 : decode b_R_rounds 104 = .ok (.aload_n 0, 1) := by decide +kernel
theorem d_R_rounds_105 : decode b_R_rounds 105 = .ok (.iload 4, 2) := by decide +kernel
theorem d_R_rounds_107 : decode b_R_rounds 107 = .ok (.invokevirtual 126, 3) := by decide +kernel
theorem d_R_rounds_110 : decode b_R_rounds 110 = .ok (.lstore 5, 2) := by decide +kernel
theorem d_R_rounds_112 : decode b_R_rounds 112 = .ok (.lload 5, 2) := by decide +kernel
theorem d_R_rounds_114 : decode b_R_rounds 114 = .ok (.lconst 0, 1) := by decide +kernel
theorem d_R_rounds_115 : decode b_R_rounds 115 = .ok (.lcmp, 1) := by decide +kernel
theorem d_R_rounds_116 : decode b_R_rounds 116 = .ok (.ifCond .le 60, 3) := by decide +kernel
theorem d_R_rounds_119 : decode b_R_rounds 119 = .ok (.aload_n 0, 1) := by decide +kernel
theorem d_R_rounds_120 : decode b_R_rounds 120 = .ok (.getfield 63, 3) := by decide +kernel
theorem d_R_rounds_123 : decode b_R_rounds 123 = .ok (.iload 4, 2) := by decide +kernel
theorem d_R_rounds_125 : decode b_R_rounds 125 = .ok (.iaload, 1) := by decide +kernel
theorem d_R_rounds_126 : decode b_R_rounds 126 = .ok (.i2l, 1) := by decide +kernel
theorem d_R_rounds_127 : decode b_R_rounds 127 = .ok (.aload_n 0, 1) := by decide +kernel
theorem d_R_rounds_128 : decode b_R_rounds 128 = .ok (.getfield 16, 3) := by decide +kernel
theorem d_R_rounds_131 : decode b_R_rounds 131 = .ok (.iload 4, 2) := by decide +kernel
theorem d_R_rounds_133 : decode b_R_rounds 133 = .ok (.iaload, 1) := by decide +kernel
theorem d_R_rounds_134 : decode b_R_rounds 134 = .ok (.i2l, 1) := by decide +kernel
theorem d_R_rounds_135 : decode b_R_rounds 135 = .ok (.lmul, 1) := by decide +kernel
theorem d_R_rounds_136 : decode b_R_rounds 136 = .ok (.lload 5, 2) := by decide +kernel
theorem d_R_rounds_138 : decode b_R_rounds 138 = .ok (.ldiv, 1) := by decide +kernel
theorem d_R_rounds_139 : decode b_R_rounds 139 = .ok (.lstore 7, 2) := by decide +kernel
theorem d_R_rounds_141 : decode b_R_rounds 141 = .ok (.aload_n 0, 1) := by decide +kernel
theorem d_R_rounds_142 : decode b_R_rounds 142 = .ok (.getfield 63, 3) := by decide +kernel
theorem d_R_rounds_145 : decode b_R_rounds 145 = .ok (.iload 4, 2) := by decide +kernel
theorem d_R_rounds_147 : decode b_R_rounds 147 = .ok (.lload 7, 2) := by decide +kernel
theorem d_R_rounds_149 : decode b_R_rounds 149 = .ok (.lconst 1, 1) := by decide +kernel
theorem d_R_rounds_150 : decode b_R_rounds 150 = .ok (.lcmp, 1) := by decide +kernel
theorem d_R_rounds_151 : decode b_R_rounds 151 = .ok (.ifCond .ge 7, 3) := by decide +kernel
theorem d_R_rounds_154 : decode b_R_rounds 154 = .ok (.iconst 1, 1) := by decide +kernel
theorem d_R_rounds_155 : decode b_R_rounds 155 = .ok (.goto 20, 3) := by decide +kernel
theorem d_R_rounds_158 : decode b_R_rounds 158 = .ok (.lload 7, 2) := by decide +kernel
theorem d_R_rounds_160 : decode b_R_rounds 160 = .ok (.ldc2_w 136, 3) := by decide +kernel
theorem d_R_rounds_163 : decode b_R_rounds 163 = .ok (.lcmp, 1) := by decide +kernel
theorem d_R_rounds_164 : decode b_R_rounds 164 = .ok (.ifCond .le 8, 3) := by decide +kernel
theorem d_R_rounds_167 : decode b_R_rounds 167 = .ok (.ldc 112, 2) := by decide +kernel
theorem d_R_rounds_169 : decode b_R_rounds 169 = .ok (.goto 6, 3) := by decide +kernel
theorem d_R_rounds_172 : decode b_R_rounds 172 = .ok (.lload 7, 2) := by decide +kernel
theorem d_R_rounds_174 : decode b_R_rounds 174 = .ok (.l2i, 1) := by decide +kernel
theorem d_R_rounds_175 : decode b_R_rounds 175 = .ok (.iastore, 1) := by decide +kernel
theorem d_R_rounds_176 : decode b_R_rounds 176 = .ok (.iinc 4 1, 3) := by decide +kernel
theorem d_R_rounds_179 : decode b_R_rounds 179 = .ok (.goto (-84), 3) := by decide +kernel
theorem d_R_rounds_182 : decode b_R_rounds 182 = .ok (.aload_n 0, 1) := by decide +kernel
theorem d_R_rounds_183 : decode b_R_rounds 183 = .ok (.invokevirtual 130, 3) := by decide +kernel
theorem d_R_rounds_186 : decode b_R_rounds 186 = .ok (.iinc 3 1, 3) := by decide +kernel
theorem d_R_rounds_189 : decode b_R_rounds 189 = .ok (.goto (-110), 3) := by decide +kernel
theorem d_R_rounds_192 : decode b_R_rounds 192 = .ok (.aload_n 0, 1) := by decide +kernel
theorem d_R_rounds_193 : decode b_R_rounds 193 = .ok (.iload_n 2, 1) := by decide +kernel
theorem d_R_rounds_194 : decode b_R_rounds 194 = .ok (.invokevirtual 133, 3) := by decide +kernel
theorem d_R_rounds_197 : decode b_R_rounds 197 = .ok (.ifCond .eq 7, 3) := by decide +kernel
theorem d_R_rounds_200 : decode b_R_rounds 200 = .ok (.iload_n 3, 1) := by decide +kernel
theorem d_R_rounds_201 : decode b_R_rounds 201 = .ok (.goto 5, 3) := by decide +kernel
theorem d_R_rounds_204 : decode b_R_rounds 204 = .ok (.iload_n 3, 1) := by decide +kernel
theorem d_R_rounds_205 : decode b_R_rounds 205 = .ok (.ineg, 1) := by decide +kernel
theorem d_R_rounds_206 : decode b_R_rounds 206 = .ok (.ireturn, 1) := by decide +kernel
theorem d_R_trips_0 : decode b_R_trips 0 = .ok (.aload_n 0, 1) := by decide +kernel
theorem d_R_trips_1 : decode b_R_trips 1 = .ok (.aload_n 0, 1) := by decide +kernel
theorem d_R_trips_2 : decode b_R_trips 2 = .ok (.iload_n 1, 1) := by decide +kernel
theorem d_R_trips_3 : decode b_R_trips 3 = .ok (.iload_n 2, 1) := by decide +kernel
theorem d_R_trips_4 : decode b_R_trips 4 = .ok (.invokevirtual 116, 3) := by decide +kernel
theorem d_R_trips_7 : decode b_R_trips 7 = .ok (.ifCond .eq 7, 3) := by decide +kernel
theorem d_R_trips_10 : decode b_R_trips 10 = .ok (.iconst 0, 1) := by decide +kernel
theorem d_R_trips_11 : decode b_R_trips 11 = .ok (.goto 4, 3) := by decide +kernel
theorem d_R_trips_14 : decode b_R_trips 14 = .ok (.iconst 1, 1) := by decide +kernel
theorem d_R_trips_15 : decode b_R_trips 15 = .ok (.putfield 87, 3) := by decide +kernel
theorem d_R_trips_18 : decode b_R_trips 18 = .ok (.aload_n 0, 1) := by decide +kernel
theorem d_R_trips_19 : decode b_R_trips 19 = .ok (.getfield 87, 3) := by decide +kernel
theorem d_R_trips_22 : decode b_R_trips 22 = .ok (.ifCond .le 7, 3) := by decide +kernel
theorem d_R_trips_25 : decode b_R_trips 25 = .ok (.iconst 0, 1) := by decide +kernel
theorem d_R_trips_26 : decode b_R_trips 26 = .ok (.goto 14, 3) := by decide +kernel
theorem d_R_trips_29 : decode b_R_trips 29 = .ok (.aload_n 0, 1) := by decide +kernel
theorem d_R_trips_30 : decode b_R_trips 30 = .ok (.getfield 51, 3) := by decide +kernel
theorem d_R_trips_33 : decode b_R_trips 33 = .ok (.bipush 6, 2) := by decide +kernel
theorem d_R_trips_35 : decode b_R_trips 35 = .ok (.iload_n 1, 1) := by decide +kernel
theorem d_R_trips_36 : decode b_R_trips 36 = .ok (.imul, 1) := by decide +kernel
theorem d_R_trips_37 : decode b_R_trips 37 = .ok (.iload_n 2, 1) := by decide +kernel
theorem d_R_trips_38 : decode b_R_trips 38 = .ok (.iadd, 1) := by decide +kernel
theorem d_R_trips_39 : decode b_R_trips 39 = .ok (.iaload, 1) := by decide +kernel
theorem d_R_trips_40 : decode b_R_trips 40 = .ok (.ireturn, 1) := by decide +kernel
theorem d_R_sum_0 : decode b_R_sum 0 = .ok (.aload_n 0, 1) := by decide +kernel
theorem d_R_sum_1 : decode b_R_sum 1 = .ok (.aload_n 0, 1) := by decide +kernel
theorem d_R_sum_2 : decode b_R_sum 2 = .ok (.iload_n 1, 1) := by decide +kernel
theorem d_R_sum_3 : decode b_R_sum 3 = .ok (.invokevirtual 101, 3) := by decide +kernel
theorem d_R_sum_6 : decode b_R_sum 6 = .ok (.ifCond .eq 16, 3) := by decide +kernel
theorem d_R_sum_9 : decode b_R_sum 9 = .ok (.iload_n 2, 1) := by decide +kernel
theorem d_R_sum_10 : decode b_R_sum 10 = .ok (.iconst 0, 1) := by decide +kernel
theorem d_R_sum_11 : decode b_R_sum 11 = .ok (.iconst 1, 1) := by decide +kernel
theorem d_R_sum_12 : decode b_R_sum 12 = .ok (.invokestatic 94, 3) := by decide +kernel
theorem d_R_sum_15 : decode b_R_sum 15 = .ok (.ifCond .eq 7, 3) := by decide +kernel
theorem d_R_sum_18 : decode b_R_sum 18 = .ok (.iconst 0, 1) := by decide +kernel
theorem d_R_sum_19 : decode b_R_sum 19 = .ok (.goto 4, 3) := by decide +kernel
theorem d_R_sum_22 : decode b_R_sum 22 = .ok (.iconst 1, 1) := by decide +kernel
theorem d_R_sum_23 : decode b_R_sum 23 = .ok (.putfield 87, 3) := by decide +kernel
theorem d_R_sum_26 : decode b_R_sum 26 = .ok (.aload_n 0, 1) := by decide +kernel
theorem d_R_sum_27 : decode b_R_sum 27 = .ok (.getfield 87, 3) := by decide +kernel
theorem d_R_sum_30 : decode b_R_sum 30 = .ok (.ifCond .le 5, 3) := by decide +kernel
theorem d_R_sum_33 : decode b_R_sum 33 = .ok (.iconst 0, 1) := by decide +kernel
theorem d_R_sum_34 : decode b_R_sum 34 = .ok (.ireturn, 1) := by decide +kernel
theorem d_R_sum_35 : decode b_R_sum 35 = .ok (.iconst 0, 1) := by decide +kernel
theorem d_R_sum_36 : decode b_R_sum 36 = .ok (.istore_n 3, 1) := by decide +kernel
theorem d_R_sum_37 : decode b_R_sum 37 = .ok (.iconst 0, 1) := by decide +kernel
theorem d_R_sum_38 : decode b_R_sum 38 = .ok (.istore 4, 2) := by decide +kernel
theorem d_R_sum_40 : decode b_R_sum 40 = .ok (.iload 4, 2) := by decide +kernel
theorem d_R_sum_42 : decode b_R_sum 42 = .ok (.aload_n 0, 1) := by decide +kernel
theorem d_R_sum_43 : decode b_R_sum 43 = .ok (.getfield 98, 3) := by decide +kernel
theorem d_R_sum_46 : decode b_R_sum 46 = .ok (.if_icmp .ge 43, 3) := by decide +kernel
theorem d_R_sum_49 : decode b_R_sum 49 = .ok (.iload_n 3, 1) := by decide +kernel
theorem d_R_sum_50 : decode b_R_sum 50 = .ok (.iload_n 2, 1) := by decide +kernel
theorem d_R_sum_51 : decode b_R_sum 51 = .ok (.ifCond .ne 18, 3) := by decide +kernel
theorem d_R_sum_54 : decode b_R_sum 54 = .ok (.aload_n 0, 1) := by decide +kernel
theorem d_R_sum_55 : decode b_R_sum 55 = .ok (.getfield 51, 3) := by decide +kernel
theorem d_R_sum_58 : decode b_R_sum 58 = .ok (.bipush 6, 2) := by decide +kernel
theorem d_R_sum_60 : decode b_R_sum 60 = .ok (.iload_n 1, 1) := by decide +kernel
theorem d_R_sum_61 : decode b_R_sum 61 = .ok (.imul, 1) := by decide +kernel
theorem d_R_sum_62 : decode b_R_sum 62 = .ok (.iload 4, 2) := by decide +kernel
theorem d_R_sum_64 : decode b_R_sum 64 = .ok (.iadd, 1) := by decide +kernel
theorem d_R_sum_65 : decode b_R_sum 65 = .ok (.iaload, 1) := by decide +kernel
theorem d_R_sum_66 : decode b_R_sum 66 = .ok (.goto 15, 3) := by decide +kernel
theorem d_R_sum_69 : decode b_R_sum 69 = .ok (.aload_n 0, 1) := by decide +kernel
theorem d_R_sum_70 : decode b_R_sum 70 = .ok (.getfield 51, 3) := by decide +kernel
theorem d_R_sum_73 : decode b_R_sum 73 = .ok (.bipush 6, 2) := by decide +kernel
theorem d_R_sum_75 : decode b_R_sum 75 = .ok (.iload 4, 2) := by decide +kernel
theorem d_R_sum_77 : decode b_R_sum 77 = .ok (.imul, 1) := by decide +kernel
theorem d_R_sum_78 : decode b_R_sum 78 = .ok (.iload_n 1, 1) := by decide +kernel
theorem d_R_sum_79 : decode b_R_sum 79 = .ok (.iadd, 1) := by decide +kernel
theorem d_R_sum_80 : decode b_R_sum 80 = .ok (.iaload, 1) := by decide +kernel
theorem d_R_sum_81 : decode b_R_sum 81 = .ok (.iadd, 1) := by decide +kernel
theorem d_R_sum_82 : decode b_R_sum 82 = .ok (.istore_n 3, 1) := by decide +kernel
theorem d_R_sum_83 : decode b_R_sum 83 = .ok (.iinc 4 1, 3) := by decide +kernel
theorem d_R_sum_86 : decode b_R_sum 86 = .ok (.goto (-46), 3) := by decide +kernel
theorem d_R_sum_89 : decode b_R_sum 89 = .ok (.iload_n 3, 1) := by decide +kernel
theorem d_R_sum_90 : decode b_R_sum 90 = .ok (.ireturn, 1) := by decide +kernel
theorem d_R_factor_0 : decode b_R_factor 0 = .ok (.aload_n 0, 1) := by decide +kernel
theorem d_R_factor_1 : decode b_R_factor 1 = .ok (.aload_n 0, 1) := by decide +kernel
theorem d_R_factor_2 : decode b_R_factor 2 = .ok (.iload_n 1, 1) := by decide +kernel
theorem d_R_factor_3 : decode b_R_factor 3 = .ok (.invokevirtual 101, 3) := by decide +kernel
theorem d_R_factor_6 : decode b_R_factor 6 = .ok (.ifCond .eq 7, 3) := by decide +kernel
theorem d_R_factor_9 : decode b_R_factor 9 = .ok (.iconst 0, 1) := by decide +kernel
theorem d_R_factor_10 : decode b_R_factor 10 = .ok (.goto 4, 3) := by decide +kernel
theorem d_R_factor_13 : decode b_R_factor 13 = .ok (.iconst 1, 1) := by decide +kernel
theorem d_R_factor_14 : decode b_R_factor 14 = .ok (.putfield 87, 3) := by decide +kernel
theorem d_R_factor_17 : decode b_R_factor 17 = .ok (.aload_n 0, 1) := by decide +kernel
theorem d_R_factor_18 : decode b_R_factor 18 = .ok (.getfield 87, 3) := by decide +kernel
theorem d_R_factor_21 : decode b_R_factor 21 = .ok (.ifCond .le 7, 3) := by decide +kernel
theorem d_R_factor_24 : decode b_R_factor 24 = .ok (.iconst 0, 1) := by decide +kernel
theorem d_R_factor_25 : decode b_R_factor 25 = .ok (.goto 9, 3) := by decide +kernel
theorem d_R_factor_28 : decode b_R_factor 28 = .ok (.aload_n 0, 1) := by decide +kernel
theorem d_R_factor_29 : decode b_R_factor 29 = .ok (.getfield 63, 3) := by decide +kernel
theorem d_R_factor_32 : decode b_R_factor 32 = .ok (.iload_n 1, 1) := by decide +kernel
theorem d_R_factor_33 : decode b_R_factor 33 = .ok (.iaload, 1) := by decide +kernel
theorem d_R_factor_34 : decode b_R_factor 34 = .ok (.ireturn, 1) := by decide +kernel
theorem d_R_pull_0 : decode b_R_pull 0 = .ok (.aload_n 0, 1) := by decide +kernel
theorem d_R_pull_1 : decode b_R_pull 1 = .ok (.iload_n 1, 1) := by decide +kernel
theorem d_R_pull_2 : decode b_R_pull 2 = .ok (.iconst 0, 1) := by decide +kernel
theorem d_R_pull_3 : decode b_R_pull 3 = .ok (.iconst 2, 1) := by decide +kernel
theorem d_R_pull_4 : decode b_R_pull 4 = .ok (.invokestatic 94, 3) := by decide +kernel
theorem d_R_pull_7 : decode b_R_pull 7 = .ok (.ifCond .eq 28, 3) := by decide +kernel
theorem d_R_pull_10 : decode b_R_pull 10 = .ok (.aload_n 0, 1) := by decide +kernel
theorem d_R_pull_11 : decode b_R_pull 11 = .ok (.iload_n 2, 1) := by decide +kernel
theorem d_R_pull_12 : decode b_R_pull 12 = .ok (.iload_n 3, 1) := by decide +kernel
theorem d_R_pull_13 : decode b_R_pull 13 = .ok (.invokevirtual 116, 3) := by decide +kernel
theorem d_R_pull_16 : decode b_R_pull 16 = .ok (.ifCond .eq 19, 3) := by decide +kernel
theorem d_R_pull_19 : decode b_R_pull 19 = .ok (.iload 4, 2) := by decide +kernel
theorem d_R_pull_21 : decode b_R_pull 21 = .ok (.iconst 0, 1) := by decide +kernel
theorem d_R_pull_22 : decode b_R_pull 22 = .ok (.sipush 1000, 3) := by decide +kernel
theorem d_R_pull_25 : decode b_R_pull 25 = .ok (.invokestatic 94, 3) := by decide +kernel
theorem d_R_pull_28 : decode b_R_pull 28 = .ok (.ifCond .eq 7, 3) := by decide +kernel
theorem d_R_pull_31 : decode b_R_pull 31 = .ok (.iconst 0, 1) := by decide +kernel
theorem d_R_pull_32 : decode b_R_pull 32 = .ok (.goto 4, 3) := by decide +kernel
theorem d_R_pull_35 : decode b_R_pull 35 = .ok (.iconst 1, 1) := by decide +kernel
theorem d_R_pull_36 : decode b_R_pull 36 = .ok (.putfield 87, 3) := by decide +kernel
theorem d_R_pull_39 : decode b_R_pull 39 = .ok (.aload_n 0, 1) := by decide +kernel
theorem d_R_pull_40 : decode b_R_pull 40 = .ok (.getfield 87, 3) := by decide +kernel
theorem d_R_pull_43 : decode b_R_pull 43 = .ok (.ifCond .le 5, 3) := by decide +kernel
theorem d_R_pull_46 : decode b_R_pull 46 = .ok (.iconst 0, 1) := by decide +kernel
theorem d_R_pull_47 : decode b_R_pull 47 = .ok (.ireturn, 1) := by decide +kernel
theorem d_R_pull_48 : decode b_R_pull 48 = .ok (.bipush 36, 2) := by decide +kernel
theorem d_R_pull_50 : decode b_R_pull 50 = .ok (.iload_n 1, 1) := by decide +kernel
theorem d_R_pull_51 : decode b_R_pull 51 = .ok (.imul, 1) := by decide +kernel
theorem d_R_pull_52 : decode b_R_pull 52 = .ok (.bipush 6, 2) := by decide +kernel
theorem d_R_pull_54 : decode b_R_pull 54 = .ok (.iload_n 2, 1) := by decide +kernel
theorem d_R_pull_55 : decode b_R_pull 55 = .ok (.imul, 1) := by decide +kernel
theorem d_R_pull_56 : decode b_R_pull 56 = .ok (.iadd, 1) := by decide +kernel
theorem d_R_pull_57 : decode b_R_pull 57 = .ok (.iload_n 3, 1) := by decide +kernel
theorem d_R_pull_58 : decode b_R_pull 58 = .ok (.iadd, 1) := by decide +kernel
theorem d_R_pull_59 : decode b_R_pull 59 = .ok (.istore 5, 2) := by decide +kernel
theorem d_R_pull_61 : decode b_R_pull 61 = .ok (.aload_n 0, 1) := by decide +kernel
theorem d_R_pull_62 : decode b_R_pull 62 = .ok (.getfield 54, 3) := by decide +kernel
theorem d_R_pull_65 : decode b_R_pull 65 = .ok (.iload 5, 2) := by decide +kernel
theorem d_R_pull_67 : decode b_R_pull 67 = .ok (.iaload, 1) := by decide +kernel
theorem d_R_pull_68 : decode b_R_pull 68 = .ok (.istore 6, 2) := by decide +kernel
theorem d_R_pull_70 : decode b_R_pull 70 = .ok (.aload_n 0, 1) := by decide +kernel
theorem d_R_pull_71 : decode b_R_pull 71 = .ok (.getfield 54, 3) := by decide +kernel
theorem d_R_pull_74 : decode b_R_pull 74 = .ok (.iload 5, 2) := by decide +kernel
theorem d_R_pull_76 : decode b_R_pull 76 = .ok (.iload 4, 2) := by decide +kernel
theorem d_R_pull_78 : decode b_R_pull 78 = .ok (.iastore, 1) := by decide +kernel
theorem d_R_pull_79 : decode b_R_pull 79 = .ok (.iload 6, 2) := by decide +kernel
theorem d_R_pull_81 : decode b_R_pull 81 = .ok (.ireturn, 1) := by decide +kernel
theorem d_R_byMode_0 : decode b_R_byMode 0 = .ok (.iconst 0, 1) := by decide +kernel
theorem d_R_byMode_1 : decode b_R_byMode 1 = .ok (.istore_n 3, 1) := by decide +kernel
theorem d_R_byMode_2 : decode b_R_byMode 2 = .ok (.iload_n 3, 1) := by decide +kernel
theorem d_R_byMode_3 : decode b_R_byMode 3 = .ok (.iconst 3, 1) := by decide +kernel
theorem d_R_byMode_4 : decode b_R_byMode 4 = .ok (.if_icmp .ge 27, 3) := by decide +kernel
theorem d_R_byMode_7 : decode b_R_byMode 7 = .ok (.aload_n 0, 1) := by decide +kernel
theorem d_R_byMode_8 : decode b_R_byMode 8 = .ok (.getfield 66, 3) := by decide +kernel
theorem d_R_byMode_11 : decode b_R_byMode 11 = .ok (.iload_n 3, 1) := by decide +kernel
theorem d_R_byMode_12 : decode b_R_byMode 12 = .ok (.aload_n 0, 1) := by decide +kernel
theorem d_R_byMode_13 : decode b_R_byMode 13 = .ok (.getfield 54, 3) := by decide +kernel
theorem d_R_byMode_16 : decode b_R_byMode 16 = .ok (.bipush 36, 2) := by decide +kernel
theorem d_R_byMode_18 : decode b_R_byMode 18 = .ok (.iload_n 3, 1) := by decide +kernel
theorem d_R_byMode_19 : decode b_R_byMode 19 = .ok (.imul, 1) := by decide +kernel
theorem d_R_byMode_20 : decode b_R_byMode 20 = .ok (.iload_n 2, 1) := by decide +kernel
theorem d_R_byMode_21 : decode b_R_byMode 21 = .ok (.iadd, 1) := by decide +kernel
theorem d_R_byMode_22 : decode b_R_byMode 22 = .ok (.iaload, 1) := by decide +kernel
theorem d_R_byMode_23 : decode b_R_byMode 23 = .ok (.i2l, 1) := by decide +kernel
theorem d_R_byMode_24 : decode b_R_byMode 24 = .ok (.lastore, 1) := by decide +kernel
theorem d_R_byMode_25 : decode b_R_byMode 25 = .ok (.iinc 3 1, 3) := by decide +kernel
theorem d_R_byMode_28 : decode b_R_byMode 28 = .ok (.goto (-26), 3) := by decide +kernel
theorem d_R_byMode_31 : decode b_R_byMode 31 = .ok (.aload_n 0, 1) := by decide +kernel
theorem d_R_byMode_32 : decode b_R_byMode 32 = .ok (.aload_n 0, 1) := by decide +kernel
theorem d_R_byMode_33 : decode b_R_byMode 33 = .ok (.getfield 51, 3) := by decide +kernel
theorem d_R_byMode_36 : decode b_R_byMode 36 = .ok (.iload_n 2, 1) := by decide +kernel
theorem d_R_byMode_37 : decode b_R_byMode 37 = .ok (.iaload, 1) := by decide +kernel
theorem d_R_byMode_38 : decode b_R_byMode 38 = .ok (.i2l, 1) := by decide +kernel
theorem d_R_byMode_39 : decode b_R_byMode 39 = .ok (.iconst 3, 1) := by decide +kernel
theorem d_R_byMode_40 : decode b_R_byMode 40 = .ok (.invokevirtual 122, 3) := by decide +kernel
theorem d_R_byMode_43 : decode b_R_byMode 43 = .ok (.aload_n 0, 1) := by decide +kernel
theorem d_R_byMode_44 : decode b_R_byMode 44 = .ok (.getfield 72, 3) := by decide +kernel
theorem d_R_byMode_47 : decode b_R_byMode 47 = .ok (.iload_n 1, 1) := by decide +kernel
theorem d_R_byMode_48 : decode b_R_byMode 48 = .ok (.iaload, 1) := by decide +kernel
theorem d_R_byMode_49 : decode b_R_byMode 49 = .ok (.ireturn, 1) := by decide +kernel
theorem d_R_chosen_0 : decode b_R_chosen 0 = .ok (.aload_n 0, 1) := by decide +kernel
theorem d_R_chosen_1 : decode b_R_chosen 1 = .ok (.iload_n 1, 1) := by decide +kernel
theorem d_R_chosen_2 : decode b_R_chosen 2 = .ok (.iconst 0, 1) := by decide +kernel
theorem d_R_chosen_3 : decode b_R_chosen 3 = .ok (.iconst 2, 1) := by decide +kernel
theorem d_R_chosen_4 : decode b_R_chosen 4 = .ok (.invokestatic 94, 3) := by decide +kernel
theorem d_R_chosen_7 : decode b_R_chosen 7 = .ok (.ifCond .eq 16, 3) := by decide +kernel
theorem d_R_chosen_10 : decode b_R_chosen 10 = .ok (.aload_n 0, 1) := by decide +kernel
theorem d_R_chosen_11 : decode b_R_chosen 11 = .ok (.iload_n 2, 1) := by decide +kernel
theorem d_R_chosen_12 : decode b_R_chosen 12 = .ok (.iload_n 3, 1) := by decide +kernel
theorem d_R_chosen_13 : decode b_R_chosen 13 = .ok (.invokevirtual 116, 3) := by decide +kernel
theorem d_R_chosen_16 : decode b_R_chosen 16 = .ok (.ifCond .eq 7, 3) := by decide +kernel
theorem d_R_chosen_19 : decode b_R_chosen 19 = .ok (.iconst 0, 1) := by decide +kernel
theorem d_R_chosen_20 : decode b_R_chosen 20 = .ok (.goto 4, 3) := by decide +kernel
theorem d_R_chosen_23 : decode b_R_chosen 23 = .ok (.iconst 1, 1) := by decide +kernel
theorem d_R_chosen_24 : decode b_R_chosen 24 = .ok (.putfield 87, 3) := by decide +kernel
theorem d_R_chosen_27 : decode b_R_chosen 27 = .ok (.aload_n 0, 1) := by decide +kernel
theorem d_R_chosen_28 : decode b_R_chosen 28 = .ok (.getfield 87, 3) := by decide +kernel
theorem d_R_chosen_31 : decode b_R_chosen 31 = .ok (.ifCond .le 7, 3) := by decide +kernel
theorem d_R_chosen_34 : decode b_R_chosen 34 = .ok (.iconst 0, 1) := by decide +kernel
theorem d_R_chosen_35 : decode b_R_chosen 35 = .ok (.goto 14, 3) := by decide +kernel
theorem d_R_chosen_38 : decode b_R_chosen 38 = .ok (.aload_n 0, 1) := by decide +kernel
theorem d_R_chosen_39 : decode b_R_chosen 39 = .ok (.iload_n 1, 1) := by decide +kernel
theorem d_R_chosen_40 : decode b_R_chosen 40 = .ok (.bipush 6, 2) := by decide +kernel
theorem d_R_chosen_42 : decode b_R_chosen 42 = .ok (.iload_n 2, 1) := by decide +kernel
theorem d_R_chosen_43 : decode b_R_chosen 43 = .ok (.imul, 1) := by decide +kernel
theorem d_R_chosen_44 : decode b_R_chosen 44 = .ok (.iload_n 3, 1) := by decide +kernel
theorem d_R_chosen_45 : decode b_R_chosen 45 = .ok (.iadd, 1) := by decide +kernel
theorem d_R_chosen_46 : decode b_R_chosen 46 = .ok (.invokevirtual 138, 3) := by decide +kernel
theorem d_R_chosen_49 : decode b_R_chosen 49 = .ok (.ireturn, 1) := by decide +kernel
theorem d_R_timeOf_0 : decode b_R_timeOf 0 = .ok (.aload_n 0, 1) := by decide +kernel
theorem d_R_timeOf_1 : decode b_R_timeOf 1 = .ok (.getfield 25, 3) := by decide +kernel
theorem d_R_timeOf_4 : decode b_R_timeOf 4 = .ok (.iload_n 1, 1) := by decide +kernel
theorem d_R_timeOf_5 : decode b_R_timeOf 5 = .ok (.iaload, 1) := by decide +kernel
theorem d_R_timeOf_6 : decode b_R_timeOf 6 = .ok (.i2l, 1) := by decide +kernel
theorem d_R_timeOf_7 : decode b_R_timeOf 7 = .ok (.aload_n 0, 1) := by decide +kernel
theorem d_R_timeOf_8 : decode b_R_timeOf 8 = .ok (.getfield 28, 3) := by decide +kernel
theorem d_R_timeOf_11 : decode b_R_timeOf 11 = .ok (.iload_n 1, 1) := by decide +kernel
theorem d_R_timeOf_12 : decode b_R_timeOf 12 = .ok (.iaload, 1) := by decide +kernel
theorem d_R_timeOf_13 : decode b_R_timeOf 13 = .ok (.i2l, 1) := by decide +kernel
theorem d_R_timeOf_14 : decode b_R_timeOf 14 = .ok (.aload_n 0, 1) := by decide +kernel
theorem d_R_timeOf_15 : decode b_R_timeOf 15 = .ok (.getfield 44, 3) := by decide +kernel
theorem d_R_timeOf_18 : decode b_R_timeOf 18 = .ok (.iload_n 1, 1) := by decide +kernel
theorem d_R_timeOf_19 : decode b_R_timeOf 19 = .ok (.laload, 1) := by decide +kernel
theorem d_R_timeOf_20 : decode b_R_timeOf 20 = .ok (.lmul, 1) := by decide +kernel
theorem d_R_timeOf_21 : decode b_R_timeOf 21 = .ok (.aload_n 0, 1) := by decide +kernel
theorem d_R_timeOf_22 : decode b_R_timeOf 22 = .ok (.getfield 31, 3) := by decide +kernel
theorem d_R_timeOf_25 : decode b_R_timeOf 25 = .ok (.iload_n 1, 1) := by decide +kernel
theorem d_R_timeOf_26 : decode b_R_timeOf 26 = .ok (.iaload, 1) := by decide +kernel
theorem d_R_timeOf_27 : decode b_R_timeOf 27 = .ok (.i2l, 1) := by decide +kernel
theorem d_R_timeOf_28 : decode b_R_timeOf 28 = .ok (.ldiv, 1) := by decide +kernel
theorem d_R_timeOf_29 : decode b_R_timeOf 29 = .ok (.ladd, 1) := by decide +kernel
theorem d_R_timeOf_30 : decode b_R_timeOf 30 = .ok (.aload_n 0, 1) := by decide +kernel
theorem d_R_timeOf_31 : decode b_R_timeOf 31 = .ok (.getfield 34, 3) := by decide +kernel
theorem d_R_timeOf_34 : decode b_R_timeOf 34 = .ok (.iload_n 1, 1) := by decide +kernel
theorem d_R_timeOf_35 : decode b_R_timeOf 35 = .ok (.iaload, 1) := by decide +kernel
theorem d_R_timeOf_36 : decode b_R_timeOf 36 = .ok (.i2l, 1) := by decide +kernel
theorem d_R_timeOf_37 : decode b_R_timeOf 37 = .ok (.ladd, 1) := by decide +kernel
theorem d_R_timeOf_38 : decode b_R_timeOf 38 = .ok (.lstore_n 2, 1) := by decide +kernel
theorem d_R_timeOf_39 : decode b_R_timeOf 39 = .ok (.lload_n 2, 1) := by decide +kernel
theorem d_R_timeOf_40 : decode b_R_timeOf 40 = .ok (.ldc2_w 136, 3) := by decide +kernel
theorem d_R_timeOf_43 : decode b_R_timeOf 43 = .ok (.lcmp, 1) := by decide +kernel
theorem d_R_timeOf_44 : decode b_R_timeOf 44 = .ok (.ifCond .le 9, 3) := by decide +kernel
theorem d_R_timeOf_47 : decode b_R_timeOf 47 = .ok (.ldc2_w 136, 3) := by decide +kernel
theorem d_R_timeOf_50 : decode b_R_timeOf 50 = .ok (.goto 4, 3) := by decide +kernel
theorem d_R_timeOf_53 : decode b_R_timeOf 53 = .ok (.lload_n 2, 1) := by decide +kernel
theorem d_R_timeOf_54 : decode b_R_timeOf 54 = .ok (.lreturn, 1) := by decide +kernel
theorem d_R_takeTimes_0 : decode b_R_takeTimes 0 = .ok (.iconst 0, 1) := by decide +kernel
theorem d_R_takeTimes_1 : decode b_R_takeTimes 1 = .ok (.istore_n 1, 1) := by decide +kernel
theorem d_R_takeTimes_2 : decode b_R_takeTimes 2 = .ok (.iload_n 1, 1) := by decide +kernel
theorem d_R_takeTimes_3 : decode b_R_takeTimes 3 = .ok (.aload_n 0, 1) := by decide +kernel
theorem d_R_takeTimes_4 : decode b_R_takeTimes 4 = .ok (.getfield 105, 3) := by decide +kernel
theorem d_R_takeTimes_7 : decode b_R_takeTimes 7 = .ok (.if_icmp .ge 20, 3) := by decide +kernel
theorem d_R_takeTimes_10 : decode b_R_takeTimes 10 = .ok (.aload_n 0, 1) := by decide +kernel
theorem d_R_takeTimes_11 : decode b_R_takeTimes 11 = .ok (.getfield 75, 3) := by decide +kernel
theorem d_R_takeTimes_14 : decode b_R_takeTimes 14 = .ok (.iload_n 1, 1) := by decide +kernel
theorem d_R_takeTimes_15 : decode b_R_takeTimes 15 = .ok (.aload_n 0, 1) := by decide +kernel
theorem d_R_takeTimes_16 : decode b_R_takeTimes 16 = .ok (.iload_n 1, 1) := by decide +kernel
theorem d_R_takeTimes_17 : decode b_R_takeTimes 17 = .ok (.invokevirtual 142, 3) := by decide +kernel
theorem d_R_takeTimes_20 : decode b_R_takeTimes 20 = .ok (.lastore, 1) := by decide +kernel
theorem d_R_takeTimes_21 : decode b_R_takeTimes 21 = .ok (.iinc 1 1, 3) := by decide +kernel
theorem d_R_takeTimes_24 : decode b_R_takeTimes 24 = .ok (.goto (-22), 3) := by decide +kernel
theorem d_R_takeTimes_27 : decode b_R_takeTimes 27 = .ok (.return_, 1) := by decide +kernel
theorem d_R_findNear_0 : decode b_R_findNear 0 = .ok (.iconst 0, 1) := by decide +kernel
theorem d_R_findNear_1 : decode b_R_findNear 1 = .ok (.istore_n 2, 1) := by decide +kernel
theorem d_R_findNear_2 : decode b_R_findNear 2 = .ok (.iload_n 2, 1) := by decide +kernel
theorem d_R_findNear_3 : decode b_R_findNear 3 = .ok (.aload_n 0, 1) := by decide +kernel
theorem d_R_findNear_4 : decode b_R_findNear 4 = .ok (.getfield 91, 3) := by decide +kernel
theorem d_R_findNear_7 : decode b_R_findNear 7 = .ok (.if_icmp .ge 34, 3) := by decide +kernel
theorem d_R_findNear_10 : decode b_R_findNear 10 = .ok (.aload_n 0, 1) := by decide +kernel
theorem d_R_findNear_11 : decode b_R_findNear 11 = .ok (.getfield 78, 3) := by decide +kernel
theorem d_R_findNear_14 : decode b_R_findNear 14 = .ok (.iload_n 2, 1) := by decide +kernel
theorem d_R_findNear_15 : decode b_R_findNear 15 = .ok (.iload_n 2, 1) := by decide +kernel
theorem d_R_findNear_16 : decode b_R_findNear 16 = .ok (.iload_n 1, 1) := by decide +kernel
theorem d_R_findNear_17 : decode b_R_findNear 17 = .ok (.if_icmp .ne 7, 3) := by decide +kernel
theorem d_R_findNear_20 : decode b_R_findNear 20 = .ok (.lconst 0, 1) := by decide +kernel
theorem d_R_findNear_21 : decode b_R_findNear 21 = .ok (.goto 6, 3) := by decide +kernel
theorem d_R_findNear_24 : decode b_R_findNear 24 = .ok (.ldc2_w 145, 3) := by decide +kernel
theorem d_R_findNear_27 : decode b_R_findNear 27 = .ok (.lastore, 1) := by decide +kernel
theorem d_R_findNear_28 : decode b_R_findNear 28 = .ok (.aload_n 0, 1) := by decide +kernel
theorem d_R_findNear_29 : decode b_R_findNear 29 = .ok (.getfield 81, 3) := by decide +kernel
theorem d_R_findNear_32 : decode b_R_findNear 32 = .ok (.iload_n 2, 1) := by decide +kernel
theorem d_R_findNear_33 : decode b_R_findNear 33 = .ok (.iconst 0, 1) := by decide +kernel
theorem d_R_findNear_34 : decode b_R_findNear 34 = .ok (.iastore, 1) := by decide +kernel
theorem d_R_findNear_35 : decode b_R_findNear 35 = .ok (.iinc 2 1, 3) := by decide +kernel
theorem d_R_findNear_38 : decode b_R_findNear 38 = .ok (.goto (-36), 3) := by decide +kernel
theorem d_R_findNear_41 : decode b_R_findNear 41 = .ok (.iconst 1, 1) := by decide +kernel
theorem d_R_findNear_42 : decode b_R_findNear 42 = .ok (.istore_n 2, 1) := by decide +kernel
theorem d_R_findNear_43 : decode b_R_findNear 43 = .ok (.iload_n 2, 1) := by decide +kernel
theorem d_R_findNear_44 : decode b_R_findNear 44 = .ok (.ifCond .eq 151, 3) := by decide +kernel
theorem d_R_findNear_47 : decode b_R_findNear 47 = .ok (.iconst 0, 1) := by decide +kernel
theorem d_R_findNear_48 : decode b_R_findNear 48 = .ok (.istore_n 2, 1) := by decide +kernel
theorem d_R_findNear_49 : decode b_R_findNear 49 = .ok (.iconst 0, 1) := by decide +kernel
theorem d_R_findNear_50 : decode b_R_findNear 50 = .ok (.istore_n 3, 1) := by decide +kernel
theorem d_R_findNear_51 : decode b_R_findNear 51 = .ok (.iload_n 3, 1) := by decide +kernel
theorem d_R_findNear_52 : decode b_R_findNear 52 = .ok (.aload_n 0, 1) := by decide +kernel
theorem d_R_findNear_53 : decode b_R_findNear 53 = .ok (.getfield 105, 3) := by decide +kernel
theorem d_R_findNear_56 : decode b_R_findNear 56 = .ok (.if_icmp .ge 136, 3) := by decide +kernel
theorem d_R_findNear_59 : decode b_R_findNear 59 = .ok (.aload_n 0, 1) := by decide +kernel
theorem d_R_findNear_60 : decode b_R_findNear 60 = .ok (.getfield 19, 3) := by decide +kernel
theorem d_R_findNear_63 : decode b_R_findNear 63 = .ok (.iload_n 3, 1) := by decide +kernel
theorem d_R_findNear_64 : decode b_R_findNear 64 = .ok (.iaload, 1) := by decide +kernel
theorem d_R_findNear_65 : decode b_R_findNear 65 = .ok (.istore 4, 2) := by decide +kernel
theorem d_R_findNear_67 : decode b_R_findNear 67 = .ok (.aload_n 0, 1) := by decide +kernel
theorem d_R_findNear_68 : decode b_R_findNear 68 = .ok (.getfield 22, 3) := by decide +kernel
theorem d_R_findNear_71 : decode b_R_findNear 71 = .ok (.iload_n 3, 1) := by decide +kernel
theorem d_R_findNear_72 : decode b_R_findNear 72 = .ok (.iaload, 1) := by decide +kernel
theorem d_R_findNear_73 : decode b_R_findNear 73 = .ok (.istore 5, 2) := by decide +kernel
theorem d_R_findNear_75 : decode b_R_findNear 75 = .ok (.aload_n 0, 1) := by decide +kernel
theorem d_R_findNear_76 : decode b_R_findNear 76 = .ok (.getfield 37, 3) := by decide +kernel
theorem d_R_findNear_79 : decode b_R_findNear 79 = .ok (.iload_n 3, 1) := by decide +kernel
theorem d_R_findNear_80 : decode b_R_findNear 80 = .ok (.baload, 1) := by decide +kernel
theorem d_R_findNear_81 : decode b_R_findNear 81 = .ok (.ifCond .ne 105, 3) := by decide +kernel
theorem d_R_findNear_84 : decode b_R_findNear 84 = .ok (.aload_n 0, 1) := by decide +kernel
theorem d_R_findNear_85 : decode b_R_findNear 85 = .ok (.getfield 78, 3) := by decide +kernel
theorem d_R_findNear_88 : decode b_R_findNear 88 = .ok (.iload 5, 2) := by decide +kernel
theorem d_R_findNear_90 : decode b_R_findNear 90 = .ok (.laload, 1) := by decide +kernel
theorem d_R_findNear_91 : decode b_R_findNear 91 = .ok (.ldc2_w 145, 3) := by decide +kernel
theorem d_R_findNear_94 : decode b_R_findNear 94 = .ok (.lcmp, 1) := by decide +kernel
theorem d_R_findNear_95 : decode b_R_findNear 95 = .ok (.ifCond .ne 6, 3) := by decide +kernel
theorem d_R_findNear_98 : decode b_R_findNear 98 = .ok (.goto 88, 3) := by decide +kernel
theorem d_R_findNear_101 : decode b_R_findNear 101 = .ok (.aload_n 0, 1) := by decide +kernel
theorem d_R_findNear_102 : decode b_R_findNear 102 = .ok (.getfield 78, 3) := by decide +kernel
theorem d_R_findNear_105 : decode b_R_findNear 105 = .ok (.iload 5, 2) := by decide +kernel
theorem d_R_findNear_107 : decode b_R_findNear 107 = .ok (.laload, 1) := by decide +kernel
theorem d_R_findNear_108 : decode b_R_findNear 108 = .ok (.aload_n 0, 1) := by decide +kernel
theorem d_R_findNear_109 : decode b_R_findNear 109 = .ok (.getfield 75, 3) := by decide +kernel
theorem d_R_findNear_112 : decode b_R_findNear 112 = .ok (.iload_n 3, 1) := by decide +kernel
theorem d_R_findNear_113 : decode b_R_findNear 113 = .ok (.laload, 1) := by decide +kernel
theorem d_R_findNear_114 : decode b_R_findNear 114 = .ok (.ladd, 1) := by decide +kernel
theorem d_R_findNear_115 : decode b_R_findNear 115 = .ok (.lstore 6, 2) := by decide +kernel
theorem d_R_findNear_117 : decode b_R_findNear 117 = .ok (.aload_n 0, 1) := by decide +kernel
theorem d_R_findNear_118 : decode b_R_findNear 118 = .ok (.getfield 81, 3) := by decide +kernel
theorem d_R_findNear_121 : decode b_R_findNear 121 = .ok (.iload 5, 2) := by decide +kernel
theorem d_R_findNear_123 : decode b_R_findNear 123 = .ok (.iaload, 1) := by decide +kernel
theorem d_R_findNear_124 : decode b_R_findNear 124 = .ok (.iconst 1, 1) := by decide +kernel
theorem d_R_findNear_125 : decode b_R_findNear 125 = .ok (.iadd, 1) := by decide +kernel
theorem d_R_findNear_126 : decode b_R_findNear 126 = .ok (.istore 8, 2) := by decide +kernel
theorem d_R_findNear_128 : decode b_R_findNear 128 = .ok (.lload 6, 2) := by decide +kernel
theorem d_R_findNear_130 : decode b_R_findNear 130 = .ok (.aload_n 0, 1) := by decide +kernel
theorem d_R_findNear_131 : decode b_R_findNear 131 = .ok (.getfield 78, 3) := by decide +kernel
theorem d_R_findNear_134 : decode b_R_findNear 134 = .ok (.iload 4, 2) := by decide +kernel
theorem d_R_findNear_136 : decode b_R_findNear 136 = .ok (.laload, 1) := by decide +kernel
theorem d_R_findNear_137 : decode b_R_findNear 137 = .ok (.lcmp, 1) := by decide +kernel
theorem d_R_findNear_138 : decode b_R_findNear 138 = .ok (.ifCond .lt 28, 3) := by decide +kernel
theorem d_R_findNear_141 : decode b_R_findNear 141 = .ok (.lload 6, 2) := by decide +kernel
theorem d_R_findNear_143 : decode b_R_findNear 143 = .ok (.aload_n 0, 1) := by decide +kernel
theorem d_R_findNear_144 : decode b_R_findNear 144 = .ok (.getfield 78, 3) := by decide +kernel
theorem d_R_findNear_147 : decode b_R_findNear 147 = .ok (.iload 4, 2) := by decide +kernel
theorem d_R_findNear_149 : decode b_R_findNear 149 = .ok (.laload, 1) := by decide +kernel
theorem d_R_findNear_150 : decode b_R_findNear 150 = .ok (.lcmp, 1) := by decide +kernel
theorem d_R_findNear_151 : decode b_R_findNear 151 = .ok (.ifCond .ne 35, 3) := by decide +kernel
theorem d_R_findNear_154 : decode b_R_findNear 154 = .ok (.iload 8, 2) := by decide +kernel
theorem d_R_findNear_156 : decode b_R_findNear 156 = .ok (.aload_n 0, 1) := by decide +kernel
theorem d_R_findNear_157 : decode b_R_findNear 157 = .ok (.getfield 81, 3) := by decide +kernel
theorem d_R_findNear_160 : decode b_R_findNear 160 = .ok (.iload 4, 2) := by decide +kernel
theorem d_R_findNear_162 : decode b_R_findNear 162 = .ok (.iaload, 1) := by decide +kernel
theorem d_R_findNear_163 : decode b_R_findNear 163 = .ok (.if_icmp .ge 23, 3) := by decide +kernel
theorem d_R_findNear_166 : decode b_R_findNear 166 = .ok (.aload_n 0, 1) := by decide +kernel
theorem d_R_findNear_167 : decode b_R_findNear 167 = .ok (.getfield 78, 3) := by decide +kernel
theorem d_R_findNear_170 : decode b_R_findNear 170 = .ok (.iload 4, 2) := by decide +kernel
theorem d_R_findNear_172 : decode b_R_findNear 172 = .ok (.lload 6, 2) := by decide +kernel
theorem d_R_findNear_174 : decode b_R_findNear 174 = .ok (.lastore, 1) := by decide +kernel
theorem d_R_findNear_175 : decode b_R_findNear 175 = .ok (.aload_n 0, 1) := by decide +kernel
theorem d_R_findNear_176 : decode b_R_findNear 176 = .ok (.getfield 81, 3) := by decide +kernel
theorem d_R_findNear_179 : decode b_R_findNear 179 = .ok (.iload 4, 2) := by decide +kernel
theorem d_R_findNear_181 : decode b_R_findNear 181 = .ok (.iload 8, 2) := by decide +kernel
theorem d_R_findNear_183 : decode b_R_findNear 183 = .ok (.iastore, 1) := by decide +kernel
theorem d_R_findNear_184 : decode b_R_findNear 184 = .ok (.iconst 1, 1) := by decide +kernel
theorem d_R_findNear_185 : decode b_R_findNear 185 = .ok (.istore_n 2, 1) := by decide +kernel
theorem d_R_findNear_186 : decode b_R_findNear 186 = .ok (.iinc 3 1, 3) := by decide +kernel
theorem d_R_findNear_189 : decode b_R_findNear 189 = .ok (.goto (-138), 3) := by decide +kernel
theorem d_R_findNear_192 : decode b_R_findNear 192 = .ok (.goto (-149), 3) := by decide +kernel
theorem d_R_findNear_195 : decode b_R_findNear 195 = .ok (.return_, 1) := by decide +kernel
theorem d_R_findWay_0 : decode b_R_findWay 0 = .ok (.aload_n 0, 1) := by decide +kernel
theorem d_R_findWay_1 : decode b_R_findWay 1 = .ok (.iload_n 2, 1) := by decide +kernel
theorem d_R_findWay_2 : decode b_R_findWay 2 = .ok (.invokevirtual 147, 3) := by decide +kernel
theorem d_R_findWay_5 : decode b_R_findWay 5 = .ok (.aload_n 0, 1) := by decide +kernel
theorem d_R_findWay_6 : decode b_R_findWay 6 = .ok (.iconst 0, 1) := by decide +kernel
theorem d_R_findWay_7 : decode b_R_findWay 7 = .ok (.putfield 151, 3) := by decide +kernel
theorem d_R_findWay_10 : decode b_R_findWay 10 = .ok (.aload_n 0, 1) := by decide +kernel
theorem d_R_findWay_11 : decode b_R_findWay 11 = .ok (.getfield 78, 3) := by decide +kernel
theorem d_R_findWay_14 : decode b_R_findWay 14 = .ok (.iload_n 1, 1) := by decide +kernel
theorem d_R_findWay_15 : decode b_R_findWay 15 = .ok (.laload, 1) := by decide +kernel
theorem d_R_findWay_16 : decode b_R_findWay 16 = .ok (.ldc2_w 145, 3) := by decide +kernel
theorem d_R_findWay_19 : decode b_R_findWay 19 = .ok (.lcmp, 1) := by decide +kernel
theorem d_R_findWay_20 : decode b_R_findWay 20 = .ok (.ifCond .ne 5, 3) := by decide +kernel
theorem d_R_findWay_23 : decode b_R_findWay 23 = .ok (.iconst 0, 1) := by decide +kernel
theorem d_R_findWay_24 : decode b_R_findWay 24 = .ok (.ireturn, 1) := by decide +kernel
theorem d_R_findWay_25 : decode b_R_findWay 25 = .ok (.iload_n 1, 1) := by decide +kernel
theorem d_R_findWay_26 : decode b_R_findWay 26 = .ok (.istore_n 3, 1) := by decide +kernel
theorem d_R_findWay_27 : decode b_R_findWay 27 = .ok (.iload_n 3, 1) := by decide +kernel
theorem d_R_findWay_28 : decode b_R_findWay 28 = .ok (.iload_n 2, 1) := by decide +kernel
theorem d_R_findWay_29 : decode b_R_findWay 29 = .ok (.if_icmp .eq 170, 3) := by decide +kernel
theorem d_R_findWay_32 : decode b_R_findWay 32 = .ok (.iconst (-1), 1) := by decide +kernel
theorem d_R_findWay_33 : decode b_R_findWay 33 = .ok (.istore 4, 2) := by decide +kernel
theorem d_R_findWay_35 : decode b_R_findWay 35 = .ok (.iconst 0, 1) := by decide +kernel
theorem d_R_findWay_36 : decode b_R_findWay 36 = .ok (.istore 5, 2) := by decide +kernel
theorem d_R_findWay_38 : decode b_R_findWay 38 = .ok (.iload 5, 2) := by decide +kernel
theorem d_R_findWay_40 : decode b_R_findWay 40 = .ok (.aload_n 0, 1) := by decide +kernel
theorem d_R_findWay_41 : decode b_R_findWay 41 = .ok (.getfield 105, 3) := by decide +kernel
theorem d_R_findWay_44 : decode b_R_findWay 44 = .ok (.if_icmp .ge 123, 3) := by decide +kernel
theorem d_R_findWay_47 : decode b_R_findWay 47 = .ok (.iload 4, 2) := by decide +kernel
theorem d_R_findWay_49 : decode b_R_findWay 49 = .ok (.iconst (-1), 1) := by decide +kernel
theorem d_R_findWay_50 : decode b_R_findWay 50 = .ok (.if_icmp .ne 117, 3) := by decide +kernel
theorem d_R_findWay_53 : decode b_R_findWay 53 = .ok (.aload_n 0, 1) := by decide +kernel
theorem d_R_findWay_54 : decode b_R_findWay 54 = .ok (.getfield 22, 3) := by decide +kernel
theorem d_R_findWay_57 : decode b_R_findWay 57 = .ok (.iload 5, 2) := by decide +kernel
theorem d_R_findWay_59 : decode b_R_findWay 59 = .ok (.iaload, 1) := by decide +kernel
theorem d_R_findWay_60 : decode b_R_findWay 60 = .ok (.istore 6, 2) := by decide +kernel
theorem d_R_findWay_62 : decode b_R_findWay 62 = .ok (.aload_n 0, 1) := by decide +kernel
theorem d_R_findWay_63 : decode b_R_findWay 63 = .ok (.getfield 19, 3) := by decide +kernel
theorem d_R_findWay_66 : decode b_R_findWay 66 = .ok (.iload 5, 2) := by decide +kernel
theorem d_R_findWay_68 : decode b_R_findWay 68 = .ok (.iaload, 1) := by decide +kernel
theorem d_R_findWay_69 : decode b_R_findWay 69 = .ok (.iload_n 3, 1) := by decide +kernel
theorem d_R_findWay_70 : decode b_R_findWay 70 = .ok (.if_icmp .ne 31, 3) := by decide +kernel
theorem d_R_findWay_73 : decode b_R_findWay 73 = .ok (.aload_n 0, 1) := by decide +kernel
theorem d_R_findWay_74 : decode b_R_findWay 74 = .ok (.getfield 37, 3) := by decide +kernel
theorem d_R_findWay_77 : decode b_R_findWay 77 = .ok (.iload 5, 2) := by decide +kernel
theorem d_R_findWay_79 : decode b_R_findWay 79 = .ok (.baload, 1) := by decide +kernel
theorem d_R_findWay_80 : decode b_R_findWay 80 = .ok (.ifCond .ne 21, 3) := by decide +kernel
theorem d_R_findWay_83 : decode b_R_findWay 83 = .ok (.aload_n 0, 1) := by decide +kernel
theorem d_R_findWay_84 : decode b_R_findWay 84 = .ok (.getfield 78, 3) := by decide +kernel
theorem d_R_findWay_87 : decode b_R_findWay 87 = .ok (.iload 6, 2) := by decide +kernel
theorem d_R_findWay_89 : decode b_R_findWay 89 = .ok (.laload, 1) := by decide +kernel
theorem d_R_findWay_90 : decode b_R_findWay 90 = .ok (.ldc2_w 145, 3) := by decide +kernel
theorem d_R_findWay_93 : decode b_R_findWay 93 = .ok (.lcmp, 1) := by decide +kernel
theorem d_R_findWay_94 : decode b_R_findWay 94 = .ok (.ifCond .eq 7, 3) := by decide +kernel
theorem d_R_findWay_97 : decode b_R_findWay 97 = .ok (.iconst 1, 1) := by decide +kernel
theorem d_R_findWay_98 : decode b_R_findWay 98 = .ok (.goto 4, 3) := by decide +kernel
theorem d_R_findWay_101 : decode b_R_findWay 101 = .ok (.iconst 0, 1) := by decide +kernel
theorem d_R_findWay_102 : decode b_R_findWay 102 = .ok (.istore 7, 2) := by decide +kernel
theorem d_R_findWay_104 : decode b_R_findWay 104 = .ok (.iload 7, 2) := by decide +kernel
theorem d_R_findWay_106 : decode b_R_findWay 106 = .ok (.ifCond .eq 51, 3) := by decide +kernel
theorem d_R_findWay_109 : decode b_R_findWay 109 = .ok (.aload_n 0, 1) := by decide +kernel
theorem d_R_findWay_110 : decode b_R_findWay 110 = .ok (.getfield 78, 3) := by decide +kernel
theorem d_R_findWay_113 : decode b_R_findWay 113 = .ok (.iload 6, 2) := by decide +kernel
theorem d_R_findWay_115 : decode b_R_findWay 115 = .ok (.laload, 1) := by decide +kernel
theorem d_R_findWay_116 : decode b_R_findWay 116 = .ok (.aload_n 0, 1) := by decide +kernel
theorem d_R_findWay_117 : decode b_R_findWay 117 = .ok (.getfield 75, 3) := by decide +kernel
theorem d_R_findWay_120 : decode b_R_findWay 120 = .ok (.iload 5, 2) := by decide +kernel
theorem d_R_findWay_122 : decode b_R_findWay 122 = .ok (.laload, 1) := by decide +kernel
theorem d_R_findWay_123 : decode b_R_findWay 123 = .ok (.ladd, 1) := by decide +kernel
theorem d_R_findWay_124 : decode b_R_findWay 124 = .ok (.aload_n 0, 1) := by decide +kernel
theorem d_R_findWay_125 : decode b_R_findWay 125 = .ok (.getfield 78, 3) := by decide +kernel
theorem d_R_findWay_128 : decode b_R_findWay 128 = .ok (.iload_n 3, 1) := by decide +kernel
theorem d_R_findWay_129 : decode b_R_findWay 129 = .ok (.laload, 1) := by decide +kernel
theorem d_R_findWay_130 : decode b_R_findWay 130 = .ok (.lcmp, 1) := by decide +kernel
theorem d_R_findWay_131 : decode b_R_findWay 131 = .ok (.ifCond .ne 26, 3) := by decide +kernel
theorem d_R_findWay_134 : decode b_R_findWay 134 = .ok (.aload_n 0, 1) := by decide +kernel
theorem d_R_findWay_135 : decode b_R_findWay 135 = .ok (.getfield 81, 3) := by decide +kernel
theorem d_R_findWay_138 : decode b_R_findWay 138 = .ok (.iload 6, 2) := by decide +kernel
theorem d_R_findWay_140 : decode b_R_findWay 140 = .ok (.iaload, 1) := by decide +kernel
theorem d_R_findWay_141 : decode b_R_findWay 141 = .ok (.iconst 1, 1) := by decide +kernel
theorem d_R_findWay_142 : decode b_R_findWay 142 = .ok (.iadd, 1) := by decide +kernel
theorem d_R_findWay_143 : decode b_R_findWay 143 = .ok (.aload_n 0, 1) := by decide +kernel
theorem d_R_findWay_144 : decode b_R_findWay 144 = .ok (.getfield 81, 3) := by decide +kernel
theorem d_R_findWay_147 : decode b_R_findWay 147 = .ok (.iload_n 3, 1) := by decide +kernel
theorem d_R_findWay_148 : decode b_R_findWay 148 = .ok (.iaload, 1) := by decide +kernel
theorem d_R_findWay_149 : decode b_R_findWay 149 = .ok (.if_icmp .ne 8, 3) := by decide +kernel
theorem d_R_findWay_152 : decode b_R_findWay 152 = .ok (.iload 5, 2) := by decide +kernel
theorem d_R_findWay_154 : decode b_R_findWay 154 = .ok (.goto 5, 3) := by decide +kernel
theorem d_R_findWay_157 : decode b_R_findWay 157 = .ok (.iload 4, 2) := by decide +kernel
theorem d_R_findWay_159 : decode b_R_findWay 159 = .ok (.istore 4, 2) := by decide +kernel
theorem d_R_findWay_161 : decode b_R_findWay 161 = .ok (.iinc 5 1, 3) := by decide +kernel
theorem d_R_findWay_164 : decode b_R_findWay 164 = .ok (.goto (-126), 3) := by decide +kernel
theorem d_R_findWay_167 : decode b_R_findWay 167 = .ok (.aload_n 0, 1) := by decide +kernel
theorem d_R_findWay_168 : decode b_R_findWay 168 = .ok (.getfield 84, 3) := by decide +kernel
theorem d_R_findWay_171 : decode b_R_findWay 171 = .ok (.aload_n 0, 1) := by decide +kernel
theorem d_R_findWay_172 : decode b_R_findWay 172 = .ok (.getfield 151, 3) := by decide +kernel
theorem d_R_findWay_175 : decode b_R_findWay 175 = .ok (.iload 4, 2) := by decide +kernel
theorem d_R_findWay_177 : decode b_R_findWay 177 = .ok (.iastore, 1) := by decide +kernel
theorem d_R_findWay_178 : decode b_R_findWay 178 = .ok (.aload_n 0, 1) := by decide +kernel
theorem d_R_findWay_179 : decode b_R_findWay 179 = .ok (.dup, 1) := by decide +kernel
theorem d_R_findWay_180 : decode b_R_findWay 180 = .ok (.getfield 151, 3) := by decide +kernel
theorem d_R_findWay_183 : decode b_R_findWay 183 = .ok (.iconst 1, 1) := by decide +kernel
theorem d_R_findWay_184 : decode b_R_findWay 184 = .ok (.iadd, 1) := by decide +kernel
theorem d_R_findWay_185 : decode b_R_findWay 185 = .ok (.putfield 151, 3) := by decide +kernel
theorem d_R_findWay_188 : decode b_R_findWay 188 = .ok (.aload_n 0, 1) := by decide +kernel
theorem d_R_findWay_189 : decode b_R_findWay 189 = .ok (.getfield 22, 3) := by decide +kernel
theorem d_R_findWay_192 : decode b_R_findWay 192 = .ok (.iload 4, 2) := by decide +kernel
theorem d_R_findWay_194 : decode b_R_findWay 194 = .ok (.iaload, 1) := by decide +kernel
theorem d_R_findWay_195 : decode b_R_findWay 195 = .ok (.istore_n 3, 1) := by decide +kernel
theorem d_R_findWay_196 : decode b_R_findWay 196 = .ok (.goto (-169), 3) := by decide +kernel
theorem d_R_findWay_199 : decode b_R_findWay 199 = .ok (.iconst 1, 1) := by decide +kernel
theorem d_R_findWay_200 : decode b_R_findWay 200 = .ok (.ireturn, 1) := by decide +kernel
theorem d_R_assignAll_0 : decode b_R_assignAll 0 = .ok (.aload_n 0, 1) := by decide +kernel
theorem d_R_assignAll_1 : decode b_R_assignAll 1 = .ok (.iload_n 1, 1) := by decide +kernel
theorem d_R_assignAll_2 : decode b_R_assignAll 2 = .ok (.putfield 154, 3) := by decide +kernel
theorem d_R_assignAll_5 : decode b_R_assignAll 5 = .ok (.aload_n 0, 1) := by decide +kernel
theorem d_R_assignAll_6 : decode b_R_assignAll 6 = .ok (.iconst 0, 1) := by decide +kernel
theorem d_R_assignAll_7 : decode b_R_assignAll 7 = .ok (.putfield 157, 3) := by decide +kernel
theorem d_R_assignAll_10 : decode b_R_assignAll 10 = .ok (.iconst 0, 1) := by decide +kernel
theorem d_R_assignAll_11 : decode b_R_assignAll 11 = .ok (.istore_n 2, 1) := by decide +kernel
theorem d_R_assignAll_12 : decode b_R_assignAll 12 = .ok (.iload_n 2, 1) := by decide +kernel
theorem d_R_assignAll_13 : decode b_R_assignAll 13 = .ok (.bipush 40, 2) := by decide +kernel
theorem d_R_assignAll_15 : decode b_R_assignAll 15 = .ok (.if_icmp .ge 16, 3) := by decide +kernel
theorem d_R_assignAll_18 : decode b_R_assignAll 18 = .ok (.aload_n 0, 1) := by decide +kernel
theorem d_R_assignAll_19 : decode b_R_assignAll 19 = .ok (.getfield 44, 3) := by decide +kernel
theorem d_R_assignAll_22 : decode b_R_assignAll 22 = .ok (.iload_n 2, 1) := by decide +kernel
theorem d_R_assignAll_23 : decode b_R_assignAll 23 = .ok (.lconst 0, 1) := by decide +kernel
theorem d_R_assignAll_24 : decode b_R_assignAll 24 = .ok (.lastore, 1) := by decide +kernel
theorem d_R_assignAll_25 : decode b_R_assignAll 25 = .ok (.iinc 2 1, 3) := by decide +kernel
theorem d_R_assignAll_28 : decode b_R_assignAll 28 = .ok (.goto (-16), 3) := by decide +kernel
theorem d_R_assignAll_31 : decode b_R_assignAll 31 = .ok (.iconst 0, 1) := by decide +kernel
theorem d_R_assignAll_32 : decode b_R_assignAll 32 = .ok (.istore_n 2, 1) := by decide +kernel
theorem d_R_assignAll_33 : decode b_R_assignAll 33 = .ok (.iload_n 2, 1) := by decide +kernel
theorem d_R_assignAll_34 : decode b_R_assignAll 34 = .ok (.sipush 1440, 3) := by decide +kernel
theorem d_R_assignAll_37 : decode b_R_assignAll 37 = .ok (.if_icmp .ge 16, 3) := by decide +kernel
theorem d_R_assignAll_40 : decode b_R_assignAll 40 = .ok (.aload_n 0, 1) := by decide +kernel
theorem d_R_assignAll_41 : decode b_R_assignAll 41 = .ok (.getfield 60, 3) := by decide +kernel
theorem d_R_assignAll_44 : decode b_R_assignAll 44 = .ok (.iload_n 2, 1) := by decide +kernel
theorem d_R_assignAll_45 : decode b_R_assignAll 45 = .ok (.iconst 0, 1) := by decide +kernel
theorem d_R_assignAll_46 : decode b_R_assignAll 46 = .ok (.iastore, 1) := by decide +kernel
theorem d_R_assignAll_47 : decode b_R_assignAll 47 = .ok (.iinc 2 1, 3) := by decide +kernel
theorem d_R_assignAll_50 : decode b_R_assignAll 50 = .ok (.goto (-17), 3) := by decide +kernel
theorem d_R_assignAll_53 : decode b_R_assignAll 53 = .ok (.iconst 0, 1) := by decide +kernel
theorem d_R_assignAll_54 : decode b_R_assignAll 54 = .ok (.istore_n 2, 1) := by decide +kernel
theorem d_R_assignAll_55 : decode b_R_assignAll 55 = .ok (.iload_n 2, 1) := by decide +kernel
theorem d_R_assignAll_56 : decode b_R_assignAll 56 = .ok (.bipush 36, 2) := by decide +kernel
theorem d_R_assignAll_58 : decode b_R_assignAll 58 = .ok (.if_icmp .ge 16, 3) := by decide +kernel
theorem d_R_assignAll_61 : decode b_R_assignAll 61 = .ok (.aload_n 0, 1) := by decide +kernel
theorem d_R_assignAll_62 : decode b_R_assignAll 62 = .ok (.getfield 57, 3) := by decide +kernel
theorem d_R_assignAll_65 : decode b_R_assignAll 65 = .ok (.iload_n 2, 1) := by decide +kernel
theorem d_R_assignAll_66 : decode b_R_assignAll 66 = .ok (.iconst 0, 1) := by decide +kernel
theorem d_R_assignAll_67 : decode b_R_assignAll 67 = .ok (.iastore, 1) := by decide +kernel
theorem d_R_assignAll_68 : decode b_R_assignAll 68 = .ok (.iinc 2 1, 3) := by decide +kernel
theorem d_R_assignAll_71 : decode b_R_assignAll 71 = .ok (.goto (-16), 3) := by decide +kernel
theorem d_R_assignAll_74 : decode b_R_assignAll 74 = .ok (.iconst 0, 1) := by decide +kernel
theorem d_R_assignAll_75 : decode b_R_assignAll 75 = .ok (.istore_n 2, 1) := by decide +kernel
theorem d_R_assignAll_76 : decode b_R_assignAll 76 = .ok (.iload_n 2, 1) := by decide +kernel
theorem d_R_assignAll_77 : decode b_R_assignAll 77 = .ok (.iload_n 1, 1) := by decide +kernel
theorem d_R_assignAll_78 : decode b_R_assignAll 78 = .ok (.if_icmp .ge 62, 3) := by decide +kernel
theorem d_R_assignAll_81 : decode b_R_assignAll 81 = .ok (.aload_n 0, 1) := by decide +kernel
theorem d_R_assignAll_82 : decode b_R_assignAll 82 = .ok (.invokevirtual 160, 3) := by decide +kernel
theorem d_R_assignAll_85 : decode b_R_assignAll 85 = .ok (.iconst 0, 1) := by decide +kernel
theorem d_R_assignAll_86 : decode b_R_assignAll 86 = .ok (.istore_n 3, 1) := by decide +kernel
theorem d_R_assignAll_87 : decode b_R_assignAll 87 = .ok (.iload_n 3, 1) := by decide +kernel
theorem d_R_assignAll_88 : decode b_R_assignAll 88 = .ok (.aload_n 0, 1) := by decide +kernel
theorem d_R_assignAll_89 : decode b_R_assignAll 89 = .ok (.getfield 98, 3) := by decide +kernel
theorem d_R_assignAll_92 : decode b_R_assignAll 92 = .ok (.if_icmp .ge 42, 3) := by decide +kernel
theorem d_R_assignAll_95 : decode b_R_assignAll 95 = .ok (.iconst 0, 1) := by decide +kernel
theorem d_R_assignAll_96 : decode b_R_assignAll 96 = .ok (.istore 4, 2) := by decide +kernel
theorem d_R_assignAll_98 : decode b_R_assignAll 98 = .ok (.iload 4, 2) := by decide +kernel
theorem d_R_assignAll_100 : decode b_R_assignAll 100 = .ok (.aload_n 0, 1) := by decide +kernel
theorem d_R_assignAll_101 : decode b_R_assignAll 101 = .ok (.getfield 98, 3) := by decide +kernel
theorem d_R_assignAll_104 : decode b_R_assignAll 104 = .ok (.if_icmp .ge 24, 3) := by decide +kernel
theorem d_R_assignAll_107 : decode b_R_assignAll 107 = .ok (.iload_n 3, 1) := by decide +kernel
theorem d_R_assignAll_108 : decode b_R_assignAll 108 = .ok (.iload 4, 2) := by decide +kernel
theorem d_R_assignAll_110 : decode b_R_assignAll 110 = .ok (.if_icmp .eq 12, 3) := by decide +kernel
theorem d_R_assignAll_113 : decode b_R_assignAll 113 = .ok (.aload_n 0, 1) := by decide +kernel
theorem d_R_assignAll_114 : decode b_R_assignAll 114 = .ok (.iload_n 3, 1) := by decide +kernel
theorem d_R_assignAll_115 : decode b_R_assignAll 115 = .ok (.iload 4, 2) := by decide +kernel
theorem d_R_assignAll_117 : decode b_R_assignAll 117 = .ok (.iload_n 2, 1) := by decide +kernel
theorem d_R_assignAll_118 : decode b_R_assignAll 118 = .ok (.iload_n 1, 1) := by decide +kernel
theorem d_R_assignAll_119 : decode b_R_assignAll 119 = .ok (.invokevirtual 163, 3) := by decide +kernel
theorem d_R_assignAll_122 : decode b_R_assignAll 122 = .ok (.iinc 4 1, 3) := by decide +kernel
theorem d_R_assignAll_125 : decode b_R_assignAll 125 = .ok (.goto (-27), 3) := by decide +kernel
theorem d_R_assignAll_128 : decode b_R_assignAll 128 = .ok (.iinc 3 1, 3) := by decide +kernel
theorem d_R_assignAll_131 : decode b_R_assignAll 131 = .ok (.goto (-44), 3) := by decide +kernel
theorem d_R_assignAll_134 : decode b_R_assignAll 134 = .ok (.iinc 2 1, 3) := by decide +kernel
theorem d_R_assignAll_137 : decode b_R_assignAll 137 = .ok (.goto (-61), 3) := by decide +kernel
theorem d_R_assignAll_140 : decode b_R_assignAll 140 = .ok (.return_, 1) := by decide +kernel
theorem d_R_goPart_0 : decode b_R_goPart 0 = .ok (.bipush 6, 2) := by decide +kernel
theorem d_R_goPart_2 : decode b_R_goPart 2 = .ok (.iload_n 1, 1) := by decide +kernel
theorem d_R_goPart_3 : decode b_R_goPart 3 = .ok (.imul, 1) := by decide +kernel
theorem d_R_goPart_4 : decode b_R_goPart 4 = .ok (.iload_n 2, 1) := by decide +kernel
theorem d_R_goPart_5 : decode b_R_goPart 5 = .ok (.iadd, 1) := by decide +kernel
theorem d_R_goPart_6 : decode b_R_goPart 6 = .ok (.istore 5, 2) := by decide +kernel
theorem d_R_goPart_8 : decode b_R_goPart 8 = .ok (.aload_n 0, 1) := by decide +kernel
theorem d_R_goPart_9 : decode b_R_goPart 9 = .ok (.iconst 0, 1) := by decide +kernel
theorem d_R_goPart_10 : decode b_R_goPart 10 = .ok (.iload 5, 2) := by decide +kernel
theorem d_R_goPart_12 : decode b_R_goPart 12 = .ok (.invokevirtual 138, 3) := by decide +kernel
theorem d_R_goPart_15 : decode b_R_goPart 15 = .ok (.i2l, 1) := by decide +kernel
theorem d_R_goPart_16 : decode b_R_goPart 16 = .ok (.lstore 6, 2) := by decide +kernel
theorem d_R_goPart_18 : decode b_R_goPart 18 = .ok (.lload 6, 2) := by decide +kernel
theorem d_R_goPart_20 : decode b_R_goPart 20 = .ok (.iload_n 3, 1) := by decide +kernel
theorem d_R_goPart_21 : decode b_R_goPart 21 = .ok (.iconst 1, 1) := by decide +kernel
theorem d_R_goPart_22 : decode b_R_goPart 22 = .ok (.iadd, 1) := by decide +kernel
theorem d_R_goPart_23 : decode b_R_goPart 23 = .ok (.i2l, 1) := by decide +kernel
theorem d_R_goPart_24 : decode b_R_goPart 24 = .ok (.lmul, 1) := by decide +kernel
theorem d_R_goPart_25 : decode b_R_goPart 25 = .ok (.iload 4, 2) := by decide +kernel
theorem d_R_goPart_27 : decode b_R_goPart 27 = .ok (.i2l, 1) := by decide +kernel
theorem d_R_goPart_28 : decode b_R_goPart 28 = .ok (.ldiv, 1) := by decide +kernel
theorem d_R_goPart_29 : decode b_R_goPart 29 = .ok (.lload 6, 2) := by decide +kernel
theorem d_R_goPart_31 : decode b_R_goPart 31 = .ok (.iload_n 3, 1) := by decide +kernel
theorem d_R_goPart_32 : decode b_R_goPart 32 = .ok (.i2l, 1) := by decide +kernel
theorem d_R_goPart_33 : decode b_R_goPart 33 = .ok (.lmul, 1) := by decide +kernel
theorem d_R_goPart_34 : decode b_R_goPart 34 = .ok (.iload 4, 2) := by decide +kernel
theorem d_R_goPart_36 : decode b_R_goPart 36 = .ok (.i2l, 1) := by decide +kernel
theorem d_R_goPart_37 : decode b_R_goPart 37 = .ok (.ldiv, 1) := by decide +kernel
theorem d_R_goPart_38 : decode b_R_goPart 38 = .ok (.lsub, 1) := by decide +kernel
theorem d_R_goPart_39 : decode b_R_goPart 39 = .ok (.l2i, 1) := by decide +kernel
theorem d_R_goPart_40 : decode b_R_goPart 40 = .ok (.istore 8, 2) := by decide +kernel
theorem d_R_goPart_42 : decode b_R_goPart 42 = .ok (.aload_n 0, 1) := by decide +kernel
theorem d_R_goPart_43 : decode b_R_goPart 43 = .ok (.aload_n 0, 1) := by decide +kernel
theorem d_R_goPart_44 : decode b_R_goPart 44 = .ok (.getfield 7, 3) := by decide +kernel
theorem d_R_goPart_47 : decode b_R_goPart 47 = .ok (.iload_n 1, 1) := by decide +kernel
theorem d_R_goPart_48 : decode b_R_goPart 48 = .ok (.iaload, 1) := by decide +kernel
theorem d_R_goPart_49 : decode b_R_goPart 49 = .ok (.aload_n 0, 1) := by decide +kernel
theorem d_R_goPart_50 : decode b_R_goPart 50 = .ok (.getfield 7, 3) := by decide +kernel
theorem d_R_goPart_53 : decode b_R_goPart 53 = .ok (.iload_n 2, 1) := by decide +kernel
theorem d_R_goPart_54 : decode b_R_goPart 54 = .ok (.iaload, 1) := by decide +kernel
theorem d_R_goPart_55 : decode b_R_goPart 55 = .ok (.invokevirtual 167, 3) := by decide +kernel
theorem d_R_goPart_58 : decode b_R_goPart 58 = .ok (.ifCond .ne 15, 3) := by decide +kernel
theorem d_R_goPart_61 : decode b_R_goPart 61 = .ok (.aload_n 0, 1) := by decide +kernel
theorem d_R_goPart_62 : decode b_R_goPart 62 = .ok (.dup, 1) := by decide +kernel
theorem d_R_goPart_63 : decode b_R_goPart 63 = .ok (.getfield 157, 3) := by decide +kernel
theorem d_R_goPart_66 : decode b_R_goPart 66 = .ok (.iload 8, 2) := by decide +kernel
theorem d_R_goPart_68 : decode b_R_goPart 68 = .ok (.iadd, 1) := by decide +kernel
theorem d_R_goPart_69 : decode b_R_goPart 69 = .ok (.putfield 157, 3) := by decide +kernel
theorem d_R_goPart_72 : decode b_R_goPart 72 = .ok (.return_, 1) := by decide +kernel
theorem d_R_goPart_73 : decode b_R_goPart 73 = .ok (.aload_n 0, 1) := by decide +kernel
theorem d_R_goPart_74 : decode b_R_goPart 74 = .ok (.getfield 57, 3) := by decide +kernel
theorem d_R_goPart_77 : decode b_R_goPart 77 = .ok (.iload 5, 2) := by decide +kernel
theorem d_R_goPart_79 : decode b_R_goPart 79 = .ok (.dup2, 1) := by decide +kernel
theorem d_R_goPart_80 : decode b_R_goPart 80 = .ok (.iaload, 1) := by decide +kernel
theorem d_R_goPart_81 : decode b_R_goPart 81 = .ok (.iload 8, 2) := by decide +kernel
theorem d_R_goPart_83 : decode b_R_goPart 83 = .ok (.iadd, 1) := by decide +kernel
theorem d_R_goPart_84 : decode b_R_goPart 84 = .ok (.iastore, 1) := by decide +kernel
theorem d_R_goPart_85 : decode b_R_goPart 85 = .ok (.iconst 0, 1) := by decide +kernel
theorem d_R_goPart_86 : decode b_R_goPart 86 = .ok (.istore 9, 2) := by decide +kernel
theorem d_R_goPart_88 : decode b_R_goPart 88 = .ok (.iload 9, 2) := by decide +kernel
theorem d_R_goPart_90 : decode b_R_goPart 90 = .ok (.aload_n 0, 1) := by decide +kernel
theorem d_R_goPart_91 : decode b_R_goPart 91 = .ok (.getfield 151, 3) := by decide +kernel
theorem d_R_goPart_94 : decode b_R_goPart 94 = .ok (.if_icmp .ge 50, 3) := by decide +kernel
theorem d_R_goPart_97 : decode b_R_goPart 97 = .ok (.aload_n 0, 1) := by decide +kernel
theorem d_R_goPart_98 : decode b_R_goPart 98 = .ok (.getfield 44, 3) := by decide +kernel
theorem d_R_goPart_101 : decode b_R_goPart 101 = .ok (.aload_n 0, 1) := by decide +kernel
theorem d_R_goPart_102 : decode b_R_goPart 102 = .ok (.getfield 84, 3) := by decide +kernel
theorem d_R_goPart_105 : decode b_R_goPart 105 = .ok (.iload 9, 2) := by decide +kernel
theorem d_R_goPart_107 : decode b_R_goPart 107 = .ok (.iaload, 1) := by decide +kernel
theorem d_R_goPart_108 : decode b_R_goPart 108 = .ok (.dup2, 1) := by decide +kernel
theorem d_R_goPart_109 : decode b_R_goPart 109 = .ok (.laload, 1) := by decide +kernel
theorem d_R_goPart_110 : decode b_R_goPart 110 = .ok (.iload 8, 2) := by decide +kernel
theorem d_R_goPart_112 : decode b_R_goPart 112 = .ok (.i2l, 1) := by decide +kernel
theorem d_R_goPart_113 : decode b_R_goPart 113 = .ok (.ladd, 1) := by decide +kernel
theorem d_R_goPart_114 : decode b_R_goPart 114 = .ok (.lastore, 1) := by decide +kernel
theorem d_R_goPart_115 : decode b_R_goPart 115 = .ok (.aload_n 0, 1) := by decide +kernel
theorem d_R_goPart_116 : decode b_R_goPart 116 = .ok (.getfield 60, 3) := by decide +kernel
theorem d_R_goPart_119 : decode b_R_goPart 119 = .ok (.bipush 36, 2) := by decide +kernel
theorem d_R_goPart_121 : decode b_R_goPart 121 = .ok (.aload_n 0, 1) := by decide +kernel
theorem d_R_goPart_122 : decode b_R_goPart 122 = .ok (.getfield 84, 3) := by decide +kernel
theorem d_R_goPart_125 : decode b_R_goPart 125 = .ok (.iload 9, 2) := by decide +kernel
theorem d_R_goPart_127 : decode b_R_goPart 127 = .ok (.iaload, 1) := by decide +kernel
theorem d_R_goPart_128 : decode b_R_goPart 128 = .ok (.imul, 1) := by decide +kernel
theorem d_R_goPart_129 : decode b_R_goPart 129 = .ok (.iload 5, 2) := by decide +kernel
theorem d_R_goPart_131 : decode b_R_goPart 131 = .ok (.iadd, 1) := by decide +kernel
theorem d_R_goPart_132 : decode b_R_goPart 132 = .ok (.dup2, 1) := by decide +kernel
theorem d_R_goPart_133 : decode b_R_goPart 133 = .ok (.iaload, 1) := by decide +kernel
theorem d_R_goPart_134 : decode b_R_goPart 134 = .ok (.iload 8, 2) := by decide +kernel
theorem d_R_goPart_136 : decode b_R_goPart 136 = .ok (.iadd, 1) := by decide +kernel
theorem d_R_goPart_137 : decode b_R_goPart 137 = .ok (.iastore, 1) := by decide +kernel
theorem d_R_goPart_138 : decode b_R_goPart 138 = .ok (.iinc 9 1, 3) := by decide +kernel
theorem d_R_goPart_141 : decode b_R_goPart 141 = .ok (.goto (-53), 3) := by decide +kernel
theorem d_R_goPart_144 : decode b_R_goPart 144 = .ok (.return_, 1) := by decide +kernel
theorem d_R_assign_0 : decode b_R_assign 0 = .ok (.aload_n 0, 1) := by decide +kernel
theorem d_R_assign_1 : decode b_R_assign 1 = .ok (.iload_n 1, 1) := by decide +kernel
theorem d_R_assign_2 : decode b_R_assign 2 = .ok (.iconst 1, 1) := by decide +kernel
theorem d_R_assign_3 : decode b_R_assign 3 = .ok (.bipush 8, 2) := by decide +kernel
theorem d_R_assign_5 : decode b_R_assign 5 = .ok (.invokestatic 94, 3) := by decide +kernel
theorem d_R_assign_8 : decode b_R_assign 8 = .ok (.ifCond .eq 7, 3) := by decide +kernel
theorem d_R_assign_11 : decode b_R_assign 11 = .ok (.iconst 0, 1) := by decide +kernel
theorem d_R_assign_12 : decode b_R_assign 12 = .ok (.goto 4, 3) := by decide +kernel
theorem d_R_assign_15 : decode b_R_assign 15 = .ok (.iconst 1, 1) := by decide +kernel
theorem d_R_assign_16 : decode b_R_assign 16 = .ok (.putfield 87, 3) := by decide +kernel
theorem d_R_assign_19 : decode b_R_assign 19 = .ok (.aload_n 0, 1) := by decide +kernel
theorem d_R_assign_20 : decode b_R_assign 20 = .ok (.getfield 87, 3) := by decide +kernel
theorem d_R_assign_23 : decode b_R_assign 23 = .ok (.ifCond .le 5, 3) := by decide +kernel
theorem d_R_assign_26 : decode b_R_assign 26 = .ok (.iconst 0, 1) := by decide +kernel
theorem d_R_assign_27 : decode b_R_assign 27 = .ok (.ireturn, 1) := by decide +kernel
theorem d_R_assign_28 : decode b_R_assign 28 = .ok (.aload_n 0, 1) := by decide +kernel
theorem d_R_assign_29 : decode b_R_assign 29 = .ok (.iload_n 1, 1) := by decide +kernel
theorem d_R_assign_30 : decode b_R_assign 30 = .ok (.invokevirtual 170, 3) := by decide +kernel
theorem d_R_assign_33 : decode b_R_assign 33 = .ok (.aload_n 0, 1) := by decide +kernel
theorem d_R_assign_34 : decode b_R_assign 34 = .ok (.getfield 157, 3) := by decide +kernel
theorem d_R_assign_37 : decode b_R_assign 37 = .ok (.ireturn, 1) := by decide +kernel
theorem d_R_flow_0 : decode b_R_flow 0 = .ok (.aload_n 0, 1) := by decide +kernel
theorem d_R_flow_1 : decode b_R_flow 1 = .ok (.aload_n 0, 1) := by decide +kernel
theorem d_R_flow_2 : decode b_R_flow 2 = .ok (.iload_n 1, 1) := by decide +kernel
theorem d_R_flow_3 : decode b_R_flow 3 = .ok (.invokevirtual 113, 3) := by decide +kernel
theorem d_R_flow_6 : decode b_R_flow 6 = .ok (.ifCond .eq 16, 3) := by decide +kernel
theorem d_R_flow_9 : decode b_R_flow 9 = .ok (.iload_n 2, 1) := by decide +kernel
theorem d_R_flow_10 : decode b_R_flow 10 = .ok (.iconst 0, 1) := by decide +kernel
theorem d_R_flow_11 : decode b_R_flow 11 = .ok (.iconst 1, 1) := by decide +kernel
theorem d_R_flow_12 : decode b_R_flow 12 = .ok (.invokestatic 94, 3) := by decide +kernel
theorem d_R_flow_15 : decode b_R_flow 15 = .ok (.ifCond .eq 7, 3) := by decide +kernel
theorem d_R_flow_18 : decode b_R_flow 18 = .ok (.iconst 0, 1) := by decide +kernel
theorem d_R_flow_19 : decode b_R_flow 19 = .ok (.goto 4, 3) := by decide +kernel
theorem d_R_flow_22 : decode b_R_flow 22 = .ok (.iconst 1, 1) := by decide +kernel
theorem d_R_flow_23 : decode b_R_flow 23 = .ok (.putfield 87, 3) := by decide +kernel
theorem d_R_flow_26 : decode b_R_flow 26 = .ok (.aload_n 0, 1) := by decide +kernel
theorem d_R_flow_27 : decode b_R_flow 27 = .ok (.getfield 87, 3) := by decide +kernel
theorem d_R_flow_30 : decode b_R_flow 30 = .ok (.ifCond .le 7, 3) := by decide +kernel
theorem d_R_flow_33 : decode b_R_flow 33 = .ok (.iconst 0, 1) := by decide +kernel
theorem d_R_flow_34 : decode b_R_flow 34 = .ok (.goto 22, 3) := by decide +kernel
theorem d_R_flow_37 : decode b_R_flow 37 = .ok (.iload_n 2, 1) := by decide +kernel
theorem d_R_flow_38 : decode b_R_flow 38 = .ok (.ifCond .ne 12, 3) := by decide +kernel
theorem d_R_flow_41 : decode b_R_flow 41 = .ok (.aload_n 0, 1) := by decide +kernel
theorem d_R_flow_42 : decode b_R_flow 42 = .ok (.getfield 44, 3) := by decide +kernel
theorem d_R_flow_45 : decode b_R_flow 45 = .ok (.iload_n 1, 1) := by decide +kernel
theorem d_R_flow_46 : decode b_R_flow 46 = .ok (.laload, 1) := by decide +kernel
theorem d_R_flow_47 : decode b_R_flow 47 = .ok (.goto 8, 3) := by decide +kernel
theorem d_R_flow_50 : decode b_R_flow 50 = .ok (.aload_n 0, 1) := by decide +kernel
theorem d_R_flow_51 : decode b_R_flow 51 = .ok (.iload_n 1, 1) := by decide +kernel
theorem d_R_flow_52 : decode b_R_flow 52 = .ok (.invokevirtual 142, 3) := by decide +kernel
theorem d_R_flow_55 : decode b_R_flow 55 = .ok (.l2i, 1) := by decide +kernel
theorem d_R_flow_56 : decode b_R_flow 56 = .ok (.ireturn, 1) := by decide +kernel
theorem d_R_way_0 : decode b_R_way 0 = .ok (.aload_n 0, 1) := by decide +kernel
theorem d_R_way_1 : decode b_R_way 1 = .ok (.aload_n 0, 1) := by decide +kernel
theorem d_R_way_2 : decode b_R_way 2 = .ok (.iload_n 1, 1) := by decide +kernel
theorem d_R_way_3 : decode b_R_way 3 = .ok (.invokevirtual 108, 3) := by decide +kernel
theorem d_R_way_6 : decode b_R_way 6 = .ok (.ifCond .eq 19, 3) := by decide +kernel
theorem d_R_way_9 : decode b_R_way 9 = .ok (.aload_n 0, 1) := by decide +kernel
theorem d_R_way_10 : decode b_R_way 10 = .ok (.iload_n 2, 1) := by decide +kernel
theorem d_R_way_11 : decode b_R_way 11 = .ok (.invokevirtual 108, 3) := by decide +kernel
theorem d_R_way_14 : decode b_R_way 14 = .ok (.ifCond .eq 11, 3) := by decide +kernel
theorem d_R_way_17 : decode b_R_way 17 = .ok (.iload_n 3, 1) := by decide +kernel
theorem d_R_way_18 : decode b_R_way 18 = .ok (.ifCond .lt 7, 3) := by decide +kernel
theorem d_R_way_21 : decode b_R_way 21 = .ok (.iconst 0, 1) := by decide +kernel
theorem d_R_way_22 : decode b_R_way 22 = .ok (.goto 4, 3) := by decide +kernel
theorem d_R_way_25 : decode b_R_way 25 = .ok (.iconst 1, 1) := by decide +kernel
theorem d_R_way_26 : decode b_R_way 26 = .ok (.putfield 87, 3) := by decide +kernel
theorem d_R_way_29 : decode b_R_way 29 = .ok (.aload_n 0, 1) := by decide +kernel
theorem d_R_way_30 : decode b_R_way 30 = .ok (.getfield 87, 3) := by decide +kernel
theorem d_R_way_33 : decode b_R_way 33 = .ok (.ifCond .le 5, 3) := by decide +kernel
theorem d_R_way_36 : decode b_R_way 36 = .ok (.iconst 0, 1) := by decide +kernel
theorem d_R_way_37 : decode b_R_way 37 = .ok (.ireturn, 1) := by decide +kernel
theorem d_R_way_38 : decode b_R_way 38 = .ok (.aload_n 0, 1) := by decide +kernel
theorem d_R_way_39 : decode b_R_way 39 = .ok (.invokevirtual 160, 3) := by decide +kernel
theorem d_R_way_42 : decode b_R_way 42 = .ok (.aload_n 0, 1) := by decide +kernel
theorem d_R_way_43 : decode b_R_way 43 = .ok (.iload_n 1, 1) := by decide +kernel
theorem d_R_way_44 : decode b_R_way 44 = .ok (.iload_n 2, 1) := by decide +kernel
theorem d_R_way_45 : decode b_R_way 45 = .ok (.invokevirtual 167, 3) := by decide +kernel
theorem d_R_way_48 : decode b_R_way 48 = .ok (.ifCond .eq 20, 3) := by decide +kernel
theorem d_R_way_51 : decode b_R_way 51 = .ok (.iload_n 3, 1) := by decide +kernel
theorem d_R_way_52 : decode b_R_way 52 = .ok (.aload_n 0, 1) := by decide +kernel
theorem d_R_way_53 : decode b_R_way 53 = .ok (.getfield 151, 3) := by decide +kernel
theorem d_R_way_56 : decode b_R_way 56 = .ok (.if_icmp .ge 12, 3) := by decide +kernel
theorem d_R_way_59 : decode b_R_way 59 = .ok (.aload_n 0, 1) := by decide +kernel
theorem d_R_way_60 : decode b_R_way 60 = .ok (.getfield 84, 3) := by decide +kernel
theorem d_R_way_63 : decode b_R_way 63 = .ok (.iload_n 3, 1) := by decide +kernel
theorem d_R_way_64 : decode b_R_way 64 = .ok (.iaload, 1) := by decide +kernel
theorem d_R_way_65 : decode b_R_way 65 = .ok (.goto 4, 3) := by decide +kernel
theorem d_R_way_68 : decode b_R_way 68 = .ok (.iconst (-1), 1) := by decide +kernel
theorem d_R_way_69 : decode b_R_way 69 = .ok (.ireturn, 1) := by decide +kernel
theorem d_R_least_0 : decode b_R_least 0 = .ok (.aload_n 0, 1) := by decide +kernel
theorem d_R_least_1 : decode b_R_least 1 = .ok (.aload_n 0, 1) := by decide +kernel
theorem d_R_least_2 : decode b_R_least 2 = .ok (.iload_n 1, 1) := by decide +kernel
theorem d_R_least_3 : decode b_R_least 3 = .ok (.invokevirtual 108, 3) := by decide +kernel
theorem d_R_least_6 : decode b_R_least 6 = .ok (.ifCond .eq 15, 3) := by decide +kernel
theorem d_R_least_9 : decode b_R_least 9 = .ok (.aload_n 0, 1) := by decide +kernel
theorem d_R_least_10 : decode b_R_least 10 = .ok (.iload_n 2, 1) := by decide +kernel
theorem d_R_least_11 : decode b_R_least 11 = .ok (.invokevirtual 108, 3) := by decide +kernel
theorem d_R_least_14 : decode b_R_least 14 = .ok (.ifCond .eq 7, 3) := by decide +kernel
theorem d_R_least_17 : decode b_R_least 17 = .ok (.iconst 0, 1) := by decide +kernel
theorem d_R_least_18 : decode b_R_least 18 = .ok (.goto 4, 3) := by decide +kernel
theorem d_R_least_21 : decode b_R_least 21 = .ok (.iconst 1, 1) := by decide +kernel
theorem d_R_least_22 : decode b_R_least 22 = .ok (.putfield 87, 3) := by decide +kernel
theorem d_R_least_25 : decode b_R_least 25 = .ok (.aload_n 0, 1) := by decide +kernel
theorem d_R_least_26 : decode b_R_least 26 = .ok (.getfield 87, 3) := by decide +kernel
theorem d_R_least_29 : decode b_R_least 29 = .ok (.ifCond .le 5, 3) := by decide +kernel
theorem d_R_least_32 : decode b_R_least 32 = .ok (.iconst 0, 1) := by decide +kernel
theorem d_R_least_33 : decode b_R_least 33 = .ok (.ireturn, 1) := by decide +kernel
theorem d_R_least_34 : decode b_R_least 34 = .ok (.aload_n 0, 1) := by decide +kernel
theorem d_R_least_35 : decode b_R_least 35 = .ok (.invokevirtual 160, 3) := by decide +kernel
theorem d_R_least_38 : decode b_R_least 38 = .ok (.aload_n 0, 1) := by decide +kernel
theorem d_R_least_39 : decode b_R_least 39 = .ok (.iload_n 2, 1) := by decide +kernel
theorem d_R_least_40 : decode b_R_least 40 = .ok (.invokevirtual 147, 3) := by decide +kernel
theorem d_R_least_43 : decode b_R_least 43 = .ok (.aload_n 0, 1) := by decide +kernel
theorem d_R_least_44 : decode b_R_least 44 = .ok (.getfield 78, 3) := by decide +kernel
theorem d_R_least_47 : decode b_R_least 47 = .ok (.iload_n 1, 1) := by decide +kernel
theorem d_R_least_48 : decode b_R_least 48 = .ok (.laload, 1) := by decide +kernel
theorem d_R_least_49 : decode b_R_least 49 = .ok (.ldc2_w 145, 3) := by decide +kernel
theorem d_R_least_52 : decode b_R_least 52 = .ok (.lcmp, 1) := by decide +kernel
theorem d_R_least_53 : decode b_R_least 53 = .ok (.ifCond .ne 7, 3) := by decide +kernel
theorem d_R_least_56 : decode b_R_least 56 = .ok (.iconst (-1), 1) := by decide +kernel
theorem d_R_least_57 : decode b_R_least 57 = .ok (.goto 10, 3) := by decide +kernel
theorem d_R_least_60 : decode b_R_least 60 = .ok (.aload_n 0, 1) := by decide +kernel
theorem d_R_least_61 : decode b_R_least 61 = .ok (.getfield 78, 3) := by decide +kernel
theorem d_R_least_64 : decode b_R_least 64 = .ok (.iload_n 1, 1) := by decide +kernel
theorem d_R_least_65 : decode b_R_least 65 = .ok (.laload, 1) := by decide +kernel
theorem d_R_least_66 : decode b_R_least 66 = .ok (.l2i, 1) := by decide +kernel
theorem d_R_least_67 : decode b_R_least 67 = .ok (.ireturn, 1) := by decide +kernel
theorem d_R_link_0 : decode b_R_link 0 = .ok (.aload_n 0, 1) := by decide +kernel
theorem d_R_link_1 : decode b_R_link 1 = .ok (.aload_n 0, 1) := by decide +kernel
theorem d_R_link_2 : decode b_R_link 2 = .ok (.iload_n 1, 1) := by decide +kernel
theorem d_R_link_3 : decode b_R_link 3 = .ok (.invokevirtual 113, 3) := by decide +kernel
theorem d_R_link_6 : decode b_R_link 6 = .ok (.ifCond .eq 16, 3) := by decide +kernel
theorem d_R_link_9 : decode b_R_link 9 = .ok (.aload_n 0, 1) := by decide +kernel
theorem d_R_link_10 : decode b_R_link 10 = .ok (.iload_n 2, 1) := by decide +kernel
theorem d_R_link_11 : decode b_R_link 11 = .ok (.iload_n 3, 1) := by decide +kernel
theorem d_R_link_12 : decode b_R_link 12 = .ok (.invokevirtual 116, 3) := by decide +kernel
theorem d_R_link_15 : decode b_R_link 15 = .ok (.ifCond .eq 7, 3) := by decide +kernel
theorem d_R_link_18 : decode b_R_link 18 = .ok (.iconst 0, 1) := by decide +kernel
theorem d_R_link_19 : decode b_R_link 19 = .ok (.goto 4, 3) := by decide +kernel
theorem d_R_link_22 : decode b_R_link 22 = .ok (.iconst 1, 1) := by decide +kernel
theorem d_R_link_23 : decode b_R_link 23 = .ok (.putfield 87, 3) := by decide +kernel
theorem d_R_link_26 : decode b_R_link 26 = .ok (.aload_n 0, 1) := by decide +kernel
theorem d_R_link_27 : decode b_R_link 27 = .ok (.getfield 87, 3) := by decide +kernel
theorem d_R_link_30 : decode b_R_link 30 = .ok (.ifCond .le 7, 3) := by decide +kernel
theorem d_R_link_33 : decode b_R_link 33 = .ok (.iconst 0, 1) := by decide +kernel
theorem d_R_link_34 : decode b_R_link 34 = .ok (.goto 19, 3) := by decide +kernel
theorem d_R_link_37 : decode b_R_link 37 = .ok (.aload_n 0, 1) := by decide +kernel
theorem d_R_link_38 : decode b_R_link 38 = .ok (.getfield 60, 3) := by decide +kernel
theorem d_R_link_41 : decode b_R_link 41 = .ok (.bipush 36, 2) := by decide +kernel
theorem d_R_link_43 : decode b_R_link 43 = .ok (.iload_n 1, 1) := by decide +kernel
theorem d_R_link_44 : decode b_R_link 44 = .ok (.imul, 1) := by decide +kernel
theorem d_R_link_45 : decode b_R_link 45 = .ok (.bipush 6, 2) := by decide +kernel
theorem d_R_link_47 : decode b_R_link 47 = .ok (.iload_n 2, 1) := by decide +kernel
theorem d_R_link_48 : decode b_R_link 48 = .ok (.imul, 1) := by decide +kernel
theorem d_R_link_49 : decode b_R_link 49 = .ok (.iadd, 1) := by decide +kernel
theorem d_R_link_50 : decode b_R_link 50 = .ok (.iload_n 3, 1) := by decide +kernel
theorem d_R_link_51 : decode b_R_link 51 = .ok (.iadd, 1) := by decide +kernel
theorem d_R_link_52 : decode b_R_link 52 = .ok (.iaload, 1) := by decide +kernel
theorem d_R_link_53 : decode b_R_link 53 = .ok (.ireturn, 1) := by decide +kernel
theorem d_R_gap_0 : decode b_R_gap 0 = .ok (.aload_n 0, 1) := by decide +kernel
theorem d_R_gap_1 : decode b_R_gap 1 = .ok (.iconst 0, 1) := by decide +kernel
theorem d_R_gap_2 : decode b_R_gap 2 = .ok (.putfield 87, 3) := by decide +kernel
theorem d_R_gap_5 : decode b_R_gap 5 = .ok (.aload_n 0, 1) := by decide +kernel
theorem d_R_gap_6 : decode b_R_gap 6 = .ok (.invokevirtual 160, 3) := by decide +kernel
theorem d_R_gap_9 : decode b_R_gap 9 = .ok (.lconst 0, 1) := by decide +kernel
theorem d_R_gap_10 : decode b_R_gap 10 = .ok (.lstore_n 1, 1) := by decide +kernel
theorem d_R_gap_11 : decode b_R_gap 11 = .ok (.iconst 0, 1) := by decide +kernel
theorem d_R_gap_12 : decode b_R_gap 12 = .ok (.istore_n 3, 1) := by decide +kernel
theorem d_R_gap_13 : decode b_R_gap 13 = .ok (.iload_n 3, 1) := by decide +kernel
theorem d_R_gap_14 : decode b_R_gap 14 = .ok (.aload_n 0, 1) := by decide +kernel
theorem d_R_gap_15 : decode b_R_gap 15 = .ok (.getfield 105, 3) := by decide +kernel
theorem d_R_gap_18 : decode b_R_gap 18 = .ok (.if_icmp .ge 25, 3) := by decide +kernel
theorem d_R_gap_21 : decode b_R_gap 21 = .ok (.lload_n 1, 1) := by decide +kernel
theorem d_R_gap_22 : decode b_R_gap 22 = .ok (.aload_n 0, 1) := by decide +kernel
theorem d_R_gap_23 : decode b_R_gap 23 = .ok (.getfield 44, 3) := by decide +kernel
theorem d_R_gap_26 : decode b_R_gap 26 = .ok (.iload_n 3, 1) := by decide +kernel
theorem d_R_gap_27 : decode b_R_gap 27 = .ok (.laload, 1) := by decide +kernel
theorem d_R_gap_28 : decode b_R_gap 28 = .ok (.aload_n 0, 1) := by decide +kernel
theorem d_R_gap_29 : decode b_R_gap 29 = .ok (.getfield 75, 3) := by decide +kernel
theorem d_R_gap_32 : decode b_R_gap 32 = .ok (.iload_n 3, 1) := by decide +kernel
theorem d_R_gap_33 : decode b_R_gap 33 = .ok (.laload, 1) := by decide +kernel
theorem d_R_gap_34 : decode b_R_gap 34 = .ok (.lmul, 1) := by decide +kernel
theorem d_R_gap_35 : decode b_R_gap 35 = .ok (.ladd, 1) := by decide +kernel
theorem d_R_gap_36 : decode b_R_gap 36 = .ok (.lstore_n 1, 1) := by decide +kernel
theorem d_R_gap_37 : decode b_R_gap 37 = .ok (.iinc 3 1, 3) := by decide +kernel
theorem d_R_gap_40 : decode b_R_gap 40 = .ok (.goto (-27), 3) := by decide +kernel
theorem d_R_gap_43 : decode b_R_gap 43 = .ok (.iconst 0, 1) := by decide +kernel
theorem d_R_gap_44 : decode b_R_gap 44 = .ok (.istore_n 3, 1) := by decide +kernel
theorem d_R_gap_45 : decode b_R_gap 45 = .ok (.iload_n 3, 1) := by decide +kernel
theorem d_R_gap_46 : decode b_R_gap 46 = .ok (.aload_n 0, 1) := by decide +kernel
theorem d_R_gap_47 : decode b_R_gap 47 = .ok (.getfield 98, 3) := by decide +kernel
theorem d_R_gap_50 : decode b_R_gap 50 = .ok (.if_icmp .ge 83, 3) := by decide +kernel
theorem d_R_gap_53 : decode b_R_gap 53 = .ok (.iconst 0, 1) := by decide +kernel
theorem d_R_gap_54 : decode b_R_gap 54 = .ok (.istore 4, 2) := by decide +kernel
theorem d_R_gap_56 : decode b_R_gap 56 = .ok (.iload 4, 2) := by decide +kernel
theorem d_R_gap_58 : decode b_R_gap 58 = .ok (.aload_n 0, 1) := by decide +kernel
theorem d_R_gap_59 : decode b_R_gap 59 = .ok (.getfield 98, 3) := by decide +kernel
theorem d_R_gap_62 : decode b_R_gap 62 = .ok (.if_icmp .ge 65, 3) := by decide +kernel
theorem d_R_gap_65 : decode b_R_gap 65 = .ok (.aload_n 0, 1) := by decide +kernel
theorem d_R_gap_66 : decode b_R_gap 66 = .ok (.aload_n 0, 1) := by decide +kernel
theorem d_R_gap_67 : decode b_R_gap 67 = .ok (.getfield 7, 3) := by decide +kernel
theorem d_R_gap_70 : decode b_R_gap 70 = .ok (.iload 4, 2) := by decide +kernel
theorem d_R_gap_72 : decode b_R_gap 72 = .ok (.iaload, 1) := by decide +kernel
theorem d_R_gap_73 : decode b_R_gap 73 = .ok (.invokevirtual 147, 3) := by decide +kernel
theorem d_R_gap_76 : decode b_R_gap 76 = .ok (.aload_n 0, 1) := by decide +kernel
theorem d_R_gap_77 : decode b_R_gap 77 = .ok (.getfield 78, 3) := by decide +kernel
theorem d_R_gap_80 : decode b_R_gap 80 = .ok (.aload_n 0, 1) := by decide +kernel
theorem d_R_gap_81 : decode b_R_gap 81 = .ok (.getfield 7, 3) := by decide +kernel
theorem d_R_gap_84 : decode b_R_gap 84 = .ok (.iload_n 3, 1) := by decide +kernel
theorem d_R_gap_85 : decode b_R_gap 85 = .ok (.iaload, 1) := by decide +kernel
theorem d_R_gap_86 : decode b_R_gap 86 = .ok (.laload, 1) := by decide +kernel
theorem d_R_gap_87 : decode b_R_gap 87 = .ok (.lstore 5, 2) := by decide +kernel
theorem d_R_gap_89 : decode b_R_gap 89 = .ok (.lload_n 1, 1) := by decide +kernel
theorem d_R_gap_90 : decode b_R_gap 90 = .ok (.lload 5, 2) := by decide +kernel
theorem d_R_gap_92 : decode b_R_gap 92 = .ok (.ldc2_w 145, 3) := by decide +kernel
theorem d_R_gap_95 : decode b_R_gap 95 = .ok (.lcmp, 1) := by decide +kernel
theorem d_R_gap_96 : decode b_R_gap 96 = .ok (.ifCond .ne 7, 3) := by decide +kernel
theorem d_R_gap_99 : decode b_R_gap 99 = .ok (.lconst 0, 1) := by decide +kernel
theorem d_R_gap_100 : decode b_R_gap 100 = .ok (.goto 19, 3) := by decide +kernel
theorem d_R_gap_103 : decode b_R_gap 103 = .ok (.aload_n 0, 1) := by decide +kernel
theorem d_R_gap_104 : decode b_R_gap 104 = .ok (.getfield 57, 3) := by decide +kernel
theorem d_R_gap_107 : decode b_R_gap 107 = .ok (.bipush 6, 2) := by decide +kernel
theorem d_R_gap_109 : decode b_R_gap 109 = .ok (.iload_n 3, 1) := by decide +kernel
theorem d_R_gap_110 : decode b_R_gap 110 = .ok (.imul, 1) := by decide +kernel
theorem d_R_gap_111 : decode b_R_gap 111 = .ok (.iload 4, 2) := by decide +kernel
theorem d_R_gap_113 : decode b_R_gap 113 = .ok (.iadd, 1) := by decide +kernel
theorem d_R_gap_114 : decode b_R_gap 114 = .ok (.iaload, 1) := by decide +kernel
theorem d_R_gap_115 : decode b_R_gap 115 = .ok (.i2l, 1) := by decide +kernel
theorem d_R_gap_116 : decode b_R_gap 116 = .ok (.lload 5, 2) := by decide +kernel
theorem d_R_gap_118 : decode b_R_gap 118 = .ok (.lmul, 1) := by decide +kernel
theorem d_R_gap_119 : decode b_R_gap 119 = .ok (.lsub, 1) := by decide +kernel
theorem d_R_gap_120 : decode b_R_gap 120 = .ok (.lstore_n 1, 1) := by decide +kernel
theorem d_R_gap_121 : decode b_R_gap 121 = .ok (.iinc 4 1, 3) := by decide +kernel
theorem d_R_gap_124 : decode b_R_gap 124 = .ok (.goto (-68), 3) := by decide +kernel
theorem d_R_gap_127 : decode b_R_gap 127 = .ok (.iinc 3 1, 3) := by decide +kernel
theorem d_R_gap_130 : decode b_R_gap 130 = .ok (.goto (-85), 3) := by decide +kernel
theorem d_R_gap_133 : decode b_R_gap 133 = .ok (.lload_n 1, 1) := by decide +kernel
theorem d_R_gap_134 : decode b_R_gap 134 = .ok (.lreturn, 1) := by decide +kernel
theorem d_R_count_0 : decode b_R_count 0 = .ok (.aload_n 0, 1) := by decide +kernel
theorem d_R_count_1 : decode b_R_count 1 = .ok (.aload_n 0, 1) := by decide +kernel
theorem d_R_count_2 : decode b_R_count 2 = .ok (.iload_n 1, 1) := by decide +kernel
theorem d_R_count_3 : decode b_R_count 3 = .ok (.invokevirtual 113, 3) := by decide +kernel
theorem d_R_count_6 : decode b_R_count 6 = .ok (.ifCond .eq 17, 3) := by decide +kernel
theorem d_R_count_9 : decode b_R_count 9 = .ok (.iload_n 2, 1) := by decide +kernel
theorem d_R_count_10 : decode b_R_count 10 = .ok (.iconst (-1), 1) := by decide +kernel
theorem d_R_count_11 : decode b_R_count 11 = .ok (.ldc 112, 2) := by decide +kernel
theorem d_R_count_13 : decode b_R_count 13 = .ok (.invokestatic 94, 3) := by decide +kernel
theorem d_R_count_16 : decode b_R_count 16 = .ok (.ifCond .eq 7, 3) := by decide +kernel
theorem d_R_count_19 : decode b_R_count 19 = .ok (.iconst 0, 1) := by decide +kernel
theorem d_R_count_20 : decode b_R_count 20 = .ok (.goto 4, 3) := by decide +kernel
theorem d_R_count_23 : decode b_R_count 23 = .ok (.iconst 1, 1) := by decide +kernel
theorem d_R_count_24 : decode b_R_count 24 = .ok (.putfield 87, 3) := by decide +kernel
theorem d_R_count_27 : decode b_R_count 27 = .ok (.aload_n 0, 1) := by decide +kernel
theorem d_R_count_28 : decode b_R_count 28 = .ok (.getfield 87, 3) := by decide +kernel
theorem d_R_count_31 : decode b_R_count 31 = .ok (.ifCond .le 5, 3) := by decide +kernel
theorem d_R_count_34 : decode b_R_count 34 = .ok (.iconst 0, 1) := by decide +kernel
theorem d_R_count_35 : decode b_R_count 35 = .ok (.ireturn, 1) := by decide +kernel
theorem d_R_count_36 : decode b_R_count 36 = .ok (.aload_n 0, 1) := by decide +kernel
theorem d_R_count_37 : decode b_R_count 37 = .ok (.getfield 41, 3) := by decide +kernel
theorem d_R_count_40 : decode b_R_count 40 = .ok (.iload_n 1, 1) := by decide +kernel
theorem d_R_count_41 : decode b_R_count 41 = .ok (.iaload, 1) := by decide +kernel
theorem d_R_count_42 : decode b_R_count 42 = .ok (.istore_n 3, 1) := by decide +kernel
theorem d_R_count_43 : decode b_R_count 43 = .ok (.aload_n 0, 1) := by decide +kernel
theorem d_R_count_44 : decode b_R_count 44 = .ok (.getfield 41, 3) := by decide +kernel
theorem d_R_count_47 : decode b_R_count 47 = .ok (.iload_n 1, 1) := by decide +kernel
theorem d_R_count_48 : decode b_R_count 48 = .ok (.iload_n 2, 1) := by decide +kernel
theorem d_R_count_49 : decode b_R_count 49 = .ok (.iastore, 1) := by decide +kernel
theorem d_R_count_50 : decode b_R_count 50 = .ok (.iload_n 3, 1) := by decide +kernel
theorem d_R_count_51 : decode b_R_count 51 = .ok (.ireturn, 1) := by decide +kernel
theorem d_R_offOf_0 : decode b_R_offOf 0 = .ok (.aload_n 0, 1) := by decide +kernel
theorem d_R_offOf_1 : decode b_R_offOf 1 = .ok (.getfield 44, 3) := by decide +kernel
theorem d_R_offOf_4 : decode b_R_offOf 4 = .ok (.iload_n 1, 1) := by decide +kernel
theorem d_R_offOf_5 : decode b_R_offOf 5 = .ok (.laload, 1) := by decide +kernel
theorem d_R_offOf_6 : decode b_R_offOf 6 = .ok (.aload_n 0, 1) := by decide +kernel
theorem d_R_offOf_7 : decode b_R_offOf 7 = .ok (.getfield 41, 3) := by decide +kernel
theorem d_R_offOf_10 : decode b_R_offOf 10 = .ok (.iload_n 1, 1) := by decide +kernel
theorem d_R_offOf_11 : decode b_R_offOf 11 = .ok (.iaload, 1) := by decide +kernel
theorem d_R_offOf_12 : decode b_R_offOf 12 = .ok (.i2l, 1) := by decide +kernel
theorem d_R_offOf_13 : decode b_R_offOf 13 = .ok (.lsub, 1) := by decide +kernel
theorem d_R_offOf_14 : decode b_R_offOf 14 = .ok (.lstore_n 2, 1) := by decide +kernel
theorem d_R_offOf_15 : decode b_R_offOf 15 = .ok (.lload_n 2, 1) := by decide +kernel
theorem d_R_offOf_16 : decode b_R_offOf 16 = .ok (.lconst 0, 1) := by decide +kernel
theorem d_R_offOf_17 : decode b_R_offOf 17 = .ok (.lcmp, 1) := by decide +kernel
theorem d_R_offOf_18 : decode b_R_offOf 18 = .ok (.ifCond .ge 8, 3) := by decide +kernel
theorem d_R_offOf_21 : decode b_R_offOf 21 = .ok (.lload_n 2, 1) := by decide +kernel
theorem d_R_offOf_22 : decode b_R_offOf 22 = .ok (.lneg, 1) := by decide +kernel
theorem d_R_offOf_23 : decode b_R_offOf 23 = .ok (.goto 4, 3) := by decide +kernel
theorem d_R_offOf_26 : decode b_R_offOf 26 = .ok (.lload_n 2, 1) := by decide +kernel
theorem d_R_offOf_27 : decode b_R_offOf 27 = .ok (.lreturn, 1) := by decide +kernel
theorem d_R_worst_0 : decode b_R_worst 0 = .ok (.iconst (-1), 1) := by decide +kernel
theorem d_R_worst_1 : decode b_R_worst 1 = .ok (.istore_n 1, 1) := by decide +kernel
theorem d_R_worst_2 : decode b_R_worst 2 = .ok (.iconst 0, 1) := by decide +kernel
theorem d_R_worst_3 : decode b_R_worst 3 = .ok (.istore_n 2, 1) := by decide +kernel
theorem d_R_worst_4 : decode b_R_worst 4 = .ok (.iload_n 2, 1) := by decide +kernel
theorem d_R_worst_5 : decode b_R_worst 5 = .ok (.aload_n 0, 1) := by decide +kernel
theorem d_R_worst_6 : decode b_R_worst 6 = .ok (.getfield 105, 3) := by decide +kernel
theorem d_R_worst_9 : decode b_R_worst 9 = .ok (.if_icmp .ge 50, 3) := by decide +kernel
theorem d_R_worst_12 : decode b_R_worst 12 = .ok (.aload_n 0, 1) := by decide +kernel
theorem d_R_worst_13 : decode b_R_worst 13 = .ok (.getfield 41, 3) := by decide +kernel
theorem d_R_worst_16 : decode b_R_worst 16 = .ok (.iload_n 2, 1) := by decide +kernel
theorem d_R_worst_17 : decode b_R_worst 17 = .ok (.iaload, 1) := by decide +kernel
theorem d_R_worst_18 : decode b_R_worst 18 = .ok (.iconst (-1), 1) := by decide +kernel
theorem d_R_worst_19 : decode b_R_worst 19 = .ok (.if_icmp .eq 34, 3) := by decide +kernel
theorem d_R_worst_22 : decode b_R_worst 22 = .ok (.aload_n 0, 1) := by decide +kernel
theorem d_R_worst_23 : decode b_R_worst 23 = .ok (.iload_n 2, 1) := by decide +kernel
theorem d_R_worst_24 : decode b_R_worst 24 = .ok (.invokevirtual 173, 3) := by decide +kernel
theorem d_R_worst_27 : decode b_R_worst 27 = .ok (.lconst 0, 1) := by decide +kernel
theorem d_R_worst_28 : decode b_R_worst 28 = .ok (.lcmp, 1) := by decide +kernel
theorem d_R_worst_29 : decode b_R_worst 29 = .ok (.ifCond .le 24, 3) := by decide +kernel
theorem d_R_worst_32 : decode b_R_worst 32 = .ok (.iload_n 1, 1) := by decide +kernel
theorem d_R_worst_33 : decode b_R_worst 33 = .ok (.iconst (-1), 1) := by decide +kernel
theorem d_R_worst_34 : decode b_R_worst 34 = .ok (.if_icmp .eq 17, 3) := by decide +kernel
theorem d_R_worst_37 : decode b_R_worst 37 = .ok (.aload_n 0, 1) := by decide +kernel
theorem d_R_worst_38 : decode b_R_worst 38 = .ok (.iload_n 2, 1) := by decide +kernel
theorem d_R_worst_39 : decode b_R_worst 39 = .ok (.invokevirtual 173, 3) := by decide +kernel
theorem d_R_worst_42 : decode b_R_worst 42 = .ok (.aload_n 0, 1) := by decide +kernel
theorem d_R_worst_43 : decode b_R_worst 43 = .ok (.iload_n 1, 1) := by decide +kernel
theorem d_R_worst_44 : decode b_R_worst 44 = .ok (.invokevirtual 173, 3) := by decide +kernel
theorem d_R_worst_47 : decode b_R_worst 47 = .ok (.lcmp, 1) := by decide +kernel
theorem d_R_worst_48 : decode b_R_worst 48 = .ok (.ifCond .le 5, 3) := by decide +kernel
theorem d_R_worst_51 : decode b_R_worst 51 = .ok (.iload_n 2, 1) := by decide +kernel
theorem d_R_worst_52 : decode b_R_worst 52 = .ok (.istore_n 1, 1) := by decide +kernel
theorem d_R_worst_53 : decode b_R_worst 53 = .ok (.iinc 2 1, 3) := by decide +kernel
theorem d_R_worst_56 : decode b_R_worst 56 = .ok (.goto (-52), 3) := by decide +kernel
theorem d_R_worst_59 : decode b_R_worst 59 = .ok (.iload_n 1, 1) := by decide +kernel
theorem d_R_worst_60 : decode b_R_worst 60 = .ok (.ireturn, 1) := by decide +kernel
theorem d_R_fit_0 : decode b_R_fit 0 = .ok (.aload_n 0, 1) := by decide +kernel
theorem d_R_fit_1 : decode b_R_fit 1 = .ok (.iload_n 1, 1) := by decide +kernel
theorem d_R_fit_2 : decode b_R_fit 2 = .ok (.iconst 1, 1) := by decide +kernel
theorem d_R_fit_3 : decode b_R_fit 3 = .ok (.bipush 20, 2) := by decide +kernel
theorem d_R_fit_5 : decode b_R_fit 5 = .ok (.invokestatic 94, 3) := by decide +kernel
theorem d_R_fit_8 : decode b_R_fit 8 = .ok (.ifCond .ne 7, 3) := by decide +kernel
theorem d_R_fit_11 : decode b_R_fit 11 = .ok (.iconst 1, 1) := by decide +kernel
theorem d_R_fit_12 : decode b_R_fit 12 = .ok (.goto 15, 3) := by decide +kernel
theorem d_R_fit_15 : decode b_R_fit 15 = .ok (.aload_n 0, 1) := by decide +kernel
theorem d_R_fit_16 : decode b_R_fit 16 = .ok (.getfield 154, 3) := by decide +kernel
theorem d_R_fit_19 : decode b_R_fit 19 = .ok (.ifCond .ne 7, 3) := by decide +kernel
theorem d_R_fit_22 : decode b_R_fit 22 = .ok (.iconst 2, 1) := by decide +kernel
theorem d_R_fit_23 : decode b_R_fit 23 = .ok (.goto 4, 3) := by decide +kernel
theorem d_R_fit_26 : decode b_R_fit 26 = .ok (.iconst 0, 1) := by decide +kernel
theorem d_R_fit_27 : decode b_R_fit 27 = .ok (.putfield 87, 3) := by decide +kernel
theorem d_R_fit_30 : decode b_R_fit 30 = .ok (.aload_n 0, 1) := by decide +kernel
theorem d_R_fit_31 : decode b_R_fit 31 = .ok (.getfield 87, 3) := by decide +kernel
theorem d_R_fit_34 : decode b_R_fit 34 = .ok (.ifCond .le 5, 3) := by decide +kernel
theorem d_R_fit_37 : decode b_R_fit 37 = .ok (.iconst 0, 1) := by decide +kernel
theorem d_R_fit_38 : decode b_R_fit 38 = .ok (.ireturn, 1) := by decide +kernel
theorem d_R_fit_39 : decode b_R_fit 39 = .ok (.iconst 0, 1) := by decide +kernel
theorem d_R_fit_40 : decode b_R_fit 40 = .ok (.istore_n 2, 1) := by decide +kernel
theorem d_R_fit_41 : decode b_R_fit 41 = .ok (.aload_n 0, 1) := by decide +kernel
theorem d_R_fit_42 : decode b_R_fit 42 = .ok (.invokevirtual 176, 3) := by decide +kernel
theorem d_R_fit_45 : decode b_R_fit 45 = .ok (.istore_n 3, 1) := by decide +kernel
theorem d_R_fit_46 : decode b_R_fit 46 = .ok (.iload_n 2, 1) := by decide +kernel
theorem d_R_fit_47 : decode b_R_fit 47 = .ok (.iload_n 1, 1) := by decide +kernel
theorem d_R_fit_48 : decode b_R_fit 48 = .ok (.if_icmp .ge 118, 3) := by decide +kernel
theorem d_R_fit_51 : decode b_R_fit 51 = .ok (.iload_n 3, 1) := by decide +kernel
theorem d_R_fit_52 : decode b_R_fit 52 = .ok (.iconst (-1), 1) := by decide +kernel
theorem d_R_fit_53 : decode b_R_fit 53 = .ok (.if_icmp .eq 113, 3) := by decide +kernel
theorem d_R_fit_56 : decode b_R_fit 56 = .ok (.aload_n 0, 1) := by decide +kernel
theorem d_R_fit_57 : decode b_R_fit 57 = .ok (.getfield 44, 3) := by decide +kernel
theorem d_R_fit_60 : decode b_R_fit 60 = .ok (.iload_n 3, 1) := by decide +kernel
theorem d_R_fit_61 : decode b_R_fit 61 = .ok (.laload, 1) := by decide +kernel
theorem d_R_fit_62 : decode b_R_fit 62 = .ok (.lconst 0, 1) := by decide +kernel
theorem d_R_fit_63 : decode b_R_fit 63 = .ok (.lcmp, 1) := by decide +kernel
theorem d_R_fit_64 : decode b_R_fit 64 = .ok (.ifCond .le 102, 3) := by decide +kernel
theorem d_R_fit_67 : decode b_R_fit 67 = .ok (.iconst 0, 1) := by decide +kernel
theorem d_R_fit_68 : decode b_R_fit 68 = .ok (.istore 4, 2) := by decide +kernel
theorem d_R_fit_70 : decode b_R_fit 70 = .ok (.iload 4, 2) := by decide +kernel
theorem d_R_fit_72 : decode b_R_fit 72 = .ok (.bipush 36, 2) := by decide +kernel
theorem d_R_fit_74 : decode b_R_fit 74 = .ok (.if_icmp .ge 73, 3) := by decide +kernel
theorem d_R_fit_77 : decode b_R_fit 77 = .ok (.aload_n 0, 1) := by decide +kernel
theorem d_R_fit_78 : decode b_R_fit 78 = .ok (.getfield 60, 3) := by decide +kernel
theorem d_R_fit_81 : decode b_R_fit 81 = .ok (.bipush 36, 2) := by decide +kernel
theorem d_R_fit_83 : decode b_R_fit 83 = .ok (.iload_n 3, 1) := by decide +kernel
theorem d_R_fit_84 : decode b_R_fit 84 = .ok (.imul, 1) := by decide +kernel
theorem d_R_fit_85 : decode b_R_fit 85 = .ok (.iload 4, 2) := by decide +kernel
theorem d_R_fit_87 : decode b_R_fit 87 = .ok (.iadd, 1) := by decide +kernel
theorem d_R_fit_88 : decode b_R_fit 88 = .ok (.iaload, 1) := by decide +kernel
theorem d_R_fit_89 : decode b_R_fit 89 = .ok (.ifCond .le 52, 3) := by decide +kernel
theorem d_R_fit_92 : decode b_R_fit 92 = .ok (.aload_n 0, 1) := by decide +kernel
theorem d_R_fit_93 : decode b_R_fit 93 = .ok (.getfield 51, 3) := by decide +kernel
theorem d_R_fit_96 : decode b_R_fit 96 = .ok (.iload 4, 2) := by decide +kernel
theorem d_R_fit_98 : decode b_R_fit 98 = .ok (.iaload, 1) := by decide +kernel
theorem d_R_fit_99 : decode b_R_fit 99 = .ok (.i2l, 1) := by decide +kernel
theorem d_R_fit_100 : decode b_R_fit 100 = .ok (.aload_n 0, 1) := by decide +kernel
theorem d_R_fit_101 : decode b_R_fit 101 = .ok (.getfield 41, 3) := by decide +kernel
theorem d_R_fit_104 : decode b_R_fit 104 = .ok (.iload_n 3, 1) := by decide +kernel
theorem d_R_fit_105 : decode b_R_fit 105 = .ok (.iaload, 1) := by decide +kernel
theorem d_R_fit_106 : decode b_R_fit 106 = .ok (.i2l, 1) := by decide +kernel
theorem d_R_fit_107 : decode b_R_fit 107 = .ok (.lmul, 1) := by decide +kernel
theorem d_R_fit_108 : decode b_R_fit 108 = .ok (.aload_n 0, 1) := by decide +kernel
theorem d_R_fit_109 : decode b_R_fit 109 = .ok (.getfield 44, 3) := by decide +kernel
theorem d_R_fit_112 : decode b_R_fit 112 = .ok (.iload_n 3, 1) := by decide +kernel
theorem d_R_fit_113 : decode b_R_fit 113 = .ok (.laload, 1) := by decide +kernel
theorem d_R_fit_114 : decode b_R_fit 114 = .ok (.ldiv, 1) := by decide +kernel
theorem d_R_fit_115 : decode b_R_fit 115 = .ok (.lstore 5, 2) := by decide +kernel
theorem d_R_fit_117 : decode b_R_fit 117 = .ok (.aload_n 0, 1) := by decide +kernel
theorem d_R_fit_118 : decode b_R_fit 118 = .ok (.getfield 51, 3) := by decide +kernel
theorem d_R_fit_121 : decode b_R_fit 121 = .ok (.iload 4, 2) := by decide +kernel
theorem d_R_fit_123 : decode b_R_fit 123 = .ok (.lload 5, 2) := by decide +kernel
theorem d_R_fit_125 : decode b_R_fit 125 = .ok (.ldc2_w 136, 3) := by decide +kernel
theorem d_R_fit_128 : decode b_R_fit 128 = .ok (.lcmp, 1) := by decide +kernel
theorem d_R_fit_129 : decode b_R_fit 129 = .ok (.ifCond .le 8, 3) := by decide +kernel
theorem d_R_fit_132 : decode b_R_fit 132 = .ok (.ldc 112, 2) := by decide +kernel
theorem d_R_fit_134 : decode b_R_fit 134 = .ok (.goto 6, 3) := by decide +kernel
theorem d_R_fit_137 : decode b_R_fit 137 = .ok (.lload 5, 2) := by decide +kernel
theorem d_R_fit_139 : decode b_R_fit 139 = .ok (.l2i, 1) := by decide +kernel
theorem d_R_fit_140 : decode b_R_fit 140 = .ok (.iastore, 1) := by decide +kernel
theorem d_R_fit_141 : decode b_R_fit 141 = .ok (.iinc 4 1, 3) := by decide +kernel
theorem d_R_fit_144 : decode b_R_fit 144 = .ok (.goto (-74), 3) := by decide +kernel
theorem d_R_fit_147 : decode b_R_fit 147 = .ok (.aload_n 0, 1) := by decide +kernel
theorem d_R_fit_148 : decode b_R_fit 148 = .ok (.aload_n 0, 1) := by decide +kernel
theorem d_R_fit_149 : decode b_R_fit 149 = .ok (.getfield 154, 3) := by decide +kernel
theorem d_R_fit_152 : decode b_R_fit 152 = .ok (.invokevirtual 170, 3) := by decide +kernel
theorem d_R_fit_155 : decode b_R_fit 155 = .ok (.iinc 2 1, 3) := by decide +kernel
theorem d_R_fit_158 : decode b_R_fit 158 = .ok (.aload_n 0, 1) := by decide +kernel
theorem d_R_fit_159 : decode b_R_fit 159 = .ok (.invokevirtual 176, 3) := by decide +kernel
theorem d_R_fit_162 : decode b_R_fit 162 = .ok (.istore_n 3, 1) := by decide +kernel
theorem d_R_fit_163 : decode b_R_fit 163 = .ok (.goto (-117), 3) := by decide +kernel
theorem d_R_fit_166 : decode b_R_fit 166 = .ok (.iload_n 2, 1) := by decide +kernel
theorem d_R_fit_167 : decode b_R_fit 167 = .ok (.ireturn, 1) := by decide +kernel
