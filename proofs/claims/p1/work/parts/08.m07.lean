/-! Methods: handlers, facts, contracts. -/
theorem dX12_linkClasses_0 : decode cX12_linkClasses 0 = .ok (.iconst 0, 1) := by decide +kernel
theorem dX12_linkClasses_1 : decode cX12_linkClasses 1 = .ok (.istore_n 1, 1) := by decide +kernel
theorem dX12_linkClasses_2 : decode cX12_linkClasses 2 = .ok (.iload_n 1, 1) := by decide +kernel
theorem dX12_linkClasses_3 : decode cX12_linkClasses 3 = .ok (.aload_n 0, 1) := by decide +kernel
theorem dX12_linkClasses_4 : decode cX12_linkClasses 4 = .ok (.getfield 684, 3) := by decide +kernel
theorem dX12_linkClasses_7 : decode cX12_linkClasses 7 = .ok (.if_icmp .ge 235, 3) := by decide +kernel
theorem dX12_linkClasses_10 : decode cX12_linkClasses 10 = .ok (.aload_n 0, 1) := by decide +kernel
theorem dX12_linkClasses_11 : decode cX12_linkClasses 11 = .ok (.getfield 20, 3) := by decide +kernel
theorem dX12_linkClasses_14 : decode cX12_linkClasses 14 = .ok (.iload_n 1, 1) := by decide +kernel
theorem dX12_linkClasses_15 : decode cX12_linkClasses 15 = .ok (.iaload, 1) := by decide +kernel
theorem dX12_linkClasses_16 : decode cX12_linkClasses 16 = .ok (.istore_n 2, 1) := by decide +kernel
theorem dX12_linkClasses_17 : decode cX12_linkClasses 17 = .ok (.aload_n 0, 1) := by decide +kernel
theorem dX12_linkClasses_18 : decode cX12_linkClasses 18 = .ok (.iload_n 2, 1) := by decide +kernel
theorem dX12_linkClasses_19 : decode cX12_linkClasses 19 = .ok (.aload_n 0, 1) := by decide +kernel
theorem dX12_linkClasses_20 : decode cX12_linkClasses 20 = .ok (.getfield 23, 3) := by decide +kernel
theorem dX12_linkClasses_23 : decode cX12_linkClasses 23 = .ok (.iload_n 1, 1) := by decide +kernel
theorem dX12_linkClasses_24 : decode cX12_linkClasses 24 = .ok (.iaload, 1) := by decide +kernel
theorem dX12_linkClasses_25 : decode cX12_linkClasses 25 = .ok (.invokevirtual 761, 3) := by decide +kernel
theorem dX12_linkClasses_28 : decode cX12_linkClasses 28 = .ok (.iload_n 1, 1) := by decide +kernel
theorem dX12_linkClasses_29 : decode cX12_linkClasses 29 = .ok (.if_icmp .ne 21, 3) := by decide +kernel
theorem dX12_linkClasses_32 : decode cX12_linkClasses 32 = .ok (.aload_n 0, 1) := by decide +kernel
theorem dX12_linkClasses_33 : decode cX12_linkClasses 33 = .ok (.getfield 26, 3) := by decide +kernel
theorem dX12_linkClasses_36 : decode cX12_linkClasses 36 = .ok (.iload_n 1, 1) := by decide +kernel
theorem dX12_linkClasses_37 : decode cX12_linkClasses 37 = .ok (.baload, 1) := by decide +kernel
theorem dX12_linkClasses_38 : decode cX12_linkClasses 38 = .ok (.ifCond .eq 17, 3) := by decide +kernel
theorem dX12_linkClasses_41 : decode cX12_linkClasses 41 = .ok (.aload_n 0, 1) := by decide +kernel
theorem dX12_linkClasses_42 : decode cX12_linkClasses 42 = .ok (.getfield 30, 3) := by decide +kernel
theorem dX12_linkClasses_45 : decode cX12_linkClasses 45 = .ok (.iload_n 1, 1) := by decide +kernel
theorem dX12_linkClasses_46 : decode cX12_linkClasses 46 = .ok (.baload, 1) := by decide +kernel
theorem dX12_linkClasses_47 : decode cX12_linkClasses 47 = .ok (.ifCond .eq 8, 3) := by decide +kernel
theorem dX12_linkClasses_55 : decode cX12_linkClasses 55 = .ok (.aload_n 0, 1) := by decide +kernel
theorem dX12_linkClasses_56 : decode cX12_linkClasses 56 = .ok (.getfield 165, 3) := by decide +kernel
theorem dX12_linkClasses_59 : decode cX12_linkClasses 59 = .ok (.iload_n 1, 1) := by decide +kernel
theorem dX12_linkClasses_60 : decode cX12_linkClasses 60 = .ok (.iload_n 1, 1) := by decide +kernel
theorem dX12_linkClasses_61 : decode cX12_linkClasses 61 = .ok (.ifCond .ne 7, 3) := by decide +kernel
theorem dX12_linkClasses_64 : decode cX12_linkClasses 64 = .ok (.iconst (-1), 1) := by decide +kernel
theorem dX12_linkClasses_65 : decode cX12_linkClasses 65 = .ok (.goto 4, 3) := by decide +kernel
theorem dX12_linkClasses_68 : decode cX12_linkClasses 68 = .ok (.iconst 0, 1) := by decide +kernel
theorem dX12_linkClasses_69 : decode cX12_linkClasses 69 = .ok (.iastore, 1) := by decide +kernel
theorem dX12_linkClasses_70 : decode cX12_linkClasses 70 = .ok (.aload_n 0, 1) := by decide +kernel
theorem dX12_linkClasses_71 : decode cX12_linkClasses 71 = .ok (.getfield 36, 3) := by decide +kernel
theorem dX12_linkClasses_74 : decode cX12_linkClasses 74 = .ok (.iload_n 1, 1) := by decide +kernel
theorem dX12_linkClasses_75 : decode cX12_linkClasses 75 = .ok (.iaload, 1) := by decide +kernel
theorem dX12_linkClasses_76 : decode cX12_linkClasses 76 = .ok (.iconst (-1), 1) := by decide +kernel
theorem dX12_linkClasses_77 : decode cX12_linkClasses 77 = .ok (.if_icmp .eq 69, 3) := by decide +kernel
theorem dX12_linkClasses_80 : decode cX12_linkClasses 80 = .ok (.aload_n 0, 1) := by decide +kernel
theorem dX12_linkClasses_81 : decode cX12_linkClasses 81 = .ok (.aload_n 0, 1) := by decide +kernel
theorem dX12_linkClasses_82 : decode cX12_linkClasses 82 = .ok (.getfield 36, 3) := by decide +kernel
theorem dX12_linkClasses_85 : decode cX12_linkClasses 85 = .ok (.iload_n 1, 1) := by decide +kernel
theorem dX12_linkClasses_86 : decode cX12_linkClasses 86 = .ok (.iaload, 1) := by decide +kernel
theorem dX12_linkClasses_87 : decode cX12_linkClasses 87 = .ok (.aload_n 0, 1) := by decide +kernel
theorem dX12_linkClasses_88 : decode cX12_linkClasses 88 = .ok (.getfield 39, 3) := by decide +kernel
theorem dX12_linkClasses_91 : decode cX12_linkClasses 91 = .ok (.iload_n 1, 1) := by decide +kernel
theorem dX12_linkClasses_92 : decode cX12_linkClasses 92 = .ok (.iaload, 1) := by decide +kernel
theorem dX12_linkClasses_93 : decode cX12_linkClasses 93 = .ok (.invokevirtual 761, 3) := by decide +kernel
theorem dX12_linkClasses_96 : decode cX12_linkClasses 96 = .ok (.istore_n 3, 1) := by decide +kernel
theorem dX12_linkClasses_97 : decode cX12_linkClasses 97 = .ok (.iload_n 3, 1) := by decide +kernel
theorem dX12_linkClasses_98 : decode cX12_linkClasses 98 = .ok (.iconst (-1), 1) := by decide +kernel
theorem dX12_linkClasses_99 : decode cX12_linkClasses 99 = .ok (.if_icmp .eq 21, 3) := by decide +kernel
theorem dX12_linkClasses_102 : decode cX12_linkClasses 102 = .ok (.aload_n 0, 1) := by decide +kernel
theorem dX12_linkClasses_103 : decode cX12_linkClasses 103 = .ok (.getfield 26, 3) := by decide +kernel
theorem dX12_linkClasses_106 : decode cX12_linkClasses 106 = .ok (.iload_n 3, 1) := by decide +kernel
theorem dX12_linkClasses_107 : decode cX12_linkClasses 107 = .ok (.baload, 1) := by decide +kernel
theorem dX12_linkClasses_108 : decode cX12_linkClasses 108 = .ok (.ifCond .ne 12, 3) := by decide +kernel
theorem dX12_linkClasses_111 : decode cX12_linkClasses 111 = .ok (.aload_n 0, 1) := by decide +kernel
theorem dX12_linkClasses_112 : decode cX12_linkClasses 112 = .ok (.getfield 26, 3) := by decide +kernel
theorem dX12_linkClasses_115 : decode cX12_linkClasses 115 = .ok (.iload_n 1, 1) := by decide +kernel
theorem dX12_linkClasses_116 : decode cX12_linkClasses 116 = .ok (.baload, 1) := by decide +kernel
theorem dX12_linkClasses_117 : decode cX12_linkClasses 117 = .ok (.ifCond .eq 13, 3) := by decide +kernel
theorem dX12_linkClasses_130 : decode cX12_linkClasses 130 = .ok (.aload_n 0, 1) := by decide +kernel
theorem dX12_linkClasses_131 : decode cX12_linkClasses 131 = .ok (.getfield 165, 3) := by decide +kernel
theorem dX12_linkClasses_134 : decode cX12_linkClasses 134 = .ok (.iload_n 1, 1) := by decide +kernel
theorem dX12_linkClasses_135 : decode cX12_linkClasses 135 = .ok (.iload_n 3, 1) := by decide +kernel
theorem dX12_linkClasses_136 : decode cX12_linkClasses 136 = .ok (.iconst (-1), 1) := by decide +kernel
theorem dX12_linkClasses_137 : decode cX12_linkClasses 137 = .ok (.if_icmp .ne 7, 3) := by decide +kernel
theorem dX12_linkClasses_144 : decode cX12_linkClasses 144 = .ok (.iload_n 3, 1) := by decide +kernel
theorem dX12_linkClasses_145 : decode cX12_linkClasses 145 = .ok (.iastore, 1) := by decide +kernel
theorem dX12_linkClasses_146 : decode cX12_linkClasses 146 = .ok (.iconst 0, 1) := by decide +kernel
theorem dX12_linkClasses_147 : decode cX12_linkClasses 147 = .ok (.istore_n 3, 1) := by decide +kernel
theorem dX12_linkClasses_148 : decode cX12_linkClasses 148 = .ok (.iload_n 3, 1) := by decide +kernel
theorem dX12_linkClasses_149 : decode cX12_linkClasses 149 = .ok (.aload_n 0, 1) := by decide +kernel
theorem dX12_linkClasses_150 : decode cX12_linkClasses 150 = .ok (.getfield 42, 3) := by decide +kernel
theorem dX12_linkClasses_153 : decode cX12_linkClasses 153 = .ok (.iload_n 1, 1) := by decide +kernel
theorem dX12_linkClasses_154 : decode cX12_linkClasses 154 = .ok (.iaload, 1) := by decide +kernel
theorem dX12_linkClasses_155 : decode cX12_linkClasses 155 = .ok (.if_icmp .ge 81, 3) := by decide +kernel
theorem dX12_linkClasses_158 : decode cX12_linkClasses 158 = .ok (.aload_n 0, 1) := by decide +kernel
theorem dX12_linkClasses_159 : decode cX12_linkClasses 159 = .ok (.aload_n 0, 1) := by decide +kernel
theorem dX12_linkClasses_160 : decode cX12_linkClasses 160 = .ok (.getfield 45, 3) := by decide +kernel
theorem dX12_linkClasses_163 : decode cX12_linkClasses 163 = .ok (.bipush 6, 2) := by decide +kernel
theorem dX12_linkClasses_165 : decode cX12_linkClasses 165 = .ok (.iload_n 1, 1) := by decide +kernel
theorem dX12_linkClasses_166 : decode cX12_linkClasses 166 = .ok (.imul, 1) := by decide +kernel
theorem dX12_linkClasses_167 : decode cX12_linkClasses 167 = .ok (.iload_n 3, 1) := by decide +kernel
theorem dX12_linkClasses_168 : decode cX12_linkClasses 168 = .ok (.iadd, 1) := by decide +kernel
theorem dX12_linkClasses_169 : decode cX12_linkClasses 169 = .ok (.iaload, 1) := by decide +kernel
theorem dX12_linkClasses_170 : decode cX12_linkClasses 170 = .ok (.aload_n 0, 1) := by decide +kernel
theorem dX12_linkClasses_171 : decode cX12_linkClasses 171 = .ok (.getfield 48, 3) := by decide +kernel
theorem dX12_linkClasses_174 : decode cX12_linkClasses 174 = .ok (.bipush 6, 2) := by decide +kernel
theorem dX12_linkClasses_176 : decode cX12_linkClasses 176 = .ok (.iload_n 1, 1) := by decide +kernel
theorem dX12_linkClasses_177 : decode cX12_linkClasses 177 = .ok (.imul, 1) := by decide +kernel
theorem dX12_linkClasses_178 : decode cX12_linkClasses 178 = .ok (.iload_n 3, 1) := by decide +kernel
theorem dX12_linkClasses_179 : decode cX12_linkClasses 179 = .ok (.iadd, 1) := by decide +kernel
theorem dX12_linkClasses_180 : decode cX12_linkClasses 180 = .ok (.iaload, 1) := by decide +kernel
theorem dX12_linkClasses_181 : decode cX12_linkClasses 181 = .ok (.invokevirtual 761, 3) := by decide +kernel
theorem dX12_linkClasses_184 : decode cX12_linkClasses 184 = .ok (.istore 4, 2) := by decide +kernel
theorem dX12_linkClasses_186 : decode cX12_linkClasses 186 = .ok (.iload 4, 2) := by decide +kernel
theorem dX12_linkClasses_188 : decode cX12_linkClasses 188 = .ok (.iconst (-1), 1) := by decide +kernel
theorem dX12_linkClasses_189 : decode cX12_linkClasses 189 = .ok (.if_icmp .eq 13, 3) := by decide +kernel
theorem dX12_linkClasses_192 : decode cX12_linkClasses 192 = .ok (.aload_n 0, 1) := by decide +kernel
theorem dX12_linkClasses_193 : decode cX12_linkClasses 193 = .ok (.getfield 26, 3) := by decide +kernel
theorem dX12_linkClasses_196 : decode cX12_linkClasses 196 = .ok (.iload 4, 2) := by decide +kernel
theorem dX12_linkClasses_198 : decode cX12_linkClasses 198 = .ok (.baload, 1) := by decide +kernel
theorem dX12_linkClasses_199 : decode cX12_linkClasses 199 = .ok (.ifCond .ne 18, 3) := by decide +kernel
theorem dX12_linkClasses_217 : decode cX12_linkClasses 217 = .ok (.aload_n 0, 1) := by decide +kernel
theorem dX12_linkClasses_218 : decode cX12_linkClasses 218 = .ok (.getfield 168, 3) := by decide +kernel
theorem dX12_linkClasses_221 : decode cX12_linkClasses 221 = .ok (.bipush 6, 2) := by decide +kernel
theorem dX12_linkClasses_223 : decode cX12_linkClasses 223 = .ok (.iload_n 1, 1) := by decide +kernel
theorem dX12_linkClasses_224 : decode cX12_linkClasses 224 = .ok (.imul, 1) := by decide +kernel
theorem dX12_linkClasses_225 : decode cX12_linkClasses 225 = .ok (.iload_n 3, 1) := by decide +kernel
theorem dX12_linkClasses_226 : decode cX12_linkClasses 226 = .ok (.iadd, 1) := by decide +kernel
theorem dX12_linkClasses_227 : decode cX12_linkClasses 227 = .ok (.iload 4, 2) := by decide +kernel
theorem dX12_linkClasses_229 : decode cX12_linkClasses 229 = .ok (.iastore, 1) := by decide +kernel
theorem dX12_linkClasses_230 : decode cX12_linkClasses 230 = .ok (.iinc 3 1, 3) := by decide +kernel
theorem dX12_linkClasses_233 : decode cX12_linkClasses 233 = .ok (.goto (-85), 3) := by decide +kernel
theorem dX12_linkClasses_236 : decode cX12_linkClasses 236 = .ok (.iinc 1 1, 3) := by decide +kernel
theorem dX12_linkClasses_239 : decode cX12_linkClasses 239 = .ok (.goto (-237), 3) := by decide +kernel
theorem dX12_linkClasses_242 : decode cX12_linkClasses 242 = .ok (.aload_n 0, 1) := by decide +kernel
theorem dX12_linkClasses_243 : decode cX12_linkClasses 243 = .ok (.invokevirtual 768, 3) := by decide +kernel
theorem dX12_linkClasses_246 : decode cX12_linkClasses 246 = .ok (.iconst 0, 1) := by decide +kernel
theorem dX12_linkClasses_247 : decode cX12_linkClasses 247 = .ok (.istore_n 1, 1) := by decide +kernel
theorem dX12_linkClasses_248 : decode cX12_linkClasses 248 = .ok (.iload_n 1, 1) := by decide +kernel
theorem dX12_linkClasses_249 : decode cX12_linkClasses 249 = .ok (.aload_n 0, 1) := by decide +kernel
theorem dX12_linkClasses_250 : decode cX12_linkClasses 250 = .ok (.getfield 684, 3) := by decide +kernel
theorem dX12_linkClasses_253 : decode cX12_linkClasses 253 = .ok (.if_icmp .ge 27, 3) := by decide +kernel
theorem dX12_linkClasses_256 : decode cX12_linkClasses 256 = .ok (.aload_n 0, 1) := by decide +kernel
theorem dX12_linkClasses_257 : decode cX12_linkClasses 257 = .ok (.iload_n 1, 1) := by decide +kernel
theorem dX12_linkClasses_258 : decode cX12_linkClasses 258 = .ok (.invokevirtual 771, 3) := by decide +kernel
theorem dX12_linkClasses_261 : decode cX12_linkClasses 261 = .ok (.ifCond .eq 13, 3) := by decide +kernel
theorem dX12_linkClasses_274 : decode cX12_linkClasses 274 = .ok (.iinc 1 1, 3) := by decide +kernel
theorem dX12_linkClasses_277 : decode cX12_linkClasses 277 = .ok (.goto (-29), 3) := by decide +kernel
theorem dX12_linkClasses_280 : decode cX12_linkClasses 280 = .ok (.return_, 1) := by decide +kernel
def rpX12_linkClasses : List Nat := [0, 1, 2, 3, 4, 7, 10, 11, 14, 15, 16, 17, 18, 19, 20, 23, 24, 25, 28, 29, 32, 33, 36, 37, 38, 41, 42, 45, 46, 47, 50, 55, 56, 59, 60, 61, 64, 65, 68, 69, 70, 71, 74, 75, 76, 77, 80, 81, 82, 85, 86, 87, 88, 91, 92, 93, 96, 97, 98, 99, 102, 103, 106, 107, 108, 111, 112, 115, 116, 117, 120, 130, 131, 134, 135, 136, 137, 140, 144, 145, 146, 147, 148, 149, 150, 153, 154, 155, 158, 159, 160, 163, 165, 166, 167, 168, 169, 170, 171, 174, 176, 177, 178, 179, 180, 181, 184, 186, 188, 189, 192, 193, 196, 198, 199, 202, 217, 218, 221, 223, 224, 225, 226, 227, 229, 230, 233, 236, 239, 242, 243, 246, 247, 248, 249, 250, 253, 256, 257, 258, 261, 264, 274, 277, 280]
noncomputable def rcX12_linkClasses : List rz_B := [rz_cst 0, rz_istore 1, rz_iload 1, rz_aload 0, rz_getf (Nat.add (Nat.mul 256 14) 1) 13 rz_i, rz_icmpge 129, rz_aload 0, rz_getf (Nat.add (Nat.mul 256 14) 1) 14 rz_r, rz_iload 1, rz_iald, rz_istore 2, rz_aload 0, rz_iload 2, rz_aload 0, rz_getf (Nat.add (Nat.mul 256 14) 1) 15 rz_r, rz_iload 1, rz_iald, rz_callV 2 (Nat.add (Nat.mul 256 14) 1) rgX12_classNamed, rz_iload 1, rz_icmpne 30, rz_aload 0, rz_getf (Nat.add (Nat.mul 256 14) 1) 16 rz_r, rz_iload 1, rz_zald, rz_ifeq 31, rz_aload 0, rz_getf (Nat.add (Nat.mul 256 14) 1) 17 rz_r, rz_iload 1, rz_zald, rz_ifeq 31, rz_no, rz_aload 0, rz_getf (Nat.add (Nat.mul 256 14) 1) 71 rz_r, rz_iload 1, rz_iload 1, rz_ifne 38, rz_cst 4294967295, rz_goto 39, rz_cst 0, rz_iast, rz_aload 0, rz_getf (Nat.add (Nat.mul 256 14) 1) 19 rz_r, rz_iload 1, rz_iald, rz_cst 4294967295, rz_icmpeq 80, rz_aload 0, rz_aload 0, rz_getf (Nat.add (Nat.mul 256 14) 1) 19 rz_r, rz_iload 1, rz_iald, rz_aload 0, rz_getf (Nat.add (Nat.mul 256 14) 1) 20 rz_r, rz_iload 1, rz_iald, rz_callV 2 (Nat.add (Nat.mul 256 14) 1) rgX12_classNamed, rz_istore 3, rz_iload 3, rz_cst 4294967295, rz_icmpeq 70, rz_aload 0, rz_getf (Nat.add (Nat.mul 256 14) 1) 16 rz_r, rz_iload 3, rz_zald, rz_ifne 70, rz_aload 0, rz_getf (Nat.add (Nat.mul 256 14) 1) 16 rz_r, rz_iload 1, rz_zald, rz_ifeq 71, rz_no, rz_aload 0, rz_getf (Nat.add (Nat.mul 256 14) 1) 71 rz_r, rz_iload 1, rz_iload 3, rz_cst 4294967295, rz_icmpne 78, rz_no, rz_iload 3, rz_iast, rz_cst 0, rz_istore 3, rz_iload 3, rz_aload 0, rz_getf (Nat.add (Nat.mul 256 14) 1) 21 rz_r, rz_iload 1, rz_iald, rz_icmpge 127, rz_aload 0, rz_aload 0, rz_getf (Nat.add (Nat.mul 256 14) 1) 22 rz_r, rz_cst 6, rz_iload 1, rz_imul, rz_iload 3, rz_iadd, rz_iald, rz_aload 0, rz_getf (Nat.add (Nat.mul 256 14) 1) 23 rz_r, rz_cst 6, rz_iload 1, rz_imul, rz_iload 3, rz_iadd, rz_iald, rz_callV 2 (Nat.add (Nat.mul 256 14) 1) rgX12_classNamed, rz_istore 4, rz_iload 4, rz_cst 4294967295, rz_icmpeq 115, rz_aload 0, rz_getf (Nat.add (Nat.mul 256 14) 1) 16 rz_r, rz_iload 4, rz_zald, rz_ifne 116, rz_no, rz_aload 0, rz_getf (Nat.add (Nat.mul 256 14) 1) 72 rz_r, rz_cst 6, rz_iload 1, rz_imul, rz_iload 3, rz_iadd, rz_iload 4, rz_iast, rz_iinc 3 1, rz_goto 82, rz_iinc 1 1, rz_goto 2, rz_aload 0, rz_callVv 0 (Nat.add (Nat.mul 256 14) 1) rgX12_closeBelow, rz_cst 0, rz_istore 1, rz_iload 1, rz_aload 0, rz_getf (Nat.add (Nat.mul 256 14) 1) 13 rz_i, rz_icmpge 144, rz_aload 0, rz_iload 1, rz_callV 1 (Nat.add (Nat.mul 256 14) 1) rgX12_isRound, rz_ifeq 142, rz_no, rz_iinc 1 1, rz_goto 133, rz_vret]
noncomputable def rgX12_linkClasses : rz_L → rz_M → rz_Z → Bool := rz_go rcX12_linkClasses 5 1000000
def rrX12_linkClasses : Room := { frames := 2, cells := 0, slots := 0, locals := 49 }
theorem rmX12_linkClasses (l : Launch) {G : rz_G} (hG : rz_Gd G) (vs : rz_L) (M : rz_M) (Z : rz_Z) (hn : vs.length = 1) (h : rgX12_linkClasses vs M Z = true) : Met l yX12_linkClasses (Cond.code yX12_linkClasses cX12_linkClasses 5 none :: rz_TB) rrX12_linkClasses (rz_Pre G vs M) (rz_Qv G M.2 Z) 0 0 (fun q => rz_b G ≤ q) := by
  obtain ⟨D, tc, ad, b, xs, rfl⟩ := id hG
  refine rz_body (pcs := rpX12_linkClasses) (by decide) rfl (by rw [hn]; decide) h ?_
  intro p e R s m args below meth c hC
  obtain ⟨hx, hb, hml, hr, hlk, ho, hts, hKn, hRm⟩ := id hC
  obtain ⟨hK, hA, hSt⟩ := id hKn
  have hw : ∀ {i j : Nat} {ws : List Cond} {w : Cond}, rz_WW[i]? = some ws → ws[j]? = some w → w.before args s = true := fun h1 h2 => hts _ (List.mem_cons_of_mem _ (rz_mem h1 h2))
  refine rz_All_c (i := 0) (fun k J hk hJ => rz_iconst_ok (pc := 0) hx hb dX12_linkClasses_0 rfl hk) ?_
  refine rz_All_c (i := 1) (fun k J hk hJ => rz_istore_n_ok (pc := 1) hx hb dX12_linkClasses_1 rfl hk) ?_
  refine rz_All_c (i := 2) (fun k J hk hJ => rz_iload_n_ok (pc := 2) hx hb dX12_linkClasses_2 rfl hk) ?_
  refine rz_All_c (i := 3) (fun k J hk hJ => rz_aload_n_ok (pc := 3) hx hb dX12_linkClasses_3 rfl hk) ?_
  refine rz_All_c (i := 4) (fun k J hk hJ => rz_getf_ok (pc := 4) (own := RX12) (ref := "ThreadJudgeModel") (C := RX12) (T := TX12) (N := 257) (ci := 14) (index := 684) (f := 13) (t := 0) (Ts := Cond.code yX12_linkClasses cX12_linkClasses 5 none :: rz_TB) hx hb hts rz_in14 ho hK rfl (by decide) rfl (fun _ => rfl) (hw (i := 32) (j := 17) rfl rfl) (fun _ z => z) dX12_linkClasses_4 hk) ?_
  refine rz_All_c (i := 5) (fun k J hk hJ => rz_icmpge_ok (pc := 7) hx hb dX12_linkClasses_7 rfl hk (hJ 129)) ?_
  refine rz_All_c (i := 6) (fun k J hk hJ => rz_aload_n_ok (pc := 10) hx hb dX12_linkClasses_10 rfl hk) ?_
  refine rz_All_c (i := 7) (fun k J hk hJ => rz_getf_ok (pc := 11) (own := RX12) (ref := "ThreadJudgeModel") (C := RX12) (T := TX12) (N := 257) (ci := 14) (index := 20) (f := 14) (t := 2) (Ts := Cond.code yX12_linkClasses cX12_linkClasses 5 none :: rz_TB) hx hb hts rz_in14 ho hK rfl (by decide) rfl (fun _ => rfl) (hw (i := 36) (j := 10) rfl rfl) (fun _ z => z) dX12_linkClasses_11 hk) ?_
  refine rz_All_c (i := 8) (fun k J hk hJ => rz_iload_n_ok (pc := 14) hx hb dX12_linkClasses_14 rfl hk) ?_
  refine rz_All_c (i := 9) (fun k J hk hJ => rz_iald_ok (pc := 15) hx hb hK dX12_linkClasses_15 hk) ?_
  refine rz_All_c (i := 10) (fun k J hk hJ => rz_istore_n_ok (pc := 16) hx hb dX12_linkClasses_16 rfl hk) ?_
  refine rz_All_c (i := 11) (fun k J hk hJ => rz_aload_n_ok (pc := 17) hx hb dX12_linkClasses_17 rfl hk) ?_
  refine rz_All_c (i := 12) (fun k J hk hJ => rz_iload_n_ok (pc := 18) hx hb dX12_linkClasses_18 rfl hk) ?_
  refine rz_All_c (i := 13) (fun k J hk hJ => rz_aload_n_ok (pc := 19) hx hb dX12_linkClasses_19 rfl hk) ?_
  refine rz_All_c (i := 14) (fun k J hk hJ => rz_getf_ok (pc := 20) (own := RX12) (ref := "ThreadJudgeModel") (C := RX12) (T := TX12) (N := 257) (ci := 14) (index := 23) (f := 15) (t := 2) (Ts := Cond.code yX12_linkClasses cX12_linkClasses 5 none :: rz_TB) hx hb hts rz_in14 ho hK rfl (by decide) rfl (fun _ => rfl) (hw (i := 36) (j := 12) rfl rfl) (fun _ z => z) dX12_linkClasses_20 hk) ?_
  refine rz_All_c (i := 15) (fun k J hk hJ => rz_iload_n_ok (pc := 23) hx hb dX12_linkClasses_23 rfl hk) ?_
  refine rz_All_c (i := 16) (fun k J hk hJ => rz_iald_ok (pc := 24) hx hb hK dX12_linkClasses_24 hk) ?_
  refine rz_All_c (i := 17) (fun k J hk hJ => rz_callV_ok (pc := 25) (own := RX12) (C := RX12) (T0 := TX12) (N0 := 257) hC rfl (rmX12_classNamed l hG) (rz_cwV 2 hC rz_good (rz_mem (i := 42) (j := 22) rfl rfl) (rz_mem (i := 42) (j := 23) rfl rfl) (rz_mem (i := 43) (j := 0) rfl rfl) (rz_mem (i := 32) (j := 8) rfl rfl) (rz_mem (i := 43) (j := 1) rfl rfl) ⟨rfl, by decide, by decide, by decide +kernel⟩ rfl rfl ⟨by decide, by decide⟩) rfl dX12_linkClasses_25 hk) ?_
  refine rz_All_c (i := 18) (fun k J hk hJ => rz_iload_n_ok (pc := 28) hx hb dX12_linkClasses_28 rfl hk) ?_
  refine rz_All_c (i := 19) (fun k J hk hJ => rz_icmpne_ok (pc := 29) hx hb dX12_linkClasses_29 rfl hk (hJ 30)) ?_
  refine rz_All_c (i := 20) (fun k J hk hJ => rz_aload_n_ok (pc := 32) hx hb dX12_linkClasses_32 rfl hk) ?_
  refine rz_All_c (i := 21) (fun k J hk hJ => rz_getf_ok (pc := 33) (own := RX12) (ref := "ThreadJudgeModel") (C := RX12) (T := TX12) (N := 257) (ci := 14) (index := 26) (f := 16) (t := 2) (Ts := Cond.code yX12_linkClasses cX12_linkClasses 5 none :: rz_TB) hx hb hts rz_in14 ho hK rfl (by decide) rfl (fun _ => rfl) (hw (i := 36) (j := 14) rfl rfl) (fun _ z => z) dX12_linkClasses_33 hk) ?_
  refine rz_All_c (i := 22) (fun k J hk hJ => rz_iload_n_ok (pc := 36) hx hb dX12_linkClasses_36 rfl hk) ?_
  refine rz_All_c (i := 23) (fun k J hk hJ => rz_zald_ok (pc := 37) hx hb hK dX12_linkClasses_37 hk) ?_
  refine rz_All_c (i := 24) (fun k J hk hJ => rz_ifeq_ok (pc := 38) hx hb dX12_linkClasses_38 rfl hk (hJ 31)) ?_
  refine rz_All_c (i := 25) (fun k J hk hJ => rz_aload_n_ok (pc := 41) hx hb dX12_linkClasses_41 rfl hk) ?_
  refine rz_All_c (i := 26) (fun k J hk hJ => rz_getf_ok (pc := 42) (own := RX12) (ref := "ThreadJudgeModel") (C := RX12) (T := TX12) (N := 257) (ci := 14) (index := 30) (f := 17) (t := 2) (Ts := Cond.code yX12_linkClasses cX12_linkClasses 5 none :: rz_TB) hx hb hts rz_in14 ho hK rfl (by decide) rfl (fun _ => rfl) (hw (i := 36) (j := 15) rfl rfl) (fun _ z => z) dX12_linkClasses_42 hk) ?_
  refine rz_All_c (i := 27) (fun k J hk hJ => rz_iload_n_ok (pc := 45) hx hb dX12_linkClasses_45 rfl hk) ?_
  refine rz_All_c (i := 28) (fun k J hk hJ => rz_zald_ok (pc := 46) hx hb hK dX12_linkClasses_46 hk) ?_
  refine rz_All_c (i := 29) (fun k J hk hJ => rz_ifeq_ok (pc := 47) hx hb dX12_linkClasses_47 rfl hk (hJ 31)) ?_
  refine rz_All_c (i := 30) (fun k J hk hJ => rz_no_ok) ?_
  refine rz_All_c (i := 31) (fun k J hk hJ => rz_aload_n_ok (pc := 55) hx hb dX12_linkClasses_55 rfl hk) ?_
  refine rz_All_c (i := 32) (fun k J hk hJ => rz_getf_ok (pc := 56) (own := RX12) (ref := "ThreadJudgeModel") (C := RX12) (T := TX12) (N := 257) (ci := 14) (index := 165) (f := 71) (t := 2) (Ts := Cond.code yX12_linkClasses cX12_linkClasses 5 none :: rz_TB) hx hb hts rz_in14 ho hK rfl (by decide) rfl (fun _ => rfl) (hw (i := 42) (j := 16) rfl rfl) (fun _ z => z) dX12_linkClasses_56 hk) ?_
  refine rz_All_c (i := 33) (fun k J hk hJ => rz_iload_n_ok (pc := 59) hx hb dX12_linkClasses_59 rfl hk) ?_
  refine rz_All_c (i := 34) (fun k J hk hJ => rz_iload_n_ok (pc := 60) hx hb dX12_linkClasses_60 rfl hk) ?_
  refine rz_All_c (i := 35) (fun k J hk hJ => rz_ifne_ok (pc := 61) hx hb dX12_linkClasses_61 rfl hk (hJ 38)) ?_
  refine rz_All_c (i := 36) (fun k J hk hJ => rz_iconst_ok (pc := 64) hx hb dX12_linkClasses_64 rfl hk) ?_
  refine rz_All_c (i := 37) (fun k J hk hJ => rz_goto_ok (pc := 65) hx hb dX12_linkClasses_65 rfl (hJ 39)) ?_
  refine rz_All_c (i := 38) (fun k J hk hJ => rz_iconst_ok (pc := 68) hx hb dX12_linkClasses_68 rfl hk) ?_
  refine rz_All_c (i := 39) (fun k J hk hJ => rz_iast_ok (pc := 69) hx hb hK hA dX12_linkClasses_69 hk) ?_
  refine rz_All_c (i := 40) (fun k J hk hJ => rz_aload_n_ok (pc := 70) hx hb dX12_linkClasses_70 rfl hk) ?_
  refine rz_All_c (i := 41) (fun k J hk hJ => rz_getf_ok (pc := 71) (own := RX12) (ref := "ThreadJudgeModel") (C := RX12) (T := TX12) (N := 257) (ci := 14) (index := 36) (f := 19) (t := 2) (Ts := Cond.code yX12_linkClasses cX12_linkClasses 5 none :: rz_TB) hx hb hts rz_in14 ho hK rfl (by decide) rfl (fun _ => rfl) (hw (i := 36) (j := 17) rfl rfl) (fun _ z => z) dX12_linkClasses_71 hk) ?_
  refine rz_All_c (i := 42) (fun k J hk hJ => rz_iload_n_ok (pc := 74) hx hb dX12_linkClasses_74 rfl hk) ?_
  refine rz_All_c (i := 43) (fun k J hk hJ => rz_iald_ok (pc := 75) hx hb hK dX12_linkClasses_75 hk) ?_
  refine rz_All_c (i := 44) (fun k J hk hJ => rz_iconst_ok (pc := 76) hx hb dX12_linkClasses_76 rfl hk) ?_
  refine rz_All_c (i := 45) (fun k J hk hJ => rz_icmpeq_ok (pc := 77) hx hb dX12_linkClasses_77 rfl hk (hJ 80)) ?_
  refine rz_All_c (i := 46) (fun k J hk hJ => rz_aload_n_ok (pc := 80) hx hb dX12_linkClasses_80 rfl hk) ?_
  refine rz_All_c (i := 47) (fun k J hk hJ => rz_aload_n_ok (pc := 81) hx hb dX12_linkClasses_81 rfl hk) ?_
  refine rz_All_c (i := 48) (fun k J hk hJ => rz_getf_ok (pc := 82) (own := RX12) (ref := "ThreadJudgeModel") (C := RX12) (T := TX12) (N := 257) (ci := 14) (index := 36) (f := 19) (t := 2) (Ts := Cond.code yX12_linkClasses cX12_linkClasses 5 none :: rz_TB) hx hb hts rz_in14 ho hK rfl (by decide) rfl (fun _ => rfl) (hw (i := 36) (j := 17) rfl rfl) (fun _ z => z) dX12_linkClasses_82 hk) ?_
  refine rz_All_c (i := 49) (fun k J hk hJ => rz_iload_n_ok (pc := 85) hx hb dX12_linkClasses_85 rfl hk) ?_
  refine rz_All_c (i := 50) (fun k J hk hJ => rz_iald_ok (pc := 86) hx hb hK dX12_linkClasses_86 hk) ?_
  refine rz_All_c (i := 51) (fun k J hk hJ => rz_aload_n_ok (pc := 87) hx hb dX12_linkClasses_87 rfl hk) ?_
  refine rz_All_c (i := 52) (fun k J hk hJ => rz_getf_ok (pc := 88) (own := RX12) (ref := "ThreadJudgeModel") (C := RX12) (T := TX12) (N := 257) (ci := 14) (index := 39) (f := 20) (t := 2) (Ts := Cond.code yX12_linkClasses cX12_linkClasses 5 none :: rz_TB) hx hb hts rz_in14 ho hK rfl (by decide) rfl (fun _ => rfl) (hw (i := 36) (j := 21) rfl rfl) (fun _ z => z) dX12_linkClasses_88 hk) ?_
  refine rz_All_c (i := 53) (fun k J hk hJ => rz_iload_n_ok (pc := 91) hx hb dX12_linkClasses_91 rfl hk) ?_
  refine rz_All_c (i := 54) (fun k J hk hJ => rz_iald_ok (pc := 92) hx hb hK dX12_linkClasses_92 hk) ?_
  refine rz_All_c (i := 55) (fun k J hk hJ => rz_callV_ok (pc := 93) (own := RX12) (C := RX12) (T0 := TX12) (N0 := 257) hC rfl (rmX12_classNamed l hG) (rz_cwV 2 hC rz_good (rz_mem (i := 42) (j := 22) rfl rfl) (rz_mem (i := 42) (j := 23) rfl rfl) (rz_mem (i := 43) (j := 0) rfl rfl) (rz_mem (i := 32) (j := 8) rfl rfl) (rz_mem (i := 43) (j := 1) rfl rfl) ⟨rfl, by decide, by decide, by decide +kernel⟩ rfl rfl ⟨by decide, by decide⟩) rfl dX12_linkClasses_93 hk) ?_
  refine rz_All_c (i := 56) (fun k J hk hJ => rz_istore_n_ok (pc := 96) hx hb dX12_linkClasses_96 rfl hk) ?_
  refine rz_All_c (i := 57) (fun k J hk hJ => rz_iload_n_ok (pc := 97) hx hb dX12_linkClasses_97 rfl hk) ?_
  refine rz_All_c (i := 58) (fun k J hk hJ => rz_iconst_ok (pc := 98) hx hb dX12_linkClasses_98 rfl hk) ?_
  refine rz_All_c (i := 59) (fun k J hk hJ => rz_icmpeq_ok (pc := 99) hx hb dX12_linkClasses_99 rfl hk (hJ 70)) ?_
  refine rz_All_c (i := 60) (fun k J hk hJ => rz_aload_n_ok (pc := 102) hx hb dX12_linkClasses_102 rfl hk) ?_
  refine rz_All_c (i := 61) (fun k J hk hJ => rz_getf_ok (pc := 103) (own := RX12) (ref := "ThreadJudgeModel") (C := RX12) (T := TX12) (N := 257) (ci := 14) (index := 26) (f := 16) (t := 2) (Ts := Cond.code yX12_linkClasses cX12_linkClasses 5 none :: rz_TB) hx hb hts rz_in14 ho hK rfl (by decide) rfl (fun _ => rfl) (hw (i := 36) (j := 14) rfl rfl) (fun _ z => z) dX12_linkClasses_103 hk) ?_
  refine rz_All_c (i := 62) (fun k J hk hJ => rz_iload_n_ok (pc := 106) hx hb dX12_linkClasses_106 rfl hk) ?_
  refine rz_All_c (i := 63) (fun k J hk hJ => rz_zald_ok (pc := 107) hx hb hK dX12_linkClasses_107 hk) ?_
  refine rz_All_c (i := 64) (fun k J hk hJ => rz_ifne_ok (pc := 108) hx hb dX12_linkClasses_108 rfl hk (hJ 70)) ?_
  refine rz_All_c (i := 65) (fun k J hk hJ => rz_aload_n_ok (pc := 111) hx hb dX12_linkClasses_111 rfl hk) ?_
  refine rz_All_c (i := 66) (fun k J hk hJ => rz_getf_ok (pc := 112) (own := RX12) (ref := "ThreadJudgeModel") (C := RX12) (T := TX12) (N := 257) (ci := 14) (index := 26) (f := 16) (t := 2) (Ts := Cond.code yX12_linkClasses cX12_linkClasses 5 none :: rz_TB) hx hb hts rz_in14 ho hK rfl (by decide) rfl (fun _ => rfl) (hw (i := 36) (j := 14) rfl rfl) (fun _ z => z) dX12_linkClasses_112 hk) ?_
  refine rz_All_c (i := 67) (fun k J hk hJ => rz_iload_n_ok (pc := 115) hx hb dX12_linkClasses_115 rfl hk) ?_
  refine rz_All_c (i := 68) (fun k J hk hJ => rz_zald_ok (pc := 116) hx hb hK dX12_linkClasses_116 hk) ?_
  refine rz_All_c (i := 69) (fun k J hk hJ => rz_ifeq_ok (pc := 117) hx hb dX12_linkClasses_117 rfl hk (hJ 71)) ?_
  refine rz_All_c (i := 70) (fun k J hk hJ => rz_no_ok) ?_
  refine rz_All_c (i := 71) (fun k J hk hJ => rz_aload_n_ok (pc := 130) hx hb dX12_linkClasses_130 rfl hk) ?_
  refine rz_All_c (i := 72) (fun k J hk hJ => rz_getf_ok (pc := 131) (own := RX12) (ref := "ThreadJudgeModel") (C := RX12) (T := TX12) (N := 257) (ci := 14) (index := 165) (f := 71) (t := 2) (Ts := Cond.code yX12_linkClasses cX12_linkClasses 5 none :: rz_TB) hx hb hts rz_in14 ho hK rfl (by decide) rfl (fun _ => rfl) (hw (i := 42) (j := 16) rfl rfl) (fun _ z => z) dX12_linkClasses_131 hk) ?_
  refine rz_All_c (i := 73) (fun k J hk hJ => rz_iload_n_ok (pc := 134) hx hb dX12_linkClasses_134 rfl hk) ?_
  refine rz_All_c (i := 74) (fun k J hk hJ => rz_iload_n_ok (pc := 135) hx hb dX12_linkClasses_135 rfl hk) ?_
  refine rz_All_c (i := 75) (fun k J hk hJ => rz_iconst_ok (pc := 136) hx hb dX12_linkClasses_136 rfl hk) ?_
  refine rz_All_c (i := 76) (fun k J hk hJ => rz_icmpne_ok (pc := 137) hx hb dX12_linkClasses_137 rfl hk (hJ 78)) ?_
  refine rz_All_c (i := 77) (fun k J hk hJ => rz_no_ok) ?_
  refine rz_All_c (i := 78) (fun k J hk hJ => rz_iload_n_ok (pc := 144) hx hb dX12_linkClasses_144 rfl hk) ?_
  refine rz_All_c (i := 79) (fun k J hk hJ => rz_iast_ok (pc := 145) hx hb hK hA dX12_linkClasses_145 hk) ?_
  refine rz_All_c (i := 80) (fun k J hk hJ => rz_iconst_ok (pc := 146) hx hb dX12_linkClasses_146 rfl hk) ?_
  refine rz_All_c (i := 81) (fun k J hk hJ => rz_istore_n_ok (pc := 147) hx hb dX12_linkClasses_147 rfl hk) ?_
  refine rz_All_c (i := 82) (fun k J hk hJ => rz_iload_n_ok (pc := 148) hx hb dX12_linkClasses_148 rfl hk) ?_
  refine rz_All_c (i := 83) (fun k J hk hJ => rz_aload_n_ok (pc := 149) hx hb dX12_linkClasses_149 rfl hk) ?_
  refine rz_All_c (i := 84) (fun k J hk hJ => rz_getf_ok (pc := 150) (own := RX12) (ref := "ThreadJudgeModel") (C := RX12) (T := TX12) (N := 257) (ci := 14) (index := 42) (f := 21) (t := 2) (Ts := Cond.code yX12_linkClasses cX12_linkClasses 5 none :: rz_TB) hx hb hts rz_in14 ho hK rfl (by decide) rfl (fun _ => rfl) (hw (i := 36) (j := 18) rfl rfl) (fun _ z => z) dX12_linkClasses_150 hk) ?_
  refine rz_All_c (i := 85) (fun k J hk hJ => rz_iload_n_ok (pc := 153) hx hb dX12_linkClasses_153 rfl hk) ?_
  refine rz_All_c (i := 86) (fun k J hk hJ => rz_iald_ok (pc := 154) hx hb hK dX12_linkClasses_154 hk) ?_
  refine rz_All_c (i := 87) (fun k J hk hJ => rz_icmpge_ok (pc := 155) hx hb dX12_linkClasses_155 rfl hk (hJ 127)) ?_
  refine rz_All_c (i := 88) (fun k J hk hJ => rz_aload_n_ok (pc := 158) hx hb dX12_linkClasses_158 rfl hk) ?_
  refine rz_All_c (i := 89) (fun k J hk hJ => rz_aload_n_ok (pc := 159) hx hb dX12_linkClasses_159 rfl hk) ?_
  refine rz_All_c (i := 90) (fun k J hk hJ => rz_getf_ok (pc := 160) (own := RX12) (ref := "ThreadJudgeModel") (C := RX12) (T := TX12) (N := 257) (ci := 14) (index := 45) (f := 22) (t := 2) (Ts := Cond.code yX12_linkClasses cX12_linkClasses 5 none :: rz_TB) hx hb hts rz_in14 ho hK rfl (by decide) rfl (fun _ => rfl) (hw (i := 36) (j := 22) rfl rfl) (fun _ z => z) dX12_linkClasses_160 hk) ?_
  refine rz_All_c (i := 91) (fun k J hk hJ => rz_bipush_ok (pc := 163) hx hb dX12_linkClasses_163 (by decide) hk) ?_
  refine rz_All_c (i := 92) (fun k J hk hJ => rz_iload_n_ok (pc := 165) hx hb dX12_linkClasses_165 rfl hk) ?_
  refine rz_All_c (i := 93) (fun k J hk hJ => rz_imul_ok (pc := 166) hx hb dX12_linkClasses_166 hk) ?_
  refine rz_All_c (i := 94) (fun k J hk hJ => rz_iload_n_ok (pc := 167) hx hb dX12_linkClasses_167 rfl hk) ?_
  refine rz_All_c (i := 95) (fun k J hk hJ => rz_iadd_ok (pc := 168) hx hb dX12_linkClasses_168 hk) ?_
  refine rz_All_c (i := 96) (fun k J hk hJ => rz_iald_ok (pc := 169) hx hb hK dX12_linkClasses_169 hk) ?_
  refine rz_All_c (i := 97) (fun k J hk hJ => rz_aload_n_ok (pc := 170) hx hb dX12_linkClasses_170 rfl hk) ?_
  refine rz_All_c (i := 98) (fun k J hk hJ => rz_getf_ok (pc := 171) (own := RX12) (ref := "ThreadJudgeModel") (C := RX12) (T := TX12) (N := 257) (ci := 14) (index := 48) (f := 23) (t := 2) (Ts := Cond.code yX12_linkClasses cX12_linkClasses 5 none :: rz_TB) hx hb hts rz_in14 ho hK rfl (by decide) rfl (fun _ => rfl) (hw (i := 36) (j := 23) rfl rfl) (fun _ z => z) dX12_linkClasses_171 hk) ?_
  refine rz_All_c (i := 99) (fun k J hk hJ => rz_bipush_ok (pc := 174) hx hb dX12_linkClasses_174 (by decide) hk) ?_
  refine rz_All_c (i := 100) (fun k J hk hJ => rz_iload_n_ok (pc := 176) hx hb dX12_linkClasses_176 rfl hk) ?_
  refine rz_All_c (i := 101) (fun k J hk hJ => rz_imul_ok (pc := 177) hx hb dX12_linkClasses_177 hk) ?_
  refine rz_All_c (i := 102) (fun k J hk hJ => rz_iload_n_ok (pc := 178) hx hb dX12_linkClasses_178 rfl hk) ?_
  refine rz_All_c (i := 103) (fun k J hk hJ => rz_iadd_ok (pc := 179) hx hb dX12_linkClasses_179 hk) ?_
  refine rz_All_c (i := 104) (fun k J hk hJ => rz_iald_ok (pc := 180) hx hb hK dX12_linkClasses_180 hk) ?_
  refine rz_All_c (i := 105) (fun k J hk hJ => rz_callV_ok (pc := 181) (own := RX12) (C := RX12) (T0 := TX12) (N0 := 257) hC rfl (rmX12_classNamed l hG) (rz_cwV 2 hC rz_good (rz_mem (i := 42) (j := 22) rfl rfl) (rz_mem (i := 42) (j := 23) rfl rfl) (rz_mem (i := 43) (j := 0) rfl rfl) (rz_mem (i := 32) (j := 8) rfl rfl) (rz_mem (i := 43) (j := 1) rfl rfl) ⟨rfl, by decide, by decide, by decide +kernel⟩ rfl rfl ⟨by decide, by decide⟩) rfl dX12_linkClasses_181 hk) ?_
  refine rz_All_c (i := 106) (fun k J hk hJ => rz_istore_ok (pc := 184) hx hb dX12_linkClasses_184 hk) ?_
  refine rz_All_c (i := 107) (fun k J hk hJ => rz_iload_ok (pc := 186) hx hb dX12_linkClasses_186 hk) ?_
  refine rz_All_c (i := 108) (fun k J hk hJ => rz_iconst_ok (pc := 188) hx hb dX12_linkClasses_188 rfl hk) ?_
  refine rz_All_c (i := 109) (fun k J hk hJ => rz_icmpeq_ok (pc := 189) hx hb dX12_linkClasses_189 rfl hk (hJ 115)) ?_
  refine rz_All_c (i := 110) (fun k J hk hJ => rz_aload_n_ok (pc := 192) hx hb dX12_linkClasses_192 rfl hk) ?_
  refine rz_All_c (i := 111) (fun k J hk hJ => rz_getf_ok (pc := 193) (own := RX12) (ref := "ThreadJudgeModel") (C := RX12) (T := TX12) (N := 257) (ci := 14) (index := 26) (f := 16) (t := 2) (Ts := Cond.code yX12_linkClasses cX12_linkClasses 5 none :: rz_TB) hx hb hts rz_in14 ho hK rfl (by decide) rfl (fun _ => rfl) (hw (i := 36) (j := 14) rfl rfl) (fun _ z => z) dX12_linkClasses_193 hk) ?_
  refine rz_All_c (i := 112) (fun k J hk hJ => rz_iload_ok (pc := 196) hx hb dX12_linkClasses_196 hk) ?_
  refine rz_All_c (i := 113) (fun k J hk hJ => rz_zald_ok (pc := 198) hx hb hK dX12_linkClasses_198 hk) ?_
  refine rz_All_c (i := 114) (fun k J hk hJ => rz_ifne_ok (pc := 199) hx hb dX12_linkClasses_199 rfl hk (hJ 116)) ?_
  refine rz_All_c (i := 115) (fun k J hk hJ => rz_no_ok) ?_
  refine rz_All_c (i := 116) (fun k J hk hJ => rz_aload_n_ok (pc := 217) hx hb dX12_linkClasses_217 rfl hk) ?_
  refine rz_All_c (i := 117) (fun k J hk hJ => rz_getf_ok (pc := 218) (own := RX12) (ref := "ThreadJudgeModel") (C := RX12) (T := TX12) (N := 257) (ci := 14) (index := 168) (f := 72) (t := 2) (Ts := Cond.code yX12_linkClasses cX12_linkClasses 5 none :: rz_TB) hx hb hts rz_in14 ho hK rfl (by decide) rfl (fun _ => rfl) (hw (i := 42) (j := 21) rfl rfl) (fun _ z => z) dX12_linkClasses_218 hk) ?_
  refine rz_All_c (i := 118) (fun k J hk hJ => rz_bipush_ok (pc := 221) hx hb dX12_linkClasses_221 (by decide) hk) ?_
  refine rz_All_c (i := 119) (fun k J hk hJ => rz_iload_n_ok (pc := 223) hx hb dX12_linkClasses_223 rfl hk) ?_
  refine rz_All_c (i := 120) (fun k J hk hJ => rz_imul_ok (pc := 224) hx hb dX12_linkClasses_224 hk) ?_
  refine rz_All_c (i := 121) (fun k J hk hJ => rz_iload_n_ok (pc := 225) hx hb dX12_linkClasses_225 rfl hk) ?_
  refine rz_All_c (i := 122) (fun k J hk hJ => rz_iadd_ok (pc := 226) hx hb dX12_linkClasses_226 hk) ?_
  refine rz_All_c (i := 123) (fun k J hk hJ => rz_iload_ok (pc := 227) hx hb dX12_linkClasses_227 hk) ?_
  refine rz_All_c (i := 124) (fun k J hk hJ => rz_iast_ok (pc := 229) hx hb hK hA dX12_linkClasses_229 hk) ?_
  refine rz_All_c (i := 125) (fun k J hk hJ => rz_iinc_ok (pc := 230) hx hb dX12_linkClasses_230 (by decide) hk) ?_
  refine rz_All_c (i := 126) (fun k J hk hJ => rz_goto_ok (pc := 233) hx hb dX12_linkClasses_233 rfl (hJ 82)) ?_
  refine rz_All_c (i := 127) (fun k J hk hJ => rz_iinc_ok (pc := 236) hx hb dX12_linkClasses_236 (by decide) hk) ?_
  refine rz_All_c (i := 128) (fun k J hk hJ => rz_goto_ok (pc := 239) hx hb dX12_linkClasses_239 rfl (hJ 2)) ?_
  refine rz_All_c (i := 129) (fun k J hk hJ => rz_aload_n_ok (pc := 242) hx hb dX12_linkClasses_242 rfl hk) ?_
  refine rz_All_c (i := 130) (fun k J hk hJ => rz_callVv_ok (pc := 243) (own := RX12) (C := RX12) (T0 := TX12) (N0 := 257) hC rfl (rmX12_closeBelow l hG) (rz_cwV 0 hC rz_good (rz_mem (i := 43) (j := 6) rfl rfl) (rz_mem (i := 43) (j := 7) rfl rfl) (rz_mem (i := 43) (j := 8) rfl rfl) (rz_mem (i := 32) (j := 8) rfl rfl) (rz_mem (i := 43) (j := 9) rfl rfl) ⟨rfl, by decide, by decide, by decide +kernel⟩ rfl rfl ⟨by decide, by decide⟩) rfl dX12_linkClasses_243 hk) ?_
  refine rz_All_c (i := 131) (fun k J hk hJ => rz_iconst_ok (pc := 246) hx hb dX12_linkClasses_246 rfl hk) ?_
  refine rz_All_c (i := 132) (fun k J hk hJ => rz_istore_n_ok (pc := 247) hx hb dX12_linkClasses_247 rfl hk) ?_
  refine rz_All_c (i := 133) (fun k J hk hJ => rz_iload_n_ok (pc := 248) hx hb dX12_linkClasses_248 rfl hk) ?_
  refine rz_All_c (i := 134) (fun k J hk hJ => rz_aload_n_ok (pc := 249) hx hb dX12_linkClasses_249 rfl hk) ?_
  refine rz_All_c (i := 135) (fun k J hk hJ => rz_getf_ok (pc := 250) (own := RX12) (ref := "ThreadJudgeModel") (C := RX12) (T := TX12) (N := 257) (ci := 14) (index := 684) (f := 13) (t := 0) (Ts := Cond.code yX12_linkClasses cX12_linkClasses 5 none :: rz_TB) hx hb hts rz_in14 ho hK rfl (by decide) rfl (fun _ => rfl) (hw (i := 32) (j := 17) rfl rfl) (fun _ z => z) dX12_linkClasses_250 hk) ?_
  refine rz_All_c (i := 136) (fun k J hk hJ => rz_icmpge_ok (pc := 253) hx hb dX12_linkClasses_253 rfl hk (hJ 144)) ?_
  refine rz_All_c (i := 137) (fun k J hk hJ => rz_aload_n_ok (pc := 256) hx hb dX12_linkClasses_256 rfl hk) ?_
  refine rz_All_c (i := 138) (fun k J hk hJ => rz_iload_n_ok (pc := 257) hx hb dX12_linkClasses_257 rfl hk) ?_
  refine rz_All_c (i := 139) (fun k J hk hJ => rz_callV_ok (pc := 258) (own := RX12) (C := RX12) (T0 := TX12) (N0 := 257) hC rfl (rmX12_isRound l hG) (rz_cwV 1 hC rz_good (rz_mem (i := 43) (j := 11) rfl rfl) (rz_mem (i := 43) (j := 12) rfl rfl) (rz_mem (i := 43) (j := 13) rfl rfl) (rz_mem (i := 32) (j := 8) rfl rfl) (rz_mem (i := 43) (j := 14) rfl rfl) ⟨rfl, by decide, by decide, by decide +kernel⟩ rfl rfl ⟨by decide, by decide⟩) rfl dX12_linkClasses_258 hk) ?_
  refine rz_All_c (i := 140) (fun k J hk hJ => rz_ifeq_ok (pc := 261) hx hb dX12_linkClasses_261 rfl hk (hJ 142)) ?_
  refine rz_All_c (i := 141) (fun k J hk hJ => rz_no_ok) ?_
  refine rz_All_c (i := 142) (fun k J hk hJ => rz_iinc_ok (pc := 274) hx hb dX12_linkClasses_274 (by decide) hk) ?_
  refine rz_All_c (i := 143) (fun k J hk hJ => rz_goto_ok (pc := 277) hx hb dX12_linkClasses_277 rfl (hJ 133)) ?_
  refine rz_All_c (i := 144) (fun k J hk hJ => rz_vret_ok (pc := 280) hC dX12_linkClasses_280) ?_
  exact trivial
theorem dX12_has_0 : decode cX12_has 0 = .ok (.aload_n 0, 1) := by decide +kernel
theorem dX12_has_1 : decode cX12_has 1 = .ok (.getfield 75, 3) := by decide +kernel
theorem dX12_has_4 : decode cX12_has 4 = .ok (.iload_n 1, 1) := by decide +kernel
theorem dX12_has_5 : decode cX12_has 5 = .ok (.iaload, 1) := by decide +kernel
theorem dX12_has_6 : decode cX12_has 6 = .ok (.iload_n 2, 1) := by decide +kernel
theorem dX12_has_7 : decode cX12_has 7 = .ok (.iand, 1) := by decide +kernel
theorem dX12_has_8 : decode cX12_has 8 = .ok (.ifCond .eq 7, 3) := by decide +kernel
theorem dX12_has_15 : decode cX12_has 15 = .ok (.iconst 0, 1) := by decide +kernel
theorem dX12_has_16 : decode cX12_has 16 = .ok (.ireturn, 1) := by decide +kernel
def rpX12_has : List Nat := [0, 1, 4, 5, 6, 7, 8, 11, 15, 16]
noncomputable def rcX12_has : List rz_B := [rz_aload 0, rz_getf (Nat.add (Nat.mul 256 14) 1) 34 rz_r, rz_iload 1, rz_iald, rz_iload 2, rz_iand, rz_ifeq 8, rz_no, rz_cst 0, rz_zret]
noncomputable def rgX12_has : rz_L → rz_M → rz_Z → Bool := rz_go rcX12_has 3 1000000
def rrX12_has : Room := { frames := 0, cells := 0, slots := 0, locals := 0 }
theorem rmX12_has (l : Launch) {G : rz_G} (hG : rz_Gd G) (vs : rz_L) (M : rz_M) (Z : rz_Z) (hn : vs.length = 3) (h : rgX12_has vs M Z = true) : Met l yX12_has (Cond.code yX12_has cX12_has 3 (some .boolean) :: rz_TB) rrX12_has (rz_Pre G vs M) (rz_Qi G M.2 Z) 0 0 (fun q => rz_b G ≤ q) := by
  obtain ⟨D, tc, ad, b, xs, rfl⟩ := id hG
  refine rz_body (pcs := rpX12_has) (by decide) rfl (by rw [hn]; decide) h ?_
  intro p e R s m args below meth c hC
  obtain ⟨hx, hb, hml, hr, hlk, ho, hts, hKn, hRm⟩ := id hC
  obtain ⟨hK, hA, hSt⟩ := id hKn
  have hw : ∀ {i j : Nat} {ws : List Cond} {w : Cond}, rz_WW[i]? = some ws → ws[j]? = some w → w.before args s = true := fun h1 h2 => hts _ (List.mem_cons_of_mem _ (rz_mem h1 h2))
  refine rz_All_c (i := 0) (fun k J hk hJ => rz_aload_n_ok (pc := 0) hx hb dX12_has_0 rfl hk) ?_
  refine rz_All_c (i := 1) (fun k J hk hJ => rz_getf_ok (pc := 1) (own := RX12) (ref := "ThreadJudgeModel") (C := RX12) (T := TX12) (N := 257) (ci := 14) (index := 75) (f := 34) (t := 2) (Ts := Cond.code yX12_has cX12_has 3 (some .boolean) :: rz_TB) hx hb hts rz_in14 ho hK rfl (by decide) rfl (fun _ => rfl) (hw (i := 39) (j := 17) rfl rfl) (fun _ z => z) dX12_has_1 hk) ?_
  refine rz_All_c (i := 2) (fun k J hk hJ => rz_iload_n_ok (pc := 4) hx hb dX12_has_4 rfl hk) ?_
  refine rz_All_c (i := 3) (fun k J hk hJ => rz_iald_ok (pc := 5) hx hb hK dX12_has_5 hk) ?_
  refine rz_All_c (i := 4) (fun k J hk hJ => rz_iload_n_ok (pc := 6) hx hb dX12_has_6 rfl hk) ?_
  refine rz_All_c (i := 5) (fun k J hk hJ => rz_iand_ok (pc := 7) hx hb dX12_has_7 hk) ?_
  refine rz_All_c (i := 6) (fun k J hk hJ => rz_ifeq_ok (pc := 8) hx hb dX12_has_8 rfl hk (hJ 8)) ?_
  refine rz_All_c (i := 7) (fun k J hk hJ => rz_no_ok) ?_
  refine rz_All_c (i := 8) (fun k J hk hJ => rz_iconst_ok (pc := 15) hx hb dX12_has_15 rfl hk) ?_
  refine rz_All_c (i := 9) (fun k J hk hJ => rz_zret_ok (pc := 16) hC dX12_has_16) ?_
  exact trivial
theorem dX12_isStatic_0 : decode cX12_isStatic 0 = .ok (.aload_n 0, 1) := by decide +kernel
theorem dX12_isStatic_1 : decode cX12_isStatic 1 = .ok (.iload_n 1, 1) := by decide +kernel
theorem dX12_isStatic_2 : decode cX12_isStatic 2 = .ok (.iconst 1, 1) := by decide +kernel
theorem dX12_isStatic_3 : decode cX12_isStatic 3 = .ok (.invokevirtual 781, 3) := by decide +kernel
theorem dX12_isStatic_6 : decode cX12_isStatic 6 = .ok (.ireturn, 1) := by decide +kernel
def rpX12_isStatic : List Nat := [0, 1, 2, 3, 6]
noncomputable def rcX12_isStatic : List rz_B := [rz_aload 0, rz_iload 1, rz_cst 1, rz_callV 2 (Nat.add (Nat.mul 256 14) 1) rgX12_has, rz_zret]
noncomputable def rgX12_isStatic : rz_L → rz_M → rz_Z → Bool := rz_go rcX12_isStatic 2 1000000
def rrX12_isStatic : Room := { frames := 1, cells := 0, slots := 0, locals := 22 }
theorem rmX12_isStatic (l : Launch) {G : rz_G} (hG : rz_Gd G) (vs : rz_L) (M : rz_M) (Z : rz_Z) (hn : vs.length = 2) (h : rgX12_isStatic vs M Z = true) : Met l yX12_isStatic (Cond.code yX12_isStatic cX12_isStatic 2 (some .boolean) :: rz_TB) rrX12_isStatic (rz_Pre G vs M) (rz_Qi G M.2 Z) 0 0 (fun q => rz_b G ≤ q) := by
  obtain ⟨D, tc, ad, b, xs, rfl⟩ := id hG
  refine rz_body (pcs := rpX12_isStatic) (by decide) rfl (by rw [hn]; decide) h ?_
  intro p e R s m args below meth c hC
  obtain ⟨hx, hb, hml, hr, hlk, ho, hts, hKn, hRm⟩ := id hC
  obtain ⟨hK, hA, hSt⟩ := id hKn
  have hw : ∀ {i j : Nat} {ws : List Cond} {w : Cond}, rz_WW[i]? = some ws → ws[j]? = some w → w.before args s = true := fun h1 h2 => hts _ (List.mem_cons_of_mem _ (rz_mem h1 h2))
  refine rz_All_c (i := 0) (fun k J hk hJ => rz_aload_n_ok (pc := 0) hx hb dX12_isStatic_0 rfl hk) ?_
  refine rz_All_c (i := 1) (fun k J hk hJ => rz_iload_n_ok (pc := 1) hx hb dX12_isStatic_1 rfl hk) ?_
  refine rz_All_c (i := 2) (fun k J hk hJ => rz_iconst_ok (pc := 2) hx hb dX12_isStatic_2 rfl hk) ?_
  refine rz_All_c (i := 3) (fun k J hk hJ => rz_callV_ok (pc := 3) (own := RX12) (C := RX12) (T0 := TX12) (N0 := 257) hC rfl (rmX12_has l hG) (rz_cwV 2 hC rz_good (rz_mem (i := 45) (j := 4) rfl rfl) (rz_mem (i := 45) (j := 5) rfl rfl) (rz_mem (i := 45) (j := 6) rfl rfl) (rz_mem (i := 32) (j := 8) rfl rfl) (rz_mem (i := 45) (j := 7) rfl rfl) ⟨rfl, by decide, by decide, by decide +kernel⟩ rfl rfl ⟨by decide, by decide⟩) rfl dX12_isStatic_3 hk) ?_
  refine rz_All_c (i := 4) (fun k J hk hJ => rz_zret_ok (pc := 6) hC dX12_isStatic_6) ?_
  exact trivial
theorem dX12_fits_0 : decode cX12_fits 0 = .ok (.aload_n 0, 1) := by decide +kernel
theorem dX12_fits_1 : decode cX12_fits 1 = .ok (.getfield 81, 3) := by decide +kernel
theorem dX12_fits_4 : decode cX12_fits 4 = .ok (.iload_n 1, 1) := by decide +kernel
theorem dX12_fits_5 : decode cX12_fits 5 = .ok (.iaload, 1) := by decide +kernel
theorem dX12_fits_6 : decode cX12_fits 6 = .ok (.aload_n 0, 1) := by decide +kernel
theorem dX12_fits_7 : decode cX12_fits 7 = .ok (.getfield 814, 3) := by decide +kernel
theorem dX12_fits_10 : decode cX12_fits 10 = .ok (.if_icmp .ne 28, 3) := by decide +kernel
theorem dX12_fits_13 : decode cX12_fits 13 = .ok (.aload_n 0, 1) := by decide +kernel
theorem dX12_fits_14 : decode cX12_fits 14 = .ok (.aload_n 0, 1) := by decide +kernel
theorem dX12_fits_15 : decode cX12_fits 15 = .ok (.getfield 69, 3) := by decide +kernel
theorem dX12_fits_18 : decode cX12_fits 18 = .ok (.iload_n 1, 1) := by decide +kernel
theorem dX12_fits_19 : decode cX12_fits 19 = .ok (.iaload, 1) := by decide +kernel
theorem dX12_fits_20 : decode cX12_fits 20 = .ok (.aload_n 0, 1) := by decide +kernel
theorem dX12_fits_21 : decode cX12_fits 21 = .ok (.getfield 72, 3) := by decide +kernel
theorem dX12_fits_24 : decode cX12_fits 24 = .ok (.iload_n 1, 1) := by decide +kernel
theorem dX12_fits_25 : decode cX12_fits 25 = .ok (.iaload, 1) := by decide +kernel
theorem dX12_fits_26 : decode cX12_fits 26 = .ok (.iload_n 2, 1) := by decide +kernel
theorem dX12_fits_27 : decode cX12_fits 27 = .ok (.iload_n 3, 1) := by decide +kernel
theorem dX12_fits_28 : decode cX12_fits 28 = .ok (.invokevirtual 734, 3) := by decide +kernel
theorem dX12_fits_31 : decode cX12_fits 31 = .ok (.ifCond .eq 7, 3) := by decide +kernel
theorem dX12_fits_34 : decode cX12_fits 34 = .ok (.iconst 1, 1) := by decide +kernel
theorem dX12_fits_35 : decode cX12_fits 35 = .ok (.goto 4, 3) := by decide +kernel
theorem dX12_fits_39 : decode cX12_fits 39 = .ok (.istore 4, 2) := by decide +kernel
theorem dX12_fits_41 : decode cX12_fits 41 = .ok (.iconst 0, 1) := by decide +kernel
theorem dX12_fits_42 : decode cX12_fits 42 = .ok (.istore 5, 2) := by decide +kernel
theorem dX12_fits_44 : decode cX12_fits 44 = .ok (.iload 5, 2) := by decide +kernel
theorem dX12_fits_46 : decode cX12_fits 46 = .ok (.aload_n 0, 1) := by decide +kernel
theorem dX12_fits_47 : decode cX12_fits 47 = .ok (.getfield 814, 3) := by decide +kernel
theorem dX12_fits_50 : decode cX12_fits 50 = .ok (.if_icmp .ge 43, 3) := by decide +kernel
theorem dX12_fits_93 : decode cX12_fits 93 = .ok (.iload 4, 2) := by decide +kernel
theorem dX12_fits_95 : decode cX12_fits 95 = .ok (.ireturn, 1) := by decide +kernel
def rpX12_fits : List Nat := [0, 1, 4, 5, 6, 7, 10, 13, 14, 15, 18, 19, 20, 21, 24, 25, 26, 27, 28, 31, 34, 35, 38, 39, 41, 42, 44, 46, 47, 50, 53, 93, 95]
noncomputable def rcX12_fits : List rz_B := [rz_aload 0, rz_getf (Nat.add (Nat.mul 256 14) 1) 36 rz_r, rz_iload 1, rz_iald, rz_aload 0, rz_getf (Nat.add (Nat.mul 256 14) 1) 85 rz_i, rz_icmpne 22, rz_aload 0, rz_aload 0, rz_getf (Nat.add (Nat.mul 256 14) 1) 32 rz_r, rz_iload 1, rz_iald, rz_aload 0, rz_getf (Nat.add (Nat.mul 256 14) 1) 33 rz_r, rz_iload 1, rz_iald, rz_iload 2, rz_iload 3, rz_callV 4 (Nat.add (Nat.mul 256 14) 1) rgX12_isSame, rz_ifeq 22, rz_cst 1, rz_goto 23, rz_no, rz_istore 4, rz_cst 0, rz_istore 5, rz_iload 5, rz_aload 0, rz_getf (Nat.add (Nat.mul 256 14) 1) 85 rz_i, rz_icmpge 31, rz_no, rz_iload 4, rz_zret]
noncomputable def rgX12_fits : rz_L → rz_M → rz_Z → Bool := rz_go rcX12_fits 6 1000000
def rrX12_fits : Room := { frames := 1, cells := 0, slots := 0, locals := 26 }
theorem rmX12_fits (l : Launch) {G : rz_G} (hG : rz_Gd G) (vs : rz_L) (M : rz_M) (Z : rz_Z) (hn : vs.length = 4) (h : rgX12_fits vs M Z = true) : Met l yX12_fits (Cond.code yX12_fits cX12_fits 6 (some .boolean) :: rz_TB) rrX12_fits (rz_Pre G vs M) (rz_Qi G M.2 Z) 0 0 (fun q => rz_b G ≤ q) := by
  obtain ⟨D, tc, ad, b, xs, rfl⟩ := id hG
  refine rz_body (pcs := rpX12_fits) (by decide) rfl (by rw [hn]; decide) h ?_
  intro p e R s m args below meth c hC
  obtain ⟨hx, hb, hml, hr, hlk, ho, hts, hKn, hRm⟩ := id hC
  obtain ⟨hK, hA, hSt⟩ := id hKn
  have hw : ∀ {i j : Nat} {ws : List Cond} {w : Cond}, rz_WW[i]? = some ws → ws[j]? = some w → w.before args s = true := fun h1 h2 => hts _ (List.mem_cons_of_mem _ (rz_mem h1 h2))
  refine rz_All_c (i := 0) (fun k J hk hJ => rz_aload_n_ok (pc := 0) hx hb dX12_fits_0 rfl hk) ?_
  refine rz_All_c (i := 1) (fun k J hk hJ => rz_getf_ok (pc := 1) (own := RX12) (ref := "ThreadJudgeModel") (C := RX12) (T := TX12) (N := 257) (ci := 14) (index := 81) (f := 36) (t := 2) (Ts := Cond.code yX12_fits cX12_fits 6 (some .boolean) :: rz_TB) hx hb hts rz_in14 ho hK rfl (by decide) rfl (fun _ => rfl) (hw (i := 39) (j := 22) rfl rfl) (fun _ z => z) dX12_fits_1 hk) ?_
  refine rz_All_c (i := 2) (fun k J hk hJ => rz_iload_n_ok (pc := 4) hx hb dX12_fits_4 rfl hk) ?_
  refine rz_All_c (i := 3) (fun k J hk hJ => rz_iald_ok (pc := 5) hx hb hK dX12_fits_5 hk) ?_
  refine rz_All_c (i := 4) (fun k J hk hJ => rz_aload_n_ok (pc := 6) hx hb dX12_fits_6 rfl hk) ?_
  refine rz_All_c (i := 5) (fun k J hk hJ => rz_getf_ok (pc := 7) (own := RX12) (ref := "ThreadJudgeModel") (C := RX12) (T := TX12) (N := 257) (ci := 14) (index := 814) (f := 85) (t := 0) (Ts := Cond.code yX12_fits cX12_fits 6 (some .boolean) :: rz_TB) hx hb hts rz_in14 ho hK rfl (by decide) rfl (fun _ => rfl) (hw (i := 47) (j := 6) rfl rfl) (fun _ z => z) dX12_fits_7 hk) ?_
  refine rz_All_c (i := 6) (fun k J hk hJ => rz_icmpne_ok (pc := 10) hx hb dX12_fits_10 rfl hk (hJ 22)) ?_
  refine rz_All_c (i := 7) (fun k J hk hJ => rz_aload_n_ok (pc := 13) hx hb dX12_fits_13 rfl hk) ?_
  refine rz_All_c (i := 8) (fun k J hk hJ => rz_aload_n_ok (pc := 14) hx hb dX12_fits_14 rfl hk) ?_
  refine rz_All_c (i := 9) (fun k J hk hJ => rz_getf_ok (pc := 15) (own := RX12) (ref := "ThreadJudgeModel") (C := RX12) (T := TX12) (N := 257) (ci := 14) (index := 69) (f := 32) (t := 2) (Ts := Cond.code yX12_fits cX12_fits 6 (some .boolean) :: rz_TB) hx hb hts rz_in14 ho hK rfl (by decide) rfl (fun _ => rfl) (hw (i := 39) (j := 15) rfl rfl) (fun _ z => z) dX12_fits_15 hk) ?_
  refine rz_All_c (i := 10) (fun k J hk hJ => rz_iload_n_ok (pc := 18) hx hb dX12_fits_18 rfl hk) ?_
  refine rz_All_c (i := 11) (fun k J hk hJ => rz_iald_ok (pc := 19) hx hb hK dX12_fits_19 hk) ?_
  refine rz_All_c (i := 12) (fun k J hk hJ => rz_aload_n_ok (pc := 20) hx hb dX12_fits_20 rfl hk) ?_
  refine rz_All_c (i := 13) (fun k J hk hJ => rz_getf_ok (pc := 21) (own := RX12) (ref := "ThreadJudgeModel") (C := RX12) (T := TX12) (N := 257) (ci := 14) (index := 72) (f := 33) (t := 2) (Ts := Cond.code yX12_fits cX12_fits 6 (some .boolean) :: rz_TB) hx hb hts rz_in14 ho hK rfl (by decide) rfl (fun _ => rfl) (hw (i := 39) (j := 16) rfl rfl) (fun _ z => z) dX12_fits_21 hk) ?_
  refine rz_All_c (i := 14) (fun k J hk hJ => rz_iload_n_ok (pc := 24) hx hb dX12_fits_24 rfl hk) ?_
  refine rz_All_c (i := 15) (fun k J hk hJ => rz_iald_ok (pc := 25) hx hb hK dX12_fits_25 hk) ?_
  refine rz_All_c (i := 16) (fun k J hk hJ => rz_iload_n_ok (pc := 26) hx hb dX12_fits_26 rfl hk) ?_
  refine rz_All_c (i := 17) (fun k J hk hJ => rz_iload_n_ok (pc := 27) hx hb dX12_fits_27 rfl hk) ?_
  refine rz_All_c (i := 18) (fun k J hk hJ => rz_callV_ok (pc := 28) (own := RX12) (C := RX12) (T0 := TX12) (N0 := 257) hC rfl (rmX12_isSame l hG) (rz_cwV 4 hC rz_good (rz_mem (i := 41) (j := 16) rfl rfl) (rz_mem (i := 41) (j := 17) rfl rfl) (rz_mem (i := 41) (j := 18) rfl rfl) (rz_mem (i := 32) (j := 8) rfl rfl) (rz_mem (i := 41) (j := 19) rfl rfl) ⟨rfl, by decide, by decide, by decide +kernel⟩ rfl rfl ⟨by decide, by decide⟩) rfl dX12_fits_28 hk) ?_
  refine rz_All_c (i := 19) (fun k J hk hJ => rz_ifeq_ok (pc := 31) hx hb dX12_fits_31 rfl hk (hJ 22)) ?_
  refine rz_All_c (i := 20) (fun k J hk hJ => rz_iconst_ok (pc := 34) hx hb dX12_fits_34 rfl hk) ?_
  refine rz_All_c (i := 21) (fun k J hk hJ => rz_goto_ok (pc := 35) hx hb dX12_fits_35 rfl (hJ 23)) ?_
  refine rz_All_c (i := 22) (fun k J hk hJ => rz_no_ok) ?_
  refine rz_All_c (i := 23) (fun k J hk hJ => rz_istore_ok (pc := 39) hx hb dX12_fits_39 hk) ?_
  refine rz_All_c (i := 24) (fun k J hk hJ => rz_iconst_ok (pc := 41) hx hb dX12_fits_41 rfl hk) ?_
  refine rz_All_c (i := 25) (fun k J hk hJ => rz_istore_ok (pc := 42) hx hb dX12_fits_42 hk) ?_
  refine rz_All_c (i := 26) (fun k J hk hJ => rz_iload_ok (pc := 44) hx hb dX12_fits_44 hk) ?_
  refine rz_All_c (i := 27) (fun k J hk hJ => rz_aload_n_ok (pc := 46) hx hb dX12_fits_46 rfl hk) ?_
  refine rz_All_c (i := 28) (fun k J hk hJ => rz_getf_ok (pc := 47) (own := RX12) (ref := "ThreadJudgeModel") (C := RX12) (T := TX12) (N := 257) (ci := 14) (index := 814) (f := 85) (t := 0) (Ts := Cond.code yX12_fits cX12_fits 6 (some .boolean) :: rz_TB) hx hb hts rz_in14 ho hK rfl (by decide) rfl (fun _ => rfl) (hw (i := 47) (j := 6) rfl rfl) (fun _ z => z) dX12_fits_47 hk) ?_
  refine rz_All_c (i := 29) (fun k J hk hJ => rz_icmpge_ok (pc := 50) hx hb dX12_fits_50 rfl hk (hJ 31)) ?_
  refine rz_All_c (i := 30) (fun k J hk hJ => rz_no_ok) ?_
  refine rz_All_c (i := 31) (fun k J hk hJ => rz_iload_ok (pc := 93) hx hb dX12_fits_93 hk) ?_
  refine rz_All_c (i := 32) (fun k J hk hJ => rz_zret_ok (pc := 95) hC dX12_fits_95) ?_
  exact trivial
theorem dX12_inClass_0 : decode cX12_inClass 0 = .ok (.aload_n 0, 1) := by decide +kernel
theorem dX12_inClass_1 : decode cX12_inClass 1 = .ok (.getfield 54, 3) := by decide +kernel
theorem dX12_inClass_4 : decode cX12_inClass 4 = .ok (.iload_n 1, 1) := by decide +kernel
theorem dX12_inClass_5 : decode cX12_inClass 5 = .ok (.iaload, 1) := by decide +kernel
theorem dX12_inClass_6 : decode cX12_inClass 6 = .ok (.istore 4, 2) := by decide +kernel
theorem dX12_inClass_8 : decode cX12_inClass 8 = .ok (.iload 4, 2) := by decide +kernel
theorem dX12_inClass_10 : decode cX12_inClass 10 = .ok (.aload_n 0, 1) := by decide +kernel
theorem dX12_inClass_11 : decode cX12_inClass 11 = .ok (.getfield 54, 3) := by decide +kernel
theorem dX12_inClass_14 : decode cX12_inClass 14 = .ok (.iload_n 1, 1) := by decide +kernel
theorem dX12_inClass_15 : decode cX12_inClass 15 = .ok (.iconst 1, 1) := by decide +kernel
theorem dX12_inClass_16 : decode cX12_inClass 16 = .ok (.iadd, 1) := by decide +kernel
theorem dX12_inClass_17 : decode cX12_inClass 17 = .ok (.iaload, 1) := by decide +kernel
theorem dX12_inClass_18 : decode cX12_inClass 18 = .ok (.if_icmp .ge 23, 3) := by decide +kernel
theorem dX12_inClass_21 : decode cX12_inClass 21 = .ok (.aload_n 0, 1) := by decide +kernel
theorem dX12_inClass_22 : decode cX12_inClass 22 = .ok (.iload 4, 2) := by decide +kernel
theorem dX12_inClass_24 : decode cX12_inClass 24 = .ok (.iload_n 2, 1) := by decide +kernel
theorem dX12_inClass_25 : decode cX12_inClass 25 = .ok (.iload_n 3, 1) := by decide +kernel
theorem dX12_inClass_26 : decode cX12_inClass 26 = .ok (.invokevirtual 817, 3) := by decide +kernel
theorem dX12_inClass_29 : decode cX12_inClass 29 = .ok (.ifCond .eq 6, 3) := by decide +kernel
theorem dX12_inClass_32 : decode cX12_inClass 32 = .ok (.iload 4, 2) := by decide +kernel
theorem dX12_inClass_34 : decode cX12_inClass 34 = .ok (.ireturn, 1) := by decide +kernel
def rpX12_inClass : List Nat := [0, 1, 4, 5, 6, 8, 10, 11, 14, 15, 16, 17, 18, 21, 22, 24, 25, 26, 29, 32, 34, 35, 41]
noncomputable def rcX12_inClass : List rz_B := [rz_aload 0, rz_getf (Nat.add (Nat.mul 256 14) 1) 25 rz_r, rz_iload 1, rz_iald, rz_istore 4, rz_iload 4, rz_aload 0, rz_getf (Nat.add (Nat.mul 256 14) 1) 25 rz_r, rz_iload 1, rz_cst 1, rz_iadd, rz_iald, rz_icmpge 22, rz_aload 0, rz_iload 4, rz_iload 2, rz_iload 3, rz_callV 3 (Nat.add (Nat.mul 256 14) 1) rgX12_fits, rz_ifeq 21, rz_iload 4, rz_iret, rz_no, rz_no]
noncomputable def rgX12_inClass : rz_L → rz_M → rz_Z → Bool := rz_go rcX12_inClass 5 1000000
def rrX12_inClass : Room := { frames := 2, cells := 0, slots := 0, locals := 51 }
theorem rmX12_inClass (l : Launch) {G : rz_G} (hG : rz_Gd G) (vs : rz_L) (M : rz_M) (Z : rz_Z) (hn : vs.length = 4) (h : rgX12_inClass vs M Z = true) : Met l yX12_inClass (Cond.code yX12_inClass cX12_inClass 5 (some .int) :: rz_TB) rrX12_inClass (rz_Pre G vs M) (rz_Qi G M.2 Z) 0 0 (fun q => rz_b G ≤ q) := by
  obtain ⟨D, tc, ad, b, xs, rfl⟩ := id hG
  refine rz_body (pcs := rpX12_inClass) (by decide) rfl (by rw [hn]; decide) h ?_
  intro p e R s m args below meth c hC
  obtain ⟨hx, hb, hml, hr, hlk, ho, hts, hKn, hRm⟩ := id hC
  obtain ⟨hK, hA, hSt⟩ := id hKn
  have hw : ∀ {i j : Nat} {ws : List Cond} {w : Cond}, rz_WW[i]? = some ws → ws[j]? = some w → w.before args s = true := fun h1 h2 => hts _ (List.mem_cons_of_mem _ (rz_mem h1 h2))
  refine rz_All_c (i := 0) (fun k J hk hJ => rz_aload_n_ok (pc := 0) hx hb dX12_inClass_0 rfl hk) ?_
  refine rz_All_c (i := 1) (fun k J hk hJ => rz_getf_ok (pc := 1) (own := RX12) (ref := "ThreadJudgeModel") (C := RX12) (T := TX12) (N := 257) (ci := 14) (index := 54) (f := 25) (t := 2) (Ts := Cond.code yX12_inClass cX12_inClass 5 (some .int) :: rz_TB) hx hb hts rz_in14 ho hK rfl (by decide) rfl (fun _ => rfl) (hw (i := 36) (j := 20) rfl rfl) (fun _ z => z) dX12_inClass_1 hk) ?_
  refine rz_All_c (i := 2) (fun k J hk hJ => rz_iload_n_ok (pc := 4) hx hb dX12_inClass_4 rfl hk) ?_
  refine rz_All_c (i := 3) (fun k J hk hJ => rz_iald_ok (pc := 5) hx hb hK dX12_inClass_5 hk) ?_
  refine rz_All_c (i := 4) (fun k J hk hJ => rz_istore_ok (pc := 6) hx hb dX12_inClass_6 hk) ?_
  refine rz_All_c (i := 5) (fun k J hk hJ => rz_iload_ok (pc := 8) hx hb dX12_inClass_8 hk) ?_
  refine rz_All_c (i := 6) (fun k J hk hJ => rz_aload_n_ok (pc := 10) hx hb dX12_inClass_10 rfl hk) ?_
  refine rz_All_c (i := 7) (fun k J hk hJ => rz_getf_ok (pc := 11) (own := RX12) (ref := "ThreadJudgeModel") (C := RX12) (T := TX12) (N := 257) (ci := 14) (index := 54) (f := 25) (t := 2) (Ts := Cond.code yX12_inClass cX12_inClass 5 (some .int) :: rz_TB) hx hb hts rz_in14 ho hK rfl (by decide) rfl (fun _ => rfl) (hw (i := 36) (j := 20) rfl rfl) (fun _ z => z) dX12_inClass_11 hk) ?_
  refine rz_All_c (i := 8) (fun k J hk hJ => rz_iload_n_ok (pc := 14) hx hb dX12_inClass_14 rfl hk) ?_
  refine rz_All_c (i := 9) (fun k J hk hJ => rz_iconst_ok (pc := 15) hx hb dX12_inClass_15 rfl hk) ?_
  refine rz_All_c (i := 10) (fun k J hk hJ => rz_iadd_ok (pc := 16) hx hb dX12_inClass_16 hk) ?_
  refine rz_All_c (i := 11) (fun k J hk hJ => rz_iald_ok (pc := 17) hx hb hK dX12_inClass_17 hk) ?_
  refine rz_All_c (i := 12) (fun k J hk hJ => rz_icmpge_ok (pc := 18) hx hb dX12_inClass_18 rfl hk (hJ 22)) ?_
  refine rz_All_c (i := 13) (fun k J hk hJ => rz_aload_n_ok (pc := 21) hx hb dX12_inClass_21 rfl hk) ?_
  refine rz_All_c (i := 14) (fun k J hk hJ => rz_iload_ok (pc := 22) hx hb dX12_inClass_22 hk) ?_
  refine rz_All_c (i := 15) (fun k J hk hJ => rz_iload_n_ok (pc := 24) hx hb dX12_inClass_24 rfl hk) ?_
  refine rz_All_c (i := 16) (fun k J hk hJ => rz_iload_n_ok (pc := 25) hx hb dX12_inClass_25 rfl hk) ?_
  refine rz_All_c (i := 17) (fun k J hk hJ => rz_callV_ok (pc := 26) (own := RX12) (C := RX12) (T0 := TX12) (N0 := 257) hC rfl (rmX12_fits l hG) (rz_cwV 3 hC rz_good (rz_mem (i := 47) (j := 16) rfl rfl) (rz_mem (i := 47) (j := 17) rfl rfl) (rz_mem (i := 47) (j := 18) rfl rfl) (rz_mem (i := 32) (j := 8) rfl rfl) (rz_mem (i := 47) (j := 19) rfl rfl) ⟨rfl, by decide, by decide, by decide +kernel⟩ rfl rfl ⟨by decide, by decide⟩) rfl dX12_inClass_26 hk) ?_
  refine rz_All_c (i := 18) (fun k J hk hJ => rz_ifeq_ok (pc := 29) hx hb dX12_inClass_29 rfl hk (hJ 21)) ?_
  refine rz_All_c (i := 19) (fun k J hk hJ => rz_iload_ok (pc := 32) hx hb dX12_inClass_32 hk) ?_
  refine rz_All_c (i := 20) (fun k J hk hJ => rz_iret_ok (pc := 34) hC dX12_inClass_34) ?_
  refine rz_All_c (i := 21) (fun k J hk hJ => rz_no_ok) ?_
  refine rz_All_c (i := 22) (fun k J hk hJ => rz_no_ok) ?_
  exact trivial
theorem dX12_methodFound_0 : decode cX12_methodFound 0 = .ok (.iload_n 1, 1) := by decide +kernel
theorem dX12_methodFound_1 : decode cX12_methodFound 1 = .ok (.istore 4, 2) := by decide +kernel
theorem dX12_methodFound_3 : decode cX12_methodFound 3 = .ok (.iload 4, 2) := by decide +kernel
theorem dX12_methodFound_5 : decode cX12_methodFound 5 = .ok (.ifCond .lt 36, 3) := by decide +kernel
theorem dX12_methodFound_8 : decode cX12_methodFound 8 = .ok (.aload_n 0, 1) := by decide +kernel
theorem dX12_methodFound_9 : decode cX12_methodFound 9 = .ok (.iload 4, 2) := by decide +kernel
theorem dX12_methodFound_11 : decode cX12_methodFound 11 = .ok (.iload_n 2, 1) := by decide +kernel
theorem dX12_methodFound_12 : decode cX12_methodFound 12 = .ok (.iload_n 3, 1) := by decide +kernel
theorem dX12_methodFound_13 : decode cX12_methodFound 13 = .ok (.invokevirtual 821, 3) := by decide +kernel
theorem dX12_methodFound_16 : decode cX12_methodFound 16 = .ok (.iconst (-1), 1) := by decide +kernel
theorem dX12_methodFound_17 : decode cX12_methodFound 17 = .ok (.if_icmp .eq 12, 3) := by decide +kernel
theorem dX12_methodFound_20 : decode cX12_methodFound 20 = .ok (.aload_n 0, 1) := by decide +kernel
theorem dX12_methodFound_21 : decode cX12_methodFound 21 = .ok (.iload 4, 2) := by decide +kernel
theorem dX12_methodFound_23 : decode cX12_methodFound 23 = .ok (.iload_n 2, 1) := by decide +kernel
theorem dX12_methodFound_24 : decode cX12_methodFound 24 = .ok (.iload_n 3, 1) := by decide +kernel
theorem dX12_methodFound_25 : decode cX12_methodFound 25 = .ok (.invokevirtual 821, 3) := by decide +kernel
theorem dX12_methodFound_28 : decode cX12_methodFound 28 = .ok (.ireturn, 1) := by decide +kernel
def rpX12_methodFound : List Nat := [0, 1, 3, 5, 8, 9, 11, 12, 13, 16, 17, 20, 21, 23, 24, 25, 28, 29, 41]
noncomputable def rcX12_methodFound : List rz_B := [rz_iload 1, rz_istore 4, rz_iload 4, rz_iflt 18, rz_aload 0, rz_iload 4, rz_iload 2, rz_iload 3, rz_callV 3 (Nat.add (Nat.mul 256 14) 1) rgX12_inClass, rz_cst 4294967295, rz_icmpeq 17, rz_aload 0, rz_iload 4, rz_iload 2, rz_iload 3, rz_callV 3 (Nat.add (Nat.mul 256 14) 1) rgX12_inClass, rz_iret, rz_no, rz_no]
noncomputable def rgX12_methodFound : rz_L → rz_M → rz_Z → Bool := rz_go rcX12_methodFound 5 1000000
def rrX12_methodFound : Room := { frames := 3, cells := 0, slots := 0, locals := 75 }
theorem rmX12_methodFound (l : Launch) {G : rz_G} (hG : rz_Gd G) (vs : rz_L) (M : rz_M) (Z : rz_Z) (hn : vs.length = 4) (h : rgX12_methodFound vs M Z = true) : Met l yX12_methodFound (Cond.code yX12_methodFound cX12_methodFound 5 (some .int) :: rz_TB) rrX12_methodFound (rz_Pre G vs M) (rz_Qi G M.2 Z) 0 0 (fun q => rz_b G ≤ q) := by
  obtain ⟨D, tc, ad, b, xs, rfl⟩ := id hG
  refine rz_body (pcs := rpX12_methodFound) (by decide) rfl (by rw [hn]; decide) h ?_
  intro p e R s m args below meth c hC
  obtain ⟨hx, hb, hml, hr, hlk, ho, hts, hKn, hRm⟩ := id hC
  obtain ⟨hK, hA, hSt⟩ := id hKn
  have hw : ∀ {i j : Nat} {ws : List Cond} {w : Cond}, rz_WW[i]? = some ws → ws[j]? = some w → w.before args s = true := fun h1 h2 => hts _ (List.mem_cons_of_mem _ (rz_mem h1 h2))
  refine rz_All_c (i := 0) (fun k J hk hJ => rz_iload_n_ok (pc := 0) hx hb dX12_methodFound_0 rfl hk) ?_
  refine rz_All_c (i := 1) (fun k J hk hJ => rz_istore_ok (pc := 1) hx hb dX12_methodFound_1 hk) ?_
  refine rz_All_c (i := 2) (fun k J hk hJ => rz_iload_ok (pc := 3) hx hb dX12_methodFound_3 hk) ?_
  refine rz_All_c (i := 3) (fun k J hk hJ => rz_iflt_ok (pc := 5) hx hb dX12_methodFound_5 rfl hk (hJ 18)) ?_
  refine rz_All_c (i := 4) (fun k J hk hJ => rz_aload_n_ok (pc := 8) hx hb dX12_methodFound_8 rfl hk) ?_
  refine rz_All_c (i := 5) (fun k J hk hJ => rz_iload_ok (pc := 9) hx hb dX12_methodFound_9 hk) ?_
  refine rz_All_c (i := 6) (fun k J hk hJ => rz_iload_n_ok (pc := 11) hx hb dX12_methodFound_11 rfl hk) ?_
  refine rz_All_c (i := 7) (fun k J hk hJ => rz_iload_n_ok (pc := 12) hx hb dX12_methodFound_12 rfl hk) ?_
  refine rz_All_c (i := 8) (fun k J hk hJ => rz_callV_ok (pc := 13) (own := RX12) (C := RX12) (T0 := TX12) (N0 := 257) hC rfl (rmX12_inClass l hG) (rz_cwV 3 hC rz_good (rz_mem (i := 47) (j := 12) rfl rfl) (rz_mem (i := 47) (j := 13) rfl rfl) (rz_mem (i := 47) (j := 14) rfl rfl) (rz_mem (i := 32) (j := 8) rfl rfl) (rz_mem (i := 47) (j := 15) rfl rfl) ⟨rfl, by decide, by decide, by decide +kernel⟩ rfl rfl ⟨by decide, by decide⟩) rfl dX12_methodFound_13 hk) ?_
  refine rz_All_c (i := 9) (fun k J hk hJ => rz_iconst_ok (pc := 16) hx hb dX12_methodFound_16 rfl hk) ?_
  refine rz_All_c (i := 10) (fun k J hk hJ => rz_icmpeq_ok (pc := 17) hx hb dX12_methodFound_17 rfl hk (hJ 17)) ?_
  refine rz_All_c (i := 11) (fun k J hk hJ => rz_aload_n_ok (pc := 20) hx hb dX12_methodFound_20 rfl hk) ?_
  refine rz_All_c (i := 12) (fun k J hk hJ => rz_iload_ok (pc := 21) hx hb dX12_methodFound_21 hk) ?_
  refine rz_All_c (i := 13) (fun k J hk hJ => rz_iload_n_ok (pc := 23) hx hb dX12_methodFound_23 rfl hk) ?_
  refine rz_All_c (i := 14) (fun k J hk hJ => rz_iload_n_ok (pc := 24) hx hb dX12_methodFound_24 rfl hk) ?_
  refine rz_All_c (i := 15) (fun k J hk hJ => rz_callV_ok (pc := 25) (own := RX12) (C := RX12) (T0 := TX12) (N0 := 257) hC rfl (rmX12_inClass l hG) (rz_cwV 3 hC rz_good (rz_mem (i := 47) (j := 12) rfl rfl) (rz_mem (i := 47) (j := 13) rfl rfl) (rz_mem (i := 47) (j := 14) rfl rfl) (rz_mem (i := 32) (j := 8) rfl rfl) (rz_mem (i := 47) (j := 15) rfl rfl) ⟨rfl, by decide, by decide, by decide +kernel⟩ rfl rfl ⟨by decide, by decide⟩) rfl dX12_methodFound_25 hk) ?_
  refine rz_All_c (i := 16) (fun k J hk hJ => rz_iret_ok (pc := 28) hC dX12_methodFound_28) ?_
  refine rz_All_c (i := 17) (fun k J hk hJ => rz_no_ok) ?_
  refine rz_All_c (i := 18) (fun k J hk hJ => rz_no_ok) ?_
  exact trivial
theorem dX12_fieldFound_0 : decode cX12_fieldFound 0 = .ok (.iload_n 1, 1) := by decide +kernel
theorem dX12_fieldFound_1 : decode cX12_fieldFound 1 = .ok (.istore 4, 2) := by decide +kernel
theorem dX12_fieldFound_3 : decode cX12_fieldFound 3 = .ok (.iload 4, 2) := by decide +kernel
theorem dX12_fieldFound_5 : decode cX12_fieldFound 5 = .ok (.ifCond .lt 70, 3) := by decide +kernel
theorem dX12_fieldFound_8 : decode cX12_fieldFound 8 = .ok (.aload_n 0, 1) := by decide +kernel
theorem dX12_fieldFound_9 : decode cX12_fieldFound 9 = .ok (.getfield 51, 3) := by decide +kernel
theorem dX12_fieldFound_12 : decode cX12_fieldFound 12 = .ok (.iload 4, 2) := by decide +kernel
theorem dX12_fieldFound_14 : decode cX12_fieldFound 14 = .ok (.iaload, 1) := by decide +kernel
theorem dX12_fieldFound_15 : decode cX12_fieldFound 15 = .ok (.istore 5, 2) := by decide +kernel
theorem dX12_fieldFound_17 : decode cX12_fieldFound 17 = .ok (.iload 5, 2) := by decide +kernel
theorem dX12_fieldFound_19 : decode cX12_fieldFound 19 = .ok (.aload_n 0, 1) := by decide +kernel
theorem dX12_fieldFound_20 : decode cX12_fieldFound 20 = .ok (.getfield 51, 3) := by decide +kernel
theorem dX12_fieldFound_23 : decode cX12_fieldFound 23 = .ok (.iload 4, 2) := by decide +kernel
theorem dX12_fieldFound_25 : decode cX12_fieldFound 25 = .ok (.iconst 1, 1) := by decide +kernel
theorem dX12_fieldFound_26 : decode cX12_fieldFound 26 = .ok (.iadd, 1) := by decide +kernel
theorem dX12_fieldFound_27 : decode cX12_fieldFound 27 = .ok (.iaload, 1) := by decide +kernel
theorem dX12_fieldFound_28 : decode cX12_fieldFound 28 = .ok (.if_icmp .ge 35, 3) := by decide +kernel
theorem dX12_fieldFound_31 : decode cX12_fieldFound 31 = .ok (.aload_n 0, 1) := by decide +kernel
theorem dX12_fieldFound_32 : decode cX12_fieldFound 32 = .ok (.aload_n 0, 1) := by decide +kernel
theorem dX12_fieldFound_33 : decode cX12_fieldFound 33 = .ok (.getfield 57, 3) := by decide +kernel
theorem dX12_fieldFound_36 : decode cX12_fieldFound 36 = .ok (.iload 5, 2) := by decide +kernel
theorem dX12_fieldFound_38 : decode cX12_fieldFound 38 = .ok (.iaload, 1) := by decide +kernel
theorem dX12_fieldFound_39 : decode cX12_fieldFound 39 = .ok (.aload_n 0, 1) := by decide +kernel
theorem dX12_fieldFound_40 : decode cX12_fieldFound 40 = .ok (.getfield 60, 3) := by decide +kernel
theorem dX12_fieldFound_43 : decode cX12_fieldFound 43 = .ok (.iload 5, 2) := by decide +kernel
theorem dX12_fieldFound_45 : decode cX12_fieldFound 45 = .ok (.iaload, 1) := by decide +kernel
theorem dX12_fieldFound_46 : decode cX12_fieldFound 46 = .ok (.iload_n 2, 1) := by decide +kernel
theorem dX12_fieldFound_47 : decode cX12_fieldFound 47 = .ok (.iload_n 3, 1) := by decide +kernel
theorem dX12_fieldFound_48 : decode cX12_fieldFound 48 = .ok (.invokevirtual 734, 3) := by decide +kernel
theorem dX12_fieldFound_51 : decode cX12_fieldFound 51 = .ok (.ifCond .eq 6, 3) := by decide +kernel
theorem dX12_fieldFound_54 : decode cX12_fieldFound 54 = .ok (.iload 5, 2) := by decide +kernel
theorem dX12_fieldFound_56 : decode cX12_fieldFound 56 = .ok (.ireturn, 1) := by decide +kernel
def rpX12_fieldFound : List Nat := [0, 1, 3, 5, 8, 9, 12, 14, 15, 17, 19, 20, 23, 25, 26, 27, 28, 31, 32, 33, 36, 38, 39, 40, 43, 45, 46, 47, 48, 51, 54, 56, 57, 63, 75]
noncomputable def rcX12_fieldFound : List rz_B := [rz_iload 1, rz_istore 4, rz_iload 4, rz_iflt 34, rz_aload 0, rz_getf (Nat.add (Nat.mul 256 14) 1) 24 rz_r, rz_iload 4, rz_iald, rz_istore 5, rz_iload 5, rz_aload 0, rz_getf (Nat.add (Nat.mul 256 14) 1) 24 rz_r, rz_iload 4, rz_cst 1, rz_iadd, rz_iald, rz_icmpge 33, rz_aload 0, rz_aload 0, rz_getf (Nat.add (Nat.mul 256 14) 1) 27 rz_r, rz_iload 5, rz_iald, rz_aload 0, rz_getf (Nat.add (Nat.mul 256 14) 1) 28 rz_r, rz_iload 5, rz_iald, rz_iload 2, rz_iload 3, rz_callV 4 (Nat.add (Nat.mul 256 14) 1) rgX12_isSame, rz_ifeq 32, rz_iload 5, rz_iret, rz_no, rz_no, rz_no]
noncomputable def rgX12_fieldFound : rz_L → rz_M → rz_Z → Bool := rz_go rcX12_fieldFound 6 1000000
def rrX12_fieldFound : Room := { frames := 1, cells := 0, slots := 0, locals := 26 }
theorem rmX12_fieldFound (l : Launch) {G : rz_G} (hG : rz_Gd G) (vs : rz_L) (M : rz_M) (Z : rz_Z) (hn : vs.length = 4) (h : rgX12_fieldFound vs M Z = true) : Met l yX12_fieldFound (Cond.code yX12_fieldFound cX12_fieldFound 6 (some .int) :: rz_TB) rrX12_fieldFound (rz_Pre G vs M) (rz_Qi G M.2 Z) 0 0 (fun q => rz_b G ≤ q) := by
  obtain ⟨D, tc, ad, b, xs, rfl⟩ := id hG
  refine rz_body (pcs := rpX12_fieldFound) (by decide) rfl (by rw [hn]; decide) h ?_
  intro p e R s m args below meth c hC
  obtain ⟨hx, hb, hml, hr, hlk, ho, hts, hKn, hRm⟩ := id hC
  obtain ⟨hK, hA, hSt⟩ := id hKn
  have hw : ∀ {i j : Nat} {ws : List Cond} {w : Cond}, rz_WW[i]? = some ws → ws[j]? = some w → w.before args s = true := fun h1 h2 => hts _ (List.mem_cons_of_mem _ (rz_mem h1 h2))
  refine rz_All_c (i := 0) (fun k J hk hJ => rz_iload_n_ok (pc := 0) hx hb dX12_fieldFound_0 rfl hk) ?_
  refine rz_All_c (i := 1) (fun k J hk hJ => rz_istore_ok (pc := 1) hx hb dX12_fieldFound_1 hk) ?_
  refine rz_All_c (i := 2) (fun k J hk hJ => rz_iload_ok (pc := 3) hx hb dX12_fieldFound_3 hk) ?_
  refine rz_All_c (i := 3) (fun k J hk hJ => rz_iflt_ok (pc := 5) hx hb dX12_fieldFound_5 rfl hk (hJ 34)) ?_
  refine rz_All_c (i := 4) (fun k J hk hJ => rz_aload_n_ok (pc := 8) hx hb dX12_fieldFound_8 rfl hk) ?_
  refine rz_All_c (i := 5) (fun k J hk hJ => rz_getf_ok (pc := 9) (own := RX12) (ref := "ThreadJudgeModel") (C := RX12) (T := TX12) (N := 257) (ci := 14) (index := 51) (f := 24) (t := 2) (Ts := Cond.code yX12_fieldFound cX12_fieldFound 6 (some .int) :: rz_TB) hx hb hts rz_in14 ho hK rfl (by decide) rfl (fun _ => rfl) (hw (i := 36) (j := 19) rfl rfl) (fun _ z => z) dX12_fieldFound_9 hk) ?_
  refine rz_All_c (i := 6) (fun k J hk hJ => rz_iload_ok (pc := 12) hx hb dX12_fieldFound_12 hk) ?_
  refine rz_All_c (i := 7) (fun k J hk hJ => rz_iald_ok (pc := 14) hx hb hK dX12_fieldFound_14 hk) ?_
  refine rz_All_c (i := 8) (fun k J hk hJ => rz_istore_ok (pc := 15) hx hb dX12_fieldFound_15 hk) ?_
  refine rz_All_c (i := 9) (fun k J hk hJ => rz_iload_ok (pc := 17) hx hb dX12_fieldFound_17 hk) ?_
  refine rz_All_c (i := 10) (fun k J hk hJ => rz_aload_n_ok (pc := 19) hx hb dX12_fieldFound_19 rfl hk) ?_
  refine rz_All_c (i := 11) (fun k J hk hJ => rz_getf_ok (pc := 20) (own := RX12) (ref := "ThreadJudgeModel") (C := RX12) (T := TX12) (N := 257) (ci := 14) (index := 51) (f := 24) (t := 2) (Ts := Cond.code yX12_fieldFound cX12_fieldFound 6 (some .int) :: rz_TB) hx hb hts rz_in14 ho hK rfl (by decide) rfl (fun _ => rfl) (hw (i := 36) (j := 19) rfl rfl) (fun _ z => z) dX12_fieldFound_20 hk) ?_
  refine rz_All_c (i := 12) (fun k J hk hJ => rz_iload_ok (pc := 23) hx hb dX12_fieldFound_23 hk) ?_
  refine rz_All_c (i := 13) (fun k J hk hJ => rz_iconst_ok (pc := 25) hx hb dX12_fieldFound_25 rfl hk) ?_
  refine rz_All_c (i := 14) (fun k J hk hJ => rz_iadd_ok (pc := 26) hx hb dX12_fieldFound_26 hk) ?_
  refine rz_All_c (i := 15) (fun k J hk hJ => rz_iald_ok (pc := 27) hx hb hK dX12_fieldFound_27 hk) ?_
  refine rz_All_c (i := 16) (fun k J hk hJ => rz_icmpge_ok (pc := 28) hx hb dX12_fieldFound_28 rfl hk (hJ 33)) ?_
  refine rz_All_c (i := 17) (fun k J hk hJ => rz_aload_n_ok (pc := 31) hx hb dX12_fieldFound_31 rfl hk) ?_
  refine rz_All_c (i := 18) (fun k J hk hJ => rz_aload_n_ok (pc := 32) hx hb dX12_fieldFound_32 rfl hk) ?_
  refine rz_All_c (i := 19) (fun k J hk hJ => rz_getf_ok (pc := 33) (own := RX12) (ref := "ThreadJudgeModel") (C := RX12) (T := TX12) (N := 257) (ci := 14) (index := 57) (f := 27) (t := 2) (Ts := Cond.code yX12_fieldFound cX12_fieldFound 6 (some .int) :: rz_TB) hx hb hts rz_in14 ho hK rfl (by decide) rfl (fun _ => rfl) (hw (i := 39) (j := 0) rfl rfl) (fun _ z => z) dX12_fieldFound_33 hk) ?_
  refine rz_All_c (i := 20) (fun k J hk hJ => rz_iload_ok (pc := 36) hx hb dX12_fieldFound_36 hk) ?_
  refine rz_All_c (i := 21) (fun k J hk hJ => rz_iald_ok (pc := 38) hx hb hK dX12_fieldFound_38 hk) ?_
  refine rz_All_c (i := 22) (fun k J hk hJ => rz_aload_n_ok (pc := 39) hx hb dX12_fieldFound_39 rfl hk) ?_
  refine rz_All_c (i := 23) (fun k J hk hJ => rz_getf_ok (pc := 40) (own := RX12) (ref := "ThreadJudgeModel") (C := RX12) (T := TX12) (N := 257) (ci := 14) (index := 60) (f := 28) (t := 2) (Ts := Cond.code yX12_fieldFound cX12_fieldFound 6 (some .int) :: rz_TB) hx hb hts rz_in14 ho hK rfl (by decide) rfl (fun _ => rfl) (hw (i := 39) (j := 1) rfl rfl) (fun _ z => z) dX12_fieldFound_40 hk) ?_
  refine rz_All_c (i := 24) (fun k J hk hJ => rz_iload_ok (pc := 43) hx hb dX12_fieldFound_43 hk) ?_
  refine rz_All_c (i := 25) (fun k J hk hJ => rz_iald_ok (pc := 45) hx hb hK dX12_fieldFound_45 hk) ?_
  refine rz_All_c (i := 26) (fun k J hk hJ => rz_iload_n_ok (pc := 46) hx hb dX12_fieldFound_46 rfl hk) ?_
  refine rz_All_c (i := 27) (fun k J hk hJ => rz_iload_n_ok (pc := 47) hx hb dX12_fieldFound_47 rfl hk) ?_
  refine rz_All_c (i := 28) (fun k J hk hJ => rz_callV_ok (pc := 48) (own := RX12) (C := RX12) (T0 := TX12) (N0 := 257) hC rfl (rmX12_isSame l hG) (rz_cwV 4 hC rz_good (rz_mem (i := 41) (j := 16) rfl rfl) (rz_mem (i := 41) (j := 17) rfl rfl) (rz_mem (i := 41) (j := 18) rfl rfl) (rz_mem (i := 32) (j := 8) rfl rfl) (rz_mem (i := 41) (j := 19) rfl rfl) ⟨rfl, by decide, by decide, by decide +kernel⟩ rfl rfl ⟨by decide, by decide⟩) rfl dX12_fieldFound_48 hk) ?_
  refine rz_All_c (i := 29) (fun k J hk hJ => rz_ifeq_ok (pc := 51) hx hb dX12_fieldFound_51 rfl hk (hJ 32)) ?_
  refine rz_All_c (i := 30) (fun k J hk hJ => rz_iload_ok (pc := 54) hx hb dX12_fieldFound_54 hk) ?_
  refine rz_All_c (i := 31) (fun k J hk hJ => rz_iret_ok (pc := 56) hC dX12_fieldFound_56) ?_
  refine rz_All_c (i := 32) (fun k J hk hJ => rz_no_ok) ?_
  refine rz_All_c (i := 33) (fun k J hk hJ => rz_no_ok) ?_
  refine rz_All_c (i := 34) (fun k J hk hJ => rz_no_ok) ?_
  exact trivial
theorem dX12_labelled_0 : decode cX12_labelled 0 = .ok (.iconst 0, 1) := by decide +kernel
theorem dX12_labelled_1 : decode cX12_labelled 1 = .ok (.istore 4, 2) := by decide +kernel
theorem dX12_labelled_3 : decode cX12_labelled 3 = .ok (.iload 4, 2) := by decide +kernel
theorem dX12_labelled_5 : decode cX12_labelled 5 = .ok (.aload_n 0, 1) := by decide +kernel
theorem dX12_labelled_6 : decode cX12_labelled 6 = .ok (.getfield 718, 3) := by decide +kernel
theorem dX12_labelled_9 : decode cX12_labelled 9 = .ok (.if_icmp .ge 51, 3) := by decide +kernel
theorem dX12_labelled_12 : decode cX12_labelled 12 = .ok (.aload_n 0, 1) := by decide +kernel
theorem dX12_labelled_13 : decode cX12_labelled 13 = .ok (.getfield 141, 3) := by decide +kernel
theorem dX12_labelled_16 : decode cX12_labelled 16 = .ok (.iload 4, 2) := by decide +kernel
theorem dX12_labelled_18 : decode cX12_labelled 18 = .ok (.iaload, 1) := by decide +kernel
theorem dX12_labelled_19 : decode cX12_labelled 19 = .ok (.iload_n 1, 1) := by decide +kernel
theorem dX12_labelled_20 : decode cX12_labelled 20 = .ok (.if_icmp .ne 34, 3) := by decide +kernel
theorem dX12_labelled_23 : decode cX12_labelled 23 = .ok (.aload_n 0, 1) := by decide +kernel
theorem dX12_labelled_24 : decode cX12_labelled 24 = .ok (.aload_n 0, 1) := by decide +kernel
theorem dX12_labelled_25 : decode cX12_labelled 25 = .ok (.getfield 132, 3) := by decide +kernel
theorem dX12_labelled_28 : decode cX12_labelled 28 = .ok (.iload 4, 2) := by decide +kernel
theorem dX12_labelled_30 : decode cX12_labelled 30 = .ok (.iaload, 1) := by decide +kernel
theorem dX12_labelled_31 : decode cX12_labelled 31 = .ok (.aload_n 0, 1) := by decide +kernel
theorem dX12_labelled_32 : decode cX12_labelled 32 = .ok (.getfield 135, 3) := by decide +kernel
theorem dX12_labelled_35 : decode cX12_labelled 35 = .ok (.iload 4, 2) := by decide +kernel
theorem dX12_labelled_37 : decode cX12_labelled 37 = .ok (.iaload, 1) := by decide +kernel
theorem dX12_labelled_38 : decode cX12_labelled 38 = .ok (.iload_n 2, 1) := by decide +kernel
theorem dX12_labelled_39 : decode cX12_labelled 39 = .ok (.iload_n 3, 1) := by decide +kernel
theorem dX12_labelled_40 : decode cX12_labelled 40 = .ok (.invokevirtual 734, 3) := by decide +kernel
theorem dX12_labelled_43 : decode cX12_labelled 43 = .ok (.ifCond .eq 11, 3) := by decide +kernel
theorem dX12_labelled_46 : decode cX12_labelled 46 = .ok (.aload_n 0, 1) := by decide +kernel
theorem dX12_labelled_47 : decode cX12_labelled 47 = .ok (.getfield 138, 3) := by decide +kernel
theorem dX12_labelled_50 : decode cX12_labelled 50 = .ok (.iload 4, 2) := by decide +kernel
theorem dX12_labelled_52 : decode cX12_labelled 52 = .ok (.iaload, 1) := by decide +kernel
theorem dX12_labelled_53 : decode cX12_labelled 53 = .ok (.ireturn, 1) := by decide +kernel
def rpX12_labelled : List Nat := [0, 1, 3, 5, 6, 9, 12, 13, 16, 18, 19, 20, 23, 24, 25, 28, 30, 31, 32, 35, 37, 38, 39, 40, 43, 46, 47, 50, 52, 53, 54, 60]
noncomputable def rcX12_labelled : List rz_B := [rz_cst 0, rz_istore 4, rz_iload 4, rz_aload 0, rz_getf (Nat.add (Nat.mul 256 14) 1) 54 rz_i, rz_icmpge 31, rz_aload 0, rz_getf (Nat.add (Nat.mul 256 14) 1) 58 rz_r, rz_iload 4, rz_iald, rz_iload 1, rz_icmpne 30, rz_aload 0, rz_aload 0, rz_getf (Nat.add (Nat.mul 256 14) 1) 55 rz_r, rz_iload 4, rz_iald, rz_aload 0, rz_getf (Nat.add (Nat.mul 256 14) 1) 56 rz_r, rz_iload 4, rz_iald, rz_iload 2, rz_iload 3, rz_callV 4 (Nat.add (Nat.mul 256 14) 1) rgX12_isSame, rz_ifeq 30, rz_aload 0, rz_getf (Nat.add (Nat.mul 256 14) 1) 57 rz_r, rz_iload 4, rz_iald, rz_iret, rz_no, rz_no]
noncomputable def rgX12_labelled : rz_L → rz_M → rz_Z → Bool := rz_go rcX12_labelled 5 1000000
def rrX12_labelled : Room := { frames := 1, cells := 0, slots := 0, locals := 26 }
theorem rmX12_labelled (l : Launch) {G : rz_G} (hG : rz_Gd G) (vs : rz_L) (M : rz_M) (Z : rz_Z) (hn : vs.length = 4) (h : rgX12_labelled vs M Z = true) : Met l yX12_labelled (Cond.code yX12_labelled cX12_labelled 5 (some .int) :: rz_TB) rrX12_labelled (rz_Pre G vs M) (rz_Qi G M.2 Z) 0 0 (fun q => rz_b G ≤ q) := by
  obtain ⟨D, tc, ad, b, xs, rfl⟩ := id hG
  refine rz_body (pcs := rpX12_labelled) (by decide) rfl (by rw [hn]; decide) h ?_
  intro p e R s m args below meth c hC
  obtain ⟨hx, hb, hml, hr, hlk, ho, hts, hKn, hRm⟩ := id hC
  obtain ⟨hK, hA, hSt⟩ := id hKn
  have hw : ∀ {i j : Nat} {ws : List Cond} {w : Cond}, rz_WW[i]? = some ws → ws[j]? = some w → w.before args s = true := fun h1 h2 => hts _ (List.mem_cons_of_mem _ (rz_mem h1 h2))
  refine rz_All_c (i := 0) (fun k J hk hJ => rz_iconst_ok (pc := 0) hx hb dX12_labelled_0 rfl hk) ?_
  refine rz_All_c (i := 1) (fun k J hk hJ => rz_istore_ok (pc := 1) hx hb dX12_labelled_1 hk) ?_
  refine rz_All_c (i := 2) (fun k J hk hJ => rz_iload_ok (pc := 3) hx hb dX12_labelled_3 hk) ?_
  refine rz_All_c (i := 3) (fun k J hk hJ => rz_aload_n_ok (pc := 5) hx hb dX12_labelled_5 rfl hk) ?_
  refine rz_All_c (i := 4) (fun k J hk hJ => rz_getf_ok (pc := 6) (own := RX12) (ref := "ThreadJudgeModel") (C := RX12) (T := TX12) (N := 257) (ci := 14) (index := 718) (f := 54) (t := 0) (Ts := Cond.code yX12_labelled cX12_labelled 5 (some .int) :: rz_TB) hx hb hts rz_in14 ho hK rfl (by decide) rfl (fun _ => rfl) (hw (i := 32) (j := 21) rfl rfl) (fun _ z => z) dX12_labelled_6 hk) ?_
  refine rz_All_c (i := 5) (fun k J hk hJ => rz_icmpge_ok (pc := 9) hx hb dX12_labelled_9 rfl hk (hJ 31)) ?_
  refine rz_All_c (i := 6) (fun k J hk hJ => rz_aload_n_ok (pc := 12) hx hb dX12_labelled_12 rfl hk) ?_
  refine rz_All_c (i := 7) (fun k J hk hJ => rz_getf_ok (pc := 13) (own := RX12) (ref := "ThreadJudgeModel") (C := RX12) (T := TX12) (N := 257) (ci := 14) (index := 141) (f := 58) (t := 2) (Ts := Cond.code yX12_labelled cX12_labelled 5 (some .int) :: rz_TB) hx hb hts rz_in14 ho hK rfl (by decide) rfl (fun _ => rfl) (hw (i := 40) (j := 11) rfl rfl) (fun _ z => z) dX12_labelled_13 hk) ?_
  refine rz_All_c (i := 8) (fun k J hk hJ => rz_iload_ok (pc := 16) hx hb dX12_labelled_16 hk) ?_
  refine rz_All_c (i := 9) (fun k J hk hJ => rz_iald_ok (pc := 18) hx hb hK dX12_labelled_18 hk) ?_
  refine rz_All_c (i := 10) (fun k J hk hJ => rz_iload_n_ok (pc := 19) hx hb dX12_labelled_19 rfl hk) ?_
  refine rz_All_c (i := 11) (fun k J hk hJ => rz_icmpne_ok (pc := 20) hx hb dX12_labelled_20 rfl hk (hJ 30)) ?_
  refine rz_All_c (i := 12) (fun k J hk hJ => rz_aload_n_ok (pc := 23) hx hb dX12_labelled_23 rfl hk) ?_
  refine rz_All_c (i := 13) (fun k J hk hJ => rz_aload_n_ok (pc := 24) hx hb dX12_labelled_24 rfl hk) ?_
  refine rz_All_c (i := 14) (fun k J hk hJ => rz_getf_ok (pc := 25) (own := RX12) (ref := "ThreadJudgeModel") (C := RX12) (T := TX12) (N := 257) (ci := 14) (index := 132) (f := 55) (t := 2) (Ts := Cond.code yX12_labelled cX12_labelled 5 (some .int) :: rz_TB) hx hb hts rz_in14 ho hK rfl (by decide) rfl (fun _ => rfl) (hw (i := 40) (j := 8) rfl rfl) (fun _ z => z) dX12_labelled_25 hk) ?_
  refine rz_All_c (i := 15) (fun k J hk hJ => rz_iload_ok (pc := 28) hx hb dX12_labelled_28 hk) ?_
  refine rz_All_c (i := 16) (fun k J hk hJ => rz_iald_ok (pc := 30) hx hb hK dX12_labelled_30 hk) ?_
  refine rz_All_c (i := 17) (fun k J hk hJ => rz_aload_n_ok (pc := 31) hx hb dX12_labelled_31 rfl hk) ?_
  refine rz_All_c (i := 18) (fun k J hk hJ => rz_getf_ok (pc := 32) (own := RX12) (ref := "ThreadJudgeModel") (C := RX12) (T := TX12) (N := 257) (ci := 14) (index := 135) (f := 56) (t := 2) (Ts := Cond.code yX12_labelled cX12_labelled 5 (some .int) :: rz_TB) hx hb hts rz_in14 ho hK rfl (by decide) rfl (fun _ => rfl) (hw (i := 40) (j := 9) rfl rfl) (fun _ z => z) dX12_labelled_32 hk) ?_
  refine rz_All_c (i := 19) (fun k J hk hJ => rz_iload_ok (pc := 35) hx hb dX12_labelled_35 hk) ?_
  refine rz_All_c (i := 20) (fun k J hk hJ => rz_iald_ok (pc := 37) hx hb hK dX12_labelled_37 hk) ?_
  refine rz_All_c (i := 21) (fun k J hk hJ => rz_iload_n_ok (pc := 38) hx hb dX12_labelled_38 rfl hk) ?_
  refine rz_All_c (i := 22) (fun k J hk hJ => rz_iload_n_ok (pc := 39) hx hb dX12_labelled_39 rfl hk) ?_
  refine rz_All_c (i := 23) (fun k J hk hJ => rz_callV_ok (pc := 40) (own := RX12) (C := RX12) (T0 := TX12) (N0 := 257) hC rfl (rmX12_isSame l hG) (rz_cwV 4 hC rz_good (rz_mem (i := 41) (j := 16) rfl rfl) (rz_mem (i := 41) (j := 17) rfl rfl) (rz_mem (i := 41) (j := 18) rfl rfl) (rz_mem (i := 32) (j := 8) rfl rfl) (rz_mem (i := 41) (j := 19) rfl rfl) ⟨rfl, by decide, by decide, by decide +kernel⟩ rfl rfl ⟨by decide, by decide⟩) rfl dX12_labelled_40 hk) ?_
  refine rz_All_c (i := 24) (fun k J hk hJ => rz_ifeq_ok (pc := 43) hx hb dX12_labelled_43 rfl hk (hJ 30)) ?_
  refine rz_All_c (i := 25) (fun k J hk hJ => rz_aload_n_ok (pc := 46) hx hb dX12_labelled_46 rfl hk) ?_
  refine rz_All_c (i := 26) (fun k J hk hJ => rz_getf_ok (pc := 47) (own := RX12) (ref := "ThreadJudgeModel") (C := RX12) (T := TX12) (N := 257) (ci := 14) (index := 138) (f := 57) (t := 2) (Ts := Cond.code yX12_labelled cX12_labelled 5 (some .int) :: rz_TB) hx hb hts rz_in14 ho hK rfl (by decide) rfl (fun _ => rfl) (hw (i := 40) (j := 10) rfl rfl) (fun _ z => z) dX12_labelled_47 hk) ?_
  refine rz_All_c (i := 27) (fun k J hk hJ => rz_iload_ok (pc := 50) hx hb dX12_labelled_50 hk) ?_
  refine rz_All_c (i := 28) (fun k J hk hJ => rz_iald_ok (pc := 52) hx hb hK dX12_labelled_52 hk) ?_
  refine rz_All_c (i := 29) (fun k J hk hJ => rz_iret_ok (pc := 53) hC dX12_labelled_53) ?_
  refine rz_All_c (i := 30) (fun k J hk hJ => rz_no_ok) ?_
  refine rz_All_c (i := 31) (fun k J hk hJ => rz_no_ok) ?_
  exact trivial
theorem dX12_isTorn_0 : decode cX12_isTorn 0 = .ok (.iconst 0, 1) := by decide +kernel
theorem dX12_isTorn_1 : decode cX12_isTorn 1 = .ok (.istore_n 2, 1) := by decide +kernel
theorem dX12_isTorn_2 : decode cX12_isTorn 2 = .ok (.iload_n 2, 1) := by decide +kernel
theorem dX12_isTorn_3 : decode cX12_isTorn 3 = .ok (.aload_n 0, 1) := by decide +kernel
theorem dX12_isTorn_4 : decode cX12_isTorn 4 = .ok (.getfield 693, 3) := by decide +kernel
theorem dX12_isTorn_7 : decode cX12_isTorn 7 = .ok (.if_icmp .ge 188, 3) := by decide +kernel
theorem dX12_isTorn_10 : decode cX12_isTorn 10 = .ok (.aload_n 0, 1) := by decide +kernel
theorem dX12_isTorn_11 : decode cX12_isTorn 11 = .ok (.getfield 78, 3) := by decide +kernel
theorem dX12_isTorn_14 : decode cX12_isTorn 14 = .ok (.iload_n 2, 1) := by decide +kernel
theorem dX12_isTorn_15 : decode cX12_isTorn 15 = .ok (.iaload, 1) := by decide +kernel
theorem dX12_isTorn_16 : decode cX12_isTorn 16 = .ok (.istore_n 3, 1) := by decide +kernel
theorem dX12_isTorn_17 : decode cX12_isTorn 17 = .ok (.iload_n 3, 1) := by decide +kernel
theorem dX12_isTorn_18 : decode cX12_isTorn 18 = .ok (.iload_n 1, 1) := by decide +kernel
theorem dX12_isTorn_19 : decode cX12_isTorn 19 = .ok (.if_icmp .eq 45, 3) := by decide +kernel
theorem dX12_isTorn_22 : decode cX12_isTorn 22 = .ok (.aload_n 0, 1) := by decide +kernel
theorem dX12_isTorn_23 : decode cX12_isTorn 23 = .ok (.getfield 171, 3) := by decide +kernel
theorem dX12_isTorn_26 : decode cX12_isTorn 26 = .ok (.bipush 43, 2) := by decide +kernel
theorem dX12_isTorn_28 : decode cX12_isTorn 28 = .ok (.iload_n 1, 1) := by decide +kernel
theorem dX12_isTorn_29 : decode cX12_isTorn 29 = .ok (.imul, 1) := by decide +kernel
theorem dX12_isTorn_30 : decode cX12_isTorn 30 = .ok (.iload_n 3, 1) := by decide +kernel
theorem dX12_isTorn_31 : decode cX12_isTorn 31 = .ok (.iadd, 1) := by decide +kernel
theorem dX12_isTorn_32 : decode cX12_isTorn 32 = .ok (.baload, 1) := by decide +kernel
theorem dX12_isTorn_33 : decode cX12_isTorn 33 = .ok (.ifCond .eq 31, 3) := by decide +kernel
theorem dX12_isTorn_36 : decode cX12_isTorn 36 = .ok (.aload_n 0, 1) := by decide +kernel
theorem dX12_isTorn_37 : decode cX12_isTorn 37 = .ok (.iload_n 2, 1) := by decide +kernel
theorem dX12_isTorn_38 : decode cX12_isTorn 38 = .ok (.invokevirtual 799, 3) := by decide +kernel
theorem dX12_isTorn_41 : decode cX12_isTorn 41 = .ok (.ifCond .ne 23, 3) := by decide +kernel
theorem dX12_isTorn_44 : decode cX12_isTorn 44 = .ok (.aload_n 0, 1) := by decide +kernel
theorem dX12_isTorn_45 : decode cX12_isTorn 45 = .ok (.getfield 13, 3) := by decide +kernel
theorem dX12_isTorn_48 : decode cX12_isTorn 48 = .ok (.aload_n 0, 1) := by decide +kernel
theorem dX12_isTorn_49 : decode cX12_isTorn 49 = .ok (.getfield 69, 3) := by decide +kernel
theorem dX12_isTorn_52 : decode cX12_isTorn 52 = .ok (.iload_n 2, 1) := by decide +kernel
theorem dX12_isTorn_53 : decode cX12_isTorn 53 = .ok (.iaload, 1) := by decide +kernel
theorem dX12_isTorn_54 : decode cX12_isTorn 54 = .ok (.iaload, 1) := by decide +kernel
theorem dX12_isTorn_55 : decode cX12_isTorn 55 = .ok (.bipush 60, 2) := by decide +kernel
theorem dX12_isTorn_57 : decode cX12_isTorn 57 = .ok (.if_icmp .eq 7, 3) := by decide +kernel
theorem dX12_isTorn_60 : decode cX12_isTorn 60 = .ok (.iconst 1, 1) := by decide +kernel
theorem dX12_isTorn_61 : decode cX12_isTorn 61 = .ok (.goto 4, 3) := by decide +kernel
theorem dX12_isTorn_64 : decode cX12_isTorn 64 = .ok (.iconst 0, 1) := by decide +kernel
theorem dX12_isTorn_65 : decode cX12_isTorn 65 = .ok (.istore 4, 2) := by decide +kernel
theorem dX12_isTorn_67 : decode cX12_isTorn 67 = .ok (.iconst 0, 1) := by decide +kernel
theorem dX12_isTorn_68 : decode cX12_isTorn 68 = .ok (.istore 5, 2) := by decide +kernel
theorem dX12_isTorn_70 : decode cX12_isTorn 70 = .ok (.iload 5, 2) := by decide +kernel
theorem dX12_isTorn_72 : decode cX12_isTorn 72 = .ok (.iload_n 2, 1) := by decide +kernel
theorem dX12_isTorn_73 : decode cX12_isTorn 73 = .ok (.if_icmp .ge 116, 3) := by decide +kernel
theorem dX12_isTorn_76 : decode cX12_isTorn 76 = .ok (.iload 4, 2) := by decide +kernel
theorem dX12_isTorn_78 : decode cX12_isTorn 78 = .ok (.ifCond .eq 111, 3) := by decide +kernel
theorem dX12_isTorn_81 : decode cX12_isTorn 81 = .ok (.aload_n 0, 1) := by decide +kernel
theorem dX12_isTorn_82 : decode cX12_isTorn 82 = .ok (.getfield 78, 3) := by decide +kernel
theorem dX12_isTorn_85 : decode cX12_isTorn 85 = .ok (.iload 5, 2) := by decide +kernel
theorem dX12_isTorn_87 : decode cX12_isTorn 87 = .ok (.iaload, 1) := by decide +kernel
theorem dX12_isTorn_88 : decode cX12_isTorn 88 = .ok (.istore 6, 2) := by decide +kernel
theorem dX12_isTorn_90 : decode cX12_isTorn 90 = .ok (.iload 6, 2) := by decide +kernel
theorem dX12_isTorn_92 : decode cX12_isTorn 92 = .ok (.iload_n 1, 1) := by decide +kernel
theorem dX12_isTorn_93 : decode cX12_isTorn 93 = .ok (.if_icmp .eq 54, 3) := by decide +kernel
theorem dX12_isTorn_96 : decode cX12_isTorn 96 = .ok (.iload 6, 2) := by decide +kernel
theorem dX12_isTorn_98 : decode cX12_isTorn 98 = .ok (.iload_n 3, 1) := by decide +kernel
theorem dX12_isTorn_99 : decode cX12_isTorn 99 = .ok (.if_icmp .eq 48, 3) := by decide +kernel
theorem dX12_isTorn_147 : decode cX12_isTorn 147 = .ok (.iconst 0, 1) := by decide +kernel
theorem dX12_isTorn_148 : decode cX12_isTorn 148 = .ok (.istore 7, 2) := by decide +kernel
theorem dX12_isTorn_150 : decode cX12_isTorn 150 = .ok (.iload 7, 2) := by decide +kernel
theorem dX12_isTorn_152 : decode cX12_isTorn 152 = .ok (.ifCond .eq 31, 3) := by decide +kernel
theorem dX12_isTorn_183 : decode cX12_isTorn 183 = .ok (.iinc 5 1, 3) := by decide +kernel
theorem dX12_isTorn_186 : decode cX12_isTorn 186 = .ok (.goto (-116), 3) := by decide +kernel
theorem dX12_isTorn_189 : decode cX12_isTorn 189 = .ok (.iinc 2 1, 3) := by decide +kernel
theorem dX12_isTorn_192 : decode cX12_isTorn 192 = .ok (.goto (-190), 3) := by decide +kernel
theorem dX12_isTorn_195 : decode cX12_isTorn 195 = .ok (.iconst 0, 1) := by decide +kernel
theorem dX12_isTorn_196 : decode cX12_isTorn 196 = .ok (.ireturn, 1) := by decide +kernel
def rpX12_isTorn : List Nat := [0, 1, 2, 3, 4, 7, 10, 11, 14, 15, 16, 17, 18, 19, 22, 23, 26, 28, 29, 30, 31, 32, 33, 36, 37, 38, 41, 44, 45, 48, 49, 52, 53, 54, 55, 57, 60, 61, 64, 65, 67, 68, 70, 72, 73, 76, 78, 81, 82, 85, 87, 88, 90, 92, 93, 96, 98, 99, 102, 147, 148, 150, 152, 155, 183, 186, 189, 192, 195, 196]
noncomputable def rcX12_isTorn : List rz_B := [rz_cst 0, rz_istore 2, rz_iload 2, rz_aload 0, rz_getf (Nat.add (Nat.mul 256 14) 1) 31 rz_i, rz_icmpge 68, rz_aload 0, rz_getf (Nat.add (Nat.mul 256 14) 1) 35 rz_r, rz_iload 2, rz_iald, rz_istore 3, rz_iload 3, rz_iload 1, rz_icmpeq 38, rz_aload 0, rz_getf (Nat.add (Nat.mul 256 14) 1) 73 rz_r, rz_cst 43, rz_iload 1, rz_imul, rz_iload 3, rz_iadd, rz_zald, rz_ifeq 38, rz_aload 0, rz_iload 2, rz_callV 1 (Nat.add (Nat.mul 256 14) 1) rgX12_isStatic, rz_ifne 38, rz_aload 0, rz_getf (Nat.add (Nat.mul 256 14) 1) 2 rz_r, rz_aload 0, rz_getf (Nat.add (Nat.mul 256 14) 1) 32 rz_r, rz_iload 2, rz_iald, rz_iald, rz_cst 60, rz_icmpeq 38, rz_cst 1, rz_goto 39, rz_cst 0, rz_istore 4, rz_cst 0, rz_istore 5, rz_iload 5, rz_iload 2, rz_icmpge 66, rz_iload 4, rz_ifeq 66, rz_aload 0, rz_getf (Nat.add (Nat.mul 256 14) 1) 35 rz_r, rz_iload 5, rz_iald, rz_istore 6, rz_iload 6, rz_iload 1, rz_icmpeq 59, rz_iload 6, rz_iload 3, rz_icmpeq 59, rz_no, rz_cst 0, rz_istore 7, rz_iload 7, rz_ifeq 64, rz_no, rz_iinc 5 1, rz_goto 42, rz_iinc 2 1, rz_goto 2, rz_cst 0, rz_zret]
noncomputable def rgX12_isTorn : rz_L → rz_M → rz_Z → Bool := rz_go rcX12_isTorn 8 1000000
def rrX12_isTorn : Room := { frames := 2, cells := 0, slots := 0, locals := 43 }
theorem rmX12_isTorn (l : Launch) {G : rz_G} (hG : rz_Gd G) (vs : rz_L) (M : rz_M) (Z : rz_Z) (hn : vs.length = 2) (h : rgX12_isTorn vs M Z = true) : Met l yX12_isTorn (Cond.code yX12_isTorn cX12_isTorn 8 (some .boolean) :: rz_TB) rrX12_isTorn (rz_Pre G vs M) (rz_Qi G M.2 Z) 0 0 (fun q => rz_b G ≤ q) := by
  obtain ⟨D, tc, ad, b, xs, rfl⟩ := id hG
  refine rz_body (pcs := rpX12_isTorn) (by decide) rfl (by rw [hn]; decide) h ?_
  intro p e R s m args below meth c hC
  obtain ⟨hx, hb, hml, hr, hlk, ho, hts, hKn, hRm⟩ := id hC
  obtain ⟨hK, hA, hSt⟩ := id hKn
  have hw : ∀ {i j : Nat} {ws : List Cond} {w : Cond}, rz_WW[i]? = some ws → ws[j]? = some w → w.before args s = true := fun h1 h2 => hts _ (List.mem_cons_of_mem _ (rz_mem h1 h2))
  refine rz_All_c (i := 0) (fun k J hk hJ => rz_iconst_ok (pc := 0) hx hb dX12_isTorn_0 rfl hk) ?_
  refine rz_All_c (i := 1) (fun k J hk hJ => rz_istore_n_ok (pc := 1) hx hb dX12_isTorn_1 rfl hk) ?_
  refine rz_All_c (i := 2) (fun k J hk hJ => rz_iload_n_ok (pc := 2) hx hb dX12_isTorn_2 rfl hk) ?_
  refine rz_All_c (i := 3) (fun k J hk hJ => rz_aload_n_ok (pc := 3) hx hb dX12_isTorn_3 rfl hk) ?_
  refine rz_All_c (i := 4) (fun k J hk hJ => rz_getf_ok (pc := 4) (own := RX12) (ref := "ThreadJudgeModel") (C := RX12) (T := TX12) (N := 257) (ci := 14) (index := 693) (f := 31) (t := 0) (Ts := Cond.code yX12_isTorn cX12_isTorn 8 (some .boolean) :: rz_TB) hx hb hts rz_in14 ho hK rfl (by decide) rfl (fun _ => rfl) (hw (i := 32) (j := 19) rfl rfl) (fun _ z => z) dX12_isTorn_4 hk) ?_
  refine rz_All_c (i := 5) (fun k J hk hJ => rz_icmpge_ok (pc := 7) hx hb dX12_isTorn_7 rfl hk (hJ 68)) ?_
  refine rz_All_c (i := 6) (fun k J hk hJ => rz_aload_n_ok (pc := 10) hx hb dX12_isTorn_10 rfl hk) ?_
  refine rz_All_c (i := 7) (fun k J hk hJ => rz_getf_ok (pc := 11) (own := RX12) (ref := "ThreadJudgeModel") (C := RX12) (T := TX12) (N := 257) (ci := 14) (index := 78) (f := 35) (t := 2) (Ts := Cond.code yX12_isTorn cX12_isTorn 8 (some .boolean) :: rz_TB) hx hb hts rz_in14 ho hK rfl (by decide) rfl (fun _ => rfl) (hw (i := 39) (j := 18) rfl rfl) (fun _ z => z) dX12_isTorn_11 hk) ?_
  refine rz_All_c (i := 8) (fun k J hk hJ => rz_iload_n_ok (pc := 14) hx hb dX12_isTorn_14 rfl hk) ?_
  refine rz_All_c (i := 9) (fun k J hk hJ => rz_iald_ok (pc := 15) hx hb hK dX12_isTorn_15 hk) ?_
  refine rz_All_c (i := 10) (fun k J hk hJ => rz_istore_n_ok (pc := 16) hx hb dX12_isTorn_16 rfl hk) ?_
  refine rz_All_c (i := 11) (fun k J hk hJ => rz_iload_n_ok (pc := 17) hx hb dX12_isTorn_17 rfl hk) ?_
  refine rz_All_c (i := 12) (fun k J hk hJ => rz_iload_n_ok (pc := 18) hx hb dX12_isTorn_18 rfl hk) ?_
  refine rz_All_c (i := 13) (fun k J hk hJ => rz_icmpeq_ok (pc := 19) hx hb dX12_isTorn_19 rfl hk (hJ 38)) ?_
  refine rz_All_c (i := 14) (fun k J hk hJ => rz_aload_n_ok (pc := 22) hx hb dX12_isTorn_22 rfl hk) ?_
  refine rz_All_c (i := 15) (fun k J hk hJ => rz_getf_ok (pc := 23) (own := RX12) (ref := "ThreadJudgeModel") (C := RX12) (T := TX12) (N := 257) (ci := 14) (index := 171) (f := 73) (t := 2) (Ts := Cond.code yX12_isTorn cX12_isTorn 8 (some .boolean) :: rz_TB) hx hb hts rz_in14 ho hK rfl (by decide) rfl (fun _ => rfl) (hw (i := 43) (j := 10) rfl rfl) (fun _ z => z) dX12_isTorn_23 hk) ?_
  refine rz_All_c (i := 16) (fun k J hk hJ => rz_bipush_ok (pc := 26) hx hb dX12_isTorn_26 (by decide) hk) ?_
  refine rz_All_c (i := 17) (fun k J hk hJ => rz_iload_n_ok (pc := 28) hx hb dX12_isTorn_28 rfl hk) ?_
  refine rz_All_c (i := 18) (fun k J hk hJ => rz_imul_ok (pc := 29) hx hb dX12_isTorn_29 hk) ?_
  refine rz_All_c (i := 19) (fun k J hk hJ => rz_iload_n_ok (pc := 30) hx hb dX12_isTorn_30 rfl hk) ?_
  refine rz_All_c (i := 20) (fun k J hk hJ => rz_iadd_ok (pc := 31) hx hb dX12_isTorn_31 hk) ?_
  refine rz_All_c (i := 21) (fun k J hk hJ => rz_zald_ok (pc := 32) hx hb hK dX12_isTorn_32 hk) ?_
  refine rz_All_c (i := 22) (fun k J hk hJ => rz_ifeq_ok (pc := 33) hx hb dX12_isTorn_33 rfl hk (hJ 38)) ?_
  refine rz_All_c (i := 23) (fun k J hk hJ => rz_aload_n_ok (pc := 36) hx hb dX12_isTorn_36 rfl hk) ?_
  refine rz_All_c (i := 24) (fun k J hk hJ => rz_iload_n_ok (pc := 37) hx hb dX12_isTorn_37 rfl hk) ?_
  refine rz_All_c (i := 25) (fun k J hk hJ => rz_callV_ok (pc := 38) (own := RX12) (C := RX12) (T0 := TX12) (N0 := 257) hC rfl (rmX12_isStatic l hG) (rz_cwV 1 hC rz_good (rz_mem (i := 45) (j := 0) rfl rfl) (rz_mem (i := 45) (j := 1) rfl rfl) (rz_mem (i := 45) (j := 2) rfl rfl) (rz_mem (i := 32) (j := 8) rfl rfl) (rz_mem (i := 45) (j := 3) rfl rfl) ⟨rfl, by decide, by decide, by decide +kernel⟩ rfl rfl ⟨by decide, by decide⟩) rfl dX12_isTorn_38 hk) ?_
  refine rz_All_c (i := 26) (fun k J hk hJ => rz_ifne_ok (pc := 41) hx hb dX12_isTorn_41 rfl hk (hJ 38)) ?_
  refine rz_All_c (i := 27) (fun k J hk hJ => rz_aload_n_ok (pc := 44) hx hb dX12_isTorn_44 rfl hk) ?_
  refine rz_All_c (i := 28) (fun k J hk hJ => rz_getf_ok (pc := 45) (own := RX12) (ref := "ThreadJudgeModel") (C := RX12) (T := TX12) (N := 257) (ci := 14) (index := 13) (f := 2) (t := 2) (Ts := Cond.code yX12_isTorn cX12_isTorn 8 (some .boolean) :: rz_TB) hx hb hts rz_in14 ho hK rfl (by decide) rfl (fun _ => rfl) (hw (i := 32) (j := 13) rfl rfl) (fun _ z => z) dX12_isTorn_45 hk) ?_
  refine rz_All_c (i := 29) (fun k J hk hJ => rz_aload_n_ok (pc := 48) hx hb dX12_isTorn_48 rfl hk) ?_
  refine rz_All_c (i := 30) (fun k J hk hJ => rz_getf_ok (pc := 49) (own := RX12) (ref := "ThreadJudgeModel") (C := RX12) (T := TX12) (N := 257) (ci := 14) (index := 69) (f := 32) (t := 2) (Ts := Cond.code yX12_isTorn cX12_isTorn 8 (some .boolean) :: rz_TB) hx hb hts rz_in14 ho hK rfl (by decide) rfl (fun _ => rfl) (hw (i := 39) (j := 15) rfl rfl) (fun _ z => z) dX12_isTorn_49 hk) ?_
  refine rz_All_c (i := 31) (fun k J hk hJ => rz_iload_n_ok (pc := 52) hx hb dX12_isTorn_52 rfl hk) ?_
  refine rz_All_c (i := 32) (fun k J hk hJ => rz_iald_ok (pc := 53) hx hb hK dX12_isTorn_53 hk) ?_
  refine rz_All_c (i := 33) (fun k J hk hJ => rz_iald_ok (pc := 54) hx hb hK dX12_isTorn_54 hk) ?_
  refine rz_All_c (i := 34) (fun k J hk hJ => rz_bipush_ok (pc := 55) hx hb dX12_isTorn_55 (by decide) hk) ?_
  refine rz_All_c (i := 35) (fun k J hk hJ => rz_icmpeq_ok (pc := 57) hx hb dX12_isTorn_57 rfl hk (hJ 38)) ?_
  refine rz_All_c (i := 36) (fun k J hk hJ => rz_iconst_ok (pc := 60) hx hb dX12_isTorn_60 rfl hk) ?_
  refine rz_All_c (i := 37) (fun k J hk hJ => rz_goto_ok (pc := 61) hx hb dX12_isTorn_61 rfl (hJ 39)) ?_
  refine rz_All_c (i := 38) (fun k J hk hJ => rz_iconst_ok (pc := 64) hx hb dX12_isTorn_64 rfl hk) ?_
  refine rz_All_c (i := 39) (fun k J hk hJ => rz_istore_ok (pc := 65) hx hb dX12_isTorn_65 hk) ?_
  refine rz_All_c (i := 40) (fun k J hk hJ => rz_iconst_ok (pc := 67) hx hb dX12_isTorn_67 rfl hk) ?_
  refine rz_All_c (i := 41) (fun k J hk hJ => rz_istore_ok (pc := 68) hx hb dX12_isTorn_68 hk) ?_
  refine rz_All_c (i := 42) (fun k J hk hJ => rz_iload_ok (pc := 70) hx hb dX12_isTorn_70 hk) ?_
  refine rz_All_c (i := 43) (fun k J hk hJ => rz_iload_n_ok (pc := 72) hx hb dX12_isTorn_72 rfl hk) ?_
  refine rz_All_c (i := 44) (fun k J hk hJ => rz_icmpge_ok (pc := 73) hx hb dX12_isTorn_73 rfl hk (hJ 66)) ?_
  refine rz_All_c (i := 45) (fun k J hk hJ => rz_iload_ok (pc := 76) hx hb dX12_isTorn_76 hk) ?_
  refine rz_All_c (i := 46) (fun k J hk hJ => rz_ifeq_ok (pc := 78) hx hb dX12_isTorn_78 rfl hk (hJ 66)) ?_
  refine rz_All_c (i := 47) (fun k J hk hJ => rz_aload_n_ok (pc := 81) hx hb dX12_isTorn_81 rfl hk) ?_
  refine rz_All_c (i := 48) (fun k J hk hJ => rz_getf_ok (pc := 82) (own := RX12) (ref := "ThreadJudgeModel") (C := RX12) (T := TX12) (N := 257) (ci := 14) (index := 78) (f := 35) (t := 2) (Ts := Cond.code yX12_isTorn cX12_isTorn 8 (some .boolean) :: rz_TB) hx hb hts rz_in14 ho hK rfl (by decide) rfl (fun _ => rfl) (hw (i := 39) (j := 18) rfl rfl) (fun _ z => z) dX12_isTorn_82 hk) ?_
  refine rz_All_c (i := 49) (fun k J hk hJ => rz_iload_ok (pc := 85) hx hb dX12_isTorn_85 hk) ?_
  refine rz_All_c (i := 50) (fun k J hk hJ => rz_iald_ok (pc := 87) hx hb hK dX12_isTorn_87 hk) ?_
  refine rz_All_c (i := 51) (fun k J hk hJ => rz_istore_ok (pc := 88) hx hb dX12_isTorn_88 hk) ?_
  refine rz_All_c (i := 52) (fun k J hk hJ => rz_iload_ok (pc := 90) hx hb dX12_isTorn_90 hk) ?_
  refine rz_All_c (i := 53) (fun k J hk hJ => rz_iload_n_ok (pc := 92) hx hb dX12_isTorn_92 rfl hk) ?_
  refine rz_All_c (i := 54) (fun k J hk hJ => rz_icmpeq_ok (pc := 93) hx hb dX12_isTorn_93 rfl hk (hJ 59)) ?_
  refine rz_All_c (i := 55) (fun k J hk hJ => rz_iload_ok (pc := 96) hx hb dX12_isTorn_96 hk) ?_
  refine rz_All_c (i := 56) (fun k J hk hJ => rz_iload_n_ok (pc := 98) hx hb dX12_isTorn_98 rfl hk) ?_
  refine rz_All_c (i := 57) (fun k J hk hJ => rz_icmpeq_ok (pc := 99) hx hb dX12_isTorn_99 rfl hk (hJ 59)) ?_
  refine rz_All_c (i := 58) (fun k J hk hJ => rz_no_ok) ?_
  refine rz_All_c (i := 59) (fun k J hk hJ => rz_iconst_ok (pc := 147) hx hb dX12_isTorn_147 rfl hk) ?_
  refine rz_All_c (i := 60) (fun k J hk hJ => rz_istore_ok (pc := 148) hx hb dX12_isTorn_148 hk) ?_
  refine rz_All_c (i := 61) (fun k J hk hJ => rz_iload_ok (pc := 150) hx hb dX12_isTorn_150 hk) ?_
  refine rz_All_c (i := 62) (fun k J hk hJ => rz_ifeq_ok (pc := 152) hx hb dX12_isTorn_152 rfl hk (hJ 64)) ?_
  refine rz_All_c (i := 63) (fun k J hk hJ => rz_no_ok) ?_
  refine rz_All_c (i := 64) (fun k J hk hJ => rz_iinc_ok (pc := 183) hx hb dX12_isTorn_183 (by decide) hk) ?_
  refine rz_All_c (i := 65) (fun k J hk hJ => rz_goto_ok (pc := 186) hx hb dX12_isTorn_186 rfl (hJ 42)) ?_
  refine rz_All_c (i := 66) (fun k J hk hJ => rz_iinc_ok (pc := 189) hx hb dX12_isTorn_189 (by decide) hk) ?_
  refine rz_All_c (i := 67) (fun k J hk hJ => rz_goto_ok (pc := 192) hx hb dX12_isTorn_192 rfl (hJ 2)) ?_
  refine rz_All_c (i := 68) (fun k J hk hJ => rz_iconst_ok (pc := 195) hx hb dX12_isTorn_195 rfl hk) ?_
  refine rz_All_c (i := 69) (fun k J hk hJ => rz_zret_ok (pc := 196) hC dX12_isTorn_196) ?_
  exact trivial
theorem dX12_isPlain_0 : decode cX12_isPlain 0 = .ok (.iload_n 0, 1) := by decide +kernel
theorem dX12_isPlain_1 : decode cX12_isPlain 1 = .ok (.iconst (-1), 1) := by decide +kernel
theorem dX12_isPlain_2 : decode cX12_isPlain 2 = .ok (.if_icmp .eq 20, 3) := by decide +kernel
theorem dX12_isPlain_5 : decode cX12_isPlain 5 = .ok (.iload_n 0, 1) := by decide +kernel
theorem dX12_isPlain_6 : decode cX12_isPlain 6 = .ok (.bipush 101, 2) := by decide +kernel
theorem dX12_isPlain_8 : decode cX12_isPlain 8 = .ok (.if_icmp .eq 14, 3) := by decide +kernel
theorem dX12_isPlain_11 : decode cX12_isPlain 11 = .ok (.iload_n 0, 1) := by decide +kernel
theorem dX12_isPlain_12 : decode cX12_isPlain 12 = .ok (.sipush 301, 3) := by decide +kernel
theorem dX12_isPlain_15 : decode cX12_isPlain 15 = .ok (.if_icmp .eq 7, 3) := by decide +kernel
theorem dX12_isPlain_18 : decode cX12_isPlain 18 = .ok (.iconst 1, 1) := by decide +kernel
theorem dX12_isPlain_19 : decode cX12_isPlain 19 = .ok (.goto 4, 3) := by decide +kernel
theorem dX12_isPlain_23 : decode cX12_isPlain 23 = .ok (.ireturn, 1) := by decide +kernel
def rpX12_isPlain : List Nat := [0, 1, 2, 5, 6, 8, 11, 12, 15, 18, 19, 22, 23]
noncomputable def rcX12_isPlain : List rz_B := [rz_iload 0, rz_cst 4294967295, rz_icmpeq 11, rz_iload 0, rz_cst 101, rz_icmpeq 11, rz_iload 0, rz_cst 301, rz_icmpeq 11, rz_cst 1, rz_goto 12, rz_no, rz_zret]
noncomputable def rgX12_isPlain : rz_L → rz_M → rz_Z → Bool := rz_go rcX12_isPlain 1 1000000
def rrX12_isPlain : Room := { frames := 0, cells := 0, slots := 0, locals := 0 }
theorem rmX12_isPlain (l : Launch) {G : rz_G} (hG : rz_Gd G) (vs : rz_L) (M : rz_M) (Z : rz_Z) (hn : vs.length = 1) (h : rgX12_isPlain vs M Z = true) : Met l yX12_isPlain (Cond.code yX12_isPlain cX12_isPlain 1 (some .boolean) :: rz_TB) rrX12_isPlain (rz_Pre G vs M) (rz_Qi G M.2 Z) 0 0 (fun q => rz_b G ≤ q) := by
  obtain ⟨D, tc, ad, b, xs, rfl⟩ := id hG
  refine rz_body (pcs := rpX12_isPlain) (by decide) rfl (by rw [hn]; decide) h ?_
  intro p e R s m args below meth c hC
  obtain ⟨hx, hb, hml, hr, hlk, ho, hts, hKn, hRm⟩ := id hC
  obtain ⟨hK, hA, hSt⟩ := id hKn
  have hw : ∀ {i j : Nat} {ws : List Cond} {w : Cond}, rz_WW[i]? = some ws → ws[j]? = some w → w.before args s = true := fun h1 h2 => hts _ (List.mem_cons_of_mem _ (rz_mem h1 h2))
  refine rz_All_c (i := 0) (fun k J hk hJ => rz_iload_n_ok (pc := 0) hx hb dX12_isPlain_0 rfl hk) ?_
  refine rz_All_c (i := 1) (fun k J hk hJ => rz_iconst_ok (pc := 1) hx hb dX12_isPlain_1 rfl hk) ?_
  refine rz_All_c (i := 2) (fun k J hk hJ => rz_icmpeq_ok (pc := 2) hx hb dX12_isPlain_2 rfl hk (hJ 11)) ?_
  refine rz_All_c (i := 3) (fun k J hk hJ => rz_iload_n_ok (pc := 5) hx hb dX12_isPlain_5 rfl hk) ?_
  refine rz_All_c (i := 4) (fun k J hk hJ => rz_bipush_ok (pc := 6) hx hb dX12_isPlain_6 (by decide) hk) ?_
  refine rz_All_c (i := 5) (fun k J hk hJ => rz_icmpeq_ok (pc := 8) hx hb dX12_isPlain_8 rfl hk (hJ 11)) ?_
  refine rz_All_c (i := 6) (fun k J hk hJ => rz_iload_n_ok (pc := 11) hx hb dX12_isPlain_11 rfl hk) ?_
  refine rz_All_c (i := 7) (fun k J hk hJ => rz_sipush_ok (pc := 12) hx hb dX12_isPlain_12 (by decide) hk) ?_
  refine rz_All_c (i := 8) (fun k J hk hJ => rz_icmpeq_ok (pc := 15) hx hb dX12_isPlain_15 rfl hk (hJ 11)) ?_
  refine rz_All_c (i := 9) (fun k J hk hJ => rz_iconst_ok (pc := 18) hx hb dX12_isPlain_18 rfl hk) ?_
  refine rz_All_c (i := 10) (fun k J hk hJ => rz_goto_ok (pc := 19) hx hb dX12_isPlain_19 rfl (hJ 12)) ?_
  refine rz_All_c (i := 11) (fun k J hk hJ => rz_no_ok) ?_
  refine rz_All_c (i := 12) (fun k J hk hJ => rz_zret_ok (pc := 23) hC dX12_isPlain_23) ?_
  exact trivial
theorem dX12_isFigure_0 : decode cX12_isFigure 0 = .ok (.iload_n 1, 1) := by decide +kernel
theorem dX12_isFigure_1 : decode cX12_isFigure 1 = .ok (.bipush 48, 2) := by decide +kernel
theorem dX12_isFigure_3 : decode cX12_isFigure 3 = .ok (.if_icmp .lt 13, 3) := by decide +kernel
theorem dX12_isFigure_6 : decode cX12_isFigure 6 = .ok (.iload_n 1, 1) := by decide +kernel
theorem dX12_isFigure_7 : decode cX12_isFigure 7 = .ok (.bipush 57, 2) := by decide +kernel
theorem dX12_isFigure_9 : decode cX12_isFigure 9 = .ok (.if_icmp .gt 7, 3) := by decide +kernel
theorem dX12_isFigure_12 : decode cX12_isFigure 12 = .ok (.iconst 1, 1) := by decide +kernel
theorem dX12_isFigure_13 : decode cX12_isFigure 13 = .ok (.goto 4, 3) := by decide +kernel
theorem dX12_isFigure_16 : decode cX12_isFigure 16 = .ok (.iconst 0, 1) := by decide +kernel
theorem dX12_isFigure_17 : decode cX12_isFigure 17 = .ok (.ireturn, 1) := by decide +kernel
def rpX12_isFigure : List Nat := [0, 1, 3, 6, 7, 9, 12, 13, 16, 17]
noncomputable def rcX12_isFigure : List rz_B := [rz_iload 1, rz_cst 48, rz_icmplt 8, rz_iload 1, rz_cst 57, rz_icmpgt 8, rz_cst 1, rz_goto 9, rz_cst 0, rz_zret]
noncomputable def rgX12_isFigure : rz_L → rz_M → rz_Z → Bool := rz_go rcX12_isFigure 2 1000000
def rrX12_isFigure : Room := { frames := 0, cells := 0, slots := 0, locals := 0 }
theorem rmX12_isFigure (l : Launch) {G : rz_G} (hG : rz_Gd G) (vs : rz_L) (M : rz_M) (Z : rz_Z) (hn : vs.length = 2) (h : rgX12_isFigure vs M Z = true) : Met l yX12_isFigure (Cond.code yX12_isFigure cX12_isFigure 2 (some .boolean) :: rz_TB) rrX12_isFigure (rz_Pre G vs M) (rz_Qi G M.2 Z) 0 0 (fun q => rz_b G ≤ q) := by
  obtain ⟨D, tc, ad, b, xs, rfl⟩ := id hG
  refine rz_body (pcs := rpX12_isFigure) (by decide) rfl (by rw [hn]; decide) h ?_
  intro p e R s m args below meth c hC
  obtain ⟨hx, hb, hml, hr, hlk, ho, hts, hKn, hRm⟩ := id hC
  obtain ⟨hK, hA, hSt⟩ := id hKn
  have hw : ∀ {i j : Nat} {ws : List Cond} {w : Cond}, rz_WW[i]? = some ws → ws[j]? = some w → w.before args s = true := fun h1 h2 => hts _ (List.mem_cons_of_mem _ (rz_mem h1 h2))
  refine rz_All_c (i := 0) (fun k J hk hJ => rz_iload_n_ok (pc := 0) hx hb dX12_isFigure_0 rfl hk) ?_
  refine rz_All_c (i := 1) (fun k J hk hJ => rz_bipush_ok (pc := 1) hx hb dX12_isFigure_1 (by decide) hk) ?_
  refine rz_All_c (i := 2) (fun k J hk hJ => rz_icmplt_ok (pc := 3) hx hb dX12_isFigure_3 rfl hk (hJ 8)) ?_
  refine rz_All_c (i := 3) (fun k J hk hJ => rz_iload_n_ok (pc := 6) hx hb dX12_isFigure_6 rfl hk) ?_
  refine rz_All_c (i := 4) (fun k J hk hJ => rz_bipush_ok (pc := 7) hx hb dX12_isFigure_7 (by decide) hk) ?_
  refine rz_All_c (i := 5) (fun k J hk hJ => rz_icmpgt_ok (pc := 9) hx hb dX12_isFigure_9 rfl hk (hJ 8)) ?_
  refine rz_All_c (i := 6) (fun k J hk hJ => rz_iconst_ok (pc := 12) hx hb dX12_isFigure_12 rfl hk) ?_
  refine rz_All_c (i := 7) (fun k J hk hJ => rz_goto_ok (pc := 13) hx hb dX12_isFigure_13 rfl (hJ 9)) ?_
  refine rz_All_c (i := 8) (fun k J hk hJ => rz_iconst_ok (pc := 16) hx hb dX12_isFigure_16 rfl hk) ?_
  refine rz_All_c (i := 9) (fun k J hk hJ => rz_zret_ok (pc := 17) hC dX12_isFigure_17) ?_
  exact trivial
theorem dX12_isLetter_0 : decode cX12_isLetter 0 = .ok (.iload_n 1, 1) := by decide +kernel
theorem dX12_isLetter_1 : decode cX12_isLetter 1 = .ok (.bipush 97, 2) := by decide +kernel
theorem dX12_isLetter_3 : decode cX12_isLetter 3 = .ok (.if_icmp .lt 9, 3) := by decide +kernel
theorem dX12_isLetter_6 : decode cX12_isLetter 6 = .ok (.iload_n 1, 1) := by decide +kernel
theorem dX12_isLetter_7 : decode cX12_isLetter 7 = .ok (.bipush 122, 2) := by decide +kernel
theorem dX12_isLetter_9 : decode cX12_isLetter 9 = .ok (.if_icmp .le 15, 3) := by decide +kernel
theorem dX12_isLetter_12 : decode cX12_isLetter 12 = .ok (.iload_n 1, 1) := by decide +kernel
theorem dX12_isLetter_13 : decode cX12_isLetter 13 = .ok (.bipush 65, 2) := by decide +kernel
theorem dX12_isLetter_15 : decode cX12_isLetter 15 = .ok (.if_icmp .lt 13, 3) := by decide +kernel
theorem dX12_isLetter_18 : decode cX12_isLetter 18 = .ok (.iload_n 1, 1) := by decide +kernel
theorem dX12_isLetter_19 : decode cX12_isLetter 19 = .ok (.bipush 90, 2) := by decide +kernel
theorem dX12_isLetter_21 : decode cX12_isLetter 21 = .ok (.if_icmp .gt 7, 3) := by decide +kernel
theorem dX12_isLetter_24 : decode cX12_isLetter 24 = .ok (.iconst 1, 1) := by decide +kernel
theorem dX12_isLetter_25 : decode cX12_isLetter 25 = .ok (.goto 4, 3) := by decide +kernel
theorem dX12_isLetter_28 : decode cX12_isLetter 28 = .ok (.iconst 0, 1) := by decide +kernel
theorem dX12_isLetter_29 : decode cX12_isLetter 29 = .ok (.ireturn, 1) := by decide +kernel
def rpX12_isLetter : List Nat := [0, 1, 3, 6, 7, 9, 12, 13, 15, 18, 19, 21, 24, 25, 28, 29]
noncomputable def rcX12_isLetter : List rz_B := [rz_iload 1, rz_cst 97, rz_icmplt 6, rz_iload 1, rz_cst 122, rz_icmple 12, rz_iload 1, rz_cst 65, rz_icmplt 14, rz_iload 1, rz_cst 90, rz_icmpgt 14, rz_cst 1, rz_goto 15, rz_cst 0, rz_zret]
noncomputable def rgX12_isLetter : rz_L → rz_M → rz_Z → Bool := rz_go rcX12_isLetter 2 1000000
def rrX12_isLetter : Room := { frames := 0, cells := 0, slots := 0, locals := 0 }
theorem rmX12_isLetter (l : Launch) {G : rz_G} (hG : rz_Gd G) (vs : rz_L) (M : rz_M) (Z : rz_Z) (hn : vs.length = 2) (h : rgX12_isLetter vs M Z = true) : Met l yX12_isLetter (Cond.code yX12_isLetter cX12_isLetter 2 (some .boolean) :: rz_TB) rrX12_isLetter (rz_Pre G vs M) (rz_Qi G M.2 Z) 0 0 (fun q => rz_b G ≤ q) := by
  obtain ⟨D, tc, ad, b, xs, rfl⟩ := id hG
  refine rz_body (pcs := rpX12_isLetter) (by decide) rfl (by rw [hn]; decide) h ?_
  intro p e R s m args below meth c hC
  obtain ⟨hx, hb, hml, hr, hlk, ho, hts, hKn, hRm⟩ := id hC
  obtain ⟨hK, hA, hSt⟩ := id hKn
  have hw : ∀ {i j : Nat} {ws : List Cond} {w : Cond}, rz_WW[i]? = some ws → ws[j]? = some w → w.before args s = true := fun h1 h2 => hts _ (List.mem_cons_of_mem _ (rz_mem h1 h2))
  refine rz_All_c (i := 0) (fun k J hk hJ => rz_iload_n_ok (pc := 0) hx hb dX12_isLetter_0 rfl hk) ?_
  refine rz_All_c (i := 1) (fun k J hk hJ => rz_bipush_ok (pc := 1) hx hb dX12_isLetter_1 (by decide) hk) ?_
  refine rz_All_c (i := 2) (fun k J hk hJ => rz_icmplt_ok (pc := 3) hx hb dX12_isLetter_3 rfl hk (hJ 6)) ?_
  refine rz_All_c (i := 3) (fun k J hk hJ => rz_iload_n_ok (pc := 6) hx hb dX12_isLetter_6 rfl hk) ?_
  refine rz_All_c (i := 4) (fun k J hk hJ => rz_bipush_ok (pc := 7) hx hb dX12_isLetter_7 (by decide) hk) ?_
  refine rz_All_c (i := 5) (fun k J hk hJ => rz_icmple_ok (pc := 9) hx hb dX12_isLetter_9 rfl hk (hJ 12)) ?_
  refine rz_All_c (i := 6) (fun k J hk hJ => rz_iload_n_ok (pc := 12) hx hb dX12_isLetter_12 rfl hk) ?_
  refine rz_All_c (i := 7) (fun k J hk hJ => rz_bipush_ok (pc := 13) hx hb dX12_isLetter_13 (by decide) hk) ?_
  refine rz_All_c (i := 8) (fun k J hk hJ => rz_icmplt_ok (pc := 15) hx hb dX12_isLetter_15 rfl hk (hJ 14)) ?_
  refine rz_All_c (i := 9) (fun k J hk hJ => rz_iload_n_ok (pc := 18) hx hb dX12_isLetter_18 rfl hk) ?_
  refine rz_All_c (i := 10) (fun k J hk hJ => rz_bipush_ok (pc := 19) hx hb dX12_isLetter_19 (by decide) hk) ?_
  refine rz_All_c (i := 11) (fun k J hk hJ => rz_icmpgt_ok (pc := 21) hx hb dX12_isLetter_21 rfl hk (hJ 14)) ?_
  refine rz_All_c (i := 12) (fun k J hk hJ => rz_iconst_ok (pc := 24) hx hb dX12_isLetter_24 rfl hk) ?_
  refine rz_All_c (i := 13) (fun k J hk hJ => rz_goto_ok (pc := 25) hx hb dX12_isLetter_25 rfl (hJ 15)) ?_
  refine rz_All_c (i := 14) (fun k J hk hJ => rz_iconst_ok (pc := 28) hx hb dX12_isLetter_28 rfl hk) ?_
  refine rz_All_c (i := 15) (fun k J hk hJ => rz_zret_ok (pc := 29) hC dX12_isLetter_29) ?_
  exact trivial
