/-! Methods: handlers, facts, contracts. -/
theorem dX12_next_0 : decode cX12_next 0 = .ok (.aload_n 0, 1) := by decide +kernel
theorem dX12_next_1 : decode cX12_next 1 = .ok (.invokevirtual 614, 3) := by decide +kernel
theorem dX12_next_4 : decode cX12_next 4 = .ok (.aload_n 0, 1) := by decide +kernel
theorem dX12_next_5 : decode cX12_next 5 = .ok (.aload_n 0, 1) := by decide +kernel
theorem dX12_next_6 : decode cX12_next 6 = .ok (.getfield 581, 3) := by decide +kernel
theorem dX12_next_9 : decode cX12_next 9 = .ok (.putfield 591, 3) := by decide +kernel
theorem dX12_next_12 : decode cX12_next 12 = .ok (.aload_n 0, 1) := by decide +kernel
theorem dX12_next_13 : decode cX12_next 13 = .ok (.aload_n 0, 1) := by decide +kernel
theorem dX12_next_14 : decode cX12_next 14 = .ok (.getfield 581, 3) := by decide +kernel
theorem dX12_next_17 : decode cX12_next 17 = .ok (.invokevirtual 584, 3) := by decide +kernel
theorem dX12_next_20 : decode cX12_next 20 = .ok (.istore_n 1, 1) := by decide +kernel
theorem dX12_next_21 : decode cX12_next 21 = .ok (.aload_n 0, 1) := by decide +kernel
theorem dX12_next_22 : decode cX12_next 22 = .ok (.getfield 581, 3) := by decide +kernel
theorem dX12_next_25 : decode cX12_next 25 = .ok (.aload_n 0, 1) := by decide +kernel
theorem dX12_next_26 : decode cX12_next 26 = .ok (.getfield 608, 3) := by decide +kernel
theorem dX12_next_29 : decode cX12_next 29 = .ok (.if_icmp .ne 29, 3) := by decide +kernel
theorem dX12_next_32 : decode cX12_next 32 = .ok (.aload_n 0, 1) := by decide +kernel
theorem dX12_next_33 : decode cX12_next 33 = .ok (.iload_n 1, 1) := by decide +kernel
theorem dX12_next_34 : decode cX12_next 34 = .ok (.invokevirtual 617, 3) := by decide +kernel
theorem dX12_next_37 : decode cX12_next 37 = .ok (.ifCond .ne 17, 3) := by decide +kernel
theorem dX12_next_40 : decode cX12_next 40 = .ok (.aload_n 0, 1) := by decide +kernel
theorem dX12_next_41 : decode cX12_next 41 = .ok (.iload_n 1, 1) := by decide +kernel
theorem dX12_next_42 : decode cX12_next 42 = .ok (.invokevirtual 594, 3) := by decide +kernel
theorem dX12_next_45 : decode cX12_next 45 = .ok (.ifCond .ne 9, 3) := by decide +kernel
theorem dX12_next_48 : decode cX12_next 48 = .ok (.iload_n 1, 1) := by decide +kernel
theorem dX12_next_49 : decode cX12_next 49 = .ok (.bipush 95, 2) := by decide +kernel
theorem dX12_next_51 : decode cX12_next 51 = .ok (.if_icmp .ne 7, 3) := by decide +kernel
theorem dX12_next_58 : decode cX12_next 58 = .ok (.iconst 0, 1) := by decide +kernel
theorem dX12_next_59 : decode cX12_next 59 = .ok (.istore_n 2, 1) := by decide +kernel
theorem dX12_next_60 : decode cX12_next 60 = .ok (.iload_n 1, 1) := by decide +kernel
theorem dX12_next_61 : decode cX12_next 61 = .ok (.ifCond .ge 11, 3) := by decide +kernel
theorem dX12_next_64 : decode cX12_next 64 = .ok (.aload_n 0, 1) := by decide +kernel
theorem dX12_next_65 : decode cX12_next 65 = .ok (.iconst 0, 1) := by decide +kernel
theorem dX12_next_66 : decode cX12_next 66 = .ok (.putfield 588, 3) := by decide +kernel
theorem dX12_next_69 : decode cX12_next 69 = .ok (.goto 406, 3) := by decide +kernel
theorem dX12_next_72 : decode cX12_next 72 = .ok (.iload_n 2, 1) := by decide +kernel
theorem dX12_next_73 : decode cX12_next 73 = .ok (.ifCond .eq 14, 3) := by decide +kernel
theorem dX12_next_87 : decode cX12_next 87 = .ok (.aload_n 0, 1) := by decide +kernel
theorem dX12_next_88 : decode cX12_next 88 = .ok (.iload_n 1, 1) := by decide +kernel
theorem dX12_next_89 : decode cX12_next 89 = .ok (.invokevirtual 617, 3) := by decide +kernel
theorem dX12_next_92 : decode cX12_next 92 = .ok (.ifCond .ne 15, 3) := by decide +kernel
theorem dX12_next_95 : decode cX12_next 95 = .ok (.iload_n 1, 1) := by decide +kernel
theorem dX12_next_96 : decode cX12_next 96 = .ok (.bipush 95, 2) := by decide +kernel
theorem dX12_next_98 : decode cX12_next 98 = .ok (.if_icmp .eq 9, 3) := by decide +kernel
theorem dX12_next_101 : decode cX12_next 101 = .ok (.iload_n 1, 1) := by decide +kernel
theorem dX12_next_102 : decode cX12_next 102 = .ok (.bipush 60, 2) := by decide +kernel
theorem dX12_next_104 : decode cX12_next 104 = .ok (.if_icmp .ne 120, 3) := by decide +kernel
theorem dX12_next_107 : decode cX12_next 107 = .ok (.aload_n 0, 1) := by decide +kernel
theorem dX12_next_108 : decode cX12_next 108 = .ok (.dup, 1) := by decide +kernel
theorem dX12_next_109 : decode cX12_next 109 = .ok (.getfield 581, 3) := by decide +kernel
theorem dX12_next_112 : decode cX12_next 112 = .ok (.iconst 1, 1) := by decide +kernel
theorem dX12_next_113 : decode cX12_next 113 = .ok (.iadd, 1) := by decide +kernel
theorem dX12_next_114 : decode cX12_next 114 = .ok (.putfield 581, 3) := by decide +kernel
theorem dX12_next_117 : decode cX12_next 117 = .ok (.aload_n 0, 1) := by decide +kernel
theorem dX12_next_118 : decode cX12_next 118 = .ok (.aload_n 0, 1) := by decide +kernel
theorem dX12_next_119 : decode cX12_next 119 = .ok (.aload_n 0, 1) := by decide +kernel
theorem dX12_next_120 : decode cX12_next 120 = .ok (.getfield 581, 3) := by decide +kernel
theorem dX12_next_123 : decode cX12_next 123 = .ok (.invokevirtual 584, 3) := by decide +kernel
theorem dX12_next_126 : decode cX12_next 126 = .ok (.invokevirtual 617, 3) := by decide +kernel
theorem dX12_next_129 : decode cX12_next 129 = .ok (.ifCond .ne 44, 3) := by decide +kernel
theorem dX12_next_132 : decode cX12_next 132 = .ok (.aload_n 0, 1) := by decide +kernel
theorem dX12_next_133 : decode cX12_next 133 = .ok (.aload_n 0, 1) := by decide +kernel
theorem dX12_next_134 : decode cX12_next 134 = .ok (.aload_n 0, 1) := by decide +kernel
theorem dX12_next_135 : decode cX12_next 135 = .ok (.getfield 581, 3) := by decide +kernel
theorem dX12_next_138 : decode cX12_next 138 = .ok (.invokevirtual 584, 3) := by decide +kernel
theorem dX12_next_141 : decode cX12_next 141 = .ok (.invokevirtual 594, 3) := by decide +kernel
theorem dX12_next_144 : decode cX12_next 144 = .ok (.ifCond .ne 29, 3) := by decide +kernel
theorem dX12_next_147 : decode cX12_next 147 = .ok (.aload_n 0, 1) := by decide +kernel
theorem dX12_next_148 : decode cX12_next 148 = .ok (.aload_n 0, 1) := by decide +kernel
theorem dX12_next_149 : decode cX12_next 149 = .ok (.getfield 581, 3) := by decide +kernel
theorem dX12_next_152 : decode cX12_next 152 = .ok (.invokevirtual 584, 3) := by decide +kernel
theorem dX12_next_155 : decode cX12_next 155 = .ok (.bipush 95, 2) := by decide +kernel
theorem dX12_next_157 : decode cX12_next 157 = .ok (.if_icmp .eq 16, 3) := by decide +kernel
theorem dX12_next_160 : decode cX12_next 160 = .ok (.aload_n 0, 1) := by decide +kernel
theorem dX12_next_161 : decode cX12_next 161 = .ok (.aload_n 0, 1) := by decide +kernel
theorem dX12_next_162 : decode cX12_next 162 = .ok (.getfield 581, 3) := by decide +kernel
theorem dX12_next_165 : decode cX12_next 165 = .ok (.invokevirtual 584, 3) := by decide +kernel
theorem dX12_next_168 : decode cX12_next 168 = .ok (.bipush 62, 2) := by decide +kernel
theorem dX12_next_170 : decode cX12_next 170 = .ok (.if_icmp .ne 16, 3) := by decide +kernel
theorem dX12_next_173 : decode cX12_next 173 = .ok (.aload_n 0, 1) := by decide +kernel
theorem dX12_next_174 : decode cX12_next 174 = .ok (.dup, 1) := by decide +kernel
theorem dX12_next_175 : decode cX12_next 175 = .ok (.getfield 581, 3) := by decide +kernel
theorem dX12_next_178 : decode cX12_next 178 = .ok (.iconst 1, 1) := by decide +kernel
theorem dX12_next_179 : decode cX12_next 179 = .ok (.iadd, 1) := by decide +kernel
theorem dX12_next_180 : decode cX12_next 180 = .ok (.putfield 581, 3) := by decide +kernel
theorem dX12_next_183 : decode cX12_next 183 = .ok (.goto (-66), 3) := by decide +kernel
theorem dX12_next_186 : decode cX12_next 186 = .ok (.aload_n 0, 1) := by decide +kernel
theorem dX12_next_187 : decode cX12_next 187 = .ok (.aload_n 0, 1) := by decide +kernel
theorem dX12_next_188 : decode cX12_next 188 = .ok (.getfield 581, 3) := by decide +kernel
theorem dX12_next_191 : decode cX12_next 191 = .ok (.aload_n 0, 1) := by decide +kernel
theorem dX12_next_192 : decode cX12_next 192 = .ok (.getfield 591, 3) := by decide +kernel
theorem dX12_next_195 : decode cX12_next 195 = .ok (.isub, 1) := by decide +kernel
theorem dX12_next_196 : decode cX12_next 196 = .ok (.putfield 620, 3) := by decide +kernel
theorem dX12_next_199 : decode cX12_next 199 = .ok (.aload_n 0, 1) := by decide +kernel
theorem dX12_next_200 : decode cX12_next 200 = .ok (.iconst 1, 1) := by decide +kernel
theorem dX12_next_201 : decode cX12_next 201 = .ok (.putfield 588, 3) := by decide +kernel
theorem dX12_next_204 : decode cX12_next 204 = .ok (.aload_n 0, 1) := by decide +kernel
theorem dX12_next_205 : decode cX12_next 205 = .ok (.getfield 620, 3) := by decide +kernel
theorem dX12_next_208 : decode cX12_next 208 = .ok (.bipush 24, 2) := by decide +kernel
theorem dX12_next_210 : decode cX12_next 210 = .ok (.if_icmp .le 265, 3) := by decide +kernel
theorem dX12_next_224 : decode cX12_next 224 = .ok (.aload_n 0, 1) := by decide +kernel
theorem dX12_next_225 : decode cX12_next 225 = .ok (.iload_n 1, 1) := by decide +kernel
theorem dX12_next_226 : decode cX12_next 226 = .ok (.invokevirtual 594, 3) := by decide +kernel
theorem dX12_next_229 : decode cX12_next 229 = .ok (.ifCond .ne 9, 3) := by decide +kernel
theorem dX12_next_232 : decode cX12_next 232 = .ok (.iload_n 1, 1) := by decide +kernel
theorem dX12_next_233 : decode cX12_next 233 = .ok (.bipush 45, 2) := by decide +kernel
theorem dX12_next_235 : decode cX12_next 235 = .ok (.if_icmp .ne 10, 3) := by decide +kernel
theorem dX12_next_238 : decode cX12_next 238 = .ok (.aload_n 0, 1) := by decide +kernel
theorem dX12_next_239 : decode cX12_next 239 = .ok (.invokevirtual 623, 3) := by decide +kernel
theorem dX12_next_242 : decode cX12_next 242 = .ok (.goto 233, 3) := by decide +kernel
theorem dX12_next_245 : decode cX12_next 245 = .ok (.iload_n 1, 1) := by decide +kernel
theorem dX12_next_246 : decode cX12_next 246 = .ok (.bipush 34, 2) := by decide +kernel
theorem dX12_next_248 : decode cX12_next 248 = .ok (.if_icmp .ne 136, 3) := by decide +kernel
theorem dX12_next_384 : decode cX12_next 384 = .ok (.iload_n 1, 1) := by decide +kernel
theorem dX12_next_385 : decode cX12_next 385 = .ok (.bipush 123, 2) := by decide +kernel
theorem dX12_next_387 : decode cX12_next 387 = .ok (.if_icmp .eq 57, 3) := by decide +kernel
theorem dX12_next_390 : decode cX12_next 390 = .ok (.iload_n 1, 1) := by decide +kernel
theorem dX12_next_391 : decode cX12_next 391 = .ok (.bipush 125, 2) := by decide +kernel
theorem dX12_next_393 : decode cX12_next 393 = .ok (.if_icmp .eq 51, 3) := by decide +kernel
theorem dX12_next_396 : decode cX12_next 396 = .ok (.iload_n 1, 1) := by decide +kernel
theorem dX12_next_397 : decode cX12_next 397 = .ok (.bipush 40, 2) := by decide +kernel
theorem dX12_next_399 : decode cX12_next 399 = .ok (.if_icmp .eq 45, 3) := by decide +kernel
theorem dX12_next_402 : decode cX12_next 402 = .ok (.iload_n 1, 1) := by decide +kernel
theorem dX12_next_403 : decode cX12_next 403 = .ok (.bipush 41, 2) := by decide +kernel
theorem dX12_next_405 : decode cX12_next 405 = .ok (.if_icmp .eq 39, 3) := by decide +kernel
theorem dX12_next_408 : decode cX12_next 408 = .ok (.iload_n 1, 1) := by decide +kernel
theorem dX12_next_409 : decode cX12_next 409 = .ok (.bipush 91, 2) := by decide +kernel
theorem dX12_next_411 : decode cX12_next 411 = .ok (.if_icmp .eq 33, 3) := by decide +kernel
theorem dX12_next_414 : decode cX12_next 414 = .ok (.iload_n 1, 1) := by decide +kernel
theorem dX12_next_415 : decode cX12_next 415 = .ok (.bipush 93, 2) := by decide +kernel
theorem dX12_next_417 : decode cX12_next 417 = .ok (.if_icmp .eq 27, 3) := by decide +kernel
theorem dX12_next_420 : decode cX12_next 420 = .ok (.iload_n 1, 1) := by decide +kernel
theorem dX12_next_421 : decode cX12_next 421 = .ok (.bipush 59, 2) := by decide +kernel
theorem dX12_next_423 : decode cX12_next 423 = .ok (.if_icmp .eq 21, 3) := by decide +kernel
theorem dX12_next_426 : decode cX12_next 426 = .ok (.iload_n 1, 1) := by decide +kernel
theorem dX12_next_427 : decode cX12_next 427 = .ok (.bipush 58, 2) := by decide +kernel
theorem dX12_next_429 : decode cX12_next 429 = .ok (.if_icmp .eq 15, 3) := by decide +kernel
theorem dX12_next_432 : decode cX12_next 432 = .ok (.iload_n 1, 1) := by decide +kernel
theorem dX12_next_433 : decode cX12_next 433 = .ok (.bipush 44, 2) := by decide +kernel
theorem dX12_next_435 : decode cX12_next 435 = .ok (.if_icmp .eq 9, 3) := by decide +kernel
theorem dX12_next_438 : decode cX12_next 438 = .ok (.iload_n 1, 1) := by decide +kernel
theorem dX12_next_439 : decode cX12_next 439 = .ok (.bipush 46, 2) := by decide +kernel
theorem dX12_next_441 : decode cX12_next 441 = .ok (.if_icmp .ne 26, 3) := by decide +kernel
theorem dX12_next_444 : decode cX12_next 444 = .ok (.aload_n 0, 1) := by decide +kernel
theorem dX12_next_445 : decode cX12_next 445 = .ok (.dup, 1) := by decide +kernel
theorem dX12_next_446 : decode cX12_next 446 = .ok (.getfield 581, 3) := by decide +kernel
theorem dX12_next_449 : decode cX12_next 449 = .ok (.iconst 1, 1) := by decide +kernel
theorem dX12_next_450 : decode cX12_next 450 = .ok (.iadd, 1) := by decide +kernel
theorem dX12_next_451 : decode cX12_next 451 = .ok (.putfield 581, 3) := by decide +kernel
theorem dX12_next_454 : decode cX12_next 454 = .ok (.aload_n 0, 1) := by decide +kernel
theorem dX12_next_455 : decode cX12_next 455 = .ok (.iconst 4, 1) := by decide +kernel
theorem dX12_next_456 : decode cX12_next 456 = .ok (.putfield 588, 3) := by decide +kernel
theorem dX12_next_459 : decode cX12_next 459 = .ok (.aload_n 0, 1) := by decide +kernel
theorem dX12_next_460 : decode cX12_next 460 = .ok (.iload_n 1, 1) := by decide +kernel
theorem dX12_next_461 : decode cX12_next 461 = .ok (.putfield 611, 3) := by decide +kernel
theorem dX12_next_464 : decode cX12_next 464 = .ok (.goto 11, 3) := by decide +kernel
theorem dX12_next_475 : decode cX12_next 475 = .ok (.return_, 1) := by decide +kernel
def rpX12_next : List Nat := [0, 1, 4, 5, 6, 9, 12, 13, 14, 17, 20, 21, 22, 25, 26, 29, 32, 33, 34, 37, 40, 41, 42, 45, 48, 49, 51, 54, 58, 59, 60, 61, 64, 65, 66, 69, 72, 73, 76, 87, 88, 89, 92, 95, 96, 98, 101, 102, 104, 107, 108, 109, 112, 113, 114, 117, 118, 119, 120, 123, 126, 129, 132, 133, 134, 135, 138, 141, 144, 147, 148, 149, 152, 155, 157, 160, 161, 162, 165, 168, 170, 173, 174, 175, 178, 179, 180, 183, 186, 187, 188, 191, 192, 195, 196, 199, 200, 201, 204, 205, 208, 210, 213, 224, 225, 226, 229, 232, 233, 235, 238, 239, 242, 245, 246, 248, 251, 384, 385, 387, 390, 391, 393, 396, 397, 399, 402, 403, 405, 408, 409, 411, 414, 415, 417, 420, 421, 423, 426, 427, 429, 432, 433, 435, 438, 439, 441, 444, 445, 446, 449, 450, 451, 454, 455, 456, 459, 460, 461, 464, 467, 475]
noncomputable def rcX12_next : List rz_B := [rz_aload 0, rz_callVv 0 (Nat.add (Nat.mul 256 14) 1) rgX12_skip, rz_aload 0, rz_aload 0, rz_getf (Nat.add (Nat.mul 256 14) 1) 4 rz_i, rz_putf (Nat.add (Nat.mul 256 14) 1) 6 rz_unI, rz_aload 0, rz_aload 0, rz_getf (Nat.add (Nat.mul 256 14) 1) 4 rz_i, rz_callV 1 (Nat.add (Nat.mul 256 14) 1) rgX12_signAt, rz_istore 1, rz_aload 0, rz_getf (Nat.add (Nat.mul 256 14) 1) 4 rz_i, rz_aload 0, rz_getf (Nat.add (Nat.mul 256 14) 1) 9 rz_i, rz_icmpne 28, rz_aload 0, rz_iload 1, rz_callV 1 (Nat.add (Nat.mul 256 14) 1) rgX12_isLetter, rz_ifne 27, rz_aload 0, rz_iload 1, rz_callV 1 (Nat.add (Nat.mul 256 14) 1) rgX12_isFigure, rz_ifne 27, rz_iload 1, rz_cst 95, rz_icmpne 28, rz_no, rz_cst 0, rz_istore 2, rz_iload 1, rz_ifge 36, rz_aload 0, rz_cst 0, rz_putf (Nat.add (Nat.mul 256 14) 1) 5 rz_unI, rz_goto 161, rz_iload 2, rz_ifeq 39, rz_no, rz_aload 0, rz_iload 1, rz_callV 1 (Nat.add (Nat.mul 256 14) 1) rgX12_isLetter, rz_ifne 49, rz_iload 1, rz_cst 95, rz_icmpeq 49, rz_iload 1, rz_cst 60, rz_icmpne 103, rz_aload 0, rz_dup, rz_getf (Nat.add (Nat.mul 256 14) 1) 4 rz_i, rz_cst 1, rz_iadd, rz_putf (Nat.add (Nat.mul 256 14) 1) 4 rz_unI, rz_aload 0, rz_aload 0, rz_aload 0, rz_getf (Nat.add (Nat.mul 256 14) 1) 4 rz_i, rz_callV 1 (Nat.add (Nat.mul 256 14) 1) rgX12_signAt, rz_callV 1 (Nat.add (Nat.mul 256 14) 1) rgX12_isLetter, rz_ifne 81, rz_aload 0, rz_aload 0, rz_aload 0, rz_getf (Nat.add (Nat.mul 256 14) 1) 4 rz_i, rz_callV 1 (Nat.add (Nat.mul 256 14) 1) rgX12_signAt, rz_callV 1 (Nat.add (Nat.mul 256 14) 1) rgX12_isFigure, rz_ifne 81, rz_aload 0, rz_aload 0, rz_getf (Nat.add (Nat.mul 256 14) 1) 4 rz_i, rz_callV 1 (Nat.add (Nat.mul 256 14) 1) rgX12_signAt, rz_cst 95, rz_icmpeq 81, rz_aload 0, rz_aload 0, rz_getf (Nat.add (Nat.mul 256 14) 1) 4 rz_i, rz_callV 1 (Nat.add (Nat.mul 256 14) 1) rgX12_signAt, rz_cst 62, rz_icmpne 88, rz_aload 0, rz_dup, rz_getf (Nat.add (Nat.mul 256 14) 1) 4 rz_i, rz_cst 1, rz_iadd, rz_putf (Nat.add (Nat.mul 256 14) 1) 4 rz_unI, rz_goto 55, rz_aload 0, rz_aload 0, rz_getf (Nat.add (Nat.mul 256 14) 1) 4 rz_i, rz_aload 0, rz_getf (Nat.add (Nat.mul 256 14) 1) 6 rz_i, rz_isub, rz_putf (Nat.add (Nat.mul 256 14) 1) 7 rz_unI, rz_aload 0, rz_cst 1, rz_putf (Nat.add (Nat.mul 256 14) 1) 5 rz_unI, rz_aload 0, rz_getf (Nat.add (Nat.mul 256 14) 1) 7 rz_i, rz_cst 24, rz_icmple 161, rz_no, rz_aload 0, rz_iload 1, rz_callV 1 (Nat.add (Nat.mul 256 14) 1) rgX12_isFigure, rz_ifne 110, rz_iload 1, rz_cst 45, rz_icmpne 113, rz_aload 0, rz_callVv 0 (Nat.add (Nat.mul 256 14) 1) rgX12_readNumber, rz_goto 161, rz_iload 1, rz_cst 34, rz_icmpne 117, rz_no, rz_iload 1, rz_cst 123, rz_icmpeq 147, rz_iload 1, rz_cst 125, rz_icmpeq 147, rz_iload 1, rz_cst 40, rz_icmpeq 147, rz_iload 1, rz_cst 41, rz_icmpeq 147, rz_iload 1, rz_cst 91, rz_icmpeq 147, rz_iload 1, rz_cst 93, rz_icmpeq 147, rz_iload 1, rz_cst 59, rz_icmpeq 147, rz_iload 1, rz_cst 58, rz_icmpeq 147, rz_iload 1, rz_cst 44, rz_icmpeq 147, rz_iload 1, rz_cst 46, rz_icmpne 160, rz_aload 0, rz_dup, rz_getf (Nat.add (Nat.mul 256 14) 1) 4 rz_i, rz_cst 1, rz_iadd, rz_putf (Nat.add (Nat.mul 256 14) 1) 4 rz_unI, rz_aload 0, rz_cst 4, rz_putf (Nat.add (Nat.mul 256 14) 1) 5 rz_unI, rz_aload 0, rz_iload 1, rz_putf (Nat.add (Nat.mul 256 14) 1) 8 rz_unI, rz_goto 161, rz_no, rz_vret]
noncomputable def rgX12_next : rz_L → rz_M → rz_Z → Bool := rz_go rcX12_next 3 1000000
def rrX12_next : Room := { frames := 2, cells := 0, slots := 0, locals := 44 }
theorem rmX12_next (l : Launch) {G : rz_G} (hG : rz_Gd G) (vs : rz_L) (M : rz_M) (Z : rz_Z) (hn : vs.length = 1) (h : rgX12_next vs M Z = true) : Met l yX12_next (Cond.code yX12_next cX12_next 3 none :: rz_TB) rrX12_next (rz_Pre G vs M) (rz_Qv G M.2 Z) 0 0 (fun q => rz_b G ≤ q) := by
  obtain ⟨D, tc, ad, b, xs, rfl⟩ := id hG
  refine rz_body (pcs := rpX12_next) (by decide) rfl (by rw [hn]; decide) h ?_
  intro p e R s m args below meth c hC
  obtain ⟨hx, hb, hml, hr, hlk, ho, hts, hKn, hRm⟩ := id hC
  obtain ⟨hK, hA, hSt⟩ := id hKn
  have hw : ∀ {i j : Nat} {ws : List Cond} {w : Cond}, rz_WW[i]? = some ws → ws[j]? = some w → w.before args s = true := fun h1 h2 => hts _ (List.mem_cons_of_mem _ (rz_mem h1 h2))
  refine rz_All_c (i := 0) (fun k J hk hJ => rz_aload_n_ok (pc := 0) hx hb dX12_next_0 rfl hk) ?_
  refine rz_All_c (i := 1) (fun k J hk hJ => rz_callVv_ok (pc := 1) (own := RX12) (C := RX12) (T0 := TX12) (N0 := 257) hC rfl (rmX12_skip l hG) (rz_cwV 0 hC rz_good (rz_mem (i := 35) (j := 3) rfl rfl) (rz_mem (i := 35) (j := 4) rfl rfl) (rz_mem (i := 35) (j := 5) rfl rfl) (rz_mem (i := 32) (j := 8) rfl rfl) (rz_mem (i := 35) (j := 6) rfl rfl) ⟨rfl, by decide, by decide, by decide +kernel⟩ rfl rfl ⟨by decide, by decide⟩) rfl dX12_next_1 hk) ?_
  refine rz_All_c (i := 2) (fun k J hk hJ => rz_aload_n_ok (pc := 4) hx hb dX12_next_4 rfl hk) ?_
  refine rz_All_c (i := 3) (fun k J hk hJ => rz_aload_n_ok (pc := 5) hx hb dX12_next_5 rfl hk) ?_
  refine rz_All_c (i := 4) (fun k J hk hJ => rz_getf_ok (pc := 6) (own := RX12) (ref := "ThreadJudgeModel") (C := RX12) (T := TX12) (N := 257) (ci := 14) (index := 581) (f := 4) (t := 0) (Ts := Cond.code yX12_next cX12_next 3 none :: rz_TB) hx hb hts rz_in14 ho hK rfl (by decide) rfl (fun _ => rfl) (hw (i := 32) (j := 15) rfl rfl) (fun _ z => z) dX12_next_6 hk) ?_
  refine rz_All_c (i := 5) (fun k J hk hJ => rz_putf_ok (pc := 9) (own := RX12) (ref := "ThreadJudgeModel") (C := RX12) (T := TX12) (N := 257) (ci := 14) (index := 591) (f := 6) (t := 0) (Ts := Cond.code yX12_next cX12_next 3 none :: rz_TB) hx hb hts rz_in14 tyX12 tyX12_ok nmX12 ho hK hA rfl (by decide) rfl (rz_UnI _) rfl (tyX12_ok 6 (by decide)) (hw (i := 33) (j := 3) rfl rfl) (fun _ z => z) dX12_next_9 hk) ?_
  refine rz_All_c (i := 6) (fun k J hk hJ => rz_aload_n_ok (pc := 12) hx hb dX12_next_12 rfl hk) ?_
  refine rz_All_c (i := 7) (fun k J hk hJ => rz_aload_n_ok (pc := 13) hx hb dX12_next_13 rfl hk) ?_
  refine rz_All_c (i := 8) (fun k J hk hJ => rz_getf_ok (pc := 14) (own := RX12) (ref := "ThreadJudgeModel") (C := RX12) (T := TX12) (N := 257) (ci := 14) (index := 581) (f := 4) (t := 0) (Ts := Cond.code yX12_next cX12_next 3 none :: rz_TB) hx hb hts rz_in14 ho hK rfl (by decide) rfl (fun _ => rfl) (hw (i := 32) (j := 15) rfl rfl) (fun _ z => z) dX12_next_14 hk) ?_
  refine rz_All_c (i := 9) (fun k J hk hJ => rz_callV_ok (pc := 17) (own := RX12) (C := RX12) (T0 := TX12) (N0 := 257) hC rfl (rmX12_signAt l hG) (rz_cwV 1 hC rz_good (rz_mem (i := 35) (j := 7) rfl rfl) (rz_mem (i := 35) (j := 8) rfl rfl) (rz_mem (i := 35) (j := 9) rfl rfl) (rz_mem (i := 32) (j := 8) rfl rfl) (rz_mem (i := 35) (j := 10) rfl rfl) ⟨rfl, by decide, by decide, by decide +kernel⟩ rfl rfl ⟨by decide, by decide⟩) rfl dX12_next_17 hk) ?_
  refine rz_All_c (i := 10) (fun k J hk hJ => rz_istore_n_ok (pc := 20) hx hb dX12_next_20 rfl hk) ?_
  refine rz_All_c (i := 11) (fun k J hk hJ => rz_aload_n_ok (pc := 21) hx hb dX12_next_21 rfl hk) ?_
  refine rz_All_c (i := 12) (fun k J hk hJ => rz_getf_ok (pc := 22) (own := RX12) (ref := "ThreadJudgeModel") (C := RX12) (T := TX12) (N := 257) (ci := 14) (index := 581) (f := 4) (t := 0) (Ts := Cond.code yX12_next cX12_next 3 none :: rz_TB) hx hb hts rz_in14 ho hK rfl (by decide) rfl (fun _ => rfl) (hw (i := 32) (j := 15) rfl rfl) (fun _ z => z) dX12_next_22 hk) ?_
  refine rz_All_c (i := 13) (fun k J hk hJ => rz_aload_n_ok (pc := 25) hx hb dX12_next_25 rfl hk) ?_
  refine rz_All_c (i := 14) (fun k J hk hJ => rz_getf_ok (pc := 26) (own := RX12) (ref := "ThreadJudgeModel") (C := RX12) (T := TX12) (N := 257) (ci := 14) (index := 608) (f := 9) (t := 0) (Ts := Cond.code yX12_next cX12_next 3 none :: rz_TB) hx hb hts rz_in14 ho hK rfl (by decide) rfl (fun _ => rfl) (hw (i := 32) (j := 16) rfl rfl) (fun _ z => z) dX12_next_26 hk) ?_
  refine rz_All_c (i := 15) (fun k J hk hJ => rz_icmpne_ok (pc := 29) hx hb dX12_next_29 rfl hk (hJ 28)) ?_
  refine rz_All_c (i := 16) (fun k J hk hJ => rz_aload_n_ok (pc := 32) hx hb dX12_next_32 rfl hk) ?_
  refine rz_All_c (i := 17) (fun k J hk hJ => rz_iload_n_ok (pc := 33) hx hb dX12_next_33 rfl hk) ?_
  refine rz_All_c (i := 18) (fun k J hk hJ => rz_callV_ok (pc := 34) (own := RX12) (C := RX12) (T0 := TX12) (N0 := 257) hC rfl (rmX12_isLetter l hG) (rz_cwV 1 hC rz_good (rz_mem (i := 35) (j := 11) rfl rfl) (rz_mem (i := 35) (j := 12) rfl rfl) (rz_mem (i := 35) (j := 13) rfl rfl) (rz_mem (i := 32) (j := 8) rfl rfl) (rz_mem (i := 35) (j := 14) rfl rfl) ⟨rfl, by decide, by decide, by decide +kernel⟩ rfl rfl ⟨by decide, by decide⟩) rfl dX12_next_34 hk) ?_
  refine rz_All_c (i := 19) (fun k J hk hJ => rz_ifne_ok (pc := 37) hx hb dX12_next_37 rfl hk (hJ 27)) ?_
  refine rz_All_c (i := 20) (fun k J hk hJ => rz_aload_n_ok (pc := 40) hx hb dX12_next_40 rfl hk) ?_
  refine rz_All_c (i := 21) (fun k J hk hJ => rz_iload_n_ok (pc := 41) hx hb dX12_next_41 rfl hk) ?_
  refine rz_All_c (i := 22) (fun k J hk hJ => rz_callV_ok (pc := 42) (own := RX12) (C := RX12) (T0 := TX12) (N0 := 257) hC rfl (rmX12_isFigure l hG) (rz_cwV 1 hC rz_good (rz_mem (i := 35) (j := 15) rfl rfl) (rz_mem (i := 35) (j := 16) rfl rfl) (rz_mem (i := 35) (j := 17) rfl rfl) (rz_mem (i := 32) (j := 8) rfl rfl) (rz_mem (i := 35) (j := 18) rfl rfl) ⟨rfl, by decide, by decide, by decide +kernel⟩ rfl rfl ⟨by decide, by decide⟩) rfl dX12_next_42 hk) ?_
  refine rz_All_c (i := 23) (fun k J hk hJ => rz_ifne_ok (pc := 45) hx hb dX12_next_45 rfl hk (hJ 27)) ?_
  refine rz_All_c (i := 24) (fun k J hk hJ => rz_iload_n_ok (pc := 48) hx hb dX12_next_48 rfl hk) ?_
  refine rz_All_c (i := 25) (fun k J hk hJ => rz_bipush_ok (pc := 49) hx hb dX12_next_49 (by decide) hk) ?_
  refine rz_All_c (i := 26) (fun k J hk hJ => rz_icmpne_ok (pc := 51) hx hb dX12_next_51 rfl hk (hJ 28)) ?_
  refine rz_All_c (i := 27) (fun k J hk hJ => rz_no_ok) ?_
  refine rz_All_c (i := 28) (fun k J hk hJ => rz_iconst_ok (pc := 58) hx hb dX12_next_58 rfl hk) ?_
  refine rz_All_c (i := 29) (fun k J hk hJ => rz_istore_n_ok (pc := 59) hx hb dX12_next_59 rfl hk) ?_
  refine rz_All_c (i := 30) (fun k J hk hJ => rz_iload_n_ok (pc := 60) hx hb dX12_next_60 rfl hk) ?_
  refine rz_All_c (i := 31) (fun k J hk hJ => rz_ifge_ok (pc := 61) hx hb dX12_next_61 rfl hk (hJ 36)) ?_
  refine rz_All_c (i := 32) (fun k J hk hJ => rz_aload_n_ok (pc := 64) hx hb dX12_next_64 rfl hk) ?_
  refine rz_All_c (i := 33) (fun k J hk hJ => rz_iconst_ok (pc := 65) hx hb dX12_next_65 rfl hk) ?_
  refine rz_All_c (i := 34) (fun k J hk hJ => rz_putf_ok (pc := 66) (own := RX12) (ref := "ThreadJudgeModel") (C := RX12) (T := TX12) (N := 257) (ci := 14) (index := 588) (f := 5) (t := 0) (Ts := Cond.code yX12_next cX12_next 3 none :: rz_TB) hx hb hts rz_in14 tyX12 tyX12_ok nmX12 ho hK hA rfl (by decide) rfl (rz_UnI _) rfl (tyX12_ok 5 (by decide)) (hw (i := 33) (j := 2) rfl rfl) (fun _ z => z) dX12_next_66 hk) ?_
  refine rz_All_c (i := 35) (fun k J hk hJ => rz_goto_ok (pc := 69) hx hb dX12_next_69 rfl (hJ 161)) ?_
  refine rz_All_c (i := 36) (fun k J hk hJ => rz_iload_n_ok (pc := 72) hx hb dX12_next_72 rfl hk) ?_
  refine rz_All_c (i := 37) (fun k J hk hJ => rz_ifeq_ok (pc := 73) hx hb dX12_next_73 rfl hk (hJ 39)) ?_
  refine rz_All_c (i := 38) (fun k J hk hJ => rz_no_ok) ?_
  refine rz_All_c (i := 39) (fun k J hk hJ => rz_aload_n_ok (pc := 87) hx hb dX12_next_87 rfl hk) ?_
  refine rz_All_c (i := 40) (fun k J hk hJ => rz_iload_n_ok (pc := 88) hx hb dX12_next_88 rfl hk) ?_
  refine rz_All_c (i := 41) (fun k J hk hJ => rz_callV_ok (pc := 89) (own := RX12) (C := RX12) (T0 := TX12) (N0 := 257) hC rfl (rmX12_isLetter l hG) (rz_cwV 1 hC rz_good (rz_mem (i := 35) (j := 11) rfl rfl) (rz_mem (i := 35) (j := 12) rfl rfl) (rz_mem (i := 35) (j := 13) rfl rfl) (rz_mem (i := 32) (j := 8) rfl rfl) (rz_mem (i := 35) (j := 14) rfl rfl) ⟨rfl, by decide, by decide, by decide +kernel⟩ rfl rfl ⟨by decide, by decide⟩) rfl dX12_next_89 hk) ?_
  refine rz_All_c (i := 42) (fun k J hk hJ => rz_ifne_ok (pc := 92) hx hb dX12_next_92 rfl hk (hJ 49)) ?_
  refine rz_All_c (i := 43) (fun k J hk hJ => rz_iload_n_ok (pc := 95) hx hb dX12_next_95 rfl hk) ?_
  refine rz_All_c (i := 44) (fun k J hk hJ => rz_bipush_ok (pc := 96) hx hb dX12_next_96 (by decide) hk) ?_
  refine rz_All_c (i := 45) (fun k J hk hJ => rz_icmpeq_ok (pc := 98) hx hb dX12_next_98 rfl hk (hJ 49)) ?_
  refine rz_All_c (i := 46) (fun k J hk hJ => rz_iload_n_ok (pc := 101) hx hb dX12_next_101 rfl hk) ?_
  refine rz_All_c (i := 47) (fun k J hk hJ => rz_bipush_ok (pc := 102) hx hb dX12_next_102 (by decide) hk) ?_
  refine rz_All_c (i := 48) (fun k J hk hJ => rz_icmpne_ok (pc := 104) hx hb dX12_next_104 rfl hk (hJ 103)) ?_
  refine rz_All_c (i := 49) (fun k J hk hJ => rz_aload_n_ok (pc := 107) hx hb dX12_next_107 rfl hk) ?_
  refine rz_All_c (i := 50) (fun k J hk hJ => rz_dup_ok (pc := 108) hx hb dX12_next_108 hk) ?_
  refine rz_All_c (i := 51) (fun k J hk hJ => rz_getf_ok (pc := 109) (own := RX12) (ref := "ThreadJudgeModel") (C := RX12) (T := TX12) (N := 257) (ci := 14) (index := 581) (f := 4) (t := 0) (Ts := Cond.code yX12_next cX12_next 3 none :: rz_TB) hx hb hts rz_in14 ho hK rfl (by decide) rfl (fun _ => rfl) (hw (i := 32) (j := 15) rfl rfl) (fun _ z => z) dX12_next_109 hk) ?_
  refine rz_All_c (i := 52) (fun k J hk hJ => rz_iconst_ok (pc := 112) hx hb dX12_next_112 rfl hk) ?_
  refine rz_All_c (i := 53) (fun k J hk hJ => rz_iadd_ok (pc := 113) hx hb dX12_next_113 hk) ?_
  refine rz_All_c (i := 54) (fun k J hk hJ => rz_putf_ok (pc := 114) (own := RX12) (ref := "ThreadJudgeModel") (C := RX12) (T := TX12) (N := 257) (ci := 14) (index := 581) (f := 4) (t := 0) (Ts := Cond.code yX12_next cX12_next 3 none :: rz_TB) hx hb hts rz_in14 tyX12 tyX12_ok nmX12 ho hK hA rfl (by decide) rfl (rz_UnI _) rfl (tyX12_ok 4 (by decide)) (hw (i := 32) (j := 15) rfl rfl) (fun _ z => z) dX12_next_114 hk) ?_
  refine rz_All_c (i := 55) (fun k J hk hJ => rz_aload_n_ok (pc := 117) hx hb dX12_next_117 rfl hk) ?_
  refine rz_All_c (i := 56) (fun k J hk hJ => rz_aload_n_ok (pc := 118) hx hb dX12_next_118 rfl hk) ?_
  refine rz_All_c (i := 57) (fun k J hk hJ => rz_aload_n_ok (pc := 119) hx hb dX12_next_119 rfl hk) ?_
  refine rz_All_c (i := 58) (fun k J hk hJ => rz_getf_ok (pc := 120) (own := RX12) (ref := "ThreadJudgeModel") (C := RX12) (T := TX12) (N := 257) (ci := 14) (index := 581) (f := 4) (t := 0) (Ts := Cond.code yX12_next cX12_next 3 none :: rz_TB) hx hb hts rz_in14 ho hK rfl (by decide) rfl (fun _ => rfl) (hw (i := 32) (j := 15) rfl rfl) (fun _ z => z) dX12_next_120 hk) ?_
  refine rz_All_c (i := 59) (fun k J hk hJ => rz_callV_ok (pc := 123) (own := RX12) (C := RX12) (T0 := TX12) (N0 := 257) hC rfl (rmX12_signAt l hG) (rz_cwV 1 hC rz_good (rz_mem (i := 35) (j := 7) rfl rfl) (rz_mem (i := 35) (j := 8) rfl rfl) (rz_mem (i := 35) (j := 9) rfl rfl) (rz_mem (i := 32) (j := 8) rfl rfl) (rz_mem (i := 35) (j := 10) rfl rfl) ⟨rfl, by decide, by decide, by decide +kernel⟩ rfl rfl ⟨by decide, by decide⟩) rfl dX12_next_123 hk) ?_
  refine rz_All_c (i := 60) (fun k J hk hJ => rz_callV_ok (pc := 126) (own := RX12) (C := RX12) (T0 := TX12) (N0 := 257) hC rfl (rmX12_isLetter l hG) (rz_cwV 1 hC rz_good (rz_mem (i := 35) (j := 11) rfl rfl) (rz_mem (i := 35) (j := 12) rfl rfl) (rz_mem (i := 35) (j := 13) rfl rfl) (rz_mem (i := 32) (j := 8) rfl rfl) (rz_mem (i := 35) (j := 14) rfl rfl) ⟨rfl, by decide, by decide, by decide +kernel⟩ rfl rfl ⟨by decide, by decide⟩) rfl dX12_next_126 hk) ?_
  refine rz_All_c (i := 61) (fun k J hk hJ => rz_ifne_ok (pc := 129) hx hb dX12_next_129 rfl hk (hJ 81)) ?_
  refine rz_All_c (i := 62) (fun k J hk hJ => rz_aload_n_ok (pc := 132) hx hb dX12_next_132 rfl hk) ?_
  refine rz_All_c (i := 63) (fun k J hk hJ => rz_aload_n_ok (pc := 133) hx hb dX12_next_133 rfl hk) ?_
  refine rz_All_c (i := 64) (fun k J hk hJ => rz_aload_n_ok (pc := 134) hx hb dX12_next_134 rfl hk) ?_
  refine rz_All_c (i := 65) (fun k J hk hJ => rz_getf_ok (pc := 135) (own := RX12) (ref := "ThreadJudgeModel") (C := RX12) (T := TX12) (N := 257) (ci := 14) (index := 581) (f := 4) (t := 0) (Ts := Cond.code yX12_next cX12_next 3 none :: rz_TB) hx hb hts rz_in14 ho hK rfl (by decide) rfl (fun _ => rfl) (hw (i := 32) (j := 15) rfl rfl) (fun _ z => z) dX12_next_135 hk) ?_
  refine rz_All_c (i := 66) (fun k J hk hJ => rz_callV_ok (pc := 138) (own := RX12) (C := RX12) (T0 := TX12) (N0 := 257) hC rfl (rmX12_signAt l hG) (rz_cwV 1 hC rz_good (rz_mem (i := 35) (j := 7) rfl rfl) (rz_mem (i := 35) (j := 8) rfl rfl) (rz_mem (i := 35) (j := 9) rfl rfl) (rz_mem (i := 32) (j := 8) rfl rfl) (rz_mem (i := 35) (j := 10) rfl rfl) ⟨rfl, by decide, by decide, by decide +kernel⟩ rfl rfl ⟨by decide, by decide⟩) rfl dX12_next_138 hk) ?_
  refine rz_All_c (i := 67) (fun k J hk hJ => rz_callV_ok (pc := 141) (own := RX12) (C := RX12) (T0 := TX12) (N0 := 257) hC rfl (rmX12_isFigure l hG) (rz_cwV 1 hC rz_good (rz_mem (i := 35) (j := 15) rfl rfl) (rz_mem (i := 35) (j := 16) rfl rfl) (rz_mem (i := 35) (j := 17) rfl rfl) (rz_mem (i := 32) (j := 8) rfl rfl) (rz_mem (i := 35) (j := 18) rfl rfl) ⟨rfl, by decide, by decide, by decide +kernel⟩ rfl rfl ⟨by decide, by decide⟩) rfl dX12_next_141 hk) ?_
  refine rz_All_c (i := 68) (fun k J hk hJ => rz_ifne_ok (pc := 144) hx hb dX12_next_144 rfl hk (hJ 81)) ?_
  refine rz_All_c (i := 69) (fun k J hk hJ => rz_aload_n_ok (pc := 147) hx hb dX12_next_147 rfl hk) ?_
  refine rz_All_c (i := 70) (fun k J hk hJ => rz_aload_n_ok (pc := 148) hx hb dX12_next_148 rfl hk) ?_
  refine rz_All_c (i := 71) (fun k J hk hJ => rz_getf_ok (pc := 149) (own := RX12) (ref := "ThreadJudgeModel") (C := RX12) (T := TX12) (N := 257) (ci := 14) (index := 581) (f := 4) (t := 0) (Ts := Cond.code yX12_next cX12_next 3 none :: rz_TB) hx hb hts rz_in14 ho hK rfl (by decide) rfl (fun _ => rfl) (hw (i := 32) (j := 15) rfl rfl) (fun _ z => z) dX12_next_149 hk) ?_
  refine rz_All_c (i := 72) (fun k J hk hJ => rz_callV_ok (pc := 152) (own := RX12) (C := RX12) (T0 := TX12) (N0 := 257) hC rfl (rmX12_signAt l hG) (rz_cwV 1 hC rz_good (rz_mem (i := 35) (j := 7) rfl rfl) (rz_mem (i := 35) (j := 8) rfl rfl) (rz_mem (i := 35) (j := 9) rfl rfl) (rz_mem (i := 32) (j := 8) rfl rfl) (rz_mem (i := 35) (j := 10) rfl rfl) ⟨rfl, by decide, by decide, by decide +kernel⟩ rfl rfl ⟨by decide, by decide⟩) rfl dX12_next_152 hk) ?_
  refine rz_All_c (i := 73) (fun k J hk hJ => rz_bipush_ok (pc := 155) hx hb dX12_next_155 (by decide) hk) ?_
  refine rz_All_c (i := 74) (fun k J hk hJ => rz_icmpeq_ok (pc := 157) hx hb dX12_next_157 rfl hk (hJ 81)) ?_
  refine rz_All_c (i := 75) (fun k J hk hJ => rz_aload_n_ok (pc := 160) hx hb dX12_next_160 rfl hk) ?_
  refine rz_All_c (i := 76) (fun k J hk hJ => rz_aload_n_ok (pc := 161) hx hb dX12_next_161 rfl hk) ?_
  refine rz_All_c (i := 77) (fun k J hk hJ => rz_getf_ok (pc := 162) (own := RX12) (ref := "ThreadJudgeModel") (C := RX12) (T := TX12) (N := 257) (ci := 14) (index := 581) (f := 4) (t := 0) (Ts := Cond.code yX12_next cX12_next 3 none :: rz_TB) hx hb hts rz_in14 ho hK rfl (by decide) rfl (fun _ => rfl) (hw (i := 32) (j := 15) rfl rfl) (fun _ z => z) dX12_next_162 hk) ?_
  refine rz_All_c (i := 78) (fun k J hk hJ => rz_callV_ok (pc := 165) (own := RX12) (C := RX12) (T0 := TX12) (N0 := 257) hC rfl (rmX12_signAt l hG) (rz_cwV 1 hC rz_good (rz_mem (i := 35) (j := 7) rfl rfl) (rz_mem (i := 35) (j := 8) rfl rfl) (rz_mem (i := 35) (j := 9) rfl rfl) (rz_mem (i := 32) (j := 8) rfl rfl) (rz_mem (i := 35) (j := 10) rfl rfl) ⟨rfl, by decide, by decide, by decide +kernel⟩ rfl rfl ⟨by decide, by decide⟩) rfl dX12_next_165 hk) ?_
  refine rz_All_c (i := 79) (fun k J hk hJ => rz_bipush_ok (pc := 168) hx hb dX12_next_168 (by decide) hk) ?_
  refine rz_All_c (i := 80) (fun k J hk hJ => rz_icmpne_ok (pc := 170) hx hb dX12_next_170 rfl hk (hJ 88)) ?_
  refine rz_All_c (i := 81) (fun k J hk hJ => rz_aload_n_ok (pc := 173) hx hb dX12_next_173 rfl hk) ?_
  refine rz_All_c (i := 82) (fun k J hk hJ => rz_dup_ok (pc := 174) hx hb dX12_next_174 hk) ?_
  refine rz_All_c (i := 83) (fun k J hk hJ => rz_getf_ok (pc := 175) (own := RX12) (ref := "ThreadJudgeModel") (C := RX12) (T := TX12) (N := 257) (ci := 14) (index := 581) (f := 4) (t := 0) (Ts := Cond.code yX12_next cX12_next 3 none :: rz_TB) hx hb hts rz_in14 ho hK rfl (by decide) rfl (fun _ => rfl) (hw (i := 32) (j := 15) rfl rfl) (fun _ z => z) dX12_next_175 hk) ?_
  refine rz_All_c (i := 84) (fun k J hk hJ => rz_iconst_ok (pc := 178) hx hb dX12_next_178 rfl hk) ?_
  refine rz_All_c (i := 85) (fun k J hk hJ => rz_iadd_ok (pc := 179) hx hb dX12_next_179 hk) ?_
  refine rz_All_c (i := 86) (fun k J hk hJ => rz_putf_ok (pc := 180) (own := RX12) (ref := "ThreadJudgeModel") (C := RX12) (T := TX12) (N := 257) (ci := 14) (index := 581) (f := 4) (t := 0) (Ts := Cond.code yX12_next cX12_next 3 none :: rz_TB) hx hb hts rz_in14 tyX12 tyX12_ok nmX12 ho hK hA rfl (by decide) rfl (rz_UnI _) rfl (tyX12_ok 4 (by decide)) (hw (i := 32) (j := 15) rfl rfl) (fun _ z => z) dX12_next_180 hk) ?_
  refine rz_All_c (i := 87) (fun k J hk hJ => rz_goto_ok (pc := 183) hx hb dX12_next_183 rfl (hJ 55)) ?_
  refine rz_All_c (i := 88) (fun k J hk hJ => rz_aload_n_ok (pc := 186) hx hb dX12_next_186 rfl hk) ?_
  refine rz_All_c (i := 89) (fun k J hk hJ => rz_aload_n_ok (pc := 187) hx hb dX12_next_187 rfl hk) ?_
  refine rz_All_c (i := 90) (fun k J hk hJ => rz_getf_ok (pc := 188) (own := RX12) (ref := "ThreadJudgeModel") (C := RX12) (T := TX12) (N := 257) (ci := 14) (index := 581) (f := 4) (t := 0) (Ts := Cond.code yX12_next cX12_next 3 none :: rz_TB) hx hb hts rz_in14 ho hK rfl (by decide) rfl (fun _ => rfl) (hw (i := 32) (j := 15) rfl rfl) (fun _ z => z) dX12_next_188 hk) ?_
  refine rz_All_c (i := 91) (fun k J hk hJ => rz_aload_n_ok (pc := 191) hx hb dX12_next_191 rfl hk) ?_
  refine rz_All_c (i := 92) (fun k J hk hJ => rz_getf_ok (pc := 192) (own := RX12) (ref := "ThreadJudgeModel") (C := RX12) (T := TX12) (N := 257) (ci := 14) (index := 591) (f := 6) (t := 0) (Ts := Cond.code yX12_next cX12_next 3 none :: rz_TB) hx hb hts rz_in14 ho hK rfl (by decide) rfl (fun _ => rfl) (hw (i := 33) (j := 3) rfl rfl) (fun _ z => z) dX12_next_192 hk) ?_
  refine rz_All_c (i := 93) (fun k J hk hJ => rz_isub_ok (pc := 195) hx hb dX12_next_195 hk) ?_
  refine rz_All_c (i := 94) (fun k J hk hJ => rz_putf_ok (pc := 196) (own := RX12) (ref := "ThreadJudgeModel") (C := RX12) (T := TX12) (N := 257) (ci := 14) (index := 620) (f := 7) (t := 0) (Ts := Cond.code yX12_next cX12_next 3 none :: rz_TB) hx hb hts rz_in14 tyX12 tyX12_ok nmX12 ho hK hA rfl (by decide) rfl (rz_UnI _) rfl (tyX12_ok 7 (by decide)) (hw (i := 35) (j := 1) rfl rfl) (fun _ z => z) dX12_next_196 hk) ?_
  refine rz_All_c (i := 95) (fun k J hk hJ => rz_aload_n_ok (pc := 199) hx hb dX12_next_199 rfl hk) ?_
  refine rz_All_c (i := 96) (fun k J hk hJ => rz_iconst_ok (pc := 200) hx hb dX12_next_200 rfl hk) ?_
  refine rz_All_c (i := 97) (fun k J hk hJ => rz_putf_ok (pc := 201) (own := RX12) (ref := "ThreadJudgeModel") (C := RX12) (T := TX12) (N := 257) (ci := 14) (index := 588) (f := 5) (t := 0) (Ts := Cond.code yX12_next cX12_next 3 none :: rz_TB) hx hb hts rz_in14 tyX12 tyX12_ok nmX12 ho hK hA rfl (by decide) rfl (rz_UnI _) rfl (tyX12_ok 5 (by decide)) (hw (i := 33) (j := 2) rfl rfl) (fun _ z => z) dX12_next_201 hk) ?_
  refine rz_All_c (i := 98) (fun k J hk hJ => rz_aload_n_ok (pc := 204) hx hb dX12_next_204 rfl hk) ?_
  refine rz_All_c (i := 99) (fun k J hk hJ => rz_getf_ok (pc := 205) (own := RX12) (ref := "ThreadJudgeModel") (C := RX12) (T := TX12) (N := 257) (ci := 14) (index := 620) (f := 7) (t := 0) (Ts := Cond.code yX12_next cX12_next 3 none :: rz_TB) hx hb hts rz_in14 ho hK rfl (by decide) rfl (fun _ => rfl) (hw (i := 35) (j := 1) rfl rfl) (fun _ z => z) dX12_next_205 hk) ?_
  refine rz_All_c (i := 100) (fun k J hk hJ => rz_bipush_ok (pc := 208) hx hb dX12_next_208 (by decide) hk) ?_
  refine rz_All_c (i := 101) (fun k J hk hJ => rz_icmple_ok (pc := 210) hx hb dX12_next_210 rfl hk (hJ 161)) ?_
  refine rz_All_c (i := 102) (fun k J hk hJ => rz_no_ok) ?_
  refine rz_All_c (i := 103) (fun k J hk hJ => rz_aload_n_ok (pc := 224) hx hb dX12_next_224 rfl hk) ?_
  refine rz_All_c (i := 104) (fun k J hk hJ => rz_iload_n_ok (pc := 225) hx hb dX12_next_225 rfl hk) ?_
  refine rz_All_c (i := 105) (fun k J hk hJ => rz_callV_ok (pc := 226) (own := RX12) (C := RX12) (T0 := TX12) (N0 := 257) hC rfl (rmX12_isFigure l hG) (rz_cwV 1 hC rz_good (rz_mem (i := 35) (j := 15) rfl rfl) (rz_mem (i := 35) (j := 16) rfl rfl) (rz_mem (i := 35) (j := 17) rfl rfl) (rz_mem (i := 32) (j := 8) rfl rfl) (rz_mem (i := 35) (j := 18) rfl rfl) ⟨rfl, by decide, by decide, by decide +kernel⟩ rfl rfl ⟨by decide, by decide⟩) rfl dX12_next_226 hk) ?_
  refine rz_All_c (i := 106) (fun k J hk hJ => rz_ifne_ok (pc := 229) hx hb dX12_next_229 rfl hk (hJ 110)) ?_
  refine rz_All_c (i := 107) (fun k J hk hJ => rz_iload_n_ok (pc := 232) hx hb dX12_next_232 rfl hk) ?_
  refine rz_All_c (i := 108) (fun k J hk hJ => rz_bipush_ok (pc := 233) hx hb dX12_next_233 (by decide) hk) ?_
  refine rz_All_c (i := 109) (fun k J hk hJ => rz_icmpne_ok (pc := 235) hx hb dX12_next_235 rfl hk (hJ 113)) ?_
  refine rz_All_c (i := 110) (fun k J hk hJ => rz_aload_n_ok (pc := 238) hx hb dX12_next_238 rfl hk) ?_
  refine rz_All_c (i := 111) (fun k J hk hJ => rz_callVv_ok (pc := 239) (own := RX12) (C := RX12) (T0 := TX12) (N0 := 257) hC rfl (rmX12_readNumber l hG) (rz_cwV 0 hC rz_good (rz_mem (i := 35) (j := 23) rfl rfl) (rz_mem (i := 36) (j := 0) rfl rfl) (rz_mem (i := 36) (j := 1) rfl rfl) (rz_mem (i := 32) (j := 8) rfl rfl) (rz_mem (i := 36) (j := 2) rfl rfl) ⟨rfl, by decide, by decide, by decide +kernel⟩ rfl rfl ⟨by decide, by decide⟩) rfl dX12_next_239 hk) ?_
  refine rz_All_c (i := 112) (fun k J hk hJ => rz_goto_ok (pc := 242) hx hb dX12_next_242 rfl (hJ 161)) ?_
  refine rz_All_c (i := 113) (fun k J hk hJ => rz_iload_n_ok (pc := 245) hx hb dX12_next_245 rfl hk) ?_
  refine rz_All_c (i := 114) (fun k J hk hJ => rz_bipush_ok (pc := 246) hx hb dX12_next_246 (by decide) hk) ?_
  refine rz_All_c (i := 115) (fun k J hk hJ => rz_icmpne_ok (pc := 248) hx hb dX12_next_248 rfl hk (hJ 117)) ?_
  refine rz_All_c (i := 116) (fun k J hk hJ => rz_no_ok) ?_
  refine rz_All_c (i := 117) (fun k J hk hJ => rz_iload_n_ok (pc := 384) hx hb dX12_next_384 rfl hk) ?_
  refine rz_All_c (i := 118) (fun k J hk hJ => rz_bipush_ok (pc := 385) hx hb dX12_next_385 (by decide) hk) ?_
  refine rz_All_c (i := 119) (fun k J hk hJ => rz_icmpeq_ok (pc := 387) hx hb dX12_next_387 rfl hk (hJ 147)) ?_
  refine rz_All_c (i := 120) (fun k J hk hJ => rz_iload_n_ok (pc := 390) hx hb dX12_next_390 rfl hk) ?_
  refine rz_All_c (i := 121) (fun k J hk hJ => rz_bipush_ok (pc := 391) hx hb dX12_next_391 (by decide) hk) ?_
  refine rz_All_c (i := 122) (fun k J hk hJ => rz_icmpeq_ok (pc := 393) hx hb dX12_next_393 rfl hk (hJ 147)) ?_
  refine rz_All_c (i := 123) (fun k J hk hJ => rz_iload_n_ok (pc := 396) hx hb dX12_next_396 rfl hk) ?_
  refine rz_All_c (i := 124) (fun k J hk hJ => rz_bipush_ok (pc := 397) hx hb dX12_next_397 (by decide) hk) ?_
  refine rz_All_c (i := 125) (fun k J hk hJ => rz_icmpeq_ok (pc := 399) hx hb dX12_next_399 rfl hk (hJ 147)) ?_
  refine rz_All_c (i := 126) (fun k J hk hJ => rz_iload_n_ok (pc := 402) hx hb dX12_next_402 rfl hk) ?_
  refine rz_All_c (i := 127) (fun k J hk hJ => rz_bipush_ok (pc := 403) hx hb dX12_next_403 (by decide) hk) ?_
  refine rz_All_c (i := 128) (fun k J hk hJ => rz_icmpeq_ok (pc := 405) hx hb dX12_next_405 rfl hk (hJ 147)) ?_
  refine rz_All_c (i := 129) (fun k J hk hJ => rz_iload_n_ok (pc := 408) hx hb dX12_next_408 rfl hk) ?_
  refine rz_All_c (i := 130) (fun k J hk hJ => rz_bipush_ok (pc := 409) hx hb dX12_next_409 (by decide) hk) ?_
  refine rz_All_c (i := 131) (fun k J hk hJ => rz_icmpeq_ok (pc := 411) hx hb dX12_next_411 rfl hk (hJ 147)) ?_
  refine rz_All_c (i := 132) (fun k J hk hJ => rz_iload_n_ok (pc := 414) hx hb dX12_next_414 rfl hk) ?_
  refine rz_All_c (i := 133) (fun k J hk hJ => rz_bipush_ok (pc := 415) hx hb dX12_next_415 (by decide) hk) ?_
  refine rz_All_c (i := 134) (fun k J hk hJ => rz_icmpeq_ok (pc := 417) hx hb dX12_next_417 rfl hk (hJ 147)) ?_
  refine rz_All_c (i := 135) (fun k J hk hJ => rz_iload_n_ok (pc := 420) hx hb dX12_next_420 rfl hk) ?_
  refine rz_All_c (i := 136) (fun k J hk hJ => rz_bipush_ok (pc := 421) hx hb dX12_next_421 (by decide) hk) ?_
  refine rz_All_c (i := 137) (fun k J hk hJ => rz_icmpeq_ok (pc := 423) hx hb dX12_next_423 rfl hk (hJ 147)) ?_
  refine rz_All_c (i := 138) (fun k J hk hJ => rz_iload_n_ok (pc := 426) hx hb dX12_next_426 rfl hk) ?_
  refine rz_All_c (i := 139) (fun k J hk hJ => rz_bipush_ok (pc := 427) hx hb dX12_next_427 (by decide) hk) ?_
  refine rz_All_c (i := 140) (fun k J hk hJ => rz_icmpeq_ok (pc := 429) hx hb dX12_next_429 rfl hk (hJ 147)) ?_
  refine rz_All_c (i := 141) (fun k J hk hJ => rz_iload_n_ok (pc := 432) hx hb dX12_next_432 rfl hk) ?_
  refine rz_All_c (i := 142) (fun k J hk hJ => rz_bipush_ok (pc := 433) hx hb dX12_next_433 (by decide) hk) ?_
  refine rz_All_c (i := 143) (fun k J hk hJ => rz_icmpeq_ok (pc := 435) hx hb dX12_next_435 rfl hk (hJ 147)) ?_
  refine rz_All_c (i := 144) (fun k J hk hJ => rz_iload_n_ok (pc := 438) hx hb dX12_next_438 rfl hk) ?_
  refine rz_All_c (i := 145) (fun k J hk hJ => rz_bipush_ok (pc := 439) hx hb dX12_next_439 (by decide) hk) ?_
  refine rz_All_c (i := 146) (fun k J hk hJ => rz_icmpne_ok (pc := 441) hx hb dX12_next_441 rfl hk (hJ 160)) ?_
  refine rz_All_c (i := 147) (fun k J hk hJ => rz_aload_n_ok (pc := 444) hx hb dX12_next_444 rfl hk) ?_
  refine rz_All_c (i := 148) (fun k J hk hJ => rz_dup_ok (pc := 445) hx hb dX12_next_445 hk) ?_
  refine rz_All_c (i := 149) (fun k J hk hJ => rz_getf_ok (pc := 446) (own := RX12) (ref := "ThreadJudgeModel") (C := RX12) (T := TX12) (N := 257) (ci := 14) (index := 581) (f := 4) (t := 0) (Ts := Cond.code yX12_next cX12_next 3 none :: rz_TB) hx hb hts rz_in14 ho hK rfl (by decide) rfl (fun _ => rfl) (hw (i := 32) (j := 15) rfl rfl) (fun _ z => z) dX12_next_446 hk) ?_
  refine rz_All_c (i := 150) (fun k J hk hJ => rz_iconst_ok (pc := 449) hx hb dX12_next_449 rfl hk) ?_
  refine rz_All_c (i := 151) (fun k J hk hJ => rz_iadd_ok (pc := 450) hx hb dX12_next_450 hk) ?_
  refine rz_All_c (i := 152) (fun k J hk hJ => rz_putf_ok (pc := 451) (own := RX12) (ref := "ThreadJudgeModel") (C := RX12) (T := TX12) (N := 257) (ci := 14) (index := 581) (f := 4) (t := 0) (Ts := Cond.code yX12_next cX12_next 3 none :: rz_TB) hx hb hts rz_in14 tyX12 tyX12_ok nmX12 ho hK hA rfl (by decide) rfl (rz_UnI _) rfl (tyX12_ok 4 (by decide)) (hw (i := 32) (j := 15) rfl rfl) (fun _ z => z) dX12_next_451 hk) ?_
  refine rz_All_c (i := 153) (fun k J hk hJ => rz_aload_n_ok (pc := 454) hx hb dX12_next_454 rfl hk) ?_
  refine rz_All_c (i := 154) (fun k J hk hJ => rz_iconst_ok (pc := 455) hx hb dX12_next_455 rfl hk) ?_
  refine rz_All_c (i := 155) (fun k J hk hJ => rz_putf_ok (pc := 456) (own := RX12) (ref := "ThreadJudgeModel") (C := RX12) (T := TX12) (N := 257) (ci := 14) (index := 588) (f := 5) (t := 0) (Ts := Cond.code yX12_next cX12_next 3 none :: rz_TB) hx hb hts rz_in14 tyX12 tyX12_ok nmX12 ho hK hA rfl (by decide) rfl (rz_UnI _) rfl (tyX12_ok 5 (by decide)) (hw (i := 33) (j := 2) rfl rfl) (fun _ z => z) dX12_next_456 hk) ?_
  refine rz_All_c (i := 156) (fun k J hk hJ => rz_aload_n_ok (pc := 459) hx hb dX12_next_459 rfl hk) ?_
  refine rz_All_c (i := 157) (fun k J hk hJ => rz_iload_n_ok (pc := 460) hx hb dX12_next_460 rfl hk) ?_
  refine rz_All_c (i := 158) (fun k J hk hJ => rz_putf_ok (pc := 461) (own := RX12) (ref := "ThreadJudgeModel") (C := RX12) (T := TX12) (N := 257) (ci := 14) (index := 611) (f := 8) (t := 0) (Ts := Cond.code yX12_next cX12_next 3 none :: rz_TB) hx hb hts rz_in14 tyX12 tyX12_ok nmX12 ho hK hA rfl (by decide) rfl (rz_UnI _) rfl (tyX12_ok 8 (by decide)) (hw (i := 35) (j := 2) rfl rfl) (fun _ z => z) dX12_next_461 hk) ?_
  refine rz_All_c (i := 159) (fun k J hk hJ => rz_goto_ok (pc := 464) hx hb dX12_next_464 rfl (hJ 161)) ?_
  refine rz_All_c (i := 160) (fun k J hk hJ => rz_no_ok) ?_
  refine rz_All_c (i := 161) (fun k J hk hJ => rz_vret_ok (pc := 475) hC dX12_next_475) ?_
  exact trivial
theorem dX12_can_0 : decode cX12_can 0 = .ok (.iload_n 1, 1) := by decide +kernel
theorem dX12_can_1 : decode cX12_can 1 = .ok (.ifCond .ne 40, 3) := by decide +kernel
theorem dX12_can_41 : decode cX12_can 41 = .ok (.iload_n 1, 1) := by decide +kernel
theorem dX12_can_42 : decode cX12_can 42 = .ok (.ireturn, 1) := by decide +kernel
def rpX12_can : List Nat := [0, 1, 4, 41, 42]
noncomputable def rcX12_can : List rz_B := [rz_iload 1, rz_ifne 3, rz_no, rz_iload 1, rz_zret]
noncomputable def rgX12_can : rz_L → rz_M → rz_Z → Bool := rz_go rcX12_can 2 1000000
def rrX12_can : Room := { frames := 0, cells := 0, slots := 0, locals := 0 }
theorem rmX12_can (l : Launch) {G : rz_G} (hG : rz_Gd G) (vs : rz_L) (M : rz_M) (Z : rz_Z) (hn : vs.length = 2) (h : rgX12_can vs M Z = true) : Met l yX12_can (Cond.code yX12_can cX12_can 2 (some .boolean) :: rz_TB) rrX12_can (rz_Pre G vs M) (rz_Qi G M.2 Z) 0 0 (fun q => rz_b G ≤ q) := by
  obtain ⟨D, tc, ad, b, xs, rfl⟩ := id hG
  refine rz_body (pcs := rpX12_can) (by decide) rfl (by rw [hn]; decide) h ?_
  intro p e R s m args below meth c hC
  obtain ⟨hx, hb, hml, hr, hlk, ho, hts, hKn, hRm⟩ := id hC
  obtain ⟨hK, hA, hSt⟩ := id hKn
  have hw : ∀ {i j : Nat} {ws : List Cond} {w : Cond}, rz_WW[i]? = some ws → ws[j]? = some w → w.before args s = true := fun h1 h2 => hts _ (List.mem_cons_of_mem _ (rz_mem h1 h2))
  refine rz_All_c (i := 0) (fun k J hk hJ => rz_iload_n_ok (pc := 0) hx hb dX12_can_0 rfl hk) ?_
  refine rz_All_c (i := 1) (fun k J hk hJ => rz_ifne_ok (pc := 1) hx hb dX12_can_1 rfl hk (hJ 3)) ?_
  refine rz_All_c (i := 2) (fun k J hk hJ => rz_no_ok) ?_
  refine rz_All_c (i := 3) (fun k J hk hJ => rz_iload_n_ok (pc := 41) hx hb dX12_can_41 rfl hk) ?_
  refine rz_All_c (i := 4) (fun k J hk hJ => rz_zret_ok (pc := 42) hC dX12_can_42) ?_
  exact trivial
theorem dX12_isName_0 : decode cX12_isName 0 = .ok (.aload_n 0, 1) := by decide +kernel
theorem dX12_isName_1 : decode cX12_isName 1 = .ok (.getfield 588, 3) := by decide +kernel
theorem dX12_isName_4 : decode cX12_isName 4 = .ok (.iconst 1, 1) := by decide +kernel
theorem dX12_isName_5 : decode cX12_isName 5 = .ok (.if_icmp .ne 45, 3) := by decide +kernel
theorem dX12_isName_8 : decode cX12_isName 8 = .ok (.aload_n 0, 1) := by decide +kernel
theorem dX12_isName_9 : decode cX12_isName 9 = .ok (.ldc_w 651, 3) := by decide +kernel
theorem dX12_isName_12 : decode cX12_isName 12 = .ok (.aload_n 0, 1) := by decide +kernel
theorem dX12_isName_13 : decode cX12_isName 13 = .ok (.getfield 591, 3) := by decide +kernel
theorem dX12_isName_16 : decode cX12_isName 16 = .ok (.aload_n 0, 1) := by decide +kernel
theorem dX12_isName_17 : decode cX12_isName 17 = .ok (.getfield 620, 3) := by decide +kernel
theorem dX12_isName_20 : decode cX12_isName 20 = .ok (.invokevirtual 653, 3) := by decide +kernel
theorem dX12_isName_23 : decode cX12_isName 23 = .ok (.iconst (-1), 1) := by decide +kernel
theorem dX12_isName_24 : decode cX12_isName 24 = .ok (.if_icmp .ne 26, 3) := by decide +kernel
theorem dX12_isName_27 : decode cX12_isName 27 = .ok (.aload_n 0, 1) := by decide +kernel
theorem dX12_isName_28 : decode cX12_isName 28 = .ok (.ldc_w 657, 3) := by decide +kernel
theorem dX12_isName_31 : decode cX12_isName 31 = .ok (.aload_n 0, 1) := by decide +kernel
theorem dX12_isName_32 : decode cX12_isName 32 = .ok (.getfield 591, 3) := by decide +kernel
theorem dX12_isName_35 : decode cX12_isName 35 = .ok (.aload_n 0, 1) := by decide +kernel
theorem dX12_isName_36 : decode cX12_isName 36 = .ok (.getfield 620, 3) := by decide +kernel
theorem dX12_isName_39 : decode cX12_isName 39 = .ok (.invokevirtual 653, 3) := by decide +kernel
theorem dX12_isName_42 : decode cX12_isName 42 = .ok (.iconst (-1), 1) := by decide +kernel
theorem dX12_isName_43 : decode cX12_isName 43 = .ok (.if_icmp .ne 7, 3) := by decide +kernel
theorem dX12_isName_46 : decode cX12_isName 46 = .ok (.iconst 1, 1) := by decide +kernel
theorem dX12_isName_47 : decode cX12_isName 47 = .ok (.goto 4, 3) := by decide +kernel
theorem dX12_isName_50 : decode cX12_isName 50 = .ok (.iconst 0, 1) := by decide +kernel
theorem dX12_isName_51 : decode cX12_isName 51 = .ok (.ireturn, 1) := by decide +kernel
def rpX12_isName : List Nat := [0, 1, 4, 5, 8, 9, 12, 13, 16, 17, 20, 23, 24, 27, 28, 31, 32, 35, 36, 39, 42, 43, 46, 47, 50, 51]
noncomputable def rcX12_isName : List rz_B := [rz_aload 0, rz_getf (Nat.add (Nat.mul 256 14) 1) 5 rz_i, rz_cst 1, rz_icmpne 24, rz_aload 0, rz_txt 1000012, rz_aload 0, rz_getf (Nat.add (Nat.mul 256 14) 1) 6 rz_i, rz_aload 0, rz_getf (Nat.add (Nat.mul 256 14) 1) 7 rz_i, rz_callV 3 (Nat.add (Nat.mul 256 14) 1) rgX12_wordOf, rz_cst 4294967295, rz_icmpne 24, rz_aload 0, rz_txt 1000013, rz_aload 0, rz_getf (Nat.add (Nat.mul 256 14) 1) 6 rz_i, rz_aload 0, rz_getf (Nat.add (Nat.mul 256 14) 1) 7 rz_i, rz_callV 3 (Nat.add (Nat.mul 256 14) 1) rgX12_wordOf, rz_cst 4294967295, rz_icmpne 24, rz_cst 1, rz_goto 25, rz_cst 0, rz_zret]
noncomputable def rgX12_isName : rz_L → rz_M → rz_Z → Bool := rz_go rcX12_isName 1 1000000
def rrX12_isName : Room := { frames := 5, cells := 0, slots := 0, locals := 151 }
theorem rmX12_isName (l : Launch) {G : rz_G} (hG : rz_Gd G) (vs : rz_L) (M : rz_M) (Z : rz_Z) (hn : vs.length = 1) (h : rgX12_isName vs M Z = true) : Met l yX12_isName (Cond.code yX12_isName cX12_isName 1 (some .boolean) :: rz_TB) rrX12_isName (rz_Pre G vs M) (rz_Qi G M.2 Z) 0 0 (fun q => rz_b G ≤ q) := by
  obtain ⟨D, tc, ad, b, xs, rfl⟩ := id hG
  refine rz_body (pcs := rpX12_isName) (by decide) rfl (by rw [hn]; decide) h ?_
  intro p e R s m args below meth c hC
  obtain ⟨hx, hb, hml, hr, hlk, ho, hts, hKn, hRm⟩ := id hC
  obtain ⟨hK, hA, hSt⟩ := id hKn
  have hw : ∀ {i j : Nat} {ws : List Cond} {w : Cond}, rz_WW[i]? = some ws → ws[j]? = some w → w.before args s = true := fun h1 h2 => hts _ (List.mem_cons_of_mem _ (rz_mem h1 h2))
  refine rz_All_c (i := 0) (fun k J hk hJ => rz_aload_n_ok (pc := 0) hx hb dX12_isName_0 rfl hk) ?_
  refine rz_All_c (i := 1) (fun k J hk hJ => rz_getf_ok (pc := 1) (own := RX12) (ref := "ThreadJudgeModel") (C := RX12) (T := TX12) (N := 257) (ci := 14) (index := 588) (f := 5) (t := 0) (Ts := Cond.code yX12_isName cX12_isName 1 (some .boolean) :: rz_TB) hx hb hts rz_in14 ho hK rfl (by decide) rfl (fun _ => rfl) (hw (i := 33) (j := 2) rfl rfl) (fun _ z => z) dX12_isName_1 hk) ?_
  refine rz_All_c (i := 2) (fun k J hk hJ => rz_iconst_ok (pc := 4) hx hb dX12_isName_4 rfl hk) ?_
  refine rz_All_c (i := 3) (fun k J hk hJ => rz_icmpne_ok (pc := 5) hx hb dX12_isName_5 rfl hk (hJ 24)) ?_
  refine rz_All_c (i := 4) (fun k J hk hJ => rz_aload_n_ok (pc := 8) hx hb dX12_isName_8 rfl hk) ?_
  refine rz_All_c (i := 5) (fun k J hk hJ => rz_ldcwS_ok (pc := 9) (i := 11) hx hb (hSt.2.1 ("ThreadJudgeModel", 651, "abstract excluded class interface extends implements static volatile final synchronized field method catch int void ", 11) (List.mem_of_getElem? (i := 12) rfl)) ho dX12_isName_9 hk) ?_
  refine rz_All_c (i := 6) (fun k J hk hJ => rz_aload_n_ok (pc := 12) hx hb dX12_isName_12 rfl hk) ?_
  refine rz_All_c (i := 7) (fun k J hk hJ => rz_getf_ok (pc := 13) (own := RX12) (ref := "ThreadJudgeModel") (C := RX12) (T := TX12) (N := 257) (ci := 14) (index := 591) (f := 6) (t := 0) (Ts := Cond.code yX12_isName cX12_isName 1 (some .boolean) :: rz_TB) hx hb hts rz_in14 ho hK rfl (by decide) rfl (fun _ => rfl) (hw (i := 33) (j := 3) rfl rfl) (fun _ z => z) dX12_isName_13 hk) ?_
  refine rz_All_c (i := 8) (fun k J hk hJ => rz_aload_n_ok (pc := 16) hx hb dX12_isName_16 rfl hk) ?_
  refine rz_All_c (i := 9) (fun k J hk hJ => rz_getf_ok (pc := 17) (own := RX12) (ref := "ThreadJudgeModel") (C := RX12) (T := TX12) (N := 257) (ci := 14) (index := 620) (f := 7) (t := 0) (Ts := Cond.code yX12_isName cX12_isName 1 (some .boolean) :: rz_TB) hx hb hts rz_in14 ho hK rfl (by decide) rfl (fun _ => rfl) (hw (i := 35) (j := 1) rfl rfl) (fun _ z => z) dX12_isName_17 hk) ?_
  refine rz_All_c (i := 10) (fun k J hk hJ => rz_callV_ok (pc := 20) (own := RX12) (C := RX12) (T0 := TX12) (N0 := 257) hC rfl (rmX12_wordOf l hG) (rz_cwV 3 hC rz_good (rz_mem (i := 37) (j := 4) rfl rfl) (rz_mem (i := 37) (j := 5) rfl rfl) (rz_mem (i := 37) (j := 6) rfl rfl) (rz_mem (i := 32) (j := 8) rfl rfl) (rz_mem (i := 37) (j := 7) rfl rfl) ⟨rfl, by decide, by decide, by decide +kernel⟩ rfl rfl ⟨by decide, by decide⟩) rfl dX12_isName_20 hk) ?_
  refine rz_All_c (i := 11) (fun k J hk hJ => rz_iconst_ok (pc := 23) hx hb dX12_isName_23 rfl hk) ?_
  refine rz_All_c (i := 12) (fun k J hk hJ => rz_icmpne_ok (pc := 24) hx hb dX12_isName_24 rfl hk (hJ 24)) ?_
  refine rz_All_c (i := 13) (fun k J hk hJ => rz_aload_n_ok (pc := 27) hx hb dX12_isName_27 rfl hk) ?_
  refine rz_All_c (i := 14) (fun k J hk hJ => rz_ldcwS_ok (pc := 28) (i := 12) hx hb (hSt.2.1 ("ThreadJudgeModel", 657, "push string null load store inc add sub mul div rem neg and or xor shl shr pop dup under swap goto ifeq ifne iflt ifge ifgt ifle cmpeq cmpne cmplt cmpge cmpgt cmple same other ifnull ifsome get put getstatic putstatic new array element setelement length cast is virtual special call lambda enter exit throw return give ", 12) (List.mem_of_getElem? (i := 13) rfl)) ho dX12_isName_28 hk) ?_
  refine rz_All_c (i := 15) (fun k J hk hJ => rz_aload_n_ok (pc := 31) hx hb dX12_isName_31 rfl hk) ?_
  refine rz_All_c (i := 16) (fun k J hk hJ => rz_getf_ok (pc := 32) (own := RX12) (ref := "ThreadJudgeModel") (C := RX12) (T := TX12) (N := 257) (ci := 14) (index := 591) (f := 6) (t := 0) (Ts := Cond.code yX12_isName cX12_isName 1 (some .boolean) :: rz_TB) hx hb hts rz_in14 ho hK rfl (by decide) rfl (fun _ => rfl) (hw (i := 33) (j := 3) rfl rfl) (fun _ z => z) dX12_isName_32 hk) ?_
  refine rz_All_c (i := 17) (fun k J hk hJ => rz_aload_n_ok (pc := 35) hx hb dX12_isName_35 rfl hk) ?_
  refine rz_All_c (i := 18) (fun k J hk hJ => rz_getf_ok (pc := 36) (own := RX12) (ref := "ThreadJudgeModel") (C := RX12) (T := TX12) (N := 257) (ci := 14) (index := 620) (f := 7) (t := 0) (Ts := Cond.code yX12_isName cX12_isName 1 (some .boolean) :: rz_TB) hx hb hts rz_in14 ho hK rfl (by decide) rfl (fun _ => rfl) (hw (i := 35) (j := 1) rfl rfl) (fun _ z => z) dX12_isName_36 hk) ?_
  refine rz_All_c (i := 19) (fun k J hk hJ => rz_callV_ok (pc := 39) (own := RX12) (C := RX12) (T0 := TX12) (N0 := 257) hC rfl (rmX12_wordOf l hG) (rz_cwV 3 hC rz_good (rz_mem (i := 37) (j := 4) rfl rfl) (rz_mem (i := 37) (j := 5) rfl rfl) (rz_mem (i := 37) (j := 6) rfl rfl) (rz_mem (i := 32) (j := 8) rfl rfl) (rz_mem (i := 37) (j := 7) rfl rfl) ⟨rfl, by decide, by decide, by decide +kernel⟩ rfl rfl ⟨by decide, by decide⟩) rfl dX12_isName_39 hk) ?_
  refine rz_All_c (i := 20) (fun k J hk hJ => rz_iconst_ok (pc := 42) hx hb dX12_isName_42 rfl hk) ?_
  refine rz_All_c (i := 21) (fun k J hk hJ => rz_icmpne_ok (pc := 43) hx hb dX12_isName_43 rfl hk (hJ 24)) ?_
  refine rz_All_c (i := 22) (fun k J hk hJ => rz_iconst_ok (pc := 46) hx hb dX12_isName_46 rfl hk) ?_
  refine rz_All_c (i := 23) (fun k J hk hJ => rz_goto_ok (pc := 47) hx hb dX12_isName_47 rfl (hJ 25)) ?_
  refine rz_All_c (i := 24) (fun k J hk hJ => rz_iconst_ok (pc := 50) hx hb dX12_isName_50 rfl hk) ?_
  refine rz_All_c (i := 25) (fun k J hk hJ => rz_zret_ok (pc := 51) hC dX12_isName_51) ?_
  exact trivial
theorem dX12_isSign_0 : decode cX12_isSign 0 = .ok (.aload_n 0, 1) := by decide +kernel
theorem dX12_isSign_1 : decode cX12_isSign 1 = .ok (.getfield 588, 3) := by decide +kernel
theorem dX12_isSign_4 : decode cX12_isSign 4 = .ok (.iconst 4, 1) := by decide +kernel
theorem dX12_isSign_5 : decode cX12_isSign 5 = .ok (.if_icmp .ne 15, 3) := by decide +kernel
theorem dX12_isSign_8 : decode cX12_isSign 8 = .ok (.aload_n 0, 1) := by decide +kernel
theorem dX12_isSign_9 : decode cX12_isSign 9 = .ok (.getfield 611, 3) := by decide +kernel
theorem dX12_isSign_12 : decode cX12_isSign 12 = .ok (.iload_n 1, 1) := by decide +kernel
theorem dX12_isSign_13 : decode cX12_isSign 13 = .ok (.if_icmp .ne 7, 3) := by decide +kernel
theorem dX12_isSign_16 : decode cX12_isSign 16 = .ok (.iconst 1, 1) := by decide +kernel
theorem dX12_isSign_17 : decode cX12_isSign 17 = .ok (.goto 4, 3) := by decide +kernel
theorem dX12_isSign_20 : decode cX12_isSign 20 = .ok (.iconst 0, 1) := by decide +kernel
theorem dX12_isSign_21 : decode cX12_isSign 21 = .ok (.ireturn, 1) := by decide +kernel
def rpX12_isSign : List Nat := [0, 1, 4, 5, 8, 9, 12, 13, 16, 17, 20, 21]
noncomputable def rcX12_isSign : List rz_B := [rz_aload 0, rz_getf (Nat.add (Nat.mul 256 14) 1) 5 rz_i, rz_cst 4, rz_icmpne 10, rz_aload 0, rz_getf (Nat.add (Nat.mul 256 14) 1) 8 rz_i, rz_iload 1, rz_icmpne 10, rz_cst 1, rz_goto 11, rz_cst 0, rz_zret]
noncomputable def rgX12_isSign : rz_L → rz_M → rz_Z → Bool := rz_go rcX12_isSign 2 1000000
def rrX12_isSign : Room := { frames := 0, cells := 0, slots := 0, locals := 0 }
theorem rmX12_isSign (l : Launch) {G : rz_G} (hG : rz_Gd G) (vs : rz_L) (M : rz_M) (Z : rz_Z) (hn : vs.length = 2) (h : rgX12_isSign vs M Z = true) : Met l yX12_isSign (Cond.code yX12_isSign cX12_isSign 2 (some .boolean) :: rz_TB) rrX12_isSign (rz_Pre G vs M) (rz_Qi G M.2 Z) 0 0 (fun q => rz_b G ≤ q) := by
  obtain ⟨D, tc, ad, b, xs, rfl⟩ := id hG
  refine rz_body (pcs := rpX12_isSign) (by decide) rfl (by rw [hn]; decide) h ?_
  intro p e R s m args below meth c hC
  obtain ⟨hx, hb, hml, hr, hlk, ho, hts, hKn, hRm⟩ := id hC
  obtain ⟨hK, hA, hSt⟩ := id hKn
  have hw : ∀ {i j : Nat} {ws : List Cond} {w : Cond}, rz_WW[i]? = some ws → ws[j]? = some w → w.before args s = true := fun h1 h2 => hts _ (List.mem_cons_of_mem _ (rz_mem h1 h2))
  refine rz_All_c (i := 0) (fun k J hk hJ => rz_aload_n_ok (pc := 0) hx hb dX12_isSign_0 rfl hk) ?_
  refine rz_All_c (i := 1) (fun k J hk hJ => rz_getf_ok (pc := 1) (own := RX12) (ref := "ThreadJudgeModel") (C := RX12) (T := TX12) (N := 257) (ci := 14) (index := 588) (f := 5) (t := 0) (Ts := Cond.code yX12_isSign cX12_isSign 2 (some .boolean) :: rz_TB) hx hb hts rz_in14 ho hK rfl (by decide) rfl (fun _ => rfl) (hw (i := 33) (j := 2) rfl rfl) (fun _ z => z) dX12_isSign_1 hk) ?_
  refine rz_All_c (i := 2) (fun k J hk hJ => rz_iconst_ok (pc := 4) hx hb dX12_isSign_4 rfl hk) ?_
  refine rz_All_c (i := 3) (fun k J hk hJ => rz_icmpne_ok (pc := 5) hx hb dX12_isSign_5 rfl hk (hJ 10)) ?_
  refine rz_All_c (i := 4) (fun k J hk hJ => rz_aload_n_ok (pc := 8) hx hb dX12_isSign_8 rfl hk) ?_
  refine rz_All_c (i := 5) (fun k J hk hJ => rz_getf_ok (pc := 9) (own := RX12) (ref := "ThreadJudgeModel") (C := RX12) (T := TX12) (N := 257) (ci := 14) (index := 611) (f := 8) (t := 0) (Ts := Cond.code yX12_isSign cX12_isSign 2 (some .boolean) :: rz_TB) hx hb hts rz_in14 ho hK rfl (by decide) rfl (fun _ => rfl) (hw (i := 35) (j := 2) rfl rfl) (fun _ z => z) dX12_isSign_9 hk) ?_
  refine rz_All_c (i := 6) (fun k J hk hJ => rz_iload_n_ok (pc := 12) hx hb dX12_isSign_12 rfl hk) ?_
  refine rz_All_c (i := 7) (fun k J hk hJ => rz_icmpne_ok (pc := 13) hx hb dX12_isSign_13 rfl hk (hJ 10)) ?_
  refine rz_All_c (i := 8) (fun k J hk hJ => rz_iconst_ok (pc := 16) hx hb dX12_isSign_16 rfl hk) ?_
  refine rz_All_c (i := 9) (fun k J hk hJ => rz_goto_ok (pc := 17) hx hb dX12_isSign_17 rfl (hJ 11)) ?_
  refine rz_All_c (i := 10) (fun k J hk hJ => rz_iconst_ok (pc := 20) hx hb dX12_isSign_20 rfl hk) ?_
  refine rz_All_c (i := 11) (fun k J hk hJ => rz_zret_ok (pc := 21) hC dX12_isSign_21) ?_
  exact trivial
theorem dX12_isWord_0 : decode cX12_isWord 0 = .ok (.aload_n 0, 1) := by decide +kernel
theorem dX12_isWord_1 : decode cX12_isWord 1 = .ok (.getfield 588, 3) := by decide +kernel
theorem dX12_isWord_4 : decode cX12_isWord 4 = .ok (.iconst 1, 1) := by decide +kernel
theorem dX12_isWord_5 : decode cX12_isWord 5 = .ok (.if_icmp .ne 26, 3) := by decide +kernel
theorem dX12_isWord_8 : decode cX12_isWord 8 = .ok (.aload_n 0, 1) := by decide +kernel
theorem dX12_isWord_9 : decode cX12_isWord 9 = .ok (.ldc_w 651, 3) := by decide +kernel
theorem dX12_isWord_12 : decode cX12_isWord 12 = .ok (.aload_n 0, 1) := by decide +kernel
theorem dX12_isWord_13 : decode cX12_isWord 13 = .ok (.getfield 591, 3) := by decide +kernel
theorem dX12_isWord_16 : decode cX12_isWord 16 = .ok (.aload_n 0, 1) := by decide +kernel
theorem dX12_isWord_17 : decode cX12_isWord 17 = .ok (.getfield 620, 3) := by decide +kernel
theorem dX12_isWord_20 : decode cX12_isWord 20 = .ok (.invokevirtual 653, 3) := by decide +kernel
theorem dX12_isWord_23 : decode cX12_isWord 23 = .ok (.iload_n 1, 1) := by decide +kernel
theorem dX12_isWord_24 : decode cX12_isWord 24 = .ok (.if_icmp .ne 7, 3) := by decide +kernel
theorem dX12_isWord_27 : decode cX12_isWord 27 = .ok (.iconst 1, 1) := by decide +kernel
theorem dX12_isWord_28 : decode cX12_isWord 28 = .ok (.goto 4, 3) := by decide +kernel
theorem dX12_isWord_31 : decode cX12_isWord 31 = .ok (.iconst 0, 1) := by decide +kernel
theorem dX12_isWord_32 : decode cX12_isWord 32 = .ok (.ireturn, 1) := by decide +kernel
def rpX12_isWord : List Nat := [0, 1, 4, 5, 8, 9, 12, 13, 16, 17, 20, 23, 24, 27, 28, 31, 32]
noncomputable def rcX12_isWord : List rz_B := [rz_aload 0, rz_getf (Nat.add (Nat.mul 256 14) 1) 5 rz_i, rz_cst 1, rz_icmpne 15, rz_aload 0, rz_txt 1000012, rz_aload 0, rz_getf (Nat.add (Nat.mul 256 14) 1) 6 rz_i, rz_aload 0, rz_getf (Nat.add (Nat.mul 256 14) 1) 7 rz_i, rz_callV 3 (Nat.add (Nat.mul 256 14) 1) rgX12_wordOf, rz_iload 1, rz_icmpne 15, rz_cst 1, rz_goto 16, rz_cst 0, rz_zret]
noncomputable def rgX12_isWord : rz_L → rz_M → rz_Z → Bool := rz_go rcX12_isWord 2 1000000
def rrX12_isWord : Room := { frames := 5, cells := 0, slots := 0, locals := 151 }
theorem rmX12_isWord (l : Launch) {G : rz_G} (hG : rz_Gd G) (vs : rz_L) (M : rz_M) (Z : rz_Z) (hn : vs.length = 2) (h : rgX12_isWord vs M Z = true) : Met l yX12_isWord (Cond.code yX12_isWord cX12_isWord 2 (some .boolean) :: rz_TB) rrX12_isWord (rz_Pre G vs M) (rz_Qi G M.2 Z) 0 0 (fun q => rz_b G ≤ q) := by
  obtain ⟨D, tc, ad, b, xs, rfl⟩ := id hG
  refine rz_body (pcs := rpX12_isWord) (by decide) rfl (by rw [hn]; decide) h ?_
  intro p e R s m args below meth c hC
  obtain ⟨hx, hb, hml, hr, hlk, ho, hts, hKn, hRm⟩ := id hC
  obtain ⟨hK, hA, hSt⟩ := id hKn
  have hw : ∀ {i j : Nat} {ws : List Cond} {w : Cond}, rz_WW[i]? = some ws → ws[j]? = some w → w.before args s = true := fun h1 h2 => hts _ (List.mem_cons_of_mem _ (rz_mem h1 h2))
  refine rz_All_c (i := 0) (fun k J hk hJ => rz_aload_n_ok (pc := 0) hx hb dX12_isWord_0 rfl hk) ?_
  refine rz_All_c (i := 1) (fun k J hk hJ => rz_getf_ok (pc := 1) (own := RX12) (ref := "ThreadJudgeModel") (C := RX12) (T := TX12) (N := 257) (ci := 14) (index := 588) (f := 5) (t := 0) (Ts := Cond.code yX12_isWord cX12_isWord 2 (some .boolean) :: rz_TB) hx hb hts rz_in14 ho hK rfl (by decide) rfl (fun _ => rfl) (hw (i := 33) (j := 2) rfl rfl) (fun _ z => z) dX12_isWord_1 hk) ?_
  refine rz_All_c (i := 2) (fun k J hk hJ => rz_iconst_ok (pc := 4) hx hb dX12_isWord_4 rfl hk) ?_
  refine rz_All_c (i := 3) (fun k J hk hJ => rz_icmpne_ok (pc := 5) hx hb dX12_isWord_5 rfl hk (hJ 15)) ?_
  refine rz_All_c (i := 4) (fun k J hk hJ => rz_aload_n_ok (pc := 8) hx hb dX12_isWord_8 rfl hk) ?_
  refine rz_All_c (i := 5) (fun k J hk hJ => rz_ldcwS_ok (pc := 9) (i := 11) hx hb (hSt.2.1 ("ThreadJudgeModel", 651, "abstract excluded class interface extends implements static volatile final synchronized field method catch int void ", 11) (List.mem_of_getElem? (i := 12) rfl)) ho dX12_isWord_9 hk) ?_
  refine rz_All_c (i := 6) (fun k J hk hJ => rz_aload_n_ok (pc := 12) hx hb dX12_isWord_12 rfl hk) ?_
  refine rz_All_c (i := 7) (fun k J hk hJ => rz_getf_ok (pc := 13) (own := RX12) (ref := "ThreadJudgeModel") (C := RX12) (T := TX12) (N := 257) (ci := 14) (index := 591) (f := 6) (t := 0) (Ts := Cond.code yX12_isWord cX12_isWord 2 (some .boolean) :: rz_TB) hx hb hts rz_in14 ho hK rfl (by decide) rfl (fun _ => rfl) (hw (i := 33) (j := 3) rfl rfl) (fun _ z => z) dX12_isWord_13 hk) ?_
  refine rz_All_c (i := 8) (fun k J hk hJ => rz_aload_n_ok (pc := 16) hx hb dX12_isWord_16 rfl hk) ?_
  refine rz_All_c (i := 9) (fun k J hk hJ => rz_getf_ok (pc := 17) (own := RX12) (ref := "ThreadJudgeModel") (C := RX12) (T := TX12) (N := 257) (ci := 14) (index := 620) (f := 7) (t := 0) (Ts := Cond.code yX12_isWord cX12_isWord 2 (some .boolean) :: rz_TB) hx hb hts rz_in14 ho hK rfl (by decide) rfl (fun _ => rfl) (hw (i := 35) (j := 1) rfl rfl) (fun _ z => z) dX12_isWord_17 hk) ?_
  refine rz_All_c (i := 10) (fun k J hk hJ => rz_callV_ok (pc := 20) (own := RX12) (C := RX12) (T0 := TX12) (N0 := 257) hC rfl (rmX12_wordOf l hG) (rz_cwV 3 hC rz_good (rz_mem (i := 37) (j := 4) rfl rfl) (rz_mem (i := 37) (j := 5) rfl rfl) (rz_mem (i := 37) (j := 6) rfl rfl) (rz_mem (i := 32) (j := 8) rfl rfl) (rz_mem (i := 37) (j := 7) rfl rfl) ⟨rfl, by decide, by decide, by decide +kernel⟩ rfl rfl ⟨by decide, by decide⟩) rfl dX12_isWord_20 hk) ?_
  refine rz_All_c (i := 11) (fun k J hk hJ => rz_iload_n_ok (pc := 23) hx hb dX12_isWord_23 rfl hk) ?_
  refine rz_All_c (i := 12) (fun k J hk hJ => rz_icmpne_ok (pc := 24) hx hb dX12_isWord_24 rfl hk (hJ 15)) ?_
  refine rz_All_c (i := 13) (fun k J hk hJ => rz_iconst_ok (pc := 27) hx hb dX12_isWord_27 rfl hk) ?_
  refine rz_All_c (i := 14) (fun k J hk hJ => rz_goto_ok (pc := 28) hx hb dX12_isWord_28 rfl (hJ 16)) ?_
  refine rz_All_c (i := 15) (fun k J hk hJ => rz_iconst_ok (pc := 31) hx hb dX12_isWord_31 rfl hk) ?_
  refine rz_All_c (i := 16) (fun k J hk hJ => rz_zret_ok (pc := 32) hC dX12_isWord_32) ?_
  exact trivial
theorem dX12_name_0 : decode cX12_name 0 = .ok (.aload_n 0, 1) := by decide +kernel
theorem dX12_name_1 : decode cX12_name 1 = .ok (.aload_n 0, 1) := by decide +kernel
theorem dX12_name_2 : decode cX12_name 2 = .ok (.invokevirtual 659, 3) := by decide +kernel
theorem dX12_name_5 : decode cX12_name 5 = .ok (.invokevirtual 644, 3) := by decide +kernel
theorem dX12_name_8 : decode cX12_name 8 = .ok (.ifCond .ne 5, 3) := by decide +kernel
theorem dX12_name_13 : decode cX12_name 13 = .ok (.aload_n 0, 1) := by decide +kernel
theorem dX12_name_14 : decode cX12_name 14 = .ok (.aload_n 0, 1) := by decide +kernel
theorem dX12_name_15 : decode cX12_name 15 = .ok (.getfield 591, 3) := by decide +kernel
theorem dX12_name_18 : decode cX12_name 18 = .ok (.putfield 669, 3) := by decide +kernel
theorem dX12_name_21 : decode cX12_name 21 = .ok (.aload_n 0, 1) := by decide +kernel
theorem dX12_name_22 : decode cX12_name 22 = .ok (.aload_n 0, 1) := by decide +kernel
theorem dX12_name_23 : decode cX12_name 23 = .ok (.getfield 620, 3) := by decide +kernel
theorem dX12_name_26 : decode cX12_name 26 = .ok (.putfield 672, 3) := by decide +kernel
theorem dX12_name_29 : decode cX12_name 29 = .ok (.aload_n 0, 1) := by decide +kernel
theorem dX12_name_30 : decode cX12_name 30 = .ok (.invokevirtual 648, 3) := by decide +kernel
theorem dX12_name_33 : decode cX12_name 33 = .ok (.iconst 1, 1) := by decide +kernel
theorem dX12_name_34 : decode cX12_name 34 = .ok (.ireturn, 1) := by decide +kernel
def rpX12_name : List Nat := [0, 1, 2, 5, 8, 11, 13, 14, 15, 18, 21, 22, 23, 26, 29, 30, 33, 34]
noncomputable def rcX12_name : List rz_B := [rz_aload 0, rz_aload 0, rz_callV 0 (Nat.add (Nat.mul 256 14) 1) rgX12_isName, rz_callV 1 (Nat.add (Nat.mul 256 14) 1) rgX12_can, rz_ifne 6, rz_no, rz_aload 0, rz_aload 0, rz_getf (Nat.add (Nat.mul 256 14) 1) 6 rz_i, rz_putf (Nat.add (Nat.mul 256 14) 1) 66 rz_unI, rz_aload 0, rz_aload 0, rz_getf (Nat.add (Nat.mul 256 14) 1) 7 rz_i, rz_putf (Nat.add (Nat.mul 256 14) 1) 67 rz_unI, rz_aload 0, rz_callVv 0 (Nat.add (Nat.mul 256 14) 1) rgX12_next, rz_cst 1, rz_zret]
noncomputable def rgX12_name : rz_L → rz_M → rz_Z → Bool := rz_go rcX12_name 1 1000000
def rrX12_name : Room := { frames := 6, cells := 0, slots := 0, locals := 171 }
theorem rmX12_name (l : Launch) {G : rz_G} (hG : rz_Gd G) (vs : rz_L) (M : rz_M) (Z : rz_Z) (hn : vs.length = 1) (h : rgX12_name vs M Z = true) : Met l yX12_name (Cond.code yX12_name cX12_name 1 (some .boolean) :: rz_TB) rrX12_name (rz_Pre G vs M) (rz_Qi G M.2 Z) 0 0 (fun q => rz_b G ≤ q) := by
  obtain ⟨D, tc, ad, b, xs, rfl⟩ := id hG
  refine rz_body (pcs := rpX12_name) (by decide) rfl (by rw [hn]; decide) h ?_
  intro p e R s m args below meth c hC
  obtain ⟨hx, hb, hml, hr, hlk, ho, hts, hKn, hRm⟩ := id hC
  obtain ⟨hK, hA, hSt⟩ := id hKn
  have hw : ∀ {i j : Nat} {ws : List Cond} {w : Cond}, rz_WW[i]? = some ws → ws[j]? = some w → w.before args s = true := fun h1 h2 => hts _ (List.mem_cons_of_mem _ (rz_mem h1 h2))
  refine rz_All_c (i := 0) (fun k J hk hJ => rz_aload_n_ok (pc := 0) hx hb dX12_name_0 rfl hk) ?_
  refine rz_All_c (i := 1) (fun k J hk hJ => rz_aload_n_ok (pc := 1) hx hb dX12_name_1 rfl hk) ?_
  refine rz_All_c (i := 2) (fun k J hk hJ => rz_callV_ok (pc := 2) (own := RX12) (C := RX12) (T0 := TX12) (N0 := 257) hC rfl (rmX12_isName l hG) (rz_cwV 0 hC rz_good (rz_mem (i := 37) (j := 20) rfl rfl) (rz_mem (i := 37) (j := 21) rfl rfl) (rz_mem (i := 37) (j := 22) rfl rfl) (rz_mem (i := 32) (j := 8) rfl rfl) (rz_mem (i := 37) (j := 23) rfl rfl) ⟨rfl, by decide, by decide, by decide +kernel⟩ rfl rfl ⟨by decide, by decide⟩) rfl dX12_name_2 hk) ?_
  refine rz_All_c (i := 3) (fun k J hk hJ => rz_callV_ok (pc := 5) (own := RX12) (C := RX12) (T0 := TX12) (N0 := 257) hC rfl (rmX12_can l hG) (rz_cwV 1 hC rz_good (rz_mem (i := 37) (j := 16) rfl rfl) (rz_mem (i := 37) (j := 17) rfl rfl) (rz_mem (i := 37) (j := 18) rfl rfl) (rz_mem (i := 32) (j := 8) rfl rfl) (rz_mem (i := 37) (j := 19) rfl rfl) ⟨rfl, by decide, by decide, by decide +kernel⟩ rfl rfl ⟨by decide, by decide⟩) rfl dX12_name_5 hk) ?_
  refine rz_All_c (i := 4) (fun k J hk hJ => rz_ifne_ok (pc := 8) hx hb dX12_name_8 rfl hk (hJ 6)) ?_
  refine rz_All_c (i := 5) (fun k J hk hJ => rz_no_ok) ?_
  refine rz_All_c (i := 6) (fun k J hk hJ => rz_aload_n_ok (pc := 13) hx hb dX12_name_13 rfl hk) ?_
  refine rz_All_c (i := 7) (fun k J hk hJ => rz_aload_n_ok (pc := 14) hx hb dX12_name_14 rfl hk) ?_
  refine rz_All_c (i := 8) (fun k J hk hJ => rz_getf_ok (pc := 15) (own := RX12) (ref := "ThreadJudgeModel") (C := RX12) (T := TX12) (N := 257) (ci := 14) (index := 591) (f := 6) (t := 0) (Ts := Cond.code yX12_name cX12_name 1 (some .boolean) :: rz_TB) hx hb hts rz_in14 ho hK rfl (by decide) rfl (fun _ => rfl) (hw (i := 33) (j := 3) rfl rfl) (fun _ z => z) dX12_name_15 hk) ?_
  refine rz_All_c (i := 9) (fun k J hk hJ => rz_putf_ok (pc := 18) (own := RX12) (ref := "ThreadJudgeModel") (C := RX12) (T := TX12) (N := 257) (ci := 14) (index := 669) (f := 66) (t := 0) (Ts := Cond.code yX12_name cX12_name 1 (some .boolean) :: rz_TB) hx hb hts rz_in14 tyX12 tyX12_ok nmX12 ho hK hA rfl (by decide) rfl (rz_UnI _) rfl (tyX12_ok 66 (by decide)) (hw (i := 36) (j := 11) rfl rfl) (fun _ z => z) dX12_name_18 hk) ?_
  refine rz_All_c (i := 10) (fun k J hk hJ => rz_aload_n_ok (pc := 21) hx hb dX12_name_21 rfl hk) ?_
  refine rz_All_c (i := 11) (fun k J hk hJ => rz_aload_n_ok (pc := 22) hx hb dX12_name_22 rfl hk) ?_
  refine rz_All_c (i := 12) (fun k J hk hJ => rz_getf_ok (pc := 23) (own := RX12) (ref := "ThreadJudgeModel") (C := RX12) (T := TX12) (N := 257) (ci := 14) (index := 620) (f := 7) (t := 0) (Ts := Cond.code yX12_name cX12_name 1 (some .boolean) :: rz_TB) hx hb hts rz_in14 ho hK rfl (by decide) rfl (fun _ => rfl) (hw (i := 35) (j := 1) rfl rfl) (fun _ z => z) dX12_name_23 hk) ?_
  refine rz_All_c (i := 13) (fun k J hk hJ => rz_putf_ok (pc := 26) (own := RX12) (ref := "ThreadJudgeModel") (C := RX12) (T := TX12) (N := 257) (ci := 14) (index := 672) (f := 67) (t := 0) (Ts := Cond.code yX12_name cX12_name 1 (some .boolean) :: rz_TB) hx hb hts rz_in14 tyX12 tyX12_ok nmX12 ho hK hA rfl (by decide) rfl (rz_UnI _) rfl (tyX12_ok 67 (by decide)) (hw (i := 36) (j := 13) rfl rfl) (fun _ z => z) dX12_name_26 hk) ?_
  refine rz_All_c (i := 14) (fun k J hk hJ => rz_aload_n_ok (pc := 29) hx hb dX12_name_29 rfl hk) ?_
  refine rz_All_c (i := 15) (fun k J hk hJ => rz_callVv_ok (pc := 30) (own := RX12) (C := RX12) (T0 := TX12) (N0 := 257) hC rfl (rmX12_next l hG) (rz_cwV 0 hC rz_good (rz_mem (i := 34) (j := 21) rfl rfl) (rz_mem (i := 34) (j := 22) rfl rfl) (rz_mem (i := 34) (j := 23) rfl rfl) (rz_mem (i := 32) (j := 8) rfl rfl) (rz_mem (i := 35) (j := 0) rfl rfl) ⟨rfl, by decide, by decide, by decide +kernel⟩ rfl rfl ⟨by decide, by decide⟩) rfl dX12_name_30 hk) ?_
  refine rz_All_c (i := 16) (fun k J hk hJ => rz_iconst_ok (pc := 33) hx hb dX12_name_33 rfl hk) ?_
  refine rz_All_c (i := 17) (fun k J hk hJ => rz_zret_ok (pc := 34) hC dX12_name_34) ?_
  exact trivial
theorem dX12_sign_0 : decode cX12_sign 0 = .ok (.aload_n 0, 1) := by decide +kernel
theorem dX12_sign_1 : decode cX12_sign 1 = .ok (.aload_n 0, 1) := by decide +kernel
theorem dX12_sign_2 : decode cX12_sign 2 = .ok (.iload_n 1, 1) := by decide +kernel
theorem dX12_sign_3 : decode cX12_sign 3 = .ok (.invokevirtual 641, 3) := by decide +kernel
theorem dX12_sign_6 : decode cX12_sign 6 = .ok (.invokevirtual 644, 3) := by decide +kernel
theorem dX12_sign_9 : decode cX12_sign 9 = .ok (.ifCond .ne 5, 3) := by decide +kernel
theorem dX12_sign_14 : decode cX12_sign 14 = .ok (.aload_n 0, 1) := by decide +kernel
theorem dX12_sign_15 : decode cX12_sign 15 = .ok (.invokevirtual 648, 3) := by decide +kernel
theorem dX12_sign_18 : decode cX12_sign 18 = .ok (.iconst 1, 1) := by decide +kernel
theorem dX12_sign_19 : decode cX12_sign 19 = .ok (.ireturn, 1) := by decide +kernel
def rpX12_sign : List Nat := [0, 1, 2, 3, 6, 9, 12, 14, 15, 18, 19]
noncomputable def rcX12_sign : List rz_B := [rz_aload 0, rz_aload 0, rz_iload 1, rz_callV 1 (Nat.add (Nat.mul 256 14) 1) rgX12_isSign, rz_callV 1 (Nat.add (Nat.mul 256 14) 1) rgX12_can, rz_ifne 7, rz_no, rz_aload 0, rz_callVv 0 (Nat.add (Nat.mul 256 14) 1) rgX12_next, rz_cst 1, rz_zret]
noncomputable def rgX12_sign : rz_L → rz_M → rz_Z → Bool := rz_go rcX12_sign 2 1000000
def rrX12_sign : Room := { frames := 3, cells := 0, slots := 0, locals := 66 }
theorem rmX12_sign (l : Launch) {G : rz_G} (hG : rz_Gd G) (vs : rz_L) (M : rz_M) (Z : rz_Z) (hn : vs.length = 2) (h : rgX12_sign vs M Z = true) : Met l yX12_sign (Cond.code yX12_sign cX12_sign 2 (some .boolean) :: rz_TB) rrX12_sign (rz_Pre G vs M) (rz_Qi G M.2 Z) 0 0 (fun q => rz_b G ≤ q) := by
  obtain ⟨D, tc, ad, b, xs, rfl⟩ := id hG
  refine rz_body (pcs := rpX12_sign) (by decide) rfl (by rw [hn]; decide) h ?_
  intro p e R s m args below meth c hC
  obtain ⟨hx, hb, hml, hr, hlk, ho, hts, hKn, hRm⟩ := id hC
  obtain ⟨hK, hA, hSt⟩ := id hKn
  have hw : ∀ {i j : Nat} {ws : List Cond} {w : Cond}, rz_WW[i]? = some ws → ws[j]? = some w → w.before args s = true := fun h1 h2 => hts _ (List.mem_cons_of_mem _ (rz_mem h1 h2))
  refine rz_All_c (i := 0) (fun k J hk hJ => rz_aload_n_ok (pc := 0) hx hb dX12_sign_0 rfl hk) ?_
  refine rz_All_c (i := 1) (fun k J hk hJ => rz_aload_n_ok (pc := 1) hx hb dX12_sign_1 rfl hk) ?_
  refine rz_All_c (i := 2) (fun k J hk hJ => rz_iload_n_ok (pc := 2) hx hb dX12_sign_2 rfl hk) ?_
  refine rz_All_c (i := 3) (fun k J hk hJ => rz_callV_ok (pc := 3) (own := RX12) (C := RX12) (T0 := TX12) (N0 := 257) hC rfl (rmX12_isSign l hG) (rz_cwV 1 hC rz_good (rz_mem (i := 38) (j := 8) rfl rfl) (rz_mem (i := 38) (j := 9) rfl rfl) (rz_mem (i := 38) (j := 10) rfl rfl) (rz_mem (i := 32) (j := 8) rfl rfl) (rz_mem (i := 38) (j := 11) rfl rfl) ⟨rfl, by decide, by decide, by decide +kernel⟩ rfl rfl ⟨by decide, by decide⟩) rfl dX12_sign_3 hk) ?_
  refine rz_All_c (i := 4) (fun k J hk hJ => rz_callV_ok (pc := 6) (own := RX12) (C := RX12) (T0 := TX12) (N0 := 257) hC rfl (rmX12_can l hG) (rz_cwV 1 hC rz_good (rz_mem (i := 37) (j := 16) rfl rfl) (rz_mem (i := 37) (j := 17) rfl rfl) (rz_mem (i := 37) (j := 18) rfl rfl) (rz_mem (i := 32) (j := 8) rfl rfl) (rz_mem (i := 37) (j := 19) rfl rfl) ⟨rfl, by decide, by decide, by decide +kernel⟩ rfl rfl ⟨by decide, by decide⟩) rfl dX12_sign_6 hk) ?_
  refine rz_All_c (i := 5) (fun k J hk hJ => rz_ifne_ok (pc := 9) hx hb dX12_sign_9 rfl hk (hJ 7)) ?_
  refine rz_All_c (i := 6) (fun k J hk hJ => rz_no_ok) ?_
  refine rz_All_c (i := 7) (fun k J hk hJ => rz_aload_n_ok (pc := 14) hx hb dX12_sign_14 rfl hk) ?_
  refine rz_All_c (i := 8) (fun k J hk hJ => rz_callVv_ok (pc := 15) (own := RX12) (C := RX12) (T0 := TX12) (N0 := 257) hC rfl (rmX12_next l hG) (rz_cwV 0 hC rz_good (rz_mem (i := 34) (j := 21) rfl rfl) (rz_mem (i := 34) (j := 22) rfl rfl) (rz_mem (i := 34) (j := 23) rfl rfl) (rz_mem (i := 32) (j := 8) rfl rfl) (rz_mem (i := 35) (j := 0) rfl rfl) ⟨rfl, by decide, by decide, by decide +kernel⟩ rfl rfl ⟨by decide, by decide⟩) rfl dX12_sign_15 hk) ?_
  refine rz_All_c (i := 9) (fun k J hk hJ => rz_iconst_ok (pc := 18) hx hb dX12_sign_18 rfl hk) ?_
  refine rz_All_c (i := 10) (fun k J hk hJ => rz_zret_ok (pc := 19) hC dX12_sign_19) ?_
  exact trivial
theorem dX12_type_0 : decode cX12_type 0 = .ok (.aload_n 0, 1) := by decide +kernel
theorem dX12_type_1 : decode cX12_type 1 = .ok (.getfield 588, 3) := by decide +kernel
theorem dX12_type_4 : decode cX12_type 4 = .ok (.iconst 1, 1) := by decide +kernel
theorem dX12_type_5 : decode cX12_type 5 = .ok (.if_icmp .ne 32, 3) := by decide +kernel
theorem dX12_type_8 : decode cX12_type 8 = .ok (.aload_n 0, 1) := by decide +kernel
theorem dX12_type_9 : decode cX12_type 9 = .ok (.invokevirtual 659, 3) := by decide +kernel
theorem dX12_type_12 : decode cX12_type 12 = .ok (.ifCond .ne 21, 3) := by decide +kernel
theorem dX12_type_15 : decode cX12_type 15 = .ok (.aload_n 0, 1) := by decide +kernel
theorem dX12_type_16 : decode cX12_type 16 = .ok (.bipush 13, 2) := by decide +kernel
theorem dX12_type_18 : decode cX12_type 18 = .ok (.invokevirtual 663, 3) := by decide +kernel
theorem dX12_type_21 : decode cX12_type 21 = .ok (.ifCond .ne 12, 3) := by decide +kernel
theorem dX12_type_24 : decode cX12_type 24 = .ok (.aload_n 0, 1) := by decide +kernel
theorem dX12_type_25 : decode cX12_type 25 = .ok (.bipush 14, 2) := by decide +kernel
theorem dX12_type_27 : decode cX12_type 27 = .ok (.invokevirtual 663, 3) := by decide +kernel
theorem dX12_type_30 : decode cX12_type 30 = .ok (.ifCond .eq 7, 3) := by decide +kernel
theorem dX12_type_33 : decode cX12_type 33 = .ok (.iconst 1, 1) := by decide +kernel
theorem dX12_type_34 : decode cX12_type 34 = .ok (.goto 4, 3) := by decide +kernel
theorem dX12_type_38 : decode cX12_type 38 = .ok (.istore_n 2, 1) := by decide +kernel
theorem dX12_type_39 : decode cX12_type 39 = .ok (.aload_n 0, 1) := by decide +kernel
theorem dX12_type_40 : decode cX12_type 40 = .ok (.iload_n 2, 1) := by decide +kernel
theorem dX12_type_41 : decode cX12_type 41 = .ok (.invokevirtual 644, 3) := by decide +kernel
theorem dX12_type_44 : decode cX12_type 44 = .ok (.ifCond .ne 5, 3) := by decide +kernel
theorem dX12_type_49 : decode cX12_type 49 = .ok (.aload_n 0, 1) := by decide +kernel
theorem dX12_type_50 : decode cX12_type 50 = .ok (.getfield 93, 3) := by decide +kernel
theorem dX12_type_53 : decode cX12_type 53 = .ok (.iload_n 1, 1) := by decide +kernel
theorem dX12_type_54 : decode cX12_type 54 = .ok (.aload_n 0, 1) := by decide +kernel
theorem dX12_type_55 : decode cX12_type 55 = .ok (.getfield 591, 3) := by decide +kernel
theorem dX12_type_58 : decode cX12_type 58 = .ok (.iastore, 1) := by decide +kernel
theorem dX12_type_59 : decode cX12_type 59 = .ok (.aload_n 0, 1) := by decide +kernel
theorem dX12_type_60 : decode cX12_type 60 = .ok (.getfield 96, 3) := by decide +kernel
theorem dX12_type_63 : decode cX12_type 63 = .ok (.iload_n 1, 1) := by decide +kernel
theorem dX12_type_64 : decode cX12_type 64 = .ok (.aload_n 0, 1) := by decide +kernel
theorem dX12_type_65 : decode cX12_type 65 = .ok (.getfield 620, 3) := by decide +kernel
theorem dX12_type_68 : decode cX12_type 68 = .ok (.iastore, 1) := by decide +kernel
theorem dX12_type_69 : decode cX12_type 69 = .ok (.aload_n 0, 1) := by decide +kernel
theorem dX12_type_70 : decode cX12_type 70 = .ok (.getfield 99, 3) := by decide +kernel
theorem dX12_type_73 : decode cX12_type 73 = .ok (.iload_n 1, 1) := by decide +kernel
theorem dX12_type_74 : decode cX12_type 74 = .ok (.iconst 0, 1) := by decide +kernel
theorem dX12_type_75 : decode cX12_type 75 = .ok (.bastore, 1) := by decide +kernel
theorem dX12_type_76 : decode cX12_type 76 = .ok (.aload_n 0, 1) := by decide +kernel
theorem dX12_type_77 : decode cX12_type 77 = .ok (.invokevirtual 648, 3) := by decide +kernel
theorem dX12_type_80 : decode cX12_type 80 = .ok (.aload_n 0, 1) := by decide +kernel
theorem dX12_type_81 : decode cX12_type 81 = .ok (.bipush 91, 2) := by decide +kernel
theorem dX12_type_83 : decode cX12_type 83 = .ok (.invokevirtual 641, 3) := by decide +kernel
theorem dX12_type_86 : decode cX12_type 86 = .ok (.ifCond .eq 21, 3) := by decide +kernel
theorem dX12_type_107 : decode cX12_type 107 = .ok (.iconst 1, 1) := by decide +kernel
theorem dX12_type_108 : decode cX12_type 108 = .ok (.ireturn, 1) := by decide +kernel
def rpX12_type : List Nat := [0, 1, 4, 5, 8, 9, 12, 15, 16, 18, 21, 24, 25, 27, 30, 33, 34, 37, 38, 39, 40, 41, 44, 47, 49, 50, 53, 54, 55, 58, 59, 60, 63, 64, 65, 68, 69, 70, 73, 74, 75, 76, 77, 80, 81, 83, 86, 89, 107, 108]
noncomputable def rcX12_type : List rz_B := [rz_aload 0, rz_getf (Nat.add (Nat.mul 256 14) 1) 5 rz_i, rz_cst 1, rz_icmpne 17, rz_aload 0, rz_callV 0 (Nat.add (Nat.mul 256 14) 1) rgX12_isName, rz_ifne 15, rz_aload 0, rz_cst 13, rz_callV 1 (Nat.add (Nat.mul 256 14) 1) rgX12_isWord, rz_ifne 15, rz_aload 0, rz_cst 14, rz_callV 1 (Nat.add (Nat.mul 256 14) 1) rgX12_isWord, rz_ifeq 17, rz_cst 1, rz_goto 18, rz_no, rz_istore 2, rz_aload 0, rz_iload 2, rz_callV 1 (Nat.add (Nat.mul 256 14) 1) rgX12_can, rz_ifne 24, rz_no, rz_aload 0, rz_getf (Nat.add (Nat.mul 256 14) 1) 40 rz_r, rz_iload 1, rz_aload 0, rz_getf (Nat.add (Nat.mul 256 14) 1) 6 rz_i, rz_iast, rz_aload 0, rz_getf (Nat.add (Nat.mul 256 14) 1) 41 rz_r, rz_iload 1, rz_aload 0, rz_getf (Nat.add (Nat.mul 256 14) 1) 7 rz_i, rz_iast, rz_aload 0, rz_getf (Nat.add (Nat.mul 256 14) 1) 42 rz_r, rz_iload 1, rz_cst 0, rz_zast, rz_aload 0, rz_callVv 0 (Nat.add (Nat.mul 256 14) 1) rgX12_next, rz_aload 0, rz_cst 91, rz_callV 1 (Nat.add (Nat.mul 256 14) 1) rgX12_isSign, rz_ifeq 48, rz_no, rz_cst 1, rz_zret]
noncomputable def rgX12_type : rz_L → rz_M → rz_Z → Bool := rz_go rcX12_type 3 1000000
def rrX12_type : Room := { frames := 6, cells := 0, slots := 0, locals := 172 }
theorem rmX12_type (l : Launch) {G : rz_G} (hG : rz_Gd G) (vs : rz_L) (M : rz_M) (Z : rz_Z) (hn : vs.length = 2) (h : rgX12_type vs M Z = true) : Met l yX12_type (Cond.code yX12_type cX12_type 3 (some .boolean) :: rz_TB) rrX12_type (rz_Pre G vs M) (rz_Qi G M.2 Z) 0 0 (fun q => rz_b G ≤ q) := by
  obtain ⟨D, tc, ad, b, xs, rfl⟩ := id hG
  refine rz_body (pcs := rpX12_type) (by decide) rfl (by rw [hn]; decide) h ?_
  intro p e R s m args below meth c hC
  obtain ⟨hx, hb, hml, hr, hlk, ho, hts, hKn, hRm⟩ := id hC
  obtain ⟨hK, hA, hSt⟩ := id hKn
  have hw : ∀ {i j : Nat} {ws : List Cond} {w : Cond}, rz_WW[i]? = some ws → ws[j]? = some w → w.before args s = true := fun h1 h2 => hts _ (List.mem_cons_of_mem _ (rz_mem h1 h2))
  refine rz_All_c (i := 0) (fun k J hk hJ => rz_aload_n_ok (pc := 0) hx hb dX12_type_0 rfl hk) ?_
  refine rz_All_c (i := 1) (fun k J hk hJ => rz_getf_ok (pc := 1) (own := RX12) (ref := "ThreadJudgeModel") (C := RX12) (T := TX12) (N := 257) (ci := 14) (index := 588) (f := 5) (t := 0) (Ts := Cond.code yX12_type cX12_type 3 (some .boolean) :: rz_TB) hx hb hts rz_in14 ho hK rfl (by decide) rfl (fun _ => rfl) (hw (i := 33) (j := 2) rfl rfl) (fun _ z => z) dX12_type_1 hk) ?_
  refine rz_All_c (i := 2) (fun k J hk hJ => rz_iconst_ok (pc := 4) hx hb dX12_type_4 rfl hk) ?_
  refine rz_All_c (i := 3) (fun k J hk hJ => rz_icmpne_ok (pc := 5) hx hb dX12_type_5 rfl hk (hJ 17)) ?_
  refine rz_All_c (i := 4) (fun k J hk hJ => rz_aload_n_ok (pc := 8) hx hb dX12_type_8 rfl hk) ?_
  refine rz_All_c (i := 5) (fun k J hk hJ => rz_callV_ok (pc := 9) (own := RX12) (C := RX12) (T0 := TX12) (N0 := 257) hC rfl (rmX12_isName l hG) (rz_cwV 0 hC rz_good (rz_mem (i := 37) (j := 20) rfl rfl) (rz_mem (i := 37) (j := 21) rfl rfl) (rz_mem (i := 37) (j := 22) rfl rfl) (rz_mem (i := 32) (j := 8) rfl rfl) (rz_mem (i := 37) (j := 23) rfl rfl) ⟨rfl, by decide, by decide, by decide +kernel⟩ rfl rfl ⟨by decide, by decide⟩) rfl dX12_type_9 hk) ?_
  refine rz_All_c (i := 6) (fun k J hk hJ => rz_ifne_ok (pc := 12) hx hb dX12_type_12 rfl hk (hJ 15)) ?_
  refine rz_All_c (i := 7) (fun k J hk hJ => rz_aload_n_ok (pc := 15) hx hb dX12_type_15 rfl hk) ?_
  refine rz_All_c (i := 8) (fun k J hk hJ => rz_bipush_ok (pc := 16) hx hb dX12_type_16 (by decide) hk) ?_
  refine rz_All_c (i := 9) (fun k J hk hJ => rz_callV_ok (pc := 18) (own := RX12) (C := RX12) (T0 := TX12) (N0 := 257) hC rfl (rmX12_isWord l hG) (rz_cwV 1 hC rz_good (rz_mem (i := 37) (j := 0) rfl rfl) (rz_mem (i := 37) (j := 1) rfl rfl) (rz_mem (i := 37) (j := 2) rfl rfl) (rz_mem (i := 32) (j := 8) rfl rfl) (rz_mem (i := 37) (j := 3) rfl rfl) ⟨rfl, by decide, by decide, by decide +kernel⟩ rfl rfl ⟨by decide, by decide⟩) rfl dX12_type_18 hk) ?_
  refine rz_All_c (i := 10) (fun k J hk hJ => rz_ifne_ok (pc := 21) hx hb dX12_type_21 rfl hk (hJ 15)) ?_
  refine rz_All_c (i := 11) (fun k J hk hJ => rz_aload_n_ok (pc := 24) hx hb dX12_type_24 rfl hk) ?_
  refine rz_All_c (i := 12) (fun k J hk hJ => rz_bipush_ok (pc := 25) hx hb dX12_type_25 (by decide) hk) ?_
  refine rz_All_c (i := 13) (fun k J hk hJ => rz_callV_ok (pc := 27) (own := RX12) (C := RX12) (T0 := TX12) (N0 := 257) hC rfl (rmX12_isWord l hG) (rz_cwV 1 hC rz_good (rz_mem (i := 37) (j := 0) rfl rfl) (rz_mem (i := 37) (j := 1) rfl rfl) (rz_mem (i := 37) (j := 2) rfl rfl) (rz_mem (i := 32) (j := 8) rfl rfl) (rz_mem (i := 37) (j := 3) rfl rfl) ⟨rfl, by decide, by decide, by decide +kernel⟩ rfl rfl ⟨by decide, by decide⟩) rfl dX12_type_27 hk) ?_
  refine rz_All_c (i := 14) (fun k J hk hJ => rz_ifeq_ok (pc := 30) hx hb dX12_type_30 rfl hk (hJ 17)) ?_
  refine rz_All_c (i := 15) (fun k J hk hJ => rz_iconst_ok (pc := 33) hx hb dX12_type_33 rfl hk) ?_
  refine rz_All_c (i := 16) (fun k J hk hJ => rz_goto_ok (pc := 34) hx hb dX12_type_34 rfl (hJ 18)) ?_
  refine rz_All_c (i := 17) (fun k J hk hJ => rz_no_ok) ?_
  refine rz_All_c (i := 18) (fun k J hk hJ => rz_istore_n_ok (pc := 38) hx hb dX12_type_38 rfl hk) ?_
  refine rz_All_c (i := 19) (fun k J hk hJ => rz_aload_n_ok (pc := 39) hx hb dX12_type_39 rfl hk) ?_
  refine rz_All_c (i := 20) (fun k J hk hJ => rz_iload_n_ok (pc := 40) hx hb dX12_type_40 rfl hk) ?_
  refine rz_All_c (i := 21) (fun k J hk hJ => rz_callV_ok (pc := 41) (own := RX12) (C := RX12) (T0 := TX12) (N0 := 257) hC rfl (rmX12_can l hG) (rz_cwV 1 hC rz_good (rz_mem (i := 37) (j := 16) rfl rfl) (rz_mem (i := 37) (j := 17) rfl rfl) (rz_mem (i := 37) (j := 18) rfl rfl) (rz_mem (i := 32) (j := 8) rfl rfl) (rz_mem (i := 37) (j := 19) rfl rfl) ⟨rfl, by decide, by decide, by decide +kernel⟩ rfl rfl ⟨by decide, by decide⟩) rfl dX12_type_41 hk) ?_
  refine rz_All_c (i := 22) (fun k J hk hJ => rz_ifne_ok (pc := 44) hx hb dX12_type_44 rfl hk (hJ 24)) ?_
  refine rz_All_c (i := 23) (fun k J hk hJ => rz_no_ok) ?_
  refine rz_All_c (i := 24) (fun k J hk hJ => rz_aload_n_ok (pc := 49) hx hb dX12_type_49 rfl hk) ?_
  refine rz_All_c (i := 25) (fun k J hk hJ => rz_getf_ok (pc := 50) (own := RX12) (ref := "ThreadJudgeModel") (C := RX12) (T := TX12) (N := 257) (ci := 14) (index := 93) (f := 40) (t := 2) (Ts := Cond.code yX12_type cX12_type 3 (some .boolean) :: rz_TB) hx hb hts rz_in14 ho hK rfl (by decide) rfl (fun _ => rfl) (hw (i := 39) (j := 8) rfl rfl) (fun _ z => z) dX12_type_50 hk) ?_
  refine rz_All_c (i := 26) (fun k J hk hJ => rz_iload_n_ok (pc := 53) hx hb dX12_type_53 rfl hk) ?_
  refine rz_All_c (i := 27) (fun k J hk hJ => rz_aload_n_ok (pc := 54) hx hb dX12_type_54 rfl hk) ?_
  refine rz_All_c (i := 28) (fun k J hk hJ => rz_getf_ok (pc := 55) (own := RX12) (ref := "ThreadJudgeModel") (C := RX12) (T := TX12) (N := 257) (ci := 14) (index := 591) (f := 6) (t := 0) (Ts := Cond.code yX12_type cX12_type 3 (some .boolean) :: rz_TB) hx hb hts rz_in14 ho hK rfl (by decide) rfl (fun _ => rfl) (hw (i := 33) (j := 3) rfl rfl) (fun _ z => z) dX12_type_55 hk) ?_
  refine rz_All_c (i := 29) (fun k J hk hJ => rz_iast_ok (pc := 58) hx hb hK hA dX12_type_58 hk) ?_
  refine rz_All_c (i := 30) (fun k J hk hJ => rz_aload_n_ok (pc := 59) hx hb dX12_type_59 rfl hk) ?_
  refine rz_All_c (i := 31) (fun k J hk hJ => rz_getf_ok (pc := 60) (own := RX12) (ref := "ThreadJudgeModel") (C := RX12) (T := TX12) (N := 257) (ci := 14) (index := 96) (f := 41) (t := 2) (Ts := Cond.code yX12_type cX12_type 3 (some .boolean) :: rz_TB) hx hb hts rz_in14 ho hK rfl (by decide) rfl (fun _ => rfl) (hw (i := 39) (j := 9) rfl rfl) (fun _ z => z) dX12_type_60 hk) ?_
  refine rz_All_c (i := 32) (fun k J hk hJ => rz_iload_n_ok (pc := 63) hx hb dX12_type_63 rfl hk) ?_
  refine rz_All_c (i := 33) (fun k J hk hJ => rz_aload_n_ok (pc := 64) hx hb dX12_type_64 rfl hk) ?_
  refine rz_All_c (i := 34) (fun k J hk hJ => rz_getf_ok (pc := 65) (own := RX12) (ref := "ThreadJudgeModel") (C := RX12) (T := TX12) (N := 257) (ci := 14) (index := 620) (f := 7) (t := 0) (Ts := Cond.code yX12_type cX12_type 3 (some .boolean) :: rz_TB) hx hb hts rz_in14 ho hK rfl (by decide) rfl (fun _ => rfl) (hw (i := 35) (j := 1) rfl rfl) (fun _ z => z) dX12_type_65 hk) ?_
  refine rz_All_c (i := 35) (fun k J hk hJ => rz_iast_ok (pc := 68) hx hb hK hA dX12_type_68 hk) ?_
  refine rz_All_c (i := 36) (fun k J hk hJ => rz_aload_n_ok (pc := 69) hx hb dX12_type_69 rfl hk) ?_
  refine rz_All_c (i := 37) (fun k J hk hJ => rz_getf_ok (pc := 70) (own := RX12) (ref := "ThreadJudgeModel") (C := RX12) (T := TX12) (N := 257) (ci := 14) (index := 99) (f := 42) (t := 2) (Ts := Cond.code yX12_type cX12_type 3 (some .boolean) :: rz_TB) hx hb hts rz_in14 ho hK rfl (by decide) rfl (fun _ => rfl) (hw (i := 39) (j := 10) rfl rfl) (fun _ z => z) dX12_type_70 hk) ?_
  refine rz_All_c (i := 38) (fun k J hk hJ => rz_iload_n_ok (pc := 73) hx hb dX12_type_73 rfl hk) ?_
  refine rz_All_c (i := 39) (fun k J hk hJ => rz_iconst_ok (pc := 74) hx hb dX12_type_74 rfl hk) ?_
  refine rz_All_c (i := 40) (fun k J hk hJ => rz_zast_ok (pc := 75) hx hb hK hA dX12_type_75 hk) ?_
  refine rz_All_c (i := 41) (fun k J hk hJ => rz_aload_n_ok (pc := 76) hx hb dX12_type_76 rfl hk) ?_
  refine rz_All_c (i := 42) (fun k J hk hJ => rz_callVv_ok (pc := 77) (own := RX12) (C := RX12) (T0 := TX12) (N0 := 257) hC rfl (rmX12_next l hG) (rz_cwV 0 hC rz_good (rz_mem (i := 34) (j := 21) rfl rfl) (rz_mem (i := 34) (j := 22) rfl rfl) (rz_mem (i := 34) (j := 23) rfl rfl) (rz_mem (i := 32) (j := 8) rfl rfl) (rz_mem (i := 35) (j := 0) rfl rfl) ⟨rfl, by decide, by decide, by decide +kernel⟩ rfl rfl ⟨by decide, by decide⟩) rfl dX12_type_77 hk) ?_
  refine rz_All_c (i := 43) (fun k J hk hJ => rz_aload_n_ok (pc := 80) hx hb dX12_type_80 rfl hk) ?_
  refine rz_All_c (i := 44) (fun k J hk hJ => rz_bipush_ok (pc := 81) hx hb dX12_type_81 (by decide) hk) ?_
  refine rz_All_c (i := 45) (fun k J hk hJ => rz_callV_ok (pc := 83) (own := RX12) (C := RX12) (T0 := TX12) (N0 := 257) hC rfl (rmX12_isSign l hG) (rz_cwV 1 hC rz_good (rz_mem (i := 38) (j := 8) rfl rfl) (rz_mem (i := 38) (j := 9) rfl rfl) (rz_mem (i := 38) (j := 10) rfl rfl) (rz_mem (i := 32) (j := 8) rfl rfl) (rz_mem (i := 38) (j := 11) rfl rfl) ⟨rfl, by decide, by decide, by decide +kernel⟩ rfl rfl ⟨by decide, by decide⟩) rfl dX12_type_83 hk) ?_
  refine rz_All_c (i := 46) (fun k J hk hJ => rz_ifeq_ok (pc := 86) hx hb dX12_type_86 rfl hk (hJ 48)) ?_
  refine rz_All_c (i := 47) (fun k J hk hJ => rz_no_ok) ?_
  refine rz_All_c (i := 48) (fun k J hk hJ => rz_iconst_ok (pc := 107) hx hb dX12_type_107 rfl hk) ?_
  refine rz_All_c (i := 49) (fun k J hk hJ => rz_zret_ok (pc := 108) hC dX12_type_108) ?_
  exact trivial
theorem dX12_readField_0 : decode cX12_readField 0 = .ok (.aload_n 0, 1) := by decide +kernel
theorem dX12_readField_1 : decode cX12_readField 1 = .ok (.aload_n 0, 1) := by decide +kernel
theorem dX12_readField_2 : decode cX12_readField 2 = .ok (.getfield 690, 3) := by decide +kernel
theorem dX12_readField_5 : decode cX12_readField 5 = .ok (.bipush 40, 2) := by decide +kernel
theorem dX12_readField_7 : decode cX12_readField 7 = .ok (.if_icmp .ne 8, 3) := by decide +kernel
theorem dX12_readField_15 : decode cX12_readField 15 = .ok (.aload_n 0, 1) := by decide +kernel
theorem dX12_readField_16 : decode cX12_readField 16 = .ok (.getfield 690, 3) := by decide +kernel
theorem dX12_readField_19 : decode cX12_readField 19 = .ok (.invokevirtual 681, 3) := by decide +kernel
theorem dX12_readField_22 : decode cX12_readField 22 = .ok (.ifCond .ne 5, 3) := by decide +kernel
theorem dX12_readField_27 : decode cX12_readField 27 = .ok (.aload_n 0, 1) := by decide +kernel
theorem dX12_readField_28 : decode cX12_readField 28 = .ok (.invokevirtual 659, 3) := by decide +kernel
theorem dX12_readField_31 : decode cX12_readField 31 = .ok (.ifCond .eq 17, 3) := by decide +kernel
theorem dX12_readField_34 : decode cX12_readField 34 = .ok (.aload_n 0, 1) := by decide +kernel
theorem dX12_readField_35 : decode cX12_readField 35 = .ok (.getfield 690, 3) := by decide +kernel
theorem dX12_readField_38 : decode cX12_readField 38 = .ok (.bipush 40, 2) := by decide +kernel
theorem dX12_readField_40 : decode cX12_readField 40 = .ok (.if_icmp .ne 8, 3) := by decide +kernel
theorem dX12_readField_48 : decode cX12_readField 48 = .ok (.aload_n 0, 1) := by decide +kernel
theorem dX12_readField_49 : decode cX12_readField 49 = .ok (.invokevirtual 687, 3) := by decide +kernel
theorem dX12_readField_52 : decode cX12_readField 52 = .ok (.ifCond .ne 5, 3) := by decide +kernel
theorem dX12_readField_57 : decode cX12_readField 57 = .ok (.aload_n 0, 1) := by decide +kernel
theorem dX12_readField_58 : decode cX12_readField 58 = .ok (.getfield 57, 3) := by decide +kernel
theorem dX12_readField_61 : decode cX12_readField 61 = .ok (.aload_n 0, 1) := by decide +kernel
theorem dX12_readField_62 : decode cX12_readField 62 = .ok (.getfield 690, 3) := by decide +kernel
theorem dX12_readField_65 : decode cX12_readField 65 = .ok (.aload_n 0, 1) := by decide +kernel
theorem dX12_readField_66 : decode cX12_readField 66 = .ok (.getfield 669, 3) := by decide +kernel
theorem dX12_readField_69 : decode cX12_readField 69 = .ok (.iastore, 1) := by decide +kernel
theorem dX12_readField_70 : decode cX12_readField 70 = .ok (.aload_n 0, 1) := by decide +kernel
theorem dX12_readField_71 : decode cX12_readField 71 = .ok (.getfield 60, 3) := by decide +kernel
theorem dX12_readField_74 : decode cX12_readField 74 = .ok (.aload_n 0, 1) := by decide +kernel
theorem dX12_readField_75 : decode cX12_readField 75 = .ok (.getfield 690, 3) := by decide +kernel
theorem dX12_readField_78 : decode cX12_readField 78 = .ok (.aload_n 0, 1) := by decide +kernel
theorem dX12_readField_79 : decode cX12_readField 79 = .ok (.getfield 672, 3) := by decide +kernel
theorem dX12_readField_82 : decode cX12_readField 82 = .ok (.iastore, 1) := by decide +kernel
theorem dX12_readField_83 : decode cX12_readField 83 = .ok (.aload_n 0, 1) := by decide +kernel
theorem dX12_readField_84 : decode cX12_readField 84 = .ok (.getfield 63, 3) := by decide +kernel
theorem dX12_readField_87 : decode cX12_readField 87 = .ok (.aload_n 0, 1) := by decide +kernel
theorem dX12_readField_88 : decode cX12_readField 88 = .ok (.getfield 690, 3) := by decide +kernel
theorem dX12_readField_91 : decode cX12_readField 91 = .ok (.iload_n 2, 1) := by decide +kernel
theorem dX12_readField_92 : decode cX12_readField 92 = .ok (.iastore, 1) := by decide +kernel
theorem dX12_readField_93 : decode cX12_readField 93 = .ok (.aload_n 0, 1) := by decide +kernel
theorem dX12_readField_94 : decode cX12_readField 94 = .ok (.getfield 66, 3) := by decide +kernel
theorem dX12_readField_97 : decode cX12_readField 97 = .ok (.aload_n 0, 1) := by decide +kernel
theorem dX12_readField_98 : decode cX12_readField 98 = .ok (.getfield 690, 3) := by decide +kernel
theorem dX12_readField_101 : decode cX12_readField 101 = .ok (.iload_n 1, 1) := by decide +kernel
theorem dX12_readField_102 : decode cX12_readField 102 = .ok (.iastore, 1) := by decide +kernel
theorem dX12_readField_103 : decode cX12_readField 103 = .ok (.aload_n 0, 1) := by decide +kernel
theorem dX12_readField_104 : decode cX12_readField 104 = .ok (.dup, 1) := by decide +kernel
theorem dX12_readField_105 : decode cX12_readField 105 = .ok (.getfield 690, 3) := by decide +kernel
theorem dX12_readField_108 : decode cX12_readField 108 = .ok (.iconst 1, 1) := by decide +kernel
theorem dX12_readField_109 : decode cX12_readField 109 = .ok (.iadd, 1) := by decide +kernel
theorem dX12_readField_110 : decode cX12_readField 110 = .ok (.putfield 690, 3) := by decide +kernel
theorem dX12_readField_113 : decode cX12_readField 113 = .ok (.aload_n 0, 1) := by decide +kernel
theorem dX12_readField_114 : decode cX12_readField 114 = .ok (.bipush 59, 2) := by decide +kernel
theorem dX12_readField_116 : decode cX12_readField 116 = .ok (.invokevirtual 666, 3) := by decide +kernel
theorem dX12_readField_119 : decode cX12_readField 119 = .ok (.ireturn, 1) := by decide +kernel
def rpX12_readField : List Nat := [0, 1, 2, 5, 7, 10, 15, 16, 19, 22, 25, 27, 28, 31, 34, 35, 38, 40, 43, 48, 49, 52, 55, 57, 58, 61, 62, 65, 66, 69, 70, 71, 74, 75, 78, 79, 82, 83, 84, 87, 88, 91, 92, 93, 94, 97, 98, 101, 102, 103, 104, 105, 108, 109, 110, 113, 114, 116, 119]
noncomputable def rcX12_readField : List rz_B := [rz_aload 0, rz_aload 0, rz_getf (Nat.add (Nat.mul 256 14) 1) 26 rz_i, rz_cst 40, rz_icmpne 6, rz_no, rz_aload 0, rz_getf (Nat.add (Nat.mul 256 14) 1) 26 rz_i, rz_callV 1 (Nat.add (Nat.mul 256 14) 1) rgX12_type, rz_ifne 11, rz_no, rz_aload 0, rz_callV 0 (Nat.add (Nat.mul 256 14) 1) rgX12_isName, rz_ifeq 19, rz_aload 0, rz_getf (Nat.add (Nat.mul 256 14) 1) 26 rz_i, rz_cst 40, rz_icmpne 19, rz_no, rz_aload 0, rz_callV 0 (Nat.add (Nat.mul 256 14) 1) rgX12_name, rz_ifne 23, rz_no, rz_aload 0, rz_getf (Nat.add (Nat.mul 256 14) 1) 27 rz_r, rz_aload 0, rz_getf (Nat.add (Nat.mul 256 14) 1) 26 rz_i, rz_aload 0, rz_getf (Nat.add (Nat.mul 256 14) 1) 66 rz_i, rz_iast, rz_aload 0, rz_getf (Nat.add (Nat.mul 256 14) 1) 28 rz_r, rz_aload 0, rz_getf (Nat.add (Nat.mul 256 14) 1) 26 rz_i, rz_aload 0, rz_getf (Nat.add (Nat.mul 256 14) 1) 67 rz_i, rz_iast, rz_aload 0, rz_getf (Nat.add (Nat.mul 256 14) 1) 29 rz_r, rz_aload 0, rz_getf (Nat.add (Nat.mul 256 14) 1) 26 rz_i, rz_iload 2, rz_iast, rz_aload 0, rz_getf (Nat.add (Nat.mul 256 14) 1) 30 rz_r, rz_aload 0, rz_getf (Nat.add (Nat.mul 256 14) 1) 26 rz_i, rz_iload 1, rz_iast, rz_aload 0, rz_dup, rz_getf (Nat.add (Nat.mul 256 14) 1) 26 rz_i, rz_cst 1, rz_iadd, rz_putf (Nat.add (Nat.mul 256 14) 1) 26 rz_unI, rz_aload 0, rz_cst 59, rz_callV 1 (Nat.add (Nat.mul 256 14) 1) rgX12_sign, rz_zret]
noncomputable def rgX12_readField : rz_L → rz_M → rz_Z → Bool := rz_go rcX12_readField 3 1000000
def rrX12_readField : Room := { frames := 7, cells := 0, slots := 0, locals := 194 }
theorem rmX12_readField (l : Launch) {G : rz_G} (hG : rz_Gd G) (vs : rz_L) (M : rz_M) (Z : rz_Z) (hn : vs.length = 3) (h : rgX12_readField vs M Z = true) : Met l yX12_readField (Cond.code yX12_readField cX12_readField 3 (some .boolean) :: rz_TB) rrX12_readField (rz_Pre G vs M) (rz_Qi G M.2 Z) 0 0 (fun q => rz_b G ≤ q) := by
  obtain ⟨D, tc, ad, b, xs, rfl⟩ := id hG
  refine rz_body (pcs := rpX12_readField) (by decide) rfl (by rw [hn]; decide) h ?_
  intro p e R s m args below meth c hC
  obtain ⟨hx, hb, hml, hr, hlk, ho, hts, hKn, hRm⟩ := id hC
  obtain ⟨hK, hA, hSt⟩ := id hKn
  have hw : ∀ {i j : Nat} {ws : List Cond} {w : Cond}, rz_WW[i]? = some ws → ws[j]? = some w → w.before args s = true := fun h1 h2 => hts _ (List.mem_cons_of_mem _ (rz_mem h1 h2))
  refine rz_All_c (i := 0) (fun k J hk hJ => rz_aload_n_ok (pc := 0) hx hb dX12_readField_0 rfl hk) ?_
  refine rz_All_c (i := 1) (fun k J hk hJ => rz_aload_n_ok (pc := 1) hx hb dX12_readField_1 rfl hk) ?_
  refine rz_All_c (i := 2) (fun k J hk hJ => rz_getf_ok (pc := 2) (own := RX12) (ref := "ThreadJudgeModel") (C := RX12) (T := TX12) (N := 257) (ci := 14) (index := 690) (f := 26) (t := 0) (Ts := Cond.code yX12_readField cX12_readField 3 (some .boolean) :: rz_TB) hx hb hts rz_in14 ho hK rfl (by decide) rfl (fun _ => rfl) (hw (i := 32) (j := 18) rfl rfl) (fun _ z => z) dX12_readField_2 hk) ?_
  refine rz_All_c (i := 3) (fun k J hk hJ => rz_bipush_ok (pc := 5) hx hb dX12_readField_5 (by decide) hk) ?_
  refine rz_All_c (i := 4) (fun k J hk hJ => rz_icmpne_ok (pc := 7) hx hb dX12_readField_7 rfl hk (hJ 6)) ?_
  refine rz_All_c (i := 5) (fun k J hk hJ => rz_no_ok) ?_
  refine rz_All_c (i := 6) (fun k J hk hJ => rz_aload_n_ok (pc := 15) hx hb dX12_readField_15 rfl hk) ?_
  refine rz_All_c (i := 7) (fun k J hk hJ => rz_getf_ok (pc := 16) (own := RX12) (ref := "ThreadJudgeModel") (C := RX12) (T := TX12) (N := 257) (ci := 14) (index := 690) (f := 26) (t := 0) (Ts := Cond.code yX12_readField cX12_readField 3 (some .boolean) :: rz_TB) hx hb hts rz_in14 ho hK rfl (by decide) rfl (fun _ => rfl) (hw (i := 32) (j := 18) rfl rfl) (fun _ z => z) dX12_readField_16 hk) ?_
  refine rz_All_c (i := 8) (fun k J hk hJ => rz_callV_ok (pc := 19) (own := RX12) (C := RX12) (T0 := TX12) (N0 := 257) hC rfl (rmX12_type l hG) (rz_cwV 1 hC rz_good (rz_mem (i := 39) (j := 4) rfl rfl) (rz_mem (i := 39) (j := 5) rfl rfl) (rz_mem (i := 39) (j := 6) rfl rfl) (rz_mem (i := 32) (j := 8) rfl rfl) (rz_mem (i := 39) (j := 7) rfl rfl) ⟨rfl, by decide, by decide, by decide +kernel⟩ rfl rfl ⟨by decide, by decide⟩) rfl dX12_readField_19 hk) ?_
  refine rz_All_c (i := 9) (fun k J hk hJ => rz_ifne_ok (pc := 22) hx hb dX12_readField_22 rfl hk (hJ 11)) ?_
  refine rz_All_c (i := 10) (fun k J hk hJ => rz_no_ok) ?_
  refine rz_All_c (i := 11) (fun k J hk hJ => rz_aload_n_ok (pc := 27) hx hb dX12_readField_27 rfl hk) ?_
  refine rz_All_c (i := 12) (fun k J hk hJ => rz_callV_ok (pc := 28) (own := RX12) (C := RX12) (T0 := TX12) (N0 := 257) hC rfl (rmX12_isName l hG) (rz_cwV 0 hC rz_good (rz_mem (i := 37) (j := 20) rfl rfl) (rz_mem (i := 37) (j := 21) rfl rfl) (rz_mem (i := 37) (j := 22) rfl rfl) (rz_mem (i := 32) (j := 8) rfl rfl) (rz_mem (i := 37) (j := 23) rfl rfl) ⟨rfl, by decide, by decide, by decide +kernel⟩ rfl rfl ⟨by decide, by decide⟩) rfl dX12_readField_28 hk) ?_
  refine rz_All_c (i := 13) (fun k J hk hJ => rz_ifeq_ok (pc := 31) hx hb dX12_readField_31 rfl hk (hJ 19)) ?_
  refine rz_All_c (i := 14) (fun k J hk hJ => rz_aload_n_ok (pc := 34) hx hb dX12_readField_34 rfl hk) ?_
  refine rz_All_c (i := 15) (fun k J hk hJ => rz_getf_ok (pc := 35) (own := RX12) (ref := "ThreadJudgeModel") (C := RX12) (T := TX12) (N := 257) (ci := 14) (index := 690) (f := 26) (t := 0) (Ts := Cond.code yX12_readField cX12_readField 3 (some .boolean) :: rz_TB) hx hb hts rz_in14 ho hK rfl (by decide) rfl (fun _ => rfl) (hw (i := 32) (j := 18) rfl rfl) (fun _ z => z) dX12_readField_35 hk) ?_
  refine rz_All_c (i := 16) (fun k J hk hJ => rz_bipush_ok (pc := 38) hx hb dX12_readField_38 (by decide) hk) ?_
  refine rz_All_c (i := 17) (fun k J hk hJ => rz_icmpne_ok (pc := 40) hx hb dX12_readField_40 rfl hk (hJ 19)) ?_
  refine rz_All_c (i := 18) (fun k J hk hJ => rz_no_ok) ?_
  refine rz_All_c (i := 19) (fun k J hk hJ => rz_aload_n_ok (pc := 48) hx hb dX12_readField_48 rfl hk) ?_
  refine rz_All_c (i := 20) (fun k J hk hJ => rz_callV_ok (pc := 49) (own := RX12) (C := RX12) (T0 := TX12) (N0 := 257) hC rfl (rmX12_name l hG) (rz_cwV 0 hC rz_good (rz_mem (i := 38) (j := 4) rfl rfl) (rz_mem (i := 38) (j := 5) rfl rfl) (rz_mem (i := 38) (j := 6) rfl rfl) (rz_mem (i := 32) (j := 8) rfl rfl) (rz_mem (i := 38) (j := 7) rfl rfl) ⟨rfl, by decide, by decide, by decide +kernel⟩ rfl rfl ⟨by decide, by decide⟩) rfl dX12_readField_49 hk) ?_
  refine rz_All_c (i := 21) (fun k J hk hJ => rz_ifne_ok (pc := 52) hx hb dX12_readField_52 rfl hk (hJ 23)) ?_
  refine rz_All_c (i := 22) (fun k J hk hJ => rz_no_ok) ?_
  refine rz_All_c (i := 23) (fun k J hk hJ => rz_aload_n_ok (pc := 57) hx hb dX12_readField_57 rfl hk) ?_
  refine rz_All_c (i := 24) (fun k J hk hJ => rz_getf_ok (pc := 58) (own := RX12) (ref := "ThreadJudgeModel") (C := RX12) (T := TX12) (N := 257) (ci := 14) (index := 57) (f := 27) (t := 2) (Ts := Cond.code yX12_readField cX12_readField 3 (some .boolean) :: rz_TB) hx hb hts rz_in14 ho hK rfl (by decide) rfl (fun _ => rfl) (hw (i := 39) (j := 0) rfl rfl) (fun _ z => z) dX12_readField_58 hk) ?_
  refine rz_All_c (i := 25) (fun k J hk hJ => rz_aload_n_ok (pc := 61) hx hb dX12_readField_61 rfl hk) ?_
  refine rz_All_c (i := 26) (fun k J hk hJ => rz_getf_ok (pc := 62) (own := RX12) (ref := "ThreadJudgeModel") (C := RX12) (T := TX12) (N := 257) (ci := 14) (index := 690) (f := 26) (t := 0) (Ts := Cond.code yX12_readField cX12_readField 3 (some .boolean) :: rz_TB) hx hb hts rz_in14 ho hK rfl (by decide) rfl (fun _ => rfl) (hw (i := 32) (j := 18) rfl rfl) (fun _ z => z) dX12_readField_62 hk) ?_
  refine rz_All_c (i := 27) (fun k J hk hJ => rz_aload_n_ok (pc := 65) hx hb dX12_readField_65 rfl hk) ?_
  refine rz_All_c (i := 28) (fun k J hk hJ => rz_getf_ok (pc := 66) (own := RX12) (ref := "ThreadJudgeModel") (C := RX12) (T := TX12) (N := 257) (ci := 14) (index := 669) (f := 66) (t := 0) (Ts := Cond.code yX12_readField cX12_readField 3 (some .boolean) :: rz_TB) hx hb hts rz_in14 ho hK rfl (by decide) rfl (fun _ => rfl) (hw (i := 36) (j := 11) rfl rfl) (fun _ z => z) dX12_readField_66 hk) ?_
  refine rz_All_c (i := 29) (fun k J hk hJ => rz_iast_ok (pc := 69) hx hb hK hA dX12_readField_69 hk) ?_
  refine rz_All_c (i := 30) (fun k J hk hJ => rz_aload_n_ok (pc := 70) hx hb dX12_readField_70 rfl hk) ?_
  refine rz_All_c (i := 31) (fun k J hk hJ => rz_getf_ok (pc := 71) (own := RX12) (ref := "ThreadJudgeModel") (C := RX12) (T := TX12) (N := 257) (ci := 14) (index := 60) (f := 28) (t := 2) (Ts := Cond.code yX12_readField cX12_readField 3 (some .boolean) :: rz_TB) hx hb hts rz_in14 ho hK rfl (by decide) rfl (fun _ => rfl) (hw (i := 39) (j := 1) rfl rfl) (fun _ z => z) dX12_readField_71 hk) ?_
  refine rz_All_c (i := 32) (fun k J hk hJ => rz_aload_n_ok (pc := 74) hx hb dX12_readField_74 rfl hk) ?_
  refine rz_All_c (i := 33) (fun k J hk hJ => rz_getf_ok (pc := 75) (own := RX12) (ref := "ThreadJudgeModel") (C := RX12) (T := TX12) (N := 257) (ci := 14) (index := 690) (f := 26) (t := 0) (Ts := Cond.code yX12_readField cX12_readField 3 (some .boolean) :: rz_TB) hx hb hts rz_in14 ho hK rfl (by decide) rfl (fun _ => rfl) (hw (i := 32) (j := 18) rfl rfl) (fun _ z => z) dX12_readField_75 hk) ?_
  refine rz_All_c (i := 34) (fun k J hk hJ => rz_aload_n_ok (pc := 78) hx hb dX12_readField_78 rfl hk) ?_
  refine rz_All_c (i := 35) (fun k J hk hJ => rz_getf_ok (pc := 79) (own := RX12) (ref := "ThreadJudgeModel") (C := RX12) (T := TX12) (N := 257) (ci := 14) (index := 672) (f := 67) (t := 0) (Ts := Cond.code yX12_readField cX12_readField 3 (some .boolean) :: rz_TB) hx hb hts rz_in14 ho hK rfl (by decide) rfl (fun _ => rfl) (hw (i := 36) (j := 13) rfl rfl) (fun _ z => z) dX12_readField_79 hk) ?_
  refine rz_All_c (i := 36) (fun k J hk hJ => rz_iast_ok (pc := 82) hx hb hK hA dX12_readField_82 hk) ?_
  refine rz_All_c (i := 37) (fun k J hk hJ => rz_aload_n_ok (pc := 83) hx hb dX12_readField_83 rfl hk) ?_
  refine rz_All_c (i := 38) (fun k J hk hJ => rz_getf_ok (pc := 84) (own := RX12) (ref := "ThreadJudgeModel") (C := RX12) (T := TX12) (N := 257) (ci := 14) (index := 63) (f := 29) (t := 2) (Ts := Cond.code yX12_readField cX12_readField 3 (some .boolean) :: rz_TB) hx hb hts rz_in14 ho hK rfl (by decide) rfl (fun _ => rfl) (hw (i := 39) (j := 2) rfl rfl) (fun _ z => z) dX12_readField_84 hk) ?_
  refine rz_All_c (i := 39) (fun k J hk hJ => rz_aload_n_ok (pc := 87) hx hb dX12_readField_87 rfl hk) ?_
  refine rz_All_c (i := 40) (fun k J hk hJ => rz_getf_ok (pc := 88) (own := RX12) (ref := "ThreadJudgeModel") (C := RX12) (T := TX12) (N := 257) (ci := 14) (index := 690) (f := 26) (t := 0) (Ts := Cond.code yX12_readField cX12_readField 3 (some .boolean) :: rz_TB) hx hb hts rz_in14 ho hK rfl (by decide) rfl (fun _ => rfl) (hw (i := 32) (j := 18) rfl rfl) (fun _ z => z) dX12_readField_88 hk) ?_
  refine rz_All_c (i := 41) (fun k J hk hJ => rz_iload_n_ok (pc := 91) hx hb dX12_readField_91 rfl hk) ?_
  refine rz_All_c (i := 42) (fun k J hk hJ => rz_iast_ok (pc := 92) hx hb hK hA dX12_readField_92 hk) ?_
  refine rz_All_c (i := 43) (fun k J hk hJ => rz_aload_n_ok (pc := 93) hx hb dX12_readField_93 rfl hk) ?_
  refine rz_All_c (i := 44) (fun k J hk hJ => rz_getf_ok (pc := 94) (own := RX12) (ref := "ThreadJudgeModel") (C := RX12) (T := TX12) (N := 257) (ci := 14) (index := 66) (f := 30) (t := 2) (Ts := Cond.code yX12_readField cX12_readField 3 (some .boolean) :: rz_TB) hx hb hts rz_in14 ho hK rfl (by decide) rfl (fun _ => rfl) (hw (i := 39) (j := 3) rfl rfl) (fun _ z => z) dX12_readField_94 hk) ?_
  refine rz_All_c (i := 45) (fun k J hk hJ => rz_aload_n_ok (pc := 97) hx hb dX12_readField_97 rfl hk) ?_
  refine rz_All_c (i := 46) (fun k J hk hJ => rz_getf_ok (pc := 98) (own := RX12) (ref := "ThreadJudgeModel") (C := RX12) (T := TX12) (N := 257) (ci := 14) (index := 690) (f := 26) (t := 0) (Ts := Cond.code yX12_readField cX12_readField 3 (some .boolean) :: rz_TB) hx hb hts rz_in14 ho hK rfl (by decide) rfl (fun _ => rfl) (hw (i := 32) (j := 18) rfl rfl) (fun _ z => z) dX12_readField_98 hk) ?_
  refine rz_All_c (i := 47) (fun k J hk hJ => rz_iload_n_ok (pc := 101) hx hb dX12_readField_101 rfl hk) ?_
  refine rz_All_c (i := 48) (fun k J hk hJ => rz_iast_ok (pc := 102) hx hb hK hA dX12_readField_102 hk) ?_
  refine rz_All_c (i := 49) (fun k J hk hJ => rz_aload_n_ok (pc := 103) hx hb dX12_readField_103 rfl hk) ?_
  refine rz_All_c (i := 50) (fun k J hk hJ => rz_dup_ok (pc := 104) hx hb dX12_readField_104 hk) ?_
  refine rz_All_c (i := 51) (fun k J hk hJ => rz_getf_ok (pc := 105) (own := RX12) (ref := "ThreadJudgeModel") (C := RX12) (T := TX12) (N := 257) (ci := 14) (index := 690) (f := 26) (t := 0) (Ts := Cond.code yX12_readField cX12_readField 3 (some .boolean) :: rz_TB) hx hb hts rz_in14 ho hK rfl (by decide) rfl (fun _ => rfl) (hw (i := 32) (j := 18) rfl rfl) (fun _ z => z) dX12_readField_105 hk) ?_
  refine rz_All_c (i := 52) (fun k J hk hJ => rz_iconst_ok (pc := 108) hx hb dX12_readField_108 rfl hk) ?_
  refine rz_All_c (i := 53) (fun k J hk hJ => rz_iadd_ok (pc := 109) hx hb dX12_readField_109 hk) ?_
  refine rz_All_c (i := 54) (fun k J hk hJ => rz_putf_ok (pc := 110) (own := RX12) (ref := "ThreadJudgeModel") (C := RX12) (T := TX12) (N := 257) (ci := 14) (index := 690) (f := 26) (t := 0) (Ts := Cond.code yX12_readField cX12_readField 3 (some .boolean) :: rz_TB) hx hb hts rz_in14 tyX12 tyX12_ok nmX12 ho hK hA rfl (by decide) rfl (rz_UnI _) rfl (tyX12_ok 26 (by decide)) (hw (i := 32) (j := 18) rfl rfl) (fun _ z => z) dX12_readField_110 hk) ?_
  refine rz_All_c (i := 55) (fun k J hk hJ => rz_aload_n_ok (pc := 113) hx hb dX12_readField_113 rfl hk) ?_
  refine rz_All_c (i := 56) (fun k J hk hJ => rz_bipush_ok (pc := 114) hx hb dX12_readField_114 (by decide) hk) ?_
  refine rz_All_c (i := 57) (fun k J hk hJ => rz_callV_ok (pc := 116) (own := RX12) (C := RX12) (T0 := TX12) (N0 := 257) hC rfl (rmX12_sign l hG) (rz_cwV 1 hC rz_good (rz_mem (i := 38) (j := 12) rfl rfl) (rz_mem (i := 38) (j := 13) rfl rfl) (rz_mem (i := 38) (j := 14) rfl rfl) (rz_mem (i := 32) (j := 8) rfl rfl) (rz_mem (i := 38) (j := 15) rfl rfl) ⟨rfl, by decide, by decide, by decide +kernel⟩ rfl rfl ⟨by decide, by decide⟩) rfl dX12_readField_116 hk) ?_
  refine rz_All_c (i := 58) (fun k J hk hJ => rz_zret_ok (pc := 119) hC dX12_readField_119) ?_
  exact trivial
theorem dX12_nameOf_0 : decode cX12_nameOf 0 = .ok (.aload_n 0, 1) := by decide +kernel
theorem dX12_nameOf_1 : decode cX12_nameOf 1 = .ok (.invokevirtual 687, 3) := by decide +kernel
theorem dX12_nameOf_4 : decode cX12_nameOf 4 = .ok (.ifCond .ne 5, 3) := by decide +kernel
theorem dX12_nameOf_9 : decode cX12_nameOf 9 = .ok (.iload_n 2, 1) := by decide +kernel
theorem dX12_nameOf_10 : decode cX12_nameOf 10 = .ok (.ifCond .eq 26, 3) := by decide +kernel
theorem dX12_nameOf_13 : decode cX12_nameOf 13 = .ok (.aload_n 0, 1) := by decide +kernel
theorem dX12_nameOf_14 : decode cX12_nameOf 14 = .ok (.getfield 123, 3) := by decide +kernel
theorem dX12_nameOf_17 : decode cX12_nameOf 17 = .ok (.iload_n 1, 1) := by decide +kernel
theorem dX12_nameOf_18 : decode cX12_nameOf 18 = .ok (.aload_n 0, 1) := by decide +kernel
theorem dX12_nameOf_19 : decode cX12_nameOf 19 = .ok (.getfield 669, 3) := by decide +kernel
theorem dX12_nameOf_22 : decode cX12_nameOf 22 = .ok (.iastore, 1) := by decide +kernel
theorem dX12_nameOf_23 : decode cX12_nameOf 23 = .ok (.aload_n 0, 1) := by decide +kernel
theorem dX12_nameOf_24 : decode cX12_nameOf 24 = .ok (.getfield 126, 3) := by decide +kernel
theorem dX12_nameOf_27 : decode cX12_nameOf 27 = .ok (.iload_n 1, 1) := by decide +kernel
theorem dX12_nameOf_28 : decode cX12_nameOf 28 = .ok (.aload_n 0, 1) := by decide +kernel
theorem dX12_nameOf_29 : decode cX12_nameOf 29 = .ok (.getfield 672, 3) := by decide +kernel
theorem dX12_nameOf_32 : decode cX12_nameOf 32 = .ok (.iastore, 1) := by decide +kernel
theorem dX12_nameOf_33 : decode cX12_nameOf 33 = .ok (.goto 23, 3) := by decide +kernel
theorem dX12_nameOf_36 : decode cX12_nameOf 36 = .ok (.aload_n 0, 1) := by decide +kernel
theorem dX12_nameOf_37 : decode cX12_nameOf 37 = .ok (.getfield 117, 3) := by decide +kernel
theorem dX12_nameOf_40 : decode cX12_nameOf 40 = .ok (.iload_n 1, 1) := by decide +kernel
theorem dX12_nameOf_41 : decode cX12_nameOf 41 = .ok (.aload_n 0, 1) := by decide +kernel
theorem dX12_nameOf_42 : decode cX12_nameOf 42 = .ok (.getfield 669, 3) := by decide +kernel
theorem dX12_nameOf_45 : decode cX12_nameOf 45 = .ok (.iastore, 1) := by decide +kernel
theorem dX12_nameOf_46 : decode cX12_nameOf 46 = .ok (.aload_n 0, 1) := by decide +kernel
theorem dX12_nameOf_47 : decode cX12_nameOf 47 = .ok (.getfield 120, 3) := by decide +kernel
theorem dX12_nameOf_50 : decode cX12_nameOf 50 = .ok (.iload_n 1, 1) := by decide +kernel
theorem dX12_nameOf_51 : decode cX12_nameOf 51 = .ok (.aload_n 0, 1) := by decide +kernel
theorem dX12_nameOf_52 : decode cX12_nameOf 52 = .ok (.getfield 672, 3) := by decide +kernel
theorem dX12_nameOf_55 : decode cX12_nameOf 55 = .ok (.iastore, 1) := by decide +kernel
theorem dX12_nameOf_56 : decode cX12_nameOf 56 = .ok (.iconst 1, 1) := by decide +kernel
theorem dX12_nameOf_57 : decode cX12_nameOf 57 = .ok (.ireturn, 1) := by decide +kernel
def rpX12_nameOf : List Nat := [0, 1, 4, 7, 9, 10, 13, 14, 17, 18, 19, 22, 23, 24, 27, 28, 29, 32, 33, 36, 37, 40, 41, 42, 45, 46, 47, 50, 51, 52, 55, 56, 57]
noncomputable def rcX12_nameOf : List rz_B := [rz_aload 0, rz_callV 0 (Nat.add (Nat.mul 256 14) 1) rgX12_name, rz_ifne 4, rz_no, rz_iload 2, rz_ifeq 19, rz_aload 0, rz_getf (Nat.add (Nat.mul 256 14) 1) 51 rz_r, rz_iload 1, rz_aload 0, rz_getf (Nat.add (Nat.mul 256 14) 1) 66 rz_i, rz_iast, rz_aload 0, rz_getf (Nat.add (Nat.mul 256 14) 1) 52 rz_r, rz_iload 1, rz_aload 0, rz_getf (Nat.add (Nat.mul 256 14) 1) 67 rz_i, rz_iast, rz_goto 31, rz_aload 0, rz_getf (Nat.add (Nat.mul 256 14) 1) 49 rz_r, rz_iload 1, rz_aload 0, rz_getf (Nat.add (Nat.mul 256 14) 1) 66 rz_i, rz_iast, rz_aload 0, rz_getf (Nat.add (Nat.mul 256 14) 1) 50 rz_r, rz_iload 1, rz_aload 0, rz_getf (Nat.add (Nat.mul 256 14) 1) 67 rz_i, rz_iast, rz_cst 1, rz_zret]
noncomputable def rgX12_nameOf : rz_L → rz_M → rz_Z → Bool := rz_go rcX12_nameOf 3 1000000
def rrX12_nameOf : Room := { frames := 7, cells := 0, slots := 0, locals := 191 }
theorem rmX12_nameOf (l : Launch) {G : rz_G} (hG : rz_Gd G) (vs : rz_L) (M : rz_M) (Z : rz_Z) (hn : vs.length = 3) (h : rgX12_nameOf vs M Z = true) : Met l yX12_nameOf (Cond.code yX12_nameOf cX12_nameOf 3 (some .boolean) :: rz_TB) rrX12_nameOf (rz_Pre G vs M) (rz_Qi G M.2 Z) 0 0 (fun q => rz_b G ≤ q) := by
  obtain ⟨D, tc, ad, b, xs, rfl⟩ := id hG
  refine rz_body (pcs := rpX12_nameOf) (by decide) rfl (by rw [hn]; decide) h ?_
  intro p e R s m args below meth c hC
  obtain ⟨hx, hb, hml, hr, hlk, ho, hts, hKn, hRm⟩ := id hC
  obtain ⟨hK, hA, hSt⟩ := id hKn
  have hw : ∀ {i j : Nat} {ws : List Cond} {w : Cond}, rz_WW[i]? = some ws → ws[j]? = some w → w.before args s = true := fun h1 h2 => hts _ (List.mem_cons_of_mem _ (rz_mem h1 h2))
  refine rz_All_c (i := 0) (fun k J hk hJ => rz_aload_n_ok (pc := 0) hx hb dX12_nameOf_0 rfl hk) ?_
  refine rz_All_c (i := 1) (fun k J hk hJ => rz_callV_ok (pc := 1) (own := RX12) (C := RX12) (T0 := TX12) (N0 := 257) hC rfl (rmX12_name l hG) (rz_cwV 0 hC rz_good (rz_mem (i := 38) (j := 4) rfl rfl) (rz_mem (i := 38) (j := 5) rfl rfl) (rz_mem (i := 38) (j := 6) rfl rfl) (rz_mem (i := 32) (j := 8) rfl rfl) (rz_mem (i := 38) (j := 7) rfl rfl) ⟨rfl, by decide, by decide, by decide +kernel⟩ rfl rfl ⟨by decide, by decide⟩) rfl dX12_nameOf_1 hk) ?_
  refine rz_All_c (i := 2) (fun k J hk hJ => rz_ifne_ok (pc := 4) hx hb dX12_nameOf_4 rfl hk (hJ 4)) ?_
  refine rz_All_c (i := 3) (fun k J hk hJ => rz_no_ok) ?_
  refine rz_All_c (i := 4) (fun k J hk hJ => rz_iload_n_ok (pc := 9) hx hb dX12_nameOf_9 rfl hk) ?_
  refine rz_All_c (i := 5) (fun k J hk hJ => rz_ifeq_ok (pc := 10) hx hb dX12_nameOf_10 rfl hk (hJ 19)) ?_
  refine rz_All_c (i := 6) (fun k J hk hJ => rz_aload_n_ok (pc := 13) hx hb dX12_nameOf_13 rfl hk) ?_
  refine rz_All_c (i := 7) (fun k J hk hJ => rz_getf_ok (pc := 14) (own := RX12) (ref := "ThreadJudgeModel") (C := RX12) (T := TX12) (N := 257) (ci := 14) (index := 123) (f := 51) (t := 2) (Ts := Cond.code yX12_nameOf cX12_nameOf 3 (some .boolean) :: rz_TB) hx hb hts rz_in14 ho hK rfl (by decide) rfl (fun _ => rfl) (hw (i := 42) (j := 0) rfl rfl) (fun _ z => z) dX12_nameOf_14 hk) ?_
  refine rz_All_c (i := 8) (fun k J hk hJ => rz_iload_n_ok (pc := 17) hx hb dX12_nameOf_17 rfl hk) ?_
  refine rz_All_c (i := 9) (fun k J hk hJ => rz_aload_n_ok (pc := 18) hx hb dX12_nameOf_18 rfl hk) ?_
  refine rz_All_c (i := 10) (fun k J hk hJ => rz_getf_ok (pc := 19) (own := RX12) (ref := "ThreadJudgeModel") (C := RX12) (T := TX12) (N := 257) (ci := 14) (index := 669) (f := 66) (t := 0) (Ts := Cond.code yX12_nameOf cX12_nameOf 3 (some .boolean) :: rz_TB) hx hb hts rz_in14 ho hK rfl (by decide) rfl (fun _ => rfl) (hw (i := 36) (j := 11) rfl rfl) (fun _ z => z) dX12_nameOf_19 hk) ?_
  refine rz_All_c (i := 11) (fun k J hk hJ => rz_iast_ok (pc := 22) hx hb hK hA dX12_nameOf_22 hk) ?_
  refine rz_All_c (i := 12) (fun k J hk hJ => rz_aload_n_ok (pc := 23) hx hb dX12_nameOf_23 rfl hk) ?_
  refine rz_All_c (i := 13) (fun k J hk hJ => rz_getf_ok (pc := 24) (own := RX12) (ref := "ThreadJudgeModel") (C := RX12) (T := TX12) (N := 257) (ci := 14) (index := 126) (f := 52) (t := 2) (Ts := Cond.code yX12_nameOf cX12_nameOf 3 (some .boolean) :: rz_TB) hx hb hts rz_in14 ho hK rfl (by decide) rfl (fun _ => rfl) (hw (i := 42) (j := 1) rfl rfl) (fun _ z => z) dX12_nameOf_24 hk) ?_
  refine rz_All_c (i := 14) (fun k J hk hJ => rz_iload_n_ok (pc := 27) hx hb dX12_nameOf_27 rfl hk) ?_
  refine rz_All_c (i := 15) (fun k J hk hJ => rz_aload_n_ok (pc := 28) hx hb dX12_nameOf_28 rfl hk) ?_
  refine rz_All_c (i := 16) (fun k J hk hJ => rz_getf_ok (pc := 29) (own := RX12) (ref := "ThreadJudgeModel") (C := RX12) (T := TX12) (N := 257) (ci := 14) (index := 672) (f := 67) (t := 0) (Ts := Cond.code yX12_nameOf cX12_nameOf 3 (some .boolean) :: rz_TB) hx hb hts rz_in14 ho hK rfl (by decide) rfl (fun _ => rfl) (hw (i := 36) (j := 13) rfl rfl) (fun _ z => z) dX12_nameOf_29 hk) ?_
  refine rz_All_c (i := 17) (fun k J hk hJ => rz_iast_ok (pc := 32) hx hb hK hA dX12_nameOf_32 hk) ?_
  refine rz_All_c (i := 18) (fun k J hk hJ => rz_goto_ok (pc := 33) hx hb dX12_nameOf_33 rfl (hJ 31)) ?_
  refine rz_All_c (i := 19) (fun k J hk hJ => rz_aload_n_ok (pc := 36) hx hb dX12_nameOf_36 rfl hk) ?_
  refine rz_All_c (i := 20) (fun k J hk hJ => rz_getf_ok (pc := 37) (own := RX12) (ref := "ThreadJudgeModel") (C := RX12) (T := TX12) (N := 257) (ci := 14) (index := 117) (f := 49) (t := 2) (Ts := Cond.code yX12_nameOf cX12_nameOf 3 (some .boolean) :: rz_TB) hx hb hts rz_in14 ho hK rfl (by decide) rfl (fun _ => rfl) (hw (i := 42) (j := 2) rfl rfl) (fun _ z => z) dX12_nameOf_37 hk) ?_
  refine rz_All_c (i := 21) (fun k J hk hJ => rz_iload_n_ok (pc := 40) hx hb dX12_nameOf_40 rfl hk) ?_
  refine rz_All_c (i := 22) (fun k J hk hJ => rz_aload_n_ok (pc := 41) hx hb dX12_nameOf_41 rfl hk) ?_
  refine rz_All_c (i := 23) (fun k J hk hJ => rz_getf_ok (pc := 42) (own := RX12) (ref := "ThreadJudgeModel") (C := RX12) (T := TX12) (N := 257) (ci := 14) (index := 669) (f := 66) (t := 0) (Ts := Cond.code yX12_nameOf cX12_nameOf 3 (some .boolean) :: rz_TB) hx hb hts rz_in14 ho hK rfl (by decide) rfl (fun _ => rfl) (hw (i := 36) (j := 11) rfl rfl) (fun _ z => z) dX12_nameOf_42 hk) ?_
  refine rz_All_c (i := 24) (fun k J hk hJ => rz_iast_ok (pc := 45) hx hb hK hA dX12_nameOf_45 hk) ?_
  refine rz_All_c (i := 25) (fun k J hk hJ => rz_aload_n_ok (pc := 46) hx hb dX12_nameOf_46 rfl hk) ?_
  refine rz_All_c (i := 26) (fun k J hk hJ => rz_getf_ok (pc := 47) (own := RX12) (ref := "ThreadJudgeModel") (C := RX12) (T := TX12) (N := 257) (ci := 14) (index := 120) (f := 50) (t := 2) (Ts := Cond.code yX12_nameOf cX12_nameOf 3 (some .boolean) :: rz_TB) hx hb hts rz_in14 ho hK rfl (by decide) rfl (fun _ => rfl) (hw (i := 42) (j := 3) rfl rfl) (fun _ z => z) dX12_nameOf_47 hk) ?_
  refine rz_All_c (i := 27) (fun k J hk hJ => rz_iload_n_ok (pc := 50) hx hb dX12_nameOf_50 rfl hk) ?_
  refine rz_All_c (i := 28) (fun k J hk hJ => rz_aload_n_ok (pc := 51) hx hb dX12_nameOf_51 rfl hk) ?_
  refine rz_All_c (i := 29) (fun k J hk hJ => rz_getf_ok (pc := 52) (own := RX12) (ref := "ThreadJudgeModel") (C := RX12) (T := TX12) (N := 257) (ci := 14) (index := 672) (f := 67) (t := 0) (Ts := Cond.code yX12_nameOf cX12_nameOf 3 (some .boolean) :: rz_TB) hx hb hts rz_in14 ho hK rfl (by decide) rfl (fun _ => rfl) (hw (i := 36) (j := 13) rfl rfl) (fun _ z => z) dX12_nameOf_52 hk) ?_
  refine rz_All_c (i := 30) (fun k J hk hJ => rz_iast_ok (pc := 55) hx hb hK hA dX12_nameOf_55 hk) ?_
  refine rz_All_c (i := 31) (fun k J hk hJ => rz_iconst_ok (pc := 56) hx hb dX12_nameOf_56 rfl hk) ?_
  refine rz_All_c (i := 32) (fun k J hk hJ => rz_zret_ok (pc := 57) hC dX12_nameOf_57) ?_
  exact trivial
theorem dX12_types_0 : decode cX12_types 0 = .ok (.aload_n 0, 1) := by decide +kernel
theorem dX12_types_1 : decode cX12_types 1 = .ok (.iconst 0, 1) := by decide +kernel
theorem dX12_types_2 : decode cX12_types 2 = .ok (.putfield 675, 3) := by decide +kernel
theorem dX12_types_5 : decode cX12_types 5 = .ok (.aload_n 0, 1) := by decide +kernel
theorem dX12_types_6 : decode cX12_types 6 = .ok (.bipush 40, 2) := by decide +kernel
theorem dX12_types_8 : decode cX12_types 8 = .ok (.invokevirtual 666, 3) := by decide +kernel
theorem dX12_types_11 : decode cX12_types 11 = .ok (.ifCond .ne 5, 3) := by decide +kernel
theorem dX12_types_16 : decode cX12_types 16 = .ok (.aload_n 0, 1) := by decide +kernel
theorem dX12_types_17 : decode cX12_types 17 = .ok (.bipush 41, 2) := by decide +kernel
theorem dX12_types_19 : decode cX12_types 19 = .ok (.invokevirtual 641, 3) := by decide +kernel
theorem dX12_types_22 : decode cX12_types 22 = .ok (.ifCond .ne 7, 3) := by decide +kernel
theorem dX12_types_25 : decode cX12_types 25 = .ok (.iconst 1, 1) := by decide +kernel
theorem dX12_types_26 : decode cX12_types 26 = .ok (.goto 4, 3) := by decide +kernel
theorem dX12_types_29 : decode cX12_types 29 = .ok (.iconst 0, 1) := by decide +kernel
theorem dX12_types_30 : decode cX12_types 30 = .ok (.istore_n 2, 1) := by decide +kernel
theorem dX12_types_31 : decode cX12_types 31 = .ok (.iload_n 2, 1) := by decide +kernel
theorem dX12_types_32 : decode cX12_types 32 = .ok (.ifCond .eq 93, 3) := by decide +kernel
theorem dX12_types_35 : decode cX12_types 35 = .ok (.aload_n 0, 1) := by decide +kernel
theorem dX12_types_36 : decode cX12_types 36 = .ok (.getfield 675, 3) := by decide +kernel
theorem dX12_types_39 : decode cX12_types 39 = .ok (.bipush 6, 2) := by decide +kernel
theorem dX12_types_41 : decode cX12_types 41 = .ok (.if_icmp .ne 41, 3) := by decide +kernel
theorem dX12_types_82 : decode cX12_types 82 = .ok (.aload_n 0, 1) := by decide +kernel
theorem dX12_types_83 : decode cX12_types 83 = .ok (.iload_n 1, 1) := by decide +kernel
theorem dX12_types_84 : decode cX12_types 84 = .ok (.aload_n 0, 1) := by decide +kernel
theorem dX12_types_85 : decode cX12_types 85 = .ok (.getfield 675, 3) := by decide +kernel
theorem dX12_types_88 : decode cX12_types 88 = .ok (.iadd, 1) := by decide +kernel
theorem dX12_types_89 : decode cX12_types 89 = .ok (.invokevirtual 681, 3) := by decide +kernel
theorem dX12_types_92 : decode cX12_types 92 = .ok (.ifCond .ne 5, 3) := by decide +kernel
theorem dX12_types_97 : decode cX12_types 97 = .ok (.aload_n 0, 1) := by decide +kernel
theorem dX12_types_98 : decode cX12_types 98 = .ok (.dup, 1) := by decide +kernel
theorem dX12_types_99 : decode cX12_types 99 = .ok (.getfield 675, 3) := by decide +kernel
theorem dX12_types_102 : decode cX12_types 102 = .ok (.iconst 1, 1) := by decide +kernel
theorem dX12_types_103 : decode cX12_types 103 = .ok (.iadd, 1) := by decide +kernel
theorem dX12_types_104 : decode cX12_types 104 = .ok (.putfield 675, 3) := by decide +kernel
theorem dX12_types_107 : decode cX12_types 107 = .ok (.aload_n 0, 1) := by decide +kernel
theorem dX12_types_108 : decode cX12_types 108 = .ok (.bipush 44, 2) := by decide +kernel
theorem dX12_types_110 : decode cX12_types 110 = .ok (.invokevirtual 641, 3) := by decide +kernel
theorem dX12_types_113 : decode cX12_types 113 = .ok (.istore_n 2, 1) := by decide +kernel
theorem dX12_types_114 : decode cX12_types 114 = .ok (.iload_n 2, 1) := by decide +kernel
theorem dX12_types_115 : decode cX12_types 115 = .ok (.ifCond .eq (-84), 3) := by decide +kernel
theorem dX12_types_125 : decode cX12_types 125 = .ok (.aload_n 0, 1) := by decide +kernel
theorem dX12_types_126 : decode cX12_types 126 = .ok (.bipush 41, 2) := by decide +kernel
theorem dX12_types_128 : decode cX12_types 128 = .ok (.invokevirtual 666, 3) := by decide +kernel
theorem dX12_types_131 : decode cX12_types 131 = .ok (.ireturn, 1) := by decide +kernel
def rpX12_types : List Nat := [0, 1, 2, 5, 6, 8, 11, 14, 16, 17, 19, 22, 25, 26, 29, 30, 31, 32, 35, 36, 39, 41, 44, 82, 83, 84, 85, 88, 89, 92, 95, 97, 98, 99, 102, 103, 104, 107, 108, 110, 113, 114, 115, 118, 125, 126, 128, 131]
noncomputable def rcX12_types : List rz_B := [rz_aload 0, rz_cst 0, rz_putf (Nat.add (Nat.mul 256 14) 1) 68 rz_unI, rz_aload 0, rz_cst 40, rz_callV 1 (Nat.add (Nat.mul 256 14) 1) rgX12_sign, rz_ifne 8, rz_no, rz_aload 0, rz_cst 41, rz_callV 1 (Nat.add (Nat.mul 256 14) 1) rgX12_isSign, rz_ifne 14, rz_cst 1, rz_goto 15, rz_cst 0, rz_istore 2, rz_iload 2, rz_ifeq 44, rz_aload 0, rz_getf (Nat.add (Nat.mul 256 14) 1) 68 rz_i, rz_cst 6, rz_icmpne 23, rz_no, rz_aload 0, rz_iload 1, rz_aload 0, rz_getf (Nat.add (Nat.mul 256 14) 1) 68 rz_i, rz_iadd, rz_callV 1 (Nat.add (Nat.mul 256 14) 1) rgX12_type, rz_ifne 31, rz_no, rz_aload 0, rz_dup, rz_getf (Nat.add (Nat.mul 256 14) 1) 68 rz_i, rz_cst 1, rz_iadd, rz_putf (Nat.add (Nat.mul 256 14) 1) 68 rz_unI, rz_aload 0, rz_cst 44, rz_callV 1 (Nat.add (Nat.mul 256 14) 1) rgX12_isSign, rz_istore 2, rz_iload 2, rz_ifeq 16, rz_no, rz_aload 0, rz_cst 41, rz_callV 1 (Nat.add (Nat.mul 256 14) 1) rgX12_sign, rz_zret]
noncomputable def rgX12_types : rz_L → rz_M → rz_Z → Bool := rz_go rcX12_types 3 1000000
def rrX12_types : Room := { frames := 7, cells := 0, slots := 0, locals := 194 }
theorem rmX12_types (l : Launch) {G : rz_G} (hG : rz_Gd G) (vs : rz_L) (M : rz_M) (Z : rz_Z) (hn : vs.length = 2) (h : rgX12_types vs M Z = true) : Met l yX12_types (Cond.code yX12_types cX12_types 3 (some .boolean) :: rz_TB) rrX12_types (rz_Pre G vs M) (rz_Qi G M.2 Z) 0 0 (fun q => rz_b G ≤ q) := by
  obtain ⟨D, tc, ad, b, xs, rfl⟩ := id hG
  refine rz_body (pcs := rpX12_types) (by decide) rfl (by rw [hn]; decide) h ?_
  intro p e R s m args below meth c hC
  obtain ⟨hx, hb, hml, hr, hlk, ho, hts, hKn, hRm⟩ := id hC
  obtain ⟨hK, hA, hSt⟩ := id hKn
  have hw : ∀ {i j : Nat} {ws : List Cond} {w : Cond}, rz_WW[i]? = some ws → ws[j]? = some w → w.before args s = true := fun h1 h2 => hts _ (List.mem_cons_of_mem _ (rz_mem h1 h2))
  refine rz_All_c (i := 0) (fun k J hk hJ => rz_aload_n_ok (pc := 0) hx hb dX12_types_0 rfl hk) ?_
  refine rz_All_c (i := 1) (fun k J hk hJ => rz_iconst_ok (pc := 1) hx hb dX12_types_1 rfl hk) ?_
  refine rz_All_c (i := 2) (fun k J hk hJ => rz_putf_ok (pc := 2) (own := RX12) (ref := "ThreadJudgeModel") (C := RX12) (T := TX12) (N := 257) (ci := 14) (index := 675) (f := 68) (t := 0) (Ts := Cond.code yX12_types cX12_types 3 (some .boolean) :: rz_TB) hx hb hts rz_in14 tyX12 tyX12_ok nmX12 ho hK hA rfl (by decide) rfl (rz_UnI _) rfl (tyX12_ok 68 (by decide)) (hw (i := 39) (j := 23) rfl rfl) (fun _ z => z) dX12_types_2 hk) ?_
  refine rz_All_c (i := 3) (fun k J hk hJ => rz_aload_n_ok (pc := 5) hx hb dX12_types_5 rfl hk) ?_
  refine rz_All_c (i := 4) (fun k J hk hJ => rz_bipush_ok (pc := 6) hx hb dX12_types_6 (by decide) hk) ?_
  refine rz_All_c (i := 5) (fun k J hk hJ => rz_callV_ok (pc := 8) (own := RX12) (C := RX12) (T0 := TX12) (N0 := 257) hC rfl (rmX12_sign l hG) (rz_cwV 1 hC rz_good (rz_mem (i := 38) (j := 12) rfl rfl) (rz_mem (i := 38) (j := 13) rfl rfl) (rz_mem (i := 38) (j := 14) rfl rfl) (rz_mem (i := 32) (j := 8) rfl rfl) (rz_mem (i := 38) (j := 15) rfl rfl) ⟨rfl, by decide, by decide, by decide +kernel⟩ rfl rfl ⟨by decide, by decide⟩) rfl dX12_types_8 hk) ?_
  refine rz_All_c (i := 6) (fun k J hk hJ => rz_ifne_ok (pc := 11) hx hb dX12_types_11 rfl hk (hJ 8)) ?_
  refine rz_All_c (i := 7) (fun k J hk hJ => rz_no_ok) ?_
  refine rz_All_c (i := 8) (fun k J hk hJ => rz_aload_n_ok (pc := 16) hx hb dX12_types_16 rfl hk) ?_
  refine rz_All_c (i := 9) (fun k J hk hJ => rz_bipush_ok (pc := 17) hx hb dX12_types_17 (by decide) hk) ?_
  refine rz_All_c (i := 10) (fun k J hk hJ => rz_callV_ok (pc := 19) (own := RX12) (C := RX12) (T0 := TX12) (N0 := 257) hC rfl (rmX12_isSign l hG) (rz_cwV 1 hC rz_good (rz_mem (i := 38) (j := 8) rfl rfl) (rz_mem (i := 38) (j := 9) rfl rfl) (rz_mem (i := 38) (j := 10) rfl rfl) (rz_mem (i := 32) (j := 8) rfl rfl) (rz_mem (i := 38) (j := 11) rfl rfl) ⟨rfl, by decide, by decide, by decide +kernel⟩ rfl rfl ⟨by decide, by decide⟩) rfl dX12_types_19 hk) ?_
  refine rz_All_c (i := 11) (fun k J hk hJ => rz_ifne_ok (pc := 22) hx hb dX12_types_22 rfl hk (hJ 14)) ?_
  refine rz_All_c (i := 12) (fun k J hk hJ => rz_iconst_ok (pc := 25) hx hb dX12_types_25 rfl hk) ?_
  refine rz_All_c (i := 13) (fun k J hk hJ => rz_goto_ok (pc := 26) hx hb dX12_types_26 rfl (hJ 15)) ?_
  refine rz_All_c (i := 14) (fun k J hk hJ => rz_iconst_ok (pc := 29) hx hb dX12_types_29 rfl hk) ?_
  refine rz_All_c (i := 15) (fun k J hk hJ => rz_istore_n_ok (pc := 30) hx hb dX12_types_30 rfl hk) ?_
  refine rz_All_c (i := 16) (fun k J hk hJ => rz_iload_n_ok (pc := 31) hx hb dX12_types_31 rfl hk) ?_
  refine rz_All_c (i := 17) (fun k J hk hJ => rz_ifeq_ok (pc := 32) hx hb dX12_types_32 rfl hk (hJ 44)) ?_
  refine rz_All_c (i := 18) (fun k J hk hJ => rz_aload_n_ok (pc := 35) hx hb dX12_types_35 rfl hk) ?_
  refine rz_All_c (i := 19) (fun k J hk hJ => rz_getf_ok (pc := 36) (own := RX12) (ref := "ThreadJudgeModel") (C := RX12) (T := TX12) (N := 257) (ci := 14) (index := 675) (f := 68) (t := 0) (Ts := Cond.code yX12_types cX12_types 3 (some .boolean) :: rz_TB) hx hb hts rz_in14 ho hK rfl (by decide) rfl (fun _ => rfl) (hw (i := 39) (j := 23) rfl rfl) (fun _ z => z) dX12_types_36 hk) ?_
  refine rz_All_c (i := 20) (fun k J hk hJ => rz_bipush_ok (pc := 39) hx hb dX12_types_39 (by decide) hk) ?_
  refine rz_All_c (i := 21) (fun k J hk hJ => rz_icmpne_ok (pc := 41) hx hb dX12_types_41 rfl hk (hJ 23)) ?_
  refine rz_All_c (i := 22) (fun k J hk hJ => rz_no_ok) ?_
  refine rz_All_c (i := 23) (fun k J hk hJ => rz_aload_n_ok (pc := 82) hx hb dX12_types_82 rfl hk) ?_
  refine rz_All_c (i := 24) (fun k J hk hJ => rz_iload_n_ok (pc := 83) hx hb dX12_types_83 rfl hk) ?_
  refine rz_All_c (i := 25) (fun k J hk hJ => rz_aload_n_ok (pc := 84) hx hb dX12_types_84 rfl hk) ?_
  refine rz_All_c (i := 26) (fun k J hk hJ => rz_getf_ok (pc := 85) (own := RX12) (ref := "ThreadJudgeModel") (C := RX12) (T := TX12) (N := 257) (ci := 14) (index := 675) (f := 68) (t := 0) (Ts := Cond.code yX12_types cX12_types 3 (some .boolean) :: rz_TB) hx hb hts rz_in14 ho hK rfl (by decide) rfl (fun _ => rfl) (hw (i := 39) (j := 23) rfl rfl) (fun _ z => z) dX12_types_85 hk) ?_
  refine rz_All_c (i := 27) (fun k J hk hJ => rz_iadd_ok (pc := 88) hx hb dX12_types_88 hk) ?_
  refine rz_All_c (i := 28) (fun k J hk hJ => rz_callV_ok (pc := 89) (own := RX12) (C := RX12) (T0 := TX12) (N0 := 257) hC rfl (rmX12_type l hG) (rz_cwV 1 hC rz_good (rz_mem (i := 39) (j := 4) rfl rfl) (rz_mem (i := 39) (j := 5) rfl rfl) (rz_mem (i := 39) (j := 6) rfl rfl) (rz_mem (i := 32) (j := 8) rfl rfl) (rz_mem (i := 39) (j := 7) rfl rfl) ⟨rfl, by decide, by decide, by decide +kernel⟩ rfl rfl ⟨by decide, by decide⟩) rfl dX12_types_89 hk) ?_
  refine rz_All_c (i := 29) (fun k J hk hJ => rz_ifne_ok (pc := 92) hx hb dX12_types_92 rfl hk (hJ 31)) ?_
  refine rz_All_c (i := 30) (fun k J hk hJ => rz_no_ok) ?_
  refine rz_All_c (i := 31) (fun k J hk hJ => rz_aload_n_ok (pc := 97) hx hb dX12_types_97 rfl hk) ?_
  refine rz_All_c (i := 32) (fun k J hk hJ => rz_dup_ok (pc := 98) hx hb dX12_types_98 hk) ?_
  refine rz_All_c (i := 33) (fun k J hk hJ => rz_getf_ok (pc := 99) (own := RX12) (ref := "ThreadJudgeModel") (C := RX12) (T := TX12) (N := 257) (ci := 14) (index := 675) (f := 68) (t := 0) (Ts := Cond.code yX12_types cX12_types 3 (some .boolean) :: rz_TB) hx hb hts rz_in14 ho hK rfl (by decide) rfl (fun _ => rfl) (hw (i := 39) (j := 23) rfl rfl) (fun _ z => z) dX12_types_99 hk) ?_
  refine rz_All_c (i := 34) (fun k J hk hJ => rz_iconst_ok (pc := 102) hx hb dX12_types_102 rfl hk) ?_
  refine rz_All_c (i := 35) (fun k J hk hJ => rz_iadd_ok (pc := 103) hx hb dX12_types_103 hk) ?_
  refine rz_All_c (i := 36) (fun k J hk hJ => rz_putf_ok (pc := 104) (own := RX12) (ref := "ThreadJudgeModel") (C := RX12) (T := TX12) (N := 257) (ci := 14) (index := 675) (f := 68) (t := 0) (Ts := Cond.code yX12_types cX12_types 3 (some .boolean) :: rz_TB) hx hb hts rz_in14 tyX12 tyX12_ok nmX12 ho hK hA rfl (by decide) rfl (rz_UnI _) rfl (tyX12_ok 68 (by decide)) (hw (i := 39) (j := 23) rfl rfl) (fun _ z => z) dX12_types_104 hk) ?_
  refine rz_All_c (i := 37) (fun k J hk hJ => rz_aload_n_ok (pc := 107) hx hb dX12_types_107 rfl hk) ?_
  refine rz_All_c (i := 38) (fun k J hk hJ => rz_bipush_ok (pc := 108) hx hb dX12_types_108 (by decide) hk) ?_
  refine rz_All_c (i := 39) (fun k J hk hJ => rz_callV_ok (pc := 110) (own := RX12) (C := RX12) (T0 := TX12) (N0 := 257) hC rfl (rmX12_isSign l hG) (rz_cwV 1 hC rz_good (rz_mem (i := 38) (j := 8) rfl rfl) (rz_mem (i := 38) (j := 9) rfl rfl) (rz_mem (i := 38) (j := 10) rfl rfl) (rz_mem (i := 32) (j := 8) rfl rfl) (rz_mem (i := 38) (j := 11) rfl rfl) ⟨rfl, by decide, by decide, by decide +kernel⟩ rfl rfl ⟨by decide, by decide⟩) rfl dX12_types_110 hk) ?_
  refine rz_All_c (i := 40) (fun k J hk hJ => rz_istore_n_ok (pc := 113) hx hb dX12_types_113 rfl hk) ?_
  refine rz_All_c (i := 41) (fun k J hk hJ => rz_iload_n_ok (pc := 114) hx hb dX12_types_114 rfl hk) ?_
  refine rz_All_c (i := 42) (fun k J hk hJ => rz_ifeq_ok (pc := 115) hx hb dX12_types_115 rfl hk (hJ 16)) ?_
  refine rz_All_c (i := 43) (fun k J hk hJ => rz_no_ok) ?_
  refine rz_All_c (i := 44) (fun k J hk hJ => rz_aload_n_ok (pc := 125) hx hb dX12_types_125 rfl hk) ?_
  refine rz_All_c (i := 45) (fun k J hk hJ => rz_bipush_ok (pc := 126) hx hb dX12_types_126 (by decide) hk) ?_
  refine rz_All_c (i := 46) (fun k J hk hJ => rz_callV_ok (pc := 128) (own := RX12) (C := RX12) (T0 := TX12) (N0 := 257) hC rfl (rmX12_sign l hG) (rz_cwV 1 hC rz_good (rz_mem (i := 38) (j := 12) rfl rfl) (rz_mem (i := 38) (j := 13) rfl rfl) (rz_mem (i := 38) (j := 14) rfl rfl) (rz_mem (i := 32) (j := 8) rfl rfl) (rz_mem (i := 38) (j := 15) rfl rfl) ⟨rfl, by decide, by decide, by decide +kernel⟩ rfl rfl ⟨by decide, by decide⟩) rfl dX12_types_128 hk) ?_
  refine rz_All_c (i := 47) (fun k J hk hJ => rz_zret_ok (pc := 131) hC dX12_types_131) ?_
  exact trivial
