/-! Methods: handlers, facts, contracts. -/
theorem dX9_classHead_0 : decode cX9_classHead 0 = .ok (.iconst 0, 1) := by decide +kernel
theorem dX9_classHead_1 : decode cX9_classHead 1 = .ok (.istore_n 1, 1) := by decide +kernel
theorem dX9_classHead_2 : decode cX9_classHead 2 = .ok (.iconst 0, 1) := by decide +kernel
theorem dX9_classHead_3 : decode cX9_classHead 3 = .ok (.istore_n 2, 1) := by decide +kernel
theorem dX9_classHead_4 : decode cX9_classHead 4 = .ok (.iload_n 2, 1) := by decide +kernel
theorem dX9_classHead_5 : decode cX9_classHead 5 = .ok (.aload_n 0, 1) := by decide +kernel
theorem dX9_classHead_6 : decode cX9_classHead 6 = .ok (.getfield 129, 3) := by decide +kernel
theorem dX9_classHead_9 : decode cX9_classHead 9 = .ok (.if_icmp .ge 54, 3) := by decide +kernel
theorem dX9_classHead_12 : decode cX9_classHead 12 = .ok (.aload_n 0, 1) := by decide +kernel
theorem dX9_classHead_13 : decode cX9_classHead 13 = .ok (.bipush 60, 2) := by decide +kernel
theorem dX9_classHead_15 : decode cX9_classHead 15 = .ok (.invokevirtual 226, 3) := by decide +kernel
theorem dX9_classHead_18 : decode cX9_classHead 18 = .ok (.ifCond .ne 12, 3) := by decide +kernel
theorem dX9_classHead_21 : decode cX9_classHead 21 = .ok (.aload_n 0, 1) := by decide +kernel
theorem dX9_classHead_22 : decode cX9_classHead 22 = .ok (.bipush 61, 2) := by decide +kernel
theorem dX9_classHead_24 : decode cX9_classHead 24 = .ok (.invokevirtual 226, 3) := by decide +kernel
theorem dX9_classHead_27 : decode cX9_classHead 27 = .ok (.ifCond .eq 36, 3) := by decide +kernel
theorem dX9_classHead_63 : decode cX9_classHead 63 = .ok (.aload_n 0, 1) := by decide +kernel
theorem dX9_classHead_64 : decode cX9_classHead 64 = .ok (.bipush 62, 2) := by decide +kernel
theorem dX9_classHead_66 : decode cX9_classHead 66 = .ok (.invokevirtual 226, 3) := by decide +kernel
theorem dX9_classHead_69 : decode cX9_classHead 69 = .ok (.ifCond .ne 14, 3) := by decide +kernel
theorem dX9_classHead_72 : decode cX9_classHead 72 = .ok (.aload_n 0, 1) := by decide +kernel
theorem dX9_classHead_73 : decode cX9_classHead 73 = .ok (.bipush 63, 2) := by decide +kernel
theorem dX9_classHead_75 : decode cX9_classHead 75 = .ok (.invokevirtual 226, 3) := by decide +kernel
theorem dX9_classHead_78 : decode cX9_classHead 78 = .ok (.ifCond .ne 5, 3) := by decide +kernel
theorem dX9_classHead_83 : decode cX9_classHead 83 = .ok (.iload_n 1, 1) := by decide +kernel
theorem dX9_classHead_84 : decode cX9_classHead 84 = .ok (.aload_n 0, 1) := by decide +kernel
theorem dX9_classHead_85 : decode cX9_classHead 85 = .ok (.bipush 63, 2) := by decide +kernel
theorem dX9_classHead_87 : decode cX9_classHead 87 = .ok (.invokevirtual 226, 3) := by decide +kernel
theorem dX9_classHead_90 : decode cX9_classHead 90 = .ok (.ifCond .eq 7, 3) := by decide +kernel
theorem dX9_classHead_93 : decode cX9_classHead 93 = .ok (.iconst 1, 1) := by decide +kernel
theorem dX9_classHead_94 : decode cX9_classHead 94 = .ok (.goto 4, 3) := by decide +kernel
theorem dX9_classHead_97 : decode cX9_classHead 97 = .ok (.iconst 0, 1) := by decide +kernel
theorem dX9_classHead_98 : decode cX9_classHead 98 = .ok (.ior, 1) := by decide +kernel
theorem dX9_classHead_99 : decode cX9_classHead 99 = .ok (.istore_n 1, 1) := by decide +kernel
theorem dX9_classHead_100 : decode cX9_classHead 100 = .ok (.aload_n 0, 1) := by decide +kernel
theorem dX9_classHead_101 : decode cX9_classHead 101 = .ok (.dup, 1) := by decide +kernel
theorem dX9_classHead_102 : decode cX9_classHead 102 = .ok (.getfield 187, 3) := by decide +kernel
theorem dX9_classHead_105 : decode cX9_classHead 105 = .ok (.iconst 1, 1) := by decide +kernel
theorem dX9_classHead_106 : decode cX9_classHead 106 = .ok (.iadd, 1) := by decide +kernel
theorem dX9_classHead_107 : decode cX9_classHead 107 = .ok (.putfield 187, 3) := by decide +kernel
theorem dX9_classHead_110 : decode cX9_classHead 110 = .ok (.aload_n 0, 1) := by decide +kernel
theorem dX9_classHead_111 : decode cX9_classHead 111 = .ok (.invokevirtual 230, 3) := by decide +kernel
theorem dX9_classHead_114 : decode cX9_classHead 114 = .ok (.ifCond .ne 5, 3) := by decide +kernel
theorem dX9_classHead_119 : decode cX9_classHead 119 = .ok (.aload_n 0, 1) := by decide +kernel
theorem dX9_classHead_120 : decode cX9_classHead 120 = .ok (.getfield 37, 3) := by decide +kernel
theorem dX9_classHead_123 : decode cX9_classHead 123 = .ok (.getfield 233, 3) := by decide +kernel
theorem dX9_classHead_126 : decode cX9_classHead 126 = .ok (.bipush 43, 2) := by decide +kernel
theorem dX9_classHead_128 : decode cX9_classHead 128 = .ok (.if_icmp .lt 8, 3) := by decide +kernel
theorem dX9_classHead_136 : decode cX9_classHead 136 = .ok (.aload_n 0, 1) := by decide +kernel
theorem dX9_classHead_137 : decode cX9_classHead 137 = .ok (.getfield 37, 3) := by decide +kernel
theorem dX9_classHead_140 : decode cX9_classHead 140 = .ok (.dup, 1) := by decide +kernel
theorem dX9_classHead_141 : decode cX9_classHead 141 = .ok (.getfield 233, 3) := by decide +kernel
theorem dX9_classHead_144 : decode cX9_classHead 144 = .ok (.dup_x1, 1) := by decide +kernel
theorem dX9_classHead_145 : decode cX9_classHead 145 = .ok (.iconst 1, 1) := by decide +kernel
theorem dX9_classHead_146 : decode cX9_classHead 146 = .ok (.iadd, 1) := by decide +kernel
theorem dX9_classHead_147 : decode cX9_classHead 147 = .ok (.putfield 233, 3) := by decide +kernel
theorem dX9_classHead_150 : decode cX9_classHead 150 = .ok (.istore_n 2, 1) := by decide +kernel
theorem dX9_classHead_151 : decode cX9_classHead 151 = .ok (.aload_n 0, 1) := by decide +kernel
theorem dX9_classHead_152 : decode cX9_classHead 152 = .ok (.getfield 37, 3) := by decide +kernel
theorem dX9_classHead_155 : decode cX9_classHead 155 = .ok (.getfield 239, 3) := by decide +kernel
theorem dX9_classHead_158 : decode cX9_classHead 158 = .ok (.iconst 0, 1) := by decide +kernel
theorem dX9_classHead_159 : decode cX9_classHead 159 = .ok (.aaload, 1) := by decide +kernel
theorem dX9_classHead_160 : decode cX9_classHead 160 = .ok (.iload_n 2, 1) := by decide +kernel
theorem dX9_classHead_161 : decode cX9_classHead 161 = .ok (.aload_n 0, 1) := by decide +kernel
theorem dX9_classHead_162 : decode cX9_classHead 162 = .ok (.getfield 34, 3) := by decide +kernel
theorem dX9_classHead_165 : decode cX9_classHead 165 = .ok (.aload_n 0, 1) := by decide +kernel
theorem dX9_classHead_166 : decode cX9_classHead 166 = .ok (.getfield 187, 3) := by decide +kernel
theorem dX9_classHead_169 : decode cX9_classHead 169 = .ok (.iaload, 1) := by decide +kernel
theorem dX9_classHead_170 : decode cX9_classHead 170 = .ok (.iastore, 1) := by decide +kernel
theorem dX9_classHead_171 : decode cX9_classHead 171 = .ok (.aload_n 0, 1) := by decide +kernel
theorem dX9_classHead_172 : decode cX9_classHead 172 = .ok (.getfield 37, 3) := by decide +kernel
theorem dX9_classHead_175 : decode cX9_classHead 175 = .ok (.getfield 239, 3) := by decide +kernel
theorem dX9_classHead_178 : decode cX9_classHead 178 = .ok (.iconst 1, 1) := by decide +kernel
theorem dX9_classHead_179 : decode cX9_classHead 179 = .ok (.aaload, 1) := by decide +kernel
theorem dX9_classHead_180 : decode cX9_classHead 180 = .ok (.iload_n 2, 1) := by decide +kernel
theorem dX9_classHead_181 : decode cX9_classHead 181 = .ok (.aload_n 0, 1) := by decide +kernel
theorem dX9_classHead_182 : decode cX9_classHead 182 = .ok (.invokevirtual 242, 3) := by decide +kernel
theorem dX9_classHead_185 : decode cX9_classHead 185 = .ok (.iastore, 1) := by decide +kernel
theorem dX9_classHead_186 : decode cX9_classHead 186 = .ok (.aload_n 0, 1) := by decide +kernel
theorem dX9_classHead_187 : decode cX9_classHead 187 = .ok (.getfield 37, 3) := by decide +kernel
theorem dX9_classHead_190 : decode cX9_classHead 190 = .ok (.getfield 239, 3) := by decide +kernel
theorem dX9_classHead_193 : decode cX9_classHead 193 = .ok (.iconst 3, 1) := by decide +kernel
theorem dX9_classHead_194 : decode cX9_classHead 194 = .ok (.aaload, 1) := by decide +kernel
theorem dX9_classHead_195 : decode cX9_classHead 195 = .ok (.iload_n 2, 1) := by decide +kernel
theorem dX9_classHead_196 : decode cX9_classHead 196 = .ok (.iload_n 1, 1) := by decide +kernel
theorem dX9_classHead_197 : decode cX9_classHead 197 = .ok (.iastore, 1) := by decide +kernel
theorem dX9_classHead_198 : decode cX9_classHead 198 = .ok (.aload_n 0, 1) := by decide +kernel
theorem dX9_classHead_199 : decode cX9_classHead 199 = .ok (.getfield 37, 3) := by decide +kernel
theorem dX9_classHead_202 : decode cX9_classHead 202 = .ok (.getfield 239, 3) := by decide +kernel
theorem dX9_classHead_205 : decode cX9_classHead 205 = .ok (.iconst 4, 1) := by decide +kernel
theorem dX9_classHead_206 : decode cX9_classHead 206 = .ok (.aaload, 1) := by decide +kernel
theorem dX9_classHead_207 : decode cX9_classHead 207 = .ok (.iload_n 2, 1) := by decide +kernel
theorem dX9_classHead_208 : decode cX9_classHead 208 = .ok (.aload_n 0, 1) := by decide +kernel
theorem dX9_classHead_209 : decode cX9_classHead 209 = .ok (.getfield 37, 3) := by decide +kernel
theorem dX9_classHead_212 : decode cX9_classHead 212 = .ok (.getfield 246, 3) := by decide +kernel
theorem dX9_classHead_215 : decode cX9_classHead 215 = .ok (.iastore, 1) := by decide +kernel
theorem dX9_classHead_216 : decode cX9_classHead 216 = .ok (.aload_n 0, 1) := by decide +kernel
theorem dX9_classHead_217 : decode cX9_classHead 217 = .ok (.getfield 37, 3) := by decide +kernel
theorem dX9_classHead_220 : decode cX9_classHead 220 = .ok (.getfield 239, 3) := by decide +kernel
theorem dX9_classHead_223 : decode cX9_classHead 223 = .ok (.iconst 5, 1) := by decide +kernel
theorem dX9_classHead_224 : decode cX9_classHead 224 = .ok (.aaload, 1) := by decide +kernel
theorem dX9_classHead_225 : decode cX9_classHead 225 = .ok (.iload_n 2, 1) := by decide +kernel
theorem dX9_classHead_226 : decode cX9_classHead 226 = .ok (.iconst 0, 1) := by decide +kernel
theorem dX9_classHead_227 : decode cX9_classHead 227 = .ok (.iastore, 1) := by decide +kernel
theorem dX9_classHead_228 : decode cX9_classHead 228 = .ok (.aload_n 0, 1) := by decide +kernel
theorem dX9_classHead_229 : decode cX9_classHead 229 = .ok (.getfield 37, 3) := by decide +kernel
theorem dX9_classHead_232 : decode cX9_classHead 232 = .ok (.getfield 239, 3) := by decide +kernel
theorem dX9_classHead_235 : decode cX9_classHead 235 = .ok (.bipush 9, 2) := by decide +kernel
theorem dX9_classHead_237 : decode cX9_classHead 237 = .ok (.aaload, 1) := by decide +kernel
theorem dX9_classHead_238 : decode cX9_classHead 238 = .ok (.iload_n 2, 1) := by decide +kernel
theorem dX9_classHead_239 : decode cX9_classHead 239 = .ok (.iconst (-1), 1) := by decide +kernel
theorem dX9_classHead_240 : decode cX9_classHead 240 = .ok (.iastore, 1) := by decide +kernel
theorem dX9_classHead_241 : decode cX9_classHead 241 = .ok (.aload_n 0, 1) := by decide +kernel
theorem dX9_classHead_242 : decode cX9_classHead 242 = .ok (.dup, 1) := by decide +kernel
theorem dX9_classHead_243 : decode cX9_classHead 243 = .ok (.getfield 187, 3) := by decide +kernel
theorem dX9_classHead_246 : decode cX9_classHead 246 = .ok (.iconst 1, 1) := by decide +kernel
theorem dX9_classHead_247 : decode cX9_classHead 247 = .ok (.iadd, 1) := by decide +kernel
theorem dX9_classHead_248 : decode cX9_classHead 248 = .ok (.putfield 187, 3) := by decide +kernel
theorem dX9_classHead_251 : decode cX9_classHead 251 = .ok (.aload_n 0, 1) := by decide +kernel
theorem dX9_classHead_252 : decode cX9_classHead 252 = .ok (.iload_n 2, 1) := by decide +kernel
theorem dX9_classHead_253 : decode cX9_classHead 253 = .ok (.invokevirtual 249, 3) := by decide +kernel
theorem dX9_classHead_256 : decode cX9_classHead 256 = .ok (.ireturn, 1) := by decide +kernel
def rpX9_classHead : List Nat := [0, 1, 2, 3, 4, 5, 6, 9, 12, 13, 15, 18, 21, 22, 24, 27, 30, 63, 64, 66, 69, 72, 73, 75, 78, 81, 83, 84, 85, 87, 90, 93, 94, 97, 98, 99, 100, 101, 102, 105, 106, 107, 110, 111, 114, 117, 119, 120, 123, 126, 128, 131, 136, 137, 140, 141, 144, 145, 146, 147, 150, 151, 152, 155, 158, 159, 160, 161, 162, 165, 166, 169, 170, 171, 172, 175, 178, 179, 180, 181, 182, 185, 186, 187, 190, 193, 194, 195, 196, 197, 198, 199, 202, 205, 206, 207, 208, 209, 212, 215, 216, 217, 220, 223, 224, 225, 226, 227, 228, 229, 232, 235, 237, 238, 239, 240, 241, 242, 243, 246, 247, 248, 251, 252, 253, 256]
noncomputable def rcX9_classHead : List rz_B := [rz_cst 0, rz_istore 1, rz_cst 0, rz_istore 2, rz_iload 2, rz_aload 0, rz_getf (Nat.add (Nat.mul 256 11) 1) 14 rz_i, rz_icmpge 17, rz_aload 0, rz_cst 60, rz_callV 1 (Nat.add (Nat.mul 256 11) 1) rgX9_isWord, rz_ifne 16, rz_aload 0, rz_cst 61, rz_callV 1 (Nat.add (Nat.mul 256 11) 1) rgX9_isWord, rz_ifeq 17, rz_no, rz_aload 0, rz_cst 62, rz_callV 1 (Nat.add (Nat.mul 256 11) 1) rgX9_isWord, rz_ifne 26, rz_aload 0, rz_cst 63, rz_callV 1 (Nat.add (Nat.mul 256 11) 1) rgX9_isWord, rz_ifne 26, rz_no, rz_iload 1, rz_aload 0, rz_cst 63, rz_callV 1 (Nat.add (Nat.mul 256 11) 1) rgX9_isWord, rz_ifeq 33, rz_cst 1, rz_goto 34, rz_cst 0, rz_ior, rz_istore 1, rz_aload 0, rz_dup, rz_getf (Nat.add (Nat.mul 256 11) 1) 15 rz_i, rz_cst 1, rz_iadd, rz_putf (Nat.add (Nat.mul 256 11) 1) 15 rz_unI, rz_aload 0, rz_callV 0 (Nat.add (Nat.mul 256 11) 1) rgX9_isName, rz_ifne 46, rz_no, rz_aload 0, rz_getf (Nat.add (Nat.mul 256 11) 1) 0 rz_r, rz_getf (Nat.add (Nat.mul 256 9) 1) 2 rz_i, rz_cst 43, rz_icmplt 52, rz_no, rz_aload 0, rz_getf (Nat.add (Nat.mul 256 11) 1) 0 rz_r, rz_dup, rz_getf (Nat.add (Nat.mul 256 9) 1) 2 rz_i, rz_dup_x1, rz_cst 1, rz_iadd, rz_putf (Nat.add (Nat.mul 256 9) 1) 2 rz_unI, rz_istore 2, rz_aload 0, rz_getf (Nat.add (Nat.mul 256 11) 1) 0 rz_r, rz_getf (Nat.add (Nat.mul 256 9) 1) 3 rz_r, rz_cst 0, rz_aald, rz_iload 2, rz_aload 0, rz_getf (Nat.add (Nat.mul 256 11) 1) 13 rz_r, rz_aload 0, rz_getf (Nat.add (Nat.mul 256 11) 1) 15 rz_i, rz_iald, rz_iast, rz_aload 0, rz_getf (Nat.add (Nat.mul 256 11) 1) 0 rz_r, rz_getf (Nat.add (Nat.mul 256 9) 1) 3 rz_r, rz_cst 1, rz_aald, rz_iload 2, rz_aload 0, rz_callV 0 (Nat.add (Nat.mul 256 11) 1) rgX9_spot, rz_iast, rz_aload 0, rz_getf (Nat.add (Nat.mul 256 11) 1) 0 rz_r, rz_getf (Nat.add (Nat.mul 256 9) 1) 3 rz_r, rz_cst 3, rz_aald, rz_iload 2, rz_iload 1, rz_iast, rz_aload 0, rz_getf (Nat.add (Nat.mul 256 11) 1) 0 rz_r, rz_getf (Nat.add (Nat.mul 256 9) 1) 3 rz_r, rz_cst 4, rz_aald, rz_iload 2, rz_aload 0, rz_getf (Nat.add (Nat.mul 256 11) 1) 0 rz_r, rz_getf (Nat.add (Nat.mul 256 9) 1) 9 rz_i, rz_iast, rz_aload 0, rz_getf (Nat.add (Nat.mul 256 11) 1) 0 rz_r, rz_getf (Nat.add (Nat.mul 256 9) 1) 3 rz_r, rz_cst 5, rz_aald, rz_iload 2, rz_cst 0, rz_iast, rz_aload 0, rz_getf (Nat.add (Nat.mul 256 11) 1) 0 rz_r, rz_getf (Nat.add (Nat.mul 256 9) 1) 3 rz_r, rz_cst 9, rz_aald, rz_iload 2, rz_cst 4294967295, rz_iast, rz_aload 0, rz_dup, rz_getf (Nat.add (Nat.mul 256 11) 1) 15 rz_i, rz_cst 1, rz_iadd, rz_putf (Nat.add (Nat.mul 256 11) 1) 15 rz_unI, rz_aload 0, rz_iload 2, rz_callV 1 (Nat.add (Nat.mul 256 11) 1) rgX9_heritage, rz_zret]
noncomputable def rgX9_classHead : rz_L → rz_M → rz_Z → Bool := rz_go rcX9_classHead 3 1000000
def rrX9_classHead : Room := { frames := 2, cells := 0, slots := 0, locals := 44 }
theorem rmX9_classHead (l : Launch) {G : rz_G} (hG : rz_Gd G) (vs : rz_L) (M : rz_M) (Z : rz_Z) (hn : vs.length = 1) (h : rgX9_classHead vs M Z = true) : Met l yX9_classHead (Cond.code yX9_classHead cX9_classHead 3 (some .boolean) :: rz_TB) rrX9_classHead (rz_Pre G vs M) (rz_Qi G M.2 Z) 0 0 (fun q => rz_b G ≤ q) := by
  obtain ⟨D, tc, ad, b, xs, rfl⟩ := id hG
  refine rz_body (pcs := rpX9_classHead) (by decide) rfl (by rw [hn]; decide) h ?_
  intro p e R s m args below meth c hC
  obtain ⟨hx, hb, hml, hr, hlk, ho, hts, hKn, hRm⟩ := id hC
  obtain ⟨hK, hA, hSt⟩ := id hKn
  have hw : ∀ {i j : Nat} {ws : List Cond} {w : Cond}, rz_WW[i]? = some ws → ws[j]? = some w → w.before args s = true := fun h1 h2 => hts _ (List.mem_cons_of_mem _ (rz_mem h1 h2))
  refine rz_All_c (i := 0) (fun k J hk hJ => rz_iconst_ok (pc := 0) hx hb dX9_classHead_0 rfl hk) ?_
  refine rz_All_c (i := 1) (fun k J hk hJ => rz_istore_n_ok (pc := 1) hx hb dX9_classHead_1 rfl hk) ?_
  refine rz_All_c (i := 2) (fun k J hk hJ => rz_iconst_ok (pc := 2) hx hb dX9_classHead_2 rfl hk) ?_
  refine rz_All_c (i := 3) (fun k J hk hJ => rz_istore_n_ok (pc := 3) hx hb dX9_classHead_3 rfl hk) ?_
  refine rz_All_c (i := 4) (fun k J hk hJ => rz_iload_n_ok (pc := 4) hx hb dX9_classHead_4 rfl hk) ?_
  refine rz_All_c (i := 5) (fun k J hk hJ => rz_aload_n_ok (pc := 5) hx hb dX9_classHead_5 rfl hk) ?_
  refine rz_All_c (i := 6) (fun k J hk hJ => rz_getf_ok (pc := 6) (own := RX9) (ref := "ThreadJudge$Reader") (C := RX9) (T := TX9) (N := 19) (ci := 11) (index := 129) (f := 14) (t := 0) (Ts := Cond.code yX9_classHead cX9_classHead 3 (some .boolean) :: rz_TB) hx hb hts rz_in11 ho hK rfl (by decide) rfl (fun _ => rfl) (hw (i := 3) (j := 13) rfl rfl) (fun _ z => z) dX9_classHead_6 hk) ?_
  refine rz_All_c (i := 7) (fun k J hk hJ => rz_icmpge_ok (pc := 9) hx hb dX9_classHead_9 rfl hk (hJ 17)) ?_
  refine rz_All_c (i := 8) (fun k J hk hJ => rz_aload_n_ok (pc := 12) hx hb dX9_classHead_12 rfl hk) ?_
  refine rz_All_c (i := 9) (fun k J hk hJ => rz_bipush_ok (pc := 13) hx hb dX9_classHead_13 (by decide) hk) ?_
  refine rz_All_c (i := 10) (fun k J hk hJ => rz_callV_ok (pc := 15) (own := RX9) (C := RX9) (T0 := TX9) (N0 := 19) hC rfl (rmX9_isWord l hG) (rz_cwV 1 hC rz_good (rz_mem (i := 10) (j := 2) rfl rfl) (rz_mem (i := 10) (j := 3) rfl rfl) (rz_mem (i := 10) (j := 4) rfl rfl) (rz_mem (i := 1) (j := 21) rfl rfl) (rz_mem (i := 10) (j := 5) rfl rfl) ⟨rfl, by decide, by decide, by decide +kernel⟩ rfl rfl ⟨by decide, by decide⟩) rfl dX9_classHead_15 hk) ?_
  refine rz_All_c (i := 11) (fun k J hk hJ => rz_ifne_ok (pc := 18) hx hb dX9_classHead_18 rfl hk (hJ 16)) ?_
  refine rz_All_c (i := 12) (fun k J hk hJ => rz_aload_n_ok (pc := 21) hx hb dX9_classHead_21 rfl hk) ?_
  refine rz_All_c (i := 13) (fun k J hk hJ => rz_bipush_ok (pc := 22) hx hb dX9_classHead_22 (by decide) hk) ?_
  refine rz_All_c (i := 14) (fun k J hk hJ => rz_callV_ok (pc := 24) (own := RX9) (C := RX9) (T0 := TX9) (N0 := 19) hC rfl (rmX9_isWord l hG) (rz_cwV 1 hC rz_good (rz_mem (i := 10) (j := 2) rfl rfl) (rz_mem (i := 10) (j := 3) rfl rfl) (rz_mem (i := 10) (j := 4) rfl rfl) (rz_mem (i := 1) (j := 21) rfl rfl) (rz_mem (i := 10) (j := 5) rfl rfl) ⟨rfl, by decide, by decide, by decide +kernel⟩ rfl rfl ⟨by decide, by decide⟩) rfl dX9_classHead_24 hk) ?_
  refine rz_All_c (i := 15) (fun k J hk hJ => rz_ifeq_ok (pc := 27) hx hb dX9_classHead_27 rfl hk (hJ 17)) ?_
  refine rz_All_c (i := 16) (fun k J hk hJ => rz_no_ok) ?_
  refine rz_All_c (i := 17) (fun k J hk hJ => rz_aload_n_ok (pc := 63) hx hb dX9_classHead_63 rfl hk) ?_
  refine rz_All_c (i := 18) (fun k J hk hJ => rz_bipush_ok (pc := 64) hx hb dX9_classHead_64 (by decide) hk) ?_
  refine rz_All_c (i := 19) (fun k J hk hJ => rz_callV_ok (pc := 66) (own := RX9) (C := RX9) (T0 := TX9) (N0 := 19) hC rfl (rmX9_isWord l hG) (rz_cwV 1 hC rz_good (rz_mem (i := 10) (j := 2) rfl rfl) (rz_mem (i := 10) (j := 3) rfl rfl) (rz_mem (i := 10) (j := 4) rfl rfl) (rz_mem (i := 1) (j := 21) rfl rfl) (rz_mem (i := 10) (j := 5) rfl rfl) ⟨rfl, by decide, by decide, by decide +kernel⟩ rfl rfl ⟨by decide, by decide⟩) rfl dX9_classHead_66 hk) ?_
  refine rz_All_c (i := 20) (fun k J hk hJ => rz_ifne_ok (pc := 69) hx hb dX9_classHead_69 rfl hk (hJ 26)) ?_
  refine rz_All_c (i := 21) (fun k J hk hJ => rz_aload_n_ok (pc := 72) hx hb dX9_classHead_72 rfl hk) ?_
  refine rz_All_c (i := 22) (fun k J hk hJ => rz_bipush_ok (pc := 73) hx hb dX9_classHead_73 (by decide) hk) ?_
  refine rz_All_c (i := 23) (fun k J hk hJ => rz_callV_ok (pc := 75) (own := RX9) (C := RX9) (T0 := TX9) (N0 := 19) hC rfl (rmX9_isWord l hG) (rz_cwV 1 hC rz_good (rz_mem (i := 10) (j := 2) rfl rfl) (rz_mem (i := 10) (j := 3) rfl rfl) (rz_mem (i := 10) (j := 4) rfl rfl) (rz_mem (i := 1) (j := 21) rfl rfl) (rz_mem (i := 10) (j := 5) rfl rfl) ⟨rfl, by decide, by decide, by decide +kernel⟩ rfl rfl ⟨by decide, by decide⟩) rfl dX9_classHead_75 hk) ?_
  refine rz_All_c (i := 24) (fun k J hk hJ => rz_ifne_ok (pc := 78) hx hb dX9_classHead_78 rfl hk (hJ 26)) ?_
  refine rz_All_c (i := 25) (fun k J hk hJ => rz_no_ok) ?_
  refine rz_All_c (i := 26) (fun k J hk hJ => rz_iload_n_ok (pc := 83) hx hb dX9_classHead_83 rfl hk) ?_
  refine rz_All_c (i := 27) (fun k J hk hJ => rz_aload_n_ok (pc := 84) hx hb dX9_classHead_84 rfl hk) ?_
  refine rz_All_c (i := 28) (fun k J hk hJ => rz_bipush_ok (pc := 85) hx hb dX9_classHead_85 (by decide) hk) ?_
  refine rz_All_c (i := 29) (fun k J hk hJ => rz_callV_ok (pc := 87) (own := RX9) (C := RX9) (T0 := TX9) (N0 := 19) hC rfl (rmX9_isWord l hG) (rz_cwV 1 hC rz_good (rz_mem (i := 10) (j := 2) rfl rfl) (rz_mem (i := 10) (j := 3) rfl rfl) (rz_mem (i := 10) (j := 4) rfl rfl) (rz_mem (i := 1) (j := 21) rfl rfl) (rz_mem (i := 10) (j := 5) rfl rfl) ⟨rfl, by decide, by decide, by decide +kernel⟩ rfl rfl ⟨by decide, by decide⟩) rfl dX9_classHead_87 hk) ?_
  refine rz_All_c (i := 30) (fun k J hk hJ => rz_ifeq_ok (pc := 90) hx hb dX9_classHead_90 rfl hk (hJ 33)) ?_
  refine rz_All_c (i := 31) (fun k J hk hJ => rz_iconst_ok (pc := 93) hx hb dX9_classHead_93 rfl hk) ?_
  refine rz_All_c (i := 32) (fun k J hk hJ => rz_goto_ok (pc := 94) hx hb dX9_classHead_94 rfl (hJ 34)) ?_
  refine rz_All_c (i := 33) (fun k J hk hJ => rz_iconst_ok (pc := 97) hx hb dX9_classHead_97 rfl hk) ?_
  refine rz_All_c (i := 34) (fun k J hk hJ => rz_ior_ok (pc := 98) hx hb dX9_classHead_98 hk) ?_
  refine rz_All_c (i := 35) (fun k J hk hJ => rz_istore_n_ok (pc := 99) hx hb dX9_classHead_99 rfl hk) ?_
  refine rz_All_c (i := 36) (fun k J hk hJ => rz_aload_n_ok (pc := 100) hx hb dX9_classHead_100 rfl hk) ?_
  refine rz_All_c (i := 37) (fun k J hk hJ => rz_dup_ok (pc := 101) hx hb dX9_classHead_101 hk) ?_
  refine rz_All_c (i := 38) (fun k J hk hJ => rz_getf_ok (pc := 102) (own := RX9) (ref := "ThreadJudge$Reader") (C := RX9) (T := TX9) (N := 19) (ci := 11) (index := 187) (f := 15) (t := 0) (Ts := Cond.code yX9_classHead cX9_classHead 3 (some .boolean) :: rz_TB) hx hb hts rz_in11 ho hK rfl (by decide) rfl (fun _ => rfl) (hw (i := 3) (j := 11) rfl rfl) (fun _ z => z) dX9_classHead_102 hk) ?_
  refine rz_All_c (i := 39) (fun k J hk hJ => rz_iconst_ok (pc := 105) hx hb dX9_classHead_105 rfl hk) ?_
  refine rz_All_c (i := 40) (fun k J hk hJ => rz_iadd_ok (pc := 106) hx hb dX9_classHead_106 hk) ?_
  refine rz_All_c (i := 41) (fun k J hk hJ => rz_putf_ok (pc := 107) (own := RX9) (ref := "ThreadJudge$Reader") (C := RX9) (T := TX9) (N := 19) (ci := 11) (index := 187) (f := 15) (t := 0) (Ts := Cond.code yX9_classHead cX9_classHead 3 (some .boolean) :: rz_TB) hx hb hts rz_in11 tyX9 tyX9_ok nmX9 ho hK hA rfl (by decide) rfl (rz_UnI _) rfl (tyX9_ok 15 (by decide)) (hw (i := 3) (j := 11) rfl rfl) (fun _ z => z) dX9_classHead_107 hk) ?_
  refine rz_All_c (i := 42) (fun k J hk hJ => rz_aload_n_ok (pc := 110) hx hb dX9_classHead_110 rfl hk) ?_
  refine rz_All_c (i := 43) (fun k J hk hJ => rz_callV_ok (pc := 111) (own := RX9) (C := RX9) (T0 := TX9) (N0 := 19) hC rfl (rmX9_isName l hG) (rz_cwV 0 hC rz_good (rz_mem (i := 10) (j := 6) rfl rfl) (rz_mem (i := 10) (j := 7) rfl rfl) (rz_mem (i := 10) (j := 8) rfl rfl) (rz_mem (i := 1) (j := 21) rfl rfl) (rz_mem (i := 10) (j := 9) rfl rfl) ⟨rfl, by decide, by decide, by decide +kernel⟩ rfl rfl ⟨by decide, by decide⟩) rfl dX9_classHead_111 hk) ?_
  refine rz_All_c (i := 44) (fun k J hk hJ => rz_ifne_ok (pc := 114) hx hb dX9_classHead_114 rfl hk (hJ 46)) ?_
  refine rz_All_c (i := 45) (fun k J hk hJ => rz_no_ok) ?_
  refine rz_All_c (i := 46) (fun k J hk hJ => rz_aload_n_ok (pc := 119) hx hb dX9_classHead_119 rfl hk) ?_
  refine rz_All_c (i := 47) (fun k J hk hJ => rz_getf_ok (pc := 120) (own := RX9) (ref := "ThreadJudge$Reader") (C := RX9) (T := TX9) (N := 19) (ci := 11) (index := 37) (f := 0) (t := 2) (Ts := Cond.code yX9_classHead cX9_classHead 3 (some .boolean) :: rz_TB) hx hb hts rz_in11 ho hK rfl (by decide) rfl (fun _ => rfl) (hw (i := 9) (j := 16) rfl rfl) (fun _ z => z) dX9_classHead_120 hk) ?_
  refine rz_All_c (i := 48) (fun k J hk hJ => rz_getf_ok (pc := 123) (own := RX9) (ref := "ThreadJudge$Program") (C := RX7) (T := TX7) (N := 22) (ci := 9) (index := 233) (f := 2) (t := 0) (Ts := Cond.code yX9_classHead cX9_classHead 3 (some .boolean) :: rz_TB) hx hb hts rz_in9 ho hK rfl (by decide) rfl (fun _ => rfl) (hw (i := 9) (j := 23) rfl rfl) (fun _ z => z) dX9_classHead_123 hk) ?_
  refine rz_All_c (i := 49) (fun k J hk hJ => rz_bipush_ok (pc := 126) hx hb dX9_classHead_126 (by decide) hk) ?_
  refine rz_All_c (i := 50) (fun k J hk hJ => rz_icmplt_ok (pc := 128) hx hb dX9_classHead_128 rfl hk (hJ 52)) ?_
  refine rz_All_c (i := 51) (fun k J hk hJ => rz_no_ok) ?_
  refine rz_All_c (i := 52) (fun k J hk hJ => rz_aload_n_ok (pc := 136) hx hb dX9_classHead_136 rfl hk) ?_
  refine rz_All_c (i := 53) (fun k J hk hJ => rz_getf_ok (pc := 137) (own := RX9) (ref := "ThreadJudge$Reader") (C := RX9) (T := TX9) (N := 19) (ci := 11) (index := 37) (f := 0) (t := 2) (Ts := Cond.code yX9_classHead cX9_classHead 3 (some .boolean) :: rz_TB) hx hb hts rz_in11 ho hK rfl (by decide) rfl (fun _ => rfl) (hw (i := 9) (j := 16) rfl rfl) (fun _ z => z) dX9_classHead_137 hk) ?_
  refine rz_All_c (i := 54) (fun k J hk hJ => rz_dup_ok (pc := 140) hx hb dX9_classHead_140 hk) ?_
  refine rz_All_c (i := 55) (fun k J hk hJ => rz_getf_ok (pc := 141) (own := RX9) (ref := "ThreadJudge$Program") (C := RX7) (T := TX7) (N := 22) (ci := 9) (index := 233) (f := 2) (t := 0) (Ts := Cond.code yX9_classHead cX9_classHead 3 (some .boolean) :: rz_TB) hx hb hts rz_in9 ho hK rfl (by decide) rfl (fun _ => rfl) (hw (i := 9) (j := 23) rfl rfl) (fun _ z => z) dX9_classHead_141 hk) ?_
  refine rz_All_c (i := 56) (fun k J hk hJ => rz_dup_x1_ok (pc := 144) hx hb dX9_classHead_144 hk) ?_
  refine rz_All_c (i := 57) (fun k J hk hJ => rz_iconst_ok (pc := 145) hx hb dX9_classHead_145 rfl hk) ?_
  refine rz_All_c (i := 58) (fun k J hk hJ => rz_iadd_ok (pc := 146) hx hb dX9_classHead_146 hk) ?_
  refine rz_All_c (i := 59) (fun k J hk hJ => rz_putf_ok (pc := 147) (own := RX9) (ref := "ThreadJudge$Program") (C := RX7) (T := TX7) (N := 22) (ci := 9) (index := 233) (f := 2) (t := 0) (Ts := Cond.code yX9_classHead cX9_classHead 3 (some .boolean) :: rz_TB) hx hb hts rz_in9 tyX7 tyX7_ok nmX7 ho hK hA rfl (by decide) rfl (rz_UnI _) rfl (tyX7_ok 2 (by decide)) (hw (i := 9) (j := 23) rfl rfl) (fun _ z => z) dX9_classHead_147 hk) ?_
  refine rz_All_c (i := 60) (fun k J hk hJ => rz_istore_n_ok (pc := 150) hx hb dX9_classHead_150 rfl hk) ?_
  refine rz_All_c (i := 61) (fun k J hk hJ => rz_aload_n_ok (pc := 151) hx hb dX9_classHead_151 rfl hk) ?_
  refine rz_All_c (i := 62) (fun k J hk hJ => rz_getf_ok (pc := 152) (own := RX9) (ref := "ThreadJudge$Reader") (C := RX9) (T := TX9) (N := 19) (ci := 11) (index := 37) (f := 0) (t := 2) (Ts := Cond.code yX9_classHead cX9_classHead 3 (some .boolean) :: rz_TB) hx hb hts rz_in11 ho hK rfl (by decide) rfl (fun _ => rfl) (hw (i := 9) (j := 16) rfl rfl) (fun _ z => z) dX9_classHead_152 hk) ?_
  refine rz_All_c (i := 63) (fun k J hk hJ => rz_getf_ok (pc := 155) (own := RX9) (ref := "ThreadJudge$Program") (C := RX7) (T := TX7) (N := 22) (ci := 9) (index := 239) (f := 3) (t := 2) (Ts := Cond.code yX9_classHead cX9_classHead 3 (some .boolean) :: rz_TB) hx hb hts rz_in9 ho hK rfl (by decide) rfl (fun _ => rfl) (hw (i := 10) (j := 0) rfl rfl) (fun _ z => z) dX9_classHead_155 hk) ?_
  refine rz_All_c (i := 64) (fun k J hk hJ => rz_iconst_ok (pc := 158) hx hb dX9_classHead_158 rfl hk) ?_
  refine rz_All_c (i := 65) (fun k J hk hJ => rz_aald_ok (pc := 159) hx hb hK dX9_classHead_159 hk) ?_
  refine rz_All_c (i := 66) (fun k J hk hJ => rz_iload_n_ok (pc := 160) hx hb dX9_classHead_160 rfl hk) ?_
  refine rz_All_c (i := 67) (fun k J hk hJ => rz_aload_n_ok (pc := 161) hx hb dX9_classHead_161 rfl hk) ?_
  refine rz_All_c (i := 68) (fun k J hk hJ => rz_getf_ok (pc := 162) (own := RX9) (ref := "ThreadJudge$Reader") (C := RX9) (T := TX9) (N := 19) (ci := 11) (index := 34) (f := 13) (t := 2) (Ts := Cond.code yX9_classHead cX9_classHead 3 (some .boolean) :: rz_TB) hx hb hts rz_in11 ho hK rfl (by decide) rfl (fun _ => rfl) (hw (i := 5) (j := 2) rfl rfl) (fun _ z => z) dX9_classHead_162 hk) ?_
  refine rz_All_c (i := 69) (fun k J hk hJ => rz_aload_n_ok (pc := 165) hx hb dX9_classHead_165 rfl hk) ?_
  refine rz_All_c (i := 70) (fun k J hk hJ => rz_getf_ok (pc := 166) (own := RX9) (ref := "ThreadJudge$Reader") (C := RX9) (T := TX9) (N := 19) (ci := 11) (index := 187) (f := 15) (t := 0) (Ts := Cond.code yX9_classHead cX9_classHead 3 (some .boolean) :: rz_TB) hx hb hts rz_in11 ho hK rfl (by decide) rfl (fun _ => rfl) (hw (i := 3) (j := 11) rfl rfl) (fun _ z => z) dX9_classHead_166 hk) ?_
  refine rz_All_c (i := 71) (fun k J hk hJ => rz_iald_ok (pc := 169) hx hb hK dX9_classHead_169 hk) ?_
  refine rz_All_c (i := 72) (fun k J hk hJ => rz_iast_ok (pc := 170) hx hb hK hA dX9_classHead_170 hk) ?_
  refine rz_All_c (i := 73) (fun k J hk hJ => rz_aload_n_ok (pc := 171) hx hb dX9_classHead_171 rfl hk) ?_
  refine rz_All_c (i := 74) (fun k J hk hJ => rz_getf_ok (pc := 172) (own := RX9) (ref := "ThreadJudge$Reader") (C := RX9) (T := TX9) (N := 19) (ci := 11) (index := 37) (f := 0) (t := 2) (Ts := Cond.code yX9_classHead cX9_classHead 3 (some .boolean) :: rz_TB) hx hb hts rz_in11 ho hK rfl (by decide) rfl (fun _ => rfl) (hw (i := 9) (j := 16) rfl rfl) (fun _ z => z) dX9_classHead_172 hk) ?_
  refine rz_All_c (i := 75) (fun k J hk hJ => rz_getf_ok (pc := 175) (own := RX9) (ref := "ThreadJudge$Program") (C := RX7) (T := TX7) (N := 22) (ci := 9) (index := 239) (f := 3) (t := 2) (Ts := Cond.code yX9_classHead cX9_classHead 3 (some .boolean) :: rz_TB) hx hb hts rz_in9 ho hK rfl (by decide) rfl (fun _ => rfl) (hw (i := 10) (j := 0) rfl rfl) (fun _ z => z) dX9_classHead_175 hk) ?_
  refine rz_All_c (i := 76) (fun k J hk hJ => rz_iconst_ok (pc := 178) hx hb dX9_classHead_178 rfl hk) ?_
  refine rz_All_c (i := 77) (fun k J hk hJ => rz_aald_ok (pc := 179) hx hb hK dX9_classHead_179 hk) ?_
  refine rz_All_c (i := 78) (fun k J hk hJ => rz_iload_n_ok (pc := 180) hx hb dX9_classHead_180 rfl hk) ?_
  refine rz_All_c (i := 79) (fun k J hk hJ => rz_aload_n_ok (pc := 181) hx hb dX9_classHead_181 rfl hk) ?_
  refine rz_All_c (i := 80) (fun k J hk hJ => rz_callV_ok (pc := 182) (own := RX9) (C := RX9) (T0 := TX9) (N0 := 19) hC rfl (rmX9_spot l hG) (rz_cwV 0 hC rz_good (rz_mem (i := 10) (j := 14) rfl rfl) (rz_mem (i := 10) (j := 15) rfl rfl) (rz_mem (i := 10) (j := 16) rfl rfl) (rz_mem (i := 1) (j := 21) rfl rfl) (rz_mem (i := 10) (j := 17) rfl rfl) ⟨rfl, by decide, by decide, by decide +kernel⟩ rfl rfl ⟨by decide, by decide⟩) rfl dX9_classHead_182 hk) ?_
  refine rz_All_c (i := 81) (fun k J hk hJ => rz_iast_ok (pc := 185) hx hb hK hA dX9_classHead_185 hk) ?_
  refine rz_All_c (i := 82) (fun k J hk hJ => rz_aload_n_ok (pc := 186) hx hb dX9_classHead_186 rfl hk) ?_
  refine rz_All_c (i := 83) (fun k J hk hJ => rz_getf_ok (pc := 187) (own := RX9) (ref := "ThreadJudge$Reader") (C := RX9) (T := TX9) (N := 19) (ci := 11) (index := 37) (f := 0) (t := 2) (Ts := Cond.code yX9_classHead cX9_classHead 3 (some .boolean) :: rz_TB) hx hb hts rz_in11 ho hK rfl (by decide) rfl (fun _ => rfl) (hw (i := 9) (j := 16) rfl rfl) (fun _ z => z) dX9_classHead_187 hk) ?_
  refine rz_All_c (i := 84) (fun k J hk hJ => rz_getf_ok (pc := 190) (own := RX9) (ref := "ThreadJudge$Program") (C := RX7) (T := TX7) (N := 22) (ci := 9) (index := 239) (f := 3) (t := 2) (Ts := Cond.code yX9_classHead cX9_classHead 3 (some .boolean) :: rz_TB) hx hb hts rz_in9 ho hK rfl (by decide) rfl (fun _ => rfl) (hw (i := 10) (j := 0) rfl rfl) (fun _ z => z) dX9_classHead_190 hk) ?_
  refine rz_All_c (i := 85) (fun k J hk hJ => rz_iconst_ok (pc := 193) hx hb dX9_classHead_193 rfl hk) ?_
  refine rz_All_c (i := 86) (fun k J hk hJ => rz_aald_ok (pc := 194) hx hb hK dX9_classHead_194 hk) ?_
  refine rz_All_c (i := 87) (fun k J hk hJ => rz_iload_n_ok (pc := 195) hx hb dX9_classHead_195 rfl hk) ?_
  refine rz_All_c (i := 88) (fun k J hk hJ => rz_iload_n_ok (pc := 196) hx hb dX9_classHead_196 rfl hk) ?_
  refine rz_All_c (i := 89) (fun k J hk hJ => rz_iast_ok (pc := 197) hx hb hK hA dX9_classHead_197 hk) ?_
  refine rz_All_c (i := 90) (fun k J hk hJ => rz_aload_n_ok (pc := 198) hx hb dX9_classHead_198 rfl hk) ?_
  refine rz_All_c (i := 91) (fun k J hk hJ => rz_getf_ok (pc := 199) (own := RX9) (ref := "ThreadJudge$Reader") (C := RX9) (T := TX9) (N := 19) (ci := 11) (index := 37) (f := 0) (t := 2) (Ts := Cond.code yX9_classHead cX9_classHead 3 (some .boolean) :: rz_TB) hx hb hts rz_in11 ho hK rfl (by decide) rfl (fun _ => rfl) (hw (i := 9) (j := 16) rfl rfl) (fun _ z => z) dX9_classHead_199 hk) ?_
  refine rz_All_c (i := 92) (fun k J hk hJ => rz_getf_ok (pc := 202) (own := RX9) (ref := "ThreadJudge$Program") (C := RX7) (T := TX7) (N := 22) (ci := 9) (index := 239) (f := 3) (t := 2) (Ts := Cond.code yX9_classHead cX9_classHead 3 (some .boolean) :: rz_TB) hx hb hts rz_in9 ho hK rfl (by decide) rfl (fun _ => rfl) (hw (i := 10) (j := 0) rfl rfl) (fun _ z => z) dX9_classHead_202 hk) ?_
  refine rz_All_c (i := 93) (fun k J hk hJ => rz_iconst_ok (pc := 205) hx hb dX9_classHead_205 rfl hk) ?_
  refine rz_All_c (i := 94) (fun k J hk hJ => rz_aald_ok (pc := 206) hx hb hK dX9_classHead_206 hk) ?_
  refine rz_All_c (i := 95) (fun k J hk hJ => rz_iload_n_ok (pc := 207) hx hb dX9_classHead_207 rfl hk) ?_
  refine rz_All_c (i := 96) (fun k J hk hJ => rz_aload_n_ok (pc := 208) hx hb dX9_classHead_208 rfl hk) ?_
  refine rz_All_c (i := 97) (fun k J hk hJ => rz_getf_ok (pc := 209) (own := RX9) (ref := "ThreadJudge$Reader") (C := RX9) (T := TX9) (N := 19) (ci := 11) (index := 37) (f := 0) (t := 2) (Ts := Cond.code yX9_classHead cX9_classHead 3 (some .boolean) :: rz_TB) hx hb hts rz_in11 ho hK rfl (by decide) rfl (fun _ => rfl) (hw (i := 9) (j := 16) rfl rfl) (fun _ z => z) dX9_classHead_209 hk) ?_
  refine rz_All_c (i := 98) (fun k J hk hJ => rz_getf_ok (pc := 212) (own := RX9) (ref := "ThreadJudge$Program") (C := RX7) (T := TX7) (N := 22) (ci := 9) (index := 246) (f := 9) (t := 0) (Ts := Cond.code yX9_classHead cX9_classHead 3 (some .boolean) :: rz_TB) hx hb hts rz_in9 ho hK rfl (by decide) rfl (fun _ => rfl) (hw (i := 10) (j := 1) rfl rfl) (fun _ z => z) dX9_classHead_212 hk) ?_
  refine rz_All_c (i := 99) (fun k J hk hJ => rz_iast_ok (pc := 215) hx hb hK hA dX9_classHead_215 hk) ?_
  refine rz_All_c (i := 100) (fun k J hk hJ => rz_aload_n_ok (pc := 216) hx hb dX9_classHead_216 rfl hk) ?_
  refine rz_All_c (i := 101) (fun k J hk hJ => rz_getf_ok (pc := 217) (own := RX9) (ref := "ThreadJudge$Reader") (C := RX9) (T := TX9) (N := 19) (ci := 11) (index := 37) (f := 0) (t := 2) (Ts := Cond.code yX9_classHead cX9_classHead 3 (some .boolean) :: rz_TB) hx hb hts rz_in11 ho hK rfl (by decide) rfl (fun _ => rfl) (hw (i := 9) (j := 16) rfl rfl) (fun _ z => z) dX9_classHead_217 hk) ?_
  refine rz_All_c (i := 102) (fun k J hk hJ => rz_getf_ok (pc := 220) (own := RX9) (ref := "ThreadJudge$Program") (C := RX7) (T := TX7) (N := 22) (ci := 9) (index := 239) (f := 3) (t := 2) (Ts := Cond.code yX9_classHead cX9_classHead 3 (some .boolean) :: rz_TB) hx hb hts rz_in9 ho hK rfl (by decide) rfl (fun _ => rfl) (hw (i := 10) (j := 0) rfl rfl) (fun _ z => z) dX9_classHead_220 hk) ?_
  refine rz_All_c (i := 103) (fun k J hk hJ => rz_iconst_ok (pc := 223) hx hb dX9_classHead_223 rfl hk) ?_
  refine rz_All_c (i := 104) (fun k J hk hJ => rz_aald_ok (pc := 224) hx hb hK dX9_classHead_224 hk) ?_
  refine rz_All_c (i := 105) (fun k J hk hJ => rz_iload_n_ok (pc := 225) hx hb dX9_classHead_225 rfl hk) ?_
  refine rz_All_c (i := 106) (fun k J hk hJ => rz_iconst_ok (pc := 226) hx hb dX9_classHead_226 rfl hk) ?_
  refine rz_All_c (i := 107) (fun k J hk hJ => rz_iast_ok (pc := 227) hx hb hK hA dX9_classHead_227 hk) ?_
  refine rz_All_c (i := 108) (fun k J hk hJ => rz_aload_n_ok (pc := 228) hx hb dX9_classHead_228 rfl hk) ?_
  refine rz_All_c (i := 109) (fun k J hk hJ => rz_getf_ok (pc := 229) (own := RX9) (ref := "ThreadJudge$Reader") (C := RX9) (T := TX9) (N := 19) (ci := 11) (index := 37) (f := 0) (t := 2) (Ts := Cond.code yX9_classHead cX9_classHead 3 (some .boolean) :: rz_TB) hx hb hts rz_in11 ho hK rfl (by decide) rfl (fun _ => rfl) (hw (i := 9) (j := 16) rfl rfl) (fun _ z => z) dX9_classHead_229 hk) ?_
  refine rz_All_c (i := 110) (fun k J hk hJ => rz_getf_ok (pc := 232) (own := RX9) (ref := "ThreadJudge$Program") (C := RX7) (T := TX7) (N := 22) (ci := 9) (index := 239) (f := 3) (t := 2) (Ts := Cond.code yX9_classHead cX9_classHead 3 (some .boolean) :: rz_TB) hx hb hts rz_in9 ho hK rfl (by decide) rfl (fun _ => rfl) (hw (i := 10) (j := 0) rfl rfl) (fun _ z => z) dX9_classHead_232 hk) ?_
  refine rz_All_c (i := 111) (fun k J hk hJ => rz_bipush_ok (pc := 235) hx hb dX9_classHead_235 (by decide) hk) ?_
  refine rz_All_c (i := 112) (fun k J hk hJ => rz_aald_ok (pc := 237) hx hb hK dX9_classHead_237 hk) ?_
  refine rz_All_c (i := 113) (fun k J hk hJ => rz_iload_n_ok (pc := 238) hx hb dX9_classHead_238 rfl hk) ?_
  refine rz_All_c (i := 114) (fun k J hk hJ => rz_iconst_ok (pc := 239) hx hb dX9_classHead_239 rfl hk) ?_
  refine rz_All_c (i := 115) (fun k J hk hJ => rz_iast_ok (pc := 240) hx hb hK hA dX9_classHead_240 hk) ?_
  refine rz_All_c (i := 116) (fun k J hk hJ => rz_aload_n_ok (pc := 241) hx hb dX9_classHead_241 rfl hk) ?_
  refine rz_All_c (i := 117) (fun k J hk hJ => rz_dup_ok (pc := 242) hx hb dX9_classHead_242 hk) ?_
  refine rz_All_c (i := 118) (fun k J hk hJ => rz_getf_ok (pc := 243) (own := RX9) (ref := "ThreadJudge$Reader") (C := RX9) (T := TX9) (N := 19) (ci := 11) (index := 187) (f := 15) (t := 0) (Ts := Cond.code yX9_classHead cX9_classHead 3 (some .boolean) :: rz_TB) hx hb hts rz_in11 ho hK rfl (by decide) rfl (fun _ => rfl) (hw (i := 3) (j := 11) rfl rfl) (fun _ z => z) dX9_classHead_243 hk) ?_
  refine rz_All_c (i := 119) (fun k J hk hJ => rz_iconst_ok (pc := 246) hx hb dX9_classHead_246 rfl hk) ?_
  refine rz_All_c (i := 120) (fun k J hk hJ => rz_iadd_ok (pc := 247) hx hb dX9_classHead_247 hk) ?_
  refine rz_All_c (i := 121) (fun k J hk hJ => rz_putf_ok (pc := 248) (own := RX9) (ref := "ThreadJudge$Reader") (C := RX9) (T := TX9) (N := 19) (ci := 11) (index := 187) (f := 15) (t := 0) (Ts := Cond.code yX9_classHead cX9_classHead 3 (some .boolean) :: rz_TB) hx hb hts rz_in11 tyX9 tyX9_ok nmX9 ho hK hA rfl (by decide) rfl (rz_UnI _) rfl (tyX9_ok 15 (by decide)) (hw (i := 3) (j := 11) rfl rfl) (fun _ z => z) dX9_classHead_248 hk) ?_
  refine rz_All_c (i := 122) (fun k J hk hJ => rz_aload_n_ok (pc := 251) hx hb dX9_classHead_251 rfl hk) ?_
  refine rz_All_c (i := 123) (fun k J hk hJ => rz_iload_n_ok (pc := 252) hx hb dX9_classHead_252 rfl hk) ?_
  refine rz_All_c (i := 124) (fun k J hk hJ => rz_callV_ok (pc := 253) (own := RX9) (C := RX9) (T0 := TX9) (N0 := 19) hC rfl (rmX9_heritage l hG) (rz_cwV 1 hC rz_good (rz_mem (i := 10) (j := 19) rfl rfl) (rz_mem (i := 10) (j := 20) rfl rfl) (rz_mem (i := 10) (j := 21) rfl rfl) (rz_mem (i := 1) (j := 21) rfl rfl) (rz_mem (i := 10) (j := 22) rfl rfl) ⟨rfl, by decide, by decide, by decide +kernel⟩ rfl rfl ⟨by decide, by decide⟩) rfl dX9_classHead_253 hk) ?_
  refine rz_All_c (i := 125) (fun k J hk hJ => rz_zret_ok (pc := 256) hC dX9_classHead_256) ?_
  exact trivial
theorem dX9_codeLine_0 : decode cX9_codeLine 0 = .ok (.aload_n 0, 1) := by decide +kernel
theorem dX9_codeLine_1 : decode cX9_codeLine 1 = .ok (.getfield 37, 3) := by decide +kernel
theorem dX9_codeLine_4 : decode cX9_codeLine 4 = .ok (.getfield 246, 3) := by decide +kernel
theorem dX9_codeLine_7 : decode cX9_codeLine 7 = .ok (.iconst 1, 1) := by decide +kernel
theorem dX9_codeLine_8 : decode cX9_codeLine 8 = .ok (.isub, 1) := by decide +kernel
theorem dX9_codeLine_9 : decode cX9_codeLine 9 = .ok (.istore_n 2, 1) := by decide +kernel
theorem dX9_codeLine_10 : decode cX9_codeLine 10 = .ok (.iload_n 1, 1) := by decide +kernel
theorem dX9_codeLine_11 : decode cX9_codeLine 11 = .ok (.bipush 42, 2) := by decide +kernel
theorem dX9_codeLine_13 : decode cX9_codeLine 13 = .ok (.if_icmp .eq 15, 3) := by decide +kernel
theorem dX9_codeLine_16 : decode cX9_codeLine 16 = .ok (.iload_n 1, 1) := by decide +kernel
theorem dX9_codeLine_17 : decode cX9_codeLine 17 = .ok (.bipush 43, 2) := by decide +kernel
theorem dX9_codeLine_19 : decode cX9_codeLine 19 = .ok (.if_icmp .eq 9, 3) := by decide +kernel
theorem dX9_codeLine_22 : decode cX9_codeLine 22 = .ok (.iload_n 1, 1) := by decide +kernel
theorem dX9_codeLine_23 : decode cX9_codeLine 23 = .ok (.bipush 52, 2) := by decide +kernel
theorem dX9_codeLine_25 : decode cX9_codeLine 25 = .ok (.if_icmp .ne 7, 3) := by decide +kernel
theorem dX9_codeLine_32 : decode cX9_codeLine 32 = .ok (.iconst 0, 1) := by decide +kernel
theorem dX9_codeLine_33 : decode cX9_codeLine 33 = .ok (.istore_n 3, 1) := by decide +kernel
theorem dX9_codeLine_34 : decode cX9_codeLine 34 = .ok (.aload_n 0, 1) := by decide +kernel
theorem dX9_codeLine_35 : decode cX9_codeLine 35 = .ok (.getfield 37, 3) := by decide +kernel
theorem dX9_codeLine_38 : decode cX9_codeLine 38 = .ok (.getfield 206, 3) := by decide +kernel
theorem dX9_codeLine_41 : decode cX9_codeLine 41 = .ok (.sipush 1014, 3) := by decide +kernel
theorem dX9_codeLine_44 : decode cX9_codeLine 44 = .ok (.if_icmp .ge 33, 3) := by decide +kernel
theorem dX9_codeLine_47 : decode cX9_codeLine 47 = .ok (.aload_n 0, 1) := by decide +kernel
theorem dX9_codeLine_48 : decode cX9_codeLine 48 = .ok (.getfield 37, 3) := by decide +kernel
theorem dX9_codeLine_51 : decode cX9_codeLine 51 = .ok (.getfield 282, 3) := by decide +kernel
theorem dX9_codeLine_54 : decode cX9_codeLine 54 = .ok (.bipush 7, 2) := by decide +kernel
theorem dX9_codeLine_56 : decode cX9_codeLine 56 = .ok (.aaload, 1) := by decide +kernel
theorem dX9_codeLine_57 : decode cX9_codeLine 57 = .ok (.iload_n 2, 1) := by decide +kernel
theorem dX9_codeLine_58 : decode cX9_codeLine 58 = .ok (.iaload, 1) := by decide +kernel
theorem dX9_codeLine_59 : decode cX9_codeLine 59 = .ok (.bipush 120, 2) := by decide +kernel
theorem dX9_codeLine_61 : decode cX9_codeLine 61 = .ok (.if_icmp .ge 16, 3) := by decide +kernel
theorem dX9_codeLine_64 : decode cX9_codeLine 64 = .ok (.iload_n 3, 1) := by decide +kernel
theorem dX9_codeLine_65 : decode cX9_codeLine 65 = .ok (.ifCond .eq 17, 3) := by decide +kernel
theorem dX9_codeLine_82 : decode cX9_codeLine 82 = .ok (.aload_n 0, 1) := by decide +kernel
theorem dX9_codeLine_83 : decode cX9_codeLine 83 = .ok (.getfield 37, 3) := by decide +kernel
theorem dX9_codeLine_86 : decode cX9_codeLine 86 = .ok (.dup, 1) := by decide +kernel
theorem dX9_codeLine_87 : decode cX9_codeLine 87 = .ok (.getfield 206, 3) := by decide +kernel
theorem dX9_codeLine_90 : decode cX9_codeLine 90 = .ok (.dup_x1, 1) := by decide +kernel
theorem dX9_codeLine_91 : decode cX9_codeLine 91 = .ok (.iconst 1, 1) := by decide +kernel
theorem dX9_codeLine_92 : decode cX9_codeLine 92 = .ok (.iadd, 1) := by decide +kernel
theorem dX9_codeLine_93 : decode cX9_codeLine 93 = .ok (.putfield 206, 3) := by decide +kernel
theorem dX9_codeLine_96 : decode cX9_codeLine 96 = .ok (.istore 4, 2) := by decide +kernel
theorem dX9_codeLine_98 : decode cX9_codeLine 98 = .ok (.aload_n 0, 1) := by decide +kernel
theorem dX9_codeLine_99 : decode cX9_codeLine 99 = .ok (.getfield 37, 3) := by decide +kernel
theorem dX9_codeLine_102 : decode cX9_codeLine 102 = .ok (.getfield 282, 3) := by decide +kernel
theorem dX9_codeLine_105 : decode cX9_codeLine 105 = .ok (.bipush 7, 2) := by decide +kernel
theorem dX9_codeLine_107 : decode cX9_codeLine 107 = .ok (.aaload, 1) := by decide +kernel
theorem dX9_codeLine_108 : decode cX9_codeLine 108 = .ok (.iload_n 2, 1) := by decide +kernel
theorem dX9_codeLine_109 : decode cX9_codeLine 109 = .ok (.dup2, 1) := by decide +kernel
theorem dX9_codeLine_110 : decode cX9_codeLine 110 = .ok (.iaload, 1) := by decide +kernel
theorem dX9_codeLine_111 : decode cX9_codeLine 111 = .ok (.iconst 1, 1) := by decide +kernel
theorem dX9_codeLine_112 : decode cX9_codeLine 112 = .ok (.iadd, 1) := by decide +kernel
theorem dX9_codeLine_113 : decode cX9_codeLine 113 = .ok (.iastore, 1) := by decide +kernel
theorem dX9_codeLine_114 : decode cX9_codeLine 114 = .ok (.aload_n 0, 1) := by decide +kernel
theorem dX9_codeLine_115 : decode cX9_codeLine 115 = .ok (.getfield 37, 3) := by decide +kernel
theorem dX9_codeLine_118 : decode cX9_codeLine 118 = .ok (.getfield 211, 3) := by decide +kernel
theorem dX9_codeLine_121 : decode cX9_codeLine 121 = .ok (.iconst 0, 1) := by decide +kernel
theorem dX9_codeLine_122 : decode cX9_codeLine 122 = .ok (.aaload, 1) := by decide +kernel
theorem dX9_codeLine_123 : decode cX9_codeLine 123 = .ok (.iload 4, 2) := by decide +kernel
theorem dX9_codeLine_125 : decode cX9_codeLine 125 = .ok (.iload_n 1, 1) := by decide +kernel
theorem dX9_codeLine_126 : decode cX9_codeLine 126 = .ok (.iastore, 1) := by decide +kernel
theorem dX9_codeLine_127 : decode cX9_codeLine 127 = .ok (.aload_n 0, 1) := by decide +kernel
theorem dX9_codeLine_128 : decode cX9_codeLine 128 = .ok (.getfield 37, 3) := by decide +kernel
theorem dX9_codeLine_131 : decode cX9_codeLine 131 = .ok (.getfield 211, 3) := by decide +kernel
theorem dX9_codeLine_134 : decode cX9_codeLine 134 = .ok (.iconst 1, 1) := by decide +kernel
theorem dX9_codeLine_135 : decode cX9_codeLine 135 = .ok (.aaload, 1) := by decide +kernel
theorem dX9_codeLine_136 : decode cX9_codeLine 136 = .ok (.iload 4, 2) := by decide +kernel
theorem dX9_codeLine_138 : decode cX9_codeLine 138 = .ok (.aload_n 0, 1) := by decide +kernel
theorem dX9_codeLine_139 : decode cX9_codeLine 139 = .ok (.invokevirtual 242, 3) := by decide +kernel
theorem dX9_codeLine_142 : decode cX9_codeLine 142 = .ok (.iastore, 1) := by decide +kernel
theorem dX9_codeLine_143 : decode cX9_codeLine 143 = .ok (.aload_n 0, 1) := by decide +kernel
theorem dX9_codeLine_144 : decode cX9_codeLine 144 = .ok (.getfield 37, 3) := by decide +kernel
theorem dX9_codeLine_147 : decode cX9_codeLine 147 = .ok (.getfield 211, 3) := by decide +kernel
theorem dX9_codeLine_150 : decode cX9_codeLine 150 = .ok (.iconst 2, 1) := by decide +kernel
theorem dX9_codeLine_151 : decode cX9_codeLine 151 = .ok (.aaload, 1) := by decide +kernel
theorem dX9_codeLine_152 : decode cX9_codeLine 152 = .ok (.iload 4, 2) := by decide +kernel
theorem dX9_codeLine_154 : decode cX9_codeLine 154 = .ok (.iload_n 2, 1) := by decide +kernel
theorem dX9_codeLine_155 : decode cX9_codeLine 155 = .ok (.iastore, 1) := by decide +kernel
theorem dX9_codeLine_156 : decode cX9_codeLine 156 = .ok (.aload_n 0, 1) := by decide +kernel
theorem dX9_codeLine_157 : decode cX9_codeLine 157 = .ok (.getfield 37, 3) := by decide +kernel
theorem dX9_codeLine_160 : decode cX9_codeLine 160 = .ok (.getfield 211, 3) := by decide +kernel
theorem dX9_codeLine_163 : decode cX9_codeLine 163 = .ok (.iconst 3, 1) := by decide +kernel
theorem dX9_codeLine_164 : decode cX9_codeLine 164 = .ok (.aaload, 1) := by decide +kernel
theorem dX9_codeLine_165 : decode cX9_codeLine 165 = .ok (.iload 4, 2) := by decide +kernel
theorem dX9_codeLine_167 : decode cX9_codeLine 167 = .ok (.iconst 0, 1) := by decide +kernel
theorem dX9_codeLine_168 : decode cX9_codeLine 168 = .ok (.iastore, 1) := by decide +kernel
theorem dX9_codeLine_169 : decode cX9_codeLine 169 = .ok (.aload_n 0, 1) := by decide +kernel
theorem dX9_codeLine_170 : decode cX9_codeLine 170 = .ok (.getfield 37, 3) := by decide +kernel
theorem dX9_codeLine_173 : decode cX9_codeLine 173 = .ok (.getfield 211, 3) := by decide +kernel
theorem dX9_codeLine_176 : decode cX9_codeLine 176 = .ok (.bipush 7, 2) := by decide +kernel
theorem dX9_codeLine_178 : decode cX9_codeLine 178 = .ok (.aaload, 1) := by decide +kernel
theorem dX9_codeLine_179 : decode cX9_codeLine 179 = .ok (.iload 4, 2) := by decide +kernel
theorem dX9_codeLine_181 : decode cX9_codeLine 181 = .ok (.iconst 0, 1) := by decide +kernel
theorem dX9_codeLine_182 : decode cX9_codeLine 182 = .ok (.iastore, 1) := by decide +kernel
theorem dX9_codeLine_183 : decode cX9_codeLine 183 = .ok (.aload_n 0, 1) := by decide +kernel
theorem dX9_codeLine_184 : decode cX9_codeLine 184 = .ok (.getfield 37, 3) := by decide +kernel
theorem dX9_codeLine_187 : decode cX9_codeLine 187 = .ok (.getfield 211, 3) := by decide +kernel
theorem dX9_codeLine_190 : decode cX9_codeLine 190 = .ok (.bipush 8, 2) := by decide +kernel
theorem dX9_codeLine_192 : decode cX9_codeLine 192 = .ok (.aaload, 1) := by decide +kernel
theorem dX9_codeLine_193 : decode cX9_codeLine 193 = .ok (.iload 4, 2) := by decide +kernel
theorem dX9_codeLine_195 : decode cX9_codeLine 195 = .ok (.iconst 0, 1) := by decide +kernel
theorem dX9_codeLine_196 : decode cX9_codeLine 196 = .ok (.iastore, 1) := by decide +kernel
theorem dX9_codeLine_197 : decode cX9_codeLine 197 = .ok (.aload_n 0, 1) := by decide +kernel
theorem dX9_codeLine_198 : decode cX9_codeLine 198 = .ok (.getfield 37, 3) := by decide +kernel
theorem dX9_codeLine_201 : decode cX9_codeLine 201 = .ok (.getfield 211, 3) := by decide +kernel
theorem dX9_codeLine_204 : decode cX9_codeLine 204 = .ok (.bipush 9, 2) := by decide +kernel
theorem dX9_codeLine_206 : decode cX9_codeLine 206 = .ok (.aaload, 1) := by decide +kernel
theorem dX9_codeLine_207 : decode cX9_codeLine 207 = .ok (.iload 4, 2) := by decide +kernel
theorem dX9_codeLine_209 : decode cX9_codeLine 209 = .ok (.iconst (-1), 1) := by decide +kernel
theorem dX9_codeLine_210 : decode cX9_codeLine 210 = .ok (.iastore, 1) := by decide +kernel
theorem dX9_codeLine_211 : decode cX9_codeLine 211 = .ok (.aload_n 0, 1) := by decide +kernel
theorem dX9_codeLine_212 : decode cX9_codeLine 212 = .ok (.getfield 37, 3) := by decide +kernel
theorem dX9_codeLine_215 : decode cX9_codeLine 215 = .ok (.getfield 211, 3) := by decide +kernel
theorem dX9_codeLine_218 : decode cX9_codeLine 218 = .ok (.bipush 10, 2) := by decide +kernel
theorem dX9_codeLine_220 : decode cX9_codeLine 220 = .ok (.aaload, 1) := by decide +kernel
theorem dX9_codeLine_221 : decode cX9_codeLine 221 = .ok (.iload 4, 2) := by decide +kernel
theorem dX9_codeLine_223 : decode cX9_codeLine 223 = .ok (.iconst (-1), 1) := by decide +kernel
theorem dX9_codeLine_224 : decode cX9_codeLine 224 = .ok (.iastore, 1) := by decide +kernel
theorem dX9_codeLine_225 : decode cX9_codeLine 225 = .ok (.aload_n 0, 1) := by decide +kernel
theorem dX9_codeLine_226 : decode cX9_codeLine 226 = .ok (.dup, 1) := by decide +kernel
theorem dX9_codeLine_227 : decode cX9_codeLine 227 = .ok (.getfield 187, 3) := by decide +kernel
theorem dX9_codeLine_230 : decode cX9_codeLine 230 = .ok (.iconst 1, 1) := by decide +kernel
theorem dX9_codeLine_231 : decode cX9_codeLine 231 = .ok (.iadd, 1) := by decide +kernel
theorem dX9_codeLine_232 : decode cX9_codeLine 232 = .ok (.putfield 187, 3) := by decide +kernel
theorem dX9_codeLine_235 : decode cX9_codeLine 235 = .ok (.aload_n 0, 1) := by decide +kernel
theorem dX9_codeLine_236 : decode cX9_codeLine 236 = .ok (.iconst 3, 1) := by decide +kernel
theorem dX9_codeLine_237 : decode cX9_codeLine 237 = .ok (.putfield 190, 3) := by decide +kernel
theorem dX9_codeLine_240 : decode cX9_codeLine 240 = .ok (.iconst 1, 1) := by decide +kernel
theorem dX9_codeLine_241 : decode cX9_codeLine 241 = .ok (.ireturn, 1) := by decide +kernel
def rpX9_codeLine : List Nat := [0, 1, 4, 7, 8, 9, 10, 11, 13, 16, 17, 19, 22, 23, 25, 28, 32, 33, 34, 35, 38, 41, 44, 47, 48, 51, 54, 56, 57, 58, 59, 61, 64, 65, 68, 77, 82, 83, 86, 87, 90, 91, 92, 93, 96, 98, 99, 102, 105, 107, 108, 109, 110, 111, 112, 113, 114, 115, 118, 121, 122, 123, 125, 126, 127, 128, 131, 134, 135, 136, 138, 139, 142, 143, 144, 147, 150, 151, 152, 154, 155, 156, 157, 160, 163, 164, 165, 167, 168, 169, 170, 173, 176, 178, 179, 181, 182, 183, 184, 187, 190, 192, 193, 195, 196, 197, 198, 201, 204, 206, 207, 209, 210, 211, 212, 215, 218, 220, 221, 223, 224, 225, 226, 227, 230, 231, 232, 235, 236, 237, 240, 241]
noncomputable def rcX9_codeLine : List rz_B := [rz_aload 0, rz_getf (Nat.add (Nat.mul 256 11) 1) 0 rz_r, rz_getf (Nat.add (Nat.mul 256 9) 1) 9 rz_i, rz_cst 1, rz_isub, rz_istore 2, rz_iload 1, rz_cst 42, rz_icmpeq 15, rz_iload 1, rz_cst 43, rz_icmpeq 15, rz_iload 1, rz_cst 52, rz_icmpne 16, rz_no, rz_cst 0, rz_istore 3, rz_aload 0, rz_getf (Nat.add (Nat.mul 256 11) 1) 0 rz_r, rz_getf (Nat.add (Nat.mul 256 9) 1) 13 rz_i, rz_cst 1014, rz_icmpge 35, rz_aload 0, rz_getf (Nat.add (Nat.mul 256 11) 1) 0 rz_r, rz_getf (Nat.add (Nat.mul 256 9) 1) 10 rz_r, rz_cst 7, rz_aald, rz_iload 2, rz_iald, rz_cst 120, rz_icmpge 35, rz_iload 3, rz_ifeq 36, rz_no, rz_no, rz_aload 0, rz_getf (Nat.add (Nat.mul 256 11) 1) 0 rz_r, rz_dup, rz_getf (Nat.add (Nat.mul 256 9) 1) 13 rz_i, rz_dup_x1, rz_cst 1, rz_iadd, rz_putf (Nat.add (Nat.mul 256 9) 1) 13 rz_unI, rz_istore 4, rz_aload 0, rz_getf (Nat.add (Nat.mul 256 11) 1) 0 rz_r, rz_getf (Nat.add (Nat.mul 256 9) 1) 10 rz_r, rz_cst 7, rz_aald, rz_iload 2, rz_dup2, rz_iald, rz_cst 1, rz_iadd, rz_iast, rz_aload 0, rz_getf (Nat.add (Nat.mul 256 11) 1) 0 rz_r, rz_getf (Nat.add (Nat.mul 256 9) 1) 14 rz_r, rz_cst 0, rz_aald, rz_iload 4, rz_iload 1, rz_iast, rz_aload 0, rz_getf (Nat.add (Nat.mul 256 11) 1) 0 rz_r, rz_getf (Nat.add (Nat.mul 256 9) 1) 14 rz_r, rz_cst 1, rz_aald, rz_iload 4, rz_aload 0, rz_callV 0 (Nat.add (Nat.mul 256 11) 1) rgX9_spot, rz_iast, rz_aload 0, rz_getf (Nat.add (Nat.mul 256 11) 1) 0 rz_r, rz_getf (Nat.add (Nat.mul 256 9) 1) 14 rz_r, rz_cst 2, rz_aald, rz_iload 4, rz_iload 2, rz_iast, rz_aload 0, rz_getf (Nat.add (Nat.mul 256 11) 1) 0 rz_r, rz_getf (Nat.add (Nat.mul 256 9) 1) 14 rz_r, rz_cst 3, rz_aald, rz_iload 4, rz_cst 0, rz_iast, rz_aload 0, rz_getf (Nat.add (Nat.mul 256 11) 1) 0 rz_r, rz_getf (Nat.add (Nat.mul 256 9) 1) 14 rz_r, rz_cst 7, rz_aald, rz_iload 4, rz_cst 0, rz_iast, rz_aload 0, rz_getf (Nat.add (Nat.mul 256 11) 1) 0 rz_r, rz_getf (Nat.add (Nat.mul 256 9) 1) 14 rz_r, rz_cst 8, rz_aald, rz_iload 4, rz_cst 0, rz_iast, rz_aload 0, rz_getf (Nat.add (Nat.mul 256 11) 1) 0 rz_r, rz_getf (Nat.add (Nat.mul 256 9) 1) 14 rz_r, rz_cst 9, rz_aald, rz_iload 4, rz_cst 4294967295, rz_iast, rz_aload 0, rz_getf (Nat.add (Nat.mul 256 11) 1) 0 rz_r, rz_getf (Nat.add (Nat.mul 256 9) 1) 14 rz_r, rz_cst 10, rz_aald, rz_iload 4, rz_cst 4294967295, rz_iast, rz_aload 0, rz_dup, rz_getf (Nat.add (Nat.mul 256 11) 1) 15 rz_i, rz_cst 1, rz_iadd, rz_putf (Nat.add (Nat.mul 256 11) 1) 15 rz_unI, rz_aload 0, rz_cst 3, rz_putf (Nat.add (Nat.mul 256 11) 1) 16 rz_unI, rz_cst 1, rz_zret]
noncomputable def rgX9_codeLine : rz_L → rz_M → rz_Z → Bool := rz_go rcX9_codeLine 5 1000000
def rrX9_codeLine : Room := { frames := 1, cells := 0, slots := 0, locals := 20 }
theorem rmX9_codeLine (l : Launch) {G : rz_G} (hG : rz_Gd G) (vs : rz_L) (M : rz_M) (Z : rz_Z) (hn : vs.length = 2) (h : rgX9_codeLine vs M Z = true) : Met l yX9_codeLine (Cond.code yX9_codeLine cX9_codeLine 5 (some .boolean) :: rz_TB) rrX9_codeLine (rz_Pre G vs M) (rz_Qi G M.2 Z) 0 0 (fun q => rz_b G ≤ q) := by
  obtain ⟨D, tc, ad, b, xs, rfl⟩ := id hG
  refine rz_body (pcs := rpX9_codeLine) (by decide) rfl (by rw [hn]; decide) h ?_
  intro p e R s m args below meth c hC
  obtain ⟨hx, hb, hml, hr, hlk, ho, hts, hKn, hRm⟩ := id hC
  obtain ⟨hK, hA, hSt⟩ := id hKn
  have hw : ∀ {i j : Nat} {ws : List Cond} {w : Cond}, rz_WW[i]? = some ws → ws[j]? = some w → w.before args s = true := fun h1 h2 => hts _ (List.mem_cons_of_mem _ (rz_mem h1 h2))
  refine rz_All_c (i := 0) (fun k J hk hJ => rz_aload_n_ok (pc := 0) hx hb dX9_codeLine_0 rfl hk) ?_
  refine rz_All_c (i := 1) (fun k J hk hJ => rz_getf_ok (pc := 1) (own := RX9) (ref := "ThreadJudge$Reader") (C := RX9) (T := TX9) (N := 19) (ci := 11) (index := 37) (f := 0) (t := 2) (Ts := Cond.code yX9_codeLine cX9_codeLine 5 (some .boolean) :: rz_TB) hx hb hts rz_in11 ho hK rfl (by decide) rfl (fun _ => rfl) (hw (i := 9) (j := 16) rfl rfl) (fun _ z => z) dX9_codeLine_1 hk) ?_
  refine rz_All_c (i := 2) (fun k J hk hJ => rz_getf_ok (pc := 4) (own := RX9) (ref := "ThreadJudge$Program") (C := RX7) (T := TX7) (N := 22) (ci := 9) (index := 246) (f := 9) (t := 0) (Ts := Cond.code yX9_codeLine cX9_codeLine 5 (some .boolean) :: rz_TB) hx hb hts rz_in9 ho hK rfl (by decide) rfl (fun _ => rfl) (hw (i := 10) (j := 1) rfl rfl) (fun _ z => z) dX9_codeLine_4 hk) ?_
  refine rz_All_c (i := 3) (fun k J hk hJ => rz_iconst_ok (pc := 7) hx hb dX9_codeLine_7 rfl hk) ?_
  refine rz_All_c (i := 4) (fun k J hk hJ => rz_isub_ok (pc := 8) hx hb dX9_codeLine_8 hk) ?_
  refine rz_All_c (i := 5) (fun k J hk hJ => rz_istore_n_ok (pc := 9) hx hb dX9_codeLine_9 rfl hk) ?_
  refine rz_All_c (i := 6) (fun k J hk hJ => rz_iload_n_ok (pc := 10) hx hb dX9_codeLine_10 rfl hk) ?_
  refine rz_All_c (i := 7) (fun k J hk hJ => rz_bipush_ok (pc := 11) hx hb dX9_codeLine_11 (by decide) hk) ?_
  refine rz_All_c (i := 8) (fun k J hk hJ => rz_icmpeq_ok (pc := 13) hx hb dX9_codeLine_13 rfl hk (hJ 15)) ?_
  refine rz_All_c (i := 9) (fun k J hk hJ => rz_iload_n_ok (pc := 16) hx hb dX9_codeLine_16 rfl hk) ?_
  refine rz_All_c (i := 10) (fun k J hk hJ => rz_bipush_ok (pc := 17) hx hb dX9_codeLine_17 (by decide) hk) ?_
  refine rz_All_c (i := 11) (fun k J hk hJ => rz_icmpeq_ok (pc := 19) hx hb dX9_codeLine_19 rfl hk (hJ 15)) ?_
  refine rz_All_c (i := 12) (fun k J hk hJ => rz_iload_n_ok (pc := 22) hx hb dX9_codeLine_22 rfl hk) ?_
  refine rz_All_c (i := 13) (fun k J hk hJ => rz_bipush_ok (pc := 23) hx hb dX9_codeLine_23 (by decide) hk) ?_
  refine rz_All_c (i := 14) (fun k J hk hJ => rz_icmpne_ok (pc := 25) hx hb dX9_codeLine_25 rfl hk (hJ 16)) ?_
  refine rz_All_c (i := 15) (fun k J hk hJ => rz_no_ok) ?_
  refine rz_All_c (i := 16) (fun k J hk hJ => rz_iconst_ok (pc := 32) hx hb dX9_codeLine_32 rfl hk) ?_
  refine rz_All_c (i := 17) (fun k J hk hJ => rz_istore_n_ok (pc := 33) hx hb dX9_codeLine_33 rfl hk) ?_
  refine rz_All_c (i := 18) (fun k J hk hJ => rz_aload_n_ok (pc := 34) hx hb dX9_codeLine_34 rfl hk) ?_
  refine rz_All_c (i := 19) (fun k J hk hJ => rz_getf_ok (pc := 35) (own := RX9) (ref := "ThreadJudge$Reader") (C := RX9) (T := TX9) (N := 19) (ci := 11) (index := 37) (f := 0) (t := 2) (Ts := Cond.code yX9_codeLine cX9_codeLine 5 (some .boolean) :: rz_TB) hx hb hts rz_in11 ho hK rfl (by decide) rfl (fun _ => rfl) (hw (i := 9) (j := 16) rfl rfl) (fun _ z => z) dX9_codeLine_35 hk) ?_
  refine rz_All_c (i := 20) (fun k J hk hJ => rz_getf_ok (pc := 38) (own := RX9) (ref := "ThreadJudge$Program") (C := RX7) (T := TX7) (N := 22) (ci := 9) (index := 206) (f := 13) (t := 0) (Ts := Cond.code yX9_codeLine cX9_codeLine 5 (some .boolean) :: rz_TB) hx hb hts rz_in9 ho hK rfl (by decide) rfl (fun _ => rfl) (hw (i := 9) (j := 17) rfl rfl) (fun _ z => z) dX9_codeLine_38 hk) ?_
  refine rz_All_c (i := 21) (fun k J hk hJ => rz_sipush_ok (pc := 41) hx hb dX9_codeLine_41 (by decide) hk) ?_
  refine rz_All_c (i := 22) (fun k J hk hJ => rz_icmpge_ok (pc := 44) hx hb dX9_codeLine_44 rfl hk (hJ 35)) ?_
  refine rz_All_c (i := 23) (fun k J hk hJ => rz_aload_n_ok (pc := 47) hx hb dX9_codeLine_47 rfl hk) ?_
  refine rz_All_c (i := 24) (fun k J hk hJ => rz_getf_ok (pc := 48) (own := RX9) (ref := "ThreadJudge$Reader") (C := RX9) (T := TX9) (N := 19) (ci := 11) (index := 37) (f := 0) (t := 2) (Ts := Cond.code yX9_codeLine cX9_codeLine 5 (some .boolean) :: rz_TB) hx hb hts rz_in11 ho hK rfl (by decide) rfl (fun _ => rfl) (hw (i := 9) (j := 16) rfl rfl) (fun _ z => z) dX9_codeLine_48 hk) ?_
  refine rz_All_c (i := 25) (fun k J hk hJ => rz_getf_ok (pc := 51) (own := RX9) (ref := "ThreadJudge$Program") (C := RX7) (T := TX7) (N := 22) (ci := 9) (index := 282) (f := 10) (t := 2) (Ts := Cond.code yX9_codeLine cX9_codeLine 5 (some .boolean) :: rz_TB) hx hb hts rz_in9 ho hK rfl (by decide) rfl (fun _ => rfl) (hw (i := 12) (j := 14) rfl rfl) (fun _ z => z) dX9_codeLine_51 hk) ?_
  refine rz_All_c (i := 26) (fun k J hk hJ => rz_bipush_ok (pc := 54) hx hb dX9_codeLine_54 (by decide) hk) ?_
  refine rz_All_c (i := 27) (fun k J hk hJ => rz_aald_ok (pc := 56) hx hb hK dX9_codeLine_56 hk) ?_
  refine rz_All_c (i := 28) (fun k J hk hJ => rz_iload_n_ok (pc := 57) hx hb dX9_codeLine_57 rfl hk) ?_
  refine rz_All_c (i := 29) (fun k J hk hJ => rz_iald_ok (pc := 58) hx hb hK dX9_codeLine_58 hk) ?_
  refine rz_All_c (i := 30) (fun k J hk hJ => rz_bipush_ok (pc := 59) hx hb dX9_codeLine_59 (by decide) hk) ?_
  refine rz_All_c (i := 31) (fun k J hk hJ => rz_icmpge_ok (pc := 61) hx hb dX9_codeLine_61 rfl hk (hJ 35)) ?_
  refine rz_All_c (i := 32) (fun k J hk hJ => rz_iload_n_ok (pc := 64) hx hb dX9_codeLine_64 rfl hk) ?_
  refine rz_All_c (i := 33) (fun k J hk hJ => rz_ifeq_ok (pc := 65) hx hb dX9_codeLine_65 rfl hk (hJ 36)) ?_
  refine rz_All_c (i := 34) (fun k J hk hJ => rz_no_ok) ?_
  refine rz_All_c (i := 35) (fun k J hk hJ => rz_no_ok) ?_
  refine rz_All_c (i := 36) (fun k J hk hJ => rz_aload_n_ok (pc := 82) hx hb dX9_codeLine_82 rfl hk) ?_
  refine rz_All_c (i := 37) (fun k J hk hJ => rz_getf_ok (pc := 83) (own := RX9) (ref := "ThreadJudge$Reader") (C := RX9) (T := TX9) (N := 19) (ci := 11) (index := 37) (f := 0) (t := 2) (Ts := Cond.code yX9_codeLine cX9_codeLine 5 (some .boolean) :: rz_TB) hx hb hts rz_in11 ho hK rfl (by decide) rfl (fun _ => rfl) (hw (i := 9) (j := 16) rfl rfl) (fun _ z => z) dX9_codeLine_83 hk) ?_
  refine rz_All_c (i := 38) (fun k J hk hJ => rz_dup_ok (pc := 86) hx hb dX9_codeLine_86 hk) ?_
  refine rz_All_c (i := 39) (fun k J hk hJ => rz_getf_ok (pc := 87) (own := RX9) (ref := "ThreadJudge$Program") (C := RX7) (T := TX7) (N := 22) (ci := 9) (index := 206) (f := 13) (t := 0) (Ts := Cond.code yX9_codeLine cX9_codeLine 5 (some .boolean) :: rz_TB) hx hb hts rz_in9 ho hK rfl (by decide) rfl (fun _ => rfl) (hw (i := 9) (j := 17) rfl rfl) (fun _ z => z) dX9_codeLine_87 hk) ?_
  refine rz_All_c (i := 40) (fun k J hk hJ => rz_dup_x1_ok (pc := 90) hx hb dX9_codeLine_90 hk) ?_
  refine rz_All_c (i := 41) (fun k J hk hJ => rz_iconst_ok (pc := 91) hx hb dX9_codeLine_91 rfl hk) ?_
  refine rz_All_c (i := 42) (fun k J hk hJ => rz_iadd_ok (pc := 92) hx hb dX9_codeLine_92 hk) ?_
  refine rz_All_c (i := 43) (fun k J hk hJ => rz_putf_ok (pc := 93) (own := RX9) (ref := "ThreadJudge$Program") (C := RX7) (T := TX7) (N := 22) (ci := 9) (index := 206) (f := 13) (t := 0) (Ts := Cond.code yX9_codeLine cX9_codeLine 5 (some .boolean) :: rz_TB) hx hb hts rz_in9 tyX7 tyX7_ok nmX7 ho hK hA rfl (by decide) rfl (rz_UnI _) rfl (tyX7_ok 13 (by decide)) (hw (i := 9) (j := 17) rfl rfl) (fun _ z => z) dX9_codeLine_93 hk) ?_
  refine rz_All_c (i := 44) (fun k J hk hJ => rz_istore_ok (pc := 96) hx hb dX9_codeLine_96 hk) ?_
  refine rz_All_c (i := 45) (fun k J hk hJ => rz_aload_n_ok (pc := 98) hx hb dX9_codeLine_98 rfl hk) ?_
  refine rz_All_c (i := 46) (fun k J hk hJ => rz_getf_ok (pc := 99) (own := RX9) (ref := "ThreadJudge$Reader") (C := RX9) (T := TX9) (N := 19) (ci := 11) (index := 37) (f := 0) (t := 2) (Ts := Cond.code yX9_codeLine cX9_codeLine 5 (some .boolean) :: rz_TB) hx hb hts rz_in11 ho hK rfl (by decide) rfl (fun _ => rfl) (hw (i := 9) (j := 16) rfl rfl) (fun _ z => z) dX9_codeLine_99 hk) ?_
  refine rz_All_c (i := 47) (fun k J hk hJ => rz_getf_ok (pc := 102) (own := RX9) (ref := "ThreadJudge$Program") (C := RX7) (T := TX7) (N := 22) (ci := 9) (index := 282) (f := 10) (t := 2) (Ts := Cond.code yX9_codeLine cX9_codeLine 5 (some .boolean) :: rz_TB) hx hb hts rz_in9 ho hK rfl (by decide) rfl (fun _ => rfl) (hw (i := 12) (j := 14) rfl rfl) (fun _ z => z) dX9_codeLine_102 hk) ?_
  refine rz_All_c (i := 48) (fun k J hk hJ => rz_bipush_ok (pc := 105) hx hb dX9_codeLine_105 (by decide) hk) ?_
  refine rz_All_c (i := 49) (fun k J hk hJ => rz_aald_ok (pc := 107) hx hb hK dX9_codeLine_107 hk) ?_
  refine rz_All_c (i := 50) (fun k J hk hJ => rz_iload_n_ok (pc := 108) hx hb dX9_codeLine_108 rfl hk) ?_
  refine rz_All_c (i := 51) (fun k J hk hJ => rz_dup2_ok (pc := 109) hx hb dX9_codeLine_109 hk) ?_
  refine rz_All_c (i := 52) (fun k J hk hJ => rz_iald_ok (pc := 110) hx hb hK dX9_codeLine_110 hk) ?_
  refine rz_All_c (i := 53) (fun k J hk hJ => rz_iconst_ok (pc := 111) hx hb dX9_codeLine_111 rfl hk) ?_
  refine rz_All_c (i := 54) (fun k J hk hJ => rz_iadd_ok (pc := 112) hx hb dX9_codeLine_112 hk) ?_
  refine rz_All_c (i := 55) (fun k J hk hJ => rz_iast_ok (pc := 113) hx hb hK hA dX9_codeLine_113 hk) ?_
  refine rz_All_c (i := 56) (fun k J hk hJ => rz_aload_n_ok (pc := 114) hx hb dX9_codeLine_114 rfl hk) ?_
  refine rz_All_c (i := 57) (fun k J hk hJ => rz_getf_ok (pc := 115) (own := RX9) (ref := "ThreadJudge$Reader") (C := RX9) (T := TX9) (N := 19) (ci := 11) (index := 37) (f := 0) (t := 2) (Ts := Cond.code yX9_codeLine cX9_codeLine 5 (some .boolean) :: rz_TB) hx hb hts rz_in11 ho hK rfl (by decide) rfl (fun _ => rfl) (hw (i := 9) (j := 16) rfl rfl) (fun _ z => z) dX9_codeLine_115 hk) ?_
  refine rz_All_c (i := 58) (fun k J hk hJ => rz_getf_ok (pc := 118) (own := RX9) (ref := "ThreadJudge$Program") (C := RX7) (T := TX7) (N := 22) (ci := 9) (index := 211) (f := 14) (t := 2) (Ts := Cond.code yX9_codeLine cX9_codeLine 5 (some .boolean) :: rz_TB) hx hb hts rz_in9 ho hK rfl (by decide) rfl (fun _ => rfl) (hw (i := 9) (j := 18) rfl rfl) (fun _ z => z) dX9_codeLine_118 hk) ?_
  refine rz_All_c (i := 59) (fun k J hk hJ => rz_iconst_ok (pc := 121) hx hb dX9_codeLine_121 rfl hk) ?_
  refine rz_All_c (i := 60) (fun k J hk hJ => rz_aald_ok (pc := 122) hx hb hK dX9_codeLine_122 hk) ?_
  refine rz_All_c (i := 61) (fun k J hk hJ => rz_iload_ok (pc := 123) hx hb dX9_codeLine_123 hk) ?_
  refine rz_All_c (i := 62) (fun k J hk hJ => rz_iload_n_ok (pc := 125) hx hb dX9_codeLine_125 rfl hk) ?_
  refine rz_All_c (i := 63) (fun k J hk hJ => rz_iast_ok (pc := 126) hx hb hK hA dX9_codeLine_126 hk) ?_
  refine rz_All_c (i := 64) (fun k J hk hJ => rz_aload_n_ok (pc := 127) hx hb dX9_codeLine_127 rfl hk) ?_
  refine rz_All_c (i := 65) (fun k J hk hJ => rz_getf_ok (pc := 128) (own := RX9) (ref := "ThreadJudge$Reader") (C := RX9) (T := TX9) (N := 19) (ci := 11) (index := 37) (f := 0) (t := 2) (Ts := Cond.code yX9_codeLine cX9_codeLine 5 (some .boolean) :: rz_TB) hx hb hts rz_in11 ho hK rfl (by decide) rfl (fun _ => rfl) (hw (i := 9) (j := 16) rfl rfl) (fun _ z => z) dX9_codeLine_128 hk) ?_
  refine rz_All_c (i := 66) (fun k J hk hJ => rz_getf_ok (pc := 131) (own := RX9) (ref := "ThreadJudge$Program") (C := RX7) (T := TX7) (N := 22) (ci := 9) (index := 211) (f := 14) (t := 2) (Ts := Cond.code yX9_codeLine cX9_codeLine 5 (some .boolean) :: rz_TB) hx hb hts rz_in9 ho hK rfl (by decide) rfl (fun _ => rfl) (hw (i := 9) (j := 18) rfl rfl) (fun _ z => z) dX9_codeLine_131 hk) ?_
  refine rz_All_c (i := 67) (fun k J hk hJ => rz_iconst_ok (pc := 134) hx hb dX9_codeLine_134 rfl hk) ?_
  refine rz_All_c (i := 68) (fun k J hk hJ => rz_aald_ok (pc := 135) hx hb hK dX9_codeLine_135 hk) ?_
  refine rz_All_c (i := 69) (fun k J hk hJ => rz_iload_ok (pc := 136) hx hb dX9_codeLine_136 hk) ?_
  refine rz_All_c (i := 70) (fun k J hk hJ => rz_aload_n_ok (pc := 138) hx hb dX9_codeLine_138 rfl hk) ?_
  refine rz_All_c (i := 71) (fun k J hk hJ => rz_callV_ok (pc := 139) (own := RX9) (C := RX9) (T0 := TX9) (N0 := 19) hC rfl (rmX9_spot l hG) (rz_cwV 0 hC rz_good (rz_mem (i := 10) (j := 14) rfl rfl) (rz_mem (i := 10) (j := 15) rfl rfl) (rz_mem (i := 10) (j := 16) rfl rfl) (rz_mem (i := 1) (j := 21) rfl rfl) (rz_mem (i := 10) (j := 17) rfl rfl) ⟨rfl, by decide, by decide, by decide +kernel⟩ rfl rfl ⟨by decide, by decide⟩) rfl dX9_codeLine_139 hk) ?_
  refine rz_All_c (i := 72) (fun k J hk hJ => rz_iast_ok (pc := 142) hx hb hK hA dX9_codeLine_142 hk) ?_
  refine rz_All_c (i := 73) (fun k J hk hJ => rz_aload_n_ok (pc := 143) hx hb dX9_codeLine_143 rfl hk) ?_
  refine rz_All_c (i := 74) (fun k J hk hJ => rz_getf_ok (pc := 144) (own := RX9) (ref := "ThreadJudge$Reader") (C := RX9) (T := TX9) (N := 19) (ci := 11) (index := 37) (f := 0) (t := 2) (Ts := Cond.code yX9_codeLine cX9_codeLine 5 (some .boolean) :: rz_TB) hx hb hts rz_in11 ho hK rfl (by decide) rfl (fun _ => rfl) (hw (i := 9) (j := 16) rfl rfl) (fun _ z => z) dX9_codeLine_144 hk) ?_
  refine rz_All_c (i := 75) (fun k J hk hJ => rz_getf_ok (pc := 147) (own := RX9) (ref := "ThreadJudge$Program") (C := RX7) (T := TX7) (N := 22) (ci := 9) (index := 211) (f := 14) (t := 2) (Ts := Cond.code yX9_codeLine cX9_codeLine 5 (some .boolean) :: rz_TB) hx hb hts rz_in9 ho hK rfl (by decide) rfl (fun _ => rfl) (hw (i := 9) (j := 18) rfl rfl) (fun _ z => z) dX9_codeLine_147 hk) ?_
  refine rz_All_c (i := 76) (fun k J hk hJ => rz_iconst_ok (pc := 150) hx hb dX9_codeLine_150 rfl hk) ?_
  refine rz_All_c (i := 77) (fun k J hk hJ => rz_aald_ok (pc := 151) hx hb hK dX9_codeLine_151 hk) ?_
  refine rz_All_c (i := 78) (fun k J hk hJ => rz_iload_ok (pc := 152) hx hb dX9_codeLine_152 hk) ?_
  refine rz_All_c (i := 79) (fun k J hk hJ => rz_iload_n_ok (pc := 154) hx hb dX9_codeLine_154 rfl hk) ?_
  refine rz_All_c (i := 80) (fun k J hk hJ => rz_iast_ok (pc := 155) hx hb hK hA dX9_codeLine_155 hk) ?_
  refine rz_All_c (i := 81) (fun k J hk hJ => rz_aload_n_ok (pc := 156) hx hb dX9_codeLine_156 rfl hk) ?_
  refine rz_All_c (i := 82) (fun k J hk hJ => rz_getf_ok (pc := 157) (own := RX9) (ref := "ThreadJudge$Reader") (C := RX9) (T := TX9) (N := 19) (ci := 11) (index := 37) (f := 0) (t := 2) (Ts := Cond.code yX9_codeLine cX9_codeLine 5 (some .boolean) :: rz_TB) hx hb hts rz_in11 ho hK rfl (by decide) rfl (fun _ => rfl) (hw (i := 9) (j := 16) rfl rfl) (fun _ z => z) dX9_codeLine_157 hk) ?_
  refine rz_All_c (i := 83) (fun k J hk hJ => rz_getf_ok (pc := 160) (own := RX9) (ref := "ThreadJudge$Program") (C := RX7) (T := TX7) (N := 22) (ci := 9) (index := 211) (f := 14) (t := 2) (Ts := Cond.code yX9_codeLine cX9_codeLine 5 (some .boolean) :: rz_TB) hx hb hts rz_in9 ho hK rfl (by decide) rfl (fun _ => rfl) (hw (i := 9) (j := 18) rfl rfl) (fun _ z => z) dX9_codeLine_160 hk) ?_
  refine rz_All_c (i := 84) (fun k J hk hJ => rz_iconst_ok (pc := 163) hx hb dX9_codeLine_163 rfl hk) ?_
  refine rz_All_c (i := 85) (fun k J hk hJ => rz_aald_ok (pc := 164) hx hb hK dX9_codeLine_164 hk) ?_
  refine rz_All_c (i := 86) (fun k J hk hJ => rz_iload_ok (pc := 165) hx hb dX9_codeLine_165 hk) ?_
  refine rz_All_c (i := 87) (fun k J hk hJ => rz_iconst_ok (pc := 167) hx hb dX9_codeLine_167 rfl hk) ?_
  refine rz_All_c (i := 88) (fun k J hk hJ => rz_iast_ok (pc := 168) hx hb hK hA dX9_codeLine_168 hk) ?_
  refine rz_All_c (i := 89) (fun k J hk hJ => rz_aload_n_ok (pc := 169) hx hb dX9_codeLine_169 rfl hk) ?_
  refine rz_All_c (i := 90) (fun k J hk hJ => rz_getf_ok (pc := 170) (own := RX9) (ref := "ThreadJudge$Reader") (C := RX9) (T := TX9) (N := 19) (ci := 11) (index := 37) (f := 0) (t := 2) (Ts := Cond.code yX9_codeLine cX9_codeLine 5 (some .boolean) :: rz_TB) hx hb hts rz_in11 ho hK rfl (by decide) rfl (fun _ => rfl) (hw (i := 9) (j := 16) rfl rfl) (fun _ z => z) dX9_codeLine_170 hk) ?_
  refine rz_All_c (i := 91) (fun k J hk hJ => rz_getf_ok (pc := 173) (own := RX9) (ref := "ThreadJudge$Program") (C := RX7) (T := TX7) (N := 22) (ci := 9) (index := 211) (f := 14) (t := 2) (Ts := Cond.code yX9_codeLine cX9_codeLine 5 (some .boolean) :: rz_TB) hx hb hts rz_in9 ho hK rfl (by decide) rfl (fun _ => rfl) (hw (i := 9) (j := 18) rfl rfl) (fun _ z => z) dX9_codeLine_173 hk) ?_
  refine rz_All_c (i := 92) (fun k J hk hJ => rz_bipush_ok (pc := 176) hx hb dX9_codeLine_176 (by decide) hk) ?_
  refine rz_All_c (i := 93) (fun k J hk hJ => rz_aald_ok (pc := 178) hx hb hK dX9_codeLine_178 hk) ?_
  refine rz_All_c (i := 94) (fun k J hk hJ => rz_iload_ok (pc := 179) hx hb dX9_codeLine_179 hk) ?_
  refine rz_All_c (i := 95) (fun k J hk hJ => rz_iconst_ok (pc := 181) hx hb dX9_codeLine_181 rfl hk) ?_
  refine rz_All_c (i := 96) (fun k J hk hJ => rz_iast_ok (pc := 182) hx hb hK hA dX9_codeLine_182 hk) ?_
  refine rz_All_c (i := 97) (fun k J hk hJ => rz_aload_n_ok (pc := 183) hx hb dX9_codeLine_183 rfl hk) ?_
  refine rz_All_c (i := 98) (fun k J hk hJ => rz_getf_ok (pc := 184) (own := RX9) (ref := "ThreadJudge$Reader") (C := RX9) (T := TX9) (N := 19) (ci := 11) (index := 37) (f := 0) (t := 2) (Ts := Cond.code yX9_codeLine cX9_codeLine 5 (some .boolean) :: rz_TB) hx hb hts rz_in11 ho hK rfl (by decide) rfl (fun _ => rfl) (hw (i := 9) (j := 16) rfl rfl) (fun _ z => z) dX9_codeLine_184 hk) ?_
  refine rz_All_c (i := 99) (fun k J hk hJ => rz_getf_ok (pc := 187) (own := RX9) (ref := "ThreadJudge$Program") (C := RX7) (T := TX7) (N := 22) (ci := 9) (index := 211) (f := 14) (t := 2) (Ts := Cond.code yX9_codeLine cX9_codeLine 5 (some .boolean) :: rz_TB) hx hb hts rz_in9 ho hK rfl (by decide) rfl (fun _ => rfl) (hw (i := 9) (j := 18) rfl rfl) (fun _ z => z) dX9_codeLine_187 hk) ?_
  refine rz_All_c (i := 100) (fun k J hk hJ => rz_bipush_ok (pc := 190) hx hb dX9_codeLine_190 (by decide) hk) ?_
  refine rz_All_c (i := 101) (fun k J hk hJ => rz_aald_ok (pc := 192) hx hb hK dX9_codeLine_192 hk) ?_
  refine rz_All_c (i := 102) (fun k J hk hJ => rz_iload_ok (pc := 193) hx hb dX9_codeLine_193 hk) ?_
  refine rz_All_c (i := 103) (fun k J hk hJ => rz_iconst_ok (pc := 195) hx hb dX9_codeLine_195 rfl hk) ?_
  refine rz_All_c (i := 104) (fun k J hk hJ => rz_iast_ok (pc := 196) hx hb hK hA dX9_codeLine_196 hk) ?_
  refine rz_All_c (i := 105) (fun k J hk hJ => rz_aload_n_ok (pc := 197) hx hb dX9_codeLine_197 rfl hk) ?_
  refine rz_All_c (i := 106) (fun k J hk hJ => rz_getf_ok (pc := 198) (own := RX9) (ref := "ThreadJudge$Reader") (C := RX9) (T := TX9) (N := 19) (ci := 11) (index := 37) (f := 0) (t := 2) (Ts := Cond.code yX9_codeLine cX9_codeLine 5 (some .boolean) :: rz_TB) hx hb hts rz_in11 ho hK rfl (by decide) rfl (fun _ => rfl) (hw (i := 9) (j := 16) rfl rfl) (fun _ z => z) dX9_codeLine_198 hk) ?_
  refine rz_All_c (i := 107) (fun k J hk hJ => rz_getf_ok (pc := 201) (own := RX9) (ref := "ThreadJudge$Program") (C := RX7) (T := TX7) (N := 22) (ci := 9) (index := 211) (f := 14) (t := 2) (Ts := Cond.code yX9_codeLine cX9_codeLine 5 (some .boolean) :: rz_TB) hx hb hts rz_in9 ho hK rfl (by decide) rfl (fun _ => rfl) (hw (i := 9) (j := 18) rfl rfl) (fun _ z => z) dX9_codeLine_201 hk) ?_
  refine rz_All_c (i := 108) (fun k J hk hJ => rz_bipush_ok (pc := 204) hx hb dX9_codeLine_204 (by decide) hk) ?_
  refine rz_All_c (i := 109) (fun k J hk hJ => rz_aald_ok (pc := 206) hx hb hK dX9_codeLine_206 hk) ?_
  refine rz_All_c (i := 110) (fun k J hk hJ => rz_iload_ok (pc := 207) hx hb dX9_codeLine_207 hk) ?_
  refine rz_All_c (i := 111) (fun k J hk hJ => rz_iconst_ok (pc := 209) hx hb dX9_codeLine_209 rfl hk) ?_
  refine rz_All_c (i := 112) (fun k J hk hJ => rz_iast_ok (pc := 210) hx hb hK hA dX9_codeLine_210 hk) ?_
  refine rz_All_c (i := 113) (fun k J hk hJ => rz_aload_n_ok (pc := 211) hx hb dX9_codeLine_211 rfl hk) ?_
  refine rz_All_c (i := 114) (fun k J hk hJ => rz_getf_ok (pc := 212) (own := RX9) (ref := "ThreadJudge$Reader") (C := RX9) (T := TX9) (N := 19) (ci := 11) (index := 37) (f := 0) (t := 2) (Ts := Cond.code yX9_codeLine cX9_codeLine 5 (some .boolean) :: rz_TB) hx hb hts rz_in11 ho hK rfl (by decide) rfl (fun _ => rfl) (hw (i := 9) (j := 16) rfl rfl) (fun _ z => z) dX9_codeLine_212 hk) ?_
  refine rz_All_c (i := 115) (fun k J hk hJ => rz_getf_ok (pc := 215) (own := RX9) (ref := "ThreadJudge$Program") (C := RX7) (T := TX7) (N := 22) (ci := 9) (index := 211) (f := 14) (t := 2) (Ts := Cond.code yX9_codeLine cX9_codeLine 5 (some .boolean) :: rz_TB) hx hb hts rz_in9 ho hK rfl (by decide) rfl (fun _ => rfl) (hw (i := 9) (j := 18) rfl rfl) (fun _ z => z) dX9_codeLine_215 hk) ?_
  refine rz_All_c (i := 116) (fun k J hk hJ => rz_bipush_ok (pc := 218) hx hb dX9_codeLine_218 (by decide) hk) ?_
  refine rz_All_c (i := 117) (fun k J hk hJ => rz_aald_ok (pc := 220) hx hb hK dX9_codeLine_220 hk) ?_
  refine rz_All_c (i := 118) (fun k J hk hJ => rz_iload_ok (pc := 221) hx hb dX9_codeLine_221 hk) ?_
  refine rz_All_c (i := 119) (fun k J hk hJ => rz_iconst_ok (pc := 223) hx hb dX9_codeLine_223 rfl hk) ?_
  refine rz_All_c (i := 120) (fun k J hk hJ => rz_iast_ok (pc := 224) hx hb hK hA dX9_codeLine_224 hk) ?_
  refine rz_All_c (i := 121) (fun k J hk hJ => rz_aload_n_ok (pc := 225) hx hb dX9_codeLine_225 rfl hk) ?_
  refine rz_All_c (i := 122) (fun k J hk hJ => rz_dup_ok (pc := 226) hx hb dX9_codeLine_226 hk) ?_
  refine rz_All_c (i := 123) (fun k J hk hJ => rz_getf_ok (pc := 227) (own := RX9) (ref := "ThreadJudge$Reader") (C := RX9) (T := TX9) (N := 19) (ci := 11) (index := 187) (f := 15) (t := 0) (Ts := Cond.code yX9_codeLine cX9_codeLine 5 (some .boolean) :: rz_TB) hx hb hts rz_in11 ho hK rfl (by decide) rfl (fun _ => rfl) (hw (i := 3) (j := 11) rfl rfl) (fun _ z => z) dX9_codeLine_227 hk) ?_
  refine rz_All_c (i := 124) (fun k J hk hJ => rz_iconst_ok (pc := 230) hx hb dX9_codeLine_230 rfl hk) ?_
  refine rz_All_c (i := 125) (fun k J hk hJ => rz_iadd_ok (pc := 231) hx hb dX9_codeLine_231 hk) ?_
  refine rz_All_c (i := 126) (fun k J hk hJ => rz_putf_ok (pc := 232) (own := RX9) (ref := "ThreadJudge$Reader") (C := RX9) (T := TX9) (N := 19) (ci := 11) (index := 187) (f := 15) (t := 0) (Ts := Cond.code yX9_codeLine cX9_codeLine 5 (some .boolean) :: rz_TB) hx hb hts rz_in11 tyX9 tyX9_ok nmX9 ho hK hA rfl (by decide) rfl (rz_UnI _) rfl (tyX9_ok 15 (by decide)) (hw (i := 3) (j := 11) rfl rfl) (fun _ z => z) dX9_codeLine_232 hk) ?_
  refine rz_All_c (i := 127) (fun k J hk hJ => rz_aload_n_ok (pc := 235) hx hb dX9_codeLine_235 rfl hk) ?_
  refine rz_All_c (i := 128) (fun k J hk hJ => rz_iconst_ok (pc := 236) hx hb dX9_codeLine_236 rfl hk) ?_
  refine rz_All_c (i := 129) (fun k J hk hJ => rz_putf_ok (pc := 237) (own := RX9) (ref := "ThreadJudge$Reader") (C := RX9) (T := TX9) (N := 19) (ci := 11) (index := 190) (f := 16) (t := 0) (Ts := Cond.code yX9_codeLine cX9_codeLine 5 (some .boolean) :: rz_TB) hx hb hts rz_in11 tyX9 tyX9_ok nmX9 ho hK hA rfl (by decide) rfl (rz_UnI _) rfl (tyX9_ok 16 (by decide)) (hw (i := 3) (j := 12) rfl rfl) (fun _ z => z) dX9_codeLine_237 hk) ?_
  refine rz_All_c (i := 130) (fun k J hk hJ => rz_iconst_ok (pc := 240) hx hb dX9_codeLine_240 rfl hk) ?_
  refine rz_All_c (i := 131) (fun k J hk hJ => rz_zret_ok (pc := 241) hC dX9_codeLine_241) ?_
  exact trivial
theorem dX9_labelLine_0 : decode cX9_labelLine 0 = .ok (.aload_n 0, 1) := by decide +kernel
theorem dX9_labelLine_1 : decode cX9_labelLine 1 = .ok (.getfield 37, 3) := by decide +kernel
theorem dX9_labelLine_4 : decode cX9_labelLine 4 = .ok (.getfield 285, 3) := by decide +kernel
theorem dX9_labelLine_7 : decode cX9_labelLine 7 = .ok (.istore_n 1, 1) := by decide +kernel
theorem dX9_labelLine_8 : decode cX9_labelLine 8 = .ok (.iload_n 1, 1) := by decide +kernel
theorem dX9_labelLine_9 : decode cX9_labelLine 9 = .ok (.sipush 6100, 3) := by decide +kernel
theorem dX9_labelLine_12 : decode cX9_labelLine 12 = .ok (.if_icmp .lt 5, 3) := by decide +kernel
theorem dX9_labelLine_17 : decode cX9_labelLine 17 = .ok (.aload_n 0, 1) := by decide +kernel
theorem dX9_labelLine_18 : decode cX9_labelLine 18 = .ok (.getfield 37, 3) := by decide +kernel
theorem dX9_labelLine_21 : decode cX9_labelLine 21 = .ok (.getfield 307, 3) := by decide +kernel
theorem dX9_labelLine_24 : decode cX9_labelLine 24 = .ok (.iconst 0, 1) := by decide +kernel
theorem dX9_labelLine_25 : decode cX9_labelLine 25 = .ok (.aaload, 1) := by decide +kernel
theorem dX9_labelLine_26 : decode cX9_labelLine 26 = .ok (.iload_n 1, 1) := by decide +kernel
theorem dX9_labelLine_27 : decode cX9_labelLine 27 = .ok (.aload_n 0, 1) := by decide +kernel
theorem dX9_labelLine_28 : decode cX9_labelLine 28 = .ok (.getfield 34, 3) := by decide +kernel
theorem dX9_labelLine_31 : decode cX9_labelLine 31 = .ok (.aload_n 0, 1) := by decide +kernel
theorem dX9_labelLine_32 : decode cX9_labelLine 32 = .ok (.getfield 187, 3) := by decide +kernel
theorem dX9_labelLine_35 : decode cX9_labelLine 35 = .ok (.iaload, 1) := by decide +kernel
theorem dX9_labelLine_36 : decode cX9_labelLine 36 = .ok (.iastore, 1) := by decide +kernel
theorem dX9_labelLine_37 : decode cX9_labelLine 37 = .ok (.aload_n 0, 1) := by decide +kernel
theorem dX9_labelLine_38 : decode cX9_labelLine 38 = .ok (.getfield 37, 3) := by decide +kernel
theorem dX9_labelLine_41 : decode cX9_labelLine 41 = .ok (.getfield 307, 3) := by decide +kernel
theorem dX9_labelLine_44 : decode cX9_labelLine 44 = .ok (.iconst 1, 1) := by decide +kernel
theorem dX9_labelLine_45 : decode cX9_labelLine 45 = .ok (.aaload, 1) := by decide +kernel
theorem dX9_labelLine_46 : decode cX9_labelLine 46 = .ok (.iload_n 1, 1) := by decide +kernel
theorem dX9_labelLine_47 : decode cX9_labelLine 47 = .ok (.aload_n 0, 1) := by decide +kernel
theorem dX9_labelLine_48 : decode cX9_labelLine 48 = .ok (.invokevirtual 242, 3) := by decide +kernel
theorem dX9_labelLine_51 : decode cX9_labelLine 51 = .ok (.iastore, 1) := by decide +kernel
theorem dX9_labelLine_52 : decode cX9_labelLine 52 = .ok (.aload_n 0, 1) := by decide +kernel
theorem dX9_labelLine_53 : decode cX9_labelLine 53 = .ok (.getfield 37, 3) := by decide +kernel
theorem dX9_labelLine_56 : decode cX9_labelLine 56 = .ok (.getfield 307, 3) := by decide +kernel
theorem dX9_labelLine_59 : decode cX9_labelLine 59 = .ok (.iconst 2, 1) := by decide +kernel
theorem dX9_labelLine_60 : decode cX9_labelLine 60 = .ok (.aaload, 1) := by decide +kernel
theorem dX9_labelLine_61 : decode cX9_labelLine 61 = .ok (.iload_n 1, 1) := by decide +kernel
theorem dX9_labelLine_62 : decode cX9_labelLine 62 = .ok (.aload_n 0, 1) := by decide +kernel
theorem dX9_labelLine_63 : decode cX9_labelLine 63 = .ok (.getfield 37, 3) := by decide +kernel
theorem dX9_labelLine_66 : decode cX9_labelLine 66 = .ok (.getfield 206, 3) := by decide +kernel
theorem dX9_labelLine_69 : decode cX9_labelLine 69 = .ok (.iastore, 1) := by decide +kernel
theorem dX9_labelLine_70 : decode cX9_labelLine 70 = .ok (.aload_n 0, 1) := by decide +kernel
theorem dX9_labelLine_71 : decode cX9_labelLine 71 = .ok (.getfield 37, 3) := by decide +kernel
theorem dX9_labelLine_74 : decode cX9_labelLine 74 = .ok (.dup, 1) := by decide +kernel
theorem dX9_labelLine_75 : decode cX9_labelLine 75 = .ok (.getfield 285, 3) := by decide +kernel
theorem dX9_labelLine_78 : decode cX9_labelLine 78 = .ok (.iconst 1, 1) := by decide +kernel
theorem dX9_labelLine_79 : decode cX9_labelLine 79 = .ok (.iadd, 1) := by decide +kernel
theorem dX9_labelLine_80 : decode cX9_labelLine 80 = .ok (.putfield 285, 3) := by decide +kernel
theorem dX9_labelLine_83 : decode cX9_labelLine 83 = .ok (.aload_n 0, 1) := by decide +kernel
theorem dX9_labelLine_84 : decode cX9_labelLine 84 = .ok (.getfield 37, 3) := by decide +kernel
theorem dX9_labelLine_87 : decode cX9_labelLine 87 = .ok (.getfield 282, 3) := by decide +kernel
theorem dX9_labelLine_90 : decode cX9_labelLine 90 = .ok (.bipush 9, 2) := by decide +kernel
theorem dX9_labelLine_92 : decode cX9_labelLine 92 = .ok (.aaload, 1) := by decide +kernel
theorem dX9_labelLine_93 : decode cX9_labelLine 93 = .ok (.aload_n 0, 1) := by decide +kernel
theorem dX9_labelLine_94 : decode cX9_labelLine 94 = .ok (.getfield 37, 3) := by decide +kernel
theorem dX9_labelLine_97 : decode cX9_labelLine 97 = .ok (.getfield 246, 3) := by decide +kernel
theorem dX9_labelLine_100 : decode cX9_labelLine 100 = .ok (.iconst 1, 1) := by decide +kernel
theorem dX9_labelLine_101 : decode cX9_labelLine 101 = .ok (.isub, 1) := by decide +kernel
theorem dX9_labelLine_102 : decode cX9_labelLine 102 = .ok (.dup2, 1) := by decide +kernel
theorem dX9_labelLine_103 : decode cX9_labelLine 103 = .ok (.iaload, 1) := by decide +kernel
theorem dX9_labelLine_104 : decode cX9_labelLine 104 = .ok (.iconst 1, 1) := by decide +kernel
theorem dX9_labelLine_105 : decode cX9_labelLine 105 = .ok (.iadd, 1) := by decide +kernel
theorem dX9_labelLine_106 : decode cX9_labelLine 106 = .ok (.iastore, 1) := by decide +kernel
theorem dX9_labelLine_107 : decode cX9_labelLine 107 = .ok (.aload_n 0, 1) := by decide +kernel
theorem dX9_labelLine_108 : decode cX9_labelLine 108 = .ok (.dup, 1) := by decide +kernel
theorem dX9_labelLine_109 : decode cX9_labelLine 109 = .ok (.getfield 187, 3) := by decide +kernel
theorem dX9_labelLine_112 : decode cX9_labelLine 112 = .ok (.iconst 1, 1) := by decide +kernel
theorem dX9_labelLine_113 : decode cX9_labelLine 113 = .ok (.iadd, 1) := by decide +kernel
theorem dX9_labelLine_114 : decode cX9_labelLine 114 = .ok (.putfield 187, 3) := by decide +kernel
theorem dX9_labelLine_117 : decode cX9_labelLine 117 = .ok (.aload_n 0, 1) := by decide +kernel
theorem dX9_labelLine_118 : decode cX9_labelLine 118 = .ok (.bipush 58, 2) := by decide +kernel
theorem dX9_labelLine_120 : decode cX9_labelLine 120 = .ok (.invokevirtual 223, 3) := by decide +kernel
theorem dX9_labelLine_123 : decode cX9_labelLine 123 = .ok (.ireturn, 1) := by decide +kernel
def rpX9_labelLine : List Nat := [0, 1, 4, 7, 8, 9, 12, 15, 17, 18, 21, 24, 25, 26, 27, 28, 31, 32, 35, 36, 37, 38, 41, 44, 45, 46, 47, 48, 51, 52, 53, 56, 59, 60, 61, 62, 63, 66, 69, 70, 71, 74, 75, 78, 79, 80, 83, 84, 87, 90, 92, 93, 94, 97, 100, 101, 102, 103, 104, 105, 106, 107, 108, 109, 112, 113, 114, 117, 118, 120, 123]
noncomputable def rcX9_labelLine : List rz_B := [rz_aload 0, rz_getf (Nat.add (Nat.mul 256 11) 1) 0 rz_r, rz_getf (Nat.add (Nat.mul 256 9) 1) 16 rz_i, rz_istore 1, rz_iload 1, rz_cst 6100, rz_icmplt 8, rz_no, rz_aload 0, rz_getf (Nat.add (Nat.mul 256 11) 1) 0 rz_r, rz_getf (Nat.add (Nat.mul 256 9) 1) 17 rz_r, rz_cst 0, rz_aald, rz_iload 1, rz_aload 0, rz_getf (Nat.add (Nat.mul 256 11) 1) 13 rz_r, rz_aload 0, rz_getf (Nat.add (Nat.mul 256 11) 1) 15 rz_i, rz_iald, rz_iast, rz_aload 0, rz_getf (Nat.add (Nat.mul 256 11) 1) 0 rz_r, rz_getf (Nat.add (Nat.mul 256 9) 1) 17 rz_r, rz_cst 1, rz_aald, rz_iload 1, rz_aload 0, rz_callV 0 (Nat.add (Nat.mul 256 11) 1) rgX9_spot, rz_iast, rz_aload 0, rz_getf (Nat.add (Nat.mul 256 11) 1) 0 rz_r, rz_getf (Nat.add (Nat.mul 256 9) 1) 17 rz_r, rz_cst 2, rz_aald, rz_iload 1, rz_aload 0, rz_getf (Nat.add (Nat.mul 256 11) 1) 0 rz_r, rz_getf (Nat.add (Nat.mul 256 9) 1) 13 rz_i, rz_iast, rz_aload 0, rz_getf (Nat.add (Nat.mul 256 11) 1) 0 rz_r, rz_dup, rz_getf (Nat.add (Nat.mul 256 9) 1) 16 rz_i, rz_cst 1, rz_iadd, rz_putf (Nat.add (Nat.mul 256 9) 1) 16 rz_unI, rz_aload 0, rz_getf (Nat.add (Nat.mul 256 11) 1) 0 rz_r, rz_getf (Nat.add (Nat.mul 256 9) 1) 10 rz_r, rz_cst 9, rz_aald, rz_aload 0, rz_getf (Nat.add (Nat.mul 256 11) 1) 0 rz_r, rz_getf (Nat.add (Nat.mul 256 9) 1) 9 rz_i, rz_cst 1, rz_isub, rz_dup2, rz_iald, rz_cst 1, rz_iadd, rz_iast, rz_aload 0, rz_dup, rz_getf (Nat.add (Nat.mul 256 11) 1) 15 rz_i, rz_cst 1, rz_iadd, rz_putf (Nat.add (Nat.mul 256 11) 1) 15 rz_unI, rz_aload 0, rz_cst 58, rz_callV 1 (Nat.add (Nat.mul 256 11) 1) rgX9_takeSign, rz_zret]
noncomputable def rgX9_labelLine : rz_L → rz_M → rz_Z → Bool := rz_go rcX9_labelLine 2 1000000
def rrX9_labelLine : Room := { frames := 1, cells := 0, slots := 0, locals := 21 }
theorem rmX9_labelLine (l : Launch) {G : rz_G} (hG : rz_Gd G) (vs : rz_L) (M : rz_M) (Z : rz_Z) (hn : vs.length = 1) (h : rgX9_labelLine vs M Z = true) : Met l yX9_labelLine (Cond.code yX9_labelLine cX9_labelLine 2 (some .boolean) :: rz_TB) rrX9_labelLine (rz_Pre G vs M) (rz_Qi G M.2 Z) 0 0 (fun q => rz_b G ≤ q) := by
  obtain ⟨D, tc, ad, b, xs, rfl⟩ := id hG
  refine rz_body (pcs := rpX9_labelLine) (by decide) rfl (by rw [hn]; decide) h ?_
  intro p e R s m args below meth c hC
  obtain ⟨hx, hb, hml, hr, hlk, ho, hts, hKn, hRm⟩ := id hC
  obtain ⟨hK, hA, hSt⟩ := id hKn
  have hw : ∀ {i j : Nat} {ws : List Cond} {w : Cond}, rz_WW[i]? = some ws → ws[j]? = some w → w.before args s = true := fun h1 h2 => hts _ (List.mem_cons_of_mem _ (rz_mem h1 h2))
  refine rz_All_c (i := 0) (fun k J hk hJ => rz_aload_n_ok (pc := 0) hx hb dX9_labelLine_0 rfl hk) ?_
  refine rz_All_c (i := 1) (fun k J hk hJ => rz_getf_ok (pc := 1) (own := RX9) (ref := "ThreadJudge$Reader") (C := RX9) (T := TX9) (N := 19) (ci := 11) (index := 37) (f := 0) (t := 2) (Ts := Cond.code yX9_labelLine cX9_labelLine 2 (some .boolean) :: rz_TB) hx hb hts rz_in11 ho hK rfl (by decide) rfl (fun _ => rfl) (hw (i := 9) (j := 16) rfl rfl) (fun _ z => z) dX9_labelLine_1 hk) ?_
  refine rz_All_c (i := 2) (fun k J hk hJ => rz_getf_ok (pc := 4) (own := RX9) (ref := "ThreadJudge$Program") (C := RX7) (T := TX7) (N := 22) (ci := 9) (index := 285) (f := 16) (t := 0) (Ts := Cond.code yX9_labelLine cX9_labelLine 2 (some .boolean) :: rz_TB) hx hb hts rz_in9 ho hK rfl (by decide) rfl (fun _ => rfl) (hw (i := 12) (j := 15) rfl rfl) (fun _ z => z) dX9_labelLine_4 hk) ?_
  refine rz_All_c (i := 3) (fun k J hk hJ => rz_istore_n_ok (pc := 7) hx hb dX9_labelLine_7 rfl hk) ?_
  refine rz_All_c (i := 4) (fun k J hk hJ => rz_iload_n_ok (pc := 8) hx hb dX9_labelLine_8 rfl hk) ?_
  refine rz_All_c (i := 5) (fun k J hk hJ => rz_sipush_ok (pc := 9) hx hb dX9_labelLine_9 (by decide) hk) ?_
  refine rz_All_c (i := 6) (fun k J hk hJ => rz_icmplt_ok (pc := 12) hx hb dX9_labelLine_12 rfl hk (hJ 8)) ?_
  refine rz_All_c (i := 7) (fun k J hk hJ => rz_no_ok) ?_
  refine rz_All_c (i := 8) (fun k J hk hJ => rz_aload_n_ok (pc := 17) hx hb dX9_labelLine_17 rfl hk) ?_
  refine rz_All_c (i := 9) (fun k J hk hJ => rz_getf_ok (pc := 18) (own := RX9) (ref := "ThreadJudge$Reader") (C := RX9) (T := TX9) (N := 19) (ci := 11) (index := 37) (f := 0) (t := 2) (Ts := Cond.code yX9_labelLine cX9_labelLine 2 (some .boolean) :: rz_TB) hx hb hts rz_in11 ho hK rfl (by decide) rfl (fun _ => rfl) (hw (i := 9) (j := 16) rfl rfl) (fun _ z => z) dX9_labelLine_18 hk) ?_
  refine rz_All_c (i := 10) (fun k J hk hJ => rz_getf_ok (pc := 21) (own := RX9) (ref := "ThreadJudge$Program") (C := RX7) (T := TX7) (N := 22) (ci := 9) (index := 307) (f := 17) (t := 2) (Ts := Cond.code yX9_labelLine cX9_labelLine 2 (some .boolean) :: rz_TB) hx hb hts rz_in9 ho hK rfl (by decide) rfl (fun _ => rfl) (hw (i := 13) (j := 6) rfl rfl) (fun _ z => z) dX9_labelLine_21 hk) ?_
  refine rz_All_c (i := 11) (fun k J hk hJ => rz_iconst_ok (pc := 24) hx hb dX9_labelLine_24 rfl hk) ?_
  refine rz_All_c (i := 12) (fun k J hk hJ => rz_aald_ok (pc := 25) hx hb hK dX9_labelLine_25 hk) ?_
  refine rz_All_c (i := 13) (fun k J hk hJ => rz_iload_n_ok (pc := 26) hx hb dX9_labelLine_26 rfl hk) ?_
  refine rz_All_c (i := 14) (fun k J hk hJ => rz_aload_n_ok (pc := 27) hx hb dX9_labelLine_27 rfl hk) ?_
  refine rz_All_c (i := 15) (fun k J hk hJ => rz_getf_ok (pc := 28) (own := RX9) (ref := "ThreadJudge$Reader") (C := RX9) (T := TX9) (N := 19) (ci := 11) (index := 34) (f := 13) (t := 2) (Ts := Cond.code yX9_labelLine cX9_labelLine 2 (some .boolean) :: rz_TB) hx hb hts rz_in11 ho hK rfl (by decide) rfl (fun _ => rfl) (hw (i := 5) (j := 2) rfl rfl) (fun _ z => z) dX9_labelLine_28 hk) ?_
  refine rz_All_c (i := 16) (fun k J hk hJ => rz_aload_n_ok (pc := 31) hx hb dX9_labelLine_31 rfl hk) ?_
  refine rz_All_c (i := 17) (fun k J hk hJ => rz_getf_ok (pc := 32) (own := RX9) (ref := "ThreadJudge$Reader") (C := RX9) (T := TX9) (N := 19) (ci := 11) (index := 187) (f := 15) (t := 0) (Ts := Cond.code yX9_labelLine cX9_labelLine 2 (some .boolean) :: rz_TB) hx hb hts rz_in11 ho hK rfl (by decide) rfl (fun _ => rfl) (hw (i := 3) (j := 11) rfl rfl) (fun _ z => z) dX9_labelLine_32 hk) ?_
  refine rz_All_c (i := 18) (fun k J hk hJ => rz_iald_ok (pc := 35) hx hb hK dX9_labelLine_35 hk) ?_
  refine rz_All_c (i := 19) (fun k J hk hJ => rz_iast_ok (pc := 36) hx hb hK hA dX9_labelLine_36 hk) ?_
  refine rz_All_c (i := 20) (fun k J hk hJ => rz_aload_n_ok (pc := 37) hx hb dX9_labelLine_37 rfl hk) ?_
  refine rz_All_c (i := 21) (fun k J hk hJ => rz_getf_ok (pc := 38) (own := RX9) (ref := "ThreadJudge$Reader") (C := RX9) (T := TX9) (N := 19) (ci := 11) (index := 37) (f := 0) (t := 2) (Ts := Cond.code yX9_labelLine cX9_labelLine 2 (some .boolean) :: rz_TB) hx hb hts rz_in11 ho hK rfl (by decide) rfl (fun _ => rfl) (hw (i := 9) (j := 16) rfl rfl) (fun _ z => z) dX9_labelLine_38 hk) ?_
  refine rz_All_c (i := 22) (fun k J hk hJ => rz_getf_ok (pc := 41) (own := RX9) (ref := "ThreadJudge$Program") (C := RX7) (T := TX7) (N := 22) (ci := 9) (index := 307) (f := 17) (t := 2) (Ts := Cond.code yX9_labelLine cX9_labelLine 2 (some .boolean) :: rz_TB) hx hb hts rz_in9 ho hK rfl (by decide) rfl (fun _ => rfl) (hw (i := 13) (j := 6) rfl rfl) (fun _ z => z) dX9_labelLine_41 hk) ?_
  refine rz_All_c (i := 23) (fun k J hk hJ => rz_iconst_ok (pc := 44) hx hb dX9_labelLine_44 rfl hk) ?_
  refine rz_All_c (i := 24) (fun k J hk hJ => rz_aald_ok (pc := 45) hx hb hK dX9_labelLine_45 hk) ?_
  refine rz_All_c (i := 25) (fun k J hk hJ => rz_iload_n_ok (pc := 46) hx hb dX9_labelLine_46 rfl hk) ?_
  refine rz_All_c (i := 26) (fun k J hk hJ => rz_aload_n_ok (pc := 47) hx hb dX9_labelLine_47 rfl hk) ?_
  refine rz_All_c (i := 27) (fun k J hk hJ => rz_callV_ok (pc := 48) (own := RX9) (C := RX9) (T0 := TX9) (N0 := 19) hC rfl (rmX9_spot l hG) (rz_cwV 0 hC rz_good (rz_mem (i := 10) (j := 14) rfl rfl) (rz_mem (i := 10) (j := 15) rfl rfl) (rz_mem (i := 10) (j := 16) rfl rfl) (rz_mem (i := 1) (j := 21) rfl rfl) (rz_mem (i := 10) (j := 17) rfl rfl) ⟨rfl, by decide, by decide, by decide +kernel⟩ rfl rfl ⟨by decide, by decide⟩) rfl dX9_labelLine_48 hk) ?_
  refine rz_All_c (i := 28) (fun k J hk hJ => rz_iast_ok (pc := 51) hx hb hK hA dX9_labelLine_51 hk) ?_
  refine rz_All_c (i := 29) (fun k J hk hJ => rz_aload_n_ok (pc := 52) hx hb dX9_labelLine_52 rfl hk) ?_
  refine rz_All_c (i := 30) (fun k J hk hJ => rz_getf_ok (pc := 53) (own := RX9) (ref := "ThreadJudge$Reader") (C := RX9) (T := TX9) (N := 19) (ci := 11) (index := 37) (f := 0) (t := 2) (Ts := Cond.code yX9_labelLine cX9_labelLine 2 (some .boolean) :: rz_TB) hx hb hts rz_in11 ho hK rfl (by decide) rfl (fun _ => rfl) (hw (i := 9) (j := 16) rfl rfl) (fun _ z => z) dX9_labelLine_53 hk) ?_
  refine rz_All_c (i := 31) (fun k J hk hJ => rz_getf_ok (pc := 56) (own := RX9) (ref := "ThreadJudge$Program") (C := RX7) (T := TX7) (N := 22) (ci := 9) (index := 307) (f := 17) (t := 2) (Ts := Cond.code yX9_labelLine cX9_labelLine 2 (some .boolean) :: rz_TB) hx hb hts rz_in9 ho hK rfl (by decide) rfl (fun _ => rfl) (hw (i := 13) (j := 6) rfl rfl) (fun _ z => z) dX9_labelLine_56 hk) ?_
  refine rz_All_c (i := 32) (fun k J hk hJ => rz_iconst_ok (pc := 59) hx hb dX9_labelLine_59 rfl hk) ?_
  refine rz_All_c (i := 33) (fun k J hk hJ => rz_aald_ok (pc := 60) hx hb hK dX9_labelLine_60 hk) ?_
  refine rz_All_c (i := 34) (fun k J hk hJ => rz_iload_n_ok (pc := 61) hx hb dX9_labelLine_61 rfl hk) ?_
  refine rz_All_c (i := 35) (fun k J hk hJ => rz_aload_n_ok (pc := 62) hx hb dX9_labelLine_62 rfl hk) ?_
  refine rz_All_c (i := 36) (fun k J hk hJ => rz_getf_ok (pc := 63) (own := RX9) (ref := "ThreadJudge$Reader") (C := RX9) (T := TX9) (N := 19) (ci := 11) (index := 37) (f := 0) (t := 2) (Ts := Cond.code yX9_labelLine cX9_labelLine 2 (some .boolean) :: rz_TB) hx hb hts rz_in11 ho hK rfl (by decide) rfl (fun _ => rfl) (hw (i := 9) (j := 16) rfl rfl) (fun _ z => z) dX9_labelLine_63 hk) ?_
  refine rz_All_c (i := 37) (fun k J hk hJ => rz_getf_ok (pc := 66) (own := RX9) (ref := "ThreadJudge$Program") (C := RX7) (T := TX7) (N := 22) (ci := 9) (index := 206) (f := 13) (t := 0) (Ts := Cond.code yX9_labelLine cX9_labelLine 2 (some .boolean) :: rz_TB) hx hb hts rz_in9 ho hK rfl (by decide) rfl (fun _ => rfl) (hw (i := 9) (j := 17) rfl rfl) (fun _ z => z) dX9_labelLine_66 hk) ?_
  refine rz_All_c (i := 38) (fun k J hk hJ => rz_iast_ok (pc := 69) hx hb hK hA dX9_labelLine_69 hk) ?_
  refine rz_All_c (i := 39) (fun k J hk hJ => rz_aload_n_ok (pc := 70) hx hb dX9_labelLine_70 rfl hk) ?_
  refine rz_All_c (i := 40) (fun k J hk hJ => rz_getf_ok (pc := 71) (own := RX9) (ref := "ThreadJudge$Reader") (C := RX9) (T := TX9) (N := 19) (ci := 11) (index := 37) (f := 0) (t := 2) (Ts := Cond.code yX9_labelLine cX9_labelLine 2 (some .boolean) :: rz_TB) hx hb hts rz_in11 ho hK rfl (by decide) rfl (fun _ => rfl) (hw (i := 9) (j := 16) rfl rfl) (fun _ z => z) dX9_labelLine_71 hk) ?_
  refine rz_All_c (i := 41) (fun k J hk hJ => rz_dup_ok (pc := 74) hx hb dX9_labelLine_74 hk) ?_
  refine rz_All_c (i := 42) (fun k J hk hJ => rz_getf_ok (pc := 75) (own := RX9) (ref := "ThreadJudge$Program") (C := RX7) (T := TX7) (N := 22) (ci := 9) (index := 285) (f := 16) (t := 0) (Ts := Cond.code yX9_labelLine cX9_labelLine 2 (some .boolean) :: rz_TB) hx hb hts rz_in9 ho hK rfl (by decide) rfl (fun _ => rfl) (hw (i := 12) (j := 15) rfl rfl) (fun _ z => z) dX9_labelLine_75 hk) ?_
  refine rz_All_c (i := 43) (fun k J hk hJ => rz_iconst_ok (pc := 78) hx hb dX9_labelLine_78 rfl hk) ?_
  refine rz_All_c (i := 44) (fun k J hk hJ => rz_iadd_ok (pc := 79) hx hb dX9_labelLine_79 hk) ?_
  refine rz_All_c (i := 45) (fun k J hk hJ => rz_putf_ok (pc := 80) (own := RX9) (ref := "ThreadJudge$Program") (C := RX7) (T := TX7) (N := 22) (ci := 9) (index := 285) (f := 16) (t := 0) (Ts := Cond.code yX9_labelLine cX9_labelLine 2 (some .boolean) :: rz_TB) hx hb hts rz_in9 tyX7 tyX7_ok nmX7 ho hK hA rfl (by decide) rfl (rz_UnI _) rfl (tyX7_ok 16 (by decide)) (hw (i := 12) (j := 15) rfl rfl) (fun _ z => z) dX9_labelLine_80 hk) ?_
  refine rz_All_c (i := 46) (fun k J hk hJ => rz_aload_n_ok (pc := 83) hx hb dX9_labelLine_83 rfl hk) ?_
  refine rz_All_c (i := 47) (fun k J hk hJ => rz_getf_ok (pc := 84) (own := RX9) (ref := "ThreadJudge$Reader") (C := RX9) (T := TX9) (N := 19) (ci := 11) (index := 37) (f := 0) (t := 2) (Ts := Cond.code yX9_labelLine cX9_labelLine 2 (some .boolean) :: rz_TB) hx hb hts rz_in11 ho hK rfl (by decide) rfl (fun _ => rfl) (hw (i := 9) (j := 16) rfl rfl) (fun _ z => z) dX9_labelLine_84 hk) ?_
  refine rz_All_c (i := 48) (fun k J hk hJ => rz_getf_ok (pc := 87) (own := RX9) (ref := "ThreadJudge$Program") (C := RX7) (T := TX7) (N := 22) (ci := 9) (index := 282) (f := 10) (t := 2) (Ts := Cond.code yX9_labelLine cX9_labelLine 2 (some .boolean) :: rz_TB) hx hb hts rz_in9 ho hK rfl (by decide) rfl (fun _ => rfl) (hw (i := 12) (j := 14) rfl rfl) (fun _ z => z) dX9_labelLine_87 hk) ?_
  refine rz_All_c (i := 49) (fun k J hk hJ => rz_bipush_ok (pc := 90) hx hb dX9_labelLine_90 (by decide) hk) ?_
  refine rz_All_c (i := 50) (fun k J hk hJ => rz_aald_ok (pc := 92) hx hb hK dX9_labelLine_92 hk) ?_
  refine rz_All_c (i := 51) (fun k J hk hJ => rz_aload_n_ok (pc := 93) hx hb dX9_labelLine_93 rfl hk) ?_
  refine rz_All_c (i := 52) (fun k J hk hJ => rz_getf_ok (pc := 94) (own := RX9) (ref := "ThreadJudge$Reader") (C := RX9) (T := TX9) (N := 19) (ci := 11) (index := 37) (f := 0) (t := 2) (Ts := Cond.code yX9_labelLine cX9_labelLine 2 (some .boolean) :: rz_TB) hx hb hts rz_in11 ho hK rfl (by decide) rfl (fun _ => rfl) (hw (i := 9) (j := 16) rfl rfl) (fun _ z => z) dX9_labelLine_94 hk) ?_
  refine rz_All_c (i := 53) (fun k J hk hJ => rz_getf_ok (pc := 97) (own := RX9) (ref := "ThreadJudge$Program") (C := RX7) (T := TX7) (N := 22) (ci := 9) (index := 246) (f := 9) (t := 0) (Ts := Cond.code yX9_labelLine cX9_labelLine 2 (some .boolean) :: rz_TB) hx hb hts rz_in9 ho hK rfl (by decide) rfl (fun _ => rfl) (hw (i := 10) (j := 1) rfl rfl) (fun _ z => z) dX9_labelLine_97 hk) ?_
  refine rz_All_c (i := 54) (fun k J hk hJ => rz_iconst_ok (pc := 100) hx hb dX9_labelLine_100 rfl hk) ?_
  refine rz_All_c (i := 55) (fun k J hk hJ => rz_isub_ok (pc := 101) hx hb dX9_labelLine_101 hk) ?_
  refine rz_All_c (i := 56) (fun k J hk hJ => rz_dup2_ok (pc := 102) hx hb dX9_labelLine_102 hk) ?_
  refine rz_All_c (i := 57) (fun k J hk hJ => rz_iald_ok (pc := 103) hx hb hK dX9_labelLine_103 hk) ?_
  refine rz_All_c (i := 58) (fun k J hk hJ => rz_iconst_ok (pc := 104) hx hb dX9_labelLine_104 rfl hk) ?_
  refine rz_All_c (i := 59) (fun k J hk hJ => rz_iadd_ok (pc := 105) hx hb dX9_labelLine_105 hk) ?_
  refine rz_All_c (i := 60) (fun k J hk hJ => rz_iast_ok (pc := 106) hx hb hK hA dX9_labelLine_106 hk) ?_
  refine rz_All_c (i := 61) (fun k J hk hJ => rz_aload_n_ok (pc := 107) hx hb dX9_labelLine_107 rfl hk) ?_
  refine rz_All_c (i := 62) (fun k J hk hJ => rz_dup_ok (pc := 108) hx hb dX9_labelLine_108 hk) ?_
  refine rz_All_c (i := 63) (fun k J hk hJ => rz_getf_ok (pc := 109) (own := RX9) (ref := "ThreadJudge$Reader") (C := RX9) (T := TX9) (N := 19) (ci := 11) (index := 187) (f := 15) (t := 0) (Ts := Cond.code yX9_labelLine cX9_labelLine 2 (some .boolean) :: rz_TB) hx hb hts rz_in11 ho hK rfl (by decide) rfl (fun _ => rfl) (hw (i := 3) (j := 11) rfl rfl) (fun _ z => z) dX9_labelLine_109 hk) ?_
  refine rz_All_c (i := 64) (fun k J hk hJ => rz_iconst_ok (pc := 112) hx hb dX9_labelLine_112 rfl hk) ?_
  refine rz_All_c (i := 65) (fun k J hk hJ => rz_iadd_ok (pc := 113) hx hb dX9_labelLine_113 hk) ?_
  refine rz_All_c (i := 66) (fun k J hk hJ => rz_putf_ok (pc := 114) (own := RX9) (ref := "ThreadJudge$Reader") (C := RX9) (T := TX9) (N := 19) (ci := 11) (index := 187) (f := 15) (t := 0) (Ts := Cond.code yX9_labelLine cX9_labelLine 2 (some .boolean) :: rz_TB) hx hb hts rz_in11 tyX9 tyX9_ok nmX9 ho hK hA rfl (by decide) rfl (rz_UnI _) rfl (tyX9_ok 15 (by decide)) (hw (i := 3) (j := 11) rfl rfl) (fun _ z => z) dX9_labelLine_114 hk) ?_
  refine rz_All_c (i := 67) (fun k J hk hJ => rz_aload_n_ok (pc := 117) hx hb dX9_labelLine_117 rfl hk) ?_
  refine rz_All_c (i := 68) (fun k J hk hJ => rz_bipush_ok (pc := 118) hx hb dX9_labelLine_118 (by decide) hk) ?_
  refine rz_All_c (i := 69) (fun k J hk hJ => rz_callV_ok (pc := 120) (own := RX9) (C := RX9) (T0 := TX9) (N0 := 19) hC rfl (rmX9_takeSign l hG) (rz_cwV 1 hC rz_good (rz_mem (i := 11) (j := 8) rfl rfl) (rz_mem (i := 11) (j := 9) rfl rfl) (rz_mem (i := 11) (j := 10) rfl rfl) (rz_mem (i := 1) (j := 21) rfl rfl) (rz_mem (i := 11) (j := 11) rfl rfl) ⟨rfl, by decide, by decide, by decide +kernel⟩ rfl rfl ⟨by decide, by decide⟩) rfl dX9_labelLine_120 hk) ?_
  refine rz_All_c (i := 70) (fun k J hk hJ => rz_zret_ok (pc := 123) hC dX9_labelLine_123) ?_
  exact trivial
theorem dX9_line_0 : decode cX9_line 0 = .ok (.aload_n 0, 1) := by decide +kernel
theorem dX9_line_1 : decode cX9_line 1 = .ok (.bipush 125, 2) := by decide +kernel
theorem dX9_line_3 : decode cX9_line 3 = .ok (.invokevirtual 258, 3) := by decide +kernel
theorem dX9_line_6 : decode cX9_line 6 = .ok (.ifCond .eq 20, 3) := by decide +kernel
theorem dX9_line_9 : decode cX9_line 9 = .ok (.aload_n 0, 1) := by decide +kernel
theorem dX9_line_10 : decode cX9_line 10 = .ok (.dup, 1) := by decide +kernel
theorem dX9_line_11 : decode cX9_line 11 = .ok (.getfield 187, 3) := by decide +kernel
theorem dX9_line_14 : decode cX9_line 14 = .ok (.iconst 1, 1) := by decide +kernel
theorem dX9_line_15 : decode cX9_line 15 = .ok (.iadd, 1) := by decide +kernel
theorem dX9_line_16 : decode cX9_line 16 = .ok (.putfield 187, 3) := by decide +kernel
theorem dX9_line_19 : decode cX9_line 19 = .ok (.aload_n 0, 1) := by decide +kernel
theorem dX9_line_20 : decode cX9_line 20 = .ok (.iconst 1, 1) := by decide +kernel
theorem dX9_line_21 : decode cX9_line 21 = .ok (.putfield 190, 3) := by decide +kernel
theorem dX9_line_24 : decode cX9_line 24 = .ok (.iconst 1, 1) := by decide +kernel
theorem dX9_line_25 : decode cX9_line 25 = .ok (.ireturn, 1) := by decide +kernel
theorem dX9_line_26 : decode cX9_line 26 = .ok (.aload_n 0, 1) := by decide +kernel
theorem dX9_line_27 : decode cX9_line 27 = .ok (.invokevirtual 230, 3) := by decide +kernel
theorem dX9_line_30 : decode cX9_line 30 = .ok (.ifCond .eq 8, 3) := by decide +kernel
theorem dX9_line_33 : decode cX9_line 33 = .ok (.aload_n 0, 1) := by decide +kernel
theorem dX9_line_34 : decode cX9_line 34 = .ok (.invokevirtual 298, 3) := by decide +kernel
theorem dX9_line_37 : decode cX9_line 37 = .ok (.ireturn, 1) := by decide +kernel
theorem dX9_line_38 : decode cX9_line 38 = .ok (.aload_n 0, 1) := by decide +kernel
theorem dX9_line_39 : decode cX9_line 39 = .ok (.bipush 72, 2) := by decide +kernel
theorem dX9_line_41 : decode cX9_line 41 = .ok (.invokevirtual 226, 3) := by decide +kernel
theorem dX9_line_44 : decode cX9_line 44 = .ok (.ifCond .eq 8, 3) := by decide +kernel
theorem dX9_line_52 : decode cX9_line 52 = .ok (.aload_n 0, 1) := by decide +kernel
theorem dX9_line_53 : decode cX9_line 53 = .ok (.getfield 28, 3) := by decide +kernel
theorem dX9_line_56 : decode cX9_line 56 = .ok (.aload_n 0, 1) := by decide +kernel
theorem dX9_line_57 : decode cX9_line 57 = .ok (.getfield 187, 3) := by decide +kernel
theorem dX9_line_60 : decode cX9_line 60 = .ok (.iaload, 1) := by decide +kernel
theorem dX9_line_61 : decode cX9_line 61 = .ok (.iconst 1, 1) := by decide +kernel
theorem dX9_line_62 : decode cX9_line 62 = .ok (.if_icmp .ne 37, 3) := by decide +kernel
theorem dX9_line_65 : decode cX9_line 65 = .ok (.aload_n 0, 1) := by decide +kernel
theorem dX9_line_66 : decode cX9_line 66 = .ok (.getfield 34, 3) := by decide +kernel
theorem dX9_line_69 : decode cX9_line 69 = .ok (.aload_n 0, 1) := by decide +kernel
theorem dX9_line_70 : decode cX9_line 70 = .ok (.getfield 187, 3) := by decide +kernel
theorem dX9_line_73 : decode cX9_line 73 = .ok (.iaload, 1) := by decide +kernel
theorem dX9_line_74 : decode cX9_line 74 = .ok (.bipush 58, 2) := by decide +kernel
theorem dX9_line_76 : decode cX9_line 76 = .ok (.if_icmp .ge 23, 3) := by decide +kernel
theorem dX9_line_79 : decode cX9_line 79 = .ok (.aload_n 0, 1) := by decide +kernel
theorem dX9_line_80 : decode cX9_line 80 = .ok (.aload_n 0, 1) := by decide +kernel
theorem dX9_line_81 : decode cX9_line 81 = .ok (.getfield 34, 3) := by decide +kernel
theorem dX9_line_84 : decode cX9_line 84 = .ok (.aload_n 0, 1) := by decide +kernel
theorem dX9_line_85 : decode cX9_line 85 = .ok (.getfield 187, 3) := by decide +kernel
theorem dX9_line_88 : decode cX9_line 88 = .ok (.iaload, 1) := by decide +kernel
theorem dX9_line_89 : decode cX9_line 89 = .ok (.invokevirtual 304, 3) := by decide +kernel
theorem dX9_line_92 : decode cX9_line 92 = .ok (.ifCond .eq 7, 3) := by decide +kernel
theorem dX9_line_95 : decode cX9_line 95 = .ok (.iconst 1, 1) := by decide +kernel
theorem dX9_line_96 : decode cX9_line 96 = .ok (.goto 4, 3) := by decide +kernel
theorem dX9_line_100 : decode cX9_line 100 = .ok (.ireturn, 1) := by decide +kernel
def rpX9_line : List Nat := [0, 1, 3, 6, 9, 10, 11, 14, 15, 16, 19, 20, 21, 24, 25, 26, 27, 30, 33, 34, 37, 38, 39, 41, 44, 47, 52, 53, 56, 57, 60, 61, 62, 65, 66, 69, 70, 73, 74, 76, 79, 80, 81, 84, 85, 88, 89, 92, 95, 96, 99, 100]
noncomputable def rcX9_line : List rz_B := [rz_aload 0, rz_cst 125, rz_callV 1 (Nat.add (Nat.mul 256 11) 1) rgX9_isSign, rz_ifeq 15, rz_aload 0, rz_dup, rz_getf (Nat.add (Nat.mul 256 11) 1) 15 rz_i, rz_cst 1, rz_iadd, rz_putf (Nat.add (Nat.mul 256 11) 1) 15 rz_unI, rz_aload 0, rz_cst 1, rz_putf (Nat.add (Nat.mul 256 11) 1) 16 rz_unI, rz_cst 1, rz_zret, rz_aload 0, rz_callV 0 (Nat.add (Nat.mul 256 11) 1) rgX9_isName, rz_ifeq 21, rz_aload 0, rz_callV 0 (Nat.add (Nat.mul 256 11) 1) rgX9_labelLine, rz_zret, rz_aload 0, rz_cst 72, rz_callV 1 (Nat.add (Nat.mul 256 11) 1) rgX9_isWord, rz_ifeq 26, rz_no, rz_aload 0, rz_getf (Nat.add (Nat.mul 256 11) 1) 11 rz_r, rz_aload 0, rz_getf (Nat.add (Nat.mul 256 11) 1) 15 rz_i, rz_iald, rz_cst 1, rz_icmpne 50, rz_aload 0, rz_getf (Nat.add (Nat.mul 256 11) 1) 13 rz_r, rz_aload 0, rz_getf (Nat.add (Nat.mul 256 11) 1) 15 rz_i, rz_iald, rz_cst 58, rz_icmpge 50, rz_aload 0, rz_aload 0, rz_getf (Nat.add (Nat.mul 256 11) 1) 13 rz_r, rz_aload 0, rz_getf (Nat.add (Nat.mul 256 11) 1) 15 rz_i, rz_iald, rz_callV 1 (Nat.add (Nat.mul 256 11) 1) rgX9_codeLine, rz_ifeq 50, rz_cst 1, rz_goto 51, rz_no, rz_zret]
noncomputable def rgX9_line : rz_L → rz_M → rz_Z → Bool := rz_go rcX9_line 1 1000000
def rrX9_line : Room := { frames := 2, cells := 0, slots := 0, locals := 44 }
theorem rmX9_line (l : Launch) {G : rz_G} (hG : rz_Gd G) (vs : rz_L) (M : rz_M) (Z : rz_Z) (hn : vs.length = 1) (h : rgX9_line vs M Z = true) : Met l yX9_line (Cond.code yX9_line cX9_line 1 (some .boolean) :: rz_TB) rrX9_line (rz_Pre G vs M) (rz_Qi G M.2 Z) 0 0 (fun q => rz_b G ≤ q) := by
  obtain ⟨D, tc, ad, b, xs, rfl⟩ := id hG
  refine rz_body (pcs := rpX9_line) (by decide) rfl (by rw [hn]; decide) h ?_
  intro p e R s m args below meth c hC
  obtain ⟨hx, hb, hml, hr, hlk, ho, hts, hKn, hRm⟩ := id hC
  obtain ⟨hK, hA, hSt⟩ := id hKn
  have hw : ∀ {i j : Nat} {ws : List Cond} {w : Cond}, rz_WW[i]? = some ws → ws[j]? = some w → w.before args s = true := fun h1 h2 => hts _ (List.mem_cons_of_mem _ (rz_mem h1 h2))
  refine rz_All_c (i := 0) (fun k J hk hJ => rz_aload_n_ok (pc := 0) hx hb dX9_line_0 rfl hk) ?_
  refine rz_All_c (i := 1) (fun k J hk hJ => rz_bipush_ok (pc := 1) hx hb dX9_line_1 (by decide) hk) ?_
  refine rz_All_c (i := 2) (fun k J hk hJ => rz_callV_ok (pc := 3) (own := RX9) (C := RX9) (T0 := TX9) (N0 := 19) hC rfl (rmX9_isSign l hG) (rz_cwV 1 hC rz_good (rz_mem (i := 11) (j := 4) rfl rfl) (rz_mem (i := 11) (j := 5) rfl rfl) (rz_mem (i := 11) (j := 6) rfl rfl) (rz_mem (i := 1) (j := 21) rfl rfl) (rz_mem (i := 11) (j := 7) rfl rfl) ⟨rfl, by decide, by decide, by decide +kernel⟩ rfl rfl ⟨by decide, by decide⟩) rfl dX9_line_3 hk) ?_
  refine rz_All_c (i := 3) (fun k J hk hJ => rz_ifeq_ok (pc := 6) hx hb dX9_line_6 rfl hk (hJ 15)) ?_
  refine rz_All_c (i := 4) (fun k J hk hJ => rz_aload_n_ok (pc := 9) hx hb dX9_line_9 rfl hk) ?_
  refine rz_All_c (i := 5) (fun k J hk hJ => rz_dup_ok (pc := 10) hx hb dX9_line_10 hk) ?_
  refine rz_All_c (i := 6) (fun k J hk hJ => rz_getf_ok (pc := 11) (own := RX9) (ref := "ThreadJudge$Reader") (C := RX9) (T := TX9) (N := 19) (ci := 11) (index := 187) (f := 15) (t := 0) (Ts := Cond.code yX9_line cX9_line 1 (some .boolean) :: rz_TB) hx hb hts rz_in11 ho hK rfl (by decide) rfl (fun _ => rfl) (hw (i := 3) (j := 11) rfl rfl) (fun _ z => z) dX9_line_11 hk) ?_
  refine rz_All_c (i := 7) (fun k J hk hJ => rz_iconst_ok (pc := 14) hx hb dX9_line_14 rfl hk) ?_
  refine rz_All_c (i := 8) (fun k J hk hJ => rz_iadd_ok (pc := 15) hx hb dX9_line_15 hk) ?_
  refine rz_All_c (i := 9) (fun k J hk hJ => rz_putf_ok (pc := 16) (own := RX9) (ref := "ThreadJudge$Reader") (C := RX9) (T := TX9) (N := 19) (ci := 11) (index := 187) (f := 15) (t := 0) (Ts := Cond.code yX9_line cX9_line 1 (some .boolean) :: rz_TB) hx hb hts rz_in11 tyX9 tyX9_ok nmX9 ho hK hA rfl (by decide) rfl (rz_UnI _) rfl (tyX9_ok 15 (by decide)) (hw (i := 3) (j := 11) rfl rfl) (fun _ z => z) dX9_line_16 hk) ?_
  refine rz_All_c (i := 10) (fun k J hk hJ => rz_aload_n_ok (pc := 19) hx hb dX9_line_19 rfl hk) ?_
  refine rz_All_c (i := 11) (fun k J hk hJ => rz_iconst_ok (pc := 20) hx hb dX9_line_20 rfl hk) ?_
  refine rz_All_c (i := 12) (fun k J hk hJ => rz_putf_ok (pc := 21) (own := RX9) (ref := "ThreadJudge$Reader") (C := RX9) (T := TX9) (N := 19) (ci := 11) (index := 190) (f := 16) (t := 0) (Ts := Cond.code yX9_line cX9_line 1 (some .boolean) :: rz_TB) hx hb hts rz_in11 tyX9 tyX9_ok nmX9 ho hK hA rfl (by decide) rfl (rz_UnI _) rfl (tyX9_ok 16 (by decide)) (hw (i := 3) (j := 12) rfl rfl) (fun _ z => z) dX9_line_21 hk) ?_
  refine rz_All_c (i := 13) (fun k J hk hJ => rz_iconst_ok (pc := 24) hx hb dX9_line_24 rfl hk) ?_
  refine rz_All_c (i := 14) (fun k J hk hJ => rz_zret_ok (pc := 25) hC dX9_line_25) ?_
  refine rz_All_c (i := 15) (fun k J hk hJ => rz_aload_n_ok (pc := 26) hx hb dX9_line_26 rfl hk) ?_
  refine rz_All_c (i := 16) (fun k J hk hJ => rz_callV_ok (pc := 27) (own := RX9) (C := RX9) (T0 := TX9) (N0 := 19) hC rfl (rmX9_isName l hG) (rz_cwV 0 hC rz_good (rz_mem (i := 10) (j := 6) rfl rfl) (rz_mem (i := 10) (j := 7) rfl rfl) (rz_mem (i := 10) (j := 8) rfl rfl) (rz_mem (i := 1) (j := 21) rfl rfl) (rz_mem (i := 10) (j := 9) rfl rfl) ⟨rfl, by decide, by decide, by decide +kernel⟩ rfl rfl ⟨by decide, by decide⟩) rfl dX9_line_27 hk) ?_
  refine rz_All_c (i := 17) (fun k J hk hJ => rz_ifeq_ok (pc := 30) hx hb dX9_line_30 rfl hk (hJ 21)) ?_
  refine rz_All_c (i := 18) (fun k J hk hJ => rz_aload_n_ok (pc := 33) hx hb dX9_line_33 rfl hk) ?_
  refine rz_All_c (i := 19) (fun k J hk hJ => rz_callV_ok (pc := 34) (own := RX9) (C := RX9) (T0 := TX9) (N0 := 19) hC rfl (rmX9_labelLine l hG) (rz_cwV 0 hC rz_good (rz_mem (i := 13) (j := 2) rfl rfl) (rz_mem (i := 13) (j := 3) rfl rfl) (rz_mem (i := 13) (j := 4) rfl rfl) (rz_mem (i := 1) (j := 21) rfl rfl) (rz_mem (i := 13) (j := 5) rfl rfl) ⟨rfl, by decide, by decide, by decide +kernel⟩ rfl rfl ⟨by decide, by decide⟩) rfl dX9_line_34 hk) ?_
  refine rz_All_c (i := 20) (fun k J hk hJ => rz_zret_ok (pc := 37) hC dX9_line_37) ?_
  refine rz_All_c (i := 21) (fun k J hk hJ => rz_aload_n_ok (pc := 38) hx hb dX9_line_38 rfl hk) ?_
  refine rz_All_c (i := 22) (fun k J hk hJ => rz_bipush_ok (pc := 39) hx hb dX9_line_39 (by decide) hk) ?_
  refine rz_All_c (i := 23) (fun k J hk hJ => rz_callV_ok (pc := 41) (own := RX9) (C := RX9) (T0 := TX9) (N0 := 19) hC rfl (rmX9_isWord l hG) (rz_cwV 1 hC rz_good (rz_mem (i := 10) (j := 2) rfl rfl) (rz_mem (i := 10) (j := 3) rfl rfl) (rz_mem (i := 10) (j := 4) rfl rfl) (rz_mem (i := 1) (j := 21) rfl rfl) (rz_mem (i := 10) (j := 5) rfl rfl) ⟨rfl, by decide, by decide, by decide +kernel⟩ rfl rfl ⟨by decide, by decide⟩) rfl dX9_line_41 hk) ?_
  refine rz_All_c (i := 24) (fun k J hk hJ => rz_ifeq_ok (pc := 44) hx hb dX9_line_44 rfl hk (hJ 26)) ?_
  refine rz_All_c (i := 25) (fun k J hk hJ => rz_no_ok) ?_
  refine rz_All_c (i := 26) (fun k J hk hJ => rz_aload_n_ok (pc := 52) hx hb dX9_line_52 rfl hk) ?_
  refine rz_All_c (i := 27) (fun k J hk hJ => rz_getf_ok (pc := 53) (own := RX9) (ref := "ThreadJudge$Reader") (C := RX9) (T := TX9) (N := 19) (ci := 11) (index := 28) (f := 11) (t := 2) (Ts := Cond.code yX9_line cX9_line 1 (some .boolean) :: rz_TB) hx hb hts rz_in11 ho hK rfl (by decide) rfl (fun _ => rfl) (hw (i := 3) (j := 14) rfl rfl) (fun _ z => z) dX9_line_53 hk) ?_
  refine rz_All_c (i := 28) (fun k J hk hJ => rz_aload_n_ok (pc := 56) hx hb dX9_line_56 rfl hk) ?_
  refine rz_All_c (i := 29) (fun k J hk hJ => rz_getf_ok (pc := 57) (own := RX9) (ref := "ThreadJudge$Reader") (C := RX9) (T := TX9) (N := 19) (ci := 11) (index := 187) (f := 15) (t := 0) (Ts := Cond.code yX9_line cX9_line 1 (some .boolean) :: rz_TB) hx hb hts rz_in11 ho hK rfl (by decide) rfl (fun _ => rfl) (hw (i := 3) (j := 11) rfl rfl) (fun _ z => z) dX9_line_57 hk) ?_
  refine rz_All_c (i := 30) (fun k J hk hJ => rz_iald_ok (pc := 60) hx hb hK dX9_line_60 hk) ?_
  refine rz_All_c (i := 31) (fun k J hk hJ => rz_iconst_ok (pc := 61) hx hb dX9_line_61 rfl hk) ?_
  refine rz_All_c (i := 32) (fun k J hk hJ => rz_icmpne_ok (pc := 62) hx hb dX9_line_62 rfl hk (hJ 50)) ?_
  refine rz_All_c (i := 33) (fun k J hk hJ => rz_aload_n_ok (pc := 65) hx hb dX9_line_65 rfl hk) ?_
  refine rz_All_c (i := 34) (fun k J hk hJ => rz_getf_ok (pc := 66) (own := RX9) (ref := "ThreadJudge$Reader") (C := RX9) (T := TX9) (N := 19) (ci := 11) (index := 34) (f := 13) (t := 2) (Ts := Cond.code yX9_line cX9_line 1 (some .boolean) :: rz_TB) hx hb hts rz_in11 ho hK rfl (by decide) rfl (fun _ => rfl) (hw (i := 5) (j := 2) rfl rfl) (fun _ z => z) dX9_line_66 hk) ?_
  refine rz_All_c (i := 35) (fun k J hk hJ => rz_aload_n_ok (pc := 69) hx hb dX9_line_69 rfl hk) ?_
  refine rz_All_c (i := 36) (fun k J hk hJ => rz_getf_ok (pc := 70) (own := RX9) (ref := "ThreadJudge$Reader") (C := RX9) (T := TX9) (N := 19) (ci := 11) (index := 187) (f := 15) (t := 0) (Ts := Cond.code yX9_line cX9_line 1 (some .boolean) :: rz_TB) hx hb hts rz_in11 ho hK rfl (by decide) rfl (fun _ => rfl) (hw (i := 3) (j := 11) rfl rfl) (fun _ z => z) dX9_line_70 hk) ?_
  refine rz_All_c (i := 37) (fun k J hk hJ => rz_iald_ok (pc := 73) hx hb hK dX9_line_73 hk) ?_
  refine rz_All_c (i := 38) (fun k J hk hJ => rz_bipush_ok (pc := 74) hx hb dX9_line_74 (by decide) hk) ?_
  refine rz_All_c (i := 39) (fun k J hk hJ => rz_icmpge_ok (pc := 76) hx hb dX9_line_76 rfl hk (hJ 50)) ?_
  refine rz_All_c (i := 40) (fun k J hk hJ => rz_aload_n_ok (pc := 79) hx hb dX9_line_79 rfl hk) ?_
  refine rz_All_c (i := 41) (fun k J hk hJ => rz_aload_n_ok (pc := 80) hx hb dX9_line_80 rfl hk) ?_
  refine rz_All_c (i := 42) (fun k J hk hJ => rz_getf_ok (pc := 81) (own := RX9) (ref := "ThreadJudge$Reader") (C := RX9) (T := TX9) (N := 19) (ci := 11) (index := 34) (f := 13) (t := 2) (Ts := Cond.code yX9_line cX9_line 1 (some .boolean) :: rz_TB) hx hb hts rz_in11 ho hK rfl (by decide) rfl (fun _ => rfl) (hw (i := 5) (j := 2) rfl rfl) (fun _ z => z) dX9_line_81 hk) ?_
  refine rz_All_c (i := 43) (fun k J hk hJ => rz_aload_n_ok (pc := 84) hx hb dX9_line_84 rfl hk) ?_
  refine rz_All_c (i := 44) (fun k J hk hJ => rz_getf_ok (pc := 85) (own := RX9) (ref := "ThreadJudge$Reader") (C := RX9) (T := TX9) (N := 19) (ci := 11) (index := 187) (f := 15) (t := 0) (Ts := Cond.code yX9_line cX9_line 1 (some .boolean) :: rz_TB) hx hb hts rz_in11 ho hK rfl (by decide) rfl (fun _ => rfl) (hw (i := 3) (j := 11) rfl rfl) (fun _ z => z) dX9_line_85 hk) ?_
  refine rz_All_c (i := 45) (fun k J hk hJ => rz_iald_ok (pc := 88) hx hb hK dX9_line_88 hk) ?_
  refine rz_All_c (i := 46) (fun k J hk hJ => rz_callV_ok (pc := 89) (own := RX9) (C := RX9) (T0 := TX9) (N0 := 19) hC rfl (rmX9_codeLine l hG) (rz_cwV 1 hC rz_good (rz_mem (i := 13) (j := 12) rfl rfl) (rz_mem (i := 13) (j := 13) rfl rfl) (rz_mem (i := 13) (j := 14) rfl rfl) (rz_mem (i := 1) (j := 21) rfl rfl) (rz_mem (i := 13) (j := 15) rfl rfl) ⟨rfl, by decide, by decide, by decide +kernel⟩ rfl rfl ⟨by decide, by decide⟩) rfl dX9_line_89 hk) ?_
  refine rz_All_c (i := 47) (fun k J hk hJ => rz_ifeq_ok (pc := 92) hx hb dX9_line_92 rfl hk (hJ 50)) ?_
  refine rz_All_c (i := 48) (fun k J hk hJ => rz_iconst_ok (pc := 95) hx hb dX9_line_95 rfl hk) ?_
  refine rz_All_c (i := 49) (fun k J hk hJ => rz_goto_ok (pc := 96) hx hb dX9_line_96 rfl (hJ 51)) ?_
  refine rz_All_c (i := 50) (fun k J hk hJ => rz_no_ok) ?_
  refine rz_All_c (i := 51) (fun k J hk hJ => rz_zret_ok (pc := 100) hC dX9_line_100) ?_
  exact trivial
theorem dX9_isType_0 : decode cX9_isType 0 = .ok (.aload_n 0, 1) := by decide +kernel
theorem dX9_isType_1 : decode cX9_isType 1 = .ok (.getfield 34, 3) := by decide +kernel
theorem dX9_isType_4 : decode cX9_isType 4 = .ok (.aload_n 0, 1) := by decide +kernel
theorem dX9_isType_5 : decode cX9_isType 5 = .ok (.getfield 187, 3) := by decide +kernel
theorem dX9_isType_8 : decode cX9_isType 8 = .ok (.iaload, 1) := by decide +kernel
theorem dX9_isType_9 : decode cX9_isType 9 = .ok (.istore_n 1, 1) := by decide +kernel
theorem dX9_isType_10 : decode cX9_isType 10 = .ok (.aload_n 0, 1) := by decide +kernel
theorem dX9_isType_11 : decode cX9_isType 11 = .ok (.getfield 28, 3) := by decide +kernel
theorem dX9_isType_14 : decode cX9_isType 14 = .ok (.aload_n 0, 1) := by decide +kernel
theorem dX9_isType_15 : decode cX9_isType 15 = .ok (.getfield 187, 3) := by decide +kernel
theorem dX9_isType_18 : decode cX9_isType 18 = .ok (.iaload, 1) := by decide +kernel
theorem dX9_isType_19 : decode cX9_isType 19 = .ok (.iconst 1, 1) := by decide +kernel
theorem dX9_isType_20 : decode cX9_isType 20 = .ok (.if_icmp .ne 25, 3) := by decide +kernel
theorem dX9_isType_23 : decode cX9_isType 23 = .ok (.iload_n 1, 1) := by decide +kernel
theorem dX9_isType_24 : decode cX9_isType 24 = .ok (.bipush 73, 2) := by decide +kernel
theorem dX9_isType_26 : decode cX9_isType 26 = .ok (.if_icmp .ge 15, 3) := by decide +kernel
theorem dX9_isType_29 : decode cX9_isType 29 = .ok (.iload_n 1, 1) := by decide +kernel
theorem dX9_isType_30 : decode cX9_isType 30 = .ok (.bipush 58, 2) := by decide +kernel
theorem dX9_isType_32 : decode cX9_isType 32 = .ok (.if_icmp .eq 9, 3) := by decide +kernel
theorem dX9_isType_35 : decode cX9_isType 35 = .ok (.iload_n 1, 1) := by decide +kernel
theorem dX9_isType_36 : decode cX9_isType 36 = .ok (.bipush 59, 2) := by decide +kernel
theorem dX9_isType_38 : decode cX9_isType 38 = .ok (.if_icmp .ne 7, 3) := by decide +kernel
theorem dX9_isType_41 : decode cX9_isType 41 = .ok (.iconst 1, 1) := by decide +kernel
theorem dX9_isType_42 : decode cX9_isType 42 = .ok (.goto 4, 3) := by decide +kernel
theorem dX9_isType_46 : decode cX9_isType 46 = .ok (.ireturn, 1) := by decide +kernel
def rpX9_isType : List Nat := [0, 1, 4, 5, 8, 9, 10, 11, 14, 15, 18, 19, 20, 23, 24, 26, 29, 30, 32, 35, 36, 38, 41, 42, 45, 46]
noncomputable def rcX9_isType : List rz_B := [rz_aload 0, rz_getf (Nat.add (Nat.mul 256 11) 1) 13 rz_r, rz_aload 0, rz_getf (Nat.add (Nat.mul 256 11) 1) 15 rz_i, rz_iald, rz_istore 1, rz_aload 0, rz_getf (Nat.add (Nat.mul 256 11) 1) 11 rz_r, rz_aload 0, rz_getf (Nat.add (Nat.mul 256 11) 1) 15 rz_i, rz_iald, rz_cst 1, rz_icmpne 24, rz_iload 1, rz_cst 73, rz_icmpge 22, rz_iload 1, rz_cst 58, rz_icmpeq 22, rz_iload 1, rz_cst 59, rz_icmpne 24, rz_cst 1, rz_goto 25, rz_no, rz_zret]
noncomputable def rgX9_isType : rz_L → rz_M → rz_Z → Bool := rz_go rcX9_isType 2 1000000
def rrX9_isType : Room := { frames := 0, cells := 0, slots := 0, locals := 0 }
theorem rmX9_isType (l : Launch) {G : rz_G} (hG : rz_Gd G) (vs : rz_L) (M : rz_M) (Z : rz_Z) (hn : vs.length = 1) (h : rgX9_isType vs M Z = true) : Met l yX9_isType (Cond.code yX9_isType cX9_isType 2 (some .boolean) :: rz_TB) rrX9_isType (rz_Pre G vs M) (rz_Qi G M.2 Z) 0 0 (fun q => rz_b G ≤ q) := by
  obtain ⟨D, tc, ad, b, xs, rfl⟩ := id hG
  refine rz_body (pcs := rpX9_isType) (by decide) rfl (by rw [hn]; decide) h ?_
  intro p e R s m args below meth c hC
  obtain ⟨hx, hb, hml, hr, hlk, ho, hts, hKn, hRm⟩ := id hC
  obtain ⟨hK, hA, hSt⟩ := id hKn
  have hw : ∀ {i j : Nat} {ws : List Cond} {w : Cond}, rz_WW[i]? = some ws → ws[j]? = some w → w.before args s = true := fun h1 h2 => hts _ (List.mem_cons_of_mem _ (rz_mem h1 h2))
  refine rz_All_c (i := 0) (fun k J hk hJ => rz_aload_n_ok (pc := 0) hx hb dX9_isType_0 rfl hk) ?_
  refine rz_All_c (i := 1) (fun k J hk hJ => rz_getf_ok (pc := 1) (own := RX9) (ref := "ThreadJudge$Reader") (C := RX9) (T := TX9) (N := 19) (ci := 11) (index := 34) (f := 13) (t := 2) (Ts := Cond.code yX9_isType cX9_isType 2 (some .boolean) :: rz_TB) hx hb hts rz_in11 ho hK rfl (by decide) rfl (fun _ => rfl) (hw (i := 5) (j := 2) rfl rfl) (fun _ z => z) dX9_isType_1 hk) ?_
  refine rz_All_c (i := 2) (fun k J hk hJ => rz_aload_n_ok (pc := 4) hx hb dX9_isType_4 rfl hk) ?_
  refine rz_All_c (i := 3) (fun k J hk hJ => rz_getf_ok (pc := 5) (own := RX9) (ref := "ThreadJudge$Reader") (C := RX9) (T := TX9) (N := 19) (ci := 11) (index := 187) (f := 15) (t := 0) (Ts := Cond.code yX9_isType cX9_isType 2 (some .boolean) :: rz_TB) hx hb hts rz_in11 ho hK rfl (by decide) rfl (fun _ => rfl) (hw (i := 3) (j := 11) rfl rfl) (fun _ z => z) dX9_isType_5 hk) ?_
  refine rz_All_c (i := 4) (fun k J hk hJ => rz_iald_ok (pc := 8) hx hb hK dX9_isType_8 hk) ?_
  refine rz_All_c (i := 5) (fun k J hk hJ => rz_istore_n_ok (pc := 9) hx hb dX9_isType_9 rfl hk) ?_
  refine rz_All_c (i := 6) (fun k J hk hJ => rz_aload_n_ok (pc := 10) hx hb dX9_isType_10 rfl hk) ?_
  refine rz_All_c (i := 7) (fun k J hk hJ => rz_getf_ok (pc := 11) (own := RX9) (ref := "ThreadJudge$Reader") (C := RX9) (T := TX9) (N := 19) (ci := 11) (index := 28) (f := 11) (t := 2) (Ts := Cond.code yX9_isType cX9_isType 2 (some .boolean) :: rz_TB) hx hb hts rz_in11 ho hK rfl (by decide) rfl (fun _ => rfl) (hw (i := 3) (j := 14) rfl rfl) (fun _ z => z) dX9_isType_11 hk) ?_
  refine rz_All_c (i := 8) (fun k J hk hJ => rz_aload_n_ok (pc := 14) hx hb dX9_isType_14 rfl hk) ?_
  refine rz_All_c (i := 9) (fun k J hk hJ => rz_getf_ok (pc := 15) (own := RX9) (ref := "ThreadJudge$Reader") (C := RX9) (T := TX9) (N := 19) (ci := 11) (index := 187) (f := 15) (t := 0) (Ts := Cond.code yX9_isType cX9_isType 2 (some .boolean) :: rz_TB) hx hb hts rz_in11 ho hK rfl (by decide) rfl (fun _ => rfl) (hw (i := 3) (j := 11) rfl rfl) (fun _ z => z) dX9_isType_15 hk) ?_
  refine rz_All_c (i := 10) (fun k J hk hJ => rz_iald_ok (pc := 18) hx hb hK dX9_isType_18 hk) ?_
  refine rz_All_c (i := 11) (fun k J hk hJ => rz_iconst_ok (pc := 19) hx hb dX9_isType_19 rfl hk) ?_
  refine rz_All_c (i := 12) (fun k J hk hJ => rz_icmpne_ok (pc := 20) hx hb dX9_isType_20 rfl hk (hJ 24)) ?_
  refine rz_All_c (i := 13) (fun k J hk hJ => rz_iload_n_ok (pc := 23) hx hb dX9_isType_23 rfl hk) ?_
  refine rz_All_c (i := 14) (fun k J hk hJ => rz_bipush_ok (pc := 24) hx hb dX9_isType_24 (by decide) hk) ?_
  refine rz_All_c (i := 15) (fun k J hk hJ => rz_icmpge_ok (pc := 26) hx hb dX9_isType_26 rfl hk (hJ 22)) ?_
  refine rz_All_c (i := 16) (fun k J hk hJ => rz_iload_n_ok (pc := 29) hx hb dX9_isType_29 rfl hk) ?_
  refine rz_All_c (i := 17) (fun k J hk hJ => rz_bipush_ok (pc := 30) hx hb dX9_isType_30 (by decide) hk) ?_
  refine rz_All_c (i := 18) (fun k J hk hJ => rz_icmpeq_ok (pc := 32) hx hb dX9_isType_32 rfl hk (hJ 22)) ?_
  refine rz_All_c (i := 19) (fun k J hk hJ => rz_iload_n_ok (pc := 35) hx hb dX9_isType_35 rfl hk) ?_
  refine rz_All_c (i := 20) (fun k J hk hJ => rz_bipush_ok (pc := 36) hx hb dX9_isType_36 (by decide) hk) ?_
  refine rz_All_c (i := 21) (fun k J hk hJ => rz_icmpne_ok (pc := 38) hx hb dX9_isType_38 rfl hk (hJ 24)) ?_
  refine rz_All_c (i := 22) (fun k J hk hJ => rz_iconst_ok (pc := 41) hx hb dX9_isType_41 rfl hk) ?_
  refine rz_All_c (i := 23) (fun k J hk hJ => rz_goto_ok (pc := 42) hx hb dX9_isType_42 rfl (hJ 25)) ?_
  refine rz_All_c (i := 24) (fun k J hk hJ => rz_no_ok) ?_
  refine rz_All_c (i := 25) (fun k J hk hJ => rz_zret_ok (pc := 46) hC dX9_isType_46) ?_
  exact trivial
theorem dX9_rawType_0 : decode cX9_rawType 0 = .ok (.aload_n 0, 1) := by decide +kernel
theorem dX9_rawType_1 : decode cX9_rawType 1 = .ok (.invokevirtual 270, 3) := by decide +kernel
theorem dX9_rawType_4 : decode cX9_rawType 4 = .ok (.ifCond .ne 5, 3) := by decide +kernel
theorem dX9_rawType_9 : decode cX9_rawType 9 = .ok (.aload_n 0, 1) := by decide +kernel
theorem dX9_rawType_10 : decode cX9_rawType 10 = .ok (.getfield 34, 3) := by decide +kernel
theorem dX9_rawType_13 : decode cX9_rawType 13 = .ok (.aload_n 0, 1) := by decide +kernel
theorem dX9_rawType_14 : decode cX9_rawType 14 = .ok (.getfield 187, 3) := by decide +kernel
theorem dX9_rawType_17 : decode cX9_rawType 17 = .ok (.iaload, 1) := by decide +kernel
theorem dX9_rawType_18 : decode cX9_rawType 18 = .ok (.iconst 2, 1) := by decide +kernel
theorem dX9_rawType_19 : decode cX9_rawType 19 = .ok (.imul, 1) := by decide +kernel
theorem dX9_rawType_20 : decode cX9_rawType 20 = .ok (.istore_n 1, 1) := by decide +kernel
theorem dX9_rawType_21 : decode cX9_rawType 21 = .ok (.aload_n 0, 1) := by decide +kernel
theorem dX9_rawType_22 : decode cX9_rawType 22 = .ok (.dup, 1) := by decide +kernel
theorem dX9_rawType_23 : decode cX9_rawType 23 = .ok (.getfield 187, 3) := by decide +kernel
theorem dX9_rawType_26 : decode cX9_rawType 26 = .ok (.iconst 1, 1) := by decide +kernel
theorem dX9_rawType_27 : decode cX9_rawType 27 = .ok (.iadd, 1) := by decide +kernel
theorem dX9_rawType_28 : decode cX9_rawType 28 = .ok (.putfield 187, 3) := by decide +kernel
theorem dX9_rawType_31 : decode cX9_rawType 31 = .ok (.aload_n 0, 1) := by decide +kernel
theorem dX9_rawType_32 : decode cX9_rawType 32 = .ok (.bipush 91, 2) := by decide +kernel
theorem dX9_rawType_34 : decode cX9_rawType 34 = .ok (.invokevirtual 258, 3) := by decide +kernel
theorem dX9_rawType_37 : decode cX9_rawType 37 = .ok (.ifCond .ne 5, 3) := by decide +kernel
theorem dX9_rawType_40 : decode cX9_rawType 40 = .ok (.iload_n 1, 1) := by decide +kernel
theorem dX9_rawType_41 : decode cX9_rawType 41 = .ok (.ireturn, 1) := by decide +kernel
def rpX9_rawType : List Nat := [0, 1, 4, 7, 9, 10, 13, 14, 17, 18, 19, 20, 21, 22, 23, 26, 27, 28, 31, 32, 34, 37, 40, 41, 42]
noncomputable def rcX9_rawType : List rz_B := [rz_aload 0, rz_callV 0 (Nat.add (Nat.mul 256 11) 1) rgX9_isType, rz_ifne 4, rz_no, rz_aload 0, rz_getf (Nat.add (Nat.mul 256 11) 1) 13 rz_r, rz_aload 0, rz_getf (Nat.add (Nat.mul 256 11) 1) 15 rz_i, rz_iald, rz_cst 2, rz_imul, rz_istore 1, rz_aload 0, rz_dup, rz_getf (Nat.add (Nat.mul 256 11) 1) 15 rz_i, rz_cst 1, rz_iadd, rz_putf (Nat.add (Nat.mul 256 11) 1) 15 rz_unI, rz_aload 0, rz_cst 91, rz_callV 1 (Nat.add (Nat.mul 256 11) 1) rgX9_isSign, rz_ifne 24, rz_iload 1, rz_iret, rz_no]
noncomputable def rgX9_rawType : rz_L → rz_M → rz_Z → Bool := rz_go rcX9_rawType 2 1000000
def rrX9_rawType : Room := { frames := 1, cells := 0, slots := 0, locals := 21 }
theorem rmX9_rawType (l : Launch) {G : rz_G} (hG : rz_Gd G) (vs : rz_L) (M : rz_M) (Z : rz_Z) (hn : vs.length = 1) (h : rgX9_rawType vs M Z = true) : Met l yX9_rawType (Cond.code yX9_rawType cX9_rawType 2 (some .int) :: rz_TB) rrX9_rawType (rz_Pre G vs M) (rz_Qi G M.2 Z) 0 0 (fun q => rz_b G ≤ q) := by
  obtain ⟨D, tc, ad, b, xs, rfl⟩ := id hG
  refine rz_body (pcs := rpX9_rawType) (by decide) rfl (by rw [hn]; decide) h ?_
  intro p e R s m args below meth c hC
  obtain ⟨hx, hb, hml, hr, hlk, ho, hts, hKn, hRm⟩ := id hC
  obtain ⟨hK, hA, hSt⟩ := id hKn
  have hw : ∀ {i j : Nat} {ws : List Cond} {w : Cond}, rz_WW[i]? = some ws → ws[j]? = some w → w.before args s = true := fun h1 h2 => hts _ (List.mem_cons_of_mem _ (rz_mem h1 h2))
  refine rz_All_c (i := 0) (fun k J hk hJ => rz_aload_n_ok (pc := 0) hx hb dX9_rawType_0 rfl hk) ?_
  refine rz_All_c (i := 1) (fun k J hk hJ => rz_callV_ok (pc := 1) (own := RX9) (C := RX9) (T0 := TX9) (N0 := 19) hC rfl (rmX9_isType l hG) (rz_cwV 0 hC rz_good (rz_mem (i := 12) (j := 6) rfl rfl) (rz_mem (i := 12) (j := 7) rfl rfl) (rz_mem (i := 12) (j := 8) rfl rfl) (rz_mem (i := 1) (j := 21) rfl rfl) (rz_mem (i := 12) (j := 9) rfl rfl) ⟨rfl, by decide, by decide, by decide +kernel⟩ rfl rfl ⟨by decide, by decide⟩) rfl dX9_rawType_1 hk) ?_
  refine rz_All_c (i := 2) (fun k J hk hJ => rz_ifne_ok (pc := 4) hx hb dX9_rawType_4 rfl hk (hJ 4)) ?_
  refine rz_All_c (i := 3) (fun k J hk hJ => rz_no_ok) ?_
  refine rz_All_c (i := 4) (fun k J hk hJ => rz_aload_n_ok (pc := 9) hx hb dX9_rawType_9 rfl hk) ?_
  refine rz_All_c (i := 5) (fun k J hk hJ => rz_getf_ok (pc := 10) (own := RX9) (ref := "ThreadJudge$Reader") (C := RX9) (T := TX9) (N := 19) (ci := 11) (index := 34) (f := 13) (t := 2) (Ts := Cond.code yX9_rawType cX9_rawType 2 (some .int) :: rz_TB) hx hb hts rz_in11 ho hK rfl (by decide) rfl (fun _ => rfl) (hw (i := 5) (j := 2) rfl rfl) (fun _ z => z) dX9_rawType_10 hk) ?_
  refine rz_All_c (i := 6) (fun k J hk hJ => rz_aload_n_ok (pc := 13) hx hb dX9_rawType_13 rfl hk) ?_
  refine rz_All_c (i := 7) (fun k J hk hJ => rz_getf_ok (pc := 14) (own := RX9) (ref := "ThreadJudge$Reader") (C := RX9) (T := TX9) (N := 19) (ci := 11) (index := 187) (f := 15) (t := 0) (Ts := Cond.code yX9_rawType cX9_rawType 2 (some .int) :: rz_TB) hx hb hts rz_in11 ho hK rfl (by decide) rfl (fun _ => rfl) (hw (i := 3) (j := 11) rfl rfl) (fun _ z => z) dX9_rawType_14 hk) ?_
  refine rz_All_c (i := 8) (fun k J hk hJ => rz_iald_ok (pc := 17) hx hb hK dX9_rawType_17 hk) ?_
  refine rz_All_c (i := 9) (fun k J hk hJ => rz_iconst_ok (pc := 18) hx hb dX9_rawType_18 rfl hk) ?_
  refine rz_All_c (i := 10) (fun k J hk hJ => rz_imul_ok (pc := 19) hx hb dX9_rawType_19 hk) ?_
  refine rz_All_c (i := 11) (fun k J hk hJ => rz_istore_n_ok (pc := 20) hx hb dX9_rawType_20 rfl hk) ?_
  refine rz_All_c (i := 12) (fun k J hk hJ => rz_aload_n_ok (pc := 21) hx hb dX9_rawType_21 rfl hk) ?_
  refine rz_All_c (i := 13) (fun k J hk hJ => rz_dup_ok (pc := 22) hx hb dX9_rawType_22 hk) ?_
  refine rz_All_c (i := 14) (fun k J hk hJ => rz_getf_ok (pc := 23) (own := RX9) (ref := "ThreadJudge$Reader") (C := RX9) (T := TX9) (N := 19) (ci := 11) (index := 187) (f := 15) (t := 0) (Ts := Cond.code yX9_rawType cX9_rawType 2 (some .int) :: rz_TB) hx hb hts rz_in11 ho hK rfl (by decide) rfl (fun _ => rfl) (hw (i := 3) (j := 11) rfl rfl) (fun _ z => z) dX9_rawType_23 hk) ?_
  refine rz_All_c (i := 15) (fun k J hk hJ => rz_iconst_ok (pc := 26) hx hb dX9_rawType_26 rfl hk) ?_
  refine rz_All_c (i := 16) (fun k J hk hJ => rz_iadd_ok (pc := 27) hx hb dX9_rawType_27 hk) ?_
  refine rz_All_c (i := 17) (fun k J hk hJ => rz_putf_ok (pc := 28) (own := RX9) (ref := "ThreadJudge$Reader") (C := RX9) (T := TX9) (N := 19) (ci := 11) (index := 187) (f := 15) (t := 0) (Ts := Cond.code yX9_rawType cX9_rawType 2 (some .int) :: rz_TB) hx hb hts rz_in11 tyX9 tyX9_ok nmX9 ho hK hA rfl (by decide) rfl (rz_UnI _) rfl (tyX9_ok 15 (by decide)) (hw (i := 3) (j := 11) rfl rfl) (fun _ z => z) dX9_rawType_28 hk) ?_
  refine rz_All_c (i := 18) (fun k J hk hJ => rz_aload_n_ok (pc := 31) hx hb dX9_rawType_31 rfl hk) ?_
  refine rz_All_c (i := 19) (fun k J hk hJ => rz_bipush_ok (pc := 32) hx hb dX9_rawType_32 (by decide) hk) ?_
  refine rz_All_c (i := 20) (fun k J hk hJ => rz_callV_ok (pc := 34) (own := RX9) (C := RX9) (T0 := TX9) (N0 := 19) hC rfl (rmX9_isSign l hG) (rz_cwV 1 hC rz_good (rz_mem (i := 11) (j := 4) rfl rfl) (rz_mem (i := 11) (j := 5) rfl rfl) (rz_mem (i := 11) (j := 6) rfl rfl) (rz_mem (i := 1) (j := 21) rfl rfl) (rz_mem (i := 11) (j := 7) rfl rfl) ⟨rfl, by decide, by decide, by decide +kernel⟩ rfl rfl ⟨by decide, by decide⟩) rfl dX9_rawType_34 hk) ?_
  refine rz_All_c (i := 21) (fun k J hk hJ => rz_ifne_ok (pc := 37) hx hb dX9_rawType_37 rfl hk (hJ 24)) ?_
  refine rz_All_c (i := 22) (fun k J hk hJ => rz_iload_n_ok (pc := 40) hx hb dX9_rawType_40 rfl hk) ?_
  refine rz_All_c (i := 23) (fun k J hk hJ => rz_iret_ok (pc := 41) hC dX9_rawType_41) ?_
  refine rz_All_c (i := 24) (fun k J hk hJ => rz_no_ok) ?_
  exact trivial
