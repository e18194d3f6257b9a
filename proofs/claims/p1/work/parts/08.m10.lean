/-! Methods: handlers, facts, contracts. -/
theorem dX12_labelled_0 : decode cX12_labelled 0 = .ok (.iconst 0, 1) := by decide +kernel
theorem dX12_labelled_1 : decode cX12_labelled 1 = .ok (.istore 4, 2) := by decide +kernel
theorem dX12_labelled_3 : decode cX12_labelled 3 = .ok (.iload 4, 2) := by decide +kernel
theorem dX12_labelled_5 : decode cX12_labelled 5 = .ok (.aload_n 0, 1) := by decide +kernel
theorem dX12_labelled_6 : decode cX12_labelled 6 = .ok (.getfield 718, 3) := by decide +kernel
theorem dX12_labelled_9 : decode cX12_labelled 9 = .ok (.if_icmp .ge 51, 3) := by decide +kernel
theorem dX12_labelled_12 : decode cX12_labelled 12 = .ok (.aload_n 0, 1) := by decide +kernel
theorem dX12_labelled_13 : decode cX12_labelled 13 = .ok (.getfield 141, 3) := by decide +kernel
theorem dX12_labelled_16 : decode cX12_labelled 16 = .ok (.iload 4, 2) := by decide +kernel
theorem dX12_labelled_18 : decode cX12_labelled 18 = .ok (.iaload, 1) := by decide +kernel
theorem dX12_labelled_19 : decode cX12_labelled 19 = .ok (.iload_n 1, 1) := by decide +kernel
theorem dX12_labelled_20 : decode cX12_labelled 20 = .ok (.if_icmp .ne 34, 3) := by decide +kernel
theorem dX12_labelled_23 : decode cX12_labelled 23 = .ok (.aload_n 0, 1) := by decide +kernel
theorem dX12_labelled_24 : decode cX12_labelled 24 = .ok (.aload_n 0, 1) := by decide +kernel
theorem dX12_labelled_25 : decode cX12_labelled 25 = .ok (.getfield 132, 3) := by decide +kernel
theorem dX12_labelled_28 : decode cX12_labelled 28 = .ok (.iload 4, 2) := by decide +kernel
theorem dX12_labelled_30 : decode cX12_labelled 30 = .ok (.iaload, 1) := by decide +kernel
theorem dX12_labelled_31 : decode cX12_labelled 31 = .ok (.aload_n 0, 1) := by decide +kernel
theorem dX12_labelled_32 : decode cX12_labelled 32 = .ok (.getfield 135, 3) := by decide +kernel
theorem dX12_labelled_35 : decode cX12_labelled 35 = .ok (.iload 4, 2) := by decide +kernel
theorem dX12_labelled_37 : decode cX12_labelled 37 = .ok (.iaload, 1) := by decide +kernel
theorem dX12_labelled_38 : decode cX12_labelled 38 = .ok (.iload_n 2, 1) := by decide +kernel
theorem dX12_labelled_39 : decode cX12_labelled 39 = .ok (.iload_n 3, 1) := by decide +kernel
theorem dX12_labelled_40 : decode cX12_labelled 40 = .ok (.invokevirtual 734, 3) := by decide +kernel
theorem dX12_labelled_43 : decode cX12_labelled 43 = .ok (.ifCond .eq 11, 3) := by decide +kernel
theorem dX12_labelled_46 : decode cX12_labelled 46 = .ok (.aload_n 0, 1) := by decide +kernel
theorem dX12_labelled_47 : decode cX12_labelled 47 = .ok (.getfield 138, 3) := by decide +kernel
theorem dX12_labelled_50 : decode cX12_labelled 50 = .ok (.iload 4, 2) := by decide +kernel
theorem dX12_labelled_52 : decode cX12_labelled 52 = .ok (.iaload, 1) := by decide +kernel
theorem dX12_labelled_53 : decode cX12_labelled 53 = .ok (.ireturn, 1) := by decide +kernel
def rpX12_labelled : List Nat := [0, 1, 3, 5, 6, 9, 12, 13, 16, 18, 19, 20, 23, 24, 25, 28, 30, 31, 32, 35, 37, 38, 39, 40, 43, 46, 47, 50, 52, 53, 54, 60]
noncomputable def rcX12_labelled : List rz_B := [rz_cst 0, rz_istore 4, rz_iload 4, rz_aload 0, rz_getf (Nat.add (Nat.mul 256 14) 1) 54 rz_i, rz_icmpge 31, rz_aload 0, rz_getf (Nat.add (Nat.mul 256 14) 1) 58 rz_r, rz_iload 4, rz_iald, rz_iload 1, rz_icmpne 30, rz_aload 0, rz_aload 0, rz_getf (Nat.add (Nat.mul 256 14) 1) 55 rz_r, rz_iload 4, rz_iald, rz_aload 0, rz_getf (Nat.add (Nat.mul 256 14) 1) 56 rz_r, rz_iload 4, rz_iald, rz_iload 2, rz_iload 3, rz_callV 4 (Nat.add (Nat.mul 256 14) 1) rgX12_isSame, rz_ifeq 30, rz_aload 0, rz_getf (Nat.add (Nat.mul 256 14) 1) 57 rz_r, rz_iload 4, rz_iald, rz_iret, rz_no, rz_no]
noncomputable def rgX12_labelled : rz_L → rz_M → rz_Z → Bool := rz_go rcX12_labelled 5 1000000
def rrX12_labelled : Room := { frames := 1, cells := 0, slots := 0, locals := 26 }
theorem rmX12_labelled (l : Launch) {G : rz_G} (hG : rz_Gd G) (vs : rz_L) (M : rz_M) (Z : rz_Z) (hn : vs.length = 4) (h : rgX12_labelled vs M Z = true) : Met l yX12_labelled (Cond.code yX12_labelled cX12_labelled 5 (some .int) :: rz_TB) rrX12_labelled (rz_Pre G vs M) (rz_Qi G M.2 Z) 0 0 (fun q => rz_b G ≤ q) := by
  obtain ⟨D, tc, ad, b, xs, rfl⟩ := id hG
  refine rz_body (pcs := rpX12_labelled) (by decide) rfl (by rw [hn]; decide) h ?_
  intro p e R s m args below meth c hC
  obtain ⟨hx, hb, hml, hr, hlk, ho, hts, hKn, hRm⟩ := id hC
  obtain ⟨hK, hA, hSt⟩ := id hKn
  have hw : ∀ {i j : Nat} {ws : List Cond} {w : Cond}, rz_WW[i]? = some ws → ws[j]? = some w → w.before args s = true := fun h1 h2 => hts _ (List.mem_cons_of_mem _ (rz_mem h1 h2))
  refine rz_All_c (i := 0) (fun k J hk hJ => rz_iconst_ok (pc := 0) hx hb dX12_labelled_0 rfl hk) ?_
  refine rz_All_c (i := 1) (fun k J hk hJ => rz_istore_ok (pc := 1) hx hb dX12_labelled_1 hk) ?_
  refine rz_All_c (i := 2) (fun k J hk hJ => rz_iload_ok (pc := 3) hx hb dX12_labelled_3 hk) ?_
  refine rz_All_c (i := 3) (fun k J hk hJ => rz_aload_n_ok (pc := 5) hx hb dX12_labelled_5 rfl hk) ?_
  refine rz_All_c (i := 4) (fun k J hk hJ => rz_getf_ok (pc := 6) (own := RX12) (ref := "ThreadJudgeModel") (C := RX12) (T := TX12) (N := 257) (ci := 14) (index := 718) (f := 54) (t := 0) (Ts := Cond.code yX12_labelled cX12_labelled 5 (some .int) :: rz_TB) hx hb hts rz_in14 ho hK rfl (by decide) rfl (fun _ => rfl) (hw (i := 32) (j := 21) rfl rfl) (fun _ z => z) dX12_labelled_6 hk) ?_
  refine rz_All_c (i := 5) (fun k J hk hJ => rz_icmpge_ok (pc := 9) hx hb dX12_labelled_9 rfl hk (hJ 31)) ?_
  refine rz_All_c (i := 6) (fun k J hk hJ => rz_aload_n_ok (pc := 12) hx hb dX12_labelled_12 rfl hk) ?_
  refine rz_All_c (i := 7) (fun k J hk hJ => rz_getf_ok (pc := 13) (own := RX12) (ref := "ThreadJudgeModel") (C := RX12) (T := TX12) (N := 257) (ci := 14) (index := 141) (f := 58) (t := 2) (Ts := Cond.code yX12_labelled cX12_labelled 5 (some .int) :: rz_TB) hx hb hts rz_in14 ho hK rfl (by decide) rfl (fun _ => rfl) (hw (i := 40) (j := 11) rfl rfl) (fun _ z => z) dX12_labelled_13 hk) ?_
  refine rz_All_c (i := 8) (fun k J hk hJ => rz_iload_ok (pc := 16) hx hb dX12_labelled_16 hk) ?_
  refine rz_All_c (i := 9) (fun k J hk hJ => rz_iald_ok (pc := 18) hx hb hK dX12_labelled_18 hk) ?_
  refine rz_All_c (i := 10) (fun k J hk hJ => rz_iload_n_ok (pc := 19) hx hb dX12_labelled_19 rfl hk) ?_
  refine rz_All_c (i := 11) (fun k J hk hJ => rz_icmpne_ok (pc := 20) hx hb dX12_labelled_20 rfl hk (hJ 30)) ?_
  refine rz_All_c (i := 12) (fun k J hk hJ => rz_aload_n_ok (pc := 23) hx hb dX12_labelled_23 rfl hk) ?_
  refine rz_All_c (i := 13) (fun k J hk hJ => rz_aload_n_ok (pc := 24) hx hb dX12_labelled_24 rfl hk) ?_
  refine rz_All_c (i := 14) (fun k J hk hJ => rz_getf_ok (pc := 25) (own := RX12) (ref := "ThreadJudgeModel") (C := RX12) (T := TX12) (N := 257) (ci := 14) (index := 132) (f := 55) (t := 2) (Ts := Cond.code yX12_labelled cX12_labelled 5 (some .int) :: rz_TB) hx hb hts rz_in14 ho hK rfl (by decide) rfl (fun _ => rfl) (hw (i := 40) (j := 8) rfl rfl) (fun _ z => z) dX12_labelled_25 hk) ?_
  refine rz_All_c (i := 15) (fun k J hk hJ => rz_iload_ok (pc := 28) hx hb dX12_labelled_28 hk) ?_
  refine rz_All_c (i := 16) (fun k J hk hJ => rz_iald_ok (pc := 30) hx hb hK dX12_labelled_30 hk) ?_
  refine rz_All_c (i := 17) (fun k J hk hJ => rz_aload_n_ok (pc := 31) hx hb dX12_labelled_31 rfl hk) ?_
  refine rz_All_c (i := 18) (fun k J hk hJ => rz_getf_ok (pc := 32) (own := RX12) (ref := "ThreadJudgeModel") (C := RX12) (T := TX12) (N := 257) (ci := 14) (index := 135) (f := 56) (t := 2) (Ts := Cond.code yX12_labelled cX12_labelled 5 (some .int) :: rz_TB) hx hb hts rz_in14 ho hK rfl (by decide) rfl (fun _ => rfl) (hw (i := 40) (j := 9) rfl rfl) (fun _ z => z) dX12_labelled_32 hk) ?_
  refine rz_All_c (i := 19) (fun k J hk hJ => rz_iload_ok (pc := 35) hx hb dX12_labelled_35 hk) ?_
  refine rz_All_c (i := 20) (fun k J hk hJ => rz_iald_ok (pc := 37) hx hb hK dX12_labelled_37 hk) ?_
  refine rz_All_c (i := 21) (fun k J hk hJ => rz_iload_n_ok (pc := 38) hx hb dX12_labelled_38 rfl hk) ?_
  refine rz_All_c (i := 22) (fun k J hk hJ => rz_iload_n_ok (pc := 39) hx hb dX12_labelled_39 rfl hk) ?_
  refine rz_All_c (i := 23) (fun k J hk hJ => rz_callV_ok (pc := 40) (own := RX12) (C := RX12) (T0 := TX12) (N0 := 257) hC rfl (rmX12_isSame l hG) (rz_cwV 4 hC rz_good (rz_mem (i := 41) (j := 16) rfl rfl) (rz_mem (i := 41) (j := 17) rfl rfl) (rz_mem (i := 41) (j := 18) rfl rfl) (rz_mem (i := 32) (j := 8) rfl rfl) (rz_mem (i := 41) (j := 19) rfl rfl) ⟨rfl, by decide, by decide, by decide +kernel⟩ rfl rfl ⟨by decide, by decide⟩) rfl dX12_labelled_40 hk) ?_
  refine rz_All_c (i := 24) (fun k J hk hJ => rz_ifeq_ok (pc := 43) hx hb dX12_labelled_43 rfl hk (hJ 30)) ?_
  refine rz_All_c (i := 25) (fun k J hk hJ => rz_aload_n_ok (pc := 46) hx hb dX12_labelled_46 rfl hk) ?_
  refine rz_All_c (i := 26) (fun k J hk hJ => rz_getf_ok (pc := 47) (own := RX12) (ref := "ThreadJudgeModel") (C := RX12) (T := TX12) (N := 257) (ci := 14) (index := 138) (f := 57) (t := 2) (Ts := Cond.code yX12_labelled cX12_labelled 5 (some .int) :: rz_TB) hx hb hts rz_in14 ho hK rfl (by decide) rfl (fun _ => rfl) (hw (i := 40) (j := 10) rfl rfl) (fun _ z => z) dX12_labelled_47 hk) ?_
  refine rz_All_c (i := 27) (fun k J hk hJ => rz_iload_ok (pc := 50) hx hb dX12_labelled_50 hk) ?_
  refine rz_All_c (i := 28) (fun k J hk hJ => rz_iald_ok (pc := 52) hx hb hK dX12_labelled_52 hk) ?_
  refine rz_All_c (i := 29) (fun k J hk hJ => rz_iret_ok (pc := 53) hC dX12_labelled_53) ?_
  refine rz_All_c (i := 30) (fun k J hk hJ => rz_no_ok) ?_
  refine rz_All_c (i := 31) (fun k J hk hJ => rz_no_ok) ?_
  exact trivial
theorem dX12_isBadCode_0 : decode cX12_isBadCode 0 = .ok (.ldc_w 742, 3) := by decide +kernel
theorem dX12_isBadCode_3 : decode cX12_isBadCode 3 = .ok (.aload_n 0, 1) := by decide +kernel
theorem dX12_isBadCode_4 : decode cX12_isBadCode 4 = .ok (.getfield 102, 3) := by decide +kernel
theorem dX12_isBadCode_7 : decode cX12_isBadCode 7 = .ok (.iload_n 1, 1) := by decide +kernel
theorem dX12_isBadCode_8 : decode cX12_isBadCode 8 = .ok (.iaload, 1) := by decide +kernel
theorem dX12_isBadCode_9 : decode cX12_isBadCode 9 = .ok (.invokevirtual 631, 3) := by decide +kernel
theorem dX12_isBadCode_12 : decode cX12_isBadCode 12 = .ok (.tableswitch 398 99 120 #[253, 398, 398, 247, 398, 398, 151, 398, 398, 203, 392, 104, 398, 398, 398, 398, 189, 319, 398, 398, 398, 392], 104) := by decide +kernel
theorem dX12_isBadCode_116 : decode cX12_isBadCode 116 = .ok (.aload_n 0, 1) := by decide +kernel
theorem dX12_isBadCode_117 : decode cX12_isBadCode 117 = .ok (.getfield 183, 3) := by decide +kernel
theorem dX12_isBadCode_120 : decode cX12_isBadCode 120 = .ok (.iload_n 1, 1) := by decide +kernel
theorem dX12_isBadCode_121 : decode cX12_isBadCode 121 = .ok (.aload_n 0, 1) := by decide +kernel
theorem dX12_isBadCode_122 : decode cX12_isBadCode 122 = .ok (.getfield 111, 3) := by decide +kernel
theorem dX12_isBadCode_125 : decode cX12_isBadCode 125 = .ok (.iload_n 1, 1) := by decide +kernel
theorem dX12_isBadCode_126 : decode cX12_isBadCode 126 = .ok (.iaload, 1) := by decide +kernel
theorem dX12_isBadCode_127 : decode cX12_isBadCode 127 = .ok (.iastore, 1) := by decide +kernel
theorem dX12_isBadCode_128 : decode cX12_isBadCode 128 = .ok (.aload_n 0, 1) := by decide +kernel
theorem dX12_isBadCode_129 : decode cX12_isBadCode 129 = .ok (.getfield 102, 3) := by decide +kernel
theorem dX12_isBadCode_132 : decode cX12_isBadCode 132 = .ok (.iload_n 1, 1) := by decide +kernel
theorem dX12_isBadCode_133 : decode cX12_isBadCode 133 = .ok (.iaload, 1) := by decide +kernel
theorem dX12_isBadCode_134 : decode cX12_isBadCode 134 = .ok (.ifCond .eq 27, 3) := by decide +kernel
theorem dX12_isBadCode_137 : decode cX12_isBadCode 137 = .ok (.aload_n 0, 1) := by decide +kernel
theorem dX12_isBadCode_138 : decode cX12_isBadCode 138 = .ok (.getfield 111, 3) := by decide +kernel
theorem dX12_isBadCode_141 : decode cX12_isBadCode 141 = .ok (.iload_n 1, 1) := by decide +kernel
theorem dX12_isBadCode_142 : decode cX12_isBadCode 142 = .ok (.iaload, 1) := by decide +kernel
theorem dX12_isBadCode_143 : decode cX12_isBadCode 143 = .ok (.ifCond .lt 14, 3) := by decide +kernel
theorem dX12_isBadCode_146 : decode cX12_isBadCode 146 = .ok (.aload_n 0, 1) := by decide +kernel
theorem dX12_isBadCode_147 : decode cX12_isBadCode 147 = .ok (.getfield 111, 3) := by decide +kernel
theorem dX12_isBadCode_150 : decode cX12_isBadCode 150 = .ok (.iload_n 1, 1) := by decide +kernel
theorem dX12_isBadCode_151 : decode cX12_isBadCode 151 = .ok (.iaload, 1) := by decide +kernel
theorem dX12_isBadCode_152 : decode cX12_isBadCode 152 = .ok (.bipush 9, 2) := by decide +kernel
theorem dX12_isBadCode_154 : decode cX12_isBadCode 154 = .ok (.if_icmp .le 7, 3) := by decide +kernel
theorem dX12_isBadCode_161 : decode cX12_isBadCode 161 = .ok (.iconst 0, 1) := by decide +kernel
theorem dX12_isBadCode_162 : decode cX12_isBadCode 162 = .ok (.ireturn, 1) := by decide +kernel
theorem dX12_isBadCode_215 : decode cX12_isBadCode 215 = .ok (.aload_n 0, 1) := by decide +kernel
theorem dX12_isBadCode_216 : decode cX12_isBadCode 216 = .ok (.getfield 183, 3) := by decide +kernel
theorem dX12_isBadCode_219 : decode cX12_isBadCode 219 = .ok (.iload_n 1, 1) := by decide +kernel
theorem dX12_isBadCode_220 : decode cX12_isBadCode 220 = .ok (.aload_n 0, 1) := by decide +kernel
theorem dX12_isBadCode_221 : decode cX12_isBadCode 221 = .ok (.aload_n 0, 1) := by decide +kernel
theorem dX12_isBadCode_222 : decode cX12_isBadCode 222 = .ok (.getfield 108, 3) := by decide +kernel
theorem dX12_isBadCode_225 : decode cX12_isBadCode 225 = .ok (.iload_n 1, 1) := by decide +kernel
theorem dX12_isBadCode_226 : decode cX12_isBadCode 226 = .ok (.iaload, 1) := by decide +kernel
theorem dX12_isBadCode_227 : decode cX12_isBadCode 227 = .ok (.aload_n 0, 1) := by decide +kernel
theorem dX12_isBadCode_228 : decode cX12_isBadCode 228 = .ok (.getfield 117, 3) := by decide +kernel
theorem dX12_isBadCode_231 : decode cX12_isBadCode 231 = .ok (.iload_n 1, 1) := by decide +kernel
theorem dX12_isBadCode_232 : decode cX12_isBadCode 232 = .ok (.iaload, 1) := by decide +kernel
theorem dX12_isBadCode_233 : decode cX12_isBadCode 233 = .ok (.aload_n 0, 1) := by decide +kernel
theorem dX12_isBadCode_234 : decode cX12_isBadCode 234 = .ok (.getfield 120, 3) := by decide +kernel
theorem dX12_isBadCode_237 : decode cX12_isBadCode 237 = .ok (.iload_n 1, 1) := by decide +kernel
theorem dX12_isBadCode_238 : decode cX12_isBadCode 238 = .ok (.iaload, 1) := by decide +kernel
theorem dX12_isBadCode_239 : decode cX12_isBadCode 239 = .ok (.invokevirtual 852, 3) := by decide +kernel
theorem dX12_isBadCode_242 : decode cX12_isBadCode 242 = .ok (.iastore, 1) := by decide +kernel
theorem dX12_isBadCode_243 : decode cX12_isBadCode 243 = .ok (.aload_n 0, 1) := by decide +kernel
theorem dX12_isBadCode_244 : decode cX12_isBadCode 244 = .ok (.getfield 183, 3) := by decide +kernel
theorem dX12_isBadCode_247 : decode cX12_isBadCode 247 = .ok (.iload_n 1, 1) := by decide +kernel
theorem dX12_isBadCode_248 : decode cX12_isBadCode 248 = .ok (.iaload, 1) := by decide +kernel
theorem dX12_isBadCode_249 : decode cX12_isBadCode 249 = .ok (.iconst (-1), 1) := by decide +kernel
theorem dX12_isBadCode_250 : decode cX12_isBadCode 250 = .ok (.if_icmp .ne 7, 3) := by decide +kernel
theorem dX12_isBadCode_257 : decode cX12_isBadCode 257 = .ok (.iconst 0, 1) := by decide +kernel
theorem dX12_isBadCode_258 : decode cX12_isBadCode 258 = .ok (.ireturn, 1) := by decide +kernel
theorem dX12_isBadCode_259 : decode cX12_isBadCode 259 = .ok (.aload_n 0, 1) := by decide +kernel
theorem dX12_isBadCode_260 : decode cX12_isBadCode 260 = .ok (.iload_n 1, 1) := by decide +kernel
theorem dX12_isBadCode_261 : decode cX12_isBadCode 261 = .ok (.invokevirtual 855, 3) := by decide +kernel
theorem dX12_isBadCode_264 : decode cX12_isBadCode 264 = .ok (.ireturn, 1) := by decide +kernel
theorem dX12_isBadCode_404 : decode cX12_isBadCode 404 = .ok (.aload_n 0, 1) := by decide +kernel
theorem dX12_isBadCode_405 : decode cX12_isBadCode 405 = .ok (.iload_n 1, 1) := by decide +kernel
theorem dX12_isBadCode_406 : decode cX12_isBadCode 406 = .ok (.invokevirtual 858, 3) := by decide +kernel
theorem dX12_isBadCode_409 : decode cX12_isBadCode 409 = .ok (.ireturn, 1) := by decide +kernel
theorem dX12_isBadCode_410 : decode cX12_isBadCode 410 = .ok (.aload_n 0, 1) := by decide +kernel
theorem dX12_isBadCode_411 : decode cX12_isBadCode 411 = .ok (.getfield 183, 3) := by decide +kernel
theorem dX12_isBadCode_414 : decode cX12_isBadCode 414 = .ok (.iload_n 1, 1) := by decide +kernel
theorem dX12_isBadCode_415 : decode cX12_isBadCode 415 = .ok (.iconst 0, 1) := by decide +kernel
theorem dX12_isBadCode_416 : decode cX12_isBadCode 416 = .ok (.iastore, 1) := by decide +kernel
theorem dX12_isBadCode_417 : decode cX12_isBadCode 417 = .ok (.iconst 0, 1) := by decide +kernel
theorem dX12_isBadCode_418 : decode cX12_isBadCode 418 = .ok (.ireturn, 1) := by decide +kernel
def rpX12_isBadCode : List Nat := [0, 3, 4, 7, 8, 9, 12, 116, 117, 120, 121, 122, 125, 126, 127, 128, 129, 132, 133, 134, 137, 138, 141, 142, 143, 146, 147, 150, 151, 152, 154, 157, 161, 162, 163, 201, 215, 216, 219, 220, 221, 222, 225, 226, 227, 228, 231, 232, 233, 234, 237, 238, 239, 242, 243, 244, 247, 248, 249, 250, 253, 257, 258, 259, 260, 261, 264, 265, 331, 404, 405, 406, 409, 410, 411, 414, 415, 416, 417, 418]
noncomputable def rcX12_isBadCode : List rz_B := [rz_txt 1000014, rz_aload 0, rz_getf (Nat.add (Nat.mul 256 14) 1) 44 rz_r, rz_iload 1, rz_iald, rz_callT 1 rgJ0_charAt_5068e, rz_tsw 99 [67, 73, 73, 63, 73, 73, 34, 73, 73, 36, 69, 7, 73, 73, 73, 73, 35, 68, 73, 73, 73, 69] 73, rz_aload 0, rz_getf (Nat.add (Nat.mul 256 14) 1) 78 rz_r, rz_iload 1, rz_aload 0, rz_getf (Nat.add (Nat.mul 256 14) 1) 47 rz_r, rz_iload 1, rz_iald, rz_iast, rz_aload 0, rz_getf (Nat.add (Nat.mul 256 14) 1) 44 rz_r, rz_iload 1, rz_iald, rz_ifeq 32, rz_aload 0, rz_getf (Nat.add (Nat.mul 256 14) 1) 47 rz_r, rz_iload 1, rz_iald, rz_iflt 31, rz_aload 0, rz_getf (Nat.add (Nat.mul 256 14) 1) 47 rz_r, rz_iload 1, rz_iald, rz_cst 9, rz_icmple 32, rz_no, rz_cst 0, rz_zret, rz_no, rz_no, rz_aload 0, rz_getf (Nat.add (Nat.mul 256 14) 1) 78 rz_r, rz_iload 1, rz_aload 0, rz_aload 0, rz_getf (Nat.add (Nat.mul 256 14) 1) 46 rz_r, rz_iload 1, rz_iald, rz_aload 0, rz_getf (Nat.add (Nat.mul 256 14) 1) 49 rz_r, rz_iload 1, rz_iald, rz_aload 0, rz_getf (Nat.add (Nat.mul 256 14) 1) 50 rz_r, rz_iload 1, rz_iald, rz_callV 3 (Nat.add (Nat.mul 256 14) 1) rgX12_labelled, rz_iast, rz_aload 0, rz_getf (Nat.add (Nat.mul 256 14) 1) 78 rz_r, rz_iload 1, rz_iald, rz_cst 4294967295, rz_icmpne 61, rz_no, rz_cst 0, rz_zret, rz_aload 0, rz_iload 1, rz_callV 1 (Nat.add (Nat.mul 256 14) 1) rgX12_isBadField, rz_zret, rz_no, rz_no, rz_aload 0, rz_iload 1, rz_callV 1 (Nat.add (Nat.mul 256 14) 1) rgX12_isBadCall, rz_zret, rz_aload 0, rz_getf (Nat.add (Nat.mul 256 14) 1) 78 rz_r, rz_iload 1, rz_cst 0, rz_iast, rz_cst 0, rz_zret]
noncomputable def rgX12_isBadCode : rz_L → rz_M → rz_Z → Bool := rz_go rcX12_isBadCode 2 1000000
def rrX12_isBadCode : Room := { frames := 8, cells := 0, slots := 0, locals := 220 }
theorem rmX12_isBadCode (l : Launch) {G : rz_G} (hG : rz_Gd G) (vs : rz_L) (M : rz_M) (Z : rz_Z) (hn : vs.length = 2) (h : rgX12_isBadCode vs M Z = true) : Met l yX12_isBadCode (Cond.code yX12_isBadCode cX12_isBadCode 2 (some .boolean) :: rz_TB) rrX12_isBadCode (rz_Pre G vs M) (rz_Qi G M.2 Z) 0 0 (fun q => rz_b G ≤ q) := by
  obtain ⟨D, tc, ad, b, xs, rfl⟩ := id hG
  refine rz_body (pcs := rpX12_isBadCode) (by decide) rfl (by rw [hn]; decide) h ?_
  intro p e R s m args below meth c hC
  obtain ⟨hx, hb, hml, hr, hlk, ho, hts, hKn, hRm⟩ := id hC
  obtain ⟨hK, hA, hSt⟩ := id hKn
  have hw : ∀ {i j : Nat} {ws : List Cond} {w : Cond}, rz_WW[i]? = some ws → ws[j]? = some w → w.before args s = true := fun h1 h2 => hts _ (List.mem_cons_of_mem _ (rz_mem h1 h2))
  refine rz_All_c (i := 0) (fun k J hk hJ => rz_ldcwS_ok (pc := 0) (i := 13) hx hb (hSt.2.1 ("ThreadJudgeModel", 742, "ns-nni---------------lllllllllllllllllffffct---ttmmmx-----", 13) (List.mem_of_getElem? (i := 14) rfl)) ho dX12_isBadCode_0 hk) ?_
  refine rz_All_c (i := 1) (fun k J hk hJ => rz_aload_n_ok (pc := 3) hx hb dX12_isBadCode_3 rfl hk) ?_
  refine rz_All_c (i := 2) (fun k J hk hJ => rz_getf_ok (pc := 4) (own := RX12) (ref := "ThreadJudgeModel") (C := RX12) (T := TX12) (N := 257) (ci := 14) (index := 102) (f := 44) (t := 2) (Ts := Cond.code yX12_isBadCode cX12_isBadCode 2 (some .boolean) :: rz_TB) hx hb hts rz_in14 ho hK rfl (by decide) rfl (fun _ => rfl) (hw (i := 40) (j := 12) rfl rfl) (fun _ z => z) dX12_isBadCode_4 hk) ?_
  refine rz_All_c (i := 3) (fun k J hk hJ => rz_iload_n_ok (pc := 7) hx hb dX12_isBadCode_7 rfl hk) ?_
  refine rz_All_c (i := 4) (fun k J hk hJ => rz_iald_ok (pc := 8) hx hb hK dX12_isBadCode_8 hk) ?_
  refine rz_All_c (i := 5) (fun k J hk hJ => rz_callT_ok (pc := 9) (own := RX12) hC rfl (rmJ0_charAt_5068e l hG) (rz_cwV 1 hC rz_good (rz_mem (i := 33) (j := 4) rfl rfl) (rz_mem (i := 13) (j := 21) rfl rfl) (rz_mem (i := 13) (j := 22) rfl rfl) (rz_mem (i := 5) (j := 23) rfl rfl) (rz_mem (i := 13) (j := 23) rfl rfl) ⟨rfl, by decide, by decide, by decide +kernel⟩ rfl rfl ⟨by decide, by decide⟩) dX12_isBadCode_9 hk) ?_
  refine rz_All_c (i := 6) (fun k J hk hJ => rz_tsw_ok (pc := 12) (pcs := rpX12_isBadCode) (js := [67, 73, 73, 63, 73, 73, 34, 73, 73, 36, 69, 7, 73, 73, 73, 73, 35, 68, 73, 73, 73, 69]) (d := 73) (lo := 99) hx hb dX12_isBadCode_12 (by decide +kernel) hJ) ?_
  refine rz_All_c (i := 7) (fun k J hk hJ => rz_aload_n_ok (pc := 116) hx hb dX12_isBadCode_116 rfl hk) ?_
  refine rz_All_c (i := 8) (fun k J hk hJ => rz_getf_ok (pc := 117) (own := RX12) (ref := "ThreadJudgeModel") (C := RX12) (T := TX12) (N := 257) (ci := 14) (index := 183) (f := 78) (t := 2) (Ts := Cond.code yX12_isBadCode cX12_isBadCode 2 (some .boolean) :: rz_TB) hx hb hts rz_in14 ho hK rfl (by decide) rfl (fun _ => rfl) (hw (i := 46) (j := 8) rfl rfl) (fun _ z => z) dX12_isBadCode_117 hk) ?_
  refine rz_All_c (i := 9) (fun k J hk hJ => rz_iload_n_ok (pc := 120) hx hb dX12_isBadCode_120 rfl hk) ?_
  refine rz_All_c (i := 10) (fun k J hk hJ => rz_aload_n_ok (pc := 121) hx hb dX12_isBadCode_121 rfl hk) ?_
  refine rz_All_c (i := 11) (fun k J hk hJ => rz_getf_ok (pc := 122) (own := RX12) (ref := "ThreadJudgeModel") (C := RX12) (T := TX12) (N := 257) (ci := 14) (index := 111) (f := 47) (t := 2) (Ts := Cond.code yX12_isBadCode cX12_isBadCode 2 (some .boolean) :: rz_TB) hx hb hts rz_in14 ho hK rfl (by decide) rfl (fun _ => rfl) (hw (i := 41) (j := 9) rfl rfl) (fun _ z => z) dX12_isBadCode_122 hk) ?_
  refine rz_All_c (i := 12) (fun k J hk hJ => rz_iload_n_ok (pc := 125) hx hb dX12_isBadCode_125 rfl hk) ?_
  refine rz_All_c (i := 13) (fun k J hk hJ => rz_iald_ok (pc := 126) hx hb hK dX12_isBadCode_126 hk) ?_
  refine rz_All_c (i := 14) (fun k J hk hJ => rz_iast_ok (pc := 127) hx hb hK hA dX12_isBadCode_127 hk) ?_
  refine rz_All_c (i := 15) (fun k J hk hJ => rz_aload_n_ok (pc := 128) hx hb dX12_isBadCode_128 rfl hk) ?_
  refine rz_All_c (i := 16) (fun k J hk hJ => rz_getf_ok (pc := 129) (own := RX12) (ref := "ThreadJudgeModel") (C := RX12) (T := TX12) (N := 257) (ci := 14) (index := 102) (f := 44) (t := 2) (Ts := Cond.code yX12_isBadCode cX12_isBadCode 2 (some .boolean) :: rz_TB) hx hb hts rz_in14 ho hK rfl (by decide) rfl (fun _ => rfl) (hw (i := 40) (j := 12) rfl rfl) (fun _ z => z) dX12_isBadCode_129 hk) ?_
  refine rz_All_c (i := 17) (fun k J hk hJ => rz_iload_n_ok (pc := 132) hx hb dX12_isBadCode_132 rfl hk) ?_
  refine rz_All_c (i := 18) (fun k J hk hJ => rz_iald_ok (pc := 133) hx hb hK dX12_isBadCode_133 hk) ?_
  refine rz_All_c (i := 19) (fun k J hk hJ => rz_ifeq_ok (pc := 134) hx hb dX12_isBadCode_134 rfl hk (hJ 32)) ?_
  refine rz_All_c (i := 20) (fun k J hk hJ => rz_aload_n_ok (pc := 137) hx hb dX12_isBadCode_137 rfl hk) ?_
  refine rz_All_c (i := 21) (fun k J hk hJ => rz_getf_ok (pc := 138) (own := RX12) (ref := "ThreadJudgeModel") (C := RX12) (T := TX12) (N := 257) (ci := 14) (index := 111) (f := 47) (t := 2) (Ts := Cond.code yX12_isBadCode cX12_isBadCode 2 (some .boolean) :: rz_TB) hx hb hts rz_in14 ho hK rfl (by decide) rfl (fun _ => rfl) (hw (i := 41) (j := 9) rfl rfl) (fun _ z => z) dX12_isBadCode_138 hk) ?_
  refine rz_All_c (i := 22) (fun k J hk hJ => rz_iload_n_ok (pc := 141) hx hb dX12_isBadCode_141 rfl hk) ?_
  refine rz_All_c (i := 23) (fun k J hk hJ => rz_iald_ok (pc := 142) hx hb hK dX12_isBadCode_142 hk) ?_
  refine rz_All_c (i := 24) (fun k J hk hJ => rz_iflt_ok (pc := 143) hx hb dX12_isBadCode_143 rfl hk (hJ 31)) ?_
  refine rz_All_c (i := 25) (fun k J hk hJ => rz_aload_n_ok (pc := 146) hx hb dX12_isBadCode_146 rfl hk) ?_
  refine rz_All_c (i := 26) (fun k J hk hJ => rz_getf_ok (pc := 147) (own := RX12) (ref := "ThreadJudgeModel") (C := RX12) (T := TX12) (N := 257) (ci := 14) (index := 111) (f := 47) (t := 2) (Ts := Cond.code yX12_isBadCode cX12_isBadCode 2 (some .boolean) :: rz_TB) hx hb hts rz_in14 ho hK rfl (by decide) rfl (fun _ => rfl) (hw (i := 41) (j := 9) rfl rfl) (fun _ z => z) dX12_isBadCode_147 hk) ?_
  refine rz_All_c (i := 27) (fun k J hk hJ => rz_iload_n_ok (pc := 150) hx hb dX12_isBadCode_150 rfl hk) ?_
  refine rz_All_c (i := 28) (fun k J hk hJ => rz_iald_ok (pc := 151) hx hb hK dX12_isBadCode_151 hk) ?_
  refine rz_All_c (i := 29) (fun k J hk hJ => rz_bipush_ok (pc := 152) hx hb dX12_isBadCode_152 (by decide) hk) ?_
  refine rz_All_c (i := 30) (fun k J hk hJ => rz_icmple_ok (pc := 154) hx hb dX12_isBadCode_154 rfl hk (hJ 32)) ?_
  refine rz_All_c (i := 31) (fun k J hk hJ => rz_no_ok) ?_
  refine rz_All_c (i := 32) (fun k J hk hJ => rz_iconst_ok (pc := 161) hx hb dX12_isBadCode_161 rfl hk) ?_
  refine rz_All_c (i := 33) (fun k J hk hJ => rz_zret_ok (pc := 162) hC dX12_isBadCode_162) ?_
  refine rz_All_c (i := 34) (fun k J hk hJ => rz_no_ok) ?_
  refine rz_All_c (i := 35) (fun k J hk hJ => rz_no_ok) ?_
  refine rz_All_c (i := 36) (fun k J hk hJ => rz_aload_n_ok (pc := 215) hx hb dX12_isBadCode_215 rfl hk) ?_
  refine rz_All_c (i := 37) (fun k J hk hJ => rz_getf_ok (pc := 216) (own := RX12) (ref := "ThreadJudgeModel") (C := RX12) (T := TX12) (N := 257) (ci := 14) (index := 183) (f := 78) (t := 2) (Ts := Cond.code yX12_isBadCode cX12_isBadCode 2 (some .boolean) :: rz_TB) hx hb hts rz_in14 ho hK rfl (by decide) rfl (fun _ => rfl) (hw (i := 46) (j := 8) rfl rfl) (fun _ z => z) dX12_isBadCode_216 hk) ?_
  refine rz_All_c (i := 38) (fun k J hk hJ => rz_iload_n_ok (pc := 219) hx hb dX12_isBadCode_219 rfl hk) ?_
  refine rz_All_c (i := 39) (fun k J hk hJ => rz_aload_n_ok (pc := 220) hx hb dX12_isBadCode_220 rfl hk) ?_
  refine rz_All_c (i := 40) (fun k J hk hJ => rz_aload_n_ok (pc := 221) hx hb dX12_isBadCode_221 rfl hk) ?_
  refine rz_All_c (i := 41) (fun k J hk hJ => rz_getf_ok (pc := 222) (own := RX12) (ref := "ThreadJudgeModel") (C := RX12) (T := TX12) (N := 257) (ci := 14) (index := 108) (f := 46) (t := 2) (Ts := Cond.code yX12_isBadCode cX12_isBadCode 2 (some .boolean) :: rz_TB) hx hb hts rz_in14 ho hK rfl (by decide) rfl (fun _ => rfl) (hw (i := 40) (j := 14) rfl rfl) (fun _ z => z) dX12_isBadCode_222 hk) ?_
  refine rz_All_c (i := 42) (fun k J hk hJ => rz_iload_n_ok (pc := 225) hx hb dX12_isBadCode_225 rfl hk) ?_
  refine rz_All_c (i := 43) (fun k J hk hJ => rz_iald_ok (pc := 226) hx hb hK dX12_isBadCode_226 hk) ?_
  refine rz_All_c (i := 44) (fun k J hk hJ => rz_aload_n_ok (pc := 227) hx hb dX12_isBadCode_227 rfl hk) ?_
  refine rz_All_c (i := 45) (fun k J hk hJ => rz_getf_ok (pc := 228) (own := RX12) (ref := "ThreadJudgeModel") (C := RX12) (T := TX12) (N := 257) (ci := 14) (index := 117) (f := 49) (t := 2) (Ts := Cond.code yX12_isBadCode cX12_isBadCode 2 (some .boolean) :: rz_TB) hx hb hts rz_in14 ho hK rfl (by decide) rfl (fun _ => rfl) (hw (i := 42) (j := 2) rfl rfl) (fun _ z => z) dX12_isBadCode_228 hk) ?_
  refine rz_All_c (i := 46) (fun k J hk hJ => rz_iload_n_ok (pc := 231) hx hb dX12_isBadCode_231 rfl hk) ?_
  refine rz_All_c (i := 47) (fun k J hk hJ => rz_iald_ok (pc := 232) hx hb hK dX12_isBadCode_232 hk) ?_
  refine rz_All_c (i := 48) (fun k J hk hJ => rz_aload_n_ok (pc := 233) hx hb dX12_isBadCode_233 rfl hk) ?_
  refine rz_All_c (i := 49) (fun k J hk hJ => rz_getf_ok (pc := 234) (own := RX12) (ref := "ThreadJudgeModel") (C := RX12) (T := TX12) (N := 257) (ci := 14) (index := 120) (f := 50) (t := 2) (Ts := Cond.code yX12_isBadCode cX12_isBadCode 2 (some .boolean) :: rz_TB) hx hb hts rz_in14 ho hK rfl (by decide) rfl (fun _ => rfl) (hw (i := 42) (j := 3) rfl rfl) (fun _ z => z) dX12_isBadCode_234 hk) ?_
  refine rz_All_c (i := 50) (fun k J hk hJ => rz_iload_n_ok (pc := 237) hx hb dX12_isBadCode_237 rfl hk) ?_
  refine rz_All_c (i := 51) (fun k J hk hJ => rz_iald_ok (pc := 238) hx hb hK dX12_isBadCode_238 hk) ?_
  refine rz_All_c (i := 52) (fun k J hk hJ => rz_callV_ok (pc := 239) (own := RX12) (C := RX12) (T0 := TX12) (N0 := 257) hC rfl (rmX12_labelled l hG) (rz_cwV 3 hC rz_good (rz_mem (i := 46) (j := 9) rfl rfl) (rz_mem (i := 46) (j := 10) rfl rfl) (rz_mem (i := 46) (j := 11) rfl rfl) (rz_mem (i := 32) (j := 8) rfl rfl) (rz_mem (i := 46) (j := 12) rfl rfl) ⟨rfl, by decide, by decide, by decide +kernel⟩ rfl rfl ⟨by decide, by decide⟩) rfl dX12_isBadCode_239 hk) ?_
  refine rz_All_c (i := 53) (fun k J hk hJ => rz_iast_ok (pc := 242) hx hb hK hA dX12_isBadCode_242 hk) ?_
  refine rz_All_c (i := 54) (fun k J hk hJ => rz_aload_n_ok (pc := 243) hx hb dX12_isBadCode_243 rfl hk) ?_
  refine rz_All_c (i := 55) (fun k J hk hJ => rz_getf_ok (pc := 244) (own := RX12) (ref := "ThreadJudgeModel") (C := RX12) (T := TX12) (N := 257) (ci := 14) (index := 183) (f := 78) (t := 2) (Ts := Cond.code yX12_isBadCode cX12_isBadCode 2 (some .boolean) :: rz_TB) hx hb hts rz_in14 ho hK rfl (by decide) rfl (fun _ => rfl) (hw (i := 46) (j := 8) rfl rfl) (fun _ z => z) dX12_isBadCode_244 hk) ?_
  refine rz_All_c (i := 56) (fun k J hk hJ => rz_iload_n_ok (pc := 247) hx hb dX12_isBadCode_247 rfl hk) ?_
  refine rz_All_c (i := 57) (fun k J hk hJ => rz_iald_ok (pc := 248) hx hb hK dX12_isBadCode_248 hk) ?_
  refine rz_All_c (i := 58) (fun k J hk hJ => rz_iconst_ok (pc := 249) hx hb dX12_isBadCode_249 rfl hk) ?_
  refine rz_All_c (i := 59) (fun k J hk hJ => rz_icmpne_ok (pc := 250) hx hb dX12_isBadCode_250 rfl hk (hJ 61)) ?_
  refine rz_All_c (i := 60) (fun k J hk hJ => rz_no_ok) ?_
  refine rz_All_c (i := 61) (fun k J hk hJ => rz_iconst_ok (pc := 257) hx hb dX12_isBadCode_257 rfl hk) ?_
  refine rz_All_c (i := 62) (fun k J hk hJ => rz_zret_ok (pc := 258) hC dX12_isBadCode_258) ?_
  refine rz_All_c (i := 63) (fun k J hk hJ => rz_aload_n_ok (pc := 259) hx hb dX12_isBadCode_259 rfl hk) ?_
  refine rz_All_c (i := 64) (fun k J hk hJ => rz_iload_n_ok (pc := 260) hx hb dX12_isBadCode_260 rfl hk) ?_
  refine rz_All_c (i := 65) (fun k J hk hJ => rz_callV_ok (pc := 261) (own := RX12) (C := RX12) (T0 := TX12) (N0 := 257) hC rfl (rmX12_isBadField l hG) (rz_cwV 1 hC rz_good (rz_mem (i := 46) (j := 13) rfl rfl) (rz_mem (i := 46) (j := 14) rfl rfl) (rz_mem (i := 46) (j := 15) rfl rfl) (rz_mem (i := 32) (j := 8) rfl rfl) (rz_mem (i := 46) (j := 16) rfl rfl) ⟨rfl, by decide, by decide, by decide +kernel⟩ rfl rfl ⟨by decide, by decide⟩) rfl dX12_isBadCode_261 hk) ?_
  refine rz_All_c (i := 66) (fun k J hk hJ => rz_zret_ok (pc := 264) hC dX12_isBadCode_264) ?_
  refine rz_All_c (i := 67) (fun k J hk hJ => rz_no_ok) ?_
  refine rz_All_c (i := 68) (fun k J hk hJ => rz_no_ok) ?_
  refine rz_All_c (i := 69) (fun k J hk hJ => rz_aload_n_ok (pc := 404) hx hb dX12_isBadCode_404 rfl hk) ?_
  refine rz_All_c (i := 70) (fun k J hk hJ => rz_iload_n_ok (pc := 405) hx hb dX12_isBadCode_405 rfl hk) ?_
  refine rz_All_c (i := 71) (fun k J hk hJ => rz_callV_ok (pc := 406) (own := RX12) (C := RX12) (T0 := TX12) (N0 := 257) hC rfl (rmX12_isBadCall l hG) (rz_cwV 1 hC rz_good (rz_mem (i := 46) (j := 21) rfl rfl) (rz_mem (i := 46) (j := 22) rfl rfl) (rz_mem (i := 46) (j := 23) rfl rfl) (rz_mem (i := 32) (j := 8) rfl rfl) (rz_mem (i := 47) (j := 0) rfl rfl) ⟨rfl, by decide, by decide, by decide +kernel⟩ rfl rfl ⟨by decide, by decide⟩) rfl dX12_isBadCode_406 hk) ?_
  refine rz_All_c (i := 72) (fun k J hk hJ => rz_zret_ok (pc := 409) hC dX12_isBadCode_409) ?_
  refine rz_All_c (i := 73) (fun k J hk hJ => rz_aload_n_ok (pc := 410) hx hb dX12_isBadCode_410 rfl hk) ?_
  refine rz_All_c (i := 74) (fun k J hk hJ => rz_getf_ok (pc := 411) (own := RX12) (ref := "ThreadJudgeModel") (C := RX12) (T := TX12) (N := 257) (ci := 14) (index := 183) (f := 78) (t := 2) (Ts := Cond.code yX12_isBadCode cX12_isBadCode 2 (some .boolean) :: rz_TB) hx hb hts rz_in14 ho hK rfl (by decide) rfl (fun _ => rfl) (hw (i := 46) (j := 8) rfl rfl) (fun _ z => z) dX12_isBadCode_411 hk) ?_
  refine rz_All_c (i := 75) (fun k J hk hJ => rz_iload_n_ok (pc := 414) hx hb dX12_isBadCode_414 rfl hk) ?_
  refine rz_All_c (i := 76) (fun k J hk hJ => rz_iconst_ok (pc := 415) hx hb dX12_isBadCode_415 rfl hk) ?_
  refine rz_All_c (i := 77) (fun k J hk hJ => rz_iast_ok (pc := 416) hx hb hK hA dX12_isBadCode_416 hk) ?_
  refine rz_All_c (i := 78) (fun k J hk hJ => rz_iconst_ok (pc := 417) hx hb dX12_isBadCode_417 rfl hk) ?_
  refine rz_All_c (i := 79) (fun k J hk hJ => rz_zret_ok (pc := 418) hC dX12_isBadCode_418) ?_
  exact trivial
theorem dX12_linkLines_0 : decode cX12_linkLines 0 = .ok (.iconst 0, 1) := by decide +kernel
theorem dX12_linkLines_1 : decode cX12_linkLines 1 = .ok (.istore_n 1, 1) := by decide +kernel
theorem dX12_linkLines_2 : decode cX12_linkLines 2 = .ok (.iload_n 1, 1) := by decide +kernel
theorem dX12_linkLines_3 : decode cX12_linkLines 3 = .ok (.aload_n 0, 1) := by decide +kernel
theorem dX12_linkLines_4 : decode cX12_linkLines 4 = .ok (.getfield 718, 3) := by decide +kernel
theorem dX12_linkLines_7 : decode cX12_linkLines 7 = .ok (.if_icmp .ge 94, 3) := by decide +kernel
theorem dX12_linkLines_10 : decode cX12_linkLines 10 = .ok (.iconst 0, 1) := by decide +kernel
theorem dX12_linkLines_11 : decode cX12_linkLines 11 = .ok (.istore_n 2, 1) := by decide +kernel
theorem dX12_linkLines_12 : decode cX12_linkLines 12 = .ok (.iconst 0, 1) := by decide +kernel
theorem dX12_linkLines_13 : decode cX12_linkLines 13 = .ok (.istore_n 3, 1) := by decide +kernel
theorem dX12_linkLines_14 : decode cX12_linkLines 14 = .ok (.iload_n 3, 1) := by decide +kernel
theorem dX12_linkLines_15 : decode cX12_linkLines 15 = .ok (.iload_n 1, 1) := by decide +kernel
theorem dX12_linkLines_16 : decode cX12_linkLines 16 = .ok (.if_icmp .ge 65, 3) := by decide +kernel
theorem dX12_linkLines_81 : decode cX12_linkLines 81 = .ok (.iload_n 2, 1) := by decide +kernel
theorem dX12_linkLines_82 : decode cX12_linkLines 82 = .ok (.ifCond .eq 13, 3) := by decide +kernel
theorem dX12_linkLines_95 : decode cX12_linkLines 95 = .ok (.iinc 1 1, 3) := by decide +kernel
theorem dX12_linkLines_98 : decode cX12_linkLines 98 = .ok (.goto (-96), 3) := by decide +kernel
theorem dX12_linkLines_101 : decode cX12_linkLines 101 = .ok (.iconst 0, 1) := by decide +kernel
theorem dX12_linkLines_102 : decode cX12_linkLines 102 = .ok (.istore_n 1, 1) := by decide +kernel
theorem dX12_linkLines_103 : decode cX12_linkLines 103 = .ok (.iload_n 1, 1) := by decide +kernel
theorem dX12_linkLines_104 : decode cX12_linkLines 104 = .ok (.aload_n 0, 1) := by decide +kernel
theorem dX12_linkLines_105 : decode cX12_linkLines 105 = .ok (.getfield 706, 3) := by decide +kernel
theorem dX12_linkLines_108 : decode cX12_linkLines 108 = .ok (.if_icmp .ge 27, 3) := by decide +kernel
theorem dX12_linkLines_111 : decode cX12_linkLines 111 = .ok (.aload_n 0, 1) := by decide +kernel
theorem dX12_linkLines_112 : decode cX12_linkLines 112 = .ok (.iload_n 1, 1) := by decide +kernel
theorem dX12_linkLines_113 : decode cX12_linkLines 113 = .ok (.invokevirtual 861, 3) := by decide +kernel
theorem dX12_linkLines_116 : decode cX12_linkLines 116 = .ok (.ifCond .eq 13, 3) := by decide +kernel
theorem dX12_linkLines_129 : decode cX12_linkLines 129 = .ok (.iinc 1 1, 3) := by decide +kernel
theorem dX12_linkLines_132 : decode cX12_linkLines 132 = .ok (.goto (-29), 3) := by decide +kernel
theorem dX12_linkLines_135 : decode cX12_linkLines 135 = .ok (.iconst 0, 1) := by decide +kernel
theorem dX12_linkLines_136 : decode cX12_linkLines 136 = .ok (.istore_n 1, 1) := by decide +kernel
theorem dX12_linkLines_137 : decode cX12_linkLines 137 = .ok (.iload_n 1, 1) := by decide +kernel
theorem dX12_linkLines_138 : decode cX12_linkLines 138 = .ok (.aload_n 0, 1) := by decide +kernel
theorem dX12_linkLines_139 : decode cX12_linkLines 139 = .ok (.getfield 693, 3) := by decide +kernel
theorem dX12_linkLines_142 : decode cX12_linkLines 142 = .ok (.if_icmp .ge 238, 3) := by decide +kernel
theorem dX12_linkLines_145 : decode cX12_linkLines 145 = .ok (.bipush 8, 2) := by decide +kernel
theorem dX12_linkLines_147 : decode cX12_linkLines 147 = .ok (.iload_n 1, 1) := by decide +kernel
theorem dX12_linkLines_148 : decode cX12_linkLines 148 = .ok (.imul, 1) := by decide +kernel
theorem dX12_linkLines_149 : decode cX12_linkLines 149 = .ok (.istore_n 2, 1) := by decide +kernel
theorem dX12_linkLines_150 : decode cX12_linkLines 150 = .ok (.iload_n 2, 1) := by decide +kernel
theorem dX12_linkLines_151 : decode cX12_linkLines 151 = .ok (.bipush 8, 2) := by decide +kernel
theorem dX12_linkLines_153 : decode cX12_linkLines 153 = .ok (.iload_n 1, 1) := by decide +kernel
theorem dX12_linkLines_154 : decode cX12_linkLines 154 = .ok (.imul, 1) := by decide +kernel
theorem dX12_linkLines_155 : decode cX12_linkLines 155 = .ok (.aload_n 0, 1) := by decide +kernel
theorem dX12_linkLines_156 : decode cX12_linkLines 156 = .ok (.getfield 90, 3) := by decide +kernel
theorem dX12_linkLines_159 : decode cX12_linkLines 159 = .ok (.iload_n 1, 1) := by decide +kernel
theorem dX12_linkLines_160 : decode cX12_linkLines 160 = .ok (.iaload, 1) := by decide +kernel
theorem dX12_linkLines_161 : decode cX12_linkLines 161 = .ok (.iadd, 1) := by decide +kernel
theorem dX12_linkLines_162 : decode cX12_linkLines 162 = .ok (.if_icmp .ge 212, 3) := by decide +kernel
theorem dX12_linkLines_374 : decode cX12_linkLines 374 = .ok (.iinc 1 1, 3) := by decide +kernel
theorem dX12_linkLines_377 : decode cX12_linkLines 377 = .ok (.goto (-240), 3) := by decide +kernel
theorem dX12_linkLines_380 : decode cX12_linkLines 380 = .ok (.return_, 1) := by decide +kernel
def rpX12_linkLines : List Nat := [0, 1, 2, 3, 4, 7, 10, 11, 12, 13, 14, 15, 16, 19, 81, 82, 85, 95, 98, 101, 102, 103, 104, 105, 108, 111, 112, 113, 116, 119, 129, 132, 135, 136, 137, 138, 139, 142, 145, 147, 148, 149, 150, 151, 153, 154, 155, 156, 159, 160, 161, 162, 165, 374, 377, 380]
noncomputable def rcX12_linkLines : List rz_B := [rz_cst 0, rz_istore 1, rz_iload 1, rz_aload 0, rz_getf (Nat.add (Nat.mul 256 14) 1) 54 rz_i, rz_icmpge 19, rz_cst 0, rz_istore 2, rz_cst 0, rz_istore 3, rz_iload 3, rz_iload 1, rz_icmpge 14, rz_no, rz_iload 2, rz_ifeq 17, rz_no, rz_iinc 1 1, rz_goto 2, rz_cst 0, rz_istore 1, rz_iload 1, rz_aload 0, rz_getf (Nat.add (Nat.mul 256 14) 1) 43 rz_i, rz_icmpge 32, rz_aload 0, rz_iload 1, rz_callV 1 (Nat.add (Nat.mul 256 14) 1) rgX12_isBadCode, rz_ifeq 30, rz_no, rz_iinc 1 1, rz_goto 21, rz_cst 0, rz_istore 1, rz_iload 1, rz_aload 0, rz_getf (Nat.add (Nat.mul 256 14) 1) 31 rz_i, rz_icmpge 55, rz_cst 8, rz_iload 1, rz_imul, rz_istore 2, rz_iload 2, rz_cst 8, rz_iload 1, rz_imul, rz_aload 0, rz_getf (Nat.add (Nat.mul 256 14) 1) 39 rz_r, rz_iload 1, rz_iald, rz_iadd, rz_icmpge 53, rz_no, rz_iinc 1 1, rz_goto 34, rz_vret]
noncomputable def rgX12_linkLines : rz_L → rz_M → rz_Z → Bool := rz_go rcX12_linkLines 4 1000000
def rrX12_linkLines : Room := { frames := 9, cells := 0, slots := 0, locals := 241 }
theorem rmX12_linkLines (l : Launch) {G : rz_G} (hG : rz_Gd G) (vs : rz_L) (M : rz_M) (Z : rz_Z) (hn : vs.length = 1) (h : rgX12_linkLines vs M Z = true) : Met l yX12_linkLines (Cond.code yX12_linkLines cX12_linkLines 4 none :: rz_TB) rrX12_linkLines (rz_Pre G vs M) (rz_Qv G M.2 Z) 0 0 (fun q => rz_b G ≤ q) := by
  obtain ⟨D, tc, ad, b, xs, rfl⟩ := id hG
  refine rz_body (pcs := rpX12_linkLines) (by decide) rfl (by rw [hn]; decide) h ?_
  intro p e R s m args below meth c hC
  obtain ⟨hx, hb, hml, hr, hlk, ho, hts, hKn, hRm⟩ := id hC
  obtain ⟨hK, hA, hSt⟩ := id hKn
  have hw : ∀ {i j : Nat} {ws : List Cond} {w : Cond}, rz_WW[i]? = some ws → ws[j]? = some w → w.before args s = true := fun h1 h2 => hts _ (List.mem_cons_of_mem _ (rz_mem h1 h2))
  refine rz_All_c (i := 0) (fun k J hk hJ => rz_iconst_ok (pc := 0) hx hb dX12_linkLines_0 rfl hk) ?_
  refine rz_All_c (i := 1) (fun k J hk hJ => rz_istore_n_ok (pc := 1) hx hb dX12_linkLines_1 rfl hk) ?_
  refine rz_All_c (i := 2) (fun k J hk hJ => rz_iload_n_ok (pc := 2) hx hb dX12_linkLines_2 rfl hk) ?_
  refine rz_All_c (i := 3) (fun k J hk hJ => rz_aload_n_ok (pc := 3) hx hb dX12_linkLines_3 rfl hk) ?_
  refine rz_All_c (i := 4) (fun k J hk hJ => rz_getf_ok (pc := 4) (own := RX12) (ref := "ThreadJudgeModel") (C := RX12) (T := TX12) (N := 257) (ci := 14) (index := 718) (f := 54) (t := 0) (Ts := Cond.code yX12_linkLines cX12_linkLines 4 none :: rz_TB) hx hb hts rz_in14 ho hK rfl (by decide) rfl (fun _ => rfl) (hw (i := 32) (j := 21) rfl rfl) (fun _ z => z) dX12_linkLines_4 hk) ?_
  refine rz_All_c (i := 5) (fun k J hk hJ => rz_icmpge_ok (pc := 7) hx hb dX12_linkLines_7 rfl hk (hJ 19)) ?_
  refine rz_All_c (i := 6) (fun k J hk hJ => rz_iconst_ok (pc := 10) hx hb dX12_linkLines_10 rfl hk) ?_
  refine rz_All_c (i := 7) (fun k J hk hJ => rz_istore_n_ok (pc := 11) hx hb dX12_linkLines_11 rfl hk) ?_
  refine rz_All_c (i := 8) (fun k J hk hJ => rz_iconst_ok (pc := 12) hx hb dX12_linkLines_12 rfl hk) ?_
  refine rz_All_c (i := 9) (fun k J hk hJ => rz_istore_n_ok (pc := 13) hx hb dX12_linkLines_13 rfl hk) ?_
  refine rz_All_c (i := 10) (fun k J hk hJ => rz_iload_n_ok (pc := 14) hx hb dX12_linkLines_14 rfl hk) ?_
  refine rz_All_c (i := 11) (fun k J hk hJ => rz_iload_n_ok (pc := 15) hx hb dX12_linkLines_15 rfl hk) ?_
  refine rz_All_c (i := 12) (fun k J hk hJ => rz_icmpge_ok (pc := 16) hx hb dX12_linkLines_16 rfl hk (hJ 14)) ?_
  refine rz_All_c (i := 13) (fun k J hk hJ => rz_no_ok) ?_
  refine rz_All_c (i := 14) (fun k J hk hJ => rz_iload_n_ok (pc := 81) hx hb dX12_linkLines_81 rfl hk) ?_
  refine rz_All_c (i := 15) (fun k J hk hJ => rz_ifeq_ok (pc := 82) hx hb dX12_linkLines_82 rfl hk (hJ 17)) ?_
  refine rz_All_c (i := 16) (fun k J hk hJ => rz_no_ok) ?_
  refine rz_All_c (i := 17) (fun k J hk hJ => rz_iinc_ok (pc := 95) hx hb dX12_linkLines_95 (by decide) hk) ?_
  refine rz_All_c (i := 18) (fun k J hk hJ => rz_goto_ok (pc := 98) hx hb dX12_linkLines_98 rfl (hJ 2)) ?_
  refine rz_All_c (i := 19) (fun k J hk hJ => rz_iconst_ok (pc := 101) hx hb dX12_linkLines_101 rfl hk) ?_
  refine rz_All_c (i := 20) (fun k J hk hJ => rz_istore_n_ok (pc := 102) hx hb dX12_linkLines_102 rfl hk) ?_
  refine rz_All_c (i := 21) (fun k J hk hJ => rz_iload_n_ok (pc := 103) hx hb dX12_linkLines_103 rfl hk) ?_
  refine rz_All_c (i := 22) (fun k J hk hJ => rz_aload_n_ok (pc := 104) hx hb dX12_linkLines_104 rfl hk) ?_
  refine rz_All_c (i := 23) (fun k J hk hJ => rz_getf_ok (pc := 105) (own := RX12) (ref := "ThreadJudgeModel") (C := RX12) (T := TX12) (N := 257) (ci := 14) (index := 706) (f := 43) (t := 0) (Ts := Cond.code yX12_linkLines cX12_linkLines 4 none :: rz_TB) hx hb hts rz_in14 ho hK rfl (by decide) rfl (fun _ => rfl) (hw (i := 32) (j := 20) rfl rfl) (fun _ z => z) dX12_linkLines_105 hk) ?_
  refine rz_All_c (i := 24) (fun k J hk hJ => rz_icmpge_ok (pc := 108) hx hb dX12_linkLines_108 rfl hk (hJ 32)) ?_
  refine rz_All_c (i := 25) (fun k J hk hJ => rz_aload_n_ok (pc := 111) hx hb dX12_linkLines_111 rfl hk) ?_
  refine rz_All_c (i := 26) (fun k J hk hJ => rz_iload_n_ok (pc := 112) hx hb dX12_linkLines_112 rfl hk) ?_
  refine rz_All_c (i := 27) (fun k J hk hJ => rz_callV_ok (pc := 113) (own := RX12) (C := RX12) (T0 := TX12) (N0 := 257) hC rfl (rmX12_isBadCode l hG) (rz_cwV 1 hC rz_good (rz_mem (i := 46) (j := 4) rfl rfl) (rz_mem (i := 46) (j := 5) rfl rfl) (rz_mem (i := 46) (j := 6) rfl rfl) (rz_mem (i := 32) (j := 8) rfl rfl) (rz_mem (i := 46) (j := 7) rfl rfl) ⟨rfl, by decide, by decide, by decide +kernel⟩ rfl rfl ⟨by decide, by decide⟩) rfl dX12_linkLines_113 hk) ?_
  refine rz_All_c (i := 28) (fun k J hk hJ => rz_ifeq_ok (pc := 116) hx hb dX12_linkLines_116 rfl hk (hJ 30)) ?_
  refine rz_All_c (i := 29) (fun k J hk hJ => rz_no_ok) ?_
  refine rz_All_c (i := 30) (fun k J hk hJ => rz_iinc_ok (pc := 129) hx hb dX12_linkLines_129 (by decide) hk) ?_
  refine rz_All_c (i := 31) (fun k J hk hJ => rz_goto_ok (pc := 132) hx hb dX12_linkLines_132 rfl (hJ 21)) ?_
  refine rz_All_c (i := 32) (fun k J hk hJ => rz_iconst_ok (pc := 135) hx hb dX12_linkLines_135 rfl hk) ?_
  refine rz_All_c (i := 33) (fun k J hk hJ => rz_istore_n_ok (pc := 136) hx hb dX12_linkLines_136 rfl hk) ?_
  refine rz_All_c (i := 34) (fun k J hk hJ => rz_iload_n_ok (pc := 137) hx hb dX12_linkLines_137 rfl hk) ?_
  refine rz_All_c (i := 35) (fun k J hk hJ => rz_aload_n_ok (pc := 138) hx hb dX12_linkLines_138 rfl hk) ?_
  refine rz_All_c (i := 36) (fun k J hk hJ => rz_getf_ok (pc := 139) (own := RX12) (ref := "ThreadJudgeModel") (C := RX12) (T := TX12) (N := 257) (ci := 14) (index := 693) (f := 31) (t := 0) (Ts := Cond.code yX12_linkLines cX12_linkLines 4 none :: rz_TB) hx hb hts rz_in14 ho hK rfl (by decide) rfl (fun _ => rfl) (hw (i := 32) (j := 19) rfl rfl) (fun _ z => z) dX12_linkLines_139 hk) ?_
  refine rz_All_c (i := 37) (fun k J hk hJ => rz_icmpge_ok (pc := 142) hx hb dX12_linkLines_142 rfl hk (hJ 55)) ?_
  refine rz_All_c (i := 38) (fun k J hk hJ => rz_bipush_ok (pc := 145) hx hb dX12_linkLines_145 (by decide) hk) ?_
  refine rz_All_c (i := 39) (fun k J hk hJ => rz_iload_n_ok (pc := 147) hx hb dX12_linkLines_147 rfl hk) ?_
  refine rz_All_c (i := 40) (fun k J hk hJ => rz_imul_ok (pc := 148) hx hb dX12_linkLines_148 hk) ?_
  refine rz_All_c (i := 41) (fun k J hk hJ => rz_istore_n_ok (pc := 149) hx hb dX12_linkLines_149 rfl hk) ?_
  refine rz_All_c (i := 42) (fun k J hk hJ => rz_iload_n_ok (pc := 150) hx hb dX12_linkLines_150 rfl hk) ?_
  refine rz_All_c (i := 43) (fun k J hk hJ => rz_bipush_ok (pc := 151) hx hb dX12_linkLines_151 (by decide) hk) ?_
  refine rz_All_c (i := 44) (fun k J hk hJ => rz_iload_n_ok (pc := 153) hx hb dX12_linkLines_153 rfl hk) ?_
  refine rz_All_c (i := 45) (fun k J hk hJ => rz_imul_ok (pc := 154) hx hb dX12_linkLines_154 hk) ?_
  refine rz_All_c (i := 46) (fun k J hk hJ => rz_aload_n_ok (pc := 155) hx hb dX12_linkLines_155 rfl hk) ?_
  refine rz_All_c (i := 47) (fun k J hk hJ => rz_getf_ok (pc := 156) (own := RX12) (ref := "ThreadJudgeModel") (C := RX12) (T := TX12) (N := 257) (ci := 14) (index := 90) (f := 39) (t := 2) (Ts := Cond.code yX12_linkLines cX12_linkLines 4 none :: rz_TB) hx hb hts rz_in14 ho hK rfl (by decide) rfl (fun _ => rfl) (hw (i := 39) (j := 21) rfl rfl) (fun _ z => z) dX12_linkLines_156 hk) ?_
  refine rz_All_c (i := 48) (fun k J hk hJ => rz_iload_n_ok (pc := 159) hx hb dX12_linkLines_159 rfl hk) ?_
  refine rz_All_c (i := 49) (fun k J hk hJ => rz_iald_ok (pc := 160) hx hb hK dX12_linkLines_160 hk) ?_
  refine rz_All_c (i := 50) (fun k J hk hJ => rz_iadd_ok (pc := 161) hx hb dX12_linkLines_161 hk) ?_
  refine rz_All_c (i := 51) (fun k J hk hJ => rz_icmpge_ok (pc := 162) hx hb dX12_linkLines_162 rfl hk (hJ 53)) ?_
  refine rz_All_c (i := 52) (fun k J hk hJ => rz_no_ok) ?_
  refine rz_All_c (i := 53) (fun k J hk hJ => rz_iinc_ok (pc := 374) hx hb dX12_linkLines_374 (by decide) hk) ?_
  refine rz_All_c (i := 54) (fun k J hk hJ => rz_goto_ok (pc := 377) hx hb dX12_linkLines_377 rfl (hJ 34)) ?_
  refine rz_All_c (i := 55) (fun k J hk hJ => rz_vret_ok (pc := 380) hC dX12_linkLines_380) ?_
  exact trivial
theorem dX12_isTorn_0 : decode cX12_isTorn 0 = .ok (.iconst 0, 1) := by decide +kernel
theorem dX12_isTorn_1 : decode cX12_isTorn 1 = .ok (.istore_n 2, 1) := by decide +kernel
theorem dX12_isTorn_2 : decode cX12_isTorn 2 = .ok (.iload_n 2, 1) := by decide +kernel
theorem dX12_isTorn_3 : decode cX12_isTorn 3 = .ok (.aload_n 0, 1) := by decide +kernel
theorem dX12_isTorn_4 : decode cX12_isTorn 4 = .ok (.getfield 693, 3) := by decide +kernel
theorem dX12_isTorn_7 : decode cX12_isTorn 7 = .ok (.if_icmp .ge 188, 3) := by decide +kernel
theorem dX12_isTorn_10 : decode cX12_isTorn 10 = .ok (.aload_n 0, 1) := by decide +kernel
theorem dX12_isTorn_11 : decode cX12_isTorn 11 = .ok (.getfield 78, 3) := by decide +kernel
theorem dX12_isTorn_14 : decode cX12_isTorn 14 = .ok (.iload_n 2, 1) := by decide +kernel
theorem dX12_isTorn_15 : decode cX12_isTorn 15 = .ok (.iaload, 1) := by decide +kernel
theorem dX12_isTorn_16 : decode cX12_isTorn 16 = .ok (.istore_n 3, 1) := by decide +kernel
theorem dX12_isTorn_17 : decode cX12_isTorn 17 = .ok (.iload_n 3, 1) := by decide +kernel
theorem dX12_isTorn_18 : decode cX12_isTorn 18 = .ok (.iload_n 1, 1) := by decide +kernel
theorem dX12_isTorn_19 : decode cX12_isTorn 19 = .ok (.if_icmp .eq 45, 3) := by decide +kernel
theorem dX12_isTorn_22 : decode cX12_isTorn 22 = .ok (.aload_n 0, 1) := by decide +kernel
theorem dX12_isTorn_23 : decode cX12_isTorn 23 = .ok (.getfield 171, 3) := by decide +kernel
theorem dX12_isTorn_26 : decode cX12_isTorn 26 = .ok (.bipush 43, 2) := by decide +kernel
theorem dX12_isTorn_28 : decode cX12_isTorn 28 = .ok (.iload_n 1, 1) := by decide +kernel
theorem dX12_isTorn_29 : decode cX12_isTorn 29 = .ok (.imul, 1) := by decide +kernel
theorem dX12_isTorn_30 : decode cX12_isTorn 30 = .ok (.iload_n 3, 1) := by decide +kernel
theorem dX12_isTorn_31 : decode cX12_isTorn 31 = .ok (.iadd, 1) := by decide +kernel
theorem dX12_isTorn_32 : decode cX12_isTorn 32 = .ok (.baload, 1) := by decide +kernel
theorem dX12_isTorn_33 : decode cX12_isTorn 33 = .ok (.ifCond .eq 31, 3) := by decide +kernel
theorem dX12_isTorn_36 : decode cX12_isTorn 36 = .ok (.aload_n 0, 1) := by decide +kernel
theorem dX12_isTorn_37 : decode cX12_isTorn 37 = .ok (.iload_n 2, 1) := by decide +kernel
theorem dX12_isTorn_38 : decode cX12_isTorn 38 = .ok (.invokevirtual 799, 3) := by decide +kernel
theorem dX12_isTorn_41 : decode cX12_isTorn 41 = .ok (.ifCond .ne 23, 3) := by decide +kernel
theorem dX12_isTorn_44 : decode cX12_isTorn 44 = .ok (.aload_n 0, 1) := by decide +kernel
theorem dX12_isTorn_45 : decode cX12_isTorn 45 = .ok (.getfield 13, 3) := by decide +kernel
theorem dX12_isTorn_48 : decode cX12_isTorn 48 = .ok (.aload_n 0, 1) := by decide +kernel
theorem dX12_isTorn_49 : decode cX12_isTorn 49 = .ok (.getfield 69, 3) := by decide +kernel
theorem dX12_isTorn_52 : decode cX12_isTorn 52 = .ok (.iload_n 2, 1) := by decide +kernel
theorem dX12_isTorn_53 : decode cX12_isTorn 53 = .ok (.iaload, 1) := by decide +kernel
theorem dX12_isTorn_54 : decode cX12_isTorn 54 = .ok (.iaload, 1) := by decide +kernel
theorem dX12_isTorn_55 : decode cX12_isTorn 55 = .ok (.bipush 60, 2) := by decide +kernel
theorem dX12_isTorn_57 : decode cX12_isTorn 57 = .ok (.if_icmp .eq 7, 3) := by decide +kernel
theorem dX12_isTorn_60 : decode cX12_isTorn 60 = .ok (.iconst 1, 1) := by decide +kernel
theorem dX12_isTorn_61 : decode cX12_isTorn 61 = .ok (.goto 4, 3) := by decide +kernel
theorem dX12_isTorn_64 : decode cX12_isTorn 64 = .ok (.iconst 0, 1) := by decide +kernel
theorem dX12_isTorn_65 : decode cX12_isTorn 65 = .ok (.istore 4, 2) := by decide +kernel
theorem dX12_isTorn_67 : decode cX12_isTorn 67 = .ok (.iconst 0, 1) := by decide +kernel
theorem dX12_isTorn_68 : decode cX12_isTorn 68 = .ok (.istore 5, 2) := by decide +kernel
theorem dX12_isTorn_70 : decode cX12_isTorn 70 = .ok (.iload 5, 2) := by decide +kernel
theorem dX12_isTorn_72 : decode cX12_isTorn 72 = .ok (.iload_n 2, 1) := by decide +kernel
theorem dX12_isTorn_73 : decode cX12_isTorn 73 = .ok (.if_icmp .ge 116, 3) := by decide +kernel
theorem dX12_isTorn_76 : decode cX12_isTorn 76 = .ok (.iload 4, 2) := by decide +kernel
theorem dX12_isTorn_78 : decode cX12_isTorn 78 = .ok (.ifCond .eq 111, 3) := by decide +kernel
theorem dX12_isTorn_81 : decode cX12_isTorn 81 = .ok (.aload_n 0, 1) := by decide +kernel
theorem dX12_isTorn_82 : decode cX12_isTorn 82 = .ok (.getfield 78, 3) := by decide +kernel
theorem dX12_isTorn_85 : decode cX12_isTorn 85 = .ok (.iload 5, 2) := by decide +kernel
theorem dX12_isTorn_87 : decode cX12_isTorn 87 = .ok (.iaload, 1) := by decide +kernel
theorem dX12_isTorn_88 : decode cX12_isTorn 88 = .ok (.istore 6, 2) := by decide +kernel
theorem dX12_isTorn_90 : decode cX12_isTorn 90 = .ok (.iload 6, 2) := by decide +kernel
theorem dX12_isTorn_92 : decode cX12_isTorn 92 = .ok (.iload_n 1, 1) := by decide +kernel
theorem dX12_isTorn_93 : decode cX12_isTorn 93 = .ok (.if_icmp .eq 54, 3) := by decide +kernel
theorem dX12_isTorn_96 : decode cX12_isTorn 96 = .ok (.iload 6, 2) := by decide +kernel
theorem dX12_isTorn_98 : decode cX12_isTorn 98 = .ok (.iload_n 3, 1) := by decide +kernel
theorem dX12_isTorn_99 : decode cX12_isTorn 99 = .ok (.if_icmp .eq 48, 3) := by decide +kernel
theorem dX12_isTorn_147 : decode cX12_isTorn 147 = .ok (.iconst 0, 1) := by decide +kernel
theorem dX12_isTorn_148 : decode cX12_isTorn 148 = .ok (.istore 7, 2) := by decide +kernel
theorem dX12_isTorn_150 : decode cX12_isTorn 150 = .ok (.iload 7, 2) := by decide +kernel
theorem dX12_isTorn_152 : decode cX12_isTorn 152 = .ok (.ifCond .eq 31, 3) := by decide +kernel
theorem dX12_isTorn_183 : decode cX12_isTorn 183 = .ok (.iinc 5 1, 3) := by decide +kernel
theorem dX12_isTorn_186 : decode cX12_isTorn 186 = .ok (.goto (-116), 3) := by decide +kernel
theorem dX12_isTorn_189 : decode cX12_isTorn 189 = .ok (.iinc 2 1, 3) := by decide +kernel
theorem dX12_isTorn_192 : decode cX12_isTorn 192 = .ok (.goto (-190), 3) := by decide +kernel
theorem dX12_isTorn_195 : decode cX12_isTorn 195 = .ok (.iconst 0, 1) := by decide +kernel
theorem dX12_isTorn_196 : decode cX12_isTorn 196 = .ok (.ireturn, 1) := by decide +kernel
def rpX12_isTorn : List Nat := [0, 1, 2, 3, 4, 7, 10, 11, 14, 15, 16, 17, 18, 19, 22, 23, 26, 28, 29, 30, 31, 32, 33, 36, 37, 38, 41, 44, 45, 48, 49, 52, 53, 54, 55, 57, 60, 61, 64, 65, 67, 68, 70, 72, 73, 76, 78, 81, 82, 85, 87, 88, 90, 92, 93, 96, 98, 99, 102, 147, 148, 150, 152, 155, 183, 186, 189, 192, 195, 196]
noncomputable def rcX12_isTorn : List rz_B := [rz_cst 0, rz_istore 2, rz_iload 2, rz_aload 0, rz_getf (Nat.add (Nat.mul 256 14) 1) 31 rz_i, rz_icmpge 68, rz_aload 0, rz_getf (Nat.add (Nat.mul 256 14) 1) 35 rz_r, rz_iload 2, rz_iald, rz_istore 3, rz_iload 3, rz_iload 1, rz_icmpeq 38, rz_aload 0, rz_getf (Nat.add (Nat.mul 256 14) 1) 73 rz_r, rz_cst 43, rz_iload 1, rz_imul, rz_iload 3, rz_iadd, rz_zald, rz_ifeq 38, rz_aload 0, rz_iload 2, rz_callV 1 (Nat.add (Nat.mul 256 14) 1) rgX12_isStatic, rz_ifne 38, rz_aload 0, rz_getf (Nat.add (Nat.mul 256 14) 1) 2 rz_r, rz_aload 0, rz_getf (Nat.add (Nat.mul 256 14) 1) 32 rz_r, rz_iload 2, rz_iald, rz_iald, rz_cst 60, rz_icmpeq 38, rz_cst 1, rz_goto 39, rz_cst 0, rz_istore 4, rz_cst 0, rz_istore 5, rz_iload 5, rz_iload 2, rz_icmpge 66, rz_iload 4, rz_ifeq 66, rz_aload 0, rz_getf (Nat.add (Nat.mul 256 14) 1) 35 rz_r, rz_iload 5, rz_iald, rz_istore 6, rz_iload 6, rz_iload 1, rz_icmpeq 59, rz_iload 6, rz_iload 3, rz_icmpeq 59, rz_no, rz_cst 0, rz_istore 7, rz_iload 7, rz_ifeq 64, rz_no, rz_iinc 5 1, rz_goto 42, rz_iinc 2 1, rz_goto 2, rz_cst 0, rz_zret]
noncomputable def rgX12_isTorn : rz_L → rz_M → rz_Z → Bool := rz_go rcX12_isTorn 8 1000000
def rrX12_isTorn : Room := { frames := 2, cells := 0, slots := 0, locals := 43 }
theorem rmX12_isTorn (l : Launch) {G : rz_G} (hG : rz_Gd G) (vs : rz_L) (M : rz_M) (Z : rz_Z) (hn : vs.length = 2) (h : rgX12_isTorn vs M Z = true) : Met l yX12_isTorn (Cond.code yX12_isTorn cX12_isTorn 8 (some .boolean) :: rz_TB) rrX12_isTorn (rz_Pre G vs M) (rz_Qi G M.2 Z) 0 0 (fun q => rz_b G ≤ q) := by
  obtain ⟨D, tc, ad, b, xs, rfl⟩ := id hG
  refine rz_body (pcs := rpX12_isTorn) (by decide) rfl (by rw [hn]; decide) h ?_
  intro p e R s m args below meth c hC
  obtain ⟨hx, hb, hml, hr, hlk, ho, hts, hKn, hRm⟩ := id hC
  obtain ⟨hK, hA, hSt⟩ := id hKn
  have hw : ∀ {i j : Nat} {ws : List Cond} {w : Cond}, rz_WW[i]? = some ws → ws[j]? = some w → w.before args s = true := fun h1 h2 => hts _ (List.mem_cons_of_mem _ (rz_mem h1 h2))
  refine rz_All_c (i := 0) (fun k J hk hJ => rz_iconst_ok (pc := 0) hx hb dX12_isTorn_0 rfl hk) ?_
  refine rz_All_c (i := 1) (fun k J hk hJ => rz_istore_n_ok (pc := 1) hx hb dX12_isTorn_1 rfl hk) ?_
  refine rz_All_c (i := 2) (fun k J hk hJ => rz_iload_n_ok (pc := 2) hx hb dX12_isTorn_2 rfl hk) ?_
  refine rz_All_c (i := 3) (fun k J hk hJ => rz_aload_n_ok (pc := 3) hx hb dX12_isTorn_3 rfl hk) ?_
  refine rz_All_c (i := 4) (fun k J hk hJ => rz_getf_ok (pc := 4) (own := RX12) (ref := "ThreadJudgeModel") (C := RX12) (T := TX12) (N := 257) (ci := 14) (index := 693) (f := 31) (t := 0) (Ts := Cond.code yX12_isTorn cX12_isTorn 8 (some .boolean) :: rz_TB) hx hb hts rz_in14 ho hK rfl (by decide) rfl (fun _ => rfl) (hw (i := 32) (j := 19) rfl rfl) (fun _ z => z) dX12_isTorn_4 hk) ?_
  refine rz_All_c (i := 5) (fun k J hk hJ => rz_icmpge_ok (pc := 7) hx hb dX12_isTorn_7 rfl hk (hJ 68)) ?_
  refine rz_All_c (i := 6) (fun k J hk hJ => rz_aload_n_ok (pc := 10) hx hb dX12_isTorn_10 rfl hk) ?_
  refine rz_All_c (i := 7) (fun k J hk hJ => rz_getf_ok (pc := 11) (own := RX12) (ref := "ThreadJudgeModel") (C := RX12) (T := TX12) (N := 257) (ci := 14) (index := 78) (f := 35) (t := 2) (Ts := Cond.code yX12_isTorn cX12_isTorn 8 (some .boolean) :: rz_TB) hx hb hts rz_in14 ho hK rfl (by decide) rfl (fun _ => rfl) (hw (i := 39) (j := 18) rfl rfl) (fun _ z => z) dX12_isTorn_11 hk) ?_
  refine rz_All_c (i := 8) (fun k J hk hJ => rz_iload_n_ok (pc := 14) hx hb dX12_isTorn_14 rfl hk) ?_
  refine rz_All_c (i := 9) (fun k J hk hJ => rz_iald_ok (pc := 15) hx hb hK dX12_isTorn_15 hk) ?_
  refine rz_All_c (i := 10) (fun k J hk hJ => rz_istore_n_ok (pc := 16) hx hb dX12_isTorn_16 rfl hk) ?_
  refine rz_All_c (i := 11) (fun k J hk hJ => rz_iload_n_ok (pc := 17) hx hb dX12_isTorn_17 rfl hk) ?_
  refine rz_All_c (i := 12) (fun k J hk hJ => rz_iload_n_ok (pc := 18) hx hb dX12_isTorn_18 rfl hk) ?_
  refine rz_All_c (i := 13) (fun k J hk hJ => rz_icmpeq_ok (pc := 19) hx hb dX12_isTorn_19 rfl hk (hJ 38)) ?_
  refine rz_All_c (i := 14) (fun k J hk hJ => rz_aload_n_ok (pc := 22) hx hb dX12_isTorn_22 rfl hk) ?_
  refine rz_All_c (i := 15) (fun k J hk hJ => rz_getf_ok (pc := 23) (own := RX12) (ref := "ThreadJudgeModel") (C := RX12) (T := TX12) (N := 257) (ci := 14) (index := 171) (f := 73) (t := 2) (Ts := Cond.code yX12_isTorn cX12_isTorn 8 (some .boolean) :: rz_TB) hx hb hts rz_in14 ho hK rfl (by decide) rfl (fun _ => rfl) (hw (i := 43) (j := 10) rfl rfl) (fun _ z => z) dX12_isTorn_23 hk) ?_
  refine rz_All_c (i := 16) (fun k J hk hJ => rz_bipush_ok (pc := 26) hx hb dX12_isTorn_26 (by decide) hk) ?_
  refine rz_All_c (i := 17) (fun k J hk hJ => rz_iload_n_ok (pc := 28) hx hb dX12_isTorn_28 rfl hk) ?_
  refine rz_All_c (i := 18) (fun k J hk hJ => rz_imul_ok (pc := 29) hx hb dX12_isTorn_29 hk) ?_
  refine rz_All_c (i := 19) (fun k J hk hJ => rz_iload_n_ok (pc := 30) hx hb dX12_isTorn_30 rfl hk) ?_
  refine rz_All_c (i := 20) (fun k J hk hJ => rz_iadd_ok (pc := 31) hx hb dX12_isTorn_31 hk) ?_
  refine rz_All_c (i := 21) (fun k J hk hJ => rz_zald_ok (pc := 32) hx hb hK dX12_isTorn_32 hk) ?_
  refine rz_All_c (i := 22) (fun k J hk hJ => rz_ifeq_ok (pc := 33) hx hb dX12_isTorn_33 rfl hk (hJ 38)) ?_
  refine rz_All_c (i := 23) (fun k J hk hJ => rz_aload_n_ok (pc := 36) hx hb dX12_isTorn_36 rfl hk) ?_
  refine rz_All_c (i := 24) (fun k J hk hJ => rz_iload_n_ok (pc := 37) hx hb dX12_isTorn_37 rfl hk) ?_
  refine rz_All_c (i := 25) (fun k J hk hJ => rz_callV_ok (pc := 38) (own := RX12) (C := RX12) (T0 := TX12) (N0 := 257) hC rfl (rmX12_isStatic l hG) (rz_cwV 1 hC rz_good (rz_mem (i := 45) (j := 0) rfl rfl) (rz_mem (i := 45) (j := 1) rfl rfl) (rz_mem (i := 45) (j := 2) rfl rfl) (rz_mem (i := 32) (j := 8) rfl rfl) (rz_mem (i := 45) (j := 3) rfl rfl) ⟨rfl, by decide, by decide, by decide +kernel⟩ rfl rfl ⟨by decide, by decide⟩) rfl dX12_isTorn_38 hk) ?_
  refine rz_All_c (i := 26) (fun k J hk hJ => rz_ifne_ok (pc := 41) hx hb dX12_isTorn_41 rfl hk (hJ 38)) ?_
  refine rz_All_c (i := 27) (fun k J hk hJ => rz_aload_n_ok (pc := 44) hx hb dX12_isTorn_44 rfl hk) ?_
  refine rz_All_c (i := 28) (fun k J hk hJ => rz_getf_ok (pc := 45) (own := RX12) (ref := "ThreadJudgeModel") (C := RX12) (T := TX12) (N := 257) (ci := 14) (index := 13) (f := 2) (t := 2) (Ts := Cond.code yX12_isTorn cX12_isTorn 8 (some .boolean) :: rz_TB) hx hb hts rz_in14 ho hK rfl (by decide) rfl (fun _ => rfl) (hw (i := 32) (j := 13) rfl rfl) (fun _ z => z) dX12_isTorn_45 hk) ?_
  refine rz_All_c (i := 29) (fun k J hk hJ => rz_aload_n_ok (pc := 48) hx hb dX12_isTorn_48 rfl hk) ?_
  refine rz_All_c (i := 30) (fun k J hk hJ => rz_getf_ok (pc := 49) (own := RX12) (ref := "ThreadJudgeModel") (C := RX12) (T := TX12) (N := 257) (ci := 14) (index := 69) (f := 32) (t := 2) (Ts := Cond.code yX12_isTorn cX12_isTorn 8 (some .boolean) :: rz_TB) hx hb hts rz_in14 ho hK rfl (by decide) rfl (fun _ => rfl) (hw (i := 39) (j := 15) rfl rfl) (fun _ z => z) dX12_isTorn_49 hk) ?_
  refine rz_All_c (i := 31) (fun k J hk hJ => rz_iload_n_ok (pc := 52) hx hb dX12_isTorn_52 rfl hk) ?_
  refine rz_All_c (i := 32) (fun k J hk hJ => rz_iald_ok (pc := 53) hx hb hK dX12_isTorn_53 hk) ?_
  refine rz_All_c (i := 33) (fun k J hk hJ => rz_iald_ok (pc := 54) hx hb hK dX12_isTorn_54 hk) ?_
  refine rz_All_c (i := 34) (fun k J hk hJ => rz_bipush_ok (pc := 55) hx hb dX12_isTorn_55 (by decide) hk) ?_
  refine rz_All_c (i := 35) (fun k J hk hJ => rz_icmpeq_ok (pc := 57) hx hb dX12_isTorn_57 rfl hk (hJ 38)) ?_
  refine rz_All_c (i := 36) (fun k J hk hJ => rz_iconst_ok (pc := 60) hx hb dX12_isTorn_60 rfl hk) ?_
  refine rz_All_c (i := 37) (fun k J hk hJ => rz_goto_ok (pc := 61) hx hb dX12_isTorn_61 rfl (hJ 39)) ?_
  refine rz_All_c (i := 38) (fun k J hk hJ => rz_iconst_ok (pc := 64) hx hb dX12_isTorn_64 rfl hk) ?_
  refine rz_All_c (i := 39) (fun k J hk hJ => rz_istore_ok (pc := 65) hx hb dX12_isTorn_65 hk) ?_
  refine rz_All_c (i := 40) (fun k J hk hJ => rz_iconst_ok (pc := 67) hx hb dX12_isTorn_67 rfl hk) ?_
  refine rz_All_c (i := 41) (fun k J hk hJ => rz_istore_ok (pc := 68) hx hb dX12_isTorn_68 hk) ?_
  refine rz_All_c (i := 42) (fun k J hk hJ => rz_iload_ok (pc := 70) hx hb dX12_isTorn_70 hk) ?_
  refine rz_All_c (i := 43) (fun k J hk hJ => rz_iload_n_ok (pc := 72) hx hb dX12_isTorn_72 rfl hk) ?_
  refine rz_All_c (i := 44) (fun k J hk hJ => rz_icmpge_ok (pc := 73) hx hb dX12_isTorn_73 rfl hk (hJ 66)) ?_
  refine rz_All_c (i := 45) (fun k J hk hJ => rz_iload_ok (pc := 76) hx hb dX12_isTorn_76 hk) ?_
  refine rz_All_c (i := 46) (fun k J hk hJ => rz_ifeq_ok (pc := 78) hx hb dX12_isTorn_78 rfl hk (hJ 66)) ?_
  refine rz_All_c (i := 47) (fun k J hk hJ => rz_aload_n_ok (pc := 81) hx hb dX12_isTorn_81 rfl hk) ?_
  refine rz_All_c (i := 48) (fun k J hk hJ => rz_getf_ok (pc := 82) (own := RX12) (ref := "ThreadJudgeModel") (C := RX12) (T := TX12) (N := 257) (ci := 14) (index := 78) (f := 35) (t := 2) (Ts := Cond.code yX12_isTorn cX12_isTorn 8 (some .boolean) :: rz_TB) hx hb hts rz_in14 ho hK rfl (by decide) rfl (fun _ => rfl) (hw (i := 39) (j := 18) rfl rfl) (fun _ z => z) dX12_isTorn_82 hk) ?_
  refine rz_All_c (i := 49) (fun k J hk hJ => rz_iload_ok (pc := 85) hx hb dX12_isTorn_85 hk) ?_
  refine rz_All_c (i := 50) (fun k J hk hJ => rz_iald_ok (pc := 87) hx hb hK dX12_isTorn_87 hk) ?_
  refine rz_All_c (i := 51) (fun k J hk hJ => rz_istore_ok (pc := 88) hx hb dX12_isTorn_88 hk) ?_
  refine rz_All_c (i := 52) (fun k J hk hJ => rz_iload_ok (pc := 90) hx hb dX12_isTorn_90 hk) ?_
  refine rz_All_c (i := 53) (fun k J hk hJ => rz_iload_n_ok (pc := 92) hx hb dX12_isTorn_92 rfl hk) ?_
  refine rz_All_c (i := 54) (fun k J hk hJ => rz_icmpeq_ok (pc := 93) hx hb dX12_isTorn_93 rfl hk (hJ 59)) ?_
  refine rz_All_c (i := 55) (fun k J hk hJ => rz_iload_ok (pc := 96) hx hb dX12_isTorn_96 hk) ?_
  refine rz_All_c (i := 56) (fun k J hk hJ => rz_iload_n_ok (pc := 98) hx hb dX12_isTorn_98 rfl hk) ?_
  refine rz_All_c (i := 57) (fun k J hk hJ => rz_icmpeq_ok (pc := 99) hx hb dX12_isTorn_99 rfl hk (hJ 59)) ?_
  refine rz_All_c (i := 58) (fun k J hk hJ => rz_no_ok) ?_
  refine rz_All_c (i := 59) (fun k J hk hJ => rz_iconst_ok (pc := 147) hx hb dX12_isTorn_147 rfl hk) ?_
  refine rz_All_c (i := 60) (fun k J hk hJ => rz_istore_ok (pc := 148) hx hb dX12_isTorn_148 hk) ?_
  refine rz_All_c (i := 61) (fun k J hk hJ => rz_iload_ok (pc := 150) hx hb dX12_isTorn_150 hk) ?_
  refine rz_All_c (i := 62) (fun k J hk hJ => rz_ifeq_ok (pc := 152) hx hb dX12_isTorn_152 rfl hk (hJ 64)) ?_
  refine rz_All_c (i := 63) (fun k J hk hJ => rz_no_ok) ?_
  refine rz_All_c (i := 64) (fun k J hk hJ => rz_iinc_ok (pc := 183) hx hb dX12_isTorn_183 (by decide) hk) ?_
  refine rz_All_c (i := 65) (fun k J hk hJ => rz_goto_ok (pc := 186) hx hb dX12_isTorn_186 rfl (hJ 42)) ?_
  refine rz_All_c (i := 66) (fun k J hk hJ => rz_iinc_ok (pc := 189) hx hb dX12_isTorn_189 (by decide) hk) ?_
  refine rz_All_c (i := 67) (fun k J hk hJ => rz_goto_ok (pc := 192) hx hb dX12_isTorn_192 rfl (hJ 2)) ?_
  refine rz_All_c (i := 68) (fun k J hk hJ => rz_iconst_ok (pc := 195) hx hb dX12_isTorn_195 rfl hk) ?_
  refine rz_All_c (i := 69) (fun k J hk hJ => rz_zret_ok (pc := 196) hC dX12_isTorn_196) ?_
  exact trivial
theorem dX12_isPlain_0 : decode cX12_isPlain 0 = .ok (.iload_n 0, 1) := by decide +kernel
theorem dX12_isPlain_1 : decode cX12_isPlain 1 = .ok (.iconst (-1), 1) := by decide +kernel
theorem dX12_isPlain_2 : decode cX12_isPlain 2 = .ok (.if_icmp .eq 20, 3) := by decide +kernel
theorem dX12_isPlain_5 : decode cX12_isPlain 5 = .ok (.iload_n 0, 1) := by decide +kernel
theorem dX12_isPlain_6 : decode cX12_isPlain 6 = .ok (.bipush 101, 2) := by decide +kernel
theorem dX12_isPlain_8 : decode cX12_isPlain 8 = .ok (.if_icmp .eq 14, 3) := by decide +kernel
theorem dX12_isPlain_11 : decode cX12_isPlain 11 = .ok (.iload_n 0, 1) := by decide +kernel
theorem dX12_isPlain_12 : decode cX12_isPlain 12 = .ok (.sipush 301, 3) := by decide +kernel
theorem dX12_isPlain_15 : decode cX12_isPlain 15 = .ok (.if_icmp .eq 7, 3) := by decide +kernel
theorem dX12_isPlain_18 : decode cX12_isPlain 18 = .ok (.iconst 1, 1) := by decide +kernel
theorem dX12_isPlain_19 : decode cX12_isPlain 19 = .ok (.goto 4, 3) := by decide +kernel
theorem dX12_isPlain_23 : decode cX12_isPlain 23 = .ok (.ireturn, 1) := by decide +kernel
def rpX12_isPlain : List Nat := [0, 1, 2, 5, 6, 8, 11, 12, 15, 18, 19, 22, 23]
noncomputable def rcX12_isPlain : List rz_B := [rz_iload 0, rz_cst 4294967295, rz_icmpeq 11, rz_iload 0, rz_cst 101, rz_icmpeq 11, rz_iload 0, rz_cst 301, rz_icmpeq 11, rz_cst 1, rz_goto 12, rz_no, rz_zret]
noncomputable def rgX12_isPlain : rz_L → rz_M → rz_Z → Bool := rz_go rcX12_isPlain 1 1000000
def rrX12_isPlain : Room := { frames := 0, cells := 0, slots := 0, locals := 0 }
theorem rmX12_isPlain (l : Launch) {G : rz_G} (hG : rz_Gd G) (vs : rz_L) (M : rz_M) (Z : rz_Z) (hn : vs.length = 1) (h : rgX12_isPlain vs M Z = true) : Met l yX12_isPlain (Cond.code yX12_isPlain cX12_isPlain 1 (some .boolean) :: rz_TB) rrX12_isPlain (rz_Pre G vs M) (rz_Qi G M.2 Z) 0 0 (fun q => rz_b G ≤ q) := by
  obtain ⟨D, tc, ad, b, xs, rfl⟩ := id hG
  refine rz_body (pcs := rpX12_isPlain) (by decide) rfl (by rw [hn]; decide) h ?_
  intro p e R s m args below meth c hC
  obtain ⟨hx, hb, hml, hr, hlk, ho, hts, hKn, hRm⟩ := id hC
  obtain ⟨hK, hA, hSt⟩ := id hKn
  have hw : ∀ {i j : Nat} {ws : List Cond} {w : Cond}, rz_WW[i]? = some ws → ws[j]? = some w → w.before args s = true := fun h1 h2 => hts _ (List.mem_cons_of_mem _ (rz_mem h1 h2))
  refine rz_All_c (i := 0) (fun k J hk hJ => rz_iload_n_ok (pc := 0) hx hb dX12_isPlain_0 rfl hk) ?_
  refine rz_All_c (i := 1) (fun k J hk hJ => rz_iconst_ok (pc := 1) hx hb dX12_isPlain_1 rfl hk) ?_
  refine rz_All_c (i := 2) (fun k J hk hJ => rz_icmpeq_ok (pc := 2) hx hb dX12_isPlain_2 rfl hk (hJ 11)) ?_
  refine rz_All_c (i := 3) (fun k J hk hJ => rz_iload_n_ok (pc := 5) hx hb dX12_isPlain_5 rfl hk) ?_
  refine rz_All_c (i := 4) (fun k J hk hJ => rz_bipush_ok (pc := 6) hx hb dX12_isPlain_6 (by decide) hk) ?_
  refine rz_All_c (i := 5) (fun k J hk hJ => rz_icmpeq_ok (pc := 8) hx hb dX12_isPlain_8 rfl hk (hJ 11)) ?_
  refine rz_All_c (i := 6) (fun k J hk hJ => rz_iload_n_ok (pc := 11) hx hb dX12_isPlain_11 rfl hk) ?_
  refine rz_All_c (i := 7) (fun k J hk hJ => rz_sipush_ok (pc := 12) hx hb dX12_isPlain_12 (by decide) hk) ?_
  refine rz_All_c (i := 8) (fun k J hk hJ => rz_icmpeq_ok (pc := 15) hx hb dX12_isPlain_15 rfl hk (hJ 11)) ?_
  refine rz_All_c (i := 9) (fun k J hk hJ => rz_iconst_ok (pc := 18) hx hb dX12_isPlain_18 rfl hk) ?_
  refine rz_All_c (i := 10) (fun k J hk hJ => rz_goto_ok (pc := 19) hx hb dX12_isPlain_19 rfl (hJ 12)) ?_
  refine rz_All_c (i := 11) (fun k J hk hJ => rz_no_ok) ?_
  refine rz_All_c (i := 12) (fun k J hk hJ => rz_zret_ok (pc := 23) hC dX12_isPlain_23) ?_
  exact trivial
theorem dX12_linkField_0 : decode cX12_linkField 0 = .ok (.aload_n 0, 1) := by decide +kernel
theorem dX12_linkField_1 : decode cX12_linkField 1 = .ok (.getfield 63, 3) := by decide +kernel
theorem dX12_linkField_4 : decode cX12_linkField 4 = .ok (.iload_n 1, 1) := by decide +kernel
theorem dX12_linkField_5 : decode cX12_linkField 5 = .ok (.iaload, 1) := by decide +kernel
theorem dX12_linkField_6 : decode cX12_linkField 6 = .ok (.istore_n 2, 1) := by decide +kernel
theorem dX12_linkField_7 : decode cX12_linkField 7 = .ok (.aload_n 0, 1) := by decide +kernel
theorem dX12_linkField_8 : decode cX12_linkField 8 = .ok (.getfield 66, 3) := by decide +kernel
theorem dX12_linkField_11 : decode cX12_linkField 11 = .ok (.iload_n 1, 1) := by decide +kernel
theorem dX12_linkField_12 : decode cX12_linkField 12 = .ok (.iaload, 1) := by decide +kernel
theorem dX12_linkField_13 : decode cX12_linkField 13 = .ok (.istore_n 3, 1) := by decide +kernel
theorem dX12_linkField_14 : decode cX12_linkField 14 = .ok (.aload_n 0, 1) := by decide +kernel
theorem dX12_linkField_15 : decode cX12_linkField 15 = .ok (.getfield 174, 3) := by decide +kernel
theorem dX12_linkField_18 : decode cX12_linkField 18 = .ok (.iload_n 1, 1) := by decide +kernel
theorem dX12_linkField_19 : decode cX12_linkField 19 = .ok (.aload_n 0, 1) := by decide +kernel
theorem dX12_linkField_20 : decode cX12_linkField 20 = .ok (.iload_n 1, 1) := by decide +kernel
theorem dX12_linkField_21 : decode cX12_linkField 21 = .ok (.invokevirtual 787, 3) := by decide +kernel
theorem dX12_linkField_24 : decode cX12_linkField 24 = .ok (.iastore, 1) := by decide +kernel
theorem dX12_linkField_25 : decode cX12_linkField 25 = .ok (.aload_n 0, 1) := by decide +kernel
theorem dX12_linkField_26 : decode cX12_linkField 26 = .ok (.getfield 174, 3) := by decide +kernel
theorem dX12_linkField_29 : decode cX12_linkField 29 = .ok (.iload_n 1, 1) := by decide +kernel
theorem dX12_linkField_30 : decode cX12_linkField 30 = .ok (.iaload, 1) := by decide +kernel
theorem dX12_linkField_31 : decode cX12_linkField 31 = .ok (.invokestatic 790, 3) := by decide +kernel
theorem dX12_linkField_34 : decode cX12_linkField 34 = .ok (.ifCond .eq 50, 3) := by decide +kernel
theorem dX12_linkField_37 : decode cX12_linkField 37 = .ok (.aload_n 0, 1) := by decide +kernel
theorem dX12_linkField_38 : decode cX12_linkField 38 = .ok (.getfield 13, 3) := by decide +kernel
theorem dX12_linkField_41 : decode cX12_linkField 41 = .ok (.aload_n 0, 1) := by decide +kernel
theorem dX12_linkField_42 : decode cX12_linkField 42 = .ok (.getfield 57, 3) := by decide +kernel
theorem dX12_linkField_45 : decode cX12_linkField 45 = .ok (.iload_n 1, 1) := by decide +kernel
theorem dX12_linkField_46 : decode cX12_linkField 46 = .ok (.iaload, 1) := by decide +kernel
theorem dX12_linkField_47 : decode cX12_linkField 47 = .ok (.iaload, 1) := by decide +kernel
theorem dX12_linkField_48 : decode cX12_linkField 48 = .ok (.bipush 60, 2) := by decide +kernel
theorem dX12_linkField_50 : decode cX12_linkField 50 = .ok (.if_icmp .eq 34, 3) := by decide +kernel
theorem dX12_linkField_53 : decode cX12_linkField 53 = .ok (.iload_n 2, 1) := by decide +kernel
theorem dX12_linkField_54 : decode cX12_linkField 54 = .ok (.bipush 24, 2) := by decide +kernel
theorem dX12_linkField_56 : decode cX12_linkField 56 = .ok (.iand, 1) := by decide +kernel
theorem dX12_linkField_57 : decode cX12_linkField 57 = .ok (.ifCond .ne 27, 3) := by decide +kernel
theorem dX12_linkField_60 : decode cX12_linkField 60 = .ok (.iload_n 2, 1) := by decide +kernel
theorem dX12_linkField_61 : decode cX12_linkField 61 = .ok (.bipush 6, 2) := by decide +kernel
theorem dX12_linkField_63 : decode cX12_linkField 63 = .ok (.iand, 1) := by decide +kernel
theorem dX12_linkField_64 : decode cX12_linkField 64 = .ok (.bipush 6, 2) := by decide +kernel
theorem dX12_linkField_66 : decode cX12_linkField 66 = .ok (.if_icmp .eq 18, 3) := by decide +kernel
theorem dX12_linkField_69 : decode cX12_linkField 69 = .ok (.aload_n 0, 1) := by decide +kernel
theorem dX12_linkField_70 : decode cX12_linkField 70 = .ok (.getfield 26, 3) := by decide +kernel
theorem dX12_linkField_73 : decode cX12_linkField 73 = .ok (.iload_n 3, 1) := by decide +kernel
theorem dX12_linkField_74 : decode cX12_linkField 74 = .ok (.baload, 1) := by decide +kernel
theorem dX12_linkField_75 : decode cX12_linkField 75 = .ok (.ifCond .eq 13, 3) := by decide +kernel
theorem dX12_linkField_88 : decode cX12_linkField 88 = .ok (.iconst 0, 1) := by decide +kernel
theorem dX12_linkField_89 : decode cX12_linkField 89 = .ok (.istore 4, 2) := by decide +kernel
theorem dX12_linkField_91 : decode cX12_linkField 91 = .ok (.aload_n 0, 1) := by decide +kernel
theorem dX12_linkField_92 : decode cX12_linkField 92 = .ok (.getfield 51, 3) := by decide +kernel
theorem dX12_linkField_95 : decode cX12_linkField 95 = .ok (.iload_n 3, 1) := by decide +kernel
theorem dX12_linkField_96 : decode cX12_linkField 96 = .ok (.iaload, 1) := by decide +kernel
theorem dX12_linkField_97 : decode cX12_linkField 97 = .ok (.istore 5, 2) := by decide +kernel
theorem dX12_linkField_99 : decode cX12_linkField 99 = .ok (.iload 5, 2) := by decide +kernel
theorem dX12_linkField_101 : decode cX12_linkField 101 = .ok (.iload_n 1, 1) := by decide +kernel
theorem dX12_linkField_102 : decode cX12_linkField 102 = .ok (.if_icmp .ge 54, 3) := by decide +kernel
theorem dX12_linkField_156 : decode cX12_linkField 156 = .ok (.iload 4, 2) := by decide +kernel
theorem dX12_linkField_158 : decode cX12_linkField 158 = .ok (.ifCond .eq 13, 3) := by decide +kernel
theorem dX12_linkField_171 : decode cX12_linkField 171 = .ok (.return_, 1) := by decide +kernel
def rpX12_linkField : List Nat := [0, 1, 4, 5, 6, 7, 8, 11, 12, 13, 14, 15, 18, 19, 20, 21, 24, 25, 26, 29, 30, 31, 34, 37, 38, 41, 42, 45, 46, 47, 48, 50, 53, 54, 56, 57, 60, 61, 63, 64, 66, 69, 70, 73, 74, 75, 78, 84, 88, 89, 91, 92, 95, 96, 97, 99, 101, 102, 105, 156, 158, 161, 171]
noncomputable def rcX12_linkField : List rz_B := [rz_aload 0, rz_getf (Nat.add (Nat.mul 256 14) 1) 29 rz_r, rz_iload 1, rz_iald, rz_istore 2, rz_aload 0, rz_getf (Nat.add (Nat.mul 256 14) 1) 30 rz_r, rz_iload 1, rz_iald, rz_istore 3, rz_aload 0, rz_getf (Nat.add (Nat.mul 256 14) 1) 74 rz_r, rz_iload 1, rz_aload 0, rz_iload 1, rz_callV 1 (Nat.add (Nat.mul 256 14) 1) rgX12_codeOf, rz_iast, rz_aload 0, rz_getf (Nat.add (Nat.mul 256 14) 1) 74 rz_r, rz_iload 1, rz_iald, rz_callS 1 rgX12_isPlain, rz_ifeq 47, rz_aload 0, rz_getf (Nat.add (Nat.mul 256 14) 1) 2 rz_r, rz_aload 0, rz_getf (Nat.add (Nat.mul 256 14) 1) 27 rz_r, rz_iload 1, rz_iald, rz_iald, rz_cst 60, rz_icmpeq 47, rz_iload 2, rz_cst 24, rz_iand, rz_ifne 47, rz_iload 2, rz_cst 6, rz_iand, rz_cst 6, rz_icmpeq 47, rz_aload 0, rz_getf (Nat.add (Nat.mul 256 14) 1) 16 rz_r, rz_iload 3, rz_zald, rz_ifeq 48, rz_no, rz_no, rz_cst 0, rz_istore 4, rz_aload 0, rz_getf (Nat.add (Nat.mul 256 14) 1) 24 rz_r, rz_iload 3, rz_iald, rz_istore 5, rz_iload 5, rz_iload 1, rz_icmpge 59, rz_no, rz_iload 4, rz_ifeq 62, rz_no, rz_vret]
noncomputable def rgX12_linkField : rz_L → rz_M → rz_Z → Bool := rz_go rcX12_linkField 6 1000000
def rrX12_linkField : Room := { frames := 6, cells := 0, slots := 0, locals := 174 }
theorem rmX12_linkField (l : Launch) {G : rz_G} (hG : rz_Gd G) (vs : rz_L) (M : rz_M) (Z : rz_Z) (hn : vs.length = 2) (h : rgX12_linkField vs M Z = true) : Met l yX12_linkField (Cond.code yX12_linkField cX12_linkField 6 none :: rz_TB) rrX12_linkField (rz_Pre G vs M) (rz_Qv G M.2 Z) 0 0 (fun q => rz_b G ≤ q) := by
  obtain ⟨D, tc, ad, b, xs, rfl⟩ := id hG
  refine rz_body (pcs := rpX12_linkField) (by decide) rfl (by rw [hn]; decide) h ?_
  intro p e R s m args below meth c hC
  obtain ⟨hx, hb, hml, hr, hlk, ho, hts, hKn, hRm⟩ := id hC
  obtain ⟨hK, hA, hSt⟩ := id hKn
  have hw : ∀ {i j : Nat} {ws : List Cond} {w : Cond}, rz_WW[i]? = some ws → ws[j]? = some w → w.before args s = true := fun h1 h2 => hts _ (List.mem_cons_of_mem _ (rz_mem h1 h2))
  refine rz_All_c (i := 0) (fun k J hk hJ => rz_aload_n_ok (pc := 0) hx hb dX12_linkField_0 rfl hk) ?_
  refine rz_All_c (i := 1) (fun k J hk hJ => rz_getf_ok (pc := 1) (own := RX12) (ref := "ThreadJudgeModel") (C := RX12) (T := TX12) (N := 257) (ci := 14) (index := 63) (f := 29) (t := 2) (Ts := Cond.code yX12_linkField cX12_linkField 6 none :: rz_TB) hx hb hts rz_in14 ho hK rfl (by decide) rfl (fun _ => rfl) (hw (i := 39) (j := 2) rfl rfl) (fun _ z => z) dX12_linkField_1 hk) ?_
  refine rz_All_c (i := 2) (fun k J hk hJ => rz_iload_n_ok (pc := 4) hx hb dX12_linkField_4 rfl hk) ?_
  refine rz_All_c (i := 3) (fun k J hk hJ => rz_iald_ok (pc := 5) hx hb hK dX12_linkField_5 hk) ?_
  refine rz_All_c (i := 4) (fun k J hk hJ => rz_istore_n_ok (pc := 6) hx hb dX12_linkField_6 rfl hk) ?_
  refine rz_All_c (i := 5) (fun k J hk hJ => rz_aload_n_ok (pc := 7) hx hb dX12_linkField_7 rfl hk) ?_
  refine rz_All_c (i := 6) (fun k J hk hJ => rz_getf_ok (pc := 8) (own := RX12) (ref := "ThreadJudgeModel") (C := RX12) (T := TX12) (N := 257) (ci := 14) (index := 66) (f := 30) (t := 2) (Ts := Cond.code yX12_linkField cX12_linkField 6 none :: rz_TB) hx hb hts rz_in14 ho hK rfl (by decide) rfl (fun _ => rfl) (hw (i := 39) (j := 3) rfl rfl) (fun _ z => z) dX12_linkField_8 hk) ?_
  refine rz_All_c (i := 7) (fun k J hk hJ => rz_iload_n_ok (pc := 11) hx hb dX12_linkField_11 rfl hk) ?_
  refine rz_All_c (i := 8) (fun k J hk hJ => rz_iald_ok (pc := 12) hx hb hK dX12_linkField_12 hk) ?_
  refine rz_All_c (i := 9) (fun k J hk hJ => rz_istore_n_ok (pc := 13) hx hb dX12_linkField_13 rfl hk) ?_
  refine rz_All_c (i := 10) (fun k J hk hJ => rz_aload_n_ok (pc := 14) hx hb dX12_linkField_14 rfl hk) ?_
  refine rz_All_c (i := 11) (fun k J hk hJ => rz_getf_ok (pc := 15) (own := RX12) (ref := "ThreadJudgeModel") (C := RX12) (T := TX12) (N := 257) (ci := 14) (index := 174) (f := 74) (t := 2) (Ts := Cond.code yX12_linkField cX12_linkField 6 none :: rz_TB) hx hb hts rz_in14 ho hK rfl (by decide) rfl (fun _ => rfl) (hw (i := 44) (j := 0) rfl rfl) (fun _ z => z) dX12_linkField_15 hk) ?_
  refine rz_All_c (i := 12) (fun k J hk hJ => rz_iload_n_ok (pc := 18) hx hb dX12_linkField_18 rfl hk) ?_
  refine rz_All_c (i := 13) (fun k J hk hJ => rz_aload_n_ok (pc := 19) hx hb dX12_linkField_19 rfl hk) ?_
  refine rz_All_c (i := 14) (fun k J hk hJ => rz_iload_n_ok (pc := 20) hx hb dX12_linkField_20 rfl hk) ?_
  refine rz_All_c (i := 15) (fun k J hk hJ => rz_callV_ok (pc := 21) (own := RX12) (C := RX12) (T0 := TX12) (N0 := 257) hC rfl (rmX12_codeOf l hG) (rz_cwV 1 hC rz_good (rz_mem (i := 44) (j := 1) rfl rfl) (rz_mem (i := 44) (j := 2) rfl rfl) (rz_mem (i := 44) (j := 3) rfl rfl) (rz_mem (i := 32) (j := 8) rfl rfl) (rz_mem (i := 44) (j := 4) rfl rfl) ⟨rfl, by decide, by decide, by decide +kernel⟩ rfl rfl ⟨by decide, by decide⟩) rfl dX12_linkField_21 hk) ?_
  refine rz_All_c (i := 16) (fun k J hk hJ => rz_iast_ok (pc := 24) hx hb hK hA dX12_linkField_24 hk) ?_
  refine rz_All_c (i := 17) (fun k J hk hJ => rz_aload_n_ok (pc := 25) hx hb dX12_linkField_25 rfl hk) ?_
  refine rz_All_c (i := 18) (fun k J hk hJ => rz_getf_ok (pc := 26) (own := RX12) (ref := "ThreadJudgeModel") (C := RX12) (T := TX12) (N := 257) (ci := 14) (index := 174) (f := 74) (t := 2) (Ts := Cond.code yX12_linkField cX12_linkField 6 none :: rz_TB) hx hb hts rz_in14 ho hK rfl (by decide) rfl (fun _ => rfl) (hw (i := 44) (j := 0) rfl rfl) (fun _ z => z) dX12_linkField_26 hk) ?_
  refine rz_All_c (i := 19) (fun k J hk hJ => rz_iload_n_ok (pc := 29) hx hb dX12_linkField_29 rfl hk) ?_
  refine rz_All_c (i := 20) (fun k J hk hJ => rz_iald_ok (pc := 30) hx hb hK dX12_linkField_30 hk) ?_
  refine rz_All_c (i := 21) (fun k J hk hJ => rz_callS_ok (pc := 31) (own := RX12) hC rfl (rmX12_isPlain l hG) (rz_cwS 1 hC rz_good (rz_mem (i := 44) (j := 5) rfl rfl) (rz_mem (i := 44) (j := 6) rfl rfl) (rz_mem (i := 32) (j := 8) rfl rfl) (rz_mem (i := 44) (j := 7) rfl rfl) ⟨rfl, by decide, by decide, by decide +kernel⟩ rfl rfl ⟨by decide, by decide⟩) dX12_linkField_31 hk) ?_
  refine rz_All_c (i := 22) (fun k J hk hJ => rz_ifeq_ok (pc := 34) hx hb dX12_linkField_34 rfl hk (hJ 47)) ?_
  refine rz_All_c (i := 23) (fun k J hk hJ => rz_aload_n_ok (pc := 37) hx hb dX12_linkField_37 rfl hk) ?_
  refine rz_All_c (i := 24) (fun k J hk hJ => rz_getf_ok (pc := 38) (own := RX12) (ref := "ThreadJudgeModel") (C := RX12) (T := TX12) (N := 257) (ci := 14) (index := 13) (f := 2) (t := 2) (Ts := Cond.code yX12_linkField cX12_linkField 6 none :: rz_TB) hx hb hts rz_in14 ho hK rfl (by decide) rfl (fun _ => rfl) (hw (i := 32) (j := 13) rfl rfl) (fun _ z => z) dX12_linkField_38 hk) ?_
  refine rz_All_c (i := 25) (fun k J hk hJ => rz_aload_n_ok (pc := 41) hx hb dX12_linkField_41 rfl hk) ?_
  refine rz_All_c (i := 26) (fun k J hk hJ => rz_getf_ok (pc := 42) (own := RX12) (ref := "ThreadJudgeModel") (C := RX12) (T := TX12) (N := 257) (ci := 14) (index := 57) (f := 27) (t := 2) (Ts := Cond.code yX12_linkField cX12_linkField 6 none :: rz_TB) hx hb hts rz_in14 ho hK rfl (by decide) rfl (fun _ => rfl) (hw (i := 39) (j := 0) rfl rfl) (fun _ z => z) dX12_linkField_42 hk) ?_
  refine rz_All_c (i := 27) (fun k J hk hJ => rz_iload_n_ok (pc := 45) hx hb dX12_linkField_45 rfl hk) ?_
  refine rz_All_c (i := 28) (fun k J hk hJ => rz_iald_ok (pc := 46) hx hb hK dX12_linkField_46 hk) ?_
  refine rz_All_c (i := 29) (fun k J hk hJ => rz_iald_ok (pc := 47) hx hb hK dX12_linkField_47 hk) ?_
  refine rz_All_c (i := 30) (fun k J hk hJ => rz_bipush_ok (pc := 48) hx hb dX12_linkField_48 (by decide) hk) ?_
  refine rz_All_c (i := 31) (fun k J hk hJ => rz_icmpeq_ok (pc := 50) hx hb dX12_linkField_50 rfl hk (hJ 47)) ?_
  refine rz_All_c (i := 32) (fun k J hk hJ => rz_iload_n_ok (pc := 53) hx hb dX12_linkField_53 rfl hk) ?_
  refine rz_All_c (i := 33) (fun k J hk hJ => rz_bipush_ok (pc := 54) hx hb dX12_linkField_54 (by decide) hk) ?_
  refine rz_All_c (i := 34) (fun k J hk hJ => rz_iand_ok (pc := 56) hx hb dX12_linkField_56 hk) ?_
  refine rz_All_c (i := 35) (fun k J hk hJ => rz_ifne_ok (pc := 57) hx hb dX12_linkField_57 rfl hk (hJ 47)) ?_
  refine rz_All_c (i := 36) (fun k J hk hJ => rz_iload_n_ok (pc := 60) hx hb dX12_linkField_60 rfl hk) ?_
  refine rz_All_c (i := 37) (fun k J hk hJ => rz_bipush_ok (pc := 61) hx hb dX12_linkField_61 (by decide) hk) ?_
  refine rz_All_c (i := 38) (fun k J hk hJ => rz_iand_ok (pc := 63) hx hb dX12_linkField_63 hk) ?_
  refine rz_All_c (i := 39) (fun k J hk hJ => rz_bipush_ok (pc := 64) hx hb dX12_linkField_64 (by decide) hk) ?_
  refine rz_All_c (i := 40) (fun k J hk hJ => rz_icmpeq_ok (pc := 66) hx hb dX12_linkField_66 rfl hk (hJ 47)) ?_
  refine rz_All_c (i := 41) (fun k J hk hJ => rz_aload_n_ok (pc := 69) hx hb dX12_linkField_69 rfl hk) ?_
  refine rz_All_c (i := 42) (fun k J hk hJ => rz_getf_ok (pc := 70) (own := RX12) (ref := "ThreadJudgeModel") (C := RX12) (T := TX12) (N := 257) (ci := 14) (index := 26) (f := 16) (t := 2) (Ts := Cond.code yX12_linkField cX12_linkField 6 none :: rz_TB) hx hb hts rz_in14 ho hK rfl (by decide) rfl (fun _ => rfl) (hw (i := 36) (j := 14) rfl rfl) (fun _ z => z) dX12_linkField_70 hk) ?_
  refine rz_All_c (i := 43) (fun k J hk hJ => rz_iload_n_ok (pc := 73) hx hb dX12_linkField_73 rfl hk) ?_
  refine rz_All_c (i := 44) (fun k J hk hJ => rz_zald_ok (pc := 74) hx hb hK dX12_linkField_74 hk) ?_
  refine rz_All_c (i := 45) (fun k J hk hJ => rz_ifeq_ok (pc := 75) hx hb dX12_linkField_75 rfl hk (hJ 48)) ?_
  refine rz_All_c (i := 46) (fun k J hk hJ => rz_no_ok) ?_
  refine rz_All_c (i := 47) (fun k J hk hJ => rz_no_ok) ?_
  refine rz_All_c (i := 48) (fun k J hk hJ => rz_iconst_ok (pc := 88) hx hb dX12_linkField_88 rfl hk) ?_
  refine rz_All_c (i := 49) (fun k J hk hJ => rz_istore_ok (pc := 89) hx hb dX12_linkField_89 hk) ?_
  refine rz_All_c (i := 50) (fun k J hk hJ => rz_aload_n_ok (pc := 91) hx hb dX12_linkField_91 rfl hk) ?_
  refine rz_All_c (i := 51) (fun k J hk hJ => rz_getf_ok (pc := 92) (own := RX12) (ref := "ThreadJudgeModel") (C := RX12) (T := TX12) (N := 257) (ci := 14) (index := 51) (f := 24) (t := 2) (Ts := Cond.code yX12_linkField cX12_linkField 6 none :: rz_TB) hx hb hts rz_in14 ho hK rfl (by decide) rfl (fun _ => rfl) (hw (i := 36) (j := 19) rfl rfl) (fun _ z => z) dX12_linkField_92 hk) ?_
  refine rz_All_c (i := 52) (fun k J hk hJ => rz_iload_n_ok (pc := 95) hx hb dX12_linkField_95 rfl hk) ?_
  refine rz_All_c (i := 53) (fun k J hk hJ => rz_iald_ok (pc := 96) hx hb hK dX12_linkField_96 hk) ?_
  refine rz_All_c (i := 54) (fun k J hk hJ => rz_istore_ok (pc := 97) hx hb dX12_linkField_97 hk) ?_
  refine rz_All_c (i := 55) (fun k J hk hJ => rz_iload_ok (pc := 99) hx hb dX12_linkField_99 hk) ?_
  refine rz_All_c (i := 56) (fun k J hk hJ => rz_iload_n_ok (pc := 101) hx hb dX12_linkField_101 rfl hk) ?_
  refine rz_All_c (i := 57) (fun k J hk hJ => rz_icmpge_ok (pc := 102) hx hb dX12_linkField_102 rfl hk (hJ 59)) ?_
  refine rz_All_c (i := 58) (fun k J hk hJ => rz_no_ok) ?_
  refine rz_All_c (i := 59) (fun k J hk hJ => rz_iload_ok (pc := 156) hx hb dX12_linkField_156 hk) ?_
  refine rz_All_c (i := 60) (fun k J hk hJ => rz_ifeq_ok (pc := 158) hx hb dX12_linkField_158 rfl hk (hJ 62)) ?_
  refine rz_All_c (i := 61) (fun k J hk hJ => rz_no_ok) ?_
  refine rz_All_c (i := 62) (fun k J hk hJ => rz_vret_ok (pc := 171) hC dX12_linkField_171) ?_
  exact trivial
theorem dX12_linkMembers_0 : decode cX12_linkMembers 0 = .ok (.iconst 0, 1) := by decide +kernel
theorem dX12_linkMembers_1 : decode cX12_linkMembers 1 = .ok (.istore_n 1, 1) := by decide +kernel
theorem dX12_linkMembers_2 : decode cX12_linkMembers 2 = .ok (.iload_n 1, 1) := by decide +kernel
theorem dX12_linkMembers_3 : decode cX12_linkMembers 3 = .ok (.aload_n 0, 1) := by decide +kernel
theorem dX12_linkMembers_4 : decode cX12_linkMembers 4 = .ok (.getfield 690, 3) := by decide +kernel
theorem dX12_linkMembers_7 : decode cX12_linkMembers 7 = .ok (.if_icmp .ge 14, 3) := by decide +kernel
theorem dX12_linkMembers_10 : decode cX12_linkMembers 10 = .ok (.aload_n 0, 1) := by decide +kernel
theorem dX12_linkMembers_11 : decode cX12_linkMembers 11 = .ok (.iload_n 1, 1) := by decide +kernel
theorem dX12_linkMembers_12 : decode cX12_linkMembers 12 = .ok (.invokevirtual 805, 3) := by decide +kernel
theorem dX12_linkMembers_15 : decode cX12_linkMembers 15 = .ok (.iinc 1 1, 3) := by decide +kernel
theorem dX12_linkMembers_18 : decode cX12_linkMembers 18 = .ok (.goto (-16), 3) := by decide +kernel
theorem dX12_linkMembers_21 : decode cX12_linkMembers 21 = .ok (.iconst 0, 1) := by decide +kernel
theorem dX12_linkMembers_22 : decode cX12_linkMembers 22 = .ok (.istore_n 1, 1) := by decide +kernel
theorem dX12_linkMembers_23 : decode cX12_linkMembers 23 = .ok (.iload_n 1, 1) := by decide +kernel
theorem dX12_linkMembers_24 : decode cX12_linkMembers 24 = .ok (.aload_n 0, 1) := by decide +kernel
theorem dX12_linkMembers_25 : decode cX12_linkMembers 25 = .ok (.getfield 693, 3) := by decide +kernel
theorem dX12_linkMembers_28 : decode cX12_linkMembers 28 = .ok (.if_icmp .ge 66, 3) := by decide +kernel
theorem dX12_linkMembers_31 : decode cX12_linkMembers 31 = .ok (.aload_n 0, 1) := by decide +kernel
theorem dX12_linkMembers_32 : decode cX12_linkMembers 32 = .ok (.getfield 177, 3) := by decide +kernel
theorem dX12_linkMembers_35 : decode cX12_linkMembers 35 = .ok (.iload_n 1, 1) := by decide +kernel
theorem dX12_linkMembers_36 : decode cX12_linkMembers 36 = .ok (.aload_n 0, 1) := by decide +kernel
theorem dX12_linkMembers_37 : decode cX12_linkMembers 37 = .ok (.bipush 100, 2) := by decide +kernel
theorem dX12_linkMembers_39 : decode cX12_linkMembers 39 = .ok (.iload_n 1, 1) := by decide +kernel
theorem dX12_linkMembers_40 : decode cX12_linkMembers 40 = .ok (.iadd, 1) := by decide +kernel
theorem dX12_linkMembers_41 : decode cX12_linkMembers 41 = .ok (.invokevirtual 787, 3) := by decide +kernel
theorem dX12_linkMembers_44 : decode cX12_linkMembers 44 = .ok (.iastore, 1) := by decide +kernel
theorem dX12_linkMembers_45 : decode cX12_linkMembers 45 = .ok (.iconst 0, 1) := by decide +kernel
theorem dX12_linkMembers_46 : decode cX12_linkMembers 46 = .ok (.istore_n 2, 1) := by decide +kernel
theorem dX12_linkMembers_47 : decode cX12_linkMembers 47 = .ok (.iload_n 2, 1) := by decide +kernel
theorem dX12_linkMembers_48 : decode cX12_linkMembers 48 = .ok (.aload_n 0, 1) := by decide +kernel
theorem dX12_linkMembers_49 : decode cX12_linkMembers 49 = .ok (.getfield 81, 3) := by decide +kernel
theorem dX12_linkMembers_52 : decode cX12_linkMembers 52 = .ok (.iload_n 1, 1) := by decide +kernel
theorem dX12_linkMembers_53 : decode cX12_linkMembers 53 = .ok (.iaload, 1) := by decide +kernel
theorem dX12_linkMembers_54 : decode cX12_linkMembers 54 = .ok (.if_icmp .ge 34, 3) := by decide +kernel
theorem dX12_linkMembers_57 : decode cX12_linkMembers 57 = .ok (.aload_n 0, 1) := by decide +kernel
theorem dX12_linkMembers_58 : decode cX12_linkMembers 58 = .ok (.getfield 180, 3) := by decide +kernel
theorem dX12_linkMembers_61 : decode cX12_linkMembers 61 = .ok (.bipush 6, 2) := by decide +kernel
theorem dX12_linkMembers_63 : decode cX12_linkMembers 63 = .ok (.iload_n 1, 1) := by decide +kernel
theorem dX12_linkMembers_64 : decode cX12_linkMembers 64 = .ok (.imul, 1) := by decide +kernel
theorem dX12_linkMembers_65 : decode cX12_linkMembers 65 = .ok (.iload_n 2, 1) := by decide +kernel
theorem dX12_linkMembers_66 : decode cX12_linkMembers 66 = .ok (.iadd, 1) := by decide +kernel
theorem dX12_linkMembers_67 : decode cX12_linkMembers 67 = .ok (.aload_n 0, 1) := by decide +kernel
theorem dX12_linkMembers_68 : decode cX12_linkMembers 68 = .ok (.sipush 300, 3) := by decide +kernel
theorem dX12_linkMembers_71 : decode cX12_linkMembers 71 = .ok (.bipush 6, 2) := by decide +kernel
theorem dX12_linkMembers_73 : decode cX12_linkMembers 73 = .ok (.iload_n 1, 1) := by decide +kernel
theorem dX12_linkMembers_74 : decode cX12_linkMembers 74 = .ok (.imul, 1) := by decide +kernel
theorem dX12_linkMembers_75 : decode cX12_linkMembers 75 = .ok (.iadd, 1) := by decide +kernel
theorem dX12_linkMembers_76 : decode cX12_linkMembers 76 = .ok (.iload_n 2, 1) := by decide +kernel
theorem dX12_linkMembers_77 : decode cX12_linkMembers 77 = .ok (.iadd, 1) := by decide +kernel
theorem dX12_linkMembers_78 : decode cX12_linkMembers 78 = .ok (.invokevirtual 787, 3) := by decide +kernel
theorem dX12_linkMembers_81 : decode cX12_linkMembers 81 = .ok (.iastore, 1) := by decide +kernel
theorem dX12_linkMembers_82 : decode cX12_linkMembers 82 = .ok (.iinc 2 1, 3) := by decide +kernel
theorem dX12_linkMembers_85 : decode cX12_linkMembers 85 = .ok (.goto (-38), 3) := by decide +kernel
theorem dX12_linkMembers_88 : decode cX12_linkMembers 88 = .ok (.iinc 1 1, 3) := by decide +kernel
theorem dX12_linkMembers_91 : decode cX12_linkMembers 91 = .ok (.goto (-68), 3) := by decide +kernel
theorem dX12_linkMembers_94 : decode cX12_linkMembers 94 = .ok (.bipush 17, 2) := by decide +kernel
theorem dX12_linkMembers_96 : decode cX12_linkMembers 96 = .ok (.istore_n 1, 1) := by decide +kernel
theorem dX12_linkMembers_97 : decode cX12_linkMembers 97 = .ok (.iload_n 1, 1) := by decide +kernel
theorem dX12_linkMembers_98 : decode cX12_linkMembers 98 = .ok (.aload_n 0, 1) := by decide +kernel
theorem dX12_linkMembers_99 : decode cX12_linkMembers 99 = .ok (.getfield 693, 3) := by decide +kernel
theorem dX12_linkMembers_102 : decode cX12_linkMembers 102 = .ok (.if_icmp .ge 27, 3) := by decide +kernel
theorem dX12_linkMembers_129 : decode cX12_linkMembers 129 = .ok (.bipush 17, 2) := by decide +kernel
theorem dX12_linkMembers_131 : decode cX12_linkMembers 131 = .ok (.istore_n 1, 1) := by decide +kernel
theorem dX12_linkMembers_132 : decode cX12_linkMembers 132 = .ok (.iload_n 1, 1) := by decide +kernel
theorem dX12_linkMembers_133 : decode cX12_linkMembers 133 = .ok (.aload_n 0, 1) := by decide +kernel
theorem dX12_linkMembers_134 : decode cX12_linkMembers 134 = .ok (.getfield 684, 3) := by decide +kernel
theorem dX12_linkMembers_137 : decode cX12_linkMembers 137 = .ok (.if_icmp .ge 27, 3) := by decide +kernel
theorem dX12_linkMembers_140 : decode cX12_linkMembers 140 = .ok (.aload_n 0, 1) := by decide +kernel
theorem dX12_linkMembers_141 : decode cX12_linkMembers 141 = .ok (.iload_n 1, 1) := by decide +kernel
theorem dX12_linkMembers_142 : decode cX12_linkMembers 142 = .ok (.invokevirtual 811, 3) := by decide +kernel
theorem dX12_linkMembers_145 : decode cX12_linkMembers 145 = .ok (.ifCond .eq 13, 3) := by decide +kernel
theorem dX12_linkMembers_158 : decode cX12_linkMembers 158 = .ok (.iinc 1 1, 3) := by decide +kernel
theorem dX12_linkMembers_161 : decode cX12_linkMembers 161 = .ok (.goto (-29), 3) := by decide +kernel
theorem dX12_linkMembers_164 : decode cX12_linkMembers 164 = .ok (.return_, 1) := by decide +kernel
def rpX12_linkMembers : List Nat := [0, 1, 2, 3, 4, 7, 10, 11, 12, 15, 18, 21, 22, 23, 24, 25, 28, 31, 32, 35, 36, 37, 39, 40, 41, 44, 45, 46, 47, 48, 49, 52, 53, 54, 57, 58, 61, 63, 64, 65, 66, 67, 68, 71, 73, 74, 75, 76, 77, 78, 81, 82, 85, 88, 91, 94, 96, 97, 98, 99, 102, 105, 129, 131, 132, 133, 134, 137, 140, 141, 142, 145, 148, 158, 161, 164]
noncomputable def rcX12_linkMembers : List rz_B := [rz_cst 0, rz_istore 1, rz_iload 1, rz_aload 0, rz_getf (Nat.add (Nat.mul 256 14) 1) 26 rz_i, rz_icmpge 11, rz_aload 0, rz_iload 1, rz_callVv 1 (Nat.add (Nat.mul 256 14) 1) rgX12_linkField, rz_iinc 1 1, rz_goto 2, rz_cst 0, rz_istore 1, rz_iload 1, rz_aload 0, rz_getf (Nat.add (Nat.mul 256 14) 1) 31 rz_i, rz_icmpge 55, rz_aload 0, rz_getf (Nat.add (Nat.mul 256 14) 1) 75 rz_r, rz_iload 1, rz_aload 0, rz_cst 100, rz_iload 1, rz_iadd, rz_callV 1 (Nat.add (Nat.mul 256 14) 1) rgX12_codeOf, rz_iast, rz_cst 0, rz_istore 2, rz_iload 2, rz_aload 0, rz_getf (Nat.add (Nat.mul 256 14) 1) 36 rz_r, rz_iload 1, rz_iald, rz_icmpge 53, rz_aload 0, rz_getf (Nat.add (Nat.mul 256 14) 1) 76 rz_r, rz_cst 6, rz_iload 1, rz_imul, rz_iload 2, rz_iadd, rz_aload 0, rz_cst 300, rz_cst 6, rz_iload 1, rz_imul, rz_iadd, rz_iload 2, rz_iadd, rz_callV 1 (Nat.add (Nat.mul 256 14) 1) rgX12_codeOf, rz_iast, rz_iinc 2 1, rz_goto 28, rz_iinc 1 1, rz_goto 13, rz_cst 17, rz_istore 1, rz_iload 1, rz_aload 0, rz_getf (Nat.add (Nat.mul 256 14) 1) 31 rz_i, rz_icmpge 62, rz_no, rz_cst 17, rz_istore 1, rz_iload 1, rz_aload 0, rz_getf (Nat.add (Nat.mul 256 14) 1) 13 rz_i, rz_icmpge 75, rz_aload 0, rz_iload 1, rz_callV 1 (Nat.add (Nat.mul 256 14) 1) rgX12_isTorn, rz_ifeq 73, rz_no, rz_iinc 1 1, rz_goto 64, rz_vret]
noncomputable def rgX12_linkMembers : rz_L → rz_M → rz_Z → Bool := rz_go rcX12_linkMembers 3 1000000
def rrX12_linkMembers : Room := { frames := 7, cells := 0, slots := 0, locals := 199 }
theorem rmX12_linkMembers (l : Launch) {G : rz_G} (hG : rz_Gd G) (vs : rz_L) (M : rz_M) (Z : rz_Z) (hn : vs.length = 1) (h : rgX12_linkMembers vs M Z = true) : Met l yX12_linkMembers (Cond.code yX12_linkMembers cX12_linkMembers 3 none :: rz_TB) rrX12_linkMembers (rz_Pre G vs M) (rz_Qv G M.2 Z) 0 0 (fun q => rz_b G ≤ q) := by
  obtain ⟨D, tc, ad, b, xs, rfl⟩ := id hG
  refine rz_body (pcs := rpX12_linkMembers) (by decide) rfl (by rw [hn]; decide) h ?_
  intro p e R s m args below meth c hC
  obtain ⟨hx, hb, hml, hr, hlk, ho, hts, hKn, hRm⟩ := id hC
  obtain ⟨hK, hA, hSt⟩ := id hKn
  have hw : ∀ {i j : Nat} {ws : List Cond} {w : Cond}, rz_WW[i]? = some ws → ws[j]? = some w → w.before args s = true := fun h1 h2 => hts _ (List.mem_cons_of_mem _ (rz_mem h1 h2))
  refine rz_All_c (i := 0) (fun k J hk hJ => rz_iconst_ok (pc := 0) hx hb dX12_linkMembers_0 rfl hk) ?_
  refine rz_All_c (i := 1) (fun k J hk hJ => rz_istore_n_ok (pc := 1) hx hb dX12_linkMembers_1 rfl hk) ?_
  refine rz_All_c (i := 2) (fun k J hk hJ => rz_iload_n_ok (pc := 2) hx hb dX12_linkMembers_2 rfl hk) ?_
  refine rz_All_c (i := 3) (fun k J hk hJ => rz_aload_n_ok (pc := 3) hx hb dX12_linkMembers_3 rfl hk) ?_
  refine rz_All_c (i := 4) (fun k J hk hJ => rz_getf_ok (pc := 4) (own := RX12) (ref := "ThreadJudgeModel") (C := RX12) (T := TX12) (N := 257) (ci := 14) (index := 690) (f := 26) (t := 0) (Ts := Cond.code yX12_linkMembers cX12_linkMembers 3 none :: rz_TB) hx hb hts rz_in14 ho hK rfl (by decide) rfl (fun _ => rfl) (hw (i := 32) (j := 18) rfl rfl) (fun _ z => z) dX12_linkMembers_4 hk) ?_
  refine rz_All_c (i := 5) (fun k J hk hJ => rz_icmpge_ok (pc := 7) hx hb dX12_linkMembers_7 rfl hk (hJ 11)) ?_
  refine rz_All_c (i := 6) (fun k J hk hJ => rz_aload_n_ok (pc := 10) hx hb dX12_linkMembers_10 rfl hk) ?_
  refine rz_All_c (i := 7) (fun k J hk hJ => rz_iload_n_ok (pc := 11) hx hb dX12_linkMembers_11 rfl hk) ?_
  refine rz_All_c (i := 8) (fun k J hk hJ => rz_callVv_ok (pc := 12) (own := RX12) (C := RX12) (T0 := TX12) (N0 := 257) hC rfl (rmX12_linkField l hG) (rz_cwV 1 hC rz_good (rz_mem (i := 43) (j := 20) rfl rfl) (rz_mem (i := 43) (j := 21) rfl rfl) (rz_mem (i := 43) (j := 22) rfl rfl) (rz_mem (i := 32) (j := 8) rfl rfl) (rz_mem (i := 43) (j := 23) rfl rfl) ⟨rfl, by decide, by decide, by decide +kernel⟩ rfl rfl ⟨by decide, by decide⟩) rfl dX12_linkMembers_12 hk) ?_
  refine rz_All_c (i := 9) (fun k J hk hJ => rz_iinc_ok (pc := 15) hx hb dX12_linkMembers_15 (by decide) hk) ?_
  refine rz_All_c (i := 10) (fun k J hk hJ => rz_goto_ok (pc := 18) hx hb dX12_linkMembers_18 rfl (hJ 2)) ?_
  refine rz_All_c (i := 11) (fun k J hk hJ => rz_iconst_ok (pc := 21) hx hb dX12_linkMembers_21 rfl hk) ?_
  refine rz_All_c (i := 12) (fun k J hk hJ => rz_istore_n_ok (pc := 22) hx hb dX12_linkMembers_22 rfl hk) ?_
  refine rz_All_c (i := 13) (fun k J hk hJ => rz_iload_n_ok (pc := 23) hx hb dX12_linkMembers_23 rfl hk) ?_
  refine rz_All_c (i := 14) (fun k J hk hJ => rz_aload_n_ok (pc := 24) hx hb dX12_linkMembers_24 rfl hk) ?_
  refine rz_All_c (i := 15) (fun k J hk hJ => rz_getf_ok (pc := 25) (own := RX12) (ref := "ThreadJudgeModel") (C := RX12) (T := TX12) (N := 257) (ci := 14) (index := 693) (f := 31) (t := 0) (Ts := Cond.code yX12_linkMembers cX12_linkMembers 3 none :: rz_TB) hx hb hts rz_in14 ho hK rfl (by decide) rfl (fun _ => rfl) (hw (i := 32) (j := 19) rfl rfl) (fun _ z => z) dX12_linkMembers_25 hk) ?_
  refine rz_All_c (i := 16) (fun k J hk hJ => rz_icmpge_ok (pc := 28) hx hb dX12_linkMembers_28 rfl hk (hJ 55)) ?_
  refine rz_All_c (i := 17) (fun k J hk hJ => rz_aload_n_ok (pc := 31) hx hb dX12_linkMembers_31 rfl hk) ?_
  refine rz_All_c (i := 18) (fun k J hk hJ => rz_getf_ok (pc := 32) (own := RX12) (ref := "ThreadJudgeModel") (C := RX12) (T := TX12) (N := 257) (ci := 14) (index := 177) (f := 75) (t := 2) (Ts := Cond.code yX12_linkMembers cX12_linkMembers 3 none :: rz_TB) hx hb hts rz_in14 ho hK rfl (by decide) rfl (fun _ => rfl) (hw (i := 42) (j := 15) rfl rfl) (fun _ z => z) dX12_linkMembers_32 hk) ?_
  refine rz_All_c (i := 19) (fun k J hk hJ => rz_iload_n_ok (pc := 35) hx hb dX12_linkMembers_35 rfl hk) ?_
  refine rz_All_c (i := 20) (fun k J hk hJ => rz_aload_n_ok (pc := 36) hx hb dX12_linkMembers_36 rfl hk) ?_
  refine rz_All_c (i := 21) (fun k J hk hJ => rz_bipush_ok (pc := 37) hx hb dX12_linkMembers_37 (by decide) hk) ?_
  refine rz_All_c (i := 22) (fun k J hk hJ => rz_iload_n_ok (pc := 39) hx hb dX12_linkMembers_39 rfl hk) ?_
  refine rz_All_c (i := 23) (fun k J hk hJ => rz_iadd_ok (pc := 40) hx hb dX12_linkMembers_40 hk) ?_
  refine rz_All_c (i := 24) (fun k J hk hJ => rz_callV_ok (pc := 41) (own := RX12) (C := RX12) (T0 := TX12) (N0 := 257) hC rfl (rmX12_codeOf l hG) (rz_cwV 1 hC rz_good (rz_mem (i := 44) (j := 1) rfl rfl) (rz_mem (i := 44) (j := 2) rfl rfl) (rz_mem (i := 44) (j := 3) rfl rfl) (rz_mem (i := 32) (j := 8) rfl rfl) (rz_mem (i := 44) (j := 4) rfl rfl) ⟨rfl, by decide, by decide, by decide +kernel⟩ rfl rfl ⟨by decide, by decide⟩) rfl dX12_linkMembers_41 hk) ?_
  refine rz_All_c (i := 25) (fun k J hk hJ => rz_iast_ok (pc := 44) hx hb hK hA dX12_linkMembers_44 hk) ?_
  refine rz_All_c (i := 26) (fun k J hk hJ => rz_iconst_ok (pc := 45) hx hb dX12_linkMembers_45 rfl hk) ?_
  refine rz_All_c (i := 27) (fun k J hk hJ => rz_istore_n_ok (pc := 46) hx hb dX12_linkMembers_46 rfl hk) ?_
  refine rz_All_c (i := 28) (fun k J hk hJ => rz_iload_n_ok (pc := 47) hx hb dX12_linkMembers_47 rfl hk) ?_
  refine rz_All_c (i := 29) (fun k J hk hJ => rz_aload_n_ok (pc := 48) hx hb dX12_linkMembers_48 rfl hk) ?_
  refine rz_All_c (i := 30) (fun k J hk hJ => rz_getf_ok (pc := 49) (own := RX12) (ref := "ThreadJudgeModel") (C := RX12) (T := TX12) (N := 257) (ci := 14) (index := 81) (f := 36) (t := 2) (Ts := Cond.code yX12_linkMembers cX12_linkMembers 3 none :: rz_TB) hx hb hts rz_in14 ho hK rfl (by decide) rfl (fun _ => rfl) (hw (i := 39) (j := 22) rfl rfl) (fun _ z => z) dX12_linkMembers_49 hk) ?_
  refine rz_All_c (i := 31) (fun k J hk hJ => rz_iload_n_ok (pc := 52) hx hb dX12_linkMembers_52 rfl hk) ?_
  refine rz_All_c (i := 32) (fun k J hk hJ => rz_iald_ok (pc := 53) hx hb hK dX12_linkMembers_53 hk) ?_
  refine rz_All_c (i := 33) (fun k J hk hJ => rz_icmpge_ok (pc := 54) hx hb dX12_linkMembers_54 rfl hk (hJ 53)) ?_
  refine rz_All_c (i := 34) (fun k J hk hJ => rz_aload_n_ok (pc := 57) hx hb dX12_linkMembers_57 rfl hk) ?_
  refine rz_All_c (i := 35) (fun k J hk hJ => rz_getf_ok (pc := 58) (own := RX12) (ref := "ThreadJudgeModel") (C := RX12) (T := TX12) (N := 257) (ci := 14) (index := 180) (f := 76) (t := 2) (Ts := Cond.code yX12_linkMembers cX12_linkMembers 3 none :: rz_TB) hx hb hts rz_in14 ho hK rfl (by decide) rfl (fun _ => rfl) (hw (i := 43) (j := 19) rfl rfl) (fun _ z => z) dX12_linkMembers_58 hk) ?_
  refine rz_All_c (i := 36) (fun k J hk hJ => rz_bipush_ok (pc := 61) hx hb dX12_linkMembers_61 (by decide) hk) ?_
  refine rz_All_c (i := 37) (fun k J hk hJ => rz_iload_n_ok (pc := 63) hx hb dX12_linkMembers_63 rfl hk) ?_
  refine rz_All_c (i := 38) (fun k J hk hJ => rz_imul_ok (pc := 64) hx hb dX12_linkMembers_64 hk) ?_
  refine rz_All_c (i := 39) (fun k J hk hJ => rz_iload_n_ok (pc := 65) hx hb dX12_linkMembers_65 rfl hk) ?_
  refine rz_All_c (i := 40) (fun k J hk hJ => rz_iadd_ok (pc := 66) hx hb dX12_linkMembers_66 hk) ?_
  refine rz_All_c (i := 41) (fun k J hk hJ => rz_aload_n_ok (pc := 67) hx hb dX12_linkMembers_67 rfl hk) ?_
  refine rz_All_c (i := 42) (fun k J hk hJ => rz_sipush_ok (pc := 68) hx hb dX12_linkMembers_68 (by decide) hk) ?_
  refine rz_All_c (i := 43) (fun k J hk hJ => rz_bipush_ok (pc := 71) hx hb dX12_linkMembers_71 (by decide) hk) ?_
  refine rz_All_c (i := 44) (fun k J hk hJ => rz_iload_n_ok (pc := 73) hx hb dX12_linkMembers_73 rfl hk) ?_
  refine rz_All_c (i := 45) (fun k J hk hJ => rz_imul_ok (pc := 74) hx hb dX12_linkMembers_74 hk) ?_
  refine rz_All_c (i := 46) (fun k J hk hJ => rz_iadd_ok (pc := 75) hx hb dX12_linkMembers_75 hk) ?_
  refine rz_All_c (i := 47) (fun k J hk hJ => rz_iload_n_ok (pc := 76) hx hb dX12_linkMembers_76 rfl hk) ?_
  refine rz_All_c (i := 48) (fun k J hk hJ => rz_iadd_ok (pc := 77) hx hb dX12_linkMembers_77 hk) ?_
  refine rz_All_c (i := 49) (fun k J hk hJ => rz_callV_ok (pc := 78) (own := RX12) (C := RX12) (T0 := TX12) (N0 := 257) hC rfl (rmX12_codeOf l hG) (rz_cwV 1 hC rz_good (rz_mem (i := 44) (j := 1) rfl rfl) (rz_mem (i := 44) (j := 2) rfl rfl) (rz_mem (i := 44) (j := 3) rfl rfl) (rz_mem (i := 32) (j := 8) rfl rfl) (rz_mem (i := 44) (j := 4) rfl rfl) ⟨rfl, by decide, by decide, by decide +kernel⟩ rfl rfl ⟨by decide, by decide⟩) rfl dX12_linkMembers_78 hk) ?_
  refine rz_All_c (i := 50) (fun k J hk hJ => rz_iast_ok (pc := 81) hx hb hK hA dX12_linkMembers_81 hk) ?_
  refine rz_All_c (i := 51) (fun k J hk hJ => rz_iinc_ok (pc := 82) hx hb dX12_linkMembers_82 (by decide) hk) ?_
  refine rz_All_c (i := 52) (fun k J hk hJ => rz_goto_ok (pc := 85) hx hb dX12_linkMembers_85 rfl (hJ 28)) ?_
  refine rz_All_c (i := 53) (fun k J hk hJ => rz_iinc_ok (pc := 88) hx hb dX12_linkMembers_88 (by decide) hk) ?_
  refine rz_All_c (i := 54) (fun k J hk hJ => rz_goto_ok (pc := 91) hx hb dX12_linkMembers_91 rfl (hJ 13)) ?_
  refine rz_All_c (i := 55) (fun k J hk hJ => rz_bipush_ok (pc := 94) hx hb dX12_linkMembers_94 (by decide) hk) ?_
  refine rz_All_c (i := 56) (fun k J hk hJ => rz_istore_n_ok (pc := 96) hx hb dX12_linkMembers_96 rfl hk) ?_
  refine rz_All_c (i := 57) (fun k J hk hJ => rz_iload_n_ok (pc := 97) hx hb dX12_linkMembers_97 rfl hk) ?_
  refine rz_All_c (i := 58) (fun k J hk hJ => rz_aload_n_ok (pc := 98) hx hb dX12_linkMembers_98 rfl hk) ?_
  refine rz_All_c (i := 59) (fun k J hk hJ => rz_getf_ok (pc := 99) (own := RX12) (ref := "ThreadJudgeModel") (C := RX12) (T := TX12) (N := 257) (ci := 14) (index := 693) (f := 31) (t := 0) (Ts := Cond.code yX12_linkMembers cX12_linkMembers 3 none :: rz_TB) hx hb hts rz_in14 ho hK rfl (by decide) rfl (fun _ => rfl) (hw (i := 32) (j := 19) rfl rfl) (fun _ z => z) dX12_linkMembers_99 hk) ?_
  refine rz_All_c (i := 60) (fun k J hk hJ => rz_icmpge_ok (pc := 102) hx hb dX12_linkMembers_102 rfl hk (hJ 62)) ?_
  refine rz_All_c (i := 61) (fun k J hk hJ => rz_no_ok) ?_
  refine rz_All_c (i := 62) (fun k J hk hJ => rz_bipush_ok (pc := 129) hx hb dX12_linkMembers_129 (by decide) hk) ?_
  refine rz_All_c (i := 63) (fun k J hk hJ => rz_istore_n_ok (pc := 131) hx hb dX12_linkMembers_131 rfl hk) ?_
  refine rz_All_c (i := 64) (fun k J hk hJ => rz_iload_n_ok (pc := 132) hx hb dX12_linkMembers_132 rfl hk) ?_
  refine rz_All_c (i := 65) (fun k J hk hJ => rz_aload_n_ok (pc := 133) hx hb dX12_linkMembers_133 rfl hk) ?_
  refine rz_All_c (i := 66) (fun k J hk hJ => rz_getf_ok (pc := 134) (own := RX12) (ref := "ThreadJudgeModel") (C := RX12) (T := TX12) (N := 257) (ci := 14) (index := 684) (f := 13) (t := 0) (Ts := Cond.code yX12_linkMembers cX12_linkMembers 3 none :: rz_TB) hx hb hts rz_in14 ho hK rfl (by decide) rfl (fun _ => rfl) (hw (i := 32) (j := 17) rfl rfl) (fun _ z => z) dX12_linkMembers_134 hk) ?_
  refine rz_All_c (i := 67) (fun k J hk hJ => rz_icmpge_ok (pc := 137) hx hb dX12_linkMembers_137 rfl hk (hJ 75)) ?_
  refine rz_All_c (i := 68) (fun k J hk hJ => rz_aload_n_ok (pc := 140) hx hb dX12_linkMembers_140 rfl hk) ?_
  refine rz_All_c (i := 69) (fun k J hk hJ => rz_iload_n_ok (pc := 141) hx hb dX12_linkMembers_141 rfl hk) ?_
  refine rz_All_c (i := 70) (fun k J hk hJ => rz_callV_ok (pc := 142) (own := RX12) (C := RX12) (T0 := TX12) (N0 := 257) hC rfl (rmX12_isTorn l hG) (rz_cwV 1 hC rz_good (rz_mem (i := 45) (j := 16) rfl rfl) (rz_mem (i := 45) (j := 17) rfl rfl) (rz_mem (i := 45) (j := 18) rfl rfl) (rz_mem (i := 32) (j := 8) rfl rfl) (rz_mem (i := 45) (j := 19) rfl rfl) ⟨rfl, by decide, by decide, by decide +kernel⟩ rfl rfl ⟨by decide, by decide⟩) rfl dX12_linkMembers_142 hk) ?_
  refine rz_All_c (i := 71) (fun k J hk hJ => rz_ifeq_ok (pc := 145) hx hb dX12_linkMembers_145 rfl hk (hJ 73)) ?_
  refine rz_All_c (i := 72) (fun k J hk hJ => rz_no_ok) ?_
  refine rz_All_c (i := 73) (fun k J hk hJ => rz_iinc_ok (pc := 158) hx hb dX12_linkMembers_158 (by decide) hk) ?_
  refine rz_All_c (i := 74) (fun k J hk hJ => rz_goto_ok (pc := 161) hx hb dX12_linkMembers_161 rfl (hJ 64)) ?_
  refine rz_All_c (i := 75) (fun k J hk hJ => rz_vret_ok (pc := 164) hC dX12_linkMembers_164) ?_
  exact trivial
theorem dX12_link_0 : decode cX12_link 0 = .ok (.aload_n 0, 1) := by decide +kernel
theorem dX12_link_1 : decode cX12_link 1 = .ok (.iconst (-1), 1) := by decide +kernel
theorem dX12_link_2 : decode cX12_link 2 = .ok (.putfield 758, 3) := by decide +kernel
theorem dX12_link_5 : decode cX12_link 5 = .ok (.aload_n 0, 1) := by decide +kernel
theorem dX12_link_6 : decode cX12_link 6 = .ok (.invokevirtual 864, 3) := by decide +kernel
theorem dX12_link_9 : decode cX12_link 9 = .ok (.aload_n 0, 1) := by decide +kernel
theorem dX12_link_10 : decode cX12_link 10 = .ok (.getfield 758, 3) := by decide +kernel
theorem dX12_link_13 : decode cX12_link 13 = .ok (.iconst (-1), 1) := by decide +kernel
theorem dX12_link_14 : decode cX12_link 14 = .ok (.if_icmp .eq 19, 3) := by decide +kernel
theorem dX12_link_33 : decode cX12_link 33 = .ok (.aload_n 0, 1) := by decide +kernel
theorem dX12_link_34 : decode cX12_link 34 = .ok (.invokevirtual 867, 3) := by decide +kernel
theorem dX12_link_37 : decode cX12_link 37 = .ok (.aload_n 0, 1) := by decide +kernel
theorem dX12_link_38 : decode cX12_link 38 = .ok (.getfield 758, 3) := by decide +kernel
theorem dX12_link_41 : decode cX12_link 41 = .ok (.iconst (-1), 1) := by decide +kernel
theorem dX12_link_42 : decode cX12_link 42 = .ok (.if_icmp .eq 19, 3) := by decide +kernel
theorem dX12_link_61 : decode cX12_link 61 = .ok (.aload_n 0, 1) := by decide +kernel
theorem dX12_link_62 : decode cX12_link 62 = .ok (.invokevirtual 870, 3) := by decide +kernel
theorem dX12_link_65 : decode cX12_link 65 = .ok (.aload_n 0, 1) := by decide +kernel
theorem dX12_link_66 : decode cX12_link 66 = .ok (.getfield 758, 3) := by decide +kernel
theorem dX12_link_69 : decode cX12_link 69 = .ok (.iconst (-1), 1) := by decide +kernel
theorem dX12_link_70 : decode cX12_link 70 = .ok (.if_icmp .eq 19, 3) := by decide +kernel
theorem dX12_link_89 : decode cX12_link 89 = .ok (.aload_n 0, 1) := by decide +kernel
theorem dX12_link_90 : decode cX12_link 90 = .ok (.iconst (-1), 1) := by decide +kernel
theorem dX12_link_91 : decode cX12_link 91 = .ok (.putfield 873, 3) := by decide +kernel
theorem dX12_link_94 : decode cX12_link 94 = .ok (.aload_n 0, 1) := by decide +kernel
theorem dX12_link_95 : decode cX12_link 95 = .ok (.getfield 693, 3) := by decide +kernel
theorem dX12_link_98 : decode cX12_link 98 = .ok (.iconst 1, 1) := by decide +kernel
theorem dX12_link_99 : decode cX12_link 99 = .ok (.isub, 1) := by decide +kernel
theorem dX12_link_100 : decode cX12_link 100 = .ok (.istore_n 1, 1) := by decide +kernel
theorem dX12_link_101 : decode cX12_link 101 = .ok (.iload_n 1, 1) := by decide +kernel
theorem dX12_link_102 : decode cX12_link 102 = .ok (.bipush 17, 2) := by decide +kernel
theorem dX12_link_104 : decode cX12_link 104 = .ok (.if_icmp .lt 121, 3) := by decide +kernel
theorem dX12_link_225 : decode cX12_link 225 = .ok (.aload_n 0, 1) := by decide +kernel
theorem dX12_link_226 : decode cX12_link 226 = .ok (.getfield 873, 3) := by decide +kernel
theorem dX12_link_229 : decode cX12_link 229 = .ok (.iconst (-1), 1) := by decide +kernel
theorem dX12_link_230 : decode cX12_link 230 = .ok (.if_icmp .ne 23, 3) := by decide +kernel
theorem dX12_link_233 : decode cX12_link 233 = .ok (.aload_n 0, 1) := by decide +kernel
theorem dX12_link_234 : decode cX12_link 234 = .ok (.bipush 13, 2) := by decide +kernel
theorem dX12_link_236 : decode cX12_link 236 = .ok (.putfield 635, 3) := by decide +kernel
theorem dX12_link_239 : decode cX12_link 239 = .ok (.aload_n 0, 1) := by decide +kernel
theorem dX12_link_240 : decode cX12_link 240 = .ok (.aload_n 0, 1) := by decide +kernel
theorem dX12_link_241 : decode cX12_link 241 = .ok (.getfield 578, 3) := by decide +kernel
theorem dX12_link_244 : decode cX12_link 244 = .ok (.getstatic 638, 3) := by decide +kernel
theorem dX12_link_247 : decode cX12_link 247 = .ok (.isub, 1) := by decide +kernel
theorem dX12_link_248 : decode cX12_link 248 = .ok (.putfield 16, 3) := by decide +kernel
theorem dX12_link_251 : decode cX12_link 251 = .ok (.iconst 0, 1) := by decide +kernel
theorem dX12_link_252 : decode cX12_link 252 = .ok (.ireturn, 1) := by decide +kernel
def rpX12_link : List Nat := [0, 1, 2, 5, 6, 9, 10, 13, 14, 17, 33, 34, 37, 38, 41, 42, 45, 61, 62, 65, 66, 69, 70, 73, 89, 90, 91, 94, 95, 98, 99, 100, 101, 102, 104, 107, 225, 226, 229, 230, 233, 234, 236, 239, 240, 241, 244, 247, 248, 251, 252, 253]
noncomputable def rcX12_link : List rz_B := [rz_aload 0, rz_cst 4294967295, rz_putf (Nat.add (Nat.mul 256 14) 1) 77 rz_unI, rz_aload 0, rz_callVv 0 (Nat.add (Nat.mul 256 14) 1) rgX12_linkClasses, rz_aload 0, rz_getf (Nat.add (Nat.mul 256 14) 1) 77 rz_i, rz_cst 4294967295, rz_icmpeq 10, rz_no, rz_aload 0, rz_callVv 0 (Nat.add (Nat.mul 256 14) 1) rgX12_linkMembers, rz_aload 0, rz_getf (Nat.add (Nat.mul 256 14) 1) 77 rz_i, rz_cst 4294967295, rz_icmpeq 17, rz_no, rz_aload 0, rz_callVv 0 (Nat.add (Nat.mul 256 14) 1) rgX12_linkLines, rz_aload 0, rz_getf (Nat.add (Nat.mul 256 14) 1) 77 rz_i, rz_cst 4294967295, rz_icmpeq 24, rz_no, rz_aload 0, rz_cst 4294967295, rz_putf (Nat.add (Nat.mul 256 14) 1) 87 rz_unI, rz_aload 0, rz_getf (Nat.add (Nat.mul 256 14) 1) 31 rz_i, rz_cst 1, rz_isub, rz_istore 1, rz_iload 1, rz_cst 17, rz_icmplt 36, rz_no, rz_aload 0, rz_getf (Nat.add (Nat.mul 256 14) 1) 87 rz_i, rz_cst 4294967295, rz_icmpne 51, rz_aload 0, rz_cst 13, rz_putf (Nat.add (Nat.mul 256 14) 1) 10 rz_unI, rz_aload 0, rz_aload 0, rz_getf (Nat.add (Nat.mul 256 14) 1) 3 rz_i, rz_cst 1192, rz_isub, rz_putf (Nat.add (Nat.mul 256 14) 1) 11 rz_unI, rz_cst 0, rz_zret, rz_no]
noncomputable def rgX12_link : rz_L → rz_M → rz_Z → Bool := rz_go rcX12_link 4 1000000
def rrX12_link : Room := { frames := 10, cells := 0, slots := 0, locals := 264 }
theorem rmX12_link (l : Launch) {G : rz_G} (hG : rz_Gd G) (vs : rz_L) (M : rz_M) (Z : rz_Z) (hn : vs.length = 1) (h : rgX12_link vs M Z = true) : Met l yX12_link (Cond.code yX12_link cX12_link 4 (some .boolean) :: rz_TB) rrX12_link (rz_Pre G vs M) (rz_Qi G M.2 Z) 0 0 (fun q => rz_b G ≤ q) := by
  obtain ⟨D, tc, ad, b, xs, rfl⟩ := id hG
  refine rz_body (pcs := rpX12_link) (by decide) rfl (by rw [hn]; decide) h ?_
  intro p e R s m args below meth c hC
  obtain ⟨hx, hb, hml, hr, hlk, ho, hts, hKn, hRm⟩ := id hC
  obtain ⟨hK, hA, hSt⟩ := id hKn
  have hw : ∀ {i j : Nat} {ws : List Cond} {w : Cond}, rz_WW[i]? = some ws → ws[j]? = some w → w.before args s = true := fun h1 h2 => hts _ (List.mem_cons_of_mem _ (rz_mem h1 h2))
  refine rz_All_c (i := 0) (fun k J hk hJ => rz_aload_n_ok (pc := 0) hx hb dX12_link_0 rfl hk) ?_
  refine rz_All_c (i := 1) (fun k J hk hJ => rz_iconst_ok (pc := 1) hx hb dX12_link_1 rfl hk) ?_
  refine rz_All_c (i := 2) (fun k J hk hJ => rz_putf_ok (pc := 2) (own := RX12) (ref := "ThreadJudgeModel") (C := RX12) (T := TX12) (N := 257) (ci := 14) (index := 758) (f := 77) (t := 0) (Ts := Cond.code yX12_link cX12_link 4 (some .boolean) :: rz_TB) hx hb hts rz_in14 tyX12 tyX12_ok nmX12 ho hK hA rfl (by decide) rfl (rz_UnI _) rfl (tyX12_ok 77 (by decide)) (hw (i := 42) (j := 13) rfl rfl) (fun _ z => z) dX12_link_2 hk) ?_
  refine rz_All_c (i := 3) (fun k J hk hJ => rz_aload_n_ok (pc := 5) hx hb dX12_link_5 rfl hk) ?_
  refine rz_All_c (i := 4) (fun k J hk hJ => rz_callVv_ok (pc := 6) (own := RX12) (C := RX12) (T0 := TX12) (N0 := 257) hC rfl (rmX12_linkClasses l hG) (rz_cwV 0 hC rz_good (rz_mem (i := 42) (j := 17) rfl rfl) (rz_mem (i := 42) (j := 18) rfl rfl) (rz_mem (i := 42) (j := 19) rfl rfl) (rz_mem (i := 32) (j := 8) rfl rfl) (rz_mem (i := 42) (j := 20) rfl rfl) ⟨rfl, by decide, by decide, by decide +kernel⟩ rfl rfl ⟨by decide, by decide⟩) rfl dX12_link_6 hk) ?_
  refine rz_All_c (i := 5) (fun k J hk hJ => rz_aload_n_ok (pc := 9) hx hb dX12_link_9 rfl hk) ?_
  refine rz_All_c (i := 6) (fun k J hk hJ => rz_getf_ok (pc := 10) (own := RX12) (ref := "ThreadJudgeModel") (C := RX12) (T := TX12) (N := 257) (ci := 14) (index := 758) (f := 77) (t := 0) (Ts := Cond.code yX12_link cX12_link 4 (some .boolean) :: rz_TB) hx hb hts rz_in14 ho hK rfl (by decide) rfl (fun _ => rfl) (hw (i := 42) (j := 13) rfl rfl) (fun _ z => z) dX12_link_10 hk) ?_
  refine rz_All_c (i := 7) (fun k J hk hJ => rz_iconst_ok (pc := 13) hx hb dX12_link_13 rfl hk) ?_
  refine rz_All_c (i := 8) (fun k J hk hJ => rz_icmpeq_ok (pc := 14) hx hb dX12_link_14 rfl hk (hJ 10)) ?_
  refine rz_All_c (i := 9) (fun k J hk hJ => rz_no_ok) ?_
  refine rz_All_c (i := 10) (fun k J hk hJ => rz_aload_n_ok (pc := 33) hx hb dX12_link_33 rfl hk) ?_
  refine rz_All_c (i := 11) (fun k J hk hJ => rz_callVv_ok (pc := 34) (own := RX12) (C := RX12) (T0 := TX12) (N0 := 257) hC rfl (rmX12_linkMembers l hG) (rz_cwV 0 hC rz_good (rz_mem (i := 43) (j := 15) rfl rfl) (rz_mem (i := 43) (j := 16) rfl rfl) (rz_mem (i := 43) (j := 17) rfl rfl) (rz_mem (i := 32) (j := 8) rfl rfl) (rz_mem (i := 43) (j := 18) rfl rfl) ⟨rfl, by decide, by decide, by decide +kernel⟩ rfl rfl ⟨by decide, by decide⟩) rfl dX12_link_34 hk) ?_
  refine rz_All_c (i := 12) (fun k J hk hJ => rz_aload_n_ok (pc := 37) hx hb dX12_link_37 rfl hk) ?_
  refine rz_All_c (i := 13) (fun k J hk hJ => rz_getf_ok (pc := 38) (own := RX12) (ref := "ThreadJudgeModel") (C := RX12) (T := TX12) (N := 257) (ci := 14) (index := 758) (f := 77) (t := 0) (Ts := Cond.code yX12_link cX12_link 4 (some .boolean) :: rz_TB) hx hb hts rz_in14 ho hK rfl (by decide) rfl (fun _ => rfl) (hw (i := 42) (j := 13) rfl rfl) (fun _ z => z) dX12_link_38 hk) ?_
  refine rz_All_c (i := 14) (fun k J hk hJ => rz_iconst_ok (pc := 41) hx hb dX12_link_41 rfl hk) ?_
  refine rz_All_c (i := 15) (fun k J hk hJ => rz_icmpeq_ok (pc := 42) hx hb dX12_link_42 rfl hk (hJ 17)) ?_
  refine rz_All_c (i := 16) (fun k J hk hJ => rz_no_ok) ?_
  refine rz_All_c (i := 17) (fun k J hk hJ => rz_aload_n_ok (pc := 61) hx hb dX12_link_61 rfl hk) ?_
  refine rz_All_c (i := 18) (fun k J hk hJ => rz_callVv_ok (pc := 62) (own := RX12) (C := RX12) (T0 := TX12) (N0 := 257) hC rfl (rmX12_linkLines l hG) (rz_cwV 0 hC rz_good (rz_mem (i := 45) (j := 20) rfl rfl) (rz_mem (i := 45) (j := 21) rfl rfl) (rz_mem (i := 45) (j := 22) rfl rfl) (rz_mem (i := 32) (j := 8) rfl rfl) (rz_mem (i := 45) (j := 23) rfl rfl) ⟨rfl, by decide, by decide, by decide +kernel⟩ rfl rfl ⟨by decide, by decide⟩) rfl dX12_link_62 hk) ?_
  refine rz_All_c (i := 19) (fun k J hk hJ => rz_aload_n_ok (pc := 65) hx hb dX12_link_65 rfl hk) ?_
  refine rz_All_c (i := 20) (fun k J hk hJ => rz_getf_ok (pc := 66) (own := RX12) (ref := "ThreadJudgeModel") (C := RX12) (T := TX12) (N := 257) (ci := 14) (index := 758) (f := 77) (t := 0) (Ts := Cond.code yX12_link cX12_link 4 (some .boolean) :: rz_TB) hx hb hts rz_in14 ho hK rfl (by decide) rfl (fun _ => rfl) (hw (i := 42) (j := 13) rfl rfl) (fun _ z => z) dX12_link_66 hk) ?_
  refine rz_All_c (i := 21) (fun k J hk hJ => rz_iconst_ok (pc := 69) hx hb dX12_link_69 rfl hk) ?_
  refine rz_All_c (i := 22) (fun k J hk hJ => rz_icmpeq_ok (pc := 70) hx hb dX12_link_70 rfl hk (hJ 24)) ?_
  refine rz_All_c (i := 23) (fun k J hk hJ => rz_no_ok) ?_
  refine rz_All_c (i := 24) (fun k J hk hJ => rz_aload_n_ok (pc := 89) hx hb dX12_link_89 rfl hk) ?_
  refine rz_All_c (i := 25) (fun k J hk hJ => rz_iconst_ok (pc := 90) hx hb dX12_link_90 rfl hk) ?_
  refine rz_All_c (i := 26) (fun k J hk hJ => rz_putf_ok (pc := 91) (own := RX12) (ref := "ThreadJudgeModel") (C := RX12) (T := TX12) (N := 257) (ci := 14) (index := 873) (f := 87) (t := 0) (Ts := Cond.code yX12_link cX12_link 4 (some .boolean) :: rz_TB) hx hb hts rz_in14 tyX12 tyX12_ok nmX12 ho hK hA rfl (by decide) rfl (rz_UnI _) rfl (tyX12_ok 87 (by decide)) (hw (i := 42) (j := 14) rfl rfl) (fun _ z => z) dX12_link_91 hk) ?_
  refine rz_All_c (i := 27) (fun k J hk hJ => rz_aload_n_ok (pc := 94) hx hb dX12_link_94 rfl hk) ?_
  refine rz_All_c (i := 28) (fun k J hk hJ => rz_getf_ok (pc := 95) (own := RX12) (ref := "ThreadJudgeModel") (C := RX12) (T := TX12) (N := 257) (ci := 14) (index := 693) (f := 31) (t := 0) (Ts := Cond.code yX12_link cX12_link 4 (some .boolean) :: rz_TB) hx hb hts rz_in14 ho hK rfl (by decide) rfl (fun _ => rfl) (hw (i := 32) (j := 19) rfl rfl) (fun _ z => z) dX12_link_95 hk) ?_
  refine rz_All_c (i := 29) (fun k J hk hJ => rz_iconst_ok (pc := 98) hx hb dX12_link_98 rfl hk) ?_
  refine rz_All_c (i := 30) (fun k J hk hJ => rz_isub_ok (pc := 99) hx hb dX12_link_99 hk) ?_
  refine rz_All_c (i := 31) (fun k J hk hJ => rz_istore_n_ok (pc := 100) hx hb dX12_link_100 rfl hk) ?_
  refine rz_All_c (i := 32) (fun k J hk hJ => rz_iload_n_ok (pc := 101) hx hb dX12_link_101 rfl hk) ?_
  refine rz_All_c (i := 33) (fun k J hk hJ => rz_bipush_ok (pc := 102) hx hb dX12_link_102 (by decide) hk) ?_
  refine rz_All_c (i := 34) (fun k J hk hJ => rz_icmplt_ok (pc := 104) hx hb dX12_link_104 rfl hk (hJ 36)) ?_
  refine rz_All_c (i := 35) (fun k J hk hJ => rz_no_ok) ?_
  refine rz_All_c (i := 36) (fun k J hk hJ => rz_aload_n_ok (pc := 225) hx hb dX12_link_225 rfl hk) ?_
  refine rz_All_c (i := 37) (fun k J hk hJ => rz_getf_ok (pc := 226) (own := RX12) (ref := "ThreadJudgeModel") (C := RX12) (T := TX12) (N := 257) (ci := 14) (index := 873) (f := 87) (t := 0) (Ts := Cond.code yX12_link cX12_link 4 (some .boolean) :: rz_TB) hx hb hts rz_in14 ho hK rfl (by decide) rfl (fun _ => rfl) (hw (i := 42) (j := 14) rfl rfl) (fun _ z => z) dX12_link_226 hk) ?_
  refine rz_All_c (i := 38) (fun k J hk hJ => rz_iconst_ok (pc := 229) hx hb dX12_link_229 rfl hk) ?_
  refine rz_All_c (i := 39) (fun k J hk hJ => rz_icmpne_ok (pc := 230) hx hb dX12_link_230 rfl hk (hJ 51)) ?_
  refine rz_All_c (i := 40) (fun k J hk hJ => rz_aload_n_ok (pc := 233) hx hb dX12_link_233 rfl hk) ?_
  refine rz_All_c (i := 41) (fun k J hk hJ => rz_bipush_ok (pc := 234) hx hb dX12_link_234 (by decide) hk) ?_
  refine rz_All_c (i := 42) (fun k J hk hJ => rz_putf_ok (pc := 236) (own := RX12) (ref := "ThreadJudgeModel") (C := RX12) (T := TX12) (N := 257) (ci := 14) (index := 635) (f := 10) (t := 0) (Ts := Cond.code yX12_link cX12_link 4 (some .boolean) :: rz_TB) hx hb hts rz_in14 tyX12 tyX12_ok nmX12 ho hK hA rfl (by decide) rfl (rz_UnI _) rfl (tyX12_ok 10 (by decide)) (hw (i := 32) (j := 4) rfl rfl) (fun _ z => z) dX12_link_236 hk) ?_
  refine rz_All_c (i := 43) (fun k J hk hJ => rz_aload_n_ok (pc := 239) hx hb dX12_link_239 rfl hk) ?_
  refine rz_All_c (i := 44) (fun k J hk hJ => rz_aload_n_ok (pc := 240) hx hb dX12_link_240 rfl hk) ?_
  refine rz_All_c (i := 45) (fun k J hk hJ => rz_getf_ok (pc := 241) (own := RX12) (ref := "ThreadJudgeModel") (C := RX12) (T := TX12) (N := 257) (ci := 14) (index := 578) (f := 3) (t := 0) (Ts := Cond.code yX12_link cX12_link 4 (some .boolean) :: rz_TB) hx hb hts rz_in14 ho hK rfl (by decide) rfl (fun _ => rfl) (hw (i := 32) (j := 12) rfl rfl) (fun _ z => z) dX12_link_241 hk) ?_
  refine rz_All_c (i := 46) (fun k J hk hJ => rz_gets_ok (pc := 244) (own := RX12) (ref := "ThreadJudgeModel") (index := 638) hx hb hSt.2.2.1 rfl ho (hw (i := 32) (j := 10) rfl rfl) (fun _ z => z) dX12_link_244 hk) ?_
  refine rz_All_c (i := 47) (fun k J hk hJ => rz_isub_ok (pc := 247) hx hb dX12_link_247 hk) ?_
  refine rz_All_c (i := 48) (fun k J hk hJ => rz_putf_ok (pc := 248) (own := RX12) (ref := "ThreadJudgeModel") (C := RX12) (T := TX12) (N := 257) (ci := 14) (index := 16) (f := 11) (t := 0) (Ts := Cond.code yX12_link cX12_link 4 (some .boolean) :: rz_TB) hx hb hts rz_in14 tyX12 tyX12_ok nmX12 ho hK hA rfl (by decide) rfl (rz_UnI _) rfl (tyX12_ok 11 (by decide)) (hw (i := 33) (j := 1) rfl rfl) (fun _ z => z) dX12_link_248 hk) ?_
  refine rz_All_c (i := 49) (fun k J hk hJ => rz_iconst_ok (pc := 251) hx hb dX12_link_251 rfl hk) ?_
  refine rz_All_c (i := 50) (fun k J hk hJ => rz_zret_ok (pc := 252) hC dX12_link_252) ?_
  refine rz_All_c (i := 51) (fun k J hk hJ => rz_no_ok) ?_
  exact trivial
