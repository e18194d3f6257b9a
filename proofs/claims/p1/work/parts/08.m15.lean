/-! Methods: handlers, facts, contracts. -/
theorem dX12_count_0 : decode cX12_count 0 = .ok (.iload_n 1, 1) := by decide +kernel
theorem dX12_count_1 : decode cX12_count 1 = .ok (.tableswitch 153 0 7 #[47, 52, 68, 73, 89, 105, 121, 137], 47) := by decide +kernel
theorem dX12_count_48 : decode cX12_count 48 = .ok (.aload_n 0, 1) := by decide +kernel
theorem dX12_count_49 : decode cX12_count 49 = .ok (.getfield 635, 3) := by decide +kernel
theorem dX12_count_52 : decode cX12_count 52 = .ok (.ireturn, 1) := by decide +kernel
theorem dX12_count_53 : decode cX12_count 53 = .ok (.aload_n 0, 1) := by decide +kernel
theorem dX12_count_54 : decode cX12_count 54 = .ok (.getfield 635, 3) := by decide +kernel
theorem dX12_count_57 : decode cX12_count 57 = .ok (.ifCond .ne 7, 3) := by decide +kernel
theorem dX12_count_60 : decode cX12_count 60 = .ok (.iconst (-1), 1) := by decide +kernel
theorem dX12_count_61 : decode cX12_count 61 = .ok (.goto 7, 3) := by decide +kernel
theorem dX12_count_68 : decode cX12_count 68 = .ok (.ireturn, 1) := by decide +kernel
theorem dX12_count_69 : decode cX12_count 69 = .ok (.aload_n 0, 1) := by decide +kernel
theorem dX12_count_70 : decode cX12_count 70 = .ok (.getfield 575, 3) := by decide +kernel
theorem dX12_count_73 : decode cX12_count 73 = .ok (.ireturn, 1) := by decide +kernel
theorem dX12_count_74 : decode cX12_count 74 = .ok (.aload_n 0, 1) := by decide +kernel
theorem dX12_count_75 : decode cX12_count 75 = .ok (.getfield 1001, 3) := by decide +kernel
theorem dX12_count_78 : decode cX12_count 78 = .ok (.ifCond .eq 10, 3) := by decide +kernel
theorem dX12_count_88 : decode cX12_count 88 = .ok (.iconst 0, 1) := by decide +kernel
theorem dX12_count_89 : decode cX12_count 89 = .ok (.ireturn, 1) := by decide +kernel
theorem dX12_count_90 : decode cX12_count 90 = .ok (.aload_n 0, 1) := by decide +kernel
theorem dX12_count_91 : decode cX12_count 91 = .ok (.getfield 1001, 3) := by decide +kernel
theorem dX12_count_94 : decode cX12_count 94 = .ok (.ifCond .eq 10, 3) := by decide +kernel
theorem dX12_count_104 : decode cX12_count 104 = .ok (.iconst 0, 1) := by decide +kernel
theorem dX12_count_105 : decode cX12_count 105 = .ok (.ireturn, 1) := by decide +kernel
theorem dX12_count_106 : decode cX12_count 106 = .ok (.aload_n 0, 1) := by decide +kernel
theorem dX12_count_107 : decode cX12_count 107 = .ok (.getfield 1001, 3) := by decide +kernel
theorem dX12_count_110 : decode cX12_count 110 = .ok (.ifCond .eq 10, 3) := by decide +kernel
theorem dX12_count_120 : decode cX12_count 120 = .ok (.iconst 0, 1) := by decide +kernel
theorem dX12_count_121 : decode cX12_count 121 = .ok (.ireturn, 1) := by decide +kernel
theorem dX12_count_122 : decode cX12_count 122 = .ok (.aload_n 0, 1) := by decide +kernel
theorem dX12_count_123 : decode cX12_count 123 = .ok (.getfield 1001, 3) := by decide +kernel
theorem dX12_count_126 : decode cX12_count 126 = .ok (.ifCond .eq 10, 3) := by decide +kernel
theorem dX12_count_136 : decode cX12_count 136 = .ok (.iconst 0, 1) := by decide +kernel
theorem dX12_count_137 : decode cX12_count 137 = .ok (.ireturn, 1) := by decide +kernel
theorem dX12_count_138 : decode cX12_count 138 = .ok (.aload_n 0, 1) := by decide +kernel
theorem dX12_count_139 : decode cX12_count 139 = .ok (.getfield 1001, 3) := by decide +kernel
theorem dX12_count_142 : decode cX12_count 142 = .ok (.ifCond .eq 10, 3) := by decide +kernel
theorem dX12_count_152 : decode cX12_count 152 = .ok (.iconst 0, 1) := by decide +kernel
theorem dX12_count_153 : decode cX12_count 153 = .ok (.ireturn, 1) := by decide +kernel
theorem dX12_count_154 : decode cX12_count 154 = .ok (.iload_n 1, 1) := by decide +kernel
theorem dX12_count_155 : decode cX12_count 155 = .ok (.bipush 8, 2) := by decide +kernel
theorem dX12_count_157 : decode cX12_count 157 = .ok (.if_icmp .ge 7, 3) := by decide +kernel
theorem dX12_count_160 : decode cX12_count 160 = .ok (.iconst (-1), 1) := by decide +kernel
theorem dX12_count_161 : decode cX12_count 161 = .ok (.goto 54, 3) := by decide +kernel
theorem dX12_count_164 : decode cX12_count 164 = .ok (.iload_n 1, 1) := by decide +kernel
theorem dX12_count_165 : decode cX12_count 165 = .ok (.bipush 17, 2) := by decide +kernel
theorem dX12_count_167 : decode cX12_count 167 = .ok (.if_icmp .ge 22, 3) := by decide +kernel
theorem dX12_count_170 : decode cX12_count 170 = .ok (.aload_n 0, 1) := by decide +kernel
theorem dX12_count_171 : decode cX12_count 171 = .ok (.getfield 1004, 3) := by decide +kernel
theorem dX12_count_174 : decode cX12_count 174 = .ok (.ifCond .eq 11, 3) := by decide +kernel
theorem dX12_count_185 : decode cX12_count 185 = .ok (.iconst 0, 1) := by decide +kernel
theorem dX12_count_186 : decode cX12_count 186 = .ok (.goto 29, 3) := by decide +kernel
theorem dX12_count_189 : decode cX12_count 189 = .ok (.iload_n 1, 1) := by decide +kernel
theorem dX12_count_190 : decode cX12_count 190 = .ok (.bipush 25, 2) := by decide +kernel
theorem dX12_count_192 : decode cX12_count 192 = .ok (.if_icmp .ge 22, 3) := by decide +kernel
theorem dX12_count_195 : decode cX12_count 195 = .ok (.aload_n 0, 1) := by decide +kernel
theorem dX12_count_196 : decode cX12_count 196 = .ok (.getfield 1007, 3) := by decide +kernel
theorem dX12_count_199 : decode cX12_count 199 = .ok (.ifCond .eq 11, 3) := by decide +kernel
theorem dX12_count_210 : decode cX12_count 210 = .ok (.iconst 0, 1) := by decide +kernel
theorem dX12_count_211 : decode cX12_count 211 = .ok (.goto 4, 3) := by decide +kernel
theorem dX12_count_214 : decode cX12_count 214 = .ok (.iconst (-1), 1) := by decide +kernel
theorem dX12_count_215 : decode cX12_count 215 = .ok (.ireturn, 1) := by decide +kernel
def rpX12_count : List Nat := [0, 1, 48, 49, 52, 53, 54, 57, 60, 61, 64, 68, 69, 70, 73, 74, 75, 78, 81, 88, 89, 90, 91, 94, 97, 104, 105, 106, 107, 110, 113, 120, 121, 122, 123, 126, 129, 136, 137, 138, 139, 142, 145, 152, 153, 154, 155, 157, 160, 161, 164, 165, 167, 170, 171, 174, 177, 185, 186, 189, 190, 192, 195, 196, 199, 202, 210, 211, 214, 215]
noncomputable def rcX12_count : List rz_B := [rz_iload 1, rz_tswK 0 [2, 5, 12, 15, 21, 27, 33, 39] 45, rz_aload 0, rz_getf (Nat.add (Nat.mul 256 14) 1) 10 rz_i, rz_iret, rz_aload 0, rz_getf (Nat.add (Nat.mul 256 14) 1) 10 rz_i, rz_ifne 10, rz_cst 4294967295, rz_goto 11, rz_no, rz_iret, rz_aload 0, rz_getf (Nat.add (Nat.mul 256 14) 1) 1 rz_i, rz_iret, rz_aload 0, rz_getf (Nat.add (Nat.mul 256 14) 1) 99 rz_i, rz_ifeq 19, rz_no, rz_cst 0, rz_iret, rz_aload 0, rz_getf (Nat.add (Nat.mul 256 14) 1) 99 rz_i, rz_ifeq 25, rz_no, rz_cst 0, rz_iret, rz_aload 0, rz_getf (Nat.add (Nat.mul 256 14) 1) 99 rz_i, rz_ifeq 31, rz_no, rz_cst 0, rz_iret, rz_aload 0, rz_getf (Nat.add (Nat.mul 256 14) 1) 99 rz_i, rz_ifeq 37, rz_no, rz_cst 0, rz_iret, rz_aload 0, rz_getf (Nat.add (Nat.mul 256 14) 1) 99 rz_i, rz_ifeq 43, rz_no, rz_cst 0, rz_iret, rz_iload 1, rz_cst 8, rz_icmpgeK 50, rz_cst 4294967295, rz_goto 69, rz_iload 1, rz_cst 17, rz_icmpgeK 59, rz_aload 0, rz_getf (Nat.add (Nat.mul 256 14) 1) 103 rz_i, rz_ifeq 57, rz_no, rz_cst 0, rz_goto 69, rz_iload 1, rz_cst 25, rz_icmpgeK 68, rz_aload 0, rz_getf (Nat.add (Nat.mul 256 14) 1) 189 rz_i, rz_ifeq 66, rz_no, rz_cst 0, rz_goto 69, rz_cst 4294967295, rz_iret]
noncomputable def rgX12_count : rz_L → rz_M → rz_Z → Bool := rz_go rcX12_count 2 1000000
def rrX12_count : Room := { frames := 0, cells := 0, slots := 0, locals := 0 }
theorem rmX12_count (l : Launch) {G : rz_G} (hG : rz_Gd G) (vs : rz_L) (M : rz_M) (Z : rz_Z) (hn : vs.length = 2) (h : rgX12_count vs M Z = true) : Met l yX12_count (Cond.code yX12_count cX12_count 2 (some .int) :: rz_TB) rrX12_count (rz_Pre G vs M) (rz_Qi G M.2 Z) 0 0 (fun q => rz_b G ≤ q) := by
  obtain ⟨D, tc, ad, b, xs, rfl⟩ := id hG
  refine rz_body (pcs := rpX12_count) (by decide) rfl (by rw [hn]; decide) h ?_
  intro p e R s m args below meth c hC
  obtain ⟨hx, hb, hml, hr, hlk, ho, hts, hKn, hRm⟩ := id hC
  obtain ⟨hK, hA, hSt⟩ := id hKn
  have hw : ∀ {i j : Nat} {ws : List Cond} {w : Cond}, rz_WW[i]? = some ws → ws[j]? = some w → w.before args s = true := fun h1 h2 => hts _ (List.mem_cons_of_mem _ (rz_mem h1 h2))
  refine rz_All_c (i := 0) (fun k J hk hJ => rz_iload_n_ok (pc := 0) hx hb dX12_count_0 rfl hk) ?_
  refine rz_All_c (i := 1) (fun k J hk hJ => rz_tswK_ok (pc := 1) (pcs := rpX12_count) (js := [2, 5, 12, 15, 21, 27, 33, 39]) (d := 45) (lo := 0) hx hb hSt.2.2.2.2.2.2.2 dX12_count_1 (by decide +kernel) hJ) ?_
  refine rz_All_c (i := 2) (fun k J hk hJ => rz_aload_n_ok (pc := 48) hx hb dX12_count_48 rfl hk) ?_
  refine rz_All_c (i := 3) (fun k J hk hJ => rz_getf_ok (pc := 49) (own := RX12) (ref := "ThreadJudgeModel") (C := RX12) (T := TX12) (N := 257) (ci := 14) (index := 635) (f := 10) (t := 0) (Ts := Cond.code yX12_count cX12_count 2 (some .int) :: rz_TB) hx hb hts rz_in14 ho hK rfl (by decide) rfl (fun _ => rfl) (hw (i := 32) (j := 4) rfl rfl) (fun _ z => z) dX12_count_49 hk) ?_
  refine rz_All_c (i := 4) (fun k J hk hJ => rz_iret_ok (pc := 52) hC dX12_count_52) ?_
  refine rz_All_c (i := 5) (fun k J hk hJ => rz_aload_n_ok (pc := 53) hx hb dX12_count_53 rfl hk) ?_
  refine rz_All_c (i := 6) (fun k J hk hJ => rz_getf_ok (pc := 54) (own := RX12) (ref := "ThreadJudgeModel") (C := RX12) (T := TX12) (N := 257) (ci := 14) (index := 635) (f := 10) (t := 0) (Ts := Cond.code yX12_count cX12_count 2 (some .int) :: rz_TB) hx hb hts rz_in14 ho hK rfl (by decide) rfl (fun _ => rfl) (hw (i := 32) (j := 4) rfl rfl) (fun _ z => z) dX12_count_54 hk) ?_
  refine rz_All_c (i := 7) (fun k J hk hJ => rz_ifne_ok (pc := 57) hx hb dX12_count_57 rfl hk (hJ 10)) ?_
  refine rz_All_c (i := 8) (fun k J hk hJ => rz_iconst_ok (pc := 60) hx hb dX12_count_60 rfl hk) ?_
  refine rz_All_c (i := 9) (fun k J hk hJ => rz_goto_ok (pc := 61) hx hb dX12_count_61 rfl (hJ 11)) ?_
  refine rz_All_c (i := 10) (fun k J hk hJ => rz_no_ok) ?_
  refine rz_All_c (i := 11) (fun k J hk hJ => rz_iret_ok (pc := 68) hC dX12_count_68) ?_
  refine rz_All_c (i := 12) (fun k J hk hJ => rz_aload_n_ok (pc := 69) hx hb dX12_count_69 rfl hk) ?_
  refine rz_All_c (i := 13) (fun k J hk hJ => rz_getf_ok (pc := 70) (own := RX12) (ref := "ThreadJudgeModel") (C := RX12) (T := TX12) (N := 257) (ci := 14) (index := 575) (f := 1) (t := 0) (Ts := Cond.code yX12_count cX12_count 2 (some .int) :: rz_TB) hx hb hts rz_in14 ho hK rfl (by decide) rfl (fun _ => rfl) (hw (i := 32) (j := 11) rfl rfl) (fun _ z => z) dX12_count_70 hk) ?_
  refine rz_All_c (i := 14) (fun k J hk hJ => rz_iret_ok (pc := 73) hC dX12_count_73) ?_
  refine rz_All_c (i := 15) (fun k J hk hJ => rz_aload_n_ok (pc := 74) hx hb dX12_count_74 rfl hk) ?_
  refine rz_All_c (i := 16) (fun k J hk hJ => rz_getf_ok (pc := 75) (own := RX12) (ref := "ThreadJudgeModel") (C := RX12) (T := TX12) (N := 257) (ci := 14) (index := 1001) (f := 99) (t := 0) (Ts := Cond.code yX12_count cX12_count 2 (some .int) :: rz_TB) hx hb hts rz_in14 ho hK rfl (by decide) rfl (fun _ => rfl) (hw (i := 32) (j := 0) rfl rfl) (fun _ z => z) dX12_count_75 hk) ?_
  refine rz_All_c (i := 17) (fun k J hk hJ => rz_ifeq_ok (pc := 78) hx hb dX12_count_78 rfl hk (hJ 19)) ?_
  refine rz_All_c (i := 18) (fun k J hk hJ => rz_no_ok) ?_
  refine rz_All_c (i := 19) (fun k J hk hJ => rz_iconst_ok (pc := 88) hx hb dX12_count_88 rfl hk) ?_
  refine rz_All_c (i := 20) (fun k J hk hJ => rz_iret_ok (pc := 89) hC dX12_count_89) ?_
  refine rz_All_c (i := 21) (fun k J hk hJ => rz_aload_n_ok (pc := 90) hx hb dX12_count_90 rfl hk) ?_
  refine rz_All_c (i := 22) (fun k J hk hJ => rz_getf_ok (pc := 91) (own := RX12) (ref := "ThreadJudgeModel") (C := RX12) (T := TX12) (N := 257) (ci := 14) (index := 1001) (f := 99) (t := 0) (Ts := Cond.code yX12_count cX12_count 2 (some .int) :: rz_TB) hx hb hts rz_in14 ho hK rfl (by decide) rfl (fun _ => rfl) (hw (i := 32) (j := 0) rfl rfl) (fun _ z => z) dX12_count_91 hk) ?_
  refine rz_All_c (i := 23) (fun k J hk hJ => rz_ifeq_ok (pc := 94) hx hb dX12_count_94 rfl hk (hJ 25)) ?_
  refine rz_All_c (i := 24) (fun k J hk hJ => rz_no_ok) ?_
  refine rz_All_c (i := 25) (fun k J hk hJ => rz_iconst_ok (pc := 104) hx hb dX12_count_104 rfl hk) ?_
  refine rz_All_c (i := 26) (fun k J hk hJ => rz_iret_ok (pc := 105) hC dX12_count_105) ?_
  refine rz_All_c (i := 27) (fun k J hk hJ => rz_aload_n_ok (pc := 106) hx hb dX12_count_106 rfl hk) ?_
  refine rz_All_c (i := 28) (fun k J hk hJ => rz_getf_ok (pc := 107) (own := RX12) (ref := "ThreadJudgeModel") (C := RX12) (T := TX12) (N := 257) (ci := 14) (index := 1001) (f := 99) (t := 0) (Ts := Cond.code yX12_count cX12_count 2 (some .int) :: rz_TB) hx hb hts rz_in14 ho hK rfl (by decide) rfl (fun _ => rfl) (hw (i := 32) (j := 0) rfl rfl) (fun _ z => z) dX12_count_107 hk) ?_
  refine rz_All_c (i := 29) (fun k J hk hJ => rz_ifeq_ok (pc := 110) hx hb dX12_count_110 rfl hk (hJ 31)) ?_
  refine rz_All_c (i := 30) (fun k J hk hJ => rz_no_ok) ?_
  refine rz_All_c (i := 31) (fun k J hk hJ => rz_iconst_ok (pc := 120) hx hb dX12_count_120 rfl hk) ?_
  refine rz_All_c (i := 32) (fun k J hk hJ => rz_iret_ok (pc := 121) hC dX12_count_121) ?_
  refine rz_All_c (i := 33) (fun k J hk hJ => rz_aload_n_ok (pc := 122) hx hb dX12_count_122 rfl hk) ?_
  refine rz_All_c (i := 34) (fun k J hk hJ => rz_getf_ok (pc := 123) (own := RX12) (ref := "ThreadJudgeModel") (C := RX12) (T := TX12) (N := 257) (ci := 14) (index := 1001) (f := 99) (t := 0) (Ts := Cond.code yX12_count cX12_count 2 (some .int) :: rz_TB) hx hb hts rz_in14 ho hK rfl (by decide) rfl (fun _ => rfl) (hw (i := 32) (j := 0) rfl rfl) (fun _ z => z) dX12_count_123 hk) ?_
  refine rz_All_c (i := 35) (fun k J hk hJ => rz_ifeq_ok (pc := 126) hx hb dX12_count_126 rfl hk (hJ 37)) ?_
  refine rz_All_c (i := 36) (fun k J hk hJ => rz_no_ok) ?_
  refine rz_All_c (i := 37) (fun k J hk hJ => rz_iconst_ok (pc := 136) hx hb dX12_count_136 rfl hk) ?_
  refine rz_All_c (i := 38) (fun k J hk hJ => rz_iret_ok (pc := 137) hC dX12_count_137) ?_
  refine rz_All_c (i := 39) (fun k J hk hJ => rz_aload_n_ok (pc := 138) hx hb dX12_count_138 rfl hk) ?_
  refine rz_All_c (i := 40) (fun k J hk hJ => rz_getf_ok (pc := 139) (own := RX12) (ref := "ThreadJudgeModel") (C := RX12) (T := TX12) (N := 257) (ci := 14) (index := 1001) (f := 99) (t := 0) (Ts := Cond.code yX12_count cX12_count 2 (some .int) :: rz_TB) hx hb hts rz_in14 ho hK rfl (by decide) rfl (fun _ => rfl) (hw (i := 32) (j := 0) rfl rfl) (fun _ z => z) dX12_count_139 hk) ?_
  refine rz_All_c (i := 41) (fun k J hk hJ => rz_ifeq_ok (pc := 142) hx hb dX12_count_142 rfl hk (hJ 43)) ?_
  refine rz_All_c (i := 42) (fun k J hk hJ => rz_no_ok) ?_
  refine rz_All_c (i := 43) (fun k J hk hJ => rz_iconst_ok (pc := 152) hx hb dX12_count_152 rfl hk) ?_
  refine rz_All_c (i := 44) (fun k J hk hJ => rz_iret_ok (pc := 153) hC dX12_count_153) ?_
  refine rz_All_c (i := 45) (fun k J hk hJ => rz_iload_n_ok (pc := 154) hx hb dX12_count_154 rfl hk) ?_
  refine rz_All_c (i := 46) (fun k J hk hJ => rz_bipush_ok (pc := 155) hx hb dX12_count_155 (by decide) hk) ?_
  refine rz_All_c (i := 47) (fun k J hk hJ => rz_icmpgeK_ok (pc := 157) hx hb hSt.2.2.2.2.2.2.2 dX12_count_157 rfl hk (hJ 50)) ?_
  refine rz_All_c (i := 48) (fun k J hk hJ => rz_iconst_ok (pc := 160) hx hb dX12_count_160 rfl hk) ?_
  refine rz_All_c (i := 49) (fun k J hk hJ => rz_goto_ok (pc := 161) hx hb dX12_count_161 rfl (hJ 69)) ?_
  refine rz_All_c (i := 50) (fun k J hk hJ => rz_iload_n_ok (pc := 164) hx hb dX12_count_164 rfl hk) ?_
  refine rz_All_c (i := 51) (fun k J hk hJ => rz_bipush_ok (pc := 165) hx hb dX12_count_165 (by decide) hk) ?_
  refine rz_All_c (i := 52) (fun k J hk hJ => rz_icmpgeK_ok (pc := 167) hx hb hSt.2.2.2.2.2.2.2 dX12_count_167 rfl hk (hJ 59)) ?_
  refine rz_All_c (i := 53) (fun k J hk hJ => rz_aload_n_ok (pc := 170) hx hb dX12_count_170 rfl hk) ?_
  refine rz_All_c (i := 54) (fun k J hk hJ => rz_getf_ok (pc := 171) (own := RX12) (ref := "ThreadJudgeModel") (C := RX12) (T := TX12) (N := 257) (ci := 14) (index := 1004) (f := 103) (t := 0) (Ts := Cond.code yX12_count cX12_count 2 (some .int) :: rz_TB) hx hb hts rz_in14 ho hK rfl (by decide) rfl (fun _ => rfl) (hw (i := 32) (j := 1) rfl rfl) (fun _ z => z) dX12_count_171 hk) ?_
  refine rz_All_c (i := 55) (fun k J hk hJ => rz_ifeq_ok (pc := 174) hx hb dX12_count_174 rfl hk (hJ 57)) ?_
  refine rz_All_c (i := 56) (fun k J hk hJ => rz_no_ok) ?_
  refine rz_All_c (i := 57) (fun k J hk hJ => rz_iconst_ok (pc := 185) hx hb dX12_count_185 rfl hk) ?_
  refine rz_All_c (i := 58) (fun k J hk hJ => rz_goto_ok (pc := 186) hx hb dX12_count_186 rfl (hJ 69)) ?_
  refine rz_All_c (i := 59) (fun k J hk hJ => rz_iload_n_ok (pc := 189) hx hb dX12_count_189 rfl hk) ?_
  refine rz_All_c (i := 60) (fun k J hk hJ => rz_bipush_ok (pc := 190) hx hb dX12_count_190 (by decide) hk) ?_
  refine rz_All_c (i := 61) (fun k J hk hJ => rz_icmpgeK_ok (pc := 192) hx hb hSt.2.2.2.2.2.2.2 dX12_count_192 rfl hk (hJ 68)) ?_
  refine rz_All_c (i := 62) (fun k J hk hJ => rz_aload_n_ok (pc := 195) hx hb dX12_count_195 rfl hk) ?_
  refine rz_All_c (i := 63) (fun k J hk hJ => rz_getf_ok (pc := 196) (own := RX12) (ref := "ThreadJudgeModel") (C := RX12) (T := TX12) (N := 257) (ci := 14) (index := 1007) (f := 189) (t := 0) (Ts := Cond.code yX12_count cX12_count 2 (some .int) :: rz_TB) hx hb hts rz_in14 ho hK rfl (by decide) rfl (fun _ => rfl) (hw (i := 32) (j := 2) rfl rfl) (fun _ z => z) dX12_count_196 hk) ?_
  refine rz_All_c (i := 64) (fun k J hk hJ => rz_ifeq_ok (pc := 199) hx hb dX12_count_199 rfl hk (hJ 66)) ?_
  refine rz_All_c (i := 65) (fun k J hk hJ => rz_no_ok) ?_
  refine rz_All_c (i := 66) (fun k J hk hJ => rz_iconst_ok (pc := 210) hx hb dX12_count_210 rfl hk) ?_
  refine rz_All_c (i := 67) (fun k J hk hJ => rz_goto_ok (pc := 211) hx hb dX12_count_211 rfl (hJ 69)) ?_
  refine rz_All_c (i := 68) (fun k J hk hJ => rz_iconst_ok (pc := 214) hx hb dX12_count_214 rfl hk) ?_
  refine rz_All_c (i := 69) (fun k J hk hJ => rz_iret_ok (pc := 215) hC dX12_count_215) ?_
  exact trivial
theorem dX11_isClass_0 : decode cX11_isClass 0 = .ok (.aload_n 0, 1) := by decide +kernel
theorem dX11_isClass_1 : decode cX11_isClass 1 = .ok (.getfield 20, 3) := by decide +kernel
theorem dX11_isClass_4 : decode cX11_isClass 4 = .ok (.getfield 108, 3) := by decide +kernel
theorem dX11_isClass_7 : decode cX11_isClass 7 = .ok (.ifCond .eq 22, 3) := by decide +kernel
theorem dX11_isClass_29 : decode cX11_isClass 29 = .ok (.iconst 0, 1) := by decide +kernel
theorem dX11_isClass_30 : decode cX11_isClass 30 = .ok (.ireturn, 1) := by decide +kernel
def rpX11_isClass : List Nat := [0, 1, 4, 7, 10, 29, 30]
noncomputable def rcX11_isClass : List rz_B := [rz_aload 0, rz_getf (Nat.add (Nat.mul 256 13) 1) 5 rz_r, rz_getf (Nat.add (Nat.mul 256 9) 1) 0 rz_i, rz_ifeq 5, rz_no, rz_cst 0, rz_zret]
noncomputable def rgX11_isClass : rz_L → rz_M → rz_Z → Bool := rz_go rcX11_isClass 2 1000000
def rrX11_isClass : Room := { frames := 0, cells := 0, slots := 0, locals := 0 }
theorem rmX11_isClass (l : Launch) {G : rz_G} (hG : rz_Gd G) (vs : rz_L) (M : rz_M) (Z : rz_Z) (hn : vs.length = 2) (h : rgX11_isClass vs M Z = true) : Met l yX11_isClass (Cond.code yX11_isClass cX11_isClass 2 (some .boolean) :: rz_TB) rrX11_isClass (rz_Pre G vs M) (rz_Qi G M.2 Z) 0 0 (fun q => rz_b G ≤ q) := by
  obtain ⟨D, tc, ad, b, xs, rfl⟩ := id hG
  refine rz_body (pcs := rpX11_isClass) (by decide) rfl (by rw [hn]; decide) h ?_
  intro p e R s m args below meth c hC
  obtain ⟨hx, hb, hml, hr, hlk, ho, hts, hKn, hRm⟩ := id hC
  obtain ⟨hK, hA, hSt⟩ := id hKn
  have hw : ∀ {i j : Nat} {ws : List Cond} {w : Cond}, rz_WW[i]? = some ws → ws[j]? = some w → w.before args s = true := fun h1 h2 => hts _ (List.mem_cons_of_mem _ (rz_mem h1 h2))
  refine rz_All_c (i := 0) (fun k J hk hJ => rz_aload_n_ok (pc := 0) hx hb dX11_isClass_0 rfl hk) ?_
  refine rz_All_c (i := 1) (fun k J hk hJ => rz_getf_ok (pc := 1) (own := RX11) (ref := "ThreadJudge") (C := RX11) (T := TX11) (N := 16) (ci := 13) (index := 20) (f := 5) (t := 2) (Ts := Cond.code yX11_isClass cX11_isClass 2 (some .boolean) :: rz_TB) hx hb hts rz_in13 ho hK rfl (by decide) rfl (fun _ => rfl) (hw (i := 0) (j := 0) rfl rfl) (fun _ z => z) dX11_isClass_1 hk) ?_
  refine rz_All_c (i := 2) (fun k J hk hJ => rz_getf_ok (pc := 4) (own := RX11) (ref := "ThreadJudge$Program") (C := RX7) (T := TX7) (N := 22) (ci := 9) (index := 108) (f := 0) (t := 0) (Ts := Cond.code yX11_isClass cX11_isClass 2 (some .boolean) :: rz_TB) hx hb hts rz_in9 ho hK rfl (by decide) rfl (fun _ => rfl) (hw (i := 0) (j := 20) rfl rfl) (fun _ z => z) dX11_isClass_4 hk) ?_
  refine rz_All_c (i := 3) (fun k J hk hJ => rz_ifeq_ok (pc := 7) hx hb dX11_isClass_7 rfl hk (hJ 5)) ?_
  refine rz_All_c (i := 4) (fun k J hk hJ => rz_no_ok) ?_
  refine rz_All_c (i := 5) (fun k J hk hJ => rz_iconst_ok (pc := 29) hx hb dX11_isClass_29 rfl hk) ?_
  refine rz_All_c (i := 6) (fun k J hk hJ => rz_zret_ok (pc := 30) hC dX11_isClass_30) ?_
  exact trivial
theorem dX11_classOf_0 : decode cX11_classOf 0 = .ok (.aload_n 0, 1) := by decide +kernel
theorem dX11_classOf_1 : decode cX11_classOf 1 = .ok (.iload_n 1, 1) := by decide +kernel
theorem dX11_classOf_2 : decode cX11_classOf 2 = .ok (.invokevirtual 210, 3) := by decide +kernel
theorem dX11_classOf_5 : decode cX11_classOf 5 = .ok (.ifCond .ne 5, 3) := by decide +kernel
theorem dX11_classOf_8 : decode cX11_classOf 8 = .ok (.iconst (-1), 1) := by decide +kernel
theorem dX11_classOf_9 : decode cX11_classOf 9 = .ok (.ireturn, 1) := by decide +kernel
def rpX11_classOf : List Nat := [0, 1, 2, 5, 8, 9, 10]
noncomputable def rcX11_classOf : List rz_B := [rz_aload 0, rz_iload 1, rz_callV 1 (Nat.add (Nat.mul 256 13) 1) rgX11_isClass, rz_ifne 6, rz_cst 4294967295, rz_iret, rz_no]
noncomputable def rgX11_classOf : rz_L → rz_M → rz_Z → Bool := rz_go rcX11_classOf 4 1000000
def rrX11_classOf : Room := { frames := 1, cells := 0, slots := 0, locals := 21 }
theorem rmX11_classOf (l : Launch) {G : rz_G} (hG : rz_Gd G) (vs : rz_L) (M : rz_M) (Z : rz_Z) (hn : vs.length = 3) (h : rgX11_classOf vs M Z = true) : Met l yX11_classOf (Cond.code yX11_classOf cX11_classOf 4 (some .int) :: rz_TB) rrX11_classOf (rz_Pre G vs M) (rz_Qi G M.2 Z) 0 0 (fun q => rz_b G ≤ q) := by
  obtain ⟨D, tc, ad, b, xs, rfl⟩ := id hG
  refine rz_body (pcs := rpX11_classOf) (by decide) rfl (by rw [hn]; decide) h ?_
  intro p e R s m args below meth c hC
  obtain ⟨hx, hb, hml, hr, hlk, ho, hts, hKn, hRm⟩ := id hC
  obtain ⟨hK, hA, hSt⟩ := id hKn
  have hw : ∀ {i j : Nat} {ws : List Cond} {w : Cond}, rz_WW[i]? = some ws → ws[j]? = some w → w.before args s = true := fun h1 h2 => hts _ (List.mem_cons_of_mem _ (rz_mem h1 h2))
  refine rz_All_c (i := 0) (fun k J hk hJ => rz_aload_n_ok (pc := 0) hx hb dX11_classOf_0 rfl hk) ?_
  refine rz_All_c (i := 1) (fun k J hk hJ => rz_iload_n_ok (pc := 1) hx hb dX11_classOf_1 rfl hk) ?_
  refine rz_All_c (i := 2) (fun k J hk hJ => rz_callV_ok (pc := 2) (own := RX11) (C := RX11) (T0 := TX11) (N0 := 16) hC rfl (rmX11_isClass l hG) (rz_cwV 1 hC rz_good (rz_mem (i := 84) (j := 14) rfl rfl) (rz_mem (i := 84) (j := 15) rfl rfl) (rz_mem (i := 84) (j := 16) rfl rfl) (rz_mem (i := 29) (j := 8) rfl rfl) (rz_mem (i := 84) (j := 12) rfl rfl) ⟨rfl, by decide, by decide, by decide +kernel⟩ rfl rfl ⟨by decide, by decide⟩) rfl dX11_classOf_2 hk) ?_
  refine rz_All_c (i := 3) (fun k J hk hJ => rz_ifne_ok (pc := 5) hx hb dX11_classOf_5 rfl hk (hJ 6)) ?_
  refine rz_All_c (i := 4) (fun k J hk hJ => rz_iconst_ok (pc := 8) hx hb dX11_classOf_8 rfl hk) ?_
  refine rz_All_c (i := 5) (fun k J hk hJ => rz_iret_ok (pc := 9) hC dX11_classOf_9) ?_
  refine rz_All_c (i := 6) (fun k J hk hJ => rz_no_ok) ?_
  exact trivial
theorem dX12_noClass_0 : decode cX12_noClass 0 = .ok (.aload_n 0, 1) := by decide +kernel
theorem dX12_noClass_1 : decode cX12_noClass 1 = .ok (.getfield 1001, 3) := by decide +kernel
theorem dX12_noClass_4 : decode cX12_noClass 4 = .ok (.ifCond .eq 15, 3) := by decide +kernel
theorem dX12_noClass_19 : decode cX12_noClass 19 = .ok (.iconst 1, 1) := by decide +kernel
theorem dX12_noClass_20 : decode cX12_noClass 20 = .ok (.goto 4, 3) := by decide +kernel
theorem dX12_noClass_24 : decode cX12_noClass 24 = .ok (.ireturn, 1) := by decide +kernel
def rpX12_noClass : List Nat := [0, 1, 4, 7, 19, 20, 24]
noncomputable def rcX12_noClass : List rz_B := [rz_aload 0, rz_getf (Nat.add (Nat.mul 256 14) 1) 99 rz_i, rz_ifeq 4, rz_no, rz_cst 1, rz_goto 6, rz_zret]
noncomputable def rgX12_noClass : rz_L → rz_M → rz_Z → Bool := rz_go rcX12_noClass 2 1000000
def rrX12_noClass : Room := { frames := 0, cells := 0, slots := 0, locals := 0 }
theorem rmX12_noClass (l : Launch) {G : rz_G} (hG : rz_Gd G) (vs : rz_L) (M : rz_M) (Z : rz_Z) (hn : vs.length = 2) (h : rgX12_noClass vs M Z = true) : Met l yX12_noClass (Cond.code yX12_noClass cX12_noClass 2 (some .boolean) :: rz_TB) rrX12_noClass (rz_Pre G vs M) (rz_Qi G M.2 Z) 0 0 (fun q => rz_b G ≤ q) := by
  obtain ⟨D, tc, ad, b, xs, rfl⟩ := id hG
  refine rz_body (pcs := rpX12_noClass) (by decide) rfl (by rw [hn]; decide) h ?_
  intro p e R s m args below meth c hC
  obtain ⟨hx, hb, hml, hr, hlk, ho, hts, hKn, hRm⟩ := id hC
  obtain ⟨hK, hA, hSt⟩ := id hKn
  have hw : ∀ {i j : Nat} {ws : List Cond} {w : Cond}, rz_WW[i]? = some ws → ws[j]? = some w → w.before args s = true := fun h1 h2 => hts _ (List.mem_cons_of_mem _ (rz_mem h1 h2))
  refine rz_All_c (i := 0) (fun k J hk hJ => rz_aload_n_ok (pc := 0) hx hb dX12_noClass_0 rfl hk) ?_
  refine rz_All_c (i := 1) (fun k J hk hJ => rz_getf_ok (pc := 1) (own := RX12) (ref := "ThreadJudgeModel") (C := RX12) (T := TX12) (N := 257) (ci := 14) (index := 1001) (f := 99) (t := 0) (Ts := Cond.code yX12_noClass cX12_noClass 2 (some .boolean) :: rz_TB) hx hb hts rz_in14 ho hK rfl (by decide) rfl (fun _ => rfl) (hw (i := 32) (j := 0) rfl rfl) (fun _ z => z) dX12_noClass_1 hk) ?_
  refine rz_All_c (i := 2) (fun k J hk hJ => rz_ifeq_ok (pc := 4) hx hb dX12_noClass_4 rfl hk (hJ 4)) ?_
  refine rz_All_c (i := 3) (fun k J hk hJ => rz_no_ok) ?_
  refine rz_All_c (i := 4) (fun k J hk hJ => rz_iconst_ok (pc := 19) hx hb dX12_noClass_19 rfl hk) ?_
  refine rz_All_c (i := 5) (fun k J hk hJ => rz_goto_ok (pc := 20) hx hb dX12_noClass_20 rfl (hJ 6)) ?_
  refine rz_All_c (i := 6) (fun k J hk hJ => rz_zret_ok (pc := 24) hC dX12_noClass_24) ?_
  exact trivial
theorem dX12_classOf_0 : decode cX12_classOf 0 = .ok (.aload_n 0, 1) := by decide +kernel
theorem dX12_classOf_1 : decode cX12_classOf 1 = .ok (.iload_n 1, 1) := by decide +kernel
theorem dX12_classOf_2 : decode cX12_classOf 2 = .ok (.invokevirtual 1019, 3) := by decide +kernel
theorem dX12_classOf_5 : decode cX12_classOf 5 = .ok (.ifCond .eq 5, 3) := by decide +kernel
theorem dX12_classOf_8 : decode cX12_classOf 8 = .ok (.iconst (-1), 1) := by decide +kernel
theorem dX12_classOf_9 : decode cX12_classOf 9 = .ok (.ireturn, 1) := by decide +kernel
def rpX12_classOf : List Nat := [0, 1, 2, 5, 8, 9, 10]
noncomputable def rcX12_classOf : List rz_B := [rz_aload 0, rz_iload 1, rz_callV 1 (Nat.add (Nat.mul 256 14) 1) rgX12_noClass, rz_ifeq 6, rz_cst 4294967295, rz_iret, rz_no]
noncomputable def rgX12_classOf : rz_L → rz_M → rz_Z → Bool := rz_go rcX12_classOf 3 1000000
def rrX12_classOf : Room := { frames := 1, cells := 0, slots := 0, locals := 21 }
theorem rmX12_classOf (l : Launch) {G : rz_G} (hG : rz_Gd G) (vs : rz_L) (M : rz_M) (Z : rz_Z) (hn : vs.length = 3) (h : rgX12_classOf vs M Z = true) : Met l yX12_classOf (Cond.code yX12_classOf cX12_classOf 3 (some .int) :: rz_TB) rrX12_classOf (rz_Pre G vs M) (rz_Qi G M.2 Z) 0 0 (fun q => rz_b G ≤ q) := by
  obtain ⟨D, tc, ad, b, xs, rfl⟩ := id hG
  refine rz_body (pcs := rpX12_classOf) (by decide) rfl (by rw [hn]; decide) h ?_
  intro p e R s m args below meth c hC
  obtain ⟨hx, hb, hml, hr, hlk, ho, hts, hKn, hRm⟩ := id hC
  obtain ⟨hK, hA, hSt⟩ := id hKn
  have hw : ∀ {i j : Nat} {ws : List Cond} {w : Cond}, rz_WW[i]? = some ws → ws[j]? = some w → w.before args s = true := fun h1 h2 => hts _ (List.mem_cons_of_mem _ (rz_mem h1 h2))
  refine rz_All_c (i := 0) (fun k J hk hJ => rz_aload_n_ok (pc := 0) hx hb dX12_classOf_0 rfl hk) ?_
  refine rz_All_c (i := 1) (fun k J hk hJ => rz_iload_n_ok (pc := 1) hx hb dX12_classOf_1 rfl hk) ?_
  refine rz_All_c (i := 2) (fun k J hk hJ => rz_callV_ok (pc := 2) (own := RX12) (C := RX12) (T0 := TX12) (N0 := 257) hC rfl (rmX12_noClass l hG) (rz_cwV 1 hC rz_good (rz_mem (i := 84) (j := 19) rfl rfl) (rz_mem (i := 84) (j := 20) rfl rfl) (rz_mem (i := 84) (j := 21) rfl rfl) (rz_mem (i := 32) (j := 8) rfl rfl) (rz_mem (i := 84) (j := 17) rfl rfl) ⟨rfl, by decide, by decide, by decide +kernel⟩ rfl rfl ⟨by decide, by decide⟩) rfl dX12_classOf_2 hk) ?_
  refine rz_All_c (i := 3) (fun k J hk hJ => rz_ifeq_ok (pc := 5) hx hb dX12_classOf_5 rfl hk (hJ 6)) ?_
  refine rz_All_c (i := 4) (fun k J hk hJ => rz_iconst_ok (pc := 8) hx hb dX12_classOf_8 rfl hk) ?_
  refine rz_All_c (i := 5) (fun k J hk hJ => rz_iret_ok (pc := 9) hC dX12_classOf_9) ?_
  refine rz_All_c (i := 6) (fun k J hk hJ => rz_no_ok) ?_
  exact trivial
theorem dX11_isMethod_0 : decode cX11_isMethod 0 = .ok (.aload_n 0, 1) := by decide +kernel
theorem dX11_isMethod_1 : decode cX11_isMethod 1 = .ok (.getfield 20, 3) := by decide +kernel
theorem dX11_isMethod_4 : decode cX11_isMethod 4 = .ok (.getfield 108, 3) := by decide +kernel
theorem dX11_isMethod_7 : decode cX11_isMethod 7 = .ok (.ifCond .eq 22, 3) := by decide +kernel
theorem dX11_isMethod_29 : decode cX11_isMethod 29 = .ok (.iconst 0, 1) := by decide +kernel
theorem dX11_isMethod_30 : decode cX11_isMethod 30 = .ok (.ireturn, 1) := by decide +kernel
def rpX11_isMethod : List Nat := [0, 1, 4, 7, 10, 29, 30]
noncomputable def rcX11_isMethod : List rz_B := [rz_aload 0, rz_getf (Nat.add (Nat.mul 256 13) 1) 5 rz_r, rz_getf (Nat.add (Nat.mul 256 9) 1) 0 rz_i, rz_ifeq 5, rz_no, rz_cst 0, rz_zret]
noncomputable def rgX11_isMethod : rz_L → rz_M → rz_Z → Bool := rz_go rcX11_isMethod 2 1000000
def rrX11_isMethod : Room := { frames := 0, cells := 0, slots := 0, locals := 0 }
theorem rmX11_isMethod (l : Launch) {G : rz_G} (hG : rz_Gd G) (vs : rz_L) (M : rz_M) (Z : rz_Z) (hn : vs.length = 2) (h : rgX11_isMethod vs M Z = true) : Met l yX11_isMethod (Cond.code yX11_isMethod cX11_isMethod 2 (some .boolean) :: rz_TB) rrX11_isMethod (rz_Pre G vs M) (rz_Qi G M.2 Z) 0 0 (fun q => rz_b G ≤ q) := by
  obtain ⟨D, tc, ad, b, xs, rfl⟩ := id hG
  refine rz_body (pcs := rpX11_isMethod) (by decide) rfl (by rw [hn]; decide) h ?_
  intro p e R s m args below meth c hC
  obtain ⟨hx, hb, hml, hr, hlk, ho, hts, hKn, hRm⟩ := id hC
  obtain ⟨hK, hA, hSt⟩ := id hKn
  have hw : ∀ {i j : Nat} {ws : List Cond} {w : Cond}, rz_WW[i]? = some ws → ws[j]? = some w → w.before args s = true := fun h1 h2 => hts _ (List.mem_cons_of_mem _ (rz_mem h1 h2))
  refine rz_All_c (i := 0) (fun k J hk hJ => rz_aload_n_ok (pc := 0) hx hb dX11_isMethod_0 rfl hk) ?_
  refine rz_All_c (i := 1) (fun k J hk hJ => rz_getf_ok (pc := 1) (own := RX11) (ref := "ThreadJudge") (C := RX11) (T := TX11) (N := 16) (ci := 13) (index := 20) (f := 5) (t := 2) (Ts := Cond.code yX11_isMethod cX11_isMethod 2 (some .boolean) :: rz_TB) hx hb hts rz_in13 ho hK rfl (by decide) rfl (fun _ => rfl) (hw (i := 0) (j := 0) rfl rfl) (fun _ z => z) dX11_isMethod_1 hk) ?_
  refine rz_All_c (i := 2) (fun k J hk hJ => rz_getf_ok (pc := 4) (own := RX11) (ref := "ThreadJudge$Program") (C := RX7) (T := TX7) (N := 22) (ci := 9) (index := 108) (f := 0) (t := 0) (Ts := Cond.code yX11_isMethod cX11_isMethod 2 (some .boolean) :: rz_TB) hx hb hts rz_in9 ho hK rfl (by decide) rfl (fun _ => rfl) (hw (i := 0) (j := 20) rfl rfl) (fun _ z => z) dX11_isMethod_4 hk) ?_
  refine rz_All_c (i := 3) (fun k J hk hJ => rz_ifeq_ok (pc := 7) hx hb dX11_isMethod_7 rfl hk (hJ 5)) ?_
  refine rz_All_c (i := 4) (fun k J hk hJ => rz_no_ok) ?_
  refine rz_All_c (i := 5) (fun k J hk hJ => rz_iconst_ok (pc := 29) hx hb dX11_isMethod_29 rfl hk) ?_
  refine rz_All_c (i := 6) (fun k J hk hJ => rz_zret_ok (pc := 30) hC dX11_isMethod_30) ?_
  exact trivial
theorem dX11_method_0 : decode cX11_method 0 = .ok (.aload_n 0, 1) := by decide +kernel
theorem dX11_method_1 : decode cX11_method 1 = .ok (.iload_n 1, 1) := by decide +kernel
theorem dX11_method_2 : decode cX11_method 2 = .ok (.invokevirtual 219, 3) := by decide +kernel
theorem dX11_method_5 : decode cX11_method 5 = .ok (.ifCond .ne 5, 3) := by decide +kernel
theorem dX11_method_8 : decode cX11_method 8 = .ok (.iconst (-1), 1) := by decide +kernel
theorem dX11_method_9 : decode cX11_method 9 = .ok (.ireturn, 1) := by decide +kernel
def rpX11_method : List Nat := [0, 1, 2, 5, 8, 9, 10]
noncomputable def rcX11_method : List rz_B := [rz_aload 0, rz_iload 1, rz_callV 1 (Nat.add (Nat.mul 256 13) 1) rgX11_isMethod, rz_ifne 6, rz_cst 4294967295, rz_iret, rz_no]
noncomputable def rgX11_method : rz_L → rz_M → rz_Z → Bool := rz_go rcX11_method 4 1000000
def rrX11_method : Room := { frames := 1, cells := 0, slots := 0, locals := 21 }
theorem rmX11_method (l : Launch) {G : rz_G} (hG : rz_Gd G) (vs : rz_L) (M : rz_M) (Z : rz_Z) (hn : vs.length = 3) (h : rgX11_method vs M Z = true) : Met l yX11_method (Cond.code yX11_method cX11_method 4 (some .int) :: rz_TB) rrX11_method (rz_Pre G vs M) (rz_Qi G M.2 Z) 0 0 (fun q => rz_b G ≤ q) := by
  obtain ⟨D, tc, ad, b, xs, rfl⟩ := id hG
  refine rz_body (pcs := rpX11_method) (by decide) rfl (by rw [hn]; decide) h ?_
  intro p e R s m args below meth c hC
  obtain ⟨hx, hb, hml, hr, hlk, ho, hts, hKn, hRm⟩ := id hC
  obtain ⟨hK, hA, hSt⟩ := id hKn
  have hw : ∀ {i j : Nat} {ws : List Cond} {w : Cond}, rz_WW[i]? = some ws → ws[j]? = some w → w.before args s = true := fun h1 h2 => hts _ (List.mem_cons_of_mem _ (rz_mem h1 h2))
  refine rz_All_c (i := 0) (fun k J hk hJ => rz_aload_n_ok (pc := 0) hx hb dX11_method_0 rfl hk) ?_
  refine rz_All_c (i := 1) (fun k J hk hJ => rz_iload_n_ok (pc := 1) hx hb dX11_method_1 rfl hk) ?_
  refine rz_All_c (i := 2) (fun k J hk hJ => rz_callV_ok (pc := 2) (own := RX11) (C := RX11) (T0 := TX11) (N0 := 16) hC rfl (rmX11_isMethod l hG) (rz_cwV 1 hC rz_good (rz_mem (i := 84) (j := 24) rfl rfl) (rz_mem (i := 84) (j := 25) rfl rfl) (rz_mem (i := 84) (j := 26) rfl rfl) (rz_mem (i := 29) (j := 8) rfl rfl) (rz_mem (i := 84) (j := 22) rfl rfl) ⟨rfl, by decide, by decide, by decide +kernel⟩ rfl rfl ⟨by decide, by decide⟩) rfl dX11_method_2 hk) ?_
  refine rz_All_c (i := 3) (fun k J hk hJ => rz_ifne_ok (pc := 5) hx hb dX11_method_5 rfl hk (hJ 6)) ?_
  refine rz_All_c (i := 4) (fun k J hk hJ => rz_iconst_ok (pc := 8) hx hb dX11_method_8 rfl hk) ?_
  refine rz_All_c (i := 5) (fun k J hk hJ => rz_iret_ok (pc := 9) hC dX11_method_9) ?_
  refine rz_All_c (i := 6) (fun k J hk hJ => rz_no_ok) ?_
  exact trivial
theorem dX12_noMethod_0 : decode cX12_noMethod 0 = .ok (.aload_n 0, 1) := by decide +kernel
theorem dX12_noMethod_1 : decode cX12_noMethod 1 = .ok (.getfield 1001, 3) := by decide +kernel
theorem dX12_noMethod_4 : decode cX12_noMethod 4 = .ok (.ifCond .eq 15, 3) := by decide +kernel
theorem dX12_noMethod_19 : decode cX12_noMethod 19 = .ok (.iconst 1, 1) := by decide +kernel
theorem dX12_noMethod_20 : decode cX12_noMethod 20 = .ok (.goto 4, 3) := by decide +kernel
theorem dX12_noMethod_24 : decode cX12_noMethod 24 = .ok (.ireturn, 1) := by decide +kernel
def rpX12_noMethod : List Nat := [0, 1, 4, 7, 19, 20, 24]
noncomputable def rcX12_noMethod : List rz_B := [rz_aload 0, rz_getf (Nat.add (Nat.mul 256 14) 1) 99 rz_i, rz_ifeq 4, rz_no, rz_cst 1, rz_goto 6, rz_zret]
noncomputable def rgX12_noMethod : rz_L → rz_M → rz_Z → Bool := rz_go rcX12_noMethod 2 1000000
def rrX12_noMethod : Room := { frames := 0, cells := 0, slots := 0, locals := 0 }
theorem rmX12_noMethod (l : Launch) {G : rz_G} (hG : rz_Gd G) (vs : rz_L) (M : rz_M) (Z : rz_Z) (hn : vs.length = 2) (h : rgX12_noMethod vs M Z = true) : Met l yX12_noMethod (Cond.code yX12_noMethod cX12_noMethod 2 (some .boolean) :: rz_TB) rrX12_noMethod (rz_Pre G vs M) (rz_Qi G M.2 Z) 0 0 (fun q => rz_b G ≤ q) := by
  obtain ⟨D, tc, ad, b, xs, rfl⟩ := id hG
  refine rz_body (pcs := rpX12_noMethod) (by decide) rfl (by rw [hn]; decide) h ?_
  intro p e R s m args below meth c hC
  obtain ⟨hx, hb, hml, hr, hlk, ho, hts, hKn, hRm⟩ := id hC
  obtain ⟨hK, hA, hSt⟩ := id hKn
  have hw : ∀ {i j : Nat} {ws : List Cond} {w : Cond}, rz_WW[i]? = some ws → ws[j]? = some w → w.before args s = true := fun h1 h2 => hts _ (List.mem_cons_of_mem _ (rz_mem h1 h2))
  refine rz_All_c (i := 0) (fun k J hk hJ => rz_aload_n_ok (pc := 0) hx hb dX12_noMethod_0 rfl hk) ?_
  refine rz_All_c (i := 1) (fun k J hk hJ => rz_getf_ok (pc := 1) (own := RX12) (ref := "ThreadJudgeModel") (C := RX12) (T := TX12) (N := 257) (ci := 14) (index := 1001) (f := 99) (t := 0) (Ts := Cond.code yX12_noMethod cX12_noMethod 2 (some .boolean) :: rz_TB) hx hb hts rz_in14 ho hK rfl (by decide) rfl (fun _ => rfl) (hw (i := 32) (j := 0) rfl rfl) (fun _ z => z) dX12_noMethod_1 hk) ?_
  refine rz_All_c (i := 2) (fun k J hk hJ => rz_ifeq_ok (pc := 4) hx hb dX12_noMethod_4 rfl hk (hJ 4)) ?_
  refine rz_All_c (i := 3) (fun k J hk hJ => rz_no_ok) ?_
  refine rz_All_c (i := 4) (fun k J hk hJ => rz_iconst_ok (pc := 19) hx hb dX12_noMethod_19 rfl hk) ?_
  refine rz_All_c (i := 5) (fun k J hk hJ => rz_goto_ok (pc := 20) hx hb dX12_noMethod_20 rfl (hJ 6)) ?_
  refine rz_All_c (i := 6) (fun k J hk hJ => rz_zret_ok (pc := 24) hC dX12_noMethod_24) ?_
  exact trivial
theorem dX12_method_0 : decode cX12_method 0 = .ok (.aload_n 0, 1) := by decide +kernel
theorem dX12_method_1 : decode cX12_method 1 = .ok (.iload_n 1, 1) := by decide +kernel
theorem dX12_method_2 : decode cX12_method 2 = .ok (.invokevirtual 1026, 3) := by decide +kernel
theorem dX12_method_5 : decode cX12_method 5 = .ok (.ifCond .eq 5, 3) := by decide +kernel
theorem dX12_method_8 : decode cX12_method 8 = .ok (.iconst (-1), 1) := by decide +kernel
theorem dX12_method_9 : decode cX12_method 9 = .ok (.ireturn, 1) := by decide +kernel
def rpX12_method : List Nat := [0, 1, 2, 5, 8, 9, 10]
noncomputable def rcX12_method : List rz_B := [rz_aload 0, rz_iload 1, rz_callV 1 (Nat.add (Nat.mul 256 14) 1) rgX12_noMethod, rz_ifeq 6, rz_cst 4294967295, rz_iret, rz_no]
noncomputable def rgX12_method : rz_L → rz_M → rz_Z → Bool := rz_go rcX12_method 3 1000000
def rrX12_method : Room := { frames := 1, cells := 0, slots := 0, locals := 21 }
theorem rmX12_method (l : Launch) {G : rz_G} (hG : rz_Gd G) (vs : rz_L) (M : rz_M) (Z : rz_Z) (hn : vs.length = 3) (h : rgX12_method vs M Z = true) : Met l yX12_method (Cond.code yX12_method cX12_method 3 (some .int) :: rz_TB) rrX12_method (rz_Pre G vs M) (rz_Qi G M.2 Z) 0 0 (fun q => rz_b G ≤ q) := by
  obtain ⟨D, tc, ad, b, xs, rfl⟩ := id hG
  refine rz_body (pcs := rpX12_method) (by decide) rfl (by rw [hn]; decide) h ?_
  intro p e R s m args below meth c hC
  obtain ⟨hx, hb, hml, hr, hlk, ho, hts, hKn, hRm⟩ := id hC
  obtain ⟨hK, hA, hSt⟩ := id hKn
  have hw : ∀ {i j : Nat} {ws : List Cond} {w : Cond}, rz_WW[i]? = some ws → ws[j]? = some w → w.before args s = true := fun h1 h2 => hts _ (List.mem_cons_of_mem _ (rz_mem h1 h2))
  refine rz_All_c (i := 0) (fun k J hk hJ => rz_aload_n_ok (pc := 0) hx hb dX12_method_0 rfl hk) ?_
  refine rz_All_c (i := 1) (fun k J hk hJ => rz_iload_n_ok (pc := 1) hx hb dX12_method_1 rfl hk) ?_
  refine rz_All_c (i := 2) (fun k J hk hJ => rz_callV_ok (pc := 2) (own := RX12) (C := RX12) (T0 := TX12) (N0 := 257) hC rfl (rmX12_noMethod l hG) (rz_cwV 1 hC rz_good (rz_mem (i := 84) (j := 29) rfl rfl) (rz_mem (i := 84) (j := 30) rfl rfl) (rz_mem (i := 84) (j := 31) rfl rfl) (rz_mem (i := 32) (j := 8) rfl rfl) (rz_mem (i := 84) (j := 27) rfl rfl) ⟨rfl, by decide, by decide, by decide +kernel⟩ rfl rfl ⟨by decide, by decide⟩) rfl dX12_method_2 hk) ?_
  refine rz_All_c (i := 3) (fun k J hk hJ => rz_ifeq_ok (pc := 5) hx hb dX12_method_5 rfl hk (hJ 6)) ?_
  refine rz_All_c (i := 4) (fun k J hk hJ => rz_iconst_ok (pc := 8) hx hb dX12_method_8 rfl hk) ?_
  refine rz_All_c (i := 5) (fun k J hk hJ => rz_iret_ok (pc := 9) hC dX12_method_9) ?_
  refine rz_All_c (i := 6) (fun k J hk hJ => rz_no_ok) ?_
  exact trivial
theorem dX11_isInstruction_0 : decode cX11_isInstruction 0 = .ok (.aload_n 0, 1) := by decide +kernel
theorem dX11_isInstruction_1 : decode cX11_isInstruction 1 = .ok (.getfield 20, 3) := by decide +kernel
theorem dX11_isInstruction_4 : decode cX11_isInstruction 4 = .ok (.getfield 108, 3) := by decide +kernel
theorem dX11_isInstruction_7 : decode cX11_isInstruction 7 = .ok (.ifCond .eq 22, 3) := by decide +kernel
theorem dX11_isInstruction_29 : decode cX11_isInstruction 29 = .ok (.iconst 0, 1) := by decide +kernel
theorem dX11_isInstruction_30 : decode cX11_isInstruction 30 = .ok (.ireturn, 1) := by decide +kernel
def rpX11_isInstruction : List Nat := [0, 1, 4, 7, 10, 29, 30]
noncomputable def rcX11_isInstruction : List rz_B := [rz_aload 0, rz_getf (Nat.add (Nat.mul 256 13) 1) 5 rz_r, rz_getf (Nat.add (Nat.mul 256 9) 1) 0 rz_i, rz_ifeq 5, rz_no, rz_cst 0, rz_zret]
noncomputable def rgX11_isInstruction : rz_L → rz_M → rz_Z → Bool := rz_go rcX11_isInstruction 2 1000000
def rrX11_isInstruction : Room := { frames := 0, cells := 0, slots := 0, locals := 0 }
theorem rmX11_isInstruction (l : Launch) {G : rz_G} (hG : rz_Gd G) (vs : rz_L) (M : rz_M) (Z : rz_Z) (hn : vs.length = 2) (h : rgX11_isInstruction vs M Z = true) : Met l yX11_isInstruction (Cond.code yX11_isInstruction cX11_isInstruction 2 (some .boolean) :: rz_TB) rrX11_isInstruction (rz_Pre G vs M) (rz_Qi G M.2 Z) 0 0 (fun q => rz_b G ≤ q) := by
  obtain ⟨D, tc, ad, b, xs, rfl⟩ := id hG
  refine rz_body (pcs := rpX11_isInstruction) (by decide) rfl (by rw [hn]; decide) h ?_
  intro p e R s m args below meth c hC
  obtain ⟨hx, hb, hml, hr, hlk, ho, hts, hKn, hRm⟩ := id hC
  obtain ⟨hK, hA, hSt⟩ := id hKn
  have hw : ∀ {i j : Nat} {ws : List Cond} {w : Cond}, rz_WW[i]? = some ws → ws[j]? = some w → w.before args s = true := fun h1 h2 => hts _ (List.mem_cons_of_mem _ (rz_mem h1 h2))
  refine rz_All_c (i := 0) (fun k J hk hJ => rz_aload_n_ok (pc := 0) hx hb dX11_isInstruction_0 rfl hk) ?_
  refine rz_All_c (i := 1) (fun k J hk hJ => rz_getf_ok (pc := 1) (own := RX11) (ref := "ThreadJudge") (C := RX11) (T := TX11) (N := 16) (ci := 13) (index := 20) (f := 5) (t := 2) (Ts := Cond.code yX11_isInstruction cX11_isInstruction 2 (some .boolean) :: rz_TB) hx hb hts rz_in13 ho hK rfl (by decide) rfl (fun _ => rfl) (hw (i := 0) (j := 0) rfl rfl) (fun _ z => z) dX11_isInstruction_1 hk) ?_
  refine rz_All_c (i := 2) (fun k J hk hJ => rz_getf_ok (pc := 4) (own := RX11) (ref := "ThreadJudge$Program") (C := RX7) (T := TX7) (N := 22) (ci := 9) (index := 108) (f := 0) (t := 0) (Ts := Cond.code yX11_isInstruction cX11_isInstruction 2 (some .boolean) :: rz_TB) hx hb hts rz_in9 ho hK rfl (by decide) rfl (fun _ => rfl) (hw (i := 0) (j := 20) rfl rfl) (fun _ z => z) dX11_isInstruction_4 hk) ?_
  refine rz_All_c (i := 3) (fun k J hk hJ => rz_ifeq_ok (pc := 7) hx hb dX11_isInstruction_7 rfl hk (hJ 5)) ?_
  refine rz_All_c (i := 4) (fun k J hk hJ => rz_no_ok) ?_
  refine rz_All_c (i := 5) (fun k J hk hJ => rz_iconst_ok (pc := 29) hx hb dX11_isInstruction_29 rfl hk) ?_
  refine rz_All_c (i := 6) (fun k J hk hJ => rz_zret_ok (pc := 30) hC dX11_isInstruction_30) ?_
  exact trivial
theorem dX11_instruction_0 : decode cX11_instruction 0 = .ok (.aload_n 0, 1) := by decide +kernel
theorem dX11_instruction_1 : decode cX11_instruction 1 = .ok (.iload_n 1, 1) := by decide +kernel
theorem dX11_instruction_2 : decode cX11_instruction 2 = .ok (.invokevirtual 200, 3) := by decide +kernel
theorem dX11_instruction_5 : decode cX11_instruction 5 = .ok (.ifCond .ne 5, 3) := by decide +kernel
theorem dX11_instruction_8 : decode cX11_instruction 8 = .ok (.iconst (-1), 1) := by decide +kernel
theorem dX11_instruction_9 : decode cX11_instruction 9 = .ok (.ireturn, 1) := by decide +kernel
def rpX11_instruction : List Nat := [0, 1, 2, 5, 8, 9, 10]
noncomputable def rcX11_instruction : List rz_B := [rz_aload 0, rz_iload 1, rz_callV 1 (Nat.add (Nat.mul 256 13) 1) rgX11_isInstruction, rz_ifne 6, rz_cst 4294967295, rz_iret, rz_no]
noncomputable def rgX11_instruction : rz_L → rz_M → rz_Z → Bool := rz_go rcX11_instruction 3 1000000
def rrX11_instruction : Room := { frames := 1, cells := 0, slots := 0, locals := 21 }
theorem rmX11_instruction (l : Launch) {G : rz_G} (hG : rz_Gd G) (vs : rz_L) (M : rz_M) (Z : rz_Z) (hn : vs.length = 3) (h : rgX11_instruction vs M Z = true) : Met l yX11_instruction (Cond.code yX11_instruction cX11_instruction 3 (some .int) :: rz_TB) rrX11_instruction (rz_Pre G vs M) (rz_Qi G M.2 Z) 0 0 (fun q => rz_b G ≤ q) := by
  obtain ⟨D, tc, ad, b, xs, rfl⟩ := id hG
  refine rz_body (pcs := rpX11_instruction) (by decide) rfl (by rw [hn]; decide) h ?_
  intro p e R s m args below meth c hC
  obtain ⟨hx, hb, hml, hr, hlk, ho, hts, hKn, hRm⟩ := id hC
  obtain ⟨hK, hA, hSt⟩ := id hKn
  have hw : ∀ {i j : Nat} {ws : List Cond} {w : Cond}, rz_WW[i]? = some ws → ws[j]? = some w → w.before args s = true := fun h1 h2 => hts _ (List.mem_cons_of_mem _ (rz_mem h1 h2))
  refine rz_All_c (i := 0) (fun k J hk hJ => rz_aload_n_ok (pc := 0) hx hb dX11_instruction_0 rfl hk) ?_
  refine rz_All_c (i := 1) (fun k J hk hJ => rz_iload_n_ok (pc := 1) hx hb dX11_instruction_1 rfl hk) ?_
  refine rz_All_c (i := 2) (fun k J hk hJ => rz_callV_ok (pc := 2) (own := RX11) (C := RX11) (T0 := TX11) (N0 := 16) hC rfl (rmX11_isInstruction l hG) (rz_cwV 1 hC rz_good (rz_mem (i := 84) (j := 34) rfl rfl) (rz_mem (i := 84) (j := 35) rfl rfl) (rz_mem (i := 84) (j := 36) rfl rfl) (rz_mem (i := 29) (j := 8) rfl rfl) (rz_mem (i := 84) (j := 32) rfl rfl) ⟨rfl, by decide, by decide, by decide +kernel⟩ rfl rfl ⟨by decide, by decide⟩) rfl dX11_instruction_2 hk) ?_
  refine rz_All_c (i := 3) (fun k J hk hJ => rz_ifne_ok (pc := 5) hx hb dX11_instruction_5 rfl hk (hJ 6)) ?_
  refine rz_All_c (i := 4) (fun k J hk hJ => rz_iconst_ok (pc := 8) hx hb dX11_instruction_8 rfl hk) ?_
  refine rz_All_c (i := 5) (fun k J hk hJ => rz_iret_ok (pc := 9) hC dX11_instruction_9) ?_
  refine rz_All_c (i := 6) (fun k J hk hJ => rz_no_ok) ?_
  exact trivial
theorem dX12_noCode_0 : decode cX12_noCode 0 = .ok (.aload_n 0, 1) := by decide +kernel
theorem dX12_noCode_1 : decode cX12_noCode 1 = .ok (.getfield 1001, 3) := by decide +kernel
theorem dX12_noCode_4 : decode cX12_noCode 4 = .ok (.ifCond .eq 15, 3) := by decide +kernel
theorem dX12_noCode_19 : decode cX12_noCode 19 = .ok (.iconst 1, 1) := by decide +kernel
theorem dX12_noCode_20 : decode cX12_noCode 20 = .ok (.goto 4, 3) := by decide +kernel
theorem dX12_noCode_24 : decode cX12_noCode 24 = .ok (.ireturn, 1) := by decide +kernel
def rpX12_noCode : List Nat := [0, 1, 4, 7, 19, 20, 24]
noncomputable def rcX12_noCode : List rz_B := [rz_aload 0, rz_getf (Nat.add (Nat.mul 256 14) 1) 99 rz_i, rz_ifeq 4, rz_no, rz_cst 1, rz_goto 6, rz_zret]
noncomputable def rgX12_noCode : rz_L → rz_M → rz_Z → Bool := rz_go rcX12_noCode 2 1000000
def rrX12_noCode : Room := { frames := 0, cells := 0, slots := 0, locals := 0 }
theorem rmX12_noCode (l : Launch) {G : rz_G} (hG : rz_Gd G) (vs : rz_L) (M : rz_M) (Z : rz_Z) (hn : vs.length = 2) (h : rgX12_noCode vs M Z = true) : Met l yX12_noCode (Cond.code yX12_noCode cX12_noCode 2 (some .boolean) :: rz_TB) rrX12_noCode (rz_Pre G vs M) (rz_Qi G M.2 Z) 0 0 (fun q => rz_b G ≤ q) := by
  obtain ⟨D, tc, ad, b, xs, rfl⟩ := id hG
  refine rz_body (pcs := rpX12_noCode) (by decide) rfl (by rw [hn]; decide) h ?_
  intro p e R s m args below meth c hC
  obtain ⟨hx, hb, hml, hr, hlk, ho, hts, hKn, hRm⟩ := id hC
  obtain ⟨hK, hA, hSt⟩ := id hKn
  have hw : ∀ {i j : Nat} {ws : List Cond} {w : Cond}, rz_WW[i]? = some ws → ws[j]? = some w → w.before args s = true := fun h1 h2 => hts _ (List.mem_cons_of_mem _ (rz_mem h1 h2))
  refine rz_All_c (i := 0) (fun k J hk hJ => rz_aload_n_ok (pc := 0) hx hb dX12_noCode_0 rfl hk) ?_
  refine rz_All_c (i := 1) (fun k J hk hJ => rz_getf_ok (pc := 1) (own := RX12) (ref := "ThreadJudgeModel") (C := RX12) (T := TX12) (N := 257) (ci := 14) (index := 1001) (f := 99) (t := 0) (Ts := Cond.code yX12_noCode cX12_noCode 2 (some .boolean) :: rz_TB) hx hb hts rz_in14 ho hK rfl (by decide) rfl (fun _ => rfl) (hw (i := 32) (j := 0) rfl rfl) (fun _ z => z) dX12_noCode_1 hk) ?_
  refine rz_All_c (i := 2) (fun k J hk hJ => rz_ifeq_ok (pc := 4) hx hb dX12_noCode_4 rfl hk (hJ 4)) ?_
  refine rz_All_c (i := 3) (fun k J hk hJ => rz_no_ok) ?_
  refine rz_All_c (i := 4) (fun k J hk hJ => rz_iconst_ok (pc := 19) hx hb dX12_noCode_19 rfl hk) ?_
  refine rz_All_c (i := 5) (fun k J hk hJ => rz_goto_ok (pc := 20) hx hb dX12_noCode_20 rfl (hJ 6)) ?_
  refine rz_All_c (i := 6) (fun k J hk hJ => rz_zret_ok (pc := 24) hC dX12_noCode_24) ?_
  exact trivial
theorem dX12_instruction_0 : decode cX12_instruction 0 = .ok (.aload_n 0, 1) := by decide +kernel
theorem dX12_instruction_1 : decode cX12_instruction 1 = .ok (.iload_n 1, 1) := by decide +kernel
theorem dX12_instruction_2 : decode cX12_instruction 2 = .ok (.invokevirtual 1029, 3) := by decide +kernel
theorem dX12_instruction_5 : decode cX12_instruction 5 = .ok (.ifCond .eq 5, 3) := by decide +kernel
theorem dX12_instruction_8 : decode cX12_instruction 8 = .ok (.iconst (-1), 1) := by decide +kernel
theorem dX12_instruction_9 : decode cX12_instruction 9 = .ok (.ireturn, 1) := by decide +kernel
def rpX12_instruction : List Nat := [0, 1, 2, 5, 8, 9, 10]
noncomputable def rcX12_instruction : List rz_B := [rz_aload 0, rz_iload 1, rz_callV 1 (Nat.add (Nat.mul 256 14) 1) rgX12_noCode, rz_ifeq 6, rz_cst 4294967295, rz_iret, rz_no]
noncomputable def rgX12_instruction : rz_L → rz_M → rz_Z → Bool := rz_go rcX12_instruction 3 1000000
def rrX12_instruction : Room := { frames := 1, cells := 0, slots := 0, locals := 21 }
theorem rmX12_instruction (l : Launch) {G : rz_G} (hG : rz_Gd G) (vs : rz_L) (M : rz_M) (Z : rz_Z) (hn : vs.length = 3) (h : rgX12_instruction vs M Z = true) : Met l yX12_instruction (Cond.code yX12_instruction cX12_instruction 3 (some .int) :: rz_TB) rrX12_instruction (rz_Pre G vs M) (rz_Qi G M.2 Z) 0 0 (fun q => rz_b G ≤ q) := by
  obtain ⟨D, tc, ad, b, xs, rfl⟩ := id hG
  refine rz_body (pcs := rpX12_instruction) (by decide) rfl (by rw [hn]; decide) h ?_
  intro p e R s m args below meth c hC
  obtain ⟨hx, hb, hml, hr, hlk, ho, hts, hKn, hRm⟩ := id hC
  obtain ⟨hK, hA, hSt⟩ := id hKn
  have hw : ∀ {i j : Nat} {ws : List Cond} {w : Cond}, rz_WW[i]? = some ws → ws[j]? = some w → w.before args s = true := fun h1 h2 => hts _ (List.mem_cons_of_mem _ (rz_mem h1 h2))
  refine rz_All_c (i := 0) (fun k J hk hJ => rz_aload_n_ok (pc := 0) hx hb dX12_instruction_0 rfl hk) ?_
  refine rz_All_c (i := 1) (fun k J hk hJ => rz_iload_n_ok (pc := 1) hx hb dX12_instruction_1 rfl hk) ?_
  refine rz_All_c (i := 2) (fun k J hk hJ => rz_callV_ok (pc := 2) (own := RX12) (C := RX12) (T0 := TX12) (N0 := 257) hC rfl (rmX12_noCode l hG) (rz_cwV 1 hC rz_good (rz_mem (i := 84) (j := 39) rfl rfl) (rz_mem (i := 84) (j := 40) rfl rfl) (rz_mem (i := 84) (j := 41) rfl rfl) (rz_mem (i := 32) (j := 8) rfl rfl) (rz_mem (i := 84) (j := 37) rfl rfl) ⟨rfl, by decide, by decide, by decide +kernel⟩ rfl rfl ⟨by decide, by decide⟩) rfl dX12_instruction_2 hk) ?_
  refine rz_All_c (i := 3) (fun k J hk hJ => rz_ifeq_ok (pc := 5) hx hb dX12_instruction_5 rfl hk (hJ 6)) ?_
  refine rz_All_c (i := 4) (fun k J hk hJ => rz_iconst_ok (pc := 8) hx hb dX12_instruction_8 rfl hk) ?_
  refine rz_All_c (i := 5) (fun k J hk hJ => rz_iret_ok (pc := 9) hC dX12_instruction_9) ?_
  refine rz_All_c (i := 6) (fun k J hk hJ => rz_no_ok) ?_
  exact trivial
theorem dX11_below_0 : decode cX11_below 0 = .ok (.aload_n 0, 1) := by decide +kernel
theorem dX11_below_1 : decode cX11_below 1 = .ok (.iload_n 1, 1) := by decide +kernel
theorem dX11_below_2 : decode cX11_below 2 = .ok (.invokevirtual 210, 3) := by decide +kernel
theorem dX11_below_5 : decode cX11_below 5 = .ok (.ifCond .eq 11, 3) := by decide +kernel
theorem dX11_below_16 : decode cX11_below 16 = .ok (.iconst (-1), 1) := by decide +kernel
theorem dX11_below_17 : decode cX11_below 17 = .ok (.ireturn, 1) := by decide +kernel
def rpX11_below : List Nat := [0, 1, 2, 5, 8, 16, 17]
noncomputable def rcX11_below : List rz_B := [rz_aload 0, rz_iload 1, rz_callV 1 (Nat.add (Nat.mul 256 13) 1) rgX11_isClass, rz_ifeq 5, rz_no, rz_cst 4294967295, rz_iret]
noncomputable def rgX11_below : rz_L → rz_M → rz_Z → Bool := rz_go rcX11_below 3 1000000
def rrX11_below : Room := { frames := 1, cells := 0, slots := 0, locals := 21 }
theorem rmX11_below (l : Launch) {G : rz_G} (hG : rz_Gd G) (vs : rz_L) (M : rz_M) (Z : rz_Z) (hn : vs.length = 3) (h : rgX11_below vs M Z = true) : Met l yX11_below (Cond.code yX11_below cX11_below 3 (some .int) :: rz_TB) rrX11_below (rz_Pre G vs M) (rz_Qi G M.2 Z) 0 0 (fun q => rz_b G ≤ q) := by
  obtain ⟨D, tc, ad, b, xs, rfl⟩ := id hG
  refine rz_body (pcs := rpX11_below) (by decide) rfl (by rw [hn]; decide) h ?_
  intro p e R s m args below meth c hC
  obtain ⟨hx, hb, hml, hr, hlk, ho, hts, hKn, hRm⟩ := id hC
  obtain ⟨hK, hA, hSt⟩ := id hKn
  have hw : ∀ {i j : Nat} {ws : List Cond} {w : Cond}, rz_WW[i]? = some ws → ws[j]? = some w → w.before args s = true := fun h1 h2 => hts _ (List.mem_cons_of_mem _ (rz_mem h1 h2))
  refine rz_All_c (i := 0) (fun k J hk hJ => rz_aload_n_ok (pc := 0) hx hb dX11_below_0 rfl hk) ?_
  refine rz_All_c (i := 1) (fun k J hk hJ => rz_iload_n_ok (pc := 1) hx hb dX11_below_1 rfl hk) ?_
  refine rz_All_c (i := 2) (fun k J hk hJ => rz_callV_ok (pc := 2) (own := RX11) (C := RX11) (T0 := TX11) (N0 := 16) hC rfl (rmX11_isClass l hG) (rz_cwV 1 hC rz_good (rz_mem (i := 84) (j := 14) rfl rfl) (rz_mem (i := 84) (j := 15) rfl rfl) (rz_mem (i := 84) (j := 16) rfl rfl) (rz_mem (i := 29) (j := 8) rfl rfl) (rz_mem (i := 84) (j := 12) rfl rfl) ⟨rfl, by decide, by decide, by decide +kernel⟩ rfl rfl ⟨by decide, by decide⟩) rfl dX11_below_2 hk) ?_
  refine rz_All_c (i := 3) (fun k J hk hJ => rz_ifeq_ok (pc := 5) hx hb dX11_below_5 rfl hk (hJ 5)) ?_
  refine rz_All_c (i := 4) (fun k J hk hJ => rz_no_ok) ?_
  refine rz_All_c (i := 5) (fun k J hk hJ => rz_iconst_ok (pc := 16) hx hb dX11_below_16 rfl hk) ?_
  refine rz_All_c (i := 6) (fun k J hk hJ => rz_iret_ok (pc := 17) hC dX11_below_17) ?_
  exact trivial
theorem dX12_below_0 : decode cX12_below 0 = .ok (.aload_n 0, 1) := by decide +kernel
theorem dX12_below_1 : decode cX12_below 1 = .ok (.iload_n 1, 1) := by decide +kernel
theorem dX12_below_2 : decode cX12_below 2 = .ok (.invokevirtual 1019, 3) := by decide +kernel
theorem dX12_below_5 : decode cX12_below 5 = .ok (.ifCond .ne 11, 3) := by decide +kernel
theorem dX12_below_16 : decode cX12_below 16 = .ok (.iconst (-1), 1) := by decide +kernel
theorem dX12_below_17 : decode cX12_below 17 = .ok (.goto 17, 3) := by decide +kernel
theorem dX12_below_34 : decode cX12_below 34 = .ok (.ireturn, 1) := by decide +kernel
def rpX12_below : List Nat := [0, 1, 2, 5, 8, 16, 17, 34]
noncomputable def rcX12_below : List rz_B := [rz_aload 0, rz_iload 1, rz_callV 1 (Nat.add (Nat.mul 256 14) 1) rgX12_noClass, rz_ifne 5, rz_no, rz_cst 4294967295, rz_goto 7, rz_iret]
noncomputable def rgX12_below : rz_L → rz_M → rz_Z → Bool := rz_go rcX12_below 3 1000000
def rrX12_below : Room := { frames := 1, cells := 0, slots := 0, locals := 21 }
theorem rmX12_below (l : Launch) {G : rz_G} (hG : rz_Gd G) (vs : rz_L) (M : rz_M) (Z : rz_Z) (hn : vs.length = 3) (h : rgX12_below vs M Z = true) : Met l yX12_below (Cond.code yX12_below cX12_below 3 (some .int) :: rz_TB) rrX12_below (rz_Pre G vs M) (rz_Qi G M.2 Z) 0 0 (fun q => rz_b G ≤ q) := by
  obtain ⟨D, tc, ad, b, xs, rfl⟩ := id hG
  refine rz_body (pcs := rpX12_below) (by decide) rfl (by rw [hn]; decide) h ?_
  intro p e R s m args below meth c hC
  obtain ⟨hx, hb, hml, hr, hlk, ho, hts, hKn, hRm⟩ := id hC
  obtain ⟨hK, hA, hSt⟩ := id hKn
  have hw : ∀ {i j : Nat} {ws : List Cond} {w : Cond}, rz_WW[i]? = some ws → ws[j]? = some w → w.before args s = true := fun h1 h2 => hts _ (List.mem_cons_of_mem _ (rz_mem h1 h2))
  refine rz_All_c (i := 0) (fun k J hk hJ => rz_aload_n_ok (pc := 0) hx hb dX12_below_0 rfl hk) ?_
  refine rz_All_c (i := 1) (fun k J hk hJ => rz_iload_n_ok (pc := 1) hx hb dX12_below_1 rfl hk) ?_
  refine rz_All_c (i := 2) (fun k J hk hJ => rz_callV_ok (pc := 2) (own := RX12) (C := RX12) (T0 := TX12) (N0 := 257) hC rfl (rmX12_noClass l hG) (rz_cwV 1 hC rz_good (rz_mem (i := 84) (j := 19) rfl rfl) (rz_mem (i := 84) (j := 20) rfl rfl) (rz_mem (i := 84) (j := 21) rfl rfl) (rz_mem (i := 32) (j := 8) rfl rfl) (rz_mem (i := 84) (j := 17) rfl rfl) ⟨rfl, by decide, by decide, by decide +kernel⟩ rfl rfl ⟨by decide, by decide⟩) rfl dX12_below_2 hk) ?_
  refine rz_All_c (i := 3) (fun k J hk hJ => rz_ifne_ok (pc := 5) hx hb dX12_below_5 rfl hk (hJ 5)) ?_
  refine rz_All_c (i := 4) (fun k J hk hJ => rz_no_ok) ?_
  refine rz_All_c (i := 5) (fun k J hk hJ => rz_iconst_ok (pc := 16) hx hb dX12_below_16 rfl hk) ?_
  refine rz_All_c (i := 6) (fun k J hk hJ => rz_goto_ok (pc := 17) hx hb dX12_below_17 rfl (hJ 7)) ?_
  refine rz_All_c (i := 7) (fun k J hk hJ => rz_iret_ok (pc := 34) hC dX12_below_34) ?_
  exact trivial
theorem dX11_selected_0 : decode cX11_selected 0 = .ok (.aload_n 0, 1) := by decide +kernel
theorem dX11_selected_1 : decode cX11_selected 1 = .ok (.iload_n 1, 1) := by decide +kernel
theorem dX11_selected_2 : decode cX11_selected 2 = .ok (.invokevirtual 210, 3) := by decide +kernel
theorem dX11_selected_5 : decode cX11_selected 5 = .ok (.ifCond .eq 11, 3) := by decide +kernel
theorem dX11_selected_16 : decode cX11_selected 16 = .ok (.iconst (-1), 1) := by decide +kernel
theorem dX11_selected_17 : decode cX11_selected 17 = .ok (.ireturn, 1) := by decide +kernel
def rpX11_selected : List Nat := [0, 1, 2, 5, 8, 16, 17]
noncomputable def rcX11_selected : List rz_B := [rz_aload 0, rz_iload 1, rz_callV 1 (Nat.add (Nat.mul 256 13) 1) rgX11_isClass, rz_ifeq 5, rz_no, rz_cst 4294967295, rz_iret]
noncomputable def rgX11_selected : rz_L → rz_M → rz_Z → Bool := rz_go rcX11_selected 3 1000000
def rrX11_selected : Room := { frames := 1, cells := 0, slots := 0, locals := 21 }
theorem rmX11_selected (l : Launch) {G : rz_G} (hG : rz_Gd G) (vs : rz_L) (M : rz_M) (Z : rz_Z) (hn : vs.length = 3) (h : rgX11_selected vs M Z = true) : Met l yX11_selected (Cond.code yX11_selected cX11_selected 3 (some .int) :: rz_TB) rrX11_selected (rz_Pre G vs M) (rz_Qi G M.2 Z) 0 0 (fun q => rz_b G ≤ q) := by
  obtain ⟨D, tc, ad, b, xs, rfl⟩ := id hG
  refine rz_body (pcs := rpX11_selected) (by decide) rfl (by rw [hn]; decide) h ?_
  intro p e R s m args below meth c hC
  obtain ⟨hx, hb, hml, hr, hlk, ho, hts, hKn, hRm⟩ := id hC
  obtain ⟨hK, hA, hSt⟩ := id hKn
  have hw : ∀ {i j : Nat} {ws : List Cond} {w : Cond}, rz_WW[i]? = some ws → ws[j]? = some w → w.before args s = true := fun h1 h2 => hts _ (List.mem_cons_of_mem _ (rz_mem h1 h2))
  refine rz_All_c (i := 0) (fun k J hk hJ => rz_aload_n_ok (pc := 0) hx hb dX11_selected_0 rfl hk) ?_
  refine rz_All_c (i := 1) (fun k J hk hJ => rz_iload_n_ok (pc := 1) hx hb dX11_selected_1 rfl hk) ?_
  refine rz_All_c (i := 2) (fun k J hk hJ => rz_callV_ok (pc := 2) (own := RX11) (C := RX11) (T0 := TX11) (N0 := 16) hC rfl (rmX11_isClass l hG) (rz_cwV 1 hC rz_good (rz_mem (i := 84) (j := 14) rfl rfl) (rz_mem (i := 84) (j := 15) rfl rfl) (rz_mem (i := 84) (j := 16) rfl rfl) (rz_mem (i := 29) (j := 8) rfl rfl) (rz_mem (i := 84) (j := 12) rfl rfl) ⟨rfl, by decide, by decide, by decide +kernel⟩ rfl rfl ⟨by decide, by decide⟩) rfl dX11_selected_2 hk) ?_
  refine rz_All_c (i := 3) (fun k J hk hJ => rz_ifeq_ok (pc := 5) hx hb dX11_selected_5 rfl hk (hJ 5)) ?_
  refine rz_All_c (i := 4) (fun k J hk hJ => rz_no_ok) ?_
  refine rz_All_c (i := 5) (fun k J hk hJ => rz_iconst_ok (pc := 16) hx hb dX11_selected_16 rfl hk) ?_
  refine rz_All_c (i := 6) (fun k J hk hJ => rz_iret_ok (pc := 17) hC dX11_selected_17) ?_
  exact trivial
theorem dX12_selected_0 : decode cX12_selected 0 = .ok (.aload_n 0, 1) := by decide +kernel
theorem dX12_selected_1 : decode cX12_selected 1 = .ok (.iload_n 1, 1) := by decide +kernel
theorem dX12_selected_2 : decode cX12_selected 2 = .ok (.invokevirtual 1019, 3) := by decide +kernel
theorem dX12_selected_5 : decode cX12_selected 5 = .ok (.ifCond .ne 11, 3) := by decide +kernel
theorem dX12_selected_16 : decode cX12_selected 16 = .ok (.iconst (-1), 1) := by decide +kernel
theorem dX12_selected_17 : decode cX12_selected 17 = .ok (.goto 9, 3) := by decide +kernel
theorem dX12_selected_26 : decode cX12_selected 26 = .ok (.ireturn, 1) := by decide +kernel
def rpX12_selected : List Nat := [0, 1, 2, 5, 8, 16, 17, 26]
noncomputable def rcX12_selected : List rz_B := [rz_aload 0, rz_iload 1, rz_callV 1 (Nat.add (Nat.mul 256 14) 1) rgX12_noClass, rz_ifne 5, rz_no, rz_cst 4294967295, rz_goto 7, rz_iret]
noncomputable def rgX12_selected : rz_L → rz_M → rz_Z → Bool := rz_go rcX12_selected 3 1000000
def rrX12_selected : Room := { frames := 1, cells := 0, slots := 0, locals := 21 }
theorem rmX12_selected (l : Launch) {G : rz_G} (hG : rz_Gd G) (vs : rz_L) (M : rz_M) (Z : rz_Z) (hn : vs.length = 3) (h : rgX12_selected vs M Z = true) : Met l yX12_selected (Cond.code yX12_selected cX12_selected 3 (some .int) :: rz_TB) rrX12_selected (rz_Pre G vs M) (rz_Qi G M.2 Z) 0 0 (fun q => rz_b G ≤ q) := by
  obtain ⟨D, tc, ad, b, xs, rfl⟩ := id hG
  refine rz_body (pcs := rpX12_selected) (by decide) rfl (by rw [hn]; decide) h ?_
  intro p e R s m args below meth c hC
  obtain ⟨hx, hb, hml, hr, hlk, ho, hts, hKn, hRm⟩ := id hC
  obtain ⟨hK, hA, hSt⟩ := id hKn
  have hw : ∀ {i j : Nat} {ws : List Cond} {w : Cond}, rz_WW[i]? = some ws → ws[j]? = some w → w.before args s = true := fun h1 h2 => hts _ (List.mem_cons_of_mem _ (rz_mem h1 h2))
  refine rz_All_c (i := 0) (fun k J hk hJ => rz_aload_n_ok (pc := 0) hx hb dX12_selected_0 rfl hk) ?_
  refine rz_All_c (i := 1) (fun k J hk hJ => rz_iload_n_ok (pc := 1) hx hb dX12_selected_1 rfl hk) ?_
  refine rz_All_c (i := 2) (fun k J hk hJ => rz_callV_ok (pc := 2) (own := RX12) (C := RX12) (T0 := TX12) (N0 := 257) hC rfl (rmX12_noClass l hG) (rz_cwV 1 hC rz_good (rz_mem (i := 84) (j := 19) rfl rfl) (rz_mem (i := 84) (j := 20) rfl rfl) (rz_mem (i := 84) (j := 21) rfl rfl) (rz_mem (i := 32) (j := 8) rfl rfl) (rz_mem (i := 84) (j := 17) rfl rfl) ⟨rfl, by decide, by decide, by decide +kernel⟩ rfl rfl ⟨by decide, by decide⟩) rfl dX12_selected_2 hk) ?_
  refine rz_All_c (i := 3) (fun k J hk hJ => rz_ifne_ok (pc := 5) hx hb dX12_selected_5 rfl hk (hJ 5)) ?_
  refine rz_All_c (i := 4) (fun k J hk hJ => rz_no_ok) ?_
  refine rz_All_c (i := 5) (fun k J hk hJ => rz_iconst_ok (pc := 16) hx hb dX12_selected_16 rfl hk) ?_
  refine rz_All_c (i := 6) (fun k J hk hJ => rz_goto_ok (pc := 17) hx hb dX12_selected_17 rfl (hJ 7)) ?_
  refine rz_All_c (i := 7) (fun k J hk hJ => rz_iret_ok (pc := 26) hC dX12_selected_26) ?_
  exact trivial
theorem dX11_isComeTo_0 : decode cX11_isComeTo 0 = .ok (.aload_n 0, 1) := by decide +kernel
theorem dX11_isComeTo_1 : decode cX11_isComeTo 1 = .ok (.iload_n 1, 1) := by decide +kernel
theorem dX11_isComeTo_2 : decode cX11_isComeTo 2 = .ok (.invokevirtual 200, 3) := by decide +kernel
theorem dX11_isComeTo_5 : decode cX11_isComeTo 5 = .ok (.ifCond .eq 22, 3) := by decide +kernel
theorem dX11_isComeTo_27 : decode cX11_isComeTo 27 = .ok (.iconst 0, 1) := by decide +kernel
theorem dX11_isComeTo_28 : decode cX11_isComeTo 28 = .ok (.ireturn, 1) := by decide +kernel
def rpX11_isComeTo : List Nat := [0, 1, 2, 5, 8, 27, 28]
noncomputable def rcX11_isComeTo : List rz_B := [rz_aload 0, rz_iload 1, rz_callV 1 (Nat.add (Nat.mul 256 13) 1) rgX11_isInstruction, rz_ifeq 5, rz_no, rz_cst 0, rz_zret]
noncomputable def rgX11_isComeTo : rz_L → rz_M → rz_Z → Bool := rz_go rcX11_isComeTo 2 1000000
def rrX11_isComeTo : Room := { frames := 1, cells := 0, slots := 0, locals := 21 }
theorem rmX11_isComeTo (l : Launch) {G : rz_G} (hG : rz_Gd G) (vs : rz_L) (M : rz_M) (Z : rz_Z) (hn : vs.length = 2) (h : rgX11_isComeTo vs M Z = true) : Met l yX11_isComeTo (Cond.code yX11_isComeTo cX11_isComeTo 2 (some .boolean) :: rz_TB) rrX11_isComeTo (rz_Pre G vs M) (rz_Qi G M.2 Z) 0 0 (fun q => rz_b G ≤ q) := by
  obtain ⟨D, tc, ad, b, xs, rfl⟩ := id hG
  refine rz_body (pcs := rpX11_isComeTo) (by decide) rfl (by rw [hn]; decide) h ?_
  intro p e R s m args below meth c hC
  obtain ⟨hx, hb, hml, hr, hlk, ho, hts, hKn, hRm⟩ := id hC
  obtain ⟨hK, hA, hSt⟩ := id hKn
  have hw : ∀ {i j : Nat} {ws : List Cond} {w : Cond}, rz_WW[i]? = some ws → ws[j]? = some w → w.before args s = true := fun h1 h2 => hts _ (List.mem_cons_of_mem _ (rz_mem h1 h2))
  refine rz_All_c (i := 0) (fun k J hk hJ => rz_aload_n_ok (pc := 0) hx hb dX11_isComeTo_0 rfl hk) ?_
  refine rz_All_c (i := 1) (fun k J hk hJ => rz_iload_n_ok (pc := 1) hx hb dX11_isComeTo_1 rfl hk) ?_
  refine rz_All_c (i := 2) (fun k J hk hJ => rz_callV_ok (pc := 2) (own := RX11) (C := RX11) (T0 := TX11) (N0 := 16) hC rfl (rmX11_isInstruction l hG) (rz_cwV 1 hC rz_good (rz_mem (i := 84) (j := 34) rfl rfl) (rz_mem (i := 84) (j := 35) rfl rfl) (rz_mem (i := 84) (j := 36) rfl rfl) (rz_mem (i := 29) (j := 8) rfl rfl) (rz_mem (i := 84) (j := 32) rfl rfl) ⟨rfl, by decide, by decide, by decide +kernel⟩ rfl rfl ⟨by decide, by decide⟩) rfl dX11_isComeTo_2 hk) ?_
  refine rz_All_c (i := 3) (fun k J hk hJ => rz_ifeq_ok (pc := 5) hx hb dX11_isComeTo_5 rfl hk (hJ 5)) ?_
  refine rz_All_c (i := 4) (fun k J hk hJ => rz_no_ok) ?_
  refine rz_All_c (i := 5) (fun k J hk hJ => rz_iconst_ok (pc := 27) hx hb dX11_isComeTo_27 rfl hk) ?_
  refine rz_All_c (i := 6) (fun k J hk hJ => rz_zret_ok (pc := 28) hC dX11_isComeTo_28) ?_
  exact trivial
theorem dX11_isPlace_0 : decode cX11_isPlace 0 = .ok (.aload_n 0, 1) := by decide +kernel
theorem dX11_isPlace_1 : decode cX11_isPlace 1 = .ok (.iload_n 1, 1) := by decide +kernel
theorem dX11_isPlace_2 : decode cX11_isPlace 2 = .ok (.invokevirtual 207, 3) := by decide +kernel
theorem dX11_isPlace_5 : decode cX11_isPlace 5 = .ok (.ifCond .eq 30, 3) := by decide +kernel
theorem dX11_isPlace_35 : decode cX11_isPlace 35 = .ok (.iconst 0, 1) := by decide +kernel
theorem dX11_isPlace_36 : decode cX11_isPlace 36 = .ok (.ireturn, 1) := by decide +kernel
def rpX11_isPlace : List Nat := [0, 1, 2, 5, 8, 35, 36]
noncomputable def rcX11_isPlace : List rz_B := [rz_aload 0, rz_iload 1, rz_callV 1 (Nat.add (Nat.mul 256 13) 1) rgX11_isComeTo, rz_ifeq 5, rz_no, rz_cst 0, rz_zret]
noncomputable def rgX11_isPlace : rz_L → rz_M → rz_Z → Bool := rz_go rcX11_isPlace 3 1000000
def rrX11_isPlace : Room := { frames := 2, cells := 0, slots := 0, locals := 42 }
theorem rmX11_isPlace (l : Launch) {G : rz_G} (hG : rz_Gd G) (vs : rz_L) (M : rz_M) (Z : rz_Z) (hn : vs.length = 3) (h : rgX11_isPlace vs M Z = true) : Met l yX11_isPlace (Cond.code yX11_isPlace cX11_isPlace 3 (some .boolean) :: rz_TB) rrX11_isPlace (rz_Pre G vs M) (rz_Qi G M.2 Z) 0 0 (fun q => rz_b G ≤ q) := by
  obtain ⟨D, tc, ad, b, xs, rfl⟩ := id hG
  refine rz_body (pcs := rpX11_isPlace) (by decide) rfl (by rw [hn]; decide) h ?_
  intro p e R s m args below meth c hC
  obtain ⟨hx, hb, hml, hr, hlk, ho, hts, hKn, hRm⟩ := id hC
  obtain ⟨hK, hA, hSt⟩ := id hKn
  have hw : ∀ {i j : Nat} {ws : List Cond} {w : Cond}, rz_WW[i]? = some ws → ws[j]? = some w → w.before args s = true := fun h1 h2 => hts _ (List.mem_cons_of_mem _ (rz_mem h1 h2))
  refine rz_All_c (i := 0) (fun k J hk hJ => rz_aload_n_ok (pc := 0) hx hb dX11_isPlace_0 rfl hk) ?_
  refine rz_All_c (i := 1) (fun k J hk hJ => rz_iload_n_ok (pc := 1) hx hb dX11_isPlace_1 rfl hk) ?_
  refine rz_All_c (i := 2) (fun k J hk hJ => rz_callV_ok (pc := 2) (own := RX11) (C := RX11) (T0 := TX11) (N0 := 16) hC rfl (rmX11_isComeTo l hG) (rz_cwV 1 hC rz_good (rz_mem (i := 84) (j := 48) rfl rfl) (rz_mem (i := 84) (j := 49) rfl rfl) (rz_mem (i := 84) (j := 50) rfl rfl) (rz_mem (i := 29) (j := 8) rfl rfl) (rz_mem (i := 84) (j := 46) rfl rfl) ⟨rfl, by decide, by decide, by decide +kernel⟩ rfl rfl ⟨by decide, by decide⟩) rfl dX11_isPlace_2 hk) ?_
  refine rz_All_c (i := 3) (fun k J hk hJ => rz_ifeq_ok (pc := 5) hx hb dX11_isPlace_5 rfl hk (hJ 5)) ?_
  refine rz_All_c (i := 4) (fun k J hk hJ => rz_no_ok) ?_
  refine rz_All_c (i := 5) (fun k J hk hJ => rz_iconst_ok (pc := 35) hx hb dX11_isPlace_35 rfl hk) ?_
  refine rz_All_c (i := 6) (fun k J hk hJ => rz_zret_ok (pc := 36) hC dX11_isPlace_36) ?_
  exact trivial
theorem dX11_kind_0 : decode cX11_kind 0 = .ok (.aload_n 0, 1) := by decide +kernel
theorem dX11_kind_1 : decode cX11_kind 1 = .ok (.iload_n 1, 1) := by decide +kernel
theorem dX11_kind_2 : decode cX11_kind 2 = .ok (.iload_n 2, 1) := by decide +kernel
theorem dX11_kind_3 : decode cX11_kind 3 = .ok (.invokevirtual 239, 3) := by decide +kernel
theorem dX11_kind_6 : decode cX11_kind 6 = .ok (.ifCond .eq 25, 3) := by decide +kernel
theorem dX11_kind_31 : decode cX11_kind 31 = .ok (.iconst (-1), 1) := by decide +kernel
theorem dX11_kind_32 : decode cX11_kind 32 = .ok (.ireturn, 1) := by decide +kernel
def rpX11_kind : List Nat := [0, 1, 2, 3, 6, 9, 31, 32]
noncomputable def rcX11_kind : List rz_B := [rz_aload 0, rz_iload 1, rz_iload 2, rz_callV 2 (Nat.add (Nat.mul 256 13) 1) rgX11_isPlace, rz_ifeq 6, rz_no, rz_cst 4294967295, rz_iret]
noncomputable def rgX11_kind : rz_L → rz_M → rz_Z → Bool := rz_go rcX11_kind 4 1000000
def rrX11_kind : Room := { frames := 3, cells := 0, slots := 0, locals := 64 }
theorem rmX11_kind (l : Launch) {G : rz_G} (hG : rz_Gd G) (vs : rz_L) (M : rz_M) (Z : rz_Z) (hn : vs.length = 4) (h : rgX11_kind vs M Z = true) : Met l yX11_kind (Cond.code yX11_kind cX11_kind 4 (some .int) :: rz_TB) rrX11_kind (rz_Pre G vs M) (rz_Qi G M.2 Z) 0 0 (fun q => rz_b G ≤ q) := by
  obtain ⟨D, tc, ad, b, xs, rfl⟩ := id hG
  refine rz_body (pcs := rpX11_kind) (by decide) rfl (by rw [hn]; decide) h ?_
  intro p e R s m args below meth c hC
  obtain ⟨hx, hb, hml, hr, hlk, ho, hts, hKn, hRm⟩ := id hC
  obtain ⟨hK, hA, hSt⟩ := id hKn
  have hw : ∀ {i j : Nat} {ws : List Cond} {w : Cond}, rz_WW[i]? = some ws → ws[j]? = some w → w.before args s = true := fun h1 h2 => hts _ (List.mem_cons_of_mem _ (rz_mem h1 h2))
  refine rz_All_c (i := 0) (fun k J hk hJ => rz_aload_n_ok (pc := 0) hx hb dX11_kind_0 rfl hk) ?_
  refine rz_All_c (i := 1) (fun k J hk hJ => rz_iload_n_ok (pc := 1) hx hb dX11_kind_1 rfl hk) ?_
  refine rz_All_c (i := 2) (fun k J hk hJ => rz_iload_n_ok (pc := 2) hx hb dX11_kind_2 rfl hk) ?_
  refine rz_All_c (i := 3) (fun k J hk hJ => rz_callV_ok (pc := 3) (own := RX11) (C := RX11) (T0 := TX11) (N0 := 16) hC rfl (rmX11_isPlace l hG) (rz_cwV 2 hC rz_good (rz_mem (i := 84) (j := 52) rfl rfl) (rz_mem (i := 84) (j := 53) rfl rfl) (rz_mem (i := 84) (j := 54) rfl rfl) (rz_mem (i := 29) (j := 8) rfl rfl) (rz_mem (i := 84) (j := 47) rfl rfl) ⟨rfl, by decide, by decide, by decide +kernel⟩ rfl rfl ⟨by decide, by decide⟩) rfl dX11_kind_3 hk) ?_
  refine rz_All_c (i := 4) (fun k J hk hJ => rz_ifeq_ok (pc := 6) hx hb dX11_kind_6 rfl hk (hJ 6)) ?_
  refine rz_All_c (i := 5) (fun k J hk hJ => rz_no_ok) ?_
  refine rz_All_c (i := 6) (fun k J hk hJ => rz_iconst_ok (pc := 31) hx hb dX11_kind_31 rfl hk) ?_
  refine rz_All_c (i := 7) (fun k J hk hJ => rz_iret_ok (pc := 32) hC dX11_kind_32) ?_
  exact trivial
theorem dX12_kind_0 : decode cX12_kind 0 = .ok (.aload_n 0, 1) := by decide +kernel
theorem dX12_kind_1 : decode cX12_kind 1 = .ok (.iload_n 1, 1) := by decide +kernel
theorem dX12_kind_2 : decode cX12_kind 2 = .ok (.invokevirtual 1029, 3) := by decide +kernel
theorem dX12_kind_5 : decode cX12_kind 5 = .ok (.ifCond .ne 48, 3) := by decide +kernel
theorem dX12_kind_53 : decode cX12_kind 53 = .ok (.iconst (-1), 1) := by decide +kernel
theorem dX12_kind_54 : decode cX12_kind 54 = .ok (.ireturn, 1) := by decide +kernel
def rpX12_kind : List Nat := [0, 1, 2, 5, 8, 53, 54]
noncomputable def rcX12_kind : List rz_B := [rz_aload 0, rz_iload 1, rz_callV 1 (Nat.add (Nat.mul 256 14) 1) rgX12_noCode, rz_ifne 5, rz_no, rz_cst 4294967295, rz_iret]
noncomputable def rgX12_kind : rz_L → rz_M → rz_Z → Bool := rz_go rcX12_kind 7 1000000
def rrX12_kind : Room := { frames := 1, cells := 0, slots := 0, locals := 21 }
theorem rmX12_kind (l : Launch) {G : rz_G} (hG : rz_Gd G) (vs : rz_L) (M : rz_M) (Z : rz_Z) (hn : vs.length = 4) (h : rgX12_kind vs M Z = true) : Met l yX12_kind (Cond.code yX12_kind cX12_kind 7 (some .int) :: rz_TB) rrX12_kind (rz_Pre G vs M) (rz_Qi G M.2 Z) 0 0 (fun q => rz_b G ≤ q) := by
  obtain ⟨D, tc, ad, b, xs, rfl⟩ := id hG
  refine rz_body (pcs := rpX12_kind) (by decide) rfl (by rw [hn]; decide) h ?_
  intro p e R s m args below meth c hC
  obtain ⟨hx, hb, hml, hr, hlk, ho, hts, hKn, hRm⟩ := id hC
  obtain ⟨hK, hA, hSt⟩ := id hKn
  have hw : ∀ {i j : Nat} {ws : List Cond} {w : Cond}, rz_WW[i]? = some ws → ws[j]? = some w → w.before args s = true := fun h1 h2 => hts _ (List.mem_cons_of_mem _ (rz_mem h1 h2))
  refine rz_All_c (i := 0) (fun k J hk hJ => rz_aload_n_ok (pc := 0) hx hb dX12_kind_0 rfl hk) ?_
  refine rz_All_c (i := 1) (fun k J hk hJ => rz_iload_n_ok (pc := 1) hx hb dX12_kind_1 rfl hk) ?_
  refine rz_All_c (i := 2) (fun k J hk hJ => rz_callV_ok (pc := 2) (own := RX12) (C := RX12) (T0 := TX12) (N0 := 257) hC rfl (rmX12_noCode l hG) (rz_cwV 1 hC rz_good (rz_mem (i := 84) (j := 39) rfl rfl) (rz_mem (i := 84) (j := 40) rfl rfl) (rz_mem (i := 84) (j := 41) rfl rfl) (rz_mem (i := 32) (j := 8) rfl rfl) (rz_mem (i := 84) (j := 37) rfl rfl) ⟨rfl, by decide, by decide, by decide +kernel⟩ rfl rfl ⟨by decide, by decide⟩) rfl dX12_kind_2 hk) ?_
  refine rz_All_c (i := 3) (fun k J hk hJ => rz_ifne_ok (pc := 5) hx hb dX12_kind_5 rfl hk (hJ 5)) ?_
  refine rz_All_c (i := 4) (fun k J hk hJ => rz_no_ok) ?_
  refine rz_All_c (i := 5) (fun k J hk hJ => rz_iconst_ok (pc := 53) hx hb dX12_kind_53 rfl hk) ?_
  refine rz_All_c (i := 6) (fun k J hk hJ => rz_iret_ok (pc := 54) hC dX12_kind_54) ?_
  exact trivial
theorem dX11_analyse_0 : decode cX11_analyse 0 = .ok (.aload_n 0, 1) := by decide +kernel
theorem dX11_analyse_1 : decode cX11_analyse 1 = .ok (.getfield 20, 3) := by decide +kernel
theorem dX11_analyse_4 : decode cX11_analyse 4 = .ok (.getfield 108, 3) := by decide +kernel
theorem dX11_analyse_7 : decode cX11_analyse 7 = .ok (.ifCond .eq 24, 3) := by decide +kernel
theorem dX11_analyse_31 : decode cX11_analyse 31 = .ok (.iconst (-1), 1) := by decide +kernel
theorem dX11_analyse_32 : decode cX11_analyse 32 = .ok (.ireturn, 1) := by decide +kernel
def rpX11_analyse : List Nat := [0, 1, 4, 7, 10, 31, 32]
noncomputable def rcX11_analyse : List rz_B := [rz_aload 0, rz_getf (Nat.add (Nat.mul 256 13) 1) 5 rz_r, rz_getf (Nat.add (Nat.mul 256 9) 1) 0 rz_i, rz_ifeq 5, rz_no, rz_cst 4294967295, rz_iret]
noncomputable def rgX11_analyse : rz_L → rz_M → rz_Z → Bool := rz_go rcX11_analyse 3 1000000
def rrX11_analyse : Room := { frames := 0, cells := 0, slots := 0, locals := 0 }
theorem rmX11_analyse (l : Launch) {G : rz_G} (hG : rz_Gd G) (vs : rz_L) (M : rz_M) (Z : rz_Z) (hn : vs.length = 3) (h : rgX11_analyse vs M Z = true) : Met l yX11_analyse (Cond.code yX11_analyse cX11_analyse 3 (some .int) :: rz_TB) rrX11_analyse (rz_Pre G vs M) (rz_Qi G M.2 Z) 0 0 (fun q => rz_b G ≤ q) := by
  obtain ⟨D, tc, ad, b, xs, rfl⟩ := id hG
  refine rz_body (pcs := rpX11_analyse) (by decide) rfl (by rw [hn]; decide) h ?_
  intro p e R s m args below meth c hC
  obtain ⟨hx, hb, hml, hr, hlk, ho, hts, hKn, hRm⟩ := id hC
  obtain ⟨hK, hA, hSt⟩ := id hKn
  have hw : ∀ {i j : Nat} {ws : List Cond} {w : Cond}, rz_WW[i]? = some ws → ws[j]? = some w → w.before args s = true := fun h1 h2 => hts _ (List.mem_cons_of_mem _ (rz_mem h1 h2))
  refine rz_All_c (i := 0) (fun k J hk hJ => rz_aload_n_ok (pc := 0) hx hb dX11_analyse_0 rfl hk) ?_
  refine rz_All_c (i := 1) (fun k J hk hJ => rz_getf_ok (pc := 1) (own := RX11) (ref := "ThreadJudge") (C := RX11) (T := TX11) (N := 16) (ci := 13) (index := 20) (f := 5) (t := 2) (Ts := Cond.code yX11_analyse cX11_analyse 3 (some .int) :: rz_TB) hx hb hts rz_in13 ho hK rfl (by decide) rfl (fun _ => rfl) (hw (i := 0) (j := 0) rfl rfl) (fun _ z => z) dX11_analyse_1 hk) ?_
  refine rz_All_c (i := 2) (fun k J hk hJ => rz_getf_ok (pc := 4) (own := RX11) (ref := "ThreadJudge$Program") (C := RX7) (T := TX7) (N := 22) (ci := 9) (index := 108) (f := 0) (t := 0) (Ts := Cond.code yX11_analyse cX11_analyse 3 (some .int) :: rz_TB) hx hb hts rz_in9 ho hK rfl (by decide) rfl (fun _ => rfl) (hw (i := 0) (j := 20) rfl rfl) (fun _ z => z) dX11_analyse_4 hk) ?_
  refine rz_All_c (i := 3) (fun k J hk hJ => rz_ifeq_ok (pc := 7) hx hb dX11_analyse_7 rfl hk (hJ 5)) ?_
  refine rz_All_c (i := 4) (fun k J hk hJ => rz_no_ok) ?_
  refine rz_All_c (i := 5) (fun k J hk hJ => rz_iconst_ok (pc := 31) hx hb dX11_analyse_31 rfl hk) ?_
  refine rz_All_c (i := 6) (fun k J hk hJ => rz_iret_ok (pc := 32) hC dX11_analyse_32) ?_
  exact trivial
theorem dX12_analyse_0 : decode cX12_analyse 0 = .ok (.aload_n 0, 1) := by decide +kernel
theorem dX12_analyse_1 : decode cX12_analyse 1 = .ok (.getfield 1001, 3) := by decide +kernel
theorem dX12_analyse_4 : decode cX12_analyse 4 = .ok (.ifCond .eq 24, 3) := by decide +kernel
theorem dX12_analyse_28 : decode cX12_analyse 28 = .ok (.iconst (-1), 1) := by decide +kernel
theorem dX12_analyse_29 : decode cX12_analyse 29 = .ok (.ireturn, 1) := by decide +kernel
def rpX12_analyse : List Nat := [0, 1, 4, 7, 28, 29]
noncomputable def rcX12_analyse : List rz_B := [rz_aload 0, rz_getf (Nat.add (Nat.mul 256 14) 1) 99 rz_i, rz_ifeq 4, rz_no, rz_cst 4294967295, rz_iret]
noncomputable def rgX12_analyse : rz_L → rz_M → rz_Z → Bool := rz_go rcX12_analyse 4 1000000
def rrX12_analyse : Room := { frames := 0, cells := 0, slots := 0, locals := 0 }
theorem rmX12_analyse (l : Launch) {G : rz_G} (hG : rz_Gd G) (vs : rz_L) (M : rz_M) (Z : rz_Z) (hn : vs.length = 3) (h : rgX12_analyse vs M Z = true) : Met l yX12_analyse (Cond.code yX12_analyse cX12_analyse 4 (some .int) :: rz_TB) rrX12_analyse (rz_Pre G vs M) (rz_Qi G M.2 Z) 0 0 (fun q => rz_b G ≤ q) := by
  obtain ⟨D, tc, ad, b, xs, rfl⟩ := id hG
  refine rz_body (pcs := rpX12_analyse) (by decide) rfl (by rw [hn]; decide) h ?_
  intro p e R s m args below meth c hC
  obtain ⟨hx, hb, hml, hr, hlk, ho, hts, hKn, hRm⟩ := id hC
  obtain ⟨hK, hA, hSt⟩ := id hKn
  have hw : ∀ {i j : Nat} {ws : List Cond} {w : Cond}, rz_WW[i]? = some ws → ws[j]? = some w → w.before args s = true := fun h1 h2 => hts _ (List.mem_cons_of_mem _ (rz_mem h1 h2))
  refine rz_All_c (i := 0) (fun k J hk hJ => rz_aload_n_ok (pc := 0) hx hb dX12_analyse_0 rfl hk) ?_
  refine rz_All_c (i := 1) (fun k J hk hJ => rz_getf_ok (pc := 1) (own := RX12) (ref := "ThreadJudgeModel") (C := RX12) (T := TX12) (N := 257) (ci := 14) (index := 1001) (f := 99) (t := 0) (Ts := Cond.code yX12_analyse cX12_analyse 4 (some .int) :: rz_TB) hx hb hts rz_in14 ho hK rfl (by decide) rfl (fun _ => rfl) (hw (i := 32) (j := 0) rfl rfl) (fun _ z => z) dX12_analyse_1 hk) ?_
  refine rz_All_c (i := 2) (fun k J hk hJ => rz_ifeq_ok (pc := 4) hx hb dX12_analyse_4 rfl hk (hJ 4)) ?_
  refine rz_All_c (i := 3) (fun k J hk hJ => rz_no_ok) ?_
  refine rz_All_c (i := 4) (fun k J hk hJ => rz_iconst_ok (pc := 28) hx hb dX12_analyse_28 rfl hk) ?_
  refine rz_All_c (i := 5) (fun k J hk hJ => rz_iret_ok (pc := 29) hC dX12_analyse_29) ?_
  exact trivial
theorem dX11_holds_0 : decode cX11_holds 0 = .ok (.aload_n 0, 1) := by decide +kernel
theorem dX11_holds_1 : decode cX11_holds 1 = .ok (.getfield 52, 3) := by decide +kernel
theorem dX11_holds_4 : decode cX11_holds 4 = .ok (.getfield 122, 3) := by decide +kernel
theorem dX11_holds_7 : decode cX11_holds 7 = .ok (.ifCond .eq 12, 3) := by decide +kernel
theorem dX11_holds_19 : decode cX11_holds 19 = .ok (.iconst (-1), 1) := by decide +kernel
theorem dX11_holds_20 : decode cX11_holds 20 = .ok (.ireturn, 1) := by decide +kernel
def rpX11_holds : List Nat := [0, 1, 4, 7, 10, 19, 20]
noncomputable def rcX11_holds : List rz_B := [rz_aload 0, rz_getf (Nat.add (Nat.mul 256 13) 1) 9 rz_r, rz_getf (Nat.add (Nat.mul 256 4) 1) 1 rz_i, rz_ifeq 5, rz_no, rz_cst 4294967295, rz_iret]
noncomputable def rgX11_holds : rz_L → rz_M → rz_Z → Bool := rz_go rcX11_holds 4 1000000
def rrX11_holds : Room := { frames := 0, cells := 0, slots := 0, locals := 0 }
theorem rmX11_holds (l : Launch) {G : rz_G} (hG : rz_Gd G) (vs : rz_L) (M : rz_M) (Z : rz_Z) (hn : vs.length = 4) (h : rgX11_holds vs M Z = true) : Met l yX11_holds (Cond.code yX11_holds cX11_holds 4 (some .int) :: rz_TB) rrX11_holds (rz_Pre G vs M) (rz_Qi G M.2 Z) 0 0 (fun q => rz_b G ≤ q) := by
  obtain ⟨D, tc, ad, b, xs, rfl⟩ := id hG
  refine rz_body (pcs := rpX11_holds) (by decide) rfl (by rw [hn]; decide) h ?_
  intro p e R s m args below meth c hC
  obtain ⟨hx, hb, hml, hr, hlk, ho, hts, hKn, hRm⟩ := id hC
  obtain ⟨hK, hA, hSt⟩ := id hKn
  have hw : ∀ {i j : Nat} {ws : List Cond} {w : Cond}, rz_WW[i]? = some ws → ws[j]? = some w → w.before args s = true := fun h1 h2 => hts _ (List.mem_cons_of_mem _ (rz_mem h1 h2))
  refine rz_All_c (i := 0) (fun k J hk hJ => rz_aload_n_ok (pc := 0) hx hb dX11_holds_0 rfl hk) ?_
  refine rz_All_c (i := 1) (fun k J hk hJ => rz_getf_ok (pc := 1) (own := RX11) (ref := "ThreadJudge") (C := RX11) (T := TX11) (N := 16) (ci := 13) (index := 52) (f := 9) (t := 2) (Ts := Cond.code yX11_holds cX11_holds 4 (some .int) :: rz_TB) hx hb hts rz_in13 ho hK rfl (by decide) rfl (fun _ => rfl) (hw (i := 0) (j := 1) rfl rfl) (fun _ z => z) dX11_holds_1 hk) ?_
  refine rz_All_c (i := 2) (fun k J hk hJ => rz_getf_ok (pc := 4) (own := RX11) (ref := "ThreadJudge$Flow") (C := RX2) (T := TX2) (N := 22) (ci := 4) (index := 122) (f := 1) (t := 0) (Ts := Cond.code yX11_holds cX11_holds 4 (some .int) :: rz_TB) hx hb hts rz_in4 ho hK rfl (by decide) rfl (fun _ => rfl) (hw (i := 0) (j := 2) rfl rfl) (fun _ z => z) dX11_holds_4 hk) ?_
  refine rz_All_c (i := 3) (fun k J hk hJ => rz_ifeq_ok (pc := 7) hx hb dX11_holds_7 rfl hk (hJ 5)) ?_
  refine rz_All_c (i := 4) (fun k J hk hJ => rz_no_ok) ?_
  refine rz_All_c (i := 5) (fun k J hk hJ => rz_iconst_ok (pc := 19) hx hb dX11_holds_19 rfl hk) ?_
  refine rz_All_c (i := 6) (fun k J hk hJ => rz_iret_ok (pc := 20) hC dX11_holds_20) ?_
  exact trivial
theorem dX12_holds_0 : decode cX12_holds 0 = .ok (.aload_n 0, 1) := by decide +kernel
theorem dX12_holds_1 : decode cX12_holds 1 = .ok (.getfield 1004, 3) := by decide +kernel
theorem dX12_holds_4 : decode cX12_holds 4 = .ok (.ifCond .eq 37, 3) := by decide +kernel
theorem dX12_holds_41 : decode cX12_holds 41 = .ok (.iconst (-1), 1) := by decide +kernel
theorem dX12_holds_42 : decode cX12_holds 42 = .ok (.ireturn, 1) := by decide +kernel
def rpX12_holds : List Nat := [0, 1, 4, 7, 41, 42]
noncomputable def rcX12_holds : List rz_B := [rz_aload 0, rz_getf (Nat.add (Nat.mul 256 14) 1) 103 rz_i, rz_ifeq 4, rz_no, rz_cst 4294967295, rz_iret]
noncomputable def rgX12_holds : rz_L → rz_M → rz_Z → Bool := rz_go rcX12_holds 5 1000000
def rrX12_holds : Room := { frames := 0, cells := 0, slots := 0, locals := 0 }
theorem rmX12_holds (l : Launch) {G : rz_G} (hG : rz_Gd G) (vs : rz_L) (M : rz_M) (Z : rz_Z) (hn : vs.length = 4) (h : rgX12_holds vs M Z = true) : Met l yX12_holds (Cond.code yX12_holds cX12_holds 5 (some .int) :: rz_TB) rrX12_holds (rz_Pre G vs M) (rz_Qi G M.2 Z) 0 0 (fun q => rz_b G ≤ q) := by
  obtain ⟨D, tc, ad, b, xs, rfl⟩ := id hG
  refine rz_body (pcs := rpX12_holds) (by decide) rfl (by rw [hn]; decide) h ?_
  intro p e R s m args below meth c hC
  obtain ⟨hx, hb, hml, hr, hlk, ho, hts, hKn, hRm⟩ := id hC
  obtain ⟨hK, hA, hSt⟩ := id hKn
  have hw : ∀ {i j : Nat} {ws : List Cond} {w : Cond}, rz_WW[i]? = some ws → ws[j]? = some w → w.before args s = true := fun h1 h2 => hts _ (List.mem_cons_of_mem _ (rz_mem h1 h2))
  refine rz_All_c (i := 0) (fun k J hk hJ => rz_aload_n_ok (pc := 0) hx hb dX12_holds_0 rfl hk) ?_
  refine rz_All_c (i := 1) (fun k J hk hJ => rz_getf_ok (pc := 1) (own := RX12) (ref := "ThreadJudgeModel") (C := RX12) (T := TX12) (N := 257) (ci := 14) (index := 1004) (f := 103) (t := 0) (Ts := Cond.code yX12_holds cX12_holds 5 (some .int) :: rz_TB) hx hb hts rz_in14 ho hK rfl (by decide) rfl (fun _ => rfl) (hw (i := 32) (j := 1) rfl rfl) (fun _ z => z) dX12_holds_1 hk) ?_
  refine rz_All_c (i := 2) (fun k J hk hJ => rz_ifeq_ok (pc := 4) hx hb dX12_holds_4 rfl hk (hJ 4)) ?_
  refine rz_All_c (i := 3) (fun k J hk hJ => rz_no_ok) ?_
  refine rz_All_c (i := 4) (fun k J hk hJ => rz_iconst_ok (pc := 41) hx hb dX12_holds_41 rfl hk) ?_
  refine rz_All_c (i := 5) (fun k J hk hJ => rz_iret_ok (pc := 42) hC dX12_holds_42) ?_
  exact trivial
theorem dX11_object_0 : decode cX11_object 0 = .ok (.aload_n 0, 1) := by decide +kernel
theorem dX11_object_1 : decode cX11_object 1 = .ok (.getfield 52, 3) := by decide +kernel
theorem dX11_object_4 : decode cX11_object 4 = .ok (.getfield 122, 3) := by decide +kernel
theorem dX11_object_7 : decode cX11_object 7 = .ok (.ifCond .eq 18, 3) := by decide +kernel
theorem dX11_object_25 : decode cX11_object 25 = .ok (.iconst (-1), 1) := by decide +kernel
theorem dX11_object_26 : decode cX11_object 26 = .ok (.ireturn, 1) := by decide +kernel
def rpX11_object : List Nat := [0, 1, 4, 7, 10, 25, 26]
noncomputable def rcX11_object : List rz_B := [rz_aload 0, rz_getf (Nat.add (Nat.mul 256 13) 1) 9 rz_r, rz_getf (Nat.add (Nat.mul 256 4) 1) 1 rz_i, rz_ifeq 5, rz_no, rz_cst 4294967295, rz_iret]
noncomputable def rgX11_object : rz_L → rz_M → rz_Z → Bool := rz_go rcX11_object 3 1000000
def rrX11_object : Room := { frames := 0, cells := 0, slots := 0, locals := 0 }
theorem rmX11_object (l : Launch) {G : rz_G} (hG : rz_Gd G) (vs : rz_L) (M : rz_M) (Z : rz_Z) (hn : vs.length = 3) (h : rgX11_object vs M Z = true) : Met l yX11_object (Cond.code yX11_object cX11_object 3 (some .int) :: rz_TB) rrX11_object (rz_Pre G vs M) (rz_Qi G M.2 Z) 0 0 (fun q => rz_b G ≤ q) := by
  obtain ⟨D, tc, ad, b, xs, rfl⟩ := id hG
  refine rz_body (pcs := rpX11_object) (by decide) rfl (by rw [hn]; decide) h ?_
  intro p e R s m args below meth c hC
  obtain ⟨hx, hb, hml, hr, hlk, ho, hts, hKn, hRm⟩ := id hC
  obtain ⟨hK, hA, hSt⟩ := id hKn
  have hw : ∀ {i j : Nat} {ws : List Cond} {w : Cond}, rz_WW[i]? = some ws → ws[j]? = some w → w.before args s = true := fun h1 h2 => hts _ (List.mem_cons_of_mem _ (rz_mem h1 h2))
  refine rz_All_c (i := 0) (fun k J hk hJ => rz_aload_n_ok (pc := 0) hx hb dX11_object_0 rfl hk) ?_
  refine rz_All_c (i := 1) (fun k J hk hJ => rz_getf_ok (pc := 1) (own := RX11) (ref := "ThreadJudge") (C := RX11) (T := TX11) (N := 16) (ci := 13) (index := 52) (f := 9) (t := 2) (Ts := Cond.code yX11_object cX11_object 3 (some .int) :: rz_TB) hx hb hts rz_in13 ho hK rfl (by decide) rfl (fun _ => rfl) (hw (i := 0) (j := 1) rfl rfl) (fun _ z => z) dX11_object_1 hk) ?_
  refine rz_All_c (i := 2) (fun k J hk hJ => rz_getf_ok (pc := 4) (own := RX11) (ref := "ThreadJudge$Flow") (C := RX2) (T := TX2) (N := 22) (ci := 4) (index := 122) (f := 1) (t := 0) (Ts := Cond.code yX11_object cX11_object 3 (some .int) :: rz_TB) hx hb hts rz_in4 ho hK rfl (by decide) rfl (fun _ => rfl) (hw (i := 0) (j := 2) rfl rfl) (fun _ z => z) dX11_object_4 hk) ?_
  refine rz_All_c (i := 3) (fun k J hk hJ => rz_ifeq_ok (pc := 7) hx hb dX11_object_7 rfl hk (hJ 5)) ?_
  refine rz_All_c (i := 4) (fun k J hk hJ => rz_no_ok) ?_
  refine rz_All_c (i := 5) (fun k J hk hJ => rz_iconst_ok (pc := 25) hx hb dX11_object_25 rfl hk) ?_
  refine rz_All_c (i := 6) (fun k J hk hJ => rz_iret_ok (pc := 26) hC dX11_object_26) ?_
  exact trivial
theorem dX12_noObject_0 : decode cX12_noObject 0 = .ok (.aload_n 0, 1) := by decide +kernel
theorem dX12_noObject_1 : decode cX12_noObject 1 = .ok (.getfield 1004, 3) := by decide +kernel
theorem dX12_noObject_4 : decode cX12_noObject 4 = .ok (.ifCond .eq 15, 3) := by decide +kernel
theorem dX12_noObject_19 : decode cX12_noObject 19 = .ok (.iconst 1, 1) := by decide +kernel
theorem dX12_noObject_20 : decode cX12_noObject 20 = .ok (.goto 4, 3) := by decide +kernel
theorem dX12_noObject_24 : decode cX12_noObject 24 = .ok (.ireturn, 1) := by decide +kernel
def rpX12_noObject : List Nat := [0, 1, 4, 7, 19, 20, 24]
noncomputable def rcX12_noObject : List rz_B := [rz_aload 0, rz_getf (Nat.add (Nat.mul 256 14) 1) 103 rz_i, rz_ifeq 4, rz_no, rz_cst 1, rz_goto 6, rz_zret]
noncomputable def rgX12_noObject : rz_L → rz_M → rz_Z → Bool := rz_go rcX12_noObject 2 1000000
def rrX12_noObject : Room := { frames := 0, cells := 0, slots := 0, locals := 0 }
theorem rmX12_noObject (l : Launch) {G : rz_G} (hG : rz_Gd G) (vs : rz_L) (M : rz_M) (Z : rz_Z) (hn : vs.length = 2) (h : rgX12_noObject vs M Z = true) : Met l yX12_noObject (Cond.code yX12_noObject cX12_noObject 2 (some .boolean) :: rz_TB) rrX12_noObject (rz_Pre G vs M) (rz_Qi G M.2 Z) 0 0 (fun q => rz_b G ≤ q) := by
  obtain ⟨D, tc, ad, b, xs, rfl⟩ := id hG
  refine rz_body (pcs := rpX12_noObject) (by decide) rfl (by rw [hn]; decide) h ?_
  intro p e R s m args below meth c hC
  obtain ⟨hx, hb, hml, hr, hlk, ho, hts, hKn, hRm⟩ := id hC
  obtain ⟨hK, hA, hSt⟩ := id hKn
  have hw : ∀ {i j : Nat} {ws : List Cond} {w : Cond}, rz_WW[i]? = some ws → ws[j]? = some w → w.before args s = true := fun h1 h2 => hts _ (List.mem_cons_of_mem _ (rz_mem h1 h2))
  refine rz_All_c (i := 0) (fun k J hk hJ => rz_aload_n_ok (pc := 0) hx hb dX12_noObject_0 rfl hk) ?_
  refine rz_All_c (i := 1) (fun k J hk hJ => rz_getf_ok (pc := 1) (own := RX12) (ref := "ThreadJudgeModel") (C := RX12) (T := TX12) (N := 257) (ci := 14) (index := 1004) (f := 103) (t := 0) (Ts := Cond.code yX12_noObject cX12_noObject 2 (some .boolean) :: rz_TB) hx hb hts rz_in14 ho hK rfl (by decide) rfl (fun _ => rfl) (hw (i := 32) (j := 1) rfl rfl) (fun _ z => z) dX12_noObject_1 hk) ?_
  refine rz_All_c (i := 2) (fun k J hk hJ => rz_ifeq_ok (pc := 4) hx hb dX12_noObject_4 rfl hk (hJ 4)) ?_
  refine rz_All_c (i := 3) (fun k J hk hJ => rz_no_ok) ?_
  refine rz_All_c (i := 4) (fun k J hk hJ => rz_iconst_ok (pc := 19) hx hb dX12_noObject_19 rfl hk) ?_
  refine rz_All_c (i := 5) (fun k J hk hJ => rz_goto_ok (pc := 20) hx hb dX12_noObject_20 rfl (hJ 6)) ?_
  refine rz_All_c (i := 6) (fun k J hk hJ => rz_zret_ok (pc := 24) hC dX12_noObject_24) ?_
  exact trivial
theorem dX12_object_0 : decode cX12_object 0 = .ok (.aload_n 0, 1) := by decide +kernel
theorem dX12_object_1 : decode cX12_object 1 = .ok (.iload_n 1, 1) := by decide +kernel
theorem dX12_object_2 : decode cX12_object 2 = .ok (.invokevirtual 1403, 3) := by decide +kernel
theorem dX12_object_5 : decode cX12_object 5 = .ok (.ifCond .eq 5, 3) := by decide +kernel
theorem dX12_object_8 : decode cX12_object 8 = .ok (.iconst (-1), 1) := by decide +kernel
theorem dX12_object_9 : decode cX12_object 9 = .ok (.ireturn, 1) := by decide +kernel
def rpX12_object : List Nat := [0, 1, 2, 5, 8, 9, 10]
noncomputable def rcX12_object : List rz_B := [rz_aload 0, rz_iload 1, rz_callV 1 (Nat.add (Nat.mul 256 14) 1) rgX12_noObject, rz_ifeq 6, rz_cst 4294967295, rz_iret, rz_no]
noncomputable def rgX12_object : rz_L → rz_M → rz_Z → Bool := rz_go rcX12_object 4 1000000
def rrX12_object : Room := { frames := 1, cells := 0, slots := 0, locals := 21 }
theorem rmX12_object (l : Launch) {G : rz_G} (hG : rz_Gd G) (vs : rz_L) (M : rz_M) (Z : rz_Z) (hn : vs.length = 3) (h : rgX12_object vs M Z = true) : Met l yX12_object (Cond.code yX12_object cX12_object 4 (some .int) :: rz_TB) rrX12_object (rz_Pre G vs M) (rz_Qi G M.2 Z) 0 0 (fun q => rz_b G ≤ q) := by
  obtain ⟨D, tc, ad, b, xs, rfl⟩ := id hG
  refine rz_body (pcs := rpX12_object) (by decide) rfl (by rw [hn]; decide) h ?_
  intro p e R s m args below meth c hC
  obtain ⟨hx, hb, hml, hr, hlk, ho, hts, hKn, hRm⟩ := id hC
  obtain ⟨hK, hA, hSt⟩ := id hKn
  have hw : ∀ {i j : Nat} {ws : List Cond} {w : Cond}, rz_WW[i]? = some ws → ws[j]? = some w → w.before args s = true := fun h1 h2 => hts _ (List.mem_cons_of_mem _ (rz_mem h1 h2))
  refine rz_All_c (i := 0) (fun k J hk hJ => rz_aload_n_ok (pc := 0) hx hb dX12_object_0 rfl hk) ?_
  refine rz_All_c (i := 1) (fun k J hk hJ => rz_iload_n_ok (pc := 1) hx hb dX12_object_1 rfl hk) ?_
  refine rz_All_c (i := 2) (fun k J hk hJ => rz_callV_ok (pc := 2) (own := RX12) (C := RX12) (T0 := TX12) (N0 := 257) hC rfl (rmX12_noObject l hG) (rz_cwV 1 hC rz_good (rz_mem (i := 84) (j := 63) rfl rfl) (rz_mem (i := 84) (j := 64) rfl rfl) (rz_mem (i := 84) (j := 65) rfl rfl) (rz_mem (i := 32) (j := 8) rfl rfl) (rz_mem (i := 84) (j := 61) rfl rfl) ⟨rfl, by decide, by decide, by decide +kernel⟩ rfl rfl ⟨by decide, by decide⟩) rfl dX12_object_2 hk) ?_
  refine rz_All_c (i := 3) (fun k J hk hJ => rz_ifeq_ok (pc := 5) hx hb dX12_object_5 rfl hk (hJ 6)) ?_
  refine rz_All_c (i := 4) (fun k J hk hJ => rz_iconst_ok (pc := 8) hx hb dX12_object_8 rfl hk) ?_
  refine rz_All_c (i := 5) (fun k J hk hJ => rz_iret_ok (pc := 9) hC dX12_object_9) ?_
  refine rz_All_c (i := 6) (fun k J hk hJ => rz_no_ok) ?_
  exact trivial
theorem dX11_field_0 : decode cX11_field 0 = .ok (.aload_n 0, 1) := by decide +kernel
theorem dX11_field_1 : decode cX11_field 1 = .ok (.getfield 52, 3) := by decide +kernel
theorem dX11_field_4 : decode cX11_field 4 = .ok (.getfield 122, 3) := by decide +kernel
theorem dX11_field_7 : decode cX11_field 7 = .ok (.ifCond .eq 20, 3) := by decide +kernel
theorem dX11_field_27 : decode cX11_field 27 = .ok (.iconst (-1), 1) := by decide +kernel
theorem dX11_field_28 : decode cX11_field 28 = .ok (.ireturn, 1) := by decide +kernel
def rpX11_field : List Nat := [0, 1, 4, 7, 10, 27, 28]
noncomputable def rcX11_field : List rz_B := [rz_aload 0, rz_getf (Nat.add (Nat.mul 256 13) 1) 9 rz_r, rz_getf (Nat.add (Nat.mul 256 4) 1) 1 rz_i, rz_ifeq 5, rz_no, rz_cst 4294967295, rz_iret]
noncomputable def rgX11_field : rz_L → rz_M → rz_Z → Bool := rz_go rcX11_field 5 1000000
def rrX11_field : Room := { frames := 0, cells := 0, slots := 0, locals := 0 }
theorem rmX11_field (l : Launch) {G : rz_G} (hG : rz_Gd G) (vs : rz_L) (M : rz_M) (Z : rz_Z) (hn : vs.length = 4) (h : rgX11_field vs M Z = true) : Met l yX11_field (Cond.code yX11_field cX11_field 5 (some .int) :: rz_TB) rrX11_field (rz_Pre G vs M) (rz_Qi G M.2 Z) 0 0 (fun q => rz_b G ≤ q) := by
  obtain ⟨D, tc, ad, b, xs, rfl⟩ := id hG
  refine rz_body (pcs := rpX11_field) (by decide) rfl (by rw [hn]; decide) h ?_
  intro p e R s m args below meth c hC
  obtain ⟨hx, hb, hml, hr, hlk, ho, hts, hKn, hRm⟩ := id hC
  obtain ⟨hK, hA, hSt⟩ := id hKn
  have hw : ∀ {i j : Nat} {ws : List Cond} {w : Cond}, rz_WW[i]? = some ws → ws[j]? = some w → w.before args s = true := fun h1 h2 => hts _ (List.mem_cons_of_mem _ (rz_mem h1 h2))
  refine rz_All_c (i := 0) (fun k J hk hJ => rz_aload_n_ok (pc := 0) hx hb dX11_field_0 rfl hk) ?_
  refine rz_All_c (i := 1) (fun k J hk hJ => rz_getf_ok (pc := 1) (own := RX11) (ref := "ThreadJudge") (C := RX11) (T := TX11) (N := 16) (ci := 13) (index := 52) (f := 9) (t := 2) (Ts := Cond.code yX11_field cX11_field 5 (some .int) :: rz_TB) hx hb hts rz_in13 ho hK rfl (by decide) rfl (fun _ => rfl) (hw (i := 0) (j := 1) rfl rfl) (fun _ z => z) dX11_field_1 hk) ?_
  refine rz_All_c (i := 2) (fun k J hk hJ => rz_getf_ok (pc := 4) (own := RX11) (ref := "ThreadJudge$Flow") (C := RX2) (T := TX2) (N := 22) (ci := 4) (index := 122) (f := 1) (t := 0) (Ts := Cond.code yX11_field cX11_field 5 (some .int) :: rz_TB) hx hb hts rz_in4 ho hK rfl (by decide) rfl (fun _ => rfl) (hw (i := 0) (j := 2) rfl rfl) (fun _ z => z) dX11_field_4 hk) ?_
  refine rz_All_c (i := 3) (fun k J hk hJ => rz_ifeq_ok (pc := 7) hx hb dX11_field_7 rfl hk (hJ 5)) ?_
  refine rz_All_c (i := 4) (fun k J hk hJ => rz_no_ok) ?_
  refine rz_All_c (i := 5) (fun k J hk hJ => rz_iconst_ok (pc := 27) hx hb dX11_field_27 rfl hk) ?_
  refine rz_All_c (i := 6) (fun k J hk hJ => rz_iret_ok (pc := 28) hC dX11_field_28) ?_
  exact trivial
theorem dX12_field_0 : decode cX12_field 0 = .ok (.aload_n 0, 1) := by decide +kernel
theorem dX12_field_1 : decode cX12_field 1 = .ok (.getfield 1004, 3) := by decide +kernel
theorem dX12_field_4 : decode cX12_field 4 = .ok (.ifCond .eq 11, 3) := by decide +kernel
theorem dX12_field_15 : decode cX12_field 15 = .ok (.iconst (-1), 1) := by decide +kernel
theorem dX12_field_16 : decode cX12_field 16 = .ok (.ireturn, 1) := by decide +kernel
def rpX12_field : List Nat := [0, 1, 4, 7, 15, 16]
noncomputable def rcX12_field : List rz_B := [rz_aload 0, rz_getf (Nat.add (Nat.mul 256 14) 1) 103 rz_i, rz_ifeq 4, rz_no, rz_cst 4294967295, rz_iret]
noncomputable def rgX12_field : rz_L → rz_M → rz_Z → Bool := rz_go rcX12_field 5 1000000
def rrX12_field : Room := { frames := 0, cells := 0, slots := 0, locals := 0 }
theorem rmX12_field (l : Launch) {G : rz_G} (hG : rz_Gd G) (vs : rz_L) (M : rz_M) (Z : rz_Z) (hn : vs.length = 4) (h : rgX12_field vs M Z = true) : Met l yX12_field (Cond.code yX12_field cX12_field 5 (some .int) :: rz_TB) rrX12_field (rz_Pre G vs M) (rz_Qi G M.2 Z) 0 0 (fun q => rz_b G ≤ q) := by
  obtain ⟨D, tc, ad, b, xs, rfl⟩ := id hG
  refine rz_body (pcs := rpX12_field) (by decide) rfl (by rw [hn]; decide) h ?_
  intro p e R s m args below meth c hC
  obtain ⟨hx, hb, hml, hr, hlk, ho, hts, hKn, hRm⟩ := id hC
  obtain ⟨hK, hA, hSt⟩ := id hKn
  have hw : ∀ {i j : Nat} {ws : List Cond} {w : Cond}, rz_WW[i]? = some ws → ws[j]? = some w → w.before args s = true := fun h1 h2 => hts _ (List.mem_cons_of_mem _ (rz_mem h1 h2))
  refine rz_All_c (i := 0) (fun k J hk hJ => rz_aload_n_ok (pc := 0) hx hb dX12_field_0 rfl hk) ?_
  refine rz_All_c (i := 1) (fun k J hk hJ => rz_getf_ok (pc := 1) (own := RX12) (ref := "ThreadJudgeModel") (C := RX12) (T := TX12) (N := 257) (ci := 14) (index := 1004) (f := 103) (t := 0) (Ts := Cond.code yX12_field cX12_field 5 (some .int) :: rz_TB) hx hb hts rz_in14 ho hK rfl (by decide) rfl (fun _ => rfl) (hw (i := 32) (j := 1) rfl rfl) (fun _ z => z) dX12_field_1 hk) ?_
  refine rz_All_c (i := 2) (fun k J hk hJ => rz_ifeq_ok (pc := 4) hx hb dX12_field_4 rfl hk (hJ 4)) ?_
  refine rz_All_c (i := 3) (fun k J hk hJ => rz_no_ok) ?_
  refine rz_All_c (i := 4) (fun k J hk hJ => rz_iconst_ok (pc := 15) hx hb dX12_field_15 rfl hk) ?_
  refine rz_All_c (i := 5) (fun k J hk hJ => rz_iret_ok (pc := 16) hC dX12_field_16) ?_
  exact trivial
theorem dX11_calls_0 : decode cX11_calls 0 = .ok (.aload_n 0, 1) := by decide +kernel
theorem dX11_calls_1 : decode cX11_calls 1 = .ok (.getfield 52, 3) := by decide +kernel
theorem dX11_calls_4 : decode cX11_calls 4 = .ok (.getfield 122, 3) := by decide +kernel
theorem dX11_calls_7 : decode cX11_calls 7 = .ok (.ifCond .eq 11, 3) := by decide +kernel
theorem dX11_calls_18 : decode cX11_calls 18 = .ok (.iconst (-1), 1) := by decide +kernel
theorem dX11_calls_19 : decode cX11_calls 19 = .ok (.ireturn, 1) := by decide +kernel
def rpX11_calls : List Nat := [0, 1, 4, 7, 10, 18, 19]
noncomputable def rcX11_calls : List rz_B := [rz_aload 0, rz_getf (Nat.add (Nat.mul 256 13) 1) 9 rz_r, rz_getf (Nat.add (Nat.mul 256 4) 1) 1 rz_i, rz_ifeq 5, rz_no, rz_cst 4294967295, rz_iret]
noncomputable def rgX11_calls : rz_L → rz_M → rz_Z → Bool := rz_go rcX11_calls 4 1000000
def rrX11_calls : Room := { frames := 0, cells := 0, slots := 0, locals := 0 }
theorem rmX11_calls (l : Launch) {G : rz_G} (hG : rz_Gd G) (vs : rz_L) (M : rz_M) (Z : rz_Z) (hn : vs.length = 4) (h : rgX11_calls vs M Z = true) : Met l yX11_calls (Cond.code yX11_calls cX11_calls 4 (some .int) :: rz_TB) rrX11_calls (rz_Pre G vs M) (rz_Qi G M.2 Z) 0 0 (fun q => rz_b G ≤ q) := by
  obtain ⟨D, tc, ad, b, xs, rfl⟩ := id hG
  refine rz_body (pcs := rpX11_calls) (by decide) rfl (by rw [hn]; decide) h ?_
  intro p e R s m args below meth c hC
  obtain ⟨hx, hb, hml, hr, hlk, ho, hts, hKn, hRm⟩ := id hC
  obtain ⟨hK, hA, hSt⟩ := id hKn
  have hw : ∀ {i j : Nat} {ws : List Cond} {w : Cond}, rz_WW[i]? = some ws → ws[j]? = some w → w.before args s = true := fun h1 h2 => hts _ (List.mem_cons_of_mem _ (rz_mem h1 h2))
  refine rz_All_c (i := 0) (fun k J hk hJ => rz_aload_n_ok (pc := 0) hx hb dX11_calls_0 rfl hk) ?_
  refine rz_All_c (i := 1) (fun k J hk hJ => rz_getf_ok (pc := 1) (own := RX11) (ref := "ThreadJudge") (C := RX11) (T := TX11) (N := 16) (ci := 13) (index := 52) (f := 9) (t := 2) (Ts := Cond.code yX11_calls cX11_calls 4 (some .int) :: rz_TB) hx hb hts rz_in13 ho hK rfl (by decide) rfl (fun _ => rfl) (hw (i := 0) (j := 1) rfl rfl) (fun _ z => z) dX11_calls_1 hk) ?_
  refine rz_All_c (i := 2) (fun k J hk hJ => rz_getf_ok (pc := 4) (own := RX11) (ref := "ThreadJudge$Flow") (C := RX2) (T := TX2) (N := 22) (ci := 4) (index := 122) (f := 1) (t := 0) (Ts := Cond.code yX11_calls cX11_calls 4 (some .int) :: rz_TB) hx hb hts rz_in4 ho hK rfl (by decide) rfl (fun _ => rfl) (hw (i := 0) (j := 2) rfl rfl) (fun _ z => z) dX11_calls_4 hk) ?_
  refine rz_All_c (i := 3) (fun k J hk hJ => rz_ifeq_ok (pc := 7) hx hb dX11_calls_7 rfl hk (hJ 5)) ?_
  refine rz_All_c (i := 4) (fun k J hk hJ => rz_no_ok) ?_
  refine rz_All_c (i := 5) (fun k J hk hJ => rz_iconst_ok (pc := 18) hx hb dX11_calls_18 rfl hk) ?_
  refine rz_All_c (i := 6) (fun k J hk hJ => rz_iret_ok (pc := 19) hC dX11_calls_19) ?_
  exact trivial
theorem dX12_calls_0 : decode cX12_calls 0 = .ok (.aload_n 0, 1) := by decide +kernel
theorem dX12_calls_1 : decode cX12_calls 1 = .ok (.getfield 1004, 3) := by decide +kernel
theorem dX12_calls_4 : decode cX12_calls 4 = .ok (.ifCond .eq 11, 3) := by decide +kernel
theorem dX12_calls_15 : decode cX12_calls 15 = .ok (.iconst (-1), 1) := by decide +kernel
theorem dX12_calls_16 : decode cX12_calls 16 = .ok (.ireturn, 1) := by decide +kernel
def rpX12_calls : List Nat := [0, 1, 4, 7, 15, 16]
noncomputable def rcX12_calls : List rz_B := [rz_aload 0, rz_getf (Nat.add (Nat.mul 256 14) 1) 103 rz_i, rz_ifeq 4, rz_no, rz_cst 4294967295, rz_iret]
noncomputable def rgX12_calls : rz_L → rz_M → rz_Z → Bool := rz_go rcX12_calls 4 1000000
def rrX12_calls : Room := { frames := 0, cells := 0, slots := 0, locals := 0 }
theorem rmX12_calls (l : Launch) {G : rz_G} (hG : rz_Gd G) (vs : rz_L) (M : rz_M) (Z : rz_Z) (hn : vs.length = 4) (h : rgX12_calls vs M Z = true) : Met l yX12_calls (Cond.code yX12_calls cX12_calls 4 (some .int) :: rz_TB) rrX12_calls (rz_Pre G vs M) (rz_Qi G M.2 Z) 0 0 (fun q => rz_b G ≤ q) := by
  obtain ⟨D, tc, ad, b, xs, rfl⟩ := id hG
  refine rz_body (pcs := rpX12_calls) (by decide) rfl (by rw [hn]; decide) h ?_
  intro p e R s m args below meth c hC
  obtain ⟨hx, hb, hml, hr, hlk, ho, hts, hKn, hRm⟩ := id hC
  obtain ⟨hK, hA, hSt⟩ := id hKn
  have hw : ∀ {i j : Nat} {ws : List Cond} {w : Cond}, rz_WW[i]? = some ws → ws[j]? = some w → w.before args s = true := fun h1 h2 => hts _ (List.mem_cons_of_mem _ (rz_mem h1 h2))
  refine rz_All_c (i := 0) (fun k J hk hJ => rz_aload_n_ok (pc := 0) hx hb dX12_calls_0 rfl hk) ?_
  refine rz_All_c (i := 1) (fun k J hk hJ => rz_getf_ok (pc := 1) (own := RX12) (ref := "ThreadJudgeModel") (C := RX12) (T := TX12) (N := 257) (ci := 14) (index := 1004) (f := 103) (t := 0) (Ts := Cond.code yX12_calls cX12_calls 4 (some .int) :: rz_TB) hx hb hts rz_in14 ho hK rfl (by decide) rfl (fun _ => rfl) (hw (i := 32) (j := 1) rfl rfl) (fun _ z => z) dX12_calls_1 hk) ?_
  refine rz_All_c (i := 2) (fun k J hk hJ => rz_ifeq_ok (pc := 4) hx hb dX12_calls_4 rfl hk (hJ 4)) ?_
  refine rz_All_c (i := 3) (fun k J hk hJ => rz_no_ok) ?_
  refine rz_All_c (i := 4) (fun k J hk hJ => rz_iconst_ok (pc := 15) hx hb dX12_calls_15 rfl hk) ?_
  refine rz_All_c (i := 5) (fun k J hk hJ => rz_iret_ok (pc := 16) hC dX12_calls_16) ?_
  exact trivial
theorem dX11_reached_0 : decode cX11_reached 0 = .ok (.aload_n 0, 1) := by decide +kernel
theorem dX11_reached_1 : decode cX11_reached 1 = .ok (.getfield 52, 3) := by decide +kernel
theorem dX11_reached_4 : decode cX11_reached 4 = .ok (.getfield 122, 3) := by decide +kernel
theorem dX11_reached_7 : decode cX11_reached 7 = .ok (.ifCond .eq 20, 3) := by decide +kernel
theorem dX11_reached_27 : decode cX11_reached 27 = .ok (.iconst (-1), 1) := by decide +kernel
theorem dX11_reached_28 : decode cX11_reached 28 = .ok (.ireturn, 1) := by decide +kernel
def rpX11_reached : List Nat := [0, 1, 4, 7, 10, 27, 28]
noncomputable def rcX11_reached : List rz_B := [rz_aload 0, rz_getf (Nat.add (Nat.mul 256 13) 1) 9 rz_r, rz_getf (Nat.add (Nat.mul 256 4) 1) 1 rz_i, rz_ifeq 5, rz_no, rz_cst 4294967295, rz_iret]
noncomputable def rgX11_reached : rz_L → rz_M → rz_Z → Bool := rz_go rcX11_reached 3 1000000
def rrX11_reached : Room := { frames := 0, cells := 0, slots := 0, locals := 0 }
theorem rmX11_reached (l : Launch) {G : rz_G} (hG : rz_Gd G) (vs : rz_L) (M : rz_M) (Z : rz_Z) (hn : vs.length = 3) (h : rgX11_reached vs M Z = true) : Met l yX11_reached (Cond.code yX11_reached cX11_reached 3 (some .int) :: rz_TB) rrX11_reached (rz_Pre G vs M) (rz_Qi G M.2 Z) 0 0 (fun q => rz_b G ≤ q) := by
  obtain ⟨D, tc, ad, b, xs, rfl⟩ := id hG
  refine rz_body (pcs := rpX11_reached) (by decide) rfl (by rw [hn]; decide) h ?_
  intro p e R s m args below meth c hC
  obtain ⟨hx, hb, hml, hr, hlk, ho, hts, hKn, hRm⟩ := id hC
  obtain ⟨hK, hA, hSt⟩ := id hKn
  have hw : ∀ {i j : Nat} {ws : List Cond} {w : Cond}, rz_WW[i]? = some ws → ws[j]? = some w → w.before args s = true := fun h1 h2 => hts _ (List.mem_cons_of_mem _ (rz_mem h1 h2))
  refine rz_All_c (i := 0) (fun k J hk hJ => rz_aload_n_ok (pc := 0) hx hb dX11_reached_0 rfl hk) ?_
  refine rz_All_c (i := 1) (fun k J hk hJ => rz_getf_ok (pc := 1) (own := RX11) (ref := "ThreadJudge") (C := RX11) (T := TX11) (N := 16) (ci := 13) (index := 52) (f := 9) (t := 2) (Ts := Cond.code yX11_reached cX11_reached 3 (some .int) :: rz_TB) hx hb hts rz_in13 ho hK rfl (by decide) rfl (fun _ => rfl) (hw (i := 0) (j := 1) rfl rfl) (fun _ z => z) dX11_reached_1 hk) ?_
  refine rz_All_c (i := 2) (fun k J hk hJ => rz_getf_ok (pc := 4) (own := RX11) (ref := "ThreadJudge$Flow") (C := RX2) (T := TX2) (N := 22) (ci := 4) (index := 122) (f := 1) (t := 0) (Ts := Cond.code yX11_reached cX11_reached 3 (some .int) :: rz_TB) hx hb hts rz_in4 ho hK rfl (by decide) rfl (fun _ => rfl) (hw (i := 0) (j := 2) rfl rfl) (fun _ z => z) dX11_reached_4 hk) ?_
  refine rz_All_c (i := 3) (fun k J hk hJ => rz_ifeq_ok (pc := 7) hx hb dX11_reached_7 rfl hk (hJ 5)) ?_
  refine rz_All_c (i := 4) (fun k J hk hJ => rz_no_ok) ?_
  refine rz_All_c (i := 5) (fun k J hk hJ => rz_iconst_ok (pc := 27) hx hb dX11_reached_27 rfl hk) ?_
  refine rz_All_c (i := 6) (fun k J hk hJ => rz_iret_ok (pc := 28) hC dX11_reached_28) ?_
  exact trivial
