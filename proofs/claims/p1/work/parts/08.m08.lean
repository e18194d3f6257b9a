/-! Methods: handlers, facts, contracts. -/
theorem dX12_classNamed_0 : decode cX12_classNamed 0 = .ok (.iconst 0, 1) := by decide +kernel
theorem dX12_classNamed_1 : decode cX12_classNamed 1 = .ok (.istore_n 3, 1) := by decide +kernel
theorem dX12_classNamed_2 : decode cX12_classNamed 2 = .ok (.iload_n 3, 1) := by decide +kernel
theorem dX12_classNamed_3 : decode cX12_classNamed 3 = .ok (.aload_n 0, 1) := by decide +kernel
theorem dX12_classNamed_4 : decode cX12_classNamed 4 = .ok (.getfield 684, 3) := by decide +kernel
theorem dX12_classNamed_7 : decode cX12_classNamed 7 = .ok (.if_icmp .ge 32, 3) := by decide +kernel
theorem dX12_classNamed_10 : decode cX12_classNamed 10 = .ok (.aload_n 0, 1) := by decide +kernel
theorem dX12_classNamed_11 : decode cX12_classNamed 11 = .ok (.aload_n 0, 1) := by decide +kernel
theorem dX12_classNamed_12 : decode cX12_classNamed 12 = .ok (.getfield 20, 3) := by decide +kernel
theorem dX12_classNamed_15 : decode cX12_classNamed 15 = .ok (.iload_n 3, 1) := by decide +kernel
theorem dX12_classNamed_16 : decode cX12_classNamed 16 = .ok (.iaload, 1) := by decide +kernel
theorem dX12_classNamed_17 : decode cX12_classNamed 17 = .ok (.aload_n 0, 1) := by decide +kernel
theorem dX12_classNamed_18 : decode cX12_classNamed 18 = .ok (.getfield 23, 3) := by decide +kernel
theorem dX12_classNamed_21 : decode cX12_classNamed 21 = .ok (.iload_n 3, 1) := by decide +kernel
theorem dX12_classNamed_22 : decode cX12_classNamed 22 = .ok (.iaload, 1) := by decide +kernel
theorem dX12_classNamed_23 : decode cX12_classNamed 23 = .ok (.iload_n 1, 1) := by decide +kernel
theorem dX12_classNamed_24 : decode cX12_classNamed 24 = .ok (.iload_n 2, 1) := by decide +kernel
theorem dX12_classNamed_25 : decode cX12_classNamed 25 = .ok (.invokevirtual 734, 3) := by decide +kernel
theorem dX12_classNamed_28 : decode cX12_classNamed 28 = .ok (.ifCond .eq 5, 3) := by decide +kernel
theorem dX12_classNamed_31 : decode cX12_classNamed 31 = .ok (.iload_n 3, 1) := by decide +kernel
theorem dX12_classNamed_32 : decode cX12_classNamed 32 = .ok (.ireturn, 1) := by decide +kernel
theorem dX12_classNamed_33 : decode cX12_classNamed 33 = .ok (.iinc 3 1, 3) := by decide +kernel
theorem dX12_classNamed_36 : decode cX12_classNamed 36 = .ok (.goto (-34), 3) := by decide +kernel
def rpX12_classNamed : List Nat := [0, 1, 2, 3, 4, 7, 10, 11, 12, 15, 16, 17, 18, 21, 22, 23, 24, 25, 28, 31, 32, 33, 36, 39]
noncomputable def rcX12_classNamed : List rz_B := [rz_cst 0, rz_istore 3, rz_iload 3, rz_aload 0, rz_getf (Nat.add (Nat.mul 256 14) 1) 13 rz_i, rz_icmpge 23, rz_aload 0, rz_aload 0, rz_getf (Nat.add (Nat.mul 256 14) 1) 14 rz_r, rz_iload 3, rz_iald, rz_aload 0, rz_getf (Nat.add (Nat.mul 256 14) 1) 15 rz_r, rz_iload 3, rz_iald, rz_iload 1, rz_iload 2, rz_callV 4 (Nat.add (Nat.mul 256 14) 1) rgX12_isSame, rz_ifeq 21, rz_iload 3, rz_iret, rz_iinc 3 1, rz_goto 2, rz_no]
noncomputable def rgX12_classNamed : rz_L → rz_M → rz_Z → Bool := rz_go rcX12_classNamed 4 1000000
def rrX12_classNamed : Room := { frames := 1, cells := 0, slots := 0, locals := 26 }
theorem rmX12_classNamed (l : Launch) {G : rz_G} (hG : rz_Gd G) (vs : rz_L) (M : rz_M) (Z : rz_Z) (hn : vs.length = 3) (h : rgX12_classNamed vs M Z = true) : Met l yX12_classNamed (Cond.code yX12_classNamed cX12_classNamed 4 (some .int) :: rz_TB) rrX12_classNamed (rz_Pre G vs M) (rz_Qi G M.2 Z) 0 0 (fun q => rz_b G ≤ q) := by
  obtain ⟨D, tc, ad, b, xs, rfl⟩ := id hG
  refine rz_body (pcs := rpX12_classNamed) (by decide) rfl (by rw [hn]; decide) h ?_
  intro p e R s m args below meth c hC
  obtain ⟨hx, hb, hml, hr, hlk, ho, hts, hKn, hRm⟩ := id hC
  obtain ⟨hK, hA, hSt⟩ := id hKn
  have hw : ∀ {i j : Nat} {ws : List Cond} {w : Cond}, rz_WW[i]? = some ws → ws[j]? = some w → w.before args s = true := fun h1 h2 => hts _ (List.mem_cons_of_mem _ (rz_mem h1 h2))
  refine rz_All_c (i := 0) (fun k J hk hJ => rz_iconst_ok (pc := 0) hx hb dX12_classNamed_0 rfl hk) ?_
  refine rz_All_c (i := 1) (fun k J hk hJ => rz_istore_n_ok (pc := 1) hx hb dX12_classNamed_1 rfl hk) ?_
  refine rz_All_c (i := 2) (fun k J hk hJ => rz_iload_n_ok (pc := 2) hx hb dX12_classNamed_2 rfl hk) ?_
  refine rz_All_c (i := 3) (fun k J hk hJ => rz_aload_n_ok (pc := 3) hx hb dX12_classNamed_3 rfl hk) ?_
  refine rz_All_c (i := 4) (fun k J hk hJ => rz_getf_ok (pc := 4) (own := RX12) (ref := "ThreadJudgeModel") (C := RX12) (T := TX12) (N := 257) (ci := 14) (index := 684) (f := 13) (t := 0) (Ts := Cond.code yX12_classNamed cX12_classNamed 4 (some .int) :: rz_TB) hx hb hts rz_in14 ho hK rfl (by decide) rfl (fun _ => rfl) (hw (i := 32) (j := 17) rfl rfl) (fun _ z => z) dX12_classNamed_4 hk) ?_
  refine rz_All_c (i := 5) (fun k J hk hJ => rz_icmpge_ok (pc := 7) hx hb dX12_classNamed_7 rfl hk (hJ 23)) ?_
  refine rz_All_c (i := 6) (fun k J hk hJ => rz_aload_n_ok (pc := 10) hx hb dX12_classNamed_10 rfl hk) ?_
  refine rz_All_c (i := 7) (fun k J hk hJ => rz_aload_n_ok (pc := 11) hx hb dX12_classNamed_11 rfl hk) ?_
  refine rz_All_c (i := 8) (fun k J hk hJ => rz_getf_ok (pc := 12) (own := RX12) (ref := "ThreadJudgeModel") (C := RX12) (T := TX12) (N := 257) (ci := 14) (index := 20) (f := 14) (t := 2) (Ts := Cond.code yX12_classNamed cX12_classNamed 4 (some .int) :: rz_TB) hx hb hts rz_in14 ho hK rfl (by decide) rfl (fun _ => rfl) (hw (i := 36) (j := 10) rfl rfl) (fun _ z => z) dX12_classNamed_12 hk) ?_
  refine rz_All_c (i := 9) (fun k J hk hJ => rz_iload_n_ok (pc := 15) hx hb dX12_classNamed_15 rfl hk) ?_
  refine rz_All_c (i := 10) (fun k J hk hJ => rz_iald_ok (pc := 16) hx hb hK dX12_classNamed_16 hk) ?_
  refine rz_All_c (i := 11) (fun k J hk hJ => rz_aload_n_ok (pc := 17) hx hb dX12_classNamed_17 rfl hk) ?_
  refine rz_All_c (i := 12) (fun k J hk hJ => rz_getf_ok (pc := 18) (own := RX12) (ref := "ThreadJudgeModel") (C := RX12) (T := TX12) (N := 257) (ci := 14) (index := 23) (f := 15) (t := 2) (Ts := Cond.code yX12_classNamed cX12_classNamed 4 (some .int) :: rz_TB) hx hb hts rz_in14 ho hK rfl (by decide) rfl (fun _ => rfl) (hw (i := 36) (j := 12) rfl rfl) (fun _ z => z) dX12_classNamed_18 hk) ?_
  refine rz_All_c (i := 13) (fun k J hk hJ => rz_iload_n_ok (pc := 21) hx hb dX12_classNamed_21 rfl hk) ?_
  refine rz_All_c (i := 14) (fun k J hk hJ => rz_iald_ok (pc := 22) hx hb hK dX12_classNamed_22 hk) ?_
  refine rz_All_c (i := 15) (fun k J hk hJ => rz_iload_n_ok (pc := 23) hx hb dX12_classNamed_23 rfl hk) ?_
  refine rz_All_c (i := 16) (fun k J hk hJ => rz_iload_n_ok (pc := 24) hx hb dX12_classNamed_24 rfl hk) ?_
  refine rz_All_c (i := 17) (fun k J hk hJ => rz_callV_ok (pc := 25) (own := RX12) (C := RX12) (T0 := TX12) (N0 := 257) hC rfl (rmX12_isSame l hG) (rz_cwV 4 hC rz_good (rz_mem (i := 41) (j := 16) rfl rfl) (rz_mem (i := 41) (j := 17) rfl rfl) (rz_mem (i := 41) (j := 18) rfl rfl) (rz_mem (i := 32) (j := 8) rfl rfl) (rz_mem (i := 41) (j := 19) rfl rfl) ⟨rfl, by decide, by decide, by decide +kernel⟩ rfl rfl ⟨by decide, by decide⟩) rfl dX12_classNamed_25 hk) ?_
  refine rz_All_c (i := 18) (fun k J hk hJ => rz_ifeq_ok (pc := 28) hx hb dX12_classNamed_28 rfl hk (hJ 21)) ?_
  refine rz_All_c (i := 19) (fun k J hk hJ => rz_iload_n_ok (pc := 31) hx hb dX12_classNamed_31 rfl hk) ?_
  refine rz_All_c (i := 20) (fun k J hk hJ => rz_iret_ok (pc := 32) hC dX12_classNamed_32) ?_
  refine rz_All_c (i := 21) (fun k J hk hJ => rz_iinc_ok (pc := 33) hx hb dX12_classNamed_33 (by decide) hk) ?_
  refine rz_All_c (i := 22) (fun k J hk hJ => rz_goto_ok (pc := 36) hx hb dX12_classNamed_36 rfl (hJ 2)) ?_
  refine rz_All_c (i := 23) (fun k J hk hJ => rz_no_ok) ?_
  exact trivial
theorem dX12_closeBelow_0 : decode cX12_closeBelow 0 = .ok (.iconst 0, 1) := by decide +kernel
theorem dX12_closeBelow_1 : decode cX12_closeBelow 1 = .ok (.istore_n 1, 1) := by decide +kernel
theorem dX12_closeBelow_2 : decode cX12_closeBelow 2 = .ok (.iload_n 1, 1) := by decide +kernel
theorem dX12_closeBelow_3 : decode cX12_closeBelow 3 = .ok (.aload_n 0, 1) := by decide +kernel
theorem dX12_closeBelow_4 : decode cX12_closeBelow 4 = .ok (.getfield 684, 3) := by decide +kernel
theorem dX12_closeBelow_7 : decode cX12_closeBelow 7 = .ok (.if_icmp .ge 46, 3) := by decide +kernel
theorem dX12_closeBelow_10 : decode cX12_closeBelow 10 = .ok (.iconst 0, 1) := by decide +kernel
theorem dX12_closeBelow_11 : decode cX12_closeBelow 11 = .ok (.istore_n 2, 1) := by decide +kernel
theorem dX12_closeBelow_12 : decode cX12_closeBelow 12 = .ok (.iload_n 2, 1) := by decide +kernel
theorem dX12_closeBelow_13 : decode cX12_closeBelow 13 = .ok (.aload_n 0, 1) := by decide +kernel
theorem dX12_closeBelow_14 : decode cX12_closeBelow 14 = .ok (.getfield 684, 3) := by decide +kernel
theorem dX12_closeBelow_17 : decode cX12_closeBelow 17 = .ok (.if_icmp .ge 30, 3) := by decide +kernel
theorem dX12_closeBelow_20 : decode cX12_closeBelow 20 = .ok (.aload_n 0, 1) := by decide +kernel
theorem dX12_closeBelow_21 : decode cX12_closeBelow 21 = .ok (.getfield 171, 3) := by decide +kernel
theorem dX12_closeBelow_24 : decode cX12_closeBelow 24 = .ok (.bipush 43, 2) := by decide +kernel
theorem dX12_closeBelow_26 : decode cX12_closeBelow 26 = .ok (.iload_n 1, 1) := by decide +kernel
theorem dX12_closeBelow_27 : decode cX12_closeBelow 27 = .ok (.imul, 1) := by decide +kernel
theorem dX12_closeBelow_28 : decode cX12_closeBelow 28 = .ok (.iload_n 2, 1) := by decide +kernel
theorem dX12_closeBelow_29 : decode cX12_closeBelow 29 = .ok (.iadd, 1) := by decide +kernel
theorem dX12_closeBelow_30 : decode cX12_closeBelow 30 = .ok (.iload_n 1, 1) := by decide +kernel
theorem dX12_closeBelow_31 : decode cX12_closeBelow 31 = .ok (.iload_n 2, 1) := by decide +kernel
theorem dX12_closeBelow_32 : decode cX12_closeBelow 32 = .ok (.if_icmp .ne 7, 3) := by decide +kernel
theorem dX12_closeBelow_35 : decode cX12_closeBelow 35 = .ok (.iconst 1, 1) := by decide +kernel
theorem dX12_closeBelow_36 : decode cX12_closeBelow 36 = .ok (.goto 4, 3) := by decide +kernel
theorem dX12_closeBelow_39 : decode cX12_closeBelow 39 = .ok (.iconst 0, 1) := by decide +kernel
theorem dX12_closeBelow_40 : decode cX12_closeBelow 40 = .ok (.bastore, 1) := by decide +kernel
theorem dX12_closeBelow_41 : decode cX12_closeBelow 41 = .ok (.iinc 2 1, 3) := by decide +kernel
theorem dX12_closeBelow_44 : decode cX12_closeBelow 44 = .ok (.goto (-32), 3) := by decide +kernel
theorem dX12_closeBelow_47 : decode cX12_closeBelow 47 = .ok (.iinc 1 1, 3) := by decide +kernel
theorem dX12_closeBelow_50 : decode cX12_closeBelow 50 = .ok (.goto (-48), 3) := by decide +kernel
theorem dX12_closeBelow_53 : decode cX12_closeBelow 53 = .ok (.iconst 1, 1) := by decide +kernel
theorem dX12_closeBelow_54 : decode cX12_closeBelow 54 = .ok (.istore_n 1, 1) := by decide +kernel
theorem dX12_closeBelow_55 : decode cX12_closeBelow 55 = .ok (.iload_n 1, 1) := by decide +kernel
theorem dX12_closeBelow_56 : decode cX12_closeBelow 56 = .ok (.ifCond .eq 181, 3) := by decide +kernel
theorem dX12_closeBelow_59 : decode cX12_closeBelow 59 = .ok (.iconst 0, 1) := by decide +kernel
theorem dX12_closeBelow_60 : decode cX12_closeBelow 60 = .ok (.istore_n 1, 1) := by decide +kernel
theorem dX12_closeBelow_61 : decode cX12_closeBelow 61 = .ok (.iconst 0, 1) := by decide +kernel
theorem dX12_closeBelow_62 : decode cX12_closeBelow 62 = .ok (.istore_n 2, 1) := by decide +kernel
theorem dX12_closeBelow_63 : decode cX12_closeBelow 63 = .ok (.iload_n 2, 1) := by decide +kernel
theorem dX12_closeBelow_64 : decode cX12_closeBelow 64 = .ok (.aload_n 0, 1) := by decide +kernel
theorem dX12_closeBelow_65 : decode cX12_closeBelow 65 = .ok (.getfield 684, 3) := by decide +kernel
theorem dX12_closeBelow_68 : decode cX12_closeBelow 68 = .ok (.if_icmp .ge 166, 3) := by decide +kernel
theorem dX12_closeBelow_71 : decode cX12_closeBelow 71 = .ok (.iconst (-1), 1) := by decide +kernel
theorem dX12_closeBelow_72 : decode cX12_closeBelow 72 = .ok (.istore_n 3, 1) := by decide +kernel
theorem dX12_closeBelow_73 : decode cX12_closeBelow 73 = .ok (.iload_n 3, 1) := by decide +kernel
theorem dX12_closeBelow_74 : decode cX12_closeBelow 74 = .ok (.aload_n 0, 1) := by decide +kernel
theorem dX12_closeBelow_75 : decode cX12_closeBelow 75 = .ok (.getfield 42, 3) := by decide +kernel
theorem dX12_closeBelow_78 : decode cX12_closeBelow 78 = .ok (.iload_n 2, 1) := by decide +kernel
theorem dX12_closeBelow_79 : decode cX12_closeBelow 79 = .ok (.iaload, 1) := by decide +kernel
theorem dX12_closeBelow_80 : decode cX12_closeBelow 80 = .ok (.if_icmp .ge 148, 3) := by decide +kernel
theorem dX12_closeBelow_83 : decode cX12_closeBelow 83 = .ok (.iload_n 3, 1) := by decide +kernel
theorem dX12_closeBelow_84 : decode cX12_closeBelow 84 = .ok (.ifCond .ge 12, 3) := by decide +kernel
theorem dX12_closeBelow_87 : decode cX12_closeBelow 87 = .ok (.aload_n 0, 1) := by decide +kernel
theorem dX12_closeBelow_88 : decode cX12_closeBelow 88 = .ok (.getfield 165, 3) := by decide +kernel
theorem dX12_closeBelow_91 : decode cX12_closeBelow 91 = .ok (.iload_n 2, 1) := by decide +kernel
theorem dX12_closeBelow_92 : decode cX12_closeBelow 92 = .ok (.iaload, 1) := by decide +kernel
theorem dX12_closeBelow_93 : decode cX12_closeBelow 93 = .ok (.goto 14, 3) := by decide +kernel
theorem dX12_closeBelow_96 : decode cX12_closeBelow 96 = .ok (.aload_n 0, 1) := by decide +kernel
theorem dX12_closeBelow_97 : decode cX12_closeBelow 97 = .ok (.getfield 168, 3) := by decide +kernel
theorem dX12_closeBelow_100 : decode cX12_closeBelow 100 = .ok (.bipush 6, 2) := by decide +kernel
theorem dX12_closeBelow_102 : decode cX12_closeBelow 102 = .ok (.iload_n 2, 1) := by decide +kernel
theorem dX12_closeBelow_103 : decode cX12_closeBelow 103 = .ok (.imul, 1) := by decide +kernel
theorem dX12_closeBelow_104 : decode cX12_closeBelow 104 = .ok (.iload_n 3, 1) := by decide +kernel
theorem dX12_closeBelow_105 : decode cX12_closeBelow 105 = .ok (.iadd, 1) := by decide +kernel
theorem dX12_closeBelow_106 : decode cX12_closeBelow 106 = .ok (.iaload, 1) := by decide +kernel
theorem dX12_closeBelow_107 : decode cX12_closeBelow 107 = .ok (.istore 4, 2) := by decide +kernel
theorem dX12_closeBelow_109 : decode cX12_closeBelow 109 = .ok (.iconst 0, 1) := by decide +kernel
theorem dX12_closeBelow_110 : decode cX12_closeBelow 110 = .ok (.istore 5, 2) := by decide +kernel
theorem dX12_closeBelow_112 : decode cX12_closeBelow 112 = .ok (.iload 5, 2) := by decide +kernel
theorem dX12_closeBelow_114 : decode cX12_closeBelow 114 = .ok (.aload_n 0, 1) := by decide +kernel
theorem dX12_closeBelow_115 : decode cX12_closeBelow 115 = .ok (.getfield 684, 3) := by decide +kernel
theorem dX12_closeBelow_118 : decode cX12_closeBelow 118 = .ok (.if_icmp .ge 104, 3) := by decide +kernel
theorem dX12_closeBelow_121 : decode cX12_closeBelow 121 = .ok (.iload 4, 2) := by decide +kernel
theorem dX12_closeBelow_123 : decode cX12_closeBelow 123 = .ok (.ifCond .lt 99, 3) := by decide +kernel
theorem dX12_closeBelow_126 : decode cX12_closeBelow 126 = .ok (.aload_n 0, 1) := by decide +kernel
theorem dX12_closeBelow_127 : decode cX12_closeBelow 127 = .ok (.getfield 171, 3) := by decide +kernel
theorem dX12_closeBelow_130 : decode cX12_closeBelow 130 = .ok (.bipush 43, 2) := by decide +kernel
theorem dX12_closeBelow_132 : decode cX12_closeBelow 132 = .ok (.iload 4, 2) := by decide +kernel
theorem dX12_closeBelow_134 : decode cX12_closeBelow 134 = .ok (.imul, 1) := by decide +kernel
theorem dX12_closeBelow_135 : decode cX12_closeBelow 135 = .ok (.iload 5, 2) := by decide +kernel
theorem dX12_closeBelow_137 : decode cX12_closeBelow 137 = .ok (.iadd, 1) := by decide +kernel
theorem dX12_closeBelow_138 : decode cX12_closeBelow 138 = .ok (.baload, 1) := by decide +kernel
theorem dX12_closeBelow_139 : decode cX12_closeBelow 139 = .ok (.ifCond .eq 22, 3) := by decide +kernel
theorem dX12_closeBelow_142 : decode cX12_closeBelow 142 = .ok (.aload_n 0, 1) := by decide +kernel
theorem dX12_closeBelow_143 : decode cX12_closeBelow 143 = .ok (.getfield 171, 3) := by decide +kernel
theorem dX12_closeBelow_146 : decode cX12_closeBelow 146 = .ok (.bipush 43, 2) := by decide +kernel
theorem dX12_closeBelow_148 : decode cX12_closeBelow 148 = .ok (.iload_n 2, 1) := by decide +kernel
theorem dX12_closeBelow_149 : decode cX12_closeBelow 149 = .ok (.imul, 1) := by decide +kernel
theorem dX12_closeBelow_150 : decode cX12_closeBelow 150 = .ok (.iload 5, 2) := by decide +kernel
theorem dX12_closeBelow_152 : decode cX12_closeBelow 152 = .ok (.iadd, 1) := by decide +kernel
theorem dX12_closeBelow_153 : decode cX12_closeBelow 153 = .ok (.baload, 1) := by decide +kernel
theorem dX12_closeBelow_154 : decode cX12_closeBelow 154 = .ok (.ifCond .ne 7, 3) := by decide +kernel
theorem dX12_closeBelow_157 : decode cX12_closeBelow 157 = .ok (.iconst 1, 1) := by decide +kernel
theorem dX12_closeBelow_158 : decode cX12_closeBelow 158 = .ok (.goto 4, 3) := by decide +kernel
theorem dX12_closeBelow_161 : decode cX12_closeBelow 161 = .ok (.iconst 0, 1) := by decide +kernel
theorem dX12_closeBelow_162 : decode cX12_closeBelow 162 = .ok (.istore 6, 2) := by decide +kernel
theorem dX12_closeBelow_164 : decode cX12_closeBelow 164 = .ok (.aload_n 0, 1) := by decide +kernel
theorem dX12_closeBelow_165 : decode cX12_closeBelow 165 = .ok (.getfield 171, 3) := by decide +kernel
theorem dX12_closeBelow_168 : decode cX12_closeBelow 168 = .ok (.bipush 43, 2) := by decide +kernel
theorem dX12_closeBelow_170 : decode cX12_closeBelow 170 = .ok (.iload_n 2, 1) := by decide +kernel
theorem dX12_closeBelow_171 : decode cX12_closeBelow 171 = .ok (.imul, 1) := by decide +kernel
theorem dX12_closeBelow_172 : decode cX12_closeBelow 172 = .ok (.iload 5, 2) := by decide +kernel
theorem dX12_closeBelow_174 : decode cX12_closeBelow 174 = .ok (.iadd, 1) := by decide +kernel
theorem dX12_closeBelow_175 : decode cX12_closeBelow 175 = .ok (.iload 6, 2) := by decide +kernel
theorem dX12_closeBelow_177 : decode cX12_closeBelow 177 = .ok (.ifCond .ne 18, 3) := by decide +kernel
theorem dX12_closeBelow_180 : decode cX12_closeBelow 180 = .ok (.aload_n 0, 1) := by decide +kernel
theorem dX12_closeBelow_181 : decode cX12_closeBelow 181 = .ok (.getfield 171, 3) := by decide +kernel
theorem dX12_closeBelow_184 : decode cX12_closeBelow 184 = .ok (.bipush 43, 2) := by decide +kernel
theorem dX12_closeBelow_186 : decode cX12_closeBelow 186 = .ok (.iload_n 2, 1) := by decide +kernel
theorem dX12_closeBelow_187 : decode cX12_closeBelow 187 = .ok (.imul, 1) := by decide +kernel
theorem dX12_closeBelow_188 : decode cX12_closeBelow 188 = .ok (.iload 5, 2) := by decide +kernel
theorem dX12_closeBelow_190 : decode cX12_closeBelow 190 = .ok (.iadd, 1) := by decide +kernel
theorem dX12_closeBelow_191 : decode cX12_closeBelow 191 = .ok (.baload, 1) := by decide +kernel
theorem dX12_closeBelow_192 : decode cX12_closeBelow 192 = .ok (.ifCond .eq 7, 3) := by decide +kernel
theorem dX12_closeBelow_195 : decode cX12_closeBelow 195 = .ok (.iconst 1, 1) := by decide +kernel
theorem dX12_closeBelow_196 : decode cX12_closeBelow 196 = .ok (.goto 4, 3) := by decide +kernel
theorem dX12_closeBelow_199 : decode cX12_closeBelow 199 = .ok (.iconst 0, 1) := by decide +kernel
theorem dX12_closeBelow_200 : decode cX12_closeBelow 200 = .ok (.bastore, 1) := by decide +kernel
theorem dX12_closeBelow_201 : decode cX12_closeBelow 201 = .ok (.iload_n 1, 1) := by decide +kernel
theorem dX12_closeBelow_202 : decode cX12_closeBelow 202 = .ok (.ifCond .ne 8, 3) := by decide +kernel
theorem dX12_closeBelow_205 : decode cX12_closeBelow 205 = .ok (.iload 6, 2) := by decide +kernel
theorem dX12_closeBelow_207 : decode cX12_closeBelow 207 = .ok (.ifCond .eq 7, 3) := by decide +kernel
theorem dX12_closeBelow_210 : decode cX12_closeBelow 210 = .ok (.iconst 1, 1) := by decide +kernel
theorem dX12_closeBelow_211 : decode cX12_closeBelow 211 = .ok (.goto 4, 3) := by decide +kernel
theorem dX12_closeBelow_214 : decode cX12_closeBelow 214 = .ok (.iconst 0, 1) := by decide +kernel
theorem dX12_closeBelow_215 : decode cX12_closeBelow 215 = .ok (.istore_n 1, 1) := by decide +kernel
theorem dX12_closeBelow_216 : decode cX12_closeBelow 216 = .ok (.iinc 5 1, 3) := by decide +kernel
theorem dX12_closeBelow_219 : decode cX12_closeBelow 219 = .ok (.goto (-107), 3) := by decide +kernel
theorem dX12_closeBelow_222 : decode cX12_closeBelow 222 = .ok (.iinc 3 1, 3) := by decide +kernel
theorem dX12_closeBelow_225 : decode cX12_closeBelow 225 = .ok (.goto (-152), 3) := by decide +kernel
theorem dX12_closeBelow_228 : decode cX12_closeBelow 228 = .ok (.iinc 2 1, 3) := by decide +kernel
theorem dX12_closeBelow_231 : decode cX12_closeBelow 231 = .ok (.goto (-168), 3) := by decide +kernel
theorem dX12_closeBelow_234 : decode cX12_closeBelow 234 = .ok (.goto (-179), 3) := by decide +kernel
theorem dX12_closeBelow_237 : decode cX12_closeBelow 237 = .ok (.return_, 1) := by decide +kernel
def rpX12_closeBelow : List Nat := [0, 1, 2, 3, 4, 7, 10, 11, 12, 13, 14, 17, 20, 21, 24, 26, 27, 28, 29, 30, 31, 32, 35, 36, 39, 40, 41, 44, 47, 50, 53, 54, 55, 56, 59, 60, 61, 62, 63, 64, 65, 68, 71, 72, 73, 74, 75, 78, 79, 80, 83, 84, 87, 88, 91, 92, 93, 96, 97, 100, 102, 103, 104, 105, 106, 107, 109, 110, 112, 114, 115, 118, 121, 123, 126, 127, 130, 132, 134, 135, 137, 138, 139, 142, 143, 146, 148, 149, 150, 152, 153, 154, 157, 158, 161, 162, 164, 165, 168, 170, 171, 172, 174, 175, 177, 180, 181, 184, 186, 187, 188, 190, 191, 192, 195, 196, 199, 200, 201, 202, 205, 207, 210, 211, 214, 215, 216, 219, 222, 225, 228, 231, 234, 237]
noncomputable def rcX12_closeBelow : List rz_B := [rz_cst 0, rz_istore 1, rz_iload 1, rz_aload 0, rz_getf (Nat.add (Nat.mul 256 14) 1) 13 rz_i, rz_icmpge 30, rz_cst 0, rz_istore 2, rz_iload 2, rz_aload 0, rz_getf (Nat.add (Nat.mul 256 14) 1) 13 rz_i, rz_icmpge 28, rz_aload 0, rz_getf (Nat.add (Nat.mul 256 14) 1) 73 rz_r, rz_cst 43, rz_iload 1, rz_imul, rz_iload 2, rz_iadd, rz_iload 1, rz_iload 2, rz_icmpne 24, rz_cst 1, rz_goto 25, rz_cst 0, rz_zast, rz_iinc 2 1, rz_goto 8, rz_iinc 1 1, rz_goto 2, rz_cst 1, rz_istore 1, rz_iload 1, rz_ifeq 133, rz_cst 0, rz_istore 1, rz_cst 0, rz_istore 2, rz_iload 2, rz_aload 0, rz_getf (Nat.add (Nat.mul 256 14) 1) 13 rz_i, rz_icmpge 132, rz_cst 4294967295, rz_istore 3, rz_iload 3, rz_aload 0, rz_getf (Nat.add (Nat.mul 256 14) 1) 21 rz_r, rz_iload 2, rz_iald, rz_icmpge 130, rz_iload 3, rz_ifge 57, rz_aload 0, rz_getf (Nat.add (Nat.mul 256 14) 1) 71 rz_r, rz_iload 2, rz_iald, rz_goto 65, rz_aload 0, rz_getf (Nat.add (Nat.mul 256 14) 1) 72 rz_r, rz_cst 6, rz_iload 2, rz_imul, rz_iload 3, rz_iadd, rz_iald, rz_istore 4, rz_cst 0, rz_istore 5, rz_iload 5, rz_aload 0, rz_getf (Nat.add (Nat.mul 256 14) 1) 13 rz_i, rz_icmpge 128, rz_iload 4, rz_iflt 128, rz_aload 0, rz_getf (Nat.add (Nat.mul 256 14) 1) 73 rz_r, rz_cst 43, rz_iload 4, rz_imul, rz_iload 5, rz_iadd, rz_zald, rz_ifeq 94, rz_aload 0, rz_getf (Nat.add (Nat.mul 256 14) 1) 73 rz_r, rz_cst 43, rz_iload 2, rz_imul, rz_iload 5, rz_iadd, rz_zald, rz_ifne 94, rz_cst 1, rz_goto 95, rz_cst 0, rz_istore 6, rz_aload 0, rz_getf (Nat.add (Nat.mul 256 14) 1) 73 rz_r, rz_cst 43, rz_iload 2, rz_imul, rz_iload 5, rz_iadd, rz_iload 6, rz_ifne 114, rz_aload 0, rz_getf (Nat.add (Nat.mul 256 14) 1) 73 rz_r, rz_cst 43, rz_iload 2, rz_imul, rz_iload 5, rz_iadd, rz_zald, rz_ifeq 116, rz_cst 1, rz_goto 117, rz_cst 0, rz_zast, rz_iload 1, rz_ifne 122, rz_iload 6, rz_ifeq 124, rz_cst 1, rz_goto 125, rz_cst 0, rz_istore 1, rz_iinc 5 1, rz_goto 68, rz_iinc 3 1, rz_goto 44, rz_iinc 2 1, rz_goto 38, rz_goto 32, rz_vret]
noncomputable def rgX12_closeBelow : rz_L → rz_M → rz_Z → Bool := rz_go rcX12_closeBelow 7 1000000
def rrX12_closeBelow : Room := { frames := 0, cells := 0, slots := 0, locals := 0 }
theorem rmX12_closeBelow (l : Launch) {G : rz_G} (hG : rz_Gd G) (vs : rz_L) (M : rz_M) (Z : rz_Z) (hn : vs.length = 1) (h : rgX12_closeBelow vs M Z = true) : Met l yX12_closeBelow (Cond.code yX12_closeBelow cX12_closeBelow 7 none :: rz_TB) rrX12_closeBelow (rz_Pre G vs M) (rz_Qv G M.2 Z) 0 0 (fun q => rz_b G ≤ q) := by
  obtain ⟨D, tc, ad, b, xs, rfl⟩ := id hG
  refine rz_body (pcs := rpX12_closeBelow) (by decide) rfl (by rw [hn]; decide) h ?_
  intro p e R s m args below meth c hC
  obtain ⟨hx, hb, hml, hr, hlk, ho, hts, hKn, hRm⟩ := id hC
  obtain ⟨hK, hA, hSt⟩ := id hKn
  have hw : ∀ {i j : Nat} {ws : List Cond} {w : Cond}, rz_WW[i]? = some ws → ws[j]? = some w → w.before args s = true := fun h1 h2 => hts _ (List.mem_cons_of_mem _ (rz_mem h1 h2))
  refine rz_All_c (i := 0) (fun k J hk hJ => rz_iconst_ok (pc := 0) hx hb dX12_closeBelow_0 rfl hk) ?_
  refine rz_All_c (i := 1) (fun k J hk hJ => rz_istore_n_ok (pc := 1) hx hb dX12_closeBelow_1 rfl hk) ?_
  refine rz_All_c (i := 2) (fun k J hk hJ => rz_iload_n_ok (pc := 2) hx hb dX12_closeBelow_2 rfl hk) ?_
  refine rz_All_c (i := 3) (fun k J hk hJ => rz_aload_n_ok (pc := 3) hx hb dX12_closeBelow_3 rfl hk) ?_
  refine rz_All_c (i := 4) (fun k J hk hJ => rz_getf_ok (pc := 4) (own := RX12) (ref := "ThreadJudgeModel") (C := RX12) (T := TX12) (N := 257) (ci := 14) (index := 684) (f := 13) (t := 0) (Ts := Cond.code yX12_closeBelow cX12_closeBelow 7 none :: rz_TB) hx hb hts rz_in14 ho hK rfl (by decide) rfl (fun _ => rfl) (hw (i := 32) (j := 17) rfl rfl) (fun _ z => z) dX12_closeBelow_4 hk) ?_
  refine rz_All_c (i := 5) (fun k J hk hJ => rz_icmpge_ok (pc := 7) hx hb dX12_closeBelow_7 rfl hk (hJ 30)) ?_
  refine rz_All_c (i := 6) (fun k J hk hJ => rz_iconst_ok (pc := 10) hx hb dX12_closeBelow_10 rfl hk) ?_
  refine rz_All_c (i := 7) (fun k J hk hJ => rz_istore_n_ok (pc := 11) hx hb dX12_closeBelow_11 rfl hk) ?_
  refine rz_All_c (i := 8) (fun k J hk hJ => rz_iload_n_ok (pc := 12) hx hb dX12_closeBelow_12 rfl hk) ?_
  refine rz_All_c (i := 9) (fun k J hk hJ => rz_aload_n_ok (pc := 13) hx hb dX12_closeBelow_13 rfl hk) ?_
  refine rz_All_c (i := 10) (fun k J hk hJ => rz_getf_ok (pc := 14) (own := RX12) (ref := "ThreadJudgeModel") (C := RX12) (T := TX12) (N := 257) (ci := 14) (index := 684) (f := 13) (t := 0) (Ts := Cond.code yX12_closeBelow cX12_closeBelow 7 none :: rz_TB) hx hb hts rz_in14 ho hK rfl (by decide) rfl (fun _ => rfl) (hw (i := 32) (j := 17) rfl rfl) (fun _ z => z) dX12_closeBelow_14 hk) ?_
  refine rz_All_c (i := 11) (fun k J hk hJ => rz_icmpge_ok (pc := 17) hx hb dX12_closeBelow_17 rfl hk (hJ 28)) ?_
  refine rz_All_c (i := 12) (fun k J hk hJ => rz_aload_n_ok (pc := 20) hx hb dX12_closeBelow_20 rfl hk) ?_
  refine rz_All_c (i := 13) (fun k J hk hJ => rz_getf_ok (pc := 21) (own := RX12) (ref := "ThreadJudgeModel") (C := RX12) (T := TX12) (N := 257) (ci := 14) (index := 171) (f := 73) (t := 2) (Ts := Cond.code yX12_closeBelow cX12_closeBelow 7 none :: rz_TB) hx hb hts rz_in14 ho hK rfl (by decide) rfl (fun _ => rfl) (hw (i := 43) (j := 10) rfl rfl) (fun _ z => z) dX12_closeBelow_21 hk) ?_
  refine rz_All_c (i := 14) (fun k J hk hJ => rz_bipush_ok (pc := 24) hx hb dX12_closeBelow_24 (by decide) hk) ?_
  refine rz_All_c (i := 15) (fun k J hk hJ => rz_iload_n_ok (pc := 26) hx hb dX12_closeBelow_26 rfl hk) ?_
  refine rz_All_c (i := 16) (fun k J hk hJ => rz_imul_ok (pc := 27) hx hb dX12_closeBelow_27 hk) ?_
  refine rz_All_c (i := 17) (fun k J hk hJ => rz_iload_n_ok (pc := 28) hx hb dX12_closeBelow_28 rfl hk) ?_
  refine rz_All_c (i := 18) (fun k J hk hJ => rz_iadd_ok (pc := 29) hx hb dX12_closeBelow_29 hk) ?_
  refine rz_All_c (i := 19) (fun k J hk hJ => rz_iload_n_ok (pc := 30) hx hb dX12_closeBelow_30 rfl hk) ?_
  refine rz_All_c (i := 20) (fun k J hk hJ => rz_iload_n_ok (pc := 31) hx hb dX12_closeBelow_31 rfl hk) ?_
  refine rz_All_c (i := 21) (fun k J hk hJ => rz_icmpne_ok (pc := 32) hx hb dX12_closeBelow_32 rfl hk (hJ 24)) ?_
  refine rz_All_c (i := 22) (fun k J hk hJ => rz_iconst_ok (pc := 35) hx hb dX12_closeBelow_35 rfl hk) ?_
  refine rz_All_c (i := 23) (fun k J hk hJ => rz_goto_ok (pc := 36) hx hb dX12_closeBelow_36 rfl (hJ 25)) ?_
  refine rz_All_c (i := 24) (fun k J hk hJ => rz_iconst_ok (pc := 39) hx hb dX12_closeBelow_39 rfl hk) ?_
  refine rz_All_c (i := 25) (fun k J hk hJ => rz_zast_ok (pc := 40) hx hb hK hA dX12_closeBelow_40 hk) ?_
  refine rz_All_c (i := 26) (fun k J hk hJ => rz_iinc_ok (pc := 41) hx hb dX12_closeBelow_41 (by decide) hk) ?_
  refine rz_All_c (i := 27) (fun k J hk hJ => rz_goto_ok (pc := 44) hx hb dX12_closeBelow_44 rfl (hJ 8)) ?_
  refine rz_All_c (i := 28) (fun k J hk hJ => rz_iinc_ok (pc := 47) hx hb dX12_closeBelow_47 (by decide) hk) ?_
  refine rz_All_c (i := 29) (fun k J hk hJ => rz_goto_ok (pc := 50) hx hb dX12_closeBelow_50 rfl (hJ 2)) ?_
  refine rz_All_c (i := 30) (fun k J hk hJ => rz_iconst_ok (pc := 53) hx hb dX12_closeBelow_53 rfl hk) ?_
  refine rz_All_c (i := 31) (fun k J hk hJ => rz_istore_n_ok (pc := 54) hx hb dX12_closeBelow_54 rfl hk) ?_
  refine rz_All_c (i := 32) (fun k J hk hJ => rz_iload_n_ok (pc := 55) hx hb dX12_closeBelow_55 rfl hk) ?_
  refine rz_All_c (i := 33) (fun k J hk hJ => rz_ifeq_ok (pc := 56) hx hb dX12_closeBelow_56 rfl hk (hJ 133)) ?_
  refine rz_All_c (i := 34) (fun k J hk hJ => rz_iconst_ok (pc := 59) hx hb dX12_closeBelow_59 rfl hk) ?_
  refine rz_All_c (i := 35) (fun k J hk hJ => rz_istore_n_ok (pc := 60) hx hb dX12_closeBelow_60 rfl hk) ?_
  refine rz_All_c (i := 36) (fun k J hk hJ => rz_iconst_ok (pc := 61) hx hb dX12_closeBelow_61 rfl hk) ?_
  refine rz_All_c (i := 37) (fun k J hk hJ => rz_istore_n_ok (pc := 62) hx hb dX12_closeBelow_62 rfl hk) ?_
  refine rz_All_c (i := 38) (fun k J hk hJ => rz_iload_n_ok (pc := 63) hx hb dX12_closeBelow_63 rfl hk) ?_
  refine rz_All_c (i := 39) (fun k J hk hJ => rz_aload_n_ok (pc := 64) hx hb dX12_closeBelow_64 rfl hk) ?_
  refine rz_All_c (i := 40) (fun k J hk hJ => rz_getf_ok (pc := 65) (own := RX12) (ref := "ThreadJudgeModel") (C := RX12) (T := TX12) (N := 257) (ci := 14) (index := 684) (f := 13) (t := 0) (Ts := Cond.code yX12_closeBelow cX12_closeBelow 7 none :: rz_TB) hx hb hts rz_in14 ho hK rfl (by decide) rfl (fun _ => rfl) (hw (i := 32) (j := 17) rfl rfl) (fun _ z => z) dX12_closeBelow_65 hk) ?_
  refine rz_All_c (i := 41) (fun k J hk hJ => rz_icmpge_ok (pc := 68) hx hb dX12_closeBelow_68 rfl hk (hJ 132)) ?_
  refine rz_All_c (i := 42) (fun k J hk hJ => rz_iconst_ok (pc := 71) hx hb dX12_closeBelow_71 rfl hk) ?_
  refine rz_All_c (i := 43) (fun k J hk hJ => rz_istore_n_ok (pc := 72) hx hb dX12_closeBelow_72 rfl hk) ?_
  refine rz_All_c (i := 44) (fun k J hk hJ => rz_iload_n_ok (pc := 73) hx hb dX12_closeBelow_73 rfl hk) ?_
  refine rz_All_c (i := 45) (fun k J hk hJ => rz_aload_n_ok (pc := 74) hx hb dX12_closeBelow_74 rfl hk) ?_
  refine rz_All_c (i := 46) (fun k J hk hJ => rz_getf_ok (pc := 75) (own := RX12) (ref := "ThreadJudgeModel") (C := RX12) (T := TX12) (N := 257) (ci := 14) (index := 42) (f := 21) (t := 2) (Ts := Cond.code yX12_closeBelow cX12_closeBelow 7 none :: rz_TB) hx hb hts rz_in14 ho hK rfl (by decide) rfl (fun _ => rfl) (hw (i := 36) (j := 18) rfl rfl) (fun _ z => z) dX12_closeBelow_75 hk) ?_
  refine rz_All_c (i := 47) (fun k J hk hJ => rz_iload_n_ok (pc := 78) hx hb dX12_closeBelow_78 rfl hk) ?_
  refine rz_All_c (i := 48) (fun k J hk hJ => rz_iald_ok (pc := 79) hx hb hK dX12_closeBelow_79 hk) ?_
  refine rz_All_c (i := 49) (fun k J hk hJ => rz_icmpge_ok (pc := 80) hx hb dX12_closeBelow_80 rfl hk (hJ 130)) ?_
  refine rz_All_c (i := 50) (fun k J hk hJ => rz_iload_n_ok (pc := 83) hx hb dX12_closeBelow_83 rfl hk) ?_
  refine rz_All_c (i := 51) (fun k J hk hJ => rz_ifge_ok (pc := 84) hx hb dX12_closeBelow_84 rfl hk (hJ 57)) ?_
  refine rz_All_c (i := 52) (fun k J hk hJ => rz_aload_n_ok (pc := 87) hx hb dX12_closeBelow_87 rfl hk) ?_
  refine rz_All_c (i := 53) (fun k J hk hJ => rz_getf_ok (pc := 88) (own := RX12) (ref := "ThreadJudgeModel") (C := RX12) (T := TX12) (N := 257) (ci := 14) (index := 165) (f := 71) (t := 2) (Ts := Cond.code yX12_closeBelow cX12_closeBelow 7 none :: rz_TB) hx hb hts rz_in14 ho hK rfl (by decide) rfl (fun _ => rfl) (hw (i := 42) (j := 16) rfl rfl) (fun _ z => z) dX12_closeBelow_88 hk) ?_
  refine rz_All_c (i := 54) (fun k J hk hJ => rz_iload_n_ok (pc := 91) hx hb dX12_closeBelow_91 rfl hk) ?_
  refine rz_All_c (i := 55) (fun k J hk hJ => rz_iald_ok (pc := 92) hx hb hK dX12_closeBelow_92 hk) ?_
  refine rz_All_c (i := 56) (fun k J hk hJ => rz_goto_ok (pc := 93) hx hb dX12_closeBelow_93 rfl (hJ 65)) ?_
  refine rz_All_c (i := 57) (fun k J hk hJ => rz_aload_n_ok (pc := 96) hx hb dX12_closeBelow_96 rfl hk) ?_
  refine rz_All_c (i := 58) (fun k J hk hJ => rz_getf_ok (pc := 97) (own := RX12) (ref := "ThreadJudgeModel") (C := RX12) (T := TX12) (N := 257) (ci := 14) (index := 168) (f := 72) (t := 2) (Ts := Cond.code yX12_closeBelow cX12_closeBelow 7 none :: rz_TB) hx hb hts rz_in14 ho hK rfl (by decide) rfl (fun _ => rfl) (hw (i := 42) (j := 21) rfl rfl) (fun _ z => z) dX12_closeBelow_97 hk) ?_
  refine rz_All_c (i := 59) (fun k J hk hJ => rz_bipush_ok (pc := 100) hx hb dX12_closeBelow_100 (by decide) hk) ?_
  refine rz_All_c (i := 60) (fun k J hk hJ => rz_iload_n_ok (pc := 102) hx hb dX12_closeBelow_102 rfl hk) ?_
  refine rz_All_c (i := 61) (fun k J hk hJ => rz_imul_ok (pc := 103) hx hb dX12_closeBelow_103 hk) ?_
  refine rz_All_c (i := 62) (fun k J hk hJ => rz_iload_n_ok (pc := 104) hx hb dX12_closeBelow_104 rfl hk) ?_
  refine rz_All_c (i := 63) (fun k J hk hJ => rz_iadd_ok (pc := 105) hx hb dX12_closeBelow_105 hk) ?_
  refine rz_All_c (i := 64) (fun k J hk hJ => rz_iald_ok (pc := 106) hx hb hK dX12_closeBelow_106 hk) ?_
  refine rz_All_c (i := 65) (fun k J hk hJ => rz_istore_ok (pc := 107) hx hb dX12_closeBelow_107 hk) ?_
  refine rz_All_c (i := 66) (fun k J hk hJ => rz_iconst_ok (pc := 109) hx hb dX12_closeBelow_109 rfl hk) ?_
  refine rz_All_c (i := 67) (fun k J hk hJ => rz_istore_ok (pc := 110) hx hb dX12_closeBelow_110 hk) ?_
  refine rz_All_c (i := 68) (fun k J hk hJ => rz_iload_ok (pc := 112) hx hb dX12_closeBelow_112 hk) ?_
  refine rz_All_c (i := 69) (fun k J hk hJ => rz_aload_n_ok (pc := 114) hx hb dX12_closeBelow_114 rfl hk) ?_
  refine rz_All_c (i := 70) (fun k J hk hJ => rz_getf_ok (pc := 115) (own := RX12) (ref := "ThreadJudgeModel") (C := RX12) (T := TX12) (N := 257) (ci := 14) (index := 684) (f := 13) (t := 0) (Ts := Cond.code yX12_closeBelow cX12_closeBelow 7 none :: rz_TB) hx hb hts rz_in14 ho hK rfl (by decide) rfl (fun _ => rfl) (hw (i := 32) (j := 17) rfl rfl) (fun _ z => z) dX12_closeBelow_115 hk) ?_
  refine rz_All_c (i := 71) (fun k J hk hJ => rz_icmpge_ok (pc := 118) hx hb dX12_closeBelow_118 rfl hk (hJ 128)) ?_
  refine rz_All_c (i := 72) (fun k J hk hJ => rz_iload_ok (pc := 121) hx hb dX12_closeBelow_121 hk) ?_
  refine rz_All_c (i := 73) (fun k J hk hJ => rz_iflt_ok (pc := 123) hx hb dX12_closeBelow_123 rfl hk (hJ 128)) ?_
  refine rz_All_c (i := 74) (fun k J hk hJ => rz_aload_n_ok (pc := 126) hx hb dX12_closeBelow_126 rfl hk) ?_
  refine rz_All_c (i := 75) (fun k J hk hJ => rz_getf_ok (pc := 127) (own := RX12) (ref := "ThreadJudgeModel") (C := RX12) (T := TX12) (N := 257) (ci := 14) (index := 171) (f := 73) (t := 2) (Ts := Cond.code yX12_closeBelow cX12_closeBelow 7 none :: rz_TB) hx hb hts rz_in14 ho hK rfl (by decide) rfl (fun _ => rfl) (hw (i := 43) (j := 10) rfl rfl) (fun _ z => z) dX12_closeBelow_127 hk) ?_
  refine rz_All_c (i := 76) (fun k J hk hJ => rz_bipush_ok (pc := 130) hx hb dX12_closeBelow_130 (by decide) hk) ?_
  refine rz_All_c (i := 77) (fun k J hk hJ => rz_iload_ok (pc := 132) hx hb dX12_closeBelow_132 hk) ?_
  refine rz_All_c (i := 78) (fun k J hk hJ => rz_imul_ok (pc := 134) hx hb dX12_closeBelow_134 hk) ?_
  refine rz_All_c (i := 79) (fun k J hk hJ => rz_iload_ok (pc := 135) hx hb dX12_closeBelow_135 hk) ?_
  refine rz_All_c (i := 80) (fun k J hk hJ => rz_iadd_ok (pc := 137) hx hb dX12_closeBelow_137 hk) ?_
  refine rz_All_c (i := 81) (fun k J hk hJ => rz_zald_ok (pc := 138) hx hb hK dX12_closeBelow_138 hk) ?_
  refine rz_All_c (i := 82) (fun k J hk hJ => rz_ifeq_ok (pc := 139) hx hb dX12_closeBelow_139 rfl hk (hJ 94)) ?_
  refine rz_All_c (i := 83) (fun k J hk hJ => rz_aload_n_ok (pc := 142) hx hb dX12_closeBelow_142 rfl hk) ?_
  refine rz_All_c (i := 84) (fun k J hk hJ => rz_getf_ok (pc := 143) (own := RX12) (ref := "ThreadJudgeModel") (C := RX12) (T := TX12) (N := 257) (ci := 14) (index := 171) (f := 73) (t := 2) (Ts := Cond.code yX12_closeBelow cX12_closeBelow 7 none :: rz_TB) hx hb hts rz_in14 ho hK rfl (by decide) rfl (fun _ => rfl) (hw (i := 43) (j := 10) rfl rfl) (fun _ z => z) dX12_closeBelow_143 hk) ?_
  refine rz_All_c (i := 85) (fun k J hk hJ => rz_bipush_ok (pc := 146) hx hb dX12_closeBelow_146 (by decide) hk) ?_
  refine rz_All_c (i := 86) (fun k J hk hJ => rz_iload_n_ok (pc := 148) hx hb dX12_closeBelow_148 rfl hk) ?_
  refine rz_All_c (i := 87) (fun k J hk hJ => rz_imul_ok (pc := 149) hx hb dX12_closeBelow_149 hk) ?_
  refine rz_All_c (i := 88) (fun k J hk hJ => rz_iload_ok (pc := 150) hx hb dX12_closeBelow_150 hk) ?_
  refine rz_All_c (i := 89) (fun k J hk hJ => rz_iadd_ok (pc := 152) hx hb dX12_closeBelow_152 hk) ?_
  refine rz_All_c (i := 90) (fun k J hk hJ => rz_zald_ok (pc := 153) hx hb hK dX12_closeBelow_153 hk) ?_
  refine rz_All_c (i := 91) (fun k J hk hJ => rz_ifne_ok (pc := 154) hx hb dX12_closeBelow_154 rfl hk (hJ 94)) ?_
  refine rz_All_c (i := 92) (fun k J hk hJ => rz_iconst_ok (pc := 157) hx hb dX12_closeBelow_157 rfl hk) ?_
  refine rz_All_c (i := 93) (fun k J hk hJ => rz_goto_ok (pc := 158) hx hb dX12_closeBelow_158 rfl (hJ 95)) ?_
  refine rz_All_c (i := 94) (fun k J hk hJ => rz_iconst_ok (pc := 161) hx hb dX12_closeBelow_161 rfl hk) ?_
  refine rz_All_c (i := 95) (fun k J hk hJ => rz_istore_ok (pc := 162) hx hb dX12_closeBelow_162 hk) ?_
  refine rz_All_c (i := 96) (fun k J hk hJ => rz_aload_n_ok (pc := 164) hx hb dX12_closeBelow_164 rfl hk) ?_
  refine rz_All_c (i := 97) (fun k J hk hJ => rz_getf_ok (pc := 165) (own := RX12) (ref := "ThreadJudgeModel") (C := RX12) (T := TX12) (N := 257) (ci := 14) (index := 171) (f := 73) (t := 2) (Ts := Cond.code yX12_closeBelow cX12_closeBelow 7 none :: rz_TB) hx hb hts rz_in14 ho hK rfl (by decide) rfl (fun _ => rfl) (hw (i := 43) (j := 10) rfl rfl) (fun _ z => z) dX12_closeBelow_165 hk) ?_
  refine rz_All_c (i := 98) (fun k J hk hJ => rz_bipush_ok (pc := 168) hx hb dX12_closeBelow_168 (by decide) hk) ?_
  refine rz_All_c (i := 99) (fun k J hk hJ => rz_iload_n_ok (pc := 170) hx hb dX12_closeBelow_170 rfl hk) ?_
  refine rz_All_c (i := 100) (fun k J hk hJ => rz_imul_ok (pc := 171) hx hb dX12_closeBelow_171 hk) ?_
  refine rz_All_c (i := 101) (fun k J hk hJ => rz_iload_ok (pc := 172) hx hb dX12_closeBelow_172 hk) ?_
  refine rz_All_c (i := 102) (fun k J hk hJ => rz_iadd_ok (pc := 174) hx hb dX12_closeBelow_174 hk) ?_
  refine rz_All_c (i := 103) (fun k J hk hJ => rz_iload_ok (pc := 175) hx hb dX12_closeBelow_175 hk) ?_
  refine rz_All_c (i := 104) (fun k J hk hJ => rz_ifne_ok (pc := 177) hx hb dX12_closeBelow_177 rfl hk (hJ 114)) ?_
  refine rz_All_c (i := 105) (fun k J hk hJ => rz_aload_n_ok (pc := 180) hx hb dX12_closeBelow_180 rfl hk) ?_
  refine rz_All_c (i := 106) (fun k J hk hJ => rz_getf_ok (pc := 181) (own := RX12) (ref := "ThreadJudgeModel") (C := RX12) (T := TX12) (N := 257) (ci := 14) (index := 171) (f := 73) (t := 2) (Ts := Cond.code yX12_closeBelow cX12_closeBelow 7 none :: rz_TB) hx hb hts rz_in14 ho hK rfl (by decide) rfl (fun _ => rfl) (hw (i := 43) (j := 10) rfl rfl) (fun _ z => z) dX12_closeBelow_181 hk) ?_
  refine rz_All_c (i := 107) (fun k J hk hJ => rz_bipush_ok (pc := 184) hx hb dX12_closeBelow_184 (by decide) hk) ?_
  refine rz_All_c (i := 108) (fun k J hk hJ => rz_iload_n_ok (pc := 186) hx hb dX12_closeBelow_186 rfl hk) ?_
  refine rz_All_c (i := 109) (fun k J hk hJ => rz_imul_ok (pc := 187) hx hb dX12_closeBelow_187 hk) ?_
  refine rz_All_c (i := 110) (fun k J hk hJ => rz_iload_ok (pc := 188) hx hb dX12_closeBelow_188 hk) ?_
  refine rz_All_c (i := 111) (fun k J hk hJ => rz_iadd_ok (pc := 190) hx hb dX12_closeBelow_190 hk) ?_
  refine rz_All_c (i := 112) (fun k J hk hJ => rz_zald_ok (pc := 191) hx hb hK dX12_closeBelow_191 hk) ?_
  refine rz_All_c (i := 113) (fun k J hk hJ => rz_ifeq_ok (pc := 192) hx hb dX12_closeBelow_192 rfl hk (hJ 116)) ?_
  refine rz_All_c (i := 114) (fun k J hk hJ => rz_iconst_ok (pc := 195) hx hb dX12_closeBelow_195 rfl hk) ?_
  refine rz_All_c (i := 115) (fun k J hk hJ => rz_goto_ok (pc := 196) hx hb dX12_closeBelow_196 rfl (hJ 117)) ?_
  refine rz_All_c (i := 116) (fun k J hk hJ => rz_iconst_ok (pc := 199) hx hb dX12_closeBelow_199 rfl hk) ?_
  refine rz_All_c (i := 117) (fun k J hk hJ => rz_zast_ok (pc := 200) hx hb hK hA dX12_closeBelow_200 hk) ?_
  refine rz_All_c (i := 118) (fun k J hk hJ => rz_iload_n_ok (pc := 201) hx hb dX12_closeBelow_201 rfl hk) ?_
  refine rz_All_c (i := 119) (fun k J hk hJ => rz_ifne_ok (pc := 202) hx hb dX12_closeBelow_202 rfl hk (hJ 122)) ?_
  refine rz_All_c (i := 120) (fun k J hk hJ => rz_iload_ok (pc := 205) hx hb dX12_closeBelow_205 hk) ?_
  refine rz_All_c (i := 121) (fun k J hk hJ => rz_ifeq_ok (pc := 207) hx hb dX12_closeBelow_207 rfl hk (hJ 124)) ?_
  refine rz_All_c (i := 122) (fun k J hk hJ => rz_iconst_ok (pc := 210) hx hb dX12_closeBelow_210 rfl hk) ?_
  refine rz_All_c (i := 123) (fun k J hk hJ => rz_goto_ok (pc := 211) hx hb dX12_closeBelow_211 rfl (hJ 125)) ?_
  refine rz_All_c (i := 124) (fun k J hk hJ => rz_iconst_ok (pc := 214) hx hb dX12_closeBelow_214 rfl hk) ?_
  refine rz_All_c (i := 125) (fun k J hk hJ => rz_istore_n_ok (pc := 215) hx hb dX12_closeBelow_215 rfl hk) ?_
  refine rz_All_c (i := 126) (fun k J hk hJ => rz_iinc_ok (pc := 216) hx hb dX12_closeBelow_216 (by decide) hk) ?_
  refine rz_All_c (i := 127) (fun k J hk hJ => rz_goto_ok (pc := 219) hx hb dX12_closeBelow_219 rfl (hJ 68)) ?_
  refine rz_All_c (i := 128) (fun k J hk hJ => rz_iinc_ok (pc := 222) hx hb dX12_closeBelow_222 (by decide) hk) ?_
  refine rz_All_c (i := 129) (fun k J hk hJ => rz_goto_ok (pc := 225) hx hb dX12_closeBelow_225 rfl (hJ 44)) ?_
  refine rz_All_c (i := 130) (fun k J hk hJ => rz_iinc_ok (pc := 228) hx hb dX12_closeBelow_228 (by decide) hk) ?_
  refine rz_All_c (i := 131) (fun k J hk hJ => rz_goto_ok (pc := 231) hx hb dX12_closeBelow_231 rfl (hJ 38)) ?_
  refine rz_All_c (i := 132) (fun k J hk hJ => rz_goto_ok (pc := 234) hx hb dX12_closeBelow_234 rfl (hJ 32)) ?_
  refine rz_All_c (i := 133) (fun k J hk hJ => rz_vret_ok (pc := 237) hC dX12_closeBelow_237) ?_
  exact trivial
theorem dX12_isRound_0 : decode cX12_isRound 0 = .ok (.aload_n 0, 1) := by decide +kernel
theorem dX12_isRound_1 : decode cX12_isRound 1 = .ok (.getfield 165, 3) := by decide +kernel
theorem dX12_isRound_4 : decode cX12_isRound 4 = .ok (.iload_n 1, 1) := by decide +kernel
theorem dX12_isRound_5 : decode cX12_isRound 5 = .ok (.iaload, 1) := by decide +kernel
theorem dX12_isRound_6 : decode cX12_isRound 6 = .ok (.ifCond .lt 26, 3) := by decide +kernel
theorem dX12_isRound_9 : decode cX12_isRound 9 = .ok (.aload_n 0, 1) := by decide +kernel
theorem dX12_isRound_10 : decode cX12_isRound 10 = .ok (.getfield 171, 3) := by decide +kernel
theorem dX12_isRound_13 : decode cX12_isRound 13 = .ok (.bipush 43, 2) := by decide +kernel
theorem dX12_isRound_15 : decode cX12_isRound 15 = .ok (.aload_n 0, 1) := by decide +kernel
theorem dX12_isRound_16 : decode cX12_isRound 16 = .ok (.getfield 165, 3) := by decide +kernel
theorem dX12_isRound_19 : decode cX12_isRound 19 = .ok (.iload_n 1, 1) := by decide +kernel
theorem dX12_isRound_20 : decode cX12_isRound 20 = .ok (.iaload, 1) := by decide +kernel
theorem dX12_isRound_21 : decode cX12_isRound 21 = .ok (.imul, 1) := by decide +kernel
theorem dX12_isRound_22 : decode cX12_isRound 22 = .ok (.iload_n 1, 1) := by decide +kernel
theorem dX12_isRound_23 : decode cX12_isRound 23 = .ok (.iadd, 1) := by decide +kernel
theorem dX12_isRound_24 : decode cX12_isRound 24 = .ok (.baload, 1) := by decide +kernel
theorem dX12_isRound_25 : decode cX12_isRound 25 = .ok (.ifCond .eq 7, 3) := by decide +kernel
theorem dX12_isRound_32 : decode cX12_isRound 32 = .ok (.iconst 0, 1) := by decide +kernel
theorem dX12_isRound_33 : decode cX12_isRound 33 = .ok (.istore_n 2, 1) := by decide +kernel
theorem dX12_isRound_34 : decode cX12_isRound 34 = .ok (.iconst 0, 1) := by decide +kernel
theorem dX12_isRound_35 : decode cX12_isRound 35 = .ok (.istore_n 3, 1) := by decide +kernel
theorem dX12_isRound_36 : decode cX12_isRound 36 = .ok (.iload_n 3, 1) := by decide +kernel
theorem dX12_isRound_37 : decode cX12_isRound 37 = .ok (.aload_n 0, 1) := by decide +kernel
theorem dX12_isRound_38 : decode cX12_isRound 38 = .ok (.getfield 42, 3) := by decide +kernel
theorem dX12_isRound_41 : decode cX12_isRound 41 = .ok (.iload_n 1, 1) := by decide +kernel
theorem dX12_isRound_42 : decode cX12_isRound 42 = .ok (.iaload, 1) := by decide +kernel
theorem dX12_isRound_43 : decode cX12_isRound 43 = .ok (.if_icmp .ge 57, 3) := by decide +kernel
theorem dX12_isRound_46 : decode cX12_isRound 46 = .ok (.iload_n 2, 1) := by decide +kernel
theorem dX12_isRound_47 : decode cX12_isRound 47 = .ok (.ifCond .ne 41, 3) := by decide +kernel
theorem dX12_isRound_50 : decode cX12_isRound 50 = .ok (.aload_n 0, 1) := by decide +kernel
theorem dX12_isRound_51 : decode cX12_isRound 51 = .ok (.getfield 168, 3) := by decide +kernel
theorem dX12_isRound_54 : decode cX12_isRound 54 = .ok (.bipush 6, 2) := by decide +kernel
theorem dX12_isRound_56 : decode cX12_isRound 56 = .ok (.iload_n 1, 1) := by decide +kernel
theorem dX12_isRound_57 : decode cX12_isRound 57 = .ok (.imul, 1) := by decide +kernel
theorem dX12_isRound_58 : decode cX12_isRound 58 = .ok (.iload_n 3, 1) := by decide +kernel
theorem dX12_isRound_59 : decode cX12_isRound 59 = .ok (.iadd, 1) := by decide +kernel
theorem dX12_isRound_60 : decode cX12_isRound 60 = .ok (.iaload, 1) := by decide +kernel
theorem dX12_isRound_61 : decode cX12_isRound 61 = .ok (.ifCond .lt 31, 3) := by decide +kernel
theorem dX12_isRound_64 : decode cX12_isRound 64 = .ok (.aload_n 0, 1) := by decide +kernel
theorem dX12_isRound_65 : decode cX12_isRound 65 = .ok (.getfield 171, 3) := by decide +kernel
theorem dX12_isRound_68 : decode cX12_isRound 68 = .ok (.bipush 43, 2) := by decide +kernel
theorem dX12_isRound_70 : decode cX12_isRound 70 = .ok (.aload_n 0, 1) := by decide +kernel
theorem dX12_isRound_71 : decode cX12_isRound 71 = .ok (.getfield 168, 3) := by decide +kernel
theorem dX12_isRound_74 : decode cX12_isRound 74 = .ok (.bipush 6, 2) := by decide +kernel
theorem dX12_isRound_76 : decode cX12_isRound 76 = .ok (.iload_n 1, 1) := by decide +kernel
theorem dX12_isRound_77 : decode cX12_isRound 77 = .ok (.imul, 1) := by decide +kernel
theorem dX12_isRound_78 : decode cX12_isRound 78 = .ok (.iload_n 3, 1) := by decide +kernel
theorem dX12_isRound_79 : decode cX12_isRound 79 = .ok (.iadd, 1) := by decide +kernel
theorem dX12_isRound_80 : decode cX12_isRound 80 = .ok (.iaload, 1) := by decide +kernel
theorem dX12_isRound_81 : decode cX12_isRound 81 = .ok (.imul, 1) := by decide +kernel
theorem dX12_isRound_82 : decode cX12_isRound 82 = .ok (.iload_n 1, 1) := by decide +kernel
theorem dX12_isRound_83 : decode cX12_isRound 83 = .ok (.iadd, 1) := by decide +kernel
theorem dX12_isRound_84 : decode cX12_isRound 84 = .ok (.baload, 1) := by decide +kernel
theorem dX12_isRound_85 : decode cX12_isRound 85 = .ok (.ifCond .eq 7, 3) := by decide +kernel
theorem dX12_isRound_92 : decode cX12_isRound 92 = .ok (.iconst 0, 1) := by decide +kernel
theorem dX12_isRound_93 : decode cX12_isRound 93 = .ok (.istore_n 2, 1) := by decide +kernel
theorem dX12_isRound_94 : decode cX12_isRound 94 = .ok (.iinc 3 1, 3) := by decide +kernel
theorem dX12_isRound_97 : decode cX12_isRound 97 = .ok (.goto (-61), 3) := by decide +kernel
theorem dX12_isRound_100 : decode cX12_isRound 100 = .ok (.iload_n 2, 1) := by decide +kernel
theorem dX12_isRound_101 : decode cX12_isRound 101 = .ok (.ireturn, 1) := by decide +kernel
def rpX12_isRound : List Nat := [0, 1, 4, 5, 6, 9, 10, 13, 15, 16, 19, 20, 21, 22, 23, 24, 25, 28, 32, 33, 34, 35, 36, 37, 38, 41, 42, 43, 46, 47, 50, 51, 54, 56, 57, 58, 59, 60, 61, 64, 65, 68, 70, 71, 74, 76, 77, 78, 79, 80, 81, 82, 83, 84, 85, 88, 92, 93, 94, 97, 100, 101]
noncomputable def rcX12_isRound : List rz_B := [rz_aload 0, rz_getf (Nat.add (Nat.mul 256 14) 1) 71 rz_r, rz_iload 1, rz_iald, rz_iflt 18, rz_aload 0, rz_getf (Nat.add (Nat.mul 256 14) 1) 73 rz_r, rz_cst 43, rz_aload 0, rz_getf (Nat.add (Nat.mul 256 14) 1) 71 rz_r, rz_iload 1, rz_iald, rz_imul, rz_iload 1, rz_iadd, rz_zald, rz_ifeq 18, rz_no, rz_cst 0, rz_istore 2, rz_cst 0, rz_istore 3, rz_iload 3, rz_aload 0, rz_getf (Nat.add (Nat.mul 256 14) 1) 21 rz_r, rz_iload 1, rz_iald, rz_icmpge 60, rz_iload 2, rz_ifne 55, rz_aload 0, rz_getf (Nat.add (Nat.mul 256 14) 1) 72 rz_r, rz_cst 6, rz_iload 1, rz_imul, rz_iload 3, rz_iadd, rz_iald, rz_iflt 56, rz_aload 0, rz_getf (Nat.add (Nat.mul 256 14) 1) 73 rz_r, rz_cst 43, rz_aload 0, rz_getf (Nat.add (Nat.mul 256 14) 1) 72 rz_r, rz_cst 6, rz_iload 1, rz_imul, rz_iload 3, rz_iadd, rz_iald, rz_imul, rz_iload 1, rz_iadd, rz_zald, rz_ifeq 56, rz_no, rz_cst 0, rz_istore 2, rz_iinc 3 1, rz_goto 22, rz_iload 2, rz_zret]
noncomputable def rgX12_isRound : rz_L → rz_M → rz_Z → Bool := rz_go rcX12_isRound 4 1000000
def rrX12_isRound : Room := { frames := 0, cells := 0, slots := 0, locals := 0 }
theorem rmX12_isRound (l : Launch) {G : rz_G} (hG : rz_Gd G) (vs : rz_L) (M : rz_M) (Z : rz_Z) (hn : vs.length = 2) (h : rgX12_isRound vs M Z = true) : Met l yX12_isRound (Cond.code yX12_isRound cX12_isRound 4 (some .boolean) :: rz_TB) rrX12_isRound (rz_Pre G vs M) (rz_Qi G M.2 Z) 0 0 (fun q => rz_b G ≤ q) := by
  obtain ⟨D, tc, ad, b, xs, rfl⟩ := id hG
  refine rz_body (pcs := rpX12_isRound) (by decide) rfl (by rw [hn]; decide) h ?_
  intro p e R s m args below meth c hC
  obtain ⟨hx, hb, hml, hr, hlk, ho, hts, hKn, hRm⟩ := id hC
  obtain ⟨hK, hA, hSt⟩ := id hKn
  have hw : ∀ {i j : Nat} {ws : List Cond} {w : Cond}, rz_WW[i]? = some ws → ws[j]? = some w → w.before args s = true := fun h1 h2 => hts _ (List.mem_cons_of_mem _ (rz_mem h1 h2))
  refine rz_All_c (i := 0) (fun k J hk hJ => rz_aload_n_ok (pc := 0) hx hb dX12_isRound_0 rfl hk) ?_
  refine rz_All_c (i := 1) (fun k J hk hJ => rz_getf_ok (pc := 1) (own := RX12) (ref := "ThreadJudgeModel") (C := RX12) (T := TX12) (N := 257) (ci := 14) (index := 165) (f := 71) (t := 2) (Ts := Cond.code yX12_isRound cX12_isRound 4 (some .boolean) :: rz_TB) hx hb hts rz_in14 ho hK rfl (by decide) rfl (fun _ => rfl) (hw (i := 42) (j := 16) rfl rfl) (fun _ z => z) dX12_isRound_1 hk) ?_
  refine rz_All_c (i := 2) (fun k J hk hJ => rz_iload_n_ok (pc := 4) hx hb dX12_isRound_4 rfl hk) ?_
  refine rz_All_c (i := 3) (fun k J hk hJ => rz_iald_ok (pc := 5) hx hb hK dX12_isRound_5 hk) ?_
  refine rz_All_c (i := 4) (fun k J hk hJ => rz_iflt_ok (pc := 6) hx hb dX12_isRound_6 rfl hk (hJ 18)) ?_
  refine rz_All_c (i := 5) (fun k J hk hJ => rz_aload_n_ok (pc := 9) hx hb dX12_isRound_9 rfl hk) ?_
  refine rz_All_c (i := 6) (fun k J hk hJ => rz_getf_ok (pc := 10) (own := RX12) (ref := "ThreadJudgeModel") (C := RX12) (T := TX12) (N := 257) (ci := 14) (index := 171) (f := 73) (t := 2) (Ts := Cond.code yX12_isRound cX12_isRound 4 (some .boolean) :: rz_TB) hx hb hts rz_in14 ho hK rfl (by decide) rfl (fun _ => rfl) (hw (i := 43) (j := 10) rfl rfl) (fun _ z => z) dX12_isRound_10 hk) ?_
  refine rz_All_c (i := 7) (fun k J hk hJ => rz_bipush_ok (pc := 13) hx hb dX12_isRound_13 (by decide) hk) ?_
  refine rz_All_c (i := 8) (fun k J hk hJ => rz_aload_n_ok (pc := 15) hx hb dX12_isRound_15 rfl hk) ?_
  refine rz_All_c (i := 9) (fun k J hk hJ => rz_getf_ok (pc := 16) (own := RX12) (ref := "ThreadJudgeModel") (C := RX12) (T := TX12) (N := 257) (ci := 14) (index := 165) (f := 71) (t := 2) (Ts := Cond.code yX12_isRound cX12_isRound 4 (some .boolean) :: rz_TB) hx hb hts rz_in14 ho hK rfl (by decide) rfl (fun _ => rfl) (hw (i := 42) (j := 16) rfl rfl) (fun _ z => z) dX12_isRound_16 hk) ?_
  refine rz_All_c (i := 10) (fun k J hk hJ => rz_iload_n_ok (pc := 19) hx hb dX12_isRound_19 rfl hk) ?_
  refine rz_All_c (i := 11) (fun k J hk hJ => rz_iald_ok (pc := 20) hx hb hK dX12_isRound_20 hk) ?_
  refine rz_All_c (i := 12) (fun k J hk hJ => rz_imul_ok (pc := 21) hx hb dX12_isRound_21 hk) ?_
  refine rz_All_c (i := 13) (fun k J hk hJ => rz_iload_n_ok (pc := 22) hx hb dX12_isRound_22 rfl hk) ?_
  refine rz_All_c (i := 14) (fun k J hk hJ => rz_iadd_ok (pc := 23) hx hb dX12_isRound_23 hk) ?_
  refine rz_All_c (i := 15) (fun k J hk hJ => rz_zald_ok (pc := 24) hx hb hK dX12_isRound_24 hk) ?_
  refine rz_All_c (i := 16) (fun k J hk hJ => rz_ifeq_ok (pc := 25) hx hb dX12_isRound_25 rfl hk (hJ 18)) ?_
  refine rz_All_c (i := 17) (fun k J hk hJ => rz_no_ok) ?_
  refine rz_All_c (i := 18) (fun k J hk hJ => rz_iconst_ok (pc := 32) hx hb dX12_isRound_32 rfl hk) ?_
  refine rz_All_c (i := 19) (fun k J hk hJ => rz_istore_n_ok (pc := 33) hx hb dX12_isRound_33 rfl hk) ?_
  refine rz_All_c (i := 20) (fun k J hk hJ => rz_iconst_ok (pc := 34) hx hb dX12_isRound_34 rfl hk) ?_
  refine rz_All_c (i := 21) (fun k J hk hJ => rz_istore_n_ok (pc := 35) hx hb dX12_isRound_35 rfl hk) ?_
  refine rz_All_c (i := 22) (fun k J hk hJ => rz_iload_n_ok (pc := 36) hx hb dX12_isRound_36 rfl hk) ?_
  refine rz_All_c (i := 23) (fun k J hk hJ => rz_aload_n_ok (pc := 37) hx hb dX12_isRound_37 rfl hk) ?_
  refine rz_All_c (i := 24) (fun k J hk hJ => rz_getf_ok (pc := 38) (own := RX12) (ref := "ThreadJudgeModel") (C := RX12) (T := TX12) (N := 257) (ci := 14) (index := 42) (f := 21) (t := 2) (Ts := Cond.code yX12_isRound cX12_isRound 4 (some .boolean) :: rz_TB) hx hb hts rz_in14 ho hK rfl (by decide) rfl (fun _ => rfl) (hw (i := 36) (j := 18) rfl rfl) (fun _ z => z) dX12_isRound_38 hk) ?_
  refine rz_All_c (i := 25) (fun k J hk hJ => rz_iload_n_ok (pc := 41) hx hb dX12_isRound_41 rfl hk) ?_
  refine rz_All_c (i := 26) (fun k J hk hJ => rz_iald_ok (pc := 42) hx hb hK dX12_isRound_42 hk) ?_
  refine rz_All_c (i := 27) (fun k J hk hJ => rz_icmpge_ok (pc := 43) hx hb dX12_isRound_43 rfl hk (hJ 60)) ?_
  refine rz_All_c (i := 28) (fun k J hk hJ => rz_iload_n_ok (pc := 46) hx hb dX12_isRound_46 rfl hk) ?_
  refine rz_All_c (i := 29) (fun k J hk hJ => rz_ifne_ok (pc := 47) hx hb dX12_isRound_47 rfl hk (hJ 55)) ?_
  refine rz_All_c (i := 30) (fun k J hk hJ => rz_aload_n_ok (pc := 50) hx hb dX12_isRound_50 rfl hk) ?_
  refine rz_All_c (i := 31) (fun k J hk hJ => rz_getf_ok (pc := 51) (own := RX12) (ref := "ThreadJudgeModel") (C := RX12) (T := TX12) (N := 257) (ci := 14) (index := 168) (f := 72) (t := 2) (Ts := Cond.code yX12_isRound cX12_isRound 4 (some .boolean) :: rz_TB) hx hb hts rz_in14 ho hK rfl (by decide) rfl (fun _ => rfl) (hw (i := 42) (j := 21) rfl rfl) (fun _ z => z) dX12_isRound_51 hk) ?_
  refine rz_All_c (i := 32) (fun k J hk hJ => rz_bipush_ok (pc := 54) hx hb dX12_isRound_54 (by decide) hk) ?_
  refine rz_All_c (i := 33) (fun k J hk hJ => rz_iload_n_ok (pc := 56) hx hb dX12_isRound_56 rfl hk) ?_
  refine rz_All_c (i := 34) (fun k J hk hJ => rz_imul_ok (pc := 57) hx hb dX12_isRound_57 hk) ?_
  refine rz_All_c (i := 35) (fun k J hk hJ => rz_iload_n_ok (pc := 58) hx hb dX12_isRound_58 rfl hk) ?_
  refine rz_All_c (i := 36) (fun k J hk hJ => rz_iadd_ok (pc := 59) hx hb dX12_isRound_59 hk) ?_
  refine rz_All_c (i := 37) (fun k J hk hJ => rz_iald_ok (pc := 60) hx hb hK dX12_isRound_60 hk) ?_
  refine rz_All_c (i := 38) (fun k J hk hJ => rz_iflt_ok (pc := 61) hx hb dX12_isRound_61 rfl hk (hJ 56)) ?_
  refine rz_All_c (i := 39) (fun k J hk hJ => rz_aload_n_ok (pc := 64) hx hb dX12_isRound_64 rfl hk) ?_
  refine rz_All_c (i := 40) (fun k J hk hJ => rz_getf_ok (pc := 65) (own := RX12) (ref := "ThreadJudgeModel") (C := RX12) (T := TX12) (N := 257) (ci := 14) (index := 171) (f := 73) (t := 2) (Ts := Cond.code yX12_isRound cX12_isRound 4 (some .boolean) :: rz_TB) hx hb hts rz_in14 ho hK rfl (by decide) rfl (fun _ => rfl) (hw (i := 43) (j := 10) rfl rfl) (fun _ z => z) dX12_isRound_65 hk) ?_
  refine rz_All_c (i := 41) (fun k J hk hJ => rz_bipush_ok (pc := 68) hx hb dX12_isRound_68 (by decide) hk) ?_
  refine rz_All_c (i := 42) (fun k J hk hJ => rz_aload_n_ok (pc := 70) hx hb dX12_isRound_70 rfl hk) ?_
  refine rz_All_c (i := 43) (fun k J hk hJ => rz_getf_ok (pc := 71) (own := RX12) (ref := "ThreadJudgeModel") (C := RX12) (T := TX12) (N := 257) (ci := 14) (index := 168) (f := 72) (t := 2) (Ts := Cond.code yX12_isRound cX12_isRound 4 (some .boolean) :: rz_TB) hx hb hts rz_in14 ho hK rfl (by decide) rfl (fun _ => rfl) (hw (i := 42) (j := 21) rfl rfl) (fun _ z => z) dX12_isRound_71 hk) ?_
  refine rz_All_c (i := 44) (fun k J hk hJ => rz_bipush_ok (pc := 74) hx hb dX12_isRound_74 (by decide) hk) ?_
  refine rz_All_c (i := 45) (fun k J hk hJ => rz_iload_n_ok (pc := 76) hx hb dX12_isRound_76 rfl hk) ?_
  refine rz_All_c (i := 46) (fun k J hk hJ => rz_imul_ok (pc := 77) hx hb dX12_isRound_77 hk) ?_
  refine rz_All_c (i := 47) (fun k J hk hJ => rz_iload_n_ok (pc := 78) hx hb dX12_isRound_78 rfl hk) ?_
  refine rz_All_c (i := 48) (fun k J hk hJ => rz_iadd_ok (pc := 79) hx hb dX12_isRound_79 hk) ?_
  refine rz_All_c (i := 49) (fun k J hk hJ => rz_iald_ok (pc := 80) hx hb hK dX12_isRound_80 hk) ?_
  refine rz_All_c (i := 50) (fun k J hk hJ => rz_imul_ok (pc := 81) hx hb dX12_isRound_81 hk) ?_
  refine rz_All_c (i := 51) (fun k J hk hJ => rz_iload_n_ok (pc := 82) hx hb dX12_isRound_82 rfl hk) ?_
  refine rz_All_c (i := 52) (fun k J hk hJ => rz_iadd_ok (pc := 83) hx hb dX12_isRound_83 hk) ?_
  refine rz_All_c (i := 53) (fun k J hk hJ => rz_zald_ok (pc := 84) hx hb hK dX12_isRound_84 hk) ?_
  refine rz_All_c (i := 54) (fun k J hk hJ => rz_ifeq_ok (pc := 85) hx hb dX12_isRound_85 rfl hk (hJ 56)) ?_
  refine rz_All_c (i := 55) (fun k J hk hJ => rz_no_ok) ?_
  refine rz_All_c (i := 56) (fun k J hk hJ => rz_iconst_ok (pc := 92) hx hb dX12_isRound_92 rfl hk) ?_
  refine rz_All_c (i := 57) (fun k J hk hJ => rz_istore_n_ok (pc := 93) hx hb dX12_isRound_93 rfl hk) ?_
  refine rz_All_c (i := 58) (fun k J hk hJ => rz_iinc_ok (pc := 94) hx hb dX12_isRound_94 (by decide) hk) ?_
  refine rz_All_c (i := 59) (fun k J hk hJ => rz_goto_ok (pc := 97) hx hb dX12_isRound_97 rfl (hJ 22)) ?_
  refine rz_All_c (i := 60) (fun k J hk hJ => rz_iload_n_ok (pc := 100) hx hb dX12_isRound_100 rfl hk) ?_
  refine rz_All_c (i := 61) (fun k J hk hJ => rz_zret_ok (pc := 101) hC dX12_isRound_101) ?_
  exact trivial
theorem dX12_linkClasses_0 : decode cX12_linkClasses 0 = .ok (.iconst 0, 1) := by decide +kernel
theorem dX12_linkClasses_1 : decode cX12_linkClasses 1 = .ok (.istore_n 1, 1) := by decide +kernel
theorem dX12_linkClasses_2 : decode cX12_linkClasses 2 = .ok (.iload_n 1, 1) := by decide +kernel
theorem dX12_linkClasses_3 : decode cX12_linkClasses 3 = .ok (.aload_n 0, 1) := by decide +kernel
theorem dX12_linkClasses_4 : decode cX12_linkClasses 4 = .ok (.getfield 684, 3) := by decide +kernel
theorem dX12_linkClasses_7 : decode cX12_linkClasses 7 = .ok (.if_icmp .ge 235, 3) := by decide +kernel
theorem dX12_linkClasses_10 : decode cX12_linkClasses 10 = .ok (.aload_n 0, 1) := by decide +kernel
theorem dX12_linkClasses_11 : decode cX12_linkClasses 11 = .ok (.getfield 20, 3) := by decide +kernel
theorem dX12_linkClasses_14 : decode cX12_linkClasses 14 = .ok (.iload_n 1, 1) := by decide +kernel
theorem dX12_linkClasses_15 : decode cX12_linkClasses 15 = .ok (.iaload, 1) := by decide +kernel
theorem dX12_linkClasses_16 : decode cX12_linkClasses 16 = .ok (.istore_n 2, 1) := by decide +kernel
theorem dX12_linkClasses_17 : decode cX12_linkClasses 17 = .ok (.aload_n 0, 1) := by decide +kernel
theorem dX12_linkClasses_18 : decode cX12_linkClasses 18 = .ok (.iload_n 2, 1) := by decide +kernel
theorem dX12_linkClasses_19 : decode cX12_linkClasses 19 = .ok (.aload_n 0, 1) := by decide +kernel
theorem dX12_linkClasses_20 : decode cX12_linkClasses 20 = .ok (.getfield 23, 3) := by decide +kernel
theorem dX12_linkClasses_23 : decode cX12_linkClasses 23 = .ok (.iload_n 1, 1) := by decide +kernel
theorem dX12_linkClasses_24 : decode cX12_linkClasses 24 = .ok (.iaload, 1) := by decide +kernel
theorem dX12_linkClasses_25 : decode cX12_linkClasses 25 = .ok (.invokevirtual 761, 3) := by decide +kernel
theorem dX12_linkClasses_28 : decode cX12_linkClasses 28 = .ok (.iload_n 1, 1) := by decide +kernel
theorem dX12_linkClasses_29 : decode cX12_linkClasses 29 = .ok (.if_icmp .ne 21, 3) := by decide +kernel
theorem dX12_linkClasses_32 : decode cX12_linkClasses 32 = .ok (.aload_n 0, 1) := by decide +kernel
theorem dX12_linkClasses_33 : decode cX12_linkClasses 33 = .ok (.getfield 26, 3) := by decide +kernel
theorem dX12_linkClasses_36 : decode cX12_linkClasses 36 = .ok (.iload_n 1, 1) := by decide +kernel
theorem dX12_linkClasses_37 : decode cX12_linkClasses 37 = .ok (.baload, 1) := by decide +kernel
theorem dX12_linkClasses_38 : decode cX12_linkClasses 38 = .ok (.ifCond .eq 17, 3) := by decide +kernel
theorem dX12_linkClasses_41 : decode cX12_linkClasses 41 = .ok (.aload_n 0, 1) := by decide +kernel
theorem dX12_linkClasses_42 : decode cX12_linkClasses 42 = .ok (.getfield 30, 3) := by decide +kernel
theorem dX12_linkClasses_45 : decode cX12_linkClasses 45 = .ok (.iload_n 1, 1) := by decide +kernel
theorem dX12_linkClasses_46 : decode cX12_linkClasses 46 = .ok (.baload, 1) := by decide +kernel
theorem dX12_linkClasses_47 : decode cX12_linkClasses 47 = .ok (.ifCond .eq 8, 3) := by decide +kernel
theorem dX12_linkClasses_55 : decode cX12_linkClasses 55 = .ok (.aload_n 0, 1) := by decide +kernel
theorem dX12_linkClasses_56 : decode cX12_linkClasses 56 = .ok (.getfield 165, 3) := by decide +kernel
theorem dX12_linkClasses_59 : decode cX12_linkClasses 59 = .ok (.iload_n 1, 1) := by decide +kernel
theorem dX12_linkClasses_60 : decode cX12_linkClasses 60 = .ok (.iload_n 1, 1) := by decide +kernel
theorem dX12_linkClasses_61 : decode cX12_linkClasses 61 = .ok (.ifCond .ne 7, 3) := by decide +kernel
theorem dX12_linkClasses_64 : decode cX12_linkClasses 64 = .ok (.iconst (-1), 1) := by decide +kernel
theorem dX12_linkClasses_65 : decode cX12_linkClasses 65 = .ok (.goto 4, 3) := by decide +kernel
theorem dX12_linkClasses_68 : decode cX12_linkClasses 68 = .ok (.iconst 0, 1) := by decide +kernel
theorem dX12_linkClasses_69 : decode cX12_linkClasses 69 = .ok (.iastore, 1) := by decide +kernel
theorem dX12_linkClasses_70 : decode cX12_linkClasses 70 = .ok (.aload_n 0, 1) := by decide +kernel
theorem dX12_linkClasses_71 : decode cX12_linkClasses 71 = .ok (.getfield 36, 3) := by decide +kernel
theorem dX12_linkClasses_74 : decode cX12_linkClasses 74 = .ok (.iload_n 1, 1) := by decide +kernel
theorem dX12_linkClasses_75 : decode cX12_linkClasses 75 = .ok (.iaload, 1) := by decide +kernel
theorem dX12_linkClasses_76 : decode cX12_linkClasses 76 = .ok (.iconst (-1), 1) := by decide +kernel
theorem dX12_linkClasses_77 : decode cX12_linkClasses 77 = .ok (.if_icmp .eq 69, 3) := by decide +kernel
theorem dX12_linkClasses_80 : decode cX12_linkClasses 80 = .ok (.aload_n 0, 1) := by decide +kernel
theorem dX12_linkClasses_81 : decode cX12_linkClasses 81 = .ok (.aload_n 0, 1) := by decide +kernel
theorem dX12_linkClasses_82 : decode cX12_linkClasses 82 = .ok (.getfield 36, 3) := by decide +kernel
theorem dX12_linkClasses_85 : decode cX12_linkClasses 85 = .ok (.iload_n 1, 1) := by decide +kernel
theorem dX12_linkClasses_86 : decode cX12_linkClasses 86 = .ok (.iaload, 1) := by decide +kernel
theorem dX12_linkClasses_87 : decode cX12_linkClasses 87 = .ok (.aload_n 0, 1) := by decide +kernel
theorem dX12_linkClasses_88 : decode cX12_linkClasses 88 = .ok (.getfield 39, 3) := by decide +kernel
theorem dX12_linkClasses_91 : decode cX12_linkClasses 91 = .ok (.iload_n 1, 1) := by decide +kernel
theorem dX12_linkClasses_92 : decode cX12_linkClasses 92 = .ok (.iaload, 1) := by decide +kernel
theorem dX12_linkClasses_93 : decode cX12_linkClasses 93 = .ok (.invokevirtual 761, 3) := by decide +kernel
theorem dX12_linkClasses_96 : decode cX12_linkClasses 96 = .ok (.istore_n 3, 1) := by decide +kernel
theorem dX12_linkClasses_97 : decode cX12_linkClasses 97 = .ok (.iload_n 3, 1) := by decide +kernel
theorem dX12_linkClasses_98 : decode cX12_linkClasses 98 = .ok (.iconst (-1), 1) := by decide +kernel
theorem dX12_linkClasses_99 : decode cX12_linkClasses 99 = .ok (.if_icmp .eq 21, 3) := by decide +kernel
theorem dX12_linkClasses_102 : decode cX12_linkClasses 102 = .ok (.aload_n 0, 1) := by decide +kernel
theorem dX12_linkClasses_103 : decode cX12_linkClasses 103 = .ok (.getfield 26, 3) := by decide +kernel
theorem dX12_linkClasses_106 : decode cX12_linkClasses 106 = .ok (.iload_n 3, 1) := by decide +kernel
theorem dX12_linkClasses_107 : decode cX12_linkClasses 107 = .ok (.baload, 1) := by decide +kernel
theorem dX12_linkClasses_108 : decode cX12_linkClasses 108 = .ok (.ifCond .ne 12, 3) := by decide +kernel
theorem dX12_linkClasses_111 : decode cX12_linkClasses 111 = .ok (.aload_n 0, 1) := by decide +kernel
theorem dX12_linkClasses_112 : decode cX12_linkClasses 112 = .ok (.getfield 26, 3) := by decide +kernel
theorem dX12_linkClasses_115 : decode cX12_linkClasses 115 = .ok (.iload_n 1, 1) := by decide +kernel
theorem dX12_linkClasses_116 : decode cX12_linkClasses 116 = .ok (.baload, 1) := by decide +kernel
theorem dX12_linkClasses_117 : decode cX12_linkClasses 117 = .ok (.ifCond .eq 13, 3) := by decide +kernel
theorem dX12_linkClasses_130 : decode cX12_linkClasses 130 = .ok (.aload_n 0, 1) := by decide +kernel
theorem dX12_linkClasses_131 : decode cX12_linkClasses 131 = .ok (.getfield 165, 3) := by decide +kernel
theorem dX12_linkClasses_134 : decode cX12_linkClasses 134 = .ok (.iload_n 1, 1) := by decide +kernel
theorem dX12_linkClasses_135 : decode cX12_linkClasses 135 = .ok (.iload_n 3, 1) := by decide +kernel
theorem dX12_linkClasses_136 : decode cX12_linkClasses 136 = .ok (.iconst (-1), 1) := by decide +kernel
theorem dX12_linkClasses_137 : decode cX12_linkClasses 137 = .ok (.if_icmp .ne 7, 3) := by decide +kernel
theorem dX12_linkClasses_144 : decode cX12_linkClasses 144 = .ok (.iload_n 3, 1) := by decide +kernel
theorem dX12_linkClasses_145 : decode cX12_linkClasses 145 = .ok (.iastore, 1) := by decide +kernel
theorem dX12_linkClasses_146 : decode cX12_linkClasses 146 = .ok (.iconst 0, 1) := by decide +kernel
theorem dX12_linkClasses_147 : decode cX12_linkClasses 147 = .ok (.istore_n 3, 1) := by decide +kernel
theorem dX12_linkClasses_148 : decode cX12_linkClasses 148 = .ok (.iload_n 3, 1) := by decide +kernel
theorem dX12_linkClasses_149 : decode cX12_linkClasses 149 = .ok (.aload_n 0, 1) := by decide +kernel
theorem dX12_linkClasses_150 : decode cX12_linkClasses 150 = .ok (.getfield 42, 3) := by decide +kernel
theorem dX12_linkClasses_153 : decode cX12_linkClasses 153 = .ok (.iload_n 1, 1) := by decide +kernel
theorem dX12_linkClasses_154 : decode cX12_linkClasses 154 = .ok (.iaload, 1) := by decide +kernel
theorem dX12_linkClasses_155 : decode cX12_linkClasses 155 = .ok (.if_icmp .ge 81, 3) := by decide +kernel
theorem dX12_linkClasses_158 : decode cX12_linkClasses 158 = .ok (.aload_n 0, 1) := by decide +kernel
theorem dX12_linkClasses_159 : decode cX12_linkClasses 159 = .ok (.aload_n 0, 1) := by decide +kernel
theorem dX12_linkClasses_160 : decode cX12_linkClasses 160 = .ok (.getfield 45, 3) := by decide +kernel
theorem dX12_linkClasses_163 : decode cX12_linkClasses 163 = .ok (.bipush 6, 2) := by decide +kernel
theorem dX12_linkClasses_165 : decode cX12_linkClasses 165 = .ok (.iload_n 1, 1) := by decide +kernel
theorem dX12_linkClasses_166 : decode cX12_linkClasses 166 = .ok (.imul, 1) := by decide +kernel
theorem dX12_linkClasses_167 : decode cX12_linkClasses 167 = .ok (.iload_n 3, 1) := by decide +kernel
theorem dX12_linkClasses_168 : decode cX12_linkClasses 168 = .ok (.iadd, 1) := by decide +kernel
theorem dX12_linkClasses_169 : decode cX12_linkClasses 169 = .ok (.iaload, 1) := by decide +kernel
theorem dX12_linkClasses_170 : decode cX12_linkClasses 170 = .ok (.aload_n 0, 1) := by decide +kernel
theorem dX12_linkClasses_171 : decode cX12_linkClasses 171 = .ok (.getfield 48, 3) := by decide +kernel
theorem dX12_linkClasses_174 : decode cX12_linkClasses 174 = .ok (.bipush 6, 2) := by decide +kernel
theorem dX12_linkClasses_176 : decode cX12_linkClasses 176 = .ok (.iload_n 1, 1) := by decide +kernel
theorem dX12_linkClasses_177 : decode cX12_linkClasses 177 = .ok (.imul, 1) := by decide +kernel
theorem dX12_linkClasses_178 : decode cX12_linkClasses 178 = .ok (.iload_n 3, 1) := by decide +kernel
theorem dX12_linkClasses_179 : decode cX12_linkClasses 179 = .ok (.iadd, 1) := by decide +kernel
theorem dX12_linkClasses_180 : decode cX12_linkClasses 180 = .ok (.iaload, 1) := by decide +kernel
theorem dX12_linkClasses_181 : decode cX12_linkClasses 181 = .ok (.invokevirtual 761, 3) := by decide +kernel
theorem dX12_linkClasses_184 : decode cX12_linkClasses 184 = .ok (.istore 4, 2) := by decide +kernel
theorem dX12_linkClasses_186 : decode cX12_linkClasses 186 = .ok (.iload 4, 2) := by decide +kernel
theorem dX12_linkClasses_188 : decode cX12_linkClasses 188 = .ok (.iconst (-1), 1) := by decide +kernel
theorem dX12_linkClasses_189 : decode cX12_linkClasses 189 = .ok (.if_icmp .eq 13, 3) := by decide +kernel
theorem dX12_linkClasses_192 : decode cX12_linkClasses 192 = .ok (.aload_n 0, 1) := by decide +kernel
theorem dX12_linkClasses_193 : decode cX12_linkClasses 193 = .ok (.getfield 26, 3) := by decide +kernel
theorem dX12_linkClasses_196 : decode cX12_linkClasses 196 = .ok (.iload 4, 2) := by decide +kernel
theorem dX12_linkClasses_198 : decode cX12_linkClasses 198 = .ok (.baload, 1) := by decide +kernel
theorem dX12_linkClasses_199 : decode cX12_linkClasses 199 = .ok (.ifCond .ne 18, 3) := by decide +kernel
theorem dX12_linkClasses_217 : decode cX12_linkClasses 217 = .ok (.aload_n 0, 1) := by decide +kernel
theorem dX12_linkClasses_218 : decode cX12_linkClasses 218 = .ok (.getfield 168, 3) := by decide +kernel
theorem dX12_linkClasses_221 : decode cX12_linkClasses 221 = .ok (.bipush 6, 2) := by decide +kernel
theorem dX12_linkClasses_223 : decode cX12_linkClasses 223 = .ok (.iload_n 1, 1) := by decide +kernel
theorem dX12_linkClasses_224 : decode cX12_linkClasses 224 = .ok (.imul, 1) := by decide +kernel
theorem dX12_linkClasses_225 : decode cX12_linkClasses 225 = .ok (.iload_n 3, 1) := by decide +kernel
theorem dX12_linkClasses_226 : decode cX12_linkClasses 226 = .ok (.iadd, 1) := by decide +kernel
theorem dX12_linkClasses_227 : decode cX12_linkClasses 227 = .ok (.iload 4, 2) := by decide +kernel
theorem dX12_linkClasses_229 : decode cX12_linkClasses 229 = .ok (.iastore, 1) := by decide +kernel
theorem dX12_linkClasses_230 : decode cX12_linkClasses 230 = .ok (.iinc 3 1, 3) := by decide +kernel
theorem dX12_linkClasses_233 : decode cX12_linkClasses 233 = .ok (.goto (-85), 3) := by decide +kernel
theorem dX12_linkClasses_236 : decode cX12_linkClasses 236 = .ok (.iinc 1 1, 3) := by decide +kernel
theorem dX12_linkClasses_239 : decode cX12_linkClasses 239 = .ok (.goto (-237), 3) := by decide +kernel
theorem dX12_linkClasses_242 : decode cX12_linkClasses 242 = .ok (.aload_n 0, 1) := by decide +kernel
theorem dX12_linkClasses_243 : decode cX12_linkClasses 243 = .ok (.invokevirtual 768, 3) := by decide +kernel
theorem dX12_linkClasses_246 : decode cX12_linkClasses 246 = .ok (.iconst 0, 1) := by decide +kernel
theorem dX12_linkClasses_247 : decode cX12_linkClasses 247 = .ok (.istore_n 1, 1) := by decide +kernel
theorem dX12_linkClasses_248 : decode cX12_linkClasses 248 = .ok (.iload_n 1, 1) := by decide +kernel
theorem dX12_linkClasses_249 : decode cX12_linkClasses 249 = .ok (.aload_n 0, 1) := by decide +kernel
theorem dX12_linkClasses_250 : decode cX12_linkClasses 250 = .ok (.getfield 684, 3) := by decide +kernel
theorem dX12_linkClasses_253 : decode cX12_linkClasses 253 = .ok (.if_icmp .ge 27, 3) := by decide +kernel
theorem dX12_linkClasses_256 : decode cX12_linkClasses 256 = .ok (.aload_n 0, 1) := by decide +kernel
theorem dX12_linkClasses_257 : decode cX12_linkClasses 257 = .ok (.iload_n 1, 1) := by decide +kernel
theorem dX12_linkClasses_258 : decode cX12_linkClasses 258 = .ok (.invokevirtual 771, 3) := by decide +kernel
theorem dX12_linkClasses_261 : decode cX12_linkClasses 261 = .ok (.ifCond .eq 13, 3) := by decide +kernel
theorem dX12_linkClasses_274 : decode cX12_linkClasses 274 = .ok (.iinc 1 1, 3) := by decide +kernel
theorem dX12_linkClasses_277 : decode cX12_linkClasses 277 = .ok (.goto (-29), 3) := by decide +kernel
theorem dX12_linkClasses_280 : decode cX12_linkClasses 280 = .ok (.return_, 1) := by decide +kernel
def rpX12_linkClasses : List Nat := [0, 1, 2, 3, 4, 7, 10, 11, 14, 15, 16, 17, 18, 19, 20, 23, 24, 25, 28, 29, 32, 33, 36, 37, 38, 41, 42, 45, 46, 47, 50, 55, 56, 59, 60, 61, 64, 65, 68, 69, 70, 71, 74, 75, 76, 77, 80, 81, 82, 85, 86, 87, 88, 91, 92, 93, 96, 97, 98, 99, 102, 103, 106, 107, 108, 111, 112, 115, 116, 117, 120, 130, 131, 134, 135, 136, 137, 140, 144, 145, 146, 147, 148, 149, 150, 153, 154, 155, 158, 159, 160, 163, 165, 166, 167, 168, 169, 170, 171, 174, 176, 177, 178, 179, 180, 181, 184, 186, 188, 189, 192, 193, 196, 198, 199, 202, 217, 218, 221, 223, 224, 225, 226, 227, 229, 230, 233, 236, 239, 242, 243, 246, 247, 248, 249, 250, 253, 256, 257, 258, 261, 264, 274, 277, 280]
noncomputable def rcX12_linkClasses : List rz_B := [rz_cst 0, rz_istore 1, rz_iload 1, rz_aload 0, rz_getf (Nat.add (Nat.mul 256 14) 1) 13 rz_i, rz_icmpge 129, rz_aload 0, rz_getf (Nat.add (Nat.mul 256 14) 1) 14 rz_r, rz_iload 1, rz_iald, rz_istore 2, rz_aload 0, rz_iload 2, rz_aload 0, rz_getf (Nat.add (Nat.mul 256 14) 1) 15 rz_r, rz_iload 1, rz_iald, rz_callV 2 (Nat.add (Nat.mul 256 14) 1) rgX12_classNamed, rz_iload 1, rz_icmpne 30, rz_aload 0, rz_getf (Nat.add (Nat.mul 256 14) 1) 16 rz_r, rz_iload 1, rz_zald, rz_ifeq 31, rz_aload 0, rz_getf (Nat.add (Nat.mul 256 14) 1) 17 rz_r, rz_iload 1, rz_zald, rz_ifeq 31, rz_no, rz_aload 0, rz_getf (Nat.add (Nat.mul 256 14) 1) 71 rz_r, rz_iload 1, rz_iload 1, rz_ifne 38, rz_cst 4294967295, rz_goto 39, rz_cst 0, rz_iast, rz_aload 0, rz_getf (Nat.add (Nat.mul 256 14) 1) 19 rz_r, rz_iload 1, rz_iald, rz_cst 4294967295, rz_icmpeq 80, rz_aload 0, rz_aload 0, rz_getf (Nat.add (Nat.mul 256 14) 1) 19 rz_r, rz_iload 1, rz_iald, rz_aload 0, rz_getf (Nat.add (Nat.mul 256 14) 1) 20 rz_r, rz_iload 1, rz_iald, rz_callV 2 (Nat.add (Nat.mul 256 14) 1) rgX12_classNamed, rz_istore 3, rz_iload 3, rz_cst 4294967295, rz_icmpeq 70, rz_aload 0, rz_getf (Nat.add (Nat.mul 256 14) 1) 16 rz_r, rz_iload 3, rz_zald, rz_ifne 70, rz_aload 0, rz_getf (Nat.add (Nat.mul 256 14) 1) 16 rz_r, rz_iload 1, rz_zald, rz_ifeq 71, rz_no, rz_aload 0, rz_getf (Nat.add (Nat.mul 256 14) 1) 71 rz_r, rz_iload 1, rz_iload 3, rz_cst 4294967295, rz_icmpne 78, rz_no, rz_iload 3, rz_iast, rz_cst 0, rz_istore 3, rz_iload 3, rz_aload 0, rz_getf (Nat.add (Nat.mul 256 14) 1) 21 rz_r, rz_iload 1, rz_iald, rz_icmpge 127, rz_aload 0, rz_aload 0, rz_getf (Nat.add (Nat.mul 256 14) 1) 22 rz_r, rz_cst 6, rz_iload 1, rz_imul, rz_iload 3, rz_iadd, rz_iald, rz_aload 0, rz_getf (Nat.add (Nat.mul 256 14) 1) 23 rz_r, rz_cst 6, rz_iload 1, rz_imul, rz_iload 3, rz_iadd, rz_iald, rz_callV 2 (Nat.add (Nat.mul 256 14) 1) rgX12_classNamed, rz_istore 4, rz_iload 4, rz_cst 4294967295, rz_icmpeq 115, rz_aload 0, rz_getf (Nat.add (Nat.mul 256 14) 1) 16 rz_r, rz_iload 4, rz_zald, rz_ifne 116, rz_no, rz_aload 0, rz_getf (Nat.add (Nat.mul 256 14) 1) 72 rz_r, rz_cst 6, rz_iload 1, rz_imul, rz_iload 3, rz_iadd, rz_iload 4, rz_iast, rz_iinc 3 1, rz_goto 82, rz_iinc 1 1, rz_goto 2, rz_aload 0, rz_callVv 0 (Nat.add (Nat.mul 256 14) 1) rgX12_closeBelow, rz_cst 0, rz_istore 1, rz_iload 1, rz_aload 0, rz_getf (Nat.add (Nat.mul 256 14) 1) 13 rz_i, rz_icmpge 144, rz_aload 0, rz_iload 1, rz_callV 1 (Nat.add (Nat.mul 256 14) 1) rgX12_isRound, rz_ifeq 142, rz_no, rz_iinc 1 1, rz_goto 133, rz_vret]
noncomputable def rgX12_linkClasses : rz_L → rz_M → rz_Z → Bool := rz_go rcX12_linkClasses 5 1000000
def rrX12_linkClasses : Room := { frames := 2, cells := 0, slots := 0, locals := 49 }
theorem rmX12_linkClasses (l : Launch) {G : rz_G} (hG : rz_Gd G) (vs : rz_L) (M : rz_M) (Z : rz_Z) (hn : vs.length = 1) (h : rgX12_linkClasses vs M Z = true) : Met l yX12_linkClasses (Cond.code yX12_linkClasses cX12_linkClasses 5 none :: rz_TB) rrX12_linkClasses (rz_Pre G vs M) (rz_Qv G M.2 Z) 0 0 (fun q => rz_b G ≤ q) := by
  obtain ⟨D, tc, ad, b, xs, rfl⟩ := id hG
  refine rz_body (pcs := rpX12_linkClasses) (by decide) rfl (by rw [hn]; decide) h ?_
  intro p e R s m args below meth c hC
  obtain ⟨hx, hb, hml, hr, hlk, ho, hts, hKn, hRm⟩ := id hC
  obtain ⟨hK, hA, hSt⟩ := id hKn
  have hw : ∀ {i j : Nat} {ws : List Cond} {w : Cond}, rz_WW[i]? = some ws → ws[j]? = some w → w.before args s = true := fun h1 h2 => hts _ (List.mem_cons_of_mem _ (rz_mem h1 h2))
  refine rz_All_c (i := 0) (fun k J hk hJ => rz_iconst_ok (pc := 0) hx hb dX12_linkClasses_0 rfl hk) ?_
  refine rz_All_c (i := 1) (fun k J hk hJ => rz_istore_n_ok (pc := 1) hx hb dX12_linkClasses_1 rfl hk) ?_
  refine rz_All_c (i := 2) (fun k J hk hJ => rz_iload_n_ok (pc := 2) hx hb dX12_linkClasses_2 rfl hk) ?_
  refine rz_All_c (i := 3) (fun k J hk hJ => rz_aload_n_ok (pc := 3) hx hb dX12_linkClasses_3 rfl hk) ?_
  refine rz_All_c (i := 4) (fun k J hk hJ => rz_getf_ok (pc := 4) (own := RX12) (ref := "ThreadJudgeModel") (C := RX12) (T := TX12) (N := 257) (ci := 14) (index := 684) (f := 13) (t := 0) (Ts := Cond.code yX12_linkClasses cX12_linkClasses 5 none :: rz_TB) hx hb hts rz_in14 ho hK rfl (by decide) rfl (fun _ => rfl) (hw (i := 32) (j := 17) rfl rfl) (fun _ z => z) dX12_linkClasses_4 hk) ?_
  refine rz_All_c (i := 5) (fun k J hk hJ => rz_icmpge_ok (pc := 7) hx hb dX12_linkClasses_7 rfl hk (hJ 129)) ?_
  refine rz_All_c (i := 6) (fun k J hk hJ => rz_aload_n_ok (pc := 10) hx hb dX12_linkClasses_10 rfl hk) ?_
  refine rz_All_c (i := 7) (fun k J hk hJ => rz_getf_ok (pc := 11) (own := RX12) (ref := "ThreadJudgeModel") (C := RX12) (T := TX12) (N := 257) (ci := 14) (index := 20) (f := 14) (t := 2) (Ts := Cond.code yX12_linkClasses cX12_linkClasses 5 none :: rz_TB) hx hb hts rz_in14 ho hK rfl (by decide) rfl (fun _ => rfl) (hw (i := 36) (j := 10) rfl rfl) (fun _ z => z) dX12_linkClasses_11 hk) ?_
  refine rz_All_c (i := 8) (fun k J hk hJ => rz_iload_n_ok (pc := 14) hx hb dX12_linkClasses_14 rfl hk) ?_
  refine rz_All_c (i := 9) (fun k J hk hJ => rz_iald_ok (pc := 15) hx hb hK dX12_linkClasses_15 hk) ?_
  refine rz_All_c (i := 10) (fun k J hk hJ => rz_istore_n_ok (pc := 16) hx hb dX12_linkClasses_16 rfl hk) ?_
  refine rz_All_c (i := 11) (fun k J hk hJ => rz_aload_n_ok (pc := 17) hx hb dX12_linkClasses_17 rfl hk) ?_
  refine rz_All_c (i := 12) (fun k J hk hJ => rz_iload_n_ok (pc := 18) hx hb dX12_linkClasses_18 rfl hk) ?_
  refine rz_All_c (i := 13) (fun k J hk hJ => rz_aload_n_ok (pc := 19) hx hb dX12_linkClasses_19 rfl hk) ?_
  refine rz_All_c (i := 14) (fun k J hk hJ => rz_getf_ok (pc := 20) (own := RX12) (ref := "ThreadJudgeModel") (C := RX12) (T := TX12) (N := 257) (ci := 14) (index := 23) (f := 15) (t := 2) (Ts := Cond.code yX12_linkClasses cX12_linkClasses 5 none :: rz_TB) hx hb hts rz_in14 ho hK rfl (by decide) rfl (fun _ => rfl) (hw (i := 36) (j := 12) rfl rfl) (fun _ z => z) dX12_linkClasses_20 hk) ?_
  refine rz_All_c (i := 15) (fun k J hk hJ => rz_iload_n_ok (pc := 23) hx hb dX12_linkClasses_23 rfl hk) ?_
  refine rz_All_c (i := 16) (fun k J hk hJ => rz_iald_ok (pc := 24) hx hb hK dX12_linkClasses_24 hk) ?_
  refine rz_All_c (i := 17) (fun k J hk hJ => rz_callV_ok (pc := 25) (own := RX12) (C := RX12) (T0 := TX12) (N0 := 257) hC rfl (rmX12_classNamed l hG) (rz_cwV 2 hC rz_good (rz_mem (i := 42) (j := 22) rfl rfl) (rz_mem (i := 42) (j := 23) rfl rfl) (rz_mem (i := 43) (j := 0) rfl rfl) (rz_mem (i := 32) (j := 8) rfl rfl) (rz_mem (i := 43) (j := 1) rfl rfl) ⟨rfl, by decide, by decide, by decide +kernel⟩ rfl rfl ⟨by decide, by decide⟩) rfl dX12_linkClasses_25 hk) ?_
  refine rz_All_c (i := 18) (fun k J hk hJ => rz_iload_n_ok (pc := 28) hx hb dX12_linkClasses_28 rfl hk) ?_
  refine rz_All_c (i := 19) (fun k J hk hJ => rz_icmpne_ok (pc := 29) hx hb dX12_linkClasses_29 rfl hk (hJ 30)) ?_
  refine rz_All_c (i := 20) (fun k J hk hJ => rz_aload_n_ok (pc := 32) hx hb dX12_linkClasses_32 rfl hk) ?_
  refine rz_All_c (i := 21) (fun k J hk hJ => rz_getf_ok (pc := 33) (own := RX12) (ref := "ThreadJudgeModel") (C := RX12) (T := TX12) (N := 257) (ci := 14) (index := 26) (f := 16) (t := 2) (Ts := Cond.code yX12_linkClasses cX12_linkClasses 5 none :: rz_TB) hx hb hts rz_in14 ho hK rfl (by decide) rfl (fun _ => rfl) (hw (i := 36) (j := 14) rfl rfl) (fun _ z => z) dX12_linkClasses_33 hk) ?_
  refine rz_All_c (i := 22) (fun k J hk hJ => rz_iload_n_ok (pc := 36) hx hb dX12_linkClasses_36 rfl hk) ?_
  refine rz_All_c (i := 23) (fun k J hk hJ => rz_zald_ok (pc := 37) hx hb hK dX12_linkClasses_37 hk) ?_
  refine rz_All_c (i := 24) (fun k J hk hJ => rz_ifeq_ok (pc := 38) hx hb dX12_linkClasses_38 rfl hk (hJ 31)) ?_
  refine rz_All_c (i := 25) (fun k J hk hJ => rz_aload_n_ok (pc := 41) hx hb dX12_linkClasses_41 rfl hk) ?_
  refine rz_All_c (i := 26) (fun k J hk hJ => rz_getf_ok (pc := 42) (own := RX12) (ref := "ThreadJudgeModel") (C := RX12) (T := TX12) (N := 257) (ci := 14) (index := 30) (f := 17) (t := 2) (Ts := Cond.code yX12_linkClasses cX12_linkClasses 5 none :: rz_TB) hx hb hts rz_in14 ho hK rfl (by decide) rfl (fun _ => rfl) (hw (i := 36) (j := 15) rfl rfl) (fun _ z => z) dX12_linkClasses_42 hk) ?_
  refine rz_All_c (i := 27) (fun k J hk hJ => rz_iload_n_ok (pc := 45) hx hb dX12_linkClasses_45 rfl hk) ?_
  refine rz_All_c (i := 28) (fun k J hk hJ => rz_zald_ok (pc := 46) hx hb hK dX12_linkClasses_46 hk) ?_
  refine rz_All_c (i := 29) (fun k J hk hJ => rz_ifeq_ok (pc := 47) hx hb dX12_linkClasses_47 rfl hk (hJ 31)) ?_
  refine rz_All_c (i := 30) (fun k J hk hJ => rz_no_ok) ?_
  refine rz_All_c (i := 31) (fun k J hk hJ => rz_aload_n_ok (pc := 55) hx hb dX12_linkClasses_55 rfl hk) ?_
  refine rz_All_c (i := 32) (fun k J hk hJ => rz_getf_ok (pc := 56) (own := RX12) (ref := "ThreadJudgeModel") (C := RX12) (T := TX12) (N := 257) (ci := 14) (index := 165) (f := 71) (t := 2) (Ts := Cond.code yX12_linkClasses cX12_linkClasses 5 none :: rz_TB) hx hb hts rz_in14 ho hK rfl (by decide) rfl (fun _ => rfl) (hw (i := 42) (j := 16) rfl rfl) (fun _ z => z) dX12_linkClasses_56 hk) ?_
  refine rz_All_c (i := 33) (fun k J hk hJ => rz_iload_n_ok (pc := 59) hx hb dX12_linkClasses_59 rfl hk) ?_
  refine rz_All_c (i := 34) (fun k J hk hJ => rz_iload_n_ok (pc := 60) hx hb dX12_linkClasses_60 rfl hk) ?_
  refine rz_All_c (i := 35) (fun k J hk hJ => rz_ifne_ok (pc := 61) hx hb dX12_linkClasses_61 rfl hk (hJ 38)) ?_
  refine rz_All_c (i := 36) (fun k J hk hJ => rz_iconst_ok (pc := 64) hx hb dX12_linkClasses_64 rfl hk) ?_
  refine rz_All_c (i := 37) (fun k J hk hJ => rz_goto_ok (pc := 65) hx hb dX12_linkClasses_65 rfl (hJ 39)) ?_
  refine rz_All_c (i := 38) (fun k J hk hJ => rz_iconst_ok (pc := 68) hx hb dX12_linkClasses_68 rfl hk) ?_
  refine rz_All_c (i := 39) (fun k J hk hJ => rz_iast_ok (pc := 69) hx hb hK hA dX12_linkClasses_69 hk) ?_
  refine rz_All_c (i := 40) (fun k J hk hJ => rz_aload_n_ok (pc := 70) hx hb dX12_linkClasses_70 rfl hk) ?_
  refine rz_All_c (i := 41) (fun k J hk hJ => rz_getf_ok (pc := 71) (own := RX12) (ref := "ThreadJudgeModel") (C := RX12) (T := TX12) (N := 257) (ci := 14) (index := 36) (f := 19) (t := 2) (Ts := Cond.code yX12_linkClasses cX12_linkClasses 5 none :: rz_TB) hx hb hts rz_in14 ho hK rfl (by decide) rfl (fun _ => rfl) (hw (i := 36) (j := 17) rfl rfl) (fun _ z => z) dX12_linkClasses_71 hk) ?_
  refine rz_All_c (i := 42) (fun k J hk hJ => rz_iload_n_ok (pc := 74) hx hb dX12_linkClasses_74 rfl hk) ?_
  refine rz_All_c (i := 43) (fun k J hk hJ => rz_iald_ok (pc := 75) hx hb hK dX12_linkClasses_75 hk) ?_
  refine rz_All_c (i := 44) (fun k J hk hJ => rz_iconst_ok (pc := 76) hx hb dX12_linkClasses_76 rfl hk) ?_
  refine rz_All_c (i := 45) (fun k J hk hJ => rz_icmpeq_ok (pc := 77) hx hb dX12_linkClasses_77 rfl hk (hJ 80)) ?_
  refine rz_All_c (i := 46) (fun k J hk hJ => rz_aload_n_ok (pc := 80) hx hb dX12_linkClasses_80 rfl hk) ?_
  refine rz_All_c (i := 47) (fun k J hk hJ => rz_aload_n_ok (pc := 81) hx hb dX12_linkClasses_81 rfl hk) ?_
  refine rz_All_c (i := 48) (fun k J hk hJ => rz_getf_ok (pc := 82) (own := RX12) (ref := "ThreadJudgeModel") (C := RX12) (T := TX12) (N := 257) (ci := 14) (index := 36) (f := 19) (t := 2) (Ts := Cond.code yX12_linkClasses cX12_linkClasses 5 none :: rz_TB) hx hb hts rz_in14 ho hK rfl (by decide) rfl (fun _ => rfl) (hw (i := 36) (j := 17) rfl rfl) (fun _ z => z) dX12_linkClasses_82 hk) ?_
  refine rz_All_c (i := 49) (fun k J hk hJ => rz_iload_n_ok (pc := 85) hx hb dX12_linkClasses_85 rfl hk) ?_
  refine rz_All_c (i := 50) (fun k J hk hJ => rz_iald_ok (pc := 86) hx hb hK dX12_linkClasses_86 hk) ?_
  refine rz_All_c (i := 51) (fun k J hk hJ => rz_aload_n_ok (pc := 87) hx hb dX12_linkClasses_87 rfl hk) ?_
  refine rz_All_c (i := 52) (fun k J hk hJ => rz_getf_ok (pc := 88) (own := RX12) (ref := "ThreadJudgeModel") (C := RX12) (T := TX12) (N := 257) (ci := 14) (index := 39) (f := 20) (t := 2) (Ts := Cond.code yX12_linkClasses cX12_linkClasses 5 none :: rz_TB) hx hb hts rz_in14 ho hK rfl (by decide) rfl (fun _ => rfl) (hw (i := 36) (j := 21) rfl rfl) (fun _ z => z) dX12_linkClasses_88 hk) ?_
  refine rz_All_c (i := 53) (fun k J hk hJ => rz_iload_n_ok (pc := 91) hx hb dX12_linkClasses_91 rfl hk) ?_
  refine rz_All_c (i := 54) (fun k J hk hJ => rz_iald_ok (pc := 92) hx hb hK dX12_linkClasses_92 hk) ?_
  refine rz_All_c (i := 55) (fun k J hk hJ => rz_callV_ok (pc := 93) (own := RX12) (C := RX12) (T0 := TX12) (N0 := 257) hC rfl (rmX12_classNamed l hG) (rz_cwV 2 hC rz_good (rz_mem (i := 42) (j := 22) rfl rfl) (rz_mem (i := 42) (j := 23) rfl rfl) (rz_mem (i := 43) (j := 0) rfl rfl) (rz_mem (i := 32) (j := 8) rfl rfl) (rz_mem (i := 43) (j := 1) rfl rfl) ⟨rfl, by decide, by decide, by decide +kernel⟩ rfl rfl ⟨by decide, by decide⟩) rfl dX12_linkClasses_93 hk) ?_
  refine rz_All_c (i := 56) (fun k J hk hJ => rz_istore_n_ok (pc := 96) hx hb dX12_linkClasses_96 rfl hk) ?_
  refine rz_All_c (i := 57) (fun k J hk hJ => rz_iload_n_ok (pc := 97) hx hb dX12_linkClasses_97 rfl hk) ?_
  refine rz_All_c (i := 58) (fun k J hk hJ => rz_iconst_ok (pc := 98) hx hb dX12_linkClasses_98 rfl hk) ?_
  refine rz_All_c (i := 59) (fun k J hk hJ => rz_icmpeq_ok (pc := 99) hx hb dX12_linkClasses_99 rfl hk (hJ 70)) ?_
  refine rz_All_c (i := 60) (fun k J hk hJ => rz_aload_n_ok (pc := 102) hx hb dX12_linkClasses_102 rfl hk) ?_
  refine rz_All_c (i := 61) (fun k J hk hJ => rz_getf_ok (pc := 103) (own := RX12) (ref := "ThreadJudgeModel") (C := RX12) (T := TX12) (N := 257) (ci := 14) (index := 26) (f := 16) (t := 2) (Ts := Cond.code yX12_linkClasses cX12_linkClasses 5 none :: rz_TB) hx hb hts rz_in14 ho hK rfl (by decide) rfl (fun _ => rfl) (hw (i := 36) (j := 14) rfl rfl) (fun _ z => z) dX12_linkClasses_103 hk) ?_
  refine rz_All_c (i := 62) (fun k J hk hJ => rz_iload_n_ok (pc := 106) hx hb dX12_linkClasses_106 rfl hk) ?_
  refine rz_All_c (i := 63) (fun k J hk hJ => rz_zald_ok (pc := 107) hx hb hK dX12_linkClasses_107 hk) ?_
  refine rz_All_c (i := 64) (fun k J hk hJ => rz_ifne_ok (pc := 108) hx hb dX12_linkClasses_108 rfl hk (hJ 70)) ?_
  refine rz_All_c (i := 65) (fun k J hk hJ => rz_aload_n_ok (pc := 111) hx hb dX12_linkClasses_111 rfl hk) ?_
  refine rz_All_c (i := 66) (fun k J hk hJ => rz_getf_ok (pc := 112) (own := RX12) (ref := "ThreadJudgeModel") (C := RX12) (T := TX12) (N := 257) (ci := 14) (index := 26) (f := 16) (t := 2) (Ts := Cond.code yX12_linkClasses cX12_linkClasses 5 none :: rz_TB) hx hb hts rz_in14 ho hK rfl (by decide) rfl (fun _ => rfl) (hw (i := 36) (j := 14) rfl rfl) (fun _ z => z) dX12_linkClasses_112 hk) ?_
  refine rz_All_c (i := 67) (fun k J hk hJ => rz_iload_n_ok (pc := 115) hx hb dX12_linkClasses_115 rfl hk) ?_
  refine rz_All_c (i := 68) (fun k J hk hJ => rz_zald_ok (pc := 116) hx hb hK dX12_linkClasses_116 hk) ?_
  refine rz_All_c (i := 69) (fun k J hk hJ => rz_ifeq_ok (pc := 117) hx hb dX12_linkClasses_117 rfl hk (hJ 71)) ?_
  refine rz_All_c (i := 70) (fun k J hk hJ => rz_no_ok) ?_
  refine rz_All_c (i := 71) (fun k J hk hJ => rz_aload_n_ok (pc := 130) hx hb dX12_linkClasses_130 rfl hk) ?_
  refine rz_All_c (i := 72) (fun k J hk hJ => rz_getf_ok (pc := 131) (own := RX12) (ref := "ThreadJudgeModel") (C := RX12) (T := TX12) (N := 257) (ci := 14) (index := 165) (f := 71) (t := 2) (Ts := Cond.code yX12_linkClasses cX12_linkClasses 5 none :: rz_TB) hx hb hts rz_in14 ho hK rfl (by decide) rfl (fun _ => rfl) (hw (i := 42) (j := 16) rfl rfl) (fun _ z => z) dX12_linkClasses_131 hk) ?_
  refine rz_All_c (i := 73) (fun k J hk hJ => rz_iload_n_ok (pc := 134) hx hb dX12_linkClasses_134 rfl hk) ?_
  refine rz_All_c (i := 74) (fun k J hk hJ => rz_iload_n_ok (pc := 135) hx hb dX12_linkClasses_135 rfl hk) ?_
  refine rz_All_c (i := 75) (fun k J hk hJ => rz_iconst_ok (pc := 136) hx hb dX12_linkClasses_136 rfl hk) ?_
  refine rz_All_c (i := 76) (fun k J hk hJ => rz_icmpne_ok (pc := 137) hx hb dX12_linkClasses_137 rfl hk (hJ 78)) ?_
  refine rz_All_c (i := 77) (fun k J hk hJ => rz_no_ok) ?_
  refine rz_All_c (i := 78) (fun k J hk hJ => rz_iload_n_ok (pc := 144) hx hb dX12_linkClasses_144 rfl hk) ?_
  refine rz_All_c (i := 79) (fun k J hk hJ => rz_iast_ok (pc := 145) hx hb hK hA dX12_linkClasses_145 hk) ?_
  refine rz_All_c (i := 80) (fun k J hk hJ => rz_iconst_ok (pc := 146) hx hb dX12_linkClasses_146 rfl hk) ?_
  refine rz_All_c (i := 81) (fun k J hk hJ => rz_istore_n_ok (pc := 147) hx hb dX12_linkClasses_147 rfl hk) ?_
  refine rz_All_c (i := 82) (fun k J hk hJ => rz_iload_n_ok (pc := 148) hx hb dX12_linkClasses_148 rfl hk) ?_
  refine rz_All_c (i := 83) (fun k J hk hJ => rz_aload_n_ok (pc := 149) hx hb dX12_linkClasses_149 rfl hk) ?_
  refine rz_All_c (i := 84) (fun k J hk hJ => rz_getf_ok (pc := 150) (own := RX12) (ref := "ThreadJudgeModel") (C := RX12) (T := TX12) (N := 257) (ci := 14) (index := 42) (f := 21) (t := 2) (Ts := Cond.code yX12_linkClasses cX12_linkClasses 5 none :: rz_TB) hx hb hts rz_in14 ho hK rfl (by decide) rfl (fun _ => rfl) (hw (i := 36) (j := 18) rfl rfl) (fun _ z => z) dX12_linkClasses_150 hk) ?_
  refine rz_All_c (i := 85) (fun k J hk hJ => rz_iload_n_ok (pc := 153) hx hb dX12_linkClasses_153 rfl hk) ?_
  refine rz_All_c (i := 86) (fun k J hk hJ => rz_iald_ok (pc := 154) hx hb hK dX12_linkClasses_154 hk) ?_
  refine rz_All_c (i := 87) (fun k J hk hJ => rz_icmpge_ok (pc := 155) hx hb dX12_linkClasses_155 rfl hk (hJ 127)) ?_
  refine rz_All_c (i := 88) (fun k J hk hJ => rz_aload_n_ok (pc := 158) hx hb dX12_linkClasses_158 rfl hk) ?_
  refine rz_All_c (i := 89) (fun k J hk hJ => rz_aload_n_ok (pc := 159) hx hb dX12_linkClasses_159 rfl hk) ?_
  refine rz_All_c (i := 90) (fun k J hk hJ => rz_getf_ok (pc := 160) (own := RX12) (ref := "ThreadJudgeModel") (C := RX12) (T := TX12) (N := 257) (ci := 14) (index := 45) (f := 22) (t := 2) (Ts := Cond.code yX12_linkClasses cX12_linkClasses 5 none :: rz_TB) hx hb hts rz_in14 ho hK rfl (by decide) rfl (fun _ => rfl) (hw (i := 36) (j := 22) rfl rfl) (fun _ z => z) dX12_linkClasses_160 hk) ?_
  refine rz_All_c (i := 91) (fun k J hk hJ => rz_bipush_ok (pc := 163) hx hb dX12_linkClasses_163 (by decide) hk) ?_
  refine rz_All_c (i := 92) (fun k J hk hJ => rz_iload_n_ok (pc := 165) hx hb dX12_linkClasses_165 rfl hk) ?_
  refine rz_All_c (i := 93) (fun k J hk hJ => rz_imul_ok (pc := 166) hx hb dX12_linkClasses_166 hk) ?_
  refine rz_All_c (i := 94) (fun k J hk hJ => rz_iload_n_ok (pc := 167) hx hb dX12_linkClasses_167 rfl hk) ?_
  refine rz_All_c (i := 95) (fun k J hk hJ => rz_iadd_ok (pc := 168) hx hb dX12_linkClasses_168 hk) ?_
  refine rz_All_c (i := 96) (fun k J hk hJ => rz_iald_ok (pc := 169) hx hb hK dX12_linkClasses_169 hk) ?_
  refine rz_All_c (i := 97) (fun k J hk hJ => rz_aload_n_ok (pc := 170) hx hb dX12_linkClasses_170 rfl hk) ?_
  refine rz_All_c (i := 98) (fun k J hk hJ => rz_getf_ok (pc := 171) (own := RX12) (ref := "ThreadJudgeModel") (C := RX12) (T := TX12) (N := 257) (ci := 14) (index := 48) (f := 23) (t := 2) (Ts := Cond.code yX12_linkClasses cX12_linkClasses 5 none :: rz_TB) hx hb hts rz_in14 ho hK rfl (by decide) rfl (fun _ => rfl) (hw (i := 36) (j := 23) rfl rfl) (fun _ z => z) dX12_linkClasses_171 hk) ?_
  refine rz_All_c (i := 99) (fun k J hk hJ => rz_bipush_ok (pc := 174) hx hb dX12_linkClasses_174 (by decide) hk) ?_
  refine rz_All_c (i := 100) (fun k J hk hJ => rz_iload_n_ok (pc := 176) hx hb dX12_linkClasses_176 rfl hk) ?_
  refine rz_All_c (i := 101) (fun k J hk hJ => rz_imul_ok (pc := 177) hx hb dX12_linkClasses_177 hk) ?_
  refine rz_All_c (i := 102) (fun k J hk hJ => rz_iload_n_ok (pc := 178) hx hb dX12_linkClasses_178 rfl hk) ?_
  refine rz_All_c (i := 103) (fun k J hk hJ => rz_iadd_ok (pc := 179) hx hb dX12_linkClasses_179 hk) ?_
  refine rz_All_c (i := 104) (fun k J hk hJ => rz_iald_ok (pc := 180) hx hb hK dX12_linkClasses_180 hk) ?_
  refine rz_All_c (i := 105) (fun k J hk hJ => rz_callV_ok (pc := 181) (own := RX12) (C := RX12) (T0 := TX12) (N0 := 257) hC rfl (rmX12_classNamed l hG) (rz_cwV 2 hC rz_good (rz_mem (i := 42) (j := 22) rfl rfl) (rz_mem (i := 42) (j := 23) rfl rfl) (rz_mem (i := 43) (j := 0) rfl rfl) (rz_mem (i := 32) (j := 8) rfl rfl) (rz_mem (i := 43) (j := 1) rfl rfl) ⟨rfl, by decide, by decide, by decide +kernel⟩ rfl rfl ⟨by decide, by decide⟩) rfl dX12_linkClasses_181 hk) ?_
  refine rz_All_c (i := 106) (fun k J hk hJ => rz_istore_ok (pc := 184) hx hb dX12_linkClasses_184 hk) ?_
  refine rz_All_c (i := 107) (fun k J hk hJ => rz_iload_ok (pc := 186) hx hb dX12_linkClasses_186 hk) ?_
  refine rz_All_c (i := 108) (fun k J hk hJ => rz_iconst_ok (pc := 188) hx hb dX12_linkClasses_188 rfl hk) ?_
  refine rz_All_c (i := 109) (fun k J hk hJ => rz_icmpeq_ok (pc := 189) hx hb dX12_linkClasses_189 rfl hk (hJ 115)) ?_
  refine rz_All_c (i := 110) (fun k J hk hJ => rz_aload_n_ok (pc := 192) hx hb dX12_linkClasses_192 rfl hk) ?_
  refine rz_All_c (i := 111) (fun k J hk hJ => rz_getf_ok (pc := 193) (own := RX12) (ref := "ThreadJudgeModel") (C := RX12) (T := TX12) (N := 257) (ci := 14) (index := 26) (f := 16) (t := 2) (Ts := Cond.code yX12_linkClasses cX12_linkClasses 5 none :: rz_TB) hx hb hts rz_in14 ho hK rfl (by decide) rfl (fun _ => rfl) (hw (i := 36) (j := 14) rfl rfl) (fun _ z => z) dX12_linkClasses_193 hk) ?_
  refine rz_All_c (i := 112) (fun k J hk hJ => rz_iload_ok (pc := 196) hx hb dX12_linkClasses_196 hk) ?_
  refine rz_All_c (i := 113) (fun k J hk hJ => rz_zald_ok (pc := 198) hx hb hK dX12_linkClasses_198 hk) ?_
  refine rz_All_c (i := 114) (fun k J hk hJ => rz_ifne_ok (pc := 199) hx hb dX12_linkClasses_199 rfl hk (hJ 116)) ?_
  refine rz_All_c (i := 115) (fun k J hk hJ => rz_no_ok) ?_
  refine rz_All_c (i := 116) (fun k J hk hJ => rz_aload_n_ok (pc := 217) hx hb dX12_linkClasses_217 rfl hk) ?_
  refine rz_All_c (i := 117) (fun k J hk hJ => rz_getf_ok (pc := 218) (own := RX12) (ref := "ThreadJudgeModel") (C := RX12) (T := TX12) (N := 257) (ci := 14) (index := 168) (f := 72) (t := 2) (Ts := Cond.code yX12_linkClasses cX12_linkClasses 5 none :: rz_TB) hx hb hts rz_in14 ho hK rfl (by decide) rfl (fun _ => rfl) (hw (i := 42) (j := 21) rfl rfl) (fun _ z => z) dX12_linkClasses_218 hk) ?_
  refine rz_All_c (i := 118) (fun k J hk hJ => rz_bipush_ok (pc := 221) hx hb dX12_linkClasses_221 (by decide) hk) ?_
  refine rz_All_c (i := 119) (fun k J hk hJ => rz_iload_n_ok (pc := 223) hx hb dX12_linkClasses_223 rfl hk) ?_
  refine rz_All_c (i := 120) (fun k J hk hJ => rz_imul_ok (pc := 224) hx hb dX12_linkClasses_224 hk) ?_
  refine rz_All_c (i := 121) (fun k J hk hJ => rz_iload_n_ok (pc := 225) hx hb dX12_linkClasses_225 rfl hk) ?_
  refine rz_All_c (i := 122) (fun k J hk hJ => rz_iadd_ok (pc := 226) hx hb dX12_linkClasses_226 hk) ?_
  refine rz_All_c (i := 123) (fun k J hk hJ => rz_iload_ok (pc := 227) hx hb dX12_linkClasses_227 hk) ?_
  refine rz_All_c (i := 124) (fun k J hk hJ => rz_iast_ok (pc := 229) hx hb hK hA dX12_linkClasses_229 hk) ?_
  refine rz_All_c (i := 125) (fun k J hk hJ => rz_iinc_ok (pc := 230) hx hb dX12_linkClasses_230 (by decide) hk) ?_
  refine rz_All_c (i := 126) (fun k J hk hJ => rz_goto_ok (pc := 233) hx hb dX12_linkClasses_233 rfl (hJ 82)) ?_
  refine rz_All_c (i := 127) (fun k J hk hJ => rz_iinc_ok (pc := 236) hx hb dX12_linkClasses_236 (by decide) hk) ?_
  refine rz_All_c (i := 128) (fun k J hk hJ => rz_goto_ok (pc := 239) hx hb dX12_linkClasses_239 rfl (hJ 2)) ?_
  refine rz_All_c (i := 129) (fun k J hk hJ => rz_aload_n_ok (pc := 242) hx hb dX12_linkClasses_242 rfl hk) ?_
  refine rz_All_c (i := 130) (fun k J hk hJ => rz_callVv_ok (pc := 243) (own := RX12) (C := RX12) (T0 := TX12) (N0 := 257) hC rfl (rmX12_closeBelow l hG) (rz_cwV 0 hC rz_good (rz_mem (i := 43) (j := 6) rfl rfl) (rz_mem (i := 43) (j := 7) rfl rfl) (rz_mem (i := 43) (j := 8) rfl rfl) (rz_mem (i := 32) (j := 8) rfl rfl) (rz_mem (i := 43) (j := 9) rfl rfl) ⟨rfl, by decide, by decide, by decide +kernel⟩ rfl rfl ⟨by decide, by decide⟩) rfl dX12_linkClasses_243 hk) ?_
  refine rz_All_c (i := 131) (fun k J hk hJ => rz_iconst_ok (pc := 246) hx hb dX12_linkClasses_246 rfl hk) ?_
  refine rz_All_c (i := 132) (fun k J hk hJ => rz_istore_n_ok (pc := 247) hx hb dX12_linkClasses_247 rfl hk) ?_
  refine rz_All_c (i := 133) (fun k J hk hJ => rz_iload_n_ok (pc := 248) hx hb dX12_linkClasses_248 rfl hk) ?_
  refine rz_All_c (i := 134) (fun k J hk hJ => rz_aload_n_ok (pc := 249) hx hb dX12_linkClasses_249 rfl hk) ?_
  refine rz_All_c (i := 135) (fun k J hk hJ => rz_getf_ok (pc := 250) (own := RX12) (ref := "ThreadJudgeModel") (C := RX12) (T := TX12) (N := 257) (ci := 14) (index := 684) (f := 13) (t := 0) (Ts := Cond.code yX12_linkClasses cX12_linkClasses 5 none :: rz_TB) hx hb hts rz_in14 ho hK rfl (by decide) rfl (fun _ => rfl) (hw (i := 32) (j := 17) rfl rfl) (fun _ z => z) dX12_linkClasses_250 hk) ?_
  refine rz_All_c (i := 136) (fun k J hk hJ => rz_icmpge_ok (pc := 253) hx hb dX12_linkClasses_253 rfl hk (hJ 144)) ?_
  refine rz_All_c (i := 137) (fun k J hk hJ => rz_aload_n_ok (pc := 256) hx hb dX12_linkClasses_256 rfl hk) ?_
  refine rz_All_c (i := 138) (fun k J hk hJ => rz_iload_n_ok (pc := 257) hx hb dX12_linkClasses_257 rfl hk) ?_
  refine rz_All_c (i := 139) (fun k J hk hJ => rz_callV_ok (pc := 258) (own := RX12) (C := RX12) (T0 := TX12) (N0 := 257) hC rfl (rmX12_isRound l hG) (rz_cwV 1 hC rz_good (rz_mem (i := 43) (j := 11) rfl rfl) (rz_mem (i := 43) (j := 12) rfl rfl) (rz_mem (i := 43) (j := 13) rfl rfl) (rz_mem (i := 32) (j := 8) rfl rfl) (rz_mem (i := 43) (j := 14) rfl rfl) ⟨rfl, by decide, by decide, by decide +kernel⟩ rfl rfl ⟨by decide, by decide⟩) rfl dX12_linkClasses_258 hk) ?_
  refine rz_All_c (i := 140) (fun k J hk hJ => rz_ifeq_ok (pc := 261) hx hb dX12_linkClasses_261 rfl hk (hJ 142)) ?_
  refine rz_All_c (i := 141) (fun k J hk hJ => rz_no_ok) ?_
  refine rz_All_c (i := 142) (fun k J hk hJ => rz_iinc_ok (pc := 274) hx hb dX12_linkClasses_274 (by decide) hk) ?_
  refine rz_All_c (i := 143) (fun k J hk hJ => rz_goto_ok (pc := 277) hx hb dX12_linkClasses_277 rfl (hJ 133)) ?_
  refine rz_All_c (i := 144) (fun k J hk hJ => rz_vret_ok (pc := 280) hC dX12_linkClasses_280) ?_
  exact trivial
theorem dX12_has_0 : decode cX12_has 0 = .ok (.aload_n 0, 1) := by decide +kernel
theorem dX12_has_1 : decode cX12_has 1 = .ok (.getfield 75, 3) := by decide +kernel
theorem dX12_has_4 : decode cX12_has 4 = .ok (.iload_n 1, 1) := by decide +kernel
theorem dX12_has_5 : decode cX12_has 5 = .ok (.iaload, 1) := by decide +kernel
theorem dX12_has_6 : decode cX12_has 6 = .ok (.iload_n 2, 1) := by decide +kernel
theorem dX12_has_7 : decode cX12_has 7 = .ok (.iand, 1) := by decide +kernel
theorem dX12_has_8 : decode cX12_has 8 = .ok (.ifCond .eq 7, 3) := by decide +kernel
theorem dX12_has_15 : decode cX12_has 15 = .ok (.iconst 0, 1) := by decide +kernel
theorem dX12_has_16 : decode cX12_has 16 = .ok (.ireturn, 1) := by decide +kernel
def rpX12_has : List Nat := [0, 1, 4, 5, 6, 7, 8, 11, 15, 16]
noncomputable def rcX12_has : List rz_B := [rz_aload 0, rz_getf (Nat.add (Nat.mul 256 14) 1) 34 rz_r, rz_iload 1, rz_iald, rz_iload 2, rz_iand, rz_ifeq 8, rz_no, rz_cst 0, rz_zret]
noncomputable def rgX12_has : rz_L → rz_M → rz_Z → Bool := rz_go rcX12_has 3 1000000
def rrX12_has : Room := { frames := 0, cells := 0, slots := 0, locals := 0 }
theorem rmX12_has (l : Launch) {G : rz_G} (hG : rz_Gd G) (vs : rz_L) (M : rz_M) (Z : rz_Z) (hn : vs.length = 3) (h : rgX12_has vs M Z = true) : Met l yX12_has (Cond.code yX12_has cX12_has 3 (some .boolean) :: rz_TB) rrX12_has (rz_Pre G vs M) (rz_Qi G M.2 Z) 0 0 (fun q => rz_b G ≤ q) := by
  obtain ⟨D, tc, ad, b, xs, rfl⟩ := id hG
  refine rz_body (pcs := rpX12_has) (by decide) rfl (by rw [hn]; decide) h ?_
  intro p e R s m args below meth c hC
  obtain ⟨hx, hb, hml, hr, hlk, ho, hts, hKn, hRm⟩ := id hC
  obtain ⟨hK, hA, hSt⟩ := id hKn
  have hw : ∀ {i j : Nat} {ws : List Cond} {w : Cond}, rz_WW[i]? = some ws → ws[j]? = some w → w.before args s = true := fun h1 h2 => hts _ (List.mem_cons_of_mem _ (rz_mem h1 h2))
  refine rz_All_c (i := 0) (fun k J hk hJ => rz_aload_n_ok (pc := 0) hx hb dX12_has_0 rfl hk) ?_
  refine rz_All_c (i := 1) (fun k J hk hJ => rz_getf_ok (pc := 1) (own := RX12) (ref := "ThreadJudgeModel") (C := RX12) (T := TX12) (N := 257) (ci := 14) (index := 75) (f := 34) (t := 2) (Ts := Cond.code yX12_has cX12_has 3 (some .boolean) :: rz_TB) hx hb hts rz_in14 ho hK rfl (by decide) rfl (fun _ => rfl) (hw (i := 39) (j := 17) rfl rfl) (fun _ z => z) dX12_has_1 hk) ?_
  refine rz_All_c (i := 2) (fun k J hk hJ => rz_iload_n_ok (pc := 4) hx hb dX12_has_4 rfl hk) ?_
  refine rz_All_c (i := 3) (fun k J hk hJ => rz_iald_ok (pc := 5) hx hb hK dX12_has_5 hk) ?_
  refine rz_All_c (i := 4) (fun k J hk hJ => rz_iload_n_ok (pc := 6) hx hb dX12_has_6 rfl hk) ?_
  refine rz_All_c (i := 5) (fun k J hk hJ => rz_iand_ok (pc := 7) hx hb dX12_has_7 hk) ?_
  refine rz_All_c (i := 6) (fun k J hk hJ => rz_ifeq_ok (pc := 8) hx hb dX12_has_8 rfl hk (hJ 8)) ?_
  refine rz_All_c (i := 7) (fun k J hk hJ => rz_no_ok) ?_
  refine rz_All_c (i := 8) (fun k J hk hJ => rz_iconst_ok (pc := 15) hx hb dX12_has_15 rfl hk) ?_
  refine rz_All_c (i := 9) (fun k J hk hJ => rz_zret_ok (pc := 16) hC dX12_has_16) ?_
  exact trivial
theorem dX12_isStatic_0 : decode cX12_isStatic 0 = .ok (.aload_n 0, 1) := by decide +kernel
theorem dX12_isStatic_1 : decode cX12_isStatic 1 = .ok (.iload_n 1, 1) := by decide +kernel
theorem dX12_isStatic_2 : decode cX12_isStatic 2 = .ok (.iconst 1, 1) := by decide +kernel
theorem dX12_isStatic_3 : decode cX12_isStatic 3 = .ok (.invokevirtual 781, 3) := by decide +kernel
theorem dX12_isStatic_6 : decode cX12_isStatic 6 = .ok (.ireturn, 1) := by decide +kernel
def rpX12_isStatic : List Nat := [0, 1, 2, 3, 6]
noncomputable def rcX12_isStatic : List rz_B := [rz_aload 0, rz_iload 1, rz_cst 1, rz_callV 2 (Nat.add (Nat.mul 256 14) 1) rgX12_has, rz_zret]
noncomputable def rgX12_isStatic : rz_L → rz_M → rz_Z → Bool := rz_go rcX12_isStatic 2 1000000
def rrX12_isStatic : Room := { frames := 1, cells := 0, slots := 0, locals := 22 }
theorem rmX12_isStatic (l : Launch) {G : rz_G} (hG : rz_Gd G) (vs : rz_L) (M : rz_M) (Z : rz_Z) (hn : vs.length = 2) (h : rgX12_isStatic vs M Z = true) : Met l yX12_isStatic (Cond.code yX12_isStatic cX12_isStatic 2 (some .boolean) :: rz_TB) rrX12_isStatic (rz_Pre G vs M) (rz_Qi G M.2 Z) 0 0 (fun q => rz_b G ≤ q) := by
  obtain ⟨D, tc, ad, b, xs, rfl⟩ := id hG
  refine rz_body (pcs := rpX12_isStatic) (by decide) rfl (by rw [hn]; decide) h ?_
  intro p e R s m args below meth c hC
  obtain ⟨hx, hb, hml, hr, hlk, ho, hts, hKn, hRm⟩ := id hC
  obtain ⟨hK, hA, hSt⟩ := id hKn
  have hw : ∀ {i j : Nat} {ws : List Cond} {w : Cond}, rz_WW[i]? = some ws → ws[j]? = some w → w.before args s = true := fun h1 h2 => hts _ (List.mem_cons_of_mem _ (rz_mem h1 h2))
  refine rz_All_c (i := 0) (fun k J hk hJ => rz_aload_n_ok (pc := 0) hx hb dX12_isStatic_0 rfl hk) ?_
  refine rz_All_c (i := 1) (fun k J hk hJ => rz_iload_n_ok (pc := 1) hx hb dX12_isStatic_1 rfl hk) ?_
  refine rz_All_c (i := 2) (fun k J hk hJ => rz_iconst_ok (pc := 2) hx hb dX12_isStatic_2 rfl hk) ?_
  refine rz_All_c (i := 3) (fun k J hk hJ => rz_callV_ok (pc := 3) (own := RX12) (C := RX12) (T0 := TX12) (N0 := 257) hC rfl (rmX12_has l hG) (rz_cwV 2 hC rz_good (rz_mem (i := 45) (j := 4) rfl rfl) (rz_mem (i := 45) (j := 5) rfl rfl) (rz_mem (i := 45) (j := 6) rfl rfl) (rz_mem (i := 32) (j := 8) rfl rfl) (rz_mem (i := 45) (j := 7) rfl rfl) ⟨rfl, by decide, by decide, by decide +kernel⟩ rfl rfl ⟨by decide, by decide⟩) rfl dX12_isStatic_3 hk) ?_
  refine rz_All_c (i := 4) (fun k J hk hJ => rz_zret_ok (pc := 6) hC dX12_isStatic_6) ?_
  exact trivial
theorem dX12_wordOf_0 : decode cX12_wordOf 0 = .ok (.iconst 0, 1) := by decide +kernel
theorem dX12_wordOf_1 : decode cX12_wordOf 1 = .ok (.istore 4, 2) := by decide +kernel
theorem dX12_wordOf_3 : decode cX12_wordOf 3 = .ok (.iconst 0, 1) := by decide +kernel
theorem dX12_wordOf_4 : decode cX12_wordOf 4 = .ok (.istore 5, 2) := by decide +kernel
theorem dX12_wordOf_6 : decode cX12_wordOf 6 = .ok (.iload 5, 2) := by decide +kernel
theorem dX12_wordOf_8 : decode cX12_wordOf 8 = .ok (.aload_n 1, 1) := by decide +kernel
theorem dX12_wordOf_9 : decode cX12_wordOf 9 = .ok (.invokevirtual 626, 3) := by decide +kernel
theorem dX12_wordOf_12 : decode cX12_wordOf 12 = .ok (.if_icmp .ge 110, 3) := by decide +kernel
theorem dX12_wordOf_15 : decode cX12_wordOf 15 = .ok (.iconst 0, 1) := by decide +kernel
theorem dX12_wordOf_16 : decode cX12_wordOf 16 = .ok (.istore 6, 2) := by decide +kernel
theorem dX12_wordOf_18 : decode cX12_wordOf 18 = .ok (.aload_n 1, 1) := by decide +kernel
theorem dX12_wordOf_19 : decode cX12_wordOf 19 = .ok (.iload 5, 2) := by decide +kernel
theorem dX12_wordOf_21 : decode cX12_wordOf 21 = .ok (.iload 6, 2) := by decide +kernel
theorem dX12_wordOf_23 : decode cX12_wordOf 23 = .ok (.iadd, 1) := by decide +kernel
theorem dX12_wordOf_24 : decode cX12_wordOf 24 = .ok (.invokevirtual 631, 3) := by decide +kernel
theorem dX12_wordOf_27 : decode cX12_wordOf 27 = .ok (.bipush 32, 2) := by decide +kernel
theorem dX12_wordOf_29 : decode cX12_wordOf 29 = .ok (.if_icmp .eq 9, 3) := by decide +kernel
theorem dX12_wordOf_32 : decode cX12_wordOf 32 = .ok (.iinc 6 1, 3) := by decide +kernel
theorem dX12_wordOf_35 : decode cX12_wordOf 35 = .ok (.goto (-17), 3) := by decide +kernel
theorem dX12_wordOf_38 : decode cX12_wordOf 38 = .ok (.iload 6, 2) := by decide +kernel
theorem dX12_wordOf_40 : decode cX12_wordOf 40 = .ok (.iload_n 3, 1) := by decide +kernel
theorem dX12_wordOf_41 : decode cX12_wordOf 41 = .ok (.if_icmp .ne 7, 3) := by decide +kernel
theorem dX12_wordOf_44 : decode cX12_wordOf 44 = .ok (.iconst 1, 1) := by decide +kernel
theorem dX12_wordOf_45 : decode cX12_wordOf 45 = .ok (.goto 4, 3) := by decide +kernel
theorem dX12_wordOf_48 : decode cX12_wordOf 48 = .ok (.iconst 0, 1) := by decide +kernel
theorem dX12_wordOf_49 : decode cX12_wordOf 49 = .ok (.istore 7, 2) := by decide +kernel
theorem dX12_wordOf_51 : decode cX12_wordOf 51 = .ok (.iconst 0, 1) := by decide +kernel
theorem dX12_wordOf_52 : decode cX12_wordOf 52 = .ok (.istore 8, 2) := by decide +kernel
theorem dX12_wordOf_54 : decode cX12_wordOf 54 = .ok (.iload 8, 2) := by decide +kernel
theorem dX12_wordOf_56 : decode cX12_wordOf 56 = .ok (.iload_n 3, 1) := by decide +kernel
theorem dX12_wordOf_57 : decode cX12_wordOf 57 = .ok (.if_icmp .ge 42, 3) := by decide +kernel
theorem dX12_wordOf_60 : decode cX12_wordOf 60 = .ok (.iload 7, 2) := by decide +kernel
theorem dX12_wordOf_62 : decode cX12_wordOf 62 = .ok (.ifCond .eq 37, 3) := by decide +kernel
theorem dX12_wordOf_65 : decode cX12_wordOf 65 = .ok (.aload_n 1, 1) := by decide +kernel
theorem dX12_wordOf_66 : decode cX12_wordOf 66 = .ok (.iload 5, 2) := by decide +kernel
theorem dX12_wordOf_68 : decode cX12_wordOf 68 = .ok (.iload 8, 2) := by decide +kernel
theorem dX12_wordOf_70 : decode cX12_wordOf 70 = .ok (.iadd, 1) := by decide +kernel
theorem dX12_wordOf_71 : decode cX12_wordOf 71 = .ok (.invokevirtual 631, 3) := by decide +kernel
theorem dX12_wordOf_74 : decode cX12_wordOf 74 = .ok (.aload_n 0, 1) := by decide +kernel
theorem dX12_wordOf_75 : decode cX12_wordOf 75 = .ok (.getfield 13, 3) := by decide +kernel
theorem dX12_wordOf_78 : decode cX12_wordOf 78 = .ok (.iload_n 2, 1) := by decide +kernel
theorem dX12_wordOf_79 : decode cX12_wordOf 79 = .ok (.iload 8, 2) := by decide +kernel
theorem dX12_wordOf_81 : decode cX12_wordOf 81 = .ok (.iadd, 1) := by decide +kernel
theorem dX12_wordOf_82 : decode cX12_wordOf 82 = .ok (.iaload, 1) := by decide +kernel
theorem dX12_wordOf_83 : decode cX12_wordOf 83 = .ok (.if_icmp .ne 7, 3) := by decide +kernel
theorem dX12_wordOf_86 : decode cX12_wordOf 86 = .ok (.iconst 1, 1) := by decide +kernel
theorem dX12_wordOf_87 : decode cX12_wordOf 87 = .ok (.goto 4, 3) := by decide +kernel
theorem dX12_wordOf_90 : decode cX12_wordOf 90 = .ok (.iconst 0, 1) := by decide +kernel
theorem dX12_wordOf_91 : decode cX12_wordOf 91 = .ok (.istore 7, 2) := by decide +kernel
theorem dX12_wordOf_93 : decode cX12_wordOf 93 = .ok (.iinc 8 1, 3) := by decide +kernel
theorem dX12_wordOf_96 : decode cX12_wordOf 96 = .ok (.goto (-42), 3) := by decide +kernel
theorem dX12_wordOf_99 : decode cX12_wordOf 99 = .ok (.iload 7, 2) := by decide +kernel
theorem dX12_wordOf_101 : decode cX12_wordOf 101 = .ok (.ifCond .eq 6, 3) := by decide +kernel
theorem dX12_wordOf_104 : decode cX12_wordOf 104 = .ok (.iload 4, 2) := by decide +kernel
theorem dX12_wordOf_106 : decode cX12_wordOf 106 = .ok (.ireturn, 1) := by decide +kernel
theorem dX12_wordOf_107 : decode cX12_wordOf 107 = .ok (.iload 5, 2) := by decide +kernel
theorem dX12_wordOf_109 : decode cX12_wordOf 109 = .ok (.iload 6, 2) := by decide +kernel
theorem dX12_wordOf_111 : decode cX12_wordOf 111 = .ok (.iconst 1, 1) := by decide +kernel
theorem dX12_wordOf_112 : decode cX12_wordOf 112 = .ok (.iadd, 1) := by decide +kernel
theorem dX12_wordOf_113 : decode cX12_wordOf 113 = .ok (.iadd, 1) := by decide +kernel
theorem dX12_wordOf_114 : decode cX12_wordOf 114 = .ok (.istore 5, 2) := by decide +kernel
theorem dX12_wordOf_116 : decode cX12_wordOf 116 = .ok (.iinc 4 1, 3) := by decide +kernel
theorem dX12_wordOf_119 : decode cX12_wordOf 119 = .ok (.goto (-113), 3) := by decide +kernel
theorem dX12_wordOf_122 : decode cX12_wordOf 122 = .ok (.iconst (-1), 1) := by decide +kernel
theorem dX12_wordOf_123 : decode cX12_wordOf 123 = .ok (.ireturn, 1) := by decide +kernel
def rpX12_wordOf : List Nat := [0, 1, 3, 4, 6, 8, 9, 12, 15, 16, 18, 19, 21, 23, 24, 27, 29, 32, 35, 38, 40, 41, 44, 45, 48, 49, 51, 52, 54, 56, 57, 60, 62, 65, 66, 68, 70, 71, 74, 75, 78, 79, 81, 82, 83, 86, 87, 90, 91, 93, 96, 99, 101, 104, 106, 107, 109, 111, 112, 113, 114, 116, 119, 122, 123]
noncomputable def rcX12_wordOf : List rz_B := [rz_cst 0, rz_istore 4, rz_cst 0, rz_istore 5, rz_iload 5, rz_aload 1, rz_callT 0 rgJ0_length_8abf5, rz_icmpge 63, rz_cst 0, rz_istore 6, rz_aload 1, rz_iload 5, rz_iload 6, rz_iadd, rz_callT 1 rgJ0_charAt_5068e, rz_cst 32, rz_icmpeq 19, rz_iinc 6 1, rz_goto 10, rz_iload 6, rz_iload 3, rz_icmpne 24, rz_cst 1, rz_goto 25, rz_cst 0, rz_istore 7, rz_cst 0, rz_istore 8, rz_iload 8, rz_iload 3, rz_icmpge 51, rz_iload 7, rz_ifeq 51, rz_aload 1, rz_iload 5, rz_iload 8, rz_iadd, rz_callT 1 rgJ0_charAt_5068e, rz_aload 0, rz_getf (Nat.add (Nat.mul 256 14) 1) 2 rz_r, rz_iload 2, rz_iload 8, rz_iadd, rz_iald, rz_icmpne 47, rz_cst 1, rz_goto 48, rz_cst 0, rz_istore 7, rz_iinc 8 1, rz_goto 28, rz_iload 7, rz_ifeq 55, rz_iload 4, rz_iret, rz_iload 5, rz_iload 6, rz_cst 1, rz_iadd, rz_iadd, rz_istore 5, rz_iinc 4 1, rz_goto 4, rz_cst 4294967295, rz_iret]
noncomputable def rgX12_wordOf : rz_L → rz_M → rz_Z → Bool := rz_go rcX12_wordOf 9 1000000
def rrX12_wordOf : Room := { frames := 4, cells := 0, slots := 0, locals := 123 }
theorem rmX12_wordOf (l : Launch) {G : rz_G} (hG : rz_Gd G) (vs : rz_L) (M : rz_M) (Z : rz_Z) (hn : vs.length = 4) (h : rgX12_wordOf vs M Z = true) : Met l yX12_wordOf (Cond.code yX12_wordOf cX12_wordOf 9 (some .int) :: rz_TB) rrX12_wordOf (rz_Pre G vs M) (rz_Qi G M.2 Z) 0 0 (fun q => rz_b G ≤ q) := by
  obtain ⟨D, tc, ad, b, xs, rfl⟩ := id hG
  refine rz_body (pcs := rpX12_wordOf) (by decide) rfl (by rw [hn]; decide) h ?_
  intro p e R s m args below meth c hC
  obtain ⟨hx, hb, hml, hr, hlk, ho, hts, hKn, hRm⟩ := id hC
  obtain ⟨hK, hA, hSt⟩ := id hKn
  have hw : ∀ {i j : Nat} {ws : List Cond} {w : Cond}, rz_WW[i]? = some ws → ws[j]? = some w → w.before args s = true := fun h1 h2 => hts _ (List.mem_cons_of_mem _ (rz_mem h1 h2))
  refine rz_All_c (i := 0) (fun k J hk hJ => rz_iconst_ok (pc := 0) hx hb dX12_wordOf_0 rfl hk) ?_
  refine rz_All_c (i := 1) (fun k J hk hJ => rz_istore_ok (pc := 1) hx hb dX12_wordOf_1 hk) ?_
  refine rz_All_c (i := 2) (fun k J hk hJ => rz_iconst_ok (pc := 3) hx hb dX12_wordOf_3 rfl hk) ?_
  refine rz_All_c (i := 3) (fun k J hk hJ => rz_istore_ok (pc := 4) hx hb dX12_wordOf_4 hk) ?_
  refine rz_All_c (i := 4) (fun k J hk hJ => rz_iload_ok (pc := 6) hx hb dX12_wordOf_6 hk) ?_
  refine rz_All_c (i := 5) (fun k J hk hJ => rz_aload_n_ok (pc := 8) hx hb dX12_wordOf_8 rfl hk) ?_
  refine rz_All_c (i := 6) (fun k J hk hJ => rz_callT_ok (pc := 9) (own := RX12) hC rfl (rmJ0_length_8abf5 l hG) (rz_cwV 0 hC rz_good (rz_mem (i := 37) (j := 8) rfl rfl) (rz_mem (i := 6) (j := 13) rfl rfl) (rz_mem (i := 6) (j := 14) rfl rfl) (rz_mem (i := 5) (j := 23) rfl rfl) (rz_mem (i := 6) (j := 15) rfl rfl) ⟨rfl, by decide, by decide, by decide +kernel⟩ rfl rfl ⟨by decide, by decide⟩) dX12_wordOf_9 hk) ?_
  refine rz_All_c (i := 7) (fun k J hk hJ => rz_icmpge_ok (pc := 12) hx hb dX12_wordOf_12 rfl hk (hJ 63)) ?_
  refine rz_All_c (i := 8) (fun k J hk hJ => rz_iconst_ok (pc := 15) hx hb dX12_wordOf_15 rfl hk) ?_
  refine rz_All_c (i := 9) (fun k J hk hJ => rz_istore_ok (pc := 16) hx hb dX12_wordOf_16 hk) ?_
  refine rz_All_c (i := 10) (fun k J hk hJ => rz_aload_n_ok (pc := 18) hx hb dX12_wordOf_18 rfl hk) ?_
  refine rz_All_c (i := 11) (fun k J hk hJ => rz_iload_ok (pc := 19) hx hb dX12_wordOf_19 hk) ?_
  refine rz_All_c (i := 12) (fun k J hk hJ => rz_iload_ok (pc := 21) hx hb dX12_wordOf_21 hk) ?_
  refine rz_All_c (i := 13) (fun k J hk hJ => rz_iadd_ok (pc := 23) hx hb dX12_wordOf_23 hk) ?_
  refine rz_All_c (i := 14) (fun k J hk hJ => rz_callT_ok (pc := 24) (own := RX12) hC rfl (rmJ0_charAt_5068e l hG) (rz_cwV 1 hC rz_good (rz_mem (i := 33) (j := 4) rfl rfl) (rz_mem (i := 13) (j := 21) rfl rfl) (rz_mem (i := 13) (j := 22) rfl rfl) (rz_mem (i := 5) (j := 23) rfl rfl) (rz_mem (i := 13) (j := 23) rfl rfl) ⟨rfl, by decide, by decide, by decide +kernel⟩ rfl rfl ⟨by decide, by decide⟩) dX12_wordOf_24 hk) ?_
  refine rz_All_c (i := 15) (fun k J hk hJ => rz_bipush_ok (pc := 27) hx hb dX12_wordOf_27 (by decide) hk) ?_
  refine rz_All_c (i := 16) (fun k J hk hJ => rz_icmpeq_ok (pc := 29) hx hb dX12_wordOf_29 rfl hk (hJ 19)) ?_
  refine rz_All_c (i := 17) (fun k J hk hJ => rz_iinc_ok (pc := 32) hx hb dX12_wordOf_32 (by decide) hk) ?_
  refine rz_All_c (i := 18) (fun k J hk hJ => rz_goto_ok (pc := 35) hx hb dX12_wordOf_35 rfl (hJ 10)) ?_
  refine rz_All_c (i := 19) (fun k J hk hJ => rz_iload_ok (pc := 38) hx hb dX12_wordOf_38 hk) ?_
  refine rz_All_c (i := 20) (fun k J hk hJ => rz_iload_n_ok (pc := 40) hx hb dX12_wordOf_40 rfl hk) ?_
  refine rz_All_c (i := 21) (fun k J hk hJ => rz_icmpne_ok (pc := 41) hx hb dX12_wordOf_41 rfl hk (hJ 24)) ?_
  refine rz_All_c (i := 22) (fun k J hk hJ => rz_iconst_ok (pc := 44) hx hb dX12_wordOf_44 rfl hk) ?_
  refine rz_All_c (i := 23) (fun k J hk hJ => rz_goto_ok (pc := 45) hx hb dX12_wordOf_45 rfl (hJ 25)) ?_
  refine rz_All_c (i := 24) (fun k J hk hJ => rz_iconst_ok (pc := 48) hx hb dX12_wordOf_48 rfl hk) ?_
  refine rz_All_c (i := 25) (fun k J hk hJ => rz_istore_ok (pc := 49) hx hb dX12_wordOf_49 hk) ?_
  refine rz_All_c (i := 26) (fun k J hk hJ => rz_iconst_ok (pc := 51) hx hb dX12_wordOf_51 rfl hk) ?_
  refine rz_All_c (i := 27) (fun k J hk hJ => rz_istore_ok (pc := 52) hx hb dX12_wordOf_52 hk) ?_
  refine rz_All_c (i := 28) (fun k J hk hJ => rz_iload_ok (pc := 54) hx hb dX12_wordOf_54 hk) ?_
  refine rz_All_c (i := 29) (fun k J hk hJ => rz_iload_n_ok (pc := 56) hx hb dX12_wordOf_56 rfl hk) ?_
  refine rz_All_c (i := 30) (fun k J hk hJ => rz_icmpge_ok (pc := 57) hx hb dX12_wordOf_57 rfl hk (hJ 51)) ?_
  refine rz_All_c (i := 31) (fun k J hk hJ => rz_iload_ok (pc := 60) hx hb dX12_wordOf_60 hk) ?_
  refine rz_All_c (i := 32) (fun k J hk hJ => rz_ifeq_ok (pc := 62) hx hb dX12_wordOf_62 rfl hk (hJ 51)) ?_
  refine rz_All_c (i := 33) (fun k J hk hJ => rz_aload_n_ok (pc := 65) hx hb dX12_wordOf_65 rfl hk) ?_
  refine rz_All_c (i := 34) (fun k J hk hJ => rz_iload_ok (pc := 66) hx hb dX12_wordOf_66 hk) ?_
  refine rz_All_c (i := 35) (fun k J hk hJ => rz_iload_ok (pc := 68) hx hb dX12_wordOf_68 hk) ?_
  refine rz_All_c (i := 36) (fun k J hk hJ => rz_iadd_ok (pc := 70) hx hb dX12_wordOf_70 hk) ?_
  refine rz_All_c (i := 37) (fun k J hk hJ => rz_callT_ok (pc := 71) (own := RX12) hC rfl (rmJ0_charAt_5068e l hG) (rz_cwV 1 hC rz_good (rz_mem (i := 33) (j := 4) rfl rfl) (rz_mem (i := 13) (j := 21) rfl rfl) (rz_mem (i := 13) (j := 22) rfl rfl) (rz_mem (i := 5) (j := 23) rfl rfl) (rz_mem (i := 13) (j := 23) rfl rfl) ⟨rfl, by decide, by decide, by decide +kernel⟩ rfl rfl ⟨by decide, by decide⟩) dX12_wordOf_71 hk) ?_
  refine rz_All_c (i := 38) (fun k J hk hJ => rz_aload_n_ok (pc := 74) hx hb dX12_wordOf_74 rfl hk) ?_
  refine rz_All_c (i := 39) (fun k J hk hJ => rz_getf_ok (pc := 75) (own := RX12) (ref := "ThreadJudgeModel") (C := RX12) (T := TX12) (N := 257) (ci := 14) (index := 13) (f := 2) (t := 2) (Ts := Cond.code yX12_wordOf cX12_wordOf 9 (some .int) :: rz_TB) hx hb hts rz_in14 ho hK rfl (by decide) rfl (fun _ => rfl) (hw (i := 32) (j := 13) rfl rfl) (fun _ z => z) dX12_wordOf_75 hk) ?_
  refine rz_All_c (i := 40) (fun k J hk hJ => rz_iload_n_ok (pc := 78) hx hb dX12_wordOf_78 rfl hk) ?_
  refine rz_All_c (i := 41) (fun k J hk hJ => rz_iload_ok (pc := 79) hx hb dX12_wordOf_79 hk) ?_
  refine rz_All_c (i := 42) (fun k J hk hJ => rz_iadd_ok (pc := 81) hx hb dX12_wordOf_81 hk) ?_
  refine rz_All_c (i := 43) (fun k J hk hJ => rz_iald_ok (pc := 82) hx hb hK dX12_wordOf_82 hk) ?_
  refine rz_All_c (i := 44) (fun k J hk hJ => rz_icmpne_ok (pc := 83) hx hb dX12_wordOf_83 rfl hk (hJ 47)) ?_
  refine rz_All_c (i := 45) (fun k J hk hJ => rz_iconst_ok (pc := 86) hx hb dX12_wordOf_86 rfl hk) ?_
  refine rz_All_c (i := 46) (fun k J hk hJ => rz_goto_ok (pc := 87) hx hb dX12_wordOf_87 rfl (hJ 48)) ?_
  refine rz_All_c (i := 47) (fun k J hk hJ => rz_iconst_ok (pc := 90) hx hb dX12_wordOf_90 rfl hk) ?_
  refine rz_All_c (i := 48) (fun k J hk hJ => rz_istore_ok (pc := 91) hx hb dX12_wordOf_91 hk) ?_
  refine rz_All_c (i := 49) (fun k J hk hJ => rz_iinc_ok (pc := 93) hx hb dX12_wordOf_93 (by decide) hk) ?_
  refine rz_All_c (i := 50) (fun k J hk hJ => rz_goto_ok (pc := 96) hx hb dX12_wordOf_96 rfl (hJ 28)) ?_
  refine rz_All_c (i := 51) (fun k J hk hJ => rz_iload_ok (pc := 99) hx hb dX12_wordOf_99 hk) ?_
  refine rz_All_c (i := 52) (fun k J hk hJ => rz_ifeq_ok (pc := 101) hx hb dX12_wordOf_101 rfl hk (hJ 55)) ?_
  refine rz_All_c (i := 53) (fun k J hk hJ => rz_iload_ok (pc := 104) hx hb dX12_wordOf_104 hk) ?_
  refine rz_All_c (i := 54) (fun k J hk hJ => rz_iret_ok (pc := 106) hC dX12_wordOf_106) ?_
  refine rz_All_c (i := 55) (fun k J hk hJ => rz_iload_ok (pc := 107) hx hb dX12_wordOf_107 hk) ?_
  refine rz_All_c (i := 56) (fun k J hk hJ => rz_iload_ok (pc := 109) hx hb dX12_wordOf_109 hk) ?_
  refine rz_All_c (i := 57) (fun k J hk hJ => rz_iconst_ok (pc := 111) hx hb dX12_wordOf_111 rfl hk) ?_
  refine rz_All_c (i := 58) (fun k J hk hJ => rz_iadd_ok (pc := 112) hx hb dX12_wordOf_112 hk) ?_
  refine rz_All_c (i := 59) (fun k J hk hJ => rz_iadd_ok (pc := 113) hx hb dX12_wordOf_113 hk) ?_
  refine rz_All_c (i := 60) (fun k J hk hJ => rz_istore_ok (pc := 114) hx hb dX12_wordOf_114 hk) ?_
  refine rz_All_c (i := 61) (fun k J hk hJ => rz_iinc_ok (pc := 116) hx hb dX12_wordOf_116 (by decide) hk) ?_
  refine rz_All_c (i := 62) (fun k J hk hJ => rz_goto_ok (pc := 119) hx hb dX12_wordOf_119 rfl (hJ 4)) ?_
  refine rz_All_c (i := 63) (fun k J hk hJ => rz_iconst_ok (pc := 122) hx hb dX12_wordOf_122 rfl hk) ?_
  refine rz_All_c (i := 64) (fun k J hk hJ => rz_iret_ok (pc := 123) hC dX12_wordOf_123) ?_
  exact trivial
