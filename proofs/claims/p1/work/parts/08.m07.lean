/-! Methods: handlers, facts, contracts. -/
theorem dX9_fieldLine_0 : decode cX9_fieldLine 0 = .ok (.aload_n 0, 1) := by decide +kernel
theorem dX9_fieldLine_1 : decode cX9_fieldLine 1 = .ok (.invokevirtual 273, 3) := by decide +kernel
theorem dX9_fieldLine_4 : decode cX9_fieldLine 4 = .ok (.istore_n 2, 1) := by decide +kernel
theorem dX9_fieldLine_5 : decode cX9_fieldLine 5 = .ok (.iload_n 2, 1) := by decide +kernel
theorem dX9_fieldLine_6 : decode cX9_fieldLine 6 = .ok (.ifCond .lt 10, 3) := by decide +kernel
theorem dX9_fieldLine_9 : decode cX9_fieldLine 9 = .ok (.aload_n 0, 1) := by decide +kernel
theorem dX9_fieldLine_10 : decode cX9_fieldLine 10 = .ok (.invokevirtual 230, 3) := by decide +kernel
theorem dX9_fieldLine_13 : decode cX9_fieldLine 13 = .ok (.ifCond .ne 5, 3) := by decide +kernel
theorem dX9_fieldLine_18 : decode cX9_fieldLine 18 = .ok (.aload_n 0, 1) := by decide +kernel
theorem dX9_fieldLine_19 : decode cX9_fieldLine 19 = .ok (.getfield 37, 3) := by decide +kernel
theorem dX9_fieldLine_22 : decode cX9_fieldLine 22 = .ok (.getfield 276, 3) := by decide +kernel
theorem dX9_fieldLine_25 : decode cX9_fieldLine 25 = .ok (.bipush 40, 2) := by decide +kernel
theorem dX9_fieldLine_27 : decode cX9_fieldLine 27 = .ok (.if_icmp .lt 8, 3) := by decide +kernel
theorem dX9_fieldLine_35 : decode cX9_fieldLine 35 = .ok (.aload_n 0, 1) := by decide +kernel
theorem dX9_fieldLine_36 : decode cX9_fieldLine 36 = .ok (.getfield 37, 3) := by decide +kernel
theorem dX9_fieldLine_39 : decode cX9_fieldLine 39 = .ok (.dup, 1) := by decide +kernel
theorem dX9_fieldLine_40 : decode cX9_fieldLine 40 = .ok (.getfield 276, 3) := by decide +kernel
theorem dX9_fieldLine_43 : decode cX9_fieldLine 43 = .ok (.dup_x1, 1) := by decide +kernel
theorem dX9_fieldLine_44 : decode cX9_fieldLine 44 = .ok (.iconst 1, 1) := by decide +kernel
theorem dX9_fieldLine_45 : decode cX9_fieldLine 45 = .ok (.iadd, 1) := by decide +kernel
theorem dX9_fieldLine_46 : decode cX9_fieldLine 46 = .ok (.putfield 276, 3) := by decide +kernel
theorem dX9_fieldLine_49 : decode cX9_fieldLine 49 = .ok (.istore_n 3, 1) := by decide +kernel
theorem dX9_fieldLine_50 : decode cX9_fieldLine 50 = .ok (.aload_n 0, 1) := by decide +kernel
theorem dX9_fieldLine_51 : decode cX9_fieldLine 51 = .ok (.getfield 37, 3) := by decide +kernel
theorem dX9_fieldLine_54 : decode cX9_fieldLine 54 = .ok (.getfield 279, 3) := by decide +kernel
theorem dX9_fieldLine_57 : decode cX9_fieldLine 57 = .ok (.iconst 0, 1) := by decide +kernel
theorem dX9_fieldLine_58 : decode cX9_fieldLine 58 = .ok (.aaload, 1) := by decide +kernel
theorem dX9_fieldLine_59 : decode cX9_fieldLine 59 = .ok (.iload_n 3, 1) := by decide +kernel
theorem dX9_fieldLine_60 : decode cX9_fieldLine 60 = .ok (.aload_n 0, 1) := by decide +kernel
theorem dX9_fieldLine_61 : decode cX9_fieldLine 61 = .ok (.getfield 34, 3) := by decide +kernel
theorem dX9_fieldLine_64 : decode cX9_fieldLine 64 = .ok (.aload_n 0, 1) := by decide +kernel
theorem dX9_fieldLine_65 : decode cX9_fieldLine 65 = .ok (.getfield 187, 3) := by decide +kernel
theorem dX9_fieldLine_68 : decode cX9_fieldLine 68 = .ok (.iaload, 1) := by decide +kernel
theorem dX9_fieldLine_69 : decode cX9_fieldLine 69 = .ok (.iastore, 1) := by decide +kernel
theorem dX9_fieldLine_70 : decode cX9_fieldLine 70 = .ok (.aload_n 0, 1) := by decide +kernel
theorem dX9_fieldLine_71 : decode cX9_fieldLine 71 = .ok (.getfield 37, 3) := by decide +kernel
theorem dX9_fieldLine_74 : decode cX9_fieldLine 74 = .ok (.getfield 279, 3) := by decide +kernel
theorem dX9_fieldLine_77 : decode cX9_fieldLine 77 = .ok (.iconst 1, 1) := by decide +kernel
theorem dX9_fieldLine_78 : decode cX9_fieldLine 78 = .ok (.aaload, 1) := by decide +kernel
theorem dX9_fieldLine_79 : decode cX9_fieldLine 79 = .ok (.iload_n 3, 1) := by decide +kernel
theorem dX9_fieldLine_80 : decode cX9_fieldLine 80 = .ok (.aload_n 0, 1) := by decide +kernel
theorem dX9_fieldLine_81 : decode cX9_fieldLine 81 = .ok (.invokevirtual 242, 3) := by decide +kernel
theorem dX9_fieldLine_84 : decode cX9_fieldLine 84 = .ok (.iastore, 1) := by decide +kernel
theorem dX9_fieldLine_85 : decode cX9_fieldLine 85 = .ok (.aload_n 0, 1) := by decide +kernel
theorem dX9_fieldLine_86 : decode cX9_fieldLine 86 = .ok (.getfield 37, 3) := by decide +kernel
theorem dX9_fieldLine_89 : decode cX9_fieldLine 89 = .ok (.getfield 279, 3) := by decide +kernel
theorem dX9_fieldLine_92 : decode cX9_fieldLine 92 = .ok (.iconst 2, 1) := by decide +kernel
theorem dX9_fieldLine_93 : decode cX9_fieldLine 93 = .ok (.aaload, 1) := by decide +kernel
theorem dX9_fieldLine_94 : decode cX9_fieldLine 94 = .ok (.iload_n 3, 1) := by decide +kernel
theorem dX9_fieldLine_95 : decode cX9_fieldLine 95 = .ok (.aload_n 0, 1) := by decide +kernel
theorem dX9_fieldLine_96 : decode cX9_fieldLine 96 = .ok (.getfield 37, 3) := by decide +kernel
theorem dX9_fieldLine_99 : decode cX9_fieldLine 99 = .ok (.getfield 233, 3) := by decide +kernel
theorem dX9_fieldLine_102 : decode cX9_fieldLine 102 = .ok (.iconst 1, 1) := by decide +kernel
theorem dX9_fieldLine_103 : decode cX9_fieldLine 103 = .ok (.isub, 1) := by decide +kernel
theorem dX9_fieldLine_104 : decode cX9_fieldLine 104 = .ok (.iastore, 1) := by decide +kernel
theorem dX9_fieldLine_105 : decode cX9_fieldLine 105 = .ok (.aload_n 0, 1) := by decide +kernel
theorem dX9_fieldLine_106 : decode cX9_fieldLine 106 = .ok (.getfield 37, 3) := by decide +kernel
theorem dX9_fieldLine_109 : decode cX9_fieldLine 109 = .ok (.getfield 279, 3) := by decide +kernel
theorem dX9_fieldLine_112 : decode cX9_fieldLine 112 = .ok (.iconst 3, 1) := by decide +kernel
theorem dX9_fieldLine_113 : decode cX9_fieldLine 113 = .ok (.aaload, 1) := by decide +kernel
theorem dX9_fieldLine_114 : decode cX9_fieldLine 114 = .ok (.iload_n 3, 1) := by decide +kernel
theorem dX9_fieldLine_115 : decode cX9_fieldLine 115 = .ok (.iload_n 2, 1) := by decide +kernel
theorem dX9_fieldLine_116 : decode cX9_fieldLine 116 = .ok (.iastore, 1) := by decide +kernel
theorem dX9_fieldLine_117 : decode cX9_fieldLine 117 = .ok (.aload_n 0, 1) := by decide +kernel
theorem dX9_fieldLine_118 : decode cX9_fieldLine 118 = .ok (.getfield 37, 3) := by decide +kernel
theorem dX9_fieldLine_121 : decode cX9_fieldLine 121 = .ok (.getfield 279, 3) := by decide +kernel
theorem dX9_fieldLine_124 : decode cX9_fieldLine 124 = .ok (.iconst 4, 1) := by decide +kernel
theorem dX9_fieldLine_125 : decode cX9_fieldLine 125 = .ok (.aaload, 1) := by decide +kernel
theorem dX9_fieldLine_126 : decode cX9_fieldLine 126 = .ok (.iload_n 3, 1) := by decide +kernel
theorem dX9_fieldLine_127 : decode cX9_fieldLine 127 = .ok (.iload_n 1, 1) := by decide +kernel
theorem dX9_fieldLine_128 : decode cX9_fieldLine 128 = .ok (.iastore, 1) := by decide +kernel
theorem dX9_fieldLine_129 : decode cX9_fieldLine 129 = .ok (.aload_n 0, 1) := by decide +kernel
theorem dX9_fieldLine_130 : decode cX9_fieldLine 130 = .ok (.dup, 1) := by decide +kernel
theorem dX9_fieldLine_131 : decode cX9_fieldLine 131 = .ok (.getfield 187, 3) := by decide +kernel
theorem dX9_fieldLine_134 : decode cX9_fieldLine 134 = .ok (.iconst 1, 1) := by decide +kernel
theorem dX9_fieldLine_135 : decode cX9_fieldLine 135 = .ok (.iadd, 1) := by decide +kernel
theorem dX9_fieldLine_136 : decode cX9_fieldLine 136 = .ok (.putfield 187, 3) := by decide +kernel
theorem dX9_fieldLine_139 : decode cX9_fieldLine 139 = .ok (.aload_n 0, 1) := by decide +kernel
theorem dX9_fieldLine_140 : decode cX9_fieldLine 140 = .ok (.bipush 59, 2) := by decide +kernel
theorem dX9_fieldLine_142 : decode cX9_fieldLine 142 = .ok (.invokevirtual 223, 3) := by decide +kernel
theorem dX9_fieldLine_145 : decode cX9_fieldLine 145 = .ok (.ireturn, 1) := by decide +kernel
def rpX9_fieldLine : List Nat := [0, 1, 4, 5, 6, 9, 10, 13, 16, 18, 19, 22, 25, 27, 30, 35, 36, 39, 40, 43, 44, 45, 46, 49, 50, 51, 54, 57, 58, 59, 60, 61, 64, 65, 68, 69, 70, 71, 74, 77, 78, 79, 80, 81, 84, 85, 86, 89, 92, 93, 94, 95, 96, 99, 102, 103, 104, 105, 106, 109, 112, 113, 114, 115, 116, 117, 118, 121, 124, 125, 126, 127, 128, 129, 130, 131, 134, 135, 136, 139, 140, 142, 145]
noncomputable def rcX9_fieldLine : List rz_B := [rz_aload 0, rz_callV 0 (Nat.add (Nat.mul 256 11) 1) rgX9_rawType, rz_istore 2, rz_iload 2, rz_iflt 8, rz_aload 0, rz_callV 0 (Nat.add (Nat.mul 256 11) 1) rgX9_isName, rz_ifne 9, rz_no, rz_aload 0, rz_getf (Nat.add (Nat.mul 256 11) 1) 0 rz_r, rz_getf (Nat.add (Nat.mul 256 9) 1) 7 rz_i, rz_cst 40, rz_icmplt 15, rz_no, rz_aload 0, rz_getf (Nat.add (Nat.mul 256 11) 1) 0 rz_r, rz_dup, rz_getf (Nat.add (Nat.mul 256 9) 1) 7 rz_i, rz_dup_x1, rz_cst 1, rz_iadd, rz_putf (Nat.add (Nat.mul 256 9) 1) 7 rz_unI, rz_istore 3, rz_aload 0, rz_getf (Nat.add (Nat.mul 256 11) 1) 0 rz_r, rz_getf (Nat.add (Nat.mul 256 9) 1) 8 rz_r, rz_cst 0, rz_aald, rz_iload 3, rz_aload 0, rz_getf (Nat.add (Nat.mul 256 11) 1) 13 rz_r, rz_aload 0, rz_getf (Nat.add (Nat.mul 256 11) 1) 15 rz_i, rz_iald, rz_iast, rz_aload 0, rz_getf (Nat.add (Nat.mul 256 11) 1) 0 rz_r, rz_getf (Nat.add (Nat.mul 256 9) 1) 8 rz_r, rz_cst 1, rz_aald, rz_iload 3, rz_aload 0, rz_callV 0 (Nat.add (Nat.mul 256 11) 1) rgX9_spot, rz_iast, rz_aload 0, rz_getf (Nat.add (Nat.mul 256 11) 1) 0 rz_r, rz_getf (Nat.add (Nat.mul 256 9) 1) 8 rz_r, rz_cst 2, rz_aald, rz_iload 3, rz_aload 0, rz_getf (Nat.add (Nat.mul 256 11) 1) 0 rz_r, rz_getf (Nat.add (Nat.mul 256 9) 1) 2 rz_i, rz_cst 1, rz_isub, rz_iast, rz_aload 0, rz_getf (Nat.add (Nat.mul 256 11) 1) 0 rz_r, rz_getf (Nat.add (Nat.mul 256 9) 1) 8 rz_r, rz_cst 3, rz_aald, rz_iload 3, rz_iload 2, rz_iast, rz_aload 0, rz_getf (Nat.add (Nat.mul 256 11) 1) 0 rz_r, rz_getf (Nat.add (Nat.mul 256 9) 1) 8 rz_r, rz_cst 4, rz_aald, rz_iload 3, rz_iload 1, rz_iast, rz_aload 0, rz_dup, rz_getf (Nat.add (Nat.mul 256 11) 1) 15 rz_i, rz_cst 1, rz_iadd, rz_putf (Nat.add (Nat.mul 256 11) 1) 15 rz_unI, rz_aload 0, rz_cst 59, rz_callV 1 (Nat.add (Nat.mul 256 11) 1) rgX9_takeSign, rz_zret]
noncomputable def rgX9_fieldLine : rz_L → rz_M → rz_Z → Bool := rz_go rcX9_fieldLine 4 1000000
def rrX9_fieldLine : Room := { frames := 2, cells := 0, slots := 0, locals := 42 }
theorem rmX9_fieldLine (l : Launch) {G : rz_G} (hG : rz_Gd G) (vs : rz_L) (M : rz_M) (Z : rz_Z) (hn : vs.length = 2) (h : rgX9_fieldLine vs M Z = true) : Met l yX9_fieldLine (Cond.code yX9_fieldLine cX9_fieldLine 4 (some .boolean) :: rz_TB) rrX9_fieldLine (rz_Pre G vs M) (rz_Qi G M.2 Z) 0 0 (fun q => rz_b G ≤ q) := by
  obtain ⟨D, tc, ad, b, xs, rfl⟩ := id hG
  refine rz_body (pcs := rpX9_fieldLine) (by decide) rfl (by rw [hn]; decide) h ?_
  intro p e R s m args below meth c hC
  obtain ⟨hx, hb, hml, hr, hlk, ho, hts, hKn, hRm⟩ := id hC
  obtain ⟨hK, hA, hSt⟩ := id hKn
  have hw : ∀ {i j : Nat} {ws : List Cond} {w : Cond}, rz_WW[i]? = some ws → ws[j]? = some w → w.before args s = true := fun h1 h2 => hts _ (List.mem_cons_of_mem _ (rz_mem h1 h2))
  refine rz_All_c (i := 0) (fun k J hk hJ => rz_aload_n_ok (pc := 0) hx hb dX9_fieldLine_0 rfl hk) ?_
  refine rz_All_c (i := 1) (fun k J hk hJ => rz_callV_ok (pc := 1) (own := RX9) (C := RX9) (T0 := TX9) (N0 := 19) hC rfl (rmX9_rawType l hG) (rz_cwV 0 hC rz_good (rz_mem (i := 12) (j := 2) rfl rfl) (rz_mem (i := 12) (j := 3) rfl rfl) (rz_mem (i := 12) (j := 4) rfl rfl) (rz_mem (i := 1) (j := 21) rfl rfl) (rz_mem (i := 12) (j := 5) rfl rfl) ⟨rfl, by decide, by decide, by decide +kernel⟩ rfl rfl ⟨by decide, by decide⟩) rfl dX9_fieldLine_1 hk) ?_
  refine rz_All_c (i := 2) (fun k J hk hJ => rz_istore_n_ok (pc := 4) hx hb dX9_fieldLine_4 rfl hk) ?_
  refine rz_All_c (i := 3) (fun k J hk hJ => rz_iload_n_ok (pc := 5) hx hb dX9_fieldLine_5 rfl hk) ?_
  refine rz_All_c (i := 4) (fun k J hk hJ => rz_iflt_ok (pc := 6) hx hb dX9_fieldLine_6 rfl hk (hJ 8)) ?_
  refine rz_All_c (i := 5) (fun k J hk hJ => rz_aload_n_ok (pc := 9) hx hb dX9_fieldLine_9 rfl hk) ?_
  refine rz_All_c (i := 6) (fun k J hk hJ => rz_callV_ok (pc := 10) (own := RX9) (C := RX9) (T0 := TX9) (N0 := 19) hC rfl (rmX9_isName l hG) (rz_cwV 0 hC rz_good (rz_mem (i := 10) (j := 6) rfl rfl) (rz_mem (i := 10) (j := 7) rfl rfl) (rz_mem (i := 10) (j := 8) rfl rfl) (rz_mem (i := 1) (j := 21) rfl rfl) (rz_mem (i := 10) (j := 9) rfl rfl) ⟨rfl, by decide, by decide, by decide +kernel⟩ rfl rfl ⟨by decide, by decide⟩) rfl dX9_fieldLine_10 hk) ?_
  refine rz_All_c (i := 7) (fun k J hk hJ => rz_ifne_ok (pc := 13) hx hb dX9_fieldLine_13 rfl hk (hJ 9)) ?_
  refine rz_All_c (i := 8) (fun k J hk hJ => rz_no_ok) ?_
  refine rz_All_c (i := 9) (fun k J hk hJ => rz_aload_n_ok (pc := 18) hx hb dX9_fieldLine_18 rfl hk) ?_
  refine rz_All_c (i := 10) (fun k J hk hJ => rz_getf_ok (pc := 19) (own := RX9) (ref := "ThreadJudge$Reader") (C := RX9) (T := TX9) (N := 19) (ci := 11) (index := 37) (f := 0) (t := 2) (Ts := Cond.code yX9_fieldLine cX9_fieldLine 4 (some .boolean) :: rz_TB) hx hb hts rz_in11 ho hK rfl (by decide) rfl (fun _ => rfl) (hw (i := 9) (j := 16) rfl rfl) (fun _ z => z) dX9_fieldLine_19 hk) ?_
  refine rz_All_c (i := 11) (fun k J hk hJ => rz_getf_ok (pc := 22) (own := RX9) (ref := "ThreadJudge$Program") (C := RX7) (T := TX7) (N := 22) (ci := 9) (index := 276) (f := 7) (t := 0) (Ts := Cond.code yX9_fieldLine cX9_fieldLine 4 (some .boolean) :: rz_TB) hx hb hts rz_in9 ho hK rfl (by decide) rfl (fun _ => rfl) (hw (i := 12) (j := 0) rfl rfl) (fun _ z => z) dX9_fieldLine_22 hk) ?_
  refine rz_All_c (i := 12) (fun k J hk hJ => rz_bipush_ok (pc := 25) hx hb dX9_fieldLine_25 (by decide) hk) ?_
  refine rz_All_c (i := 13) (fun k J hk hJ => rz_icmplt_ok (pc := 27) hx hb dX9_fieldLine_27 rfl hk (hJ 15)) ?_
  refine rz_All_c (i := 14) (fun k J hk hJ => rz_no_ok) ?_
  refine rz_All_c (i := 15) (fun k J hk hJ => rz_aload_n_ok (pc := 35) hx hb dX9_fieldLine_35 rfl hk) ?_
  refine rz_All_c (i := 16) (fun k J hk hJ => rz_getf_ok (pc := 36) (own := RX9) (ref := "ThreadJudge$Reader") (C := RX9) (T := TX9) (N := 19) (ci := 11) (index := 37) (f := 0) (t := 2) (Ts := Cond.code yX9_fieldLine cX9_fieldLine 4 (some .boolean) :: rz_TB) hx hb hts rz_in11 ho hK rfl (by decide) rfl (fun _ => rfl) (hw (i := 9) (j := 16) rfl rfl) (fun _ z => z) dX9_fieldLine_36 hk) ?_
  refine rz_All_c (i := 17) (fun k J hk hJ => rz_dup_ok (pc := 39) hx hb dX9_fieldLine_39 hk) ?_
  refine rz_All_c (i := 18) (fun k J hk hJ => rz_getf_ok (pc := 40) (own := RX9) (ref := "ThreadJudge$Program") (C := RX7) (T := TX7) (N := 22) (ci := 9) (index := 276) (f := 7) (t := 0) (Ts := Cond.code yX9_fieldLine cX9_fieldLine 4 (some .boolean) :: rz_TB) hx hb hts rz_in9 ho hK rfl (by decide) rfl (fun _ => rfl) (hw (i := 12) (j := 0) rfl rfl) (fun _ z => z) dX9_fieldLine_40 hk) ?_
  refine rz_All_c (i := 19) (fun k J hk hJ => rz_dup_x1_ok (pc := 43) hx hb dX9_fieldLine_43 hk) ?_
  refine rz_All_c (i := 20) (fun k J hk hJ => rz_iconst_ok (pc := 44) hx hb dX9_fieldLine_44 rfl hk) ?_
  refine rz_All_c (i := 21) (fun k J hk hJ => rz_iadd_ok (pc := 45) hx hb dX9_fieldLine_45 hk) ?_
  refine rz_All_c (i := 22) (fun k J hk hJ => rz_putf_ok (pc := 46) (own := RX9) (ref := "ThreadJudge$Program") (C := RX7) (T := TX7) (N := 22) (ci := 9) (index := 276) (f := 7) (t := 0) (Ts := Cond.code yX9_fieldLine cX9_fieldLine 4 (some .boolean) :: rz_TB) hx hb hts rz_in9 tyX7 tyX7_ok nmX7 ho hK hA rfl (by decide) rfl (rz_UnI _) rfl (tyX7_ok 7 (by decide)) (hw (i := 12) (j := 0) rfl rfl) (fun _ z => z) dX9_fieldLine_46 hk) ?_
  refine rz_All_c (i := 23) (fun k J hk hJ => rz_istore_n_ok (pc := 49) hx hb dX9_fieldLine_49 rfl hk) ?_
  refine rz_All_c (i := 24) (fun k J hk hJ => rz_aload_n_ok (pc := 50) hx hb dX9_fieldLine_50 rfl hk) ?_
  refine rz_All_c (i := 25) (fun k J hk hJ => rz_getf_ok (pc := 51) (own := RX9) (ref := "ThreadJudge$Reader") (C := RX9) (T := TX9) (N := 19) (ci := 11) (index := 37) (f := 0) (t := 2) (Ts := Cond.code yX9_fieldLine cX9_fieldLine 4 (some .boolean) :: rz_TB) hx hb hts rz_in11 ho hK rfl (by decide) rfl (fun _ => rfl) (hw (i := 9) (j := 16) rfl rfl) (fun _ z => z) dX9_fieldLine_51 hk) ?_
  refine rz_All_c (i := 26) (fun k J hk hJ => rz_getf_ok (pc := 54) (own := RX9) (ref := "ThreadJudge$Program") (C := RX7) (T := TX7) (N := 22) (ci := 9) (index := 279) (f := 8) (t := 2) (Ts := Cond.code yX9_fieldLine cX9_fieldLine 4 (some .boolean) :: rz_TB) hx hb hts rz_in9 ho hK rfl (by decide) rfl (fun _ => rfl) (hw (i := 12) (j := 1) rfl rfl) (fun _ z => z) dX9_fieldLine_54 hk) ?_
  refine rz_All_c (i := 27) (fun k J hk hJ => rz_iconst_ok (pc := 57) hx hb dX9_fieldLine_57 rfl hk) ?_
  refine rz_All_c (i := 28) (fun k J hk hJ => rz_aald_ok (pc := 58) hx hb hK dX9_fieldLine_58 hk) ?_
  refine rz_All_c (i := 29) (fun k J hk hJ => rz_iload_n_ok (pc := 59) hx hb dX9_fieldLine_59 rfl hk) ?_
  refine rz_All_c (i := 30) (fun k J hk hJ => rz_aload_n_ok (pc := 60) hx hb dX9_fieldLine_60 rfl hk) ?_
  refine rz_All_c (i := 31) (fun k J hk hJ => rz_getf_ok (pc := 61) (own := RX9) (ref := "ThreadJudge$Reader") (C := RX9) (T := TX9) (N := 19) (ci := 11) (index := 34) (f := 13) (t := 2) (Ts := Cond.code yX9_fieldLine cX9_fieldLine 4 (some .boolean) :: rz_TB) hx hb hts rz_in11 ho hK rfl (by decide) rfl (fun _ => rfl) (hw (i := 5) (j := 2) rfl rfl) (fun _ z => z) dX9_fieldLine_61 hk) ?_
  refine rz_All_c (i := 32) (fun k J hk hJ => rz_aload_n_ok (pc := 64) hx hb dX9_fieldLine_64 rfl hk) ?_
  refine rz_All_c (i := 33) (fun k J hk hJ => rz_getf_ok (pc := 65) (own := RX9) (ref := "ThreadJudge$Reader") (C := RX9) (T := TX9) (N := 19) (ci := 11) (index := 187) (f := 15) (t := 0) (Ts := Cond.code yX9_fieldLine cX9_fieldLine 4 (some .boolean) :: rz_TB) hx hb hts rz_in11 ho hK rfl (by decide) rfl (fun _ => rfl) (hw (i := 3) (j := 11) rfl rfl) (fun _ z => z) dX9_fieldLine_65 hk) ?_
  refine rz_All_c (i := 34) (fun k J hk hJ => rz_iald_ok (pc := 68) hx hb hK dX9_fieldLine_68 hk) ?_
  refine rz_All_c (i := 35) (fun k J hk hJ => rz_iast_ok (pc := 69) hx hb hK hA dX9_fieldLine_69 hk) ?_
  refine rz_All_c (i := 36) (fun k J hk hJ => rz_aload_n_ok (pc := 70) hx hb dX9_fieldLine_70 rfl hk) ?_
  refine rz_All_c (i := 37) (fun k J hk hJ => rz_getf_ok (pc := 71) (own := RX9) (ref := "ThreadJudge$Reader") (C := RX9) (T := TX9) (N := 19) (ci := 11) (index := 37) (f := 0) (t := 2) (Ts := Cond.code yX9_fieldLine cX9_fieldLine 4 (some .boolean) :: rz_TB) hx hb hts rz_in11 ho hK rfl (by decide) rfl (fun _ => rfl) (hw (i := 9) (j := 16) rfl rfl) (fun _ z => z) dX9_fieldLine_71 hk) ?_
  refine rz_All_c (i := 38) (fun k J hk hJ => rz_getf_ok (pc := 74) (own := RX9) (ref := "ThreadJudge$Program") (C := RX7) (T := TX7) (N := 22) (ci := 9) (index := 279) (f := 8) (t := 2) (Ts := Cond.code yX9_fieldLine cX9_fieldLine 4 (some .boolean) :: rz_TB) hx hb hts rz_in9 ho hK rfl (by decide) rfl (fun _ => rfl) (hw (i := 12) (j := 1) rfl rfl) (fun _ z => z) dX9_fieldLine_74 hk) ?_
  refine rz_All_c (i := 39) (fun k J hk hJ => rz_iconst_ok (pc := 77) hx hb dX9_fieldLine_77 rfl hk) ?_
  refine rz_All_c (i := 40) (fun k J hk hJ => rz_aald_ok (pc := 78) hx hb hK dX9_fieldLine_78 hk) ?_
  refine rz_All_c (i := 41) (fun k J hk hJ => rz_iload_n_ok (pc := 79) hx hb dX9_fieldLine_79 rfl hk) ?_
  refine rz_All_c (i := 42) (fun k J hk hJ => rz_aload_n_ok (pc := 80) hx hb dX9_fieldLine_80 rfl hk) ?_
  refine rz_All_c (i := 43) (fun k J hk hJ => rz_callV_ok (pc := 81) (own := RX9) (C := RX9) (T0 := TX9) (N0 := 19) hC rfl (rmX9_spot l hG) (rz_cwV 0 hC rz_good (rz_mem (i := 10) (j := 14) rfl rfl) (rz_mem (i := 10) (j := 15) rfl rfl) (rz_mem (i := 10) (j := 16) rfl rfl) (rz_mem (i := 1) (j := 21) rfl rfl) (rz_mem (i := 10) (j := 17) rfl rfl) ⟨rfl, by decide, by decide, by decide +kernel⟩ rfl rfl ⟨by decide, by decide⟩) rfl dX9_fieldLine_81 hk) ?_
  refine rz_All_c (i := 44) (fun k J hk hJ => rz_iast_ok (pc := 84) hx hb hK hA dX9_fieldLine_84 hk) ?_
  refine rz_All_c (i := 45) (fun k J hk hJ => rz_aload_n_ok (pc := 85) hx hb dX9_fieldLine_85 rfl hk) ?_
  refine rz_All_c (i := 46) (fun k J hk hJ => rz_getf_ok (pc := 86) (own := RX9) (ref := "ThreadJudge$Reader") (C := RX9) (T := TX9) (N := 19) (ci := 11) (index := 37) (f := 0) (t := 2) (Ts := Cond.code yX9_fieldLine cX9_fieldLine 4 (some .boolean) :: rz_TB) hx hb hts rz_in11 ho hK rfl (by decide) rfl (fun _ => rfl) (hw (i := 9) (j := 16) rfl rfl) (fun _ z => z) dX9_fieldLine_86 hk) ?_
  refine rz_All_c (i := 47) (fun k J hk hJ => rz_getf_ok (pc := 89) (own := RX9) (ref := "ThreadJudge$Program") (C := RX7) (T := TX7) (N := 22) (ci := 9) (index := 279) (f := 8) (t := 2) (Ts := Cond.code yX9_fieldLine cX9_fieldLine 4 (some .boolean) :: rz_TB) hx hb hts rz_in9 ho hK rfl (by decide) rfl (fun _ => rfl) (hw (i := 12) (j := 1) rfl rfl) (fun _ z => z) dX9_fieldLine_89 hk) ?_
  refine rz_All_c (i := 48) (fun k J hk hJ => rz_iconst_ok (pc := 92) hx hb dX9_fieldLine_92 rfl hk) ?_
  refine rz_All_c (i := 49) (fun k J hk hJ => rz_aald_ok (pc := 93) hx hb hK dX9_fieldLine_93 hk) ?_
  refine rz_All_c (i := 50) (fun k J hk hJ => rz_iload_n_ok (pc := 94) hx hb dX9_fieldLine_94 rfl hk) ?_
  refine rz_All_c (i := 51) (fun k J hk hJ => rz_aload_n_ok (pc := 95) hx hb dX9_fieldLine_95 rfl hk) ?_
  refine rz_All_c (i := 52) (fun k J hk hJ => rz_getf_ok (pc := 96) (own := RX9) (ref := "ThreadJudge$Reader") (C := RX9) (T := TX9) (N := 19) (ci := 11) (index := 37) (f := 0) (t := 2) (Ts := Cond.code yX9_fieldLine cX9_fieldLine 4 (some .boolean) :: rz_TB) hx hb hts rz_in11 ho hK rfl (by decide) rfl (fun _ => rfl) (hw (i := 9) (j := 16) rfl rfl) (fun _ z => z) dX9_fieldLine_96 hk) ?_
  refine rz_All_c (i := 53) (fun k J hk hJ => rz_getf_ok (pc := 99) (own := RX9) (ref := "ThreadJudge$Program") (C := RX7) (T := TX7) (N := 22) (ci := 9) (index := 233) (f := 2) (t := 0) (Ts := Cond.code yX9_fieldLine cX9_fieldLine 4 (some .boolean) :: rz_TB) hx hb hts rz_in9 ho hK rfl (by decide) rfl (fun _ => rfl) (hw (i := 9) (j := 23) rfl rfl) (fun _ z => z) dX9_fieldLine_99 hk) ?_
  refine rz_All_c (i := 54) (fun k J hk hJ => rz_iconst_ok (pc := 102) hx hb dX9_fieldLine_102 rfl hk) ?_
  refine rz_All_c (i := 55) (fun k J hk hJ => rz_isub_ok (pc := 103) hx hb dX9_fieldLine_103 hk) ?_
  refine rz_All_c (i := 56) (fun k J hk hJ => rz_iast_ok (pc := 104) hx hb hK hA dX9_fieldLine_104 hk) ?_
  refine rz_All_c (i := 57) (fun k J hk hJ => rz_aload_n_ok (pc := 105) hx hb dX9_fieldLine_105 rfl hk) ?_
  refine rz_All_c (i := 58) (fun k J hk hJ => rz_getf_ok (pc := 106) (own := RX9) (ref := "ThreadJudge$Reader") (C := RX9) (T := TX9) (N := 19) (ci := 11) (index := 37) (f := 0) (t := 2) (Ts := Cond.code yX9_fieldLine cX9_fieldLine 4 (some .boolean) :: rz_TB) hx hb hts rz_in11 ho hK rfl (by decide) rfl (fun _ => rfl) (hw (i := 9) (j := 16) rfl rfl) (fun _ z => z) dX9_fieldLine_106 hk) ?_
  refine rz_All_c (i := 59) (fun k J hk hJ => rz_getf_ok (pc := 109) (own := RX9) (ref := "ThreadJudge$Program") (C := RX7) (T := TX7) (N := 22) (ci := 9) (index := 279) (f := 8) (t := 2) (Ts := Cond.code yX9_fieldLine cX9_fieldLine 4 (some .boolean) :: rz_TB) hx hb hts rz_in9 ho hK rfl (by decide) rfl (fun _ => rfl) (hw (i := 12) (j := 1) rfl rfl) (fun _ z => z) dX9_fieldLine_109 hk) ?_
  refine rz_All_c (i := 60) (fun k J hk hJ => rz_iconst_ok (pc := 112) hx hb dX9_fieldLine_112 rfl hk) ?_
  refine rz_All_c (i := 61) (fun k J hk hJ => rz_aald_ok (pc := 113) hx hb hK dX9_fieldLine_113 hk) ?_
  refine rz_All_c (i := 62) (fun k J hk hJ => rz_iload_n_ok (pc := 114) hx hb dX9_fieldLine_114 rfl hk) ?_
  refine rz_All_c (i := 63) (fun k J hk hJ => rz_iload_n_ok (pc := 115) hx hb dX9_fieldLine_115 rfl hk) ?_
  refine rz_All_c (i := 64) (fun k J hk hJ => rz_iast_ok (pc := 116) hx hb hK hA dX9_fieldLine_116 hk) ?_
  refine rz_All_c (i := 65) (fun k J hk hJ => rz_aload_n_ok (pc := 117) hx hb dX9_fieldLine_117 rfl hk) ?_
  refine rz_All_c (i := 66) (fun k J hk hJ => rz_getf_ok (pc := 118) (own := RX9) (ref := "ThreadJudge$Reader") (C := RX9) (T := TX9) (N := 19) (ci := 11) (index := 37) (f := 0) (t := 2) (Ts := Cond.code yX9_fieldLine cX9_fieldLine 4 (some .boolean) :: rz_TB) hx hb hts rz_in11 ho hK rfl (by decide) rfl (fun _ => rfl) (hw (i := 9) (j := 16) rfl rfl) (fun _ z => z) dX9_fieldLine_118 hk) ?_
  refine rz_All_c (i := 67) (fun k J hk hJ => rz_getf_ok (pc := 121) (own := RX9) (ref := "ThreadJudge$Program") (C := RX7) (T := TX7) (N := 22) (ci := 9) (index := 279) (f := 8) (t := 2) (Ts := Cond.code yX9_fieldLine cX9_fieldLine 4 (some .boolean) :: rz_TB) hx hb hts rz_in9 ho hK rfl (by decide) rfl (fun _ => rfl) (hw (i := 12) (j := 1) rfl rfl) (fun _ z => z) dX9_fieldLine_121 hk) ?_
  refine rz_All_c (i := 68) (fun k J hk hJ => rz_iconst_ok (pc := 124) hx hb dX9_fieldLine_124 rfl hk) ?_
  refine rz_All_c (i := 69) (fun k J hk hJ => rz_aald_ok (pc := 125) hx hb hK dX9_fieldLine_125 hk) ?_
  refine rz_All_c (i := 70) (fun k J hk hJ => rz_iload_n_ok (pc := 126) hx hb dX9_fieldLine_126 rfl hk) ?_
  refine rz_All_c (i := 71) (fun k J hk hJ => rz_iload_n_ok (pc := 127) hx hb dX9_fieldLine_127 rfl hk) ?_
  refine rz_All_c (i := 72) (fun k J hk hJ => rz_iast_ok (pc := 128) hx hb hK hA dX9_fieldLine_128 hk) ?_
  refine rz_All_c (i := 73) (fun k J hk hJ => rz_aload_n_ok (pc := 129) hx hb dX9_fieldLine_129 rfl hk) ?_
  refine rz_All_c (i := 74) (fun k J hk hJ => rz_dup_ok (pc := 130) hx hb dX9_fieldLine_130 hk) ?_
  refine rz_All_c (i := 75) (fun k J hk hJ => rz_getf_ok (pc := 131) (own := RX9) (ref := "ThreadJudge$Reader") (C := RX9) (T := TX9) (N := 19) (ci := 11) (index := 187) (f := 15) (t := 0) (Ts := Cond.code yX9_fieldLine cX9_fieldLine 4 (some .boolean) :: rz_TB) hx hb hts rz_in11 ho hK rfl (by decide) rfl (fun _ => rfl) (hw (i := 3) (j := 11) rfl rfl) (fun _ z => z) dX9_fieldLine_131 hk) ?_
  refine rz_All_c (i := 76) (fun k J hk hJ => rz_iconst_ok (pc := 134) hx hb dX9_fieldLine_134 rfl hk) ?_
  refine rz_All_c (i := 77) (fun k J hk hJ => rz_iadd_ok (pc := 135) hx hb dX9_fieldLine_135 hk) ?_
  refine rz_All_c (i := 78) (fun k J hk hJ => rz_putf_ok (pc := 136) (own := RX9) (ref := "ThreadJudge$Reader") (C := RX9) (T := TX9) (N := 19) (ci := 11) (index := 187) (f := 15) (t := 0) (Ts := Cond.code yX9_fieldLine cX9_fieldLine 4 (some .boolean) :: rz_TB) hx hb hts rz_in11 tyX9 tyX9_ok nmX9 ho hK hA rfl (by decide) rfl (rz_UnI _) rfl (tyX9_ok 15 (by decide)) (hw (i := 3) (j := 11) rfl rfl) (fun _ z => z) dX9_fieldLine_136 hk) ?_
  refine rz_All_c (i := 79) (fun k J hk hJ => rz_aload_n_ok (pc := 139) hx hb dX9_fieldLine_139 rfl hk) ?_
  refine rz_All_c (i := 80) (fun k J hk hJ => rz_bipush_ok (pc := 140) hx hb dX9_fieldLine_140 (by decide) hk) ?_
  refine rz_All_c (i := 81) (fun k J hk hJ => rz_callV_ok (pc := 142) (own := RX9) (C := RX9) (T0 := TX9) (N0 := 19) hC rfl (rmX9_takeSign l hG) (rz_cwV 1 hC rz_good (rz_mem (i := 11) (j := 8) rfl rfl) (rz_mem (i := 11) (j := 9) rfl rfl) (rz_mem (i := 11) (j := 10) rfl rfl) (rz_mem (i := 1) (j := 21) rfl rfl) (rz_mem (i := 11) (j := 11) rfl rfl) ⟨rfl, by decide, by decide, by decide +kernel⟩ rfl rfl ⟨by decide, by decide⟩) rfl dX9_fieldLine_142 hk) ?_
  refine rz_All_c (i := 82) (fun k J hk hJ => rz_zret_ok (pc := 145) hC dX9_fieldLine_145) ?_
  exact trivial
theorem dX9_flagHere_0 : decode cX9_flagHere 0 = .ok (.aload_n 0, 1) := by decide +kernel
theorem dX9_flagHere_1 : decode cX9_flagHere 1 = .ok (.getfield 28, 3) := by decide +kernel
theorem dX9_flagHere_4 : decode cX9_flagHere 4 = .ok (.aload_n 0, 1) := by decide +kernel
theorem dX9_flagHere_5 : decode cX9_flagHere 5 = .ok (.getfield 187, 3) := by decide +kernel
theorem dX9_flagHere_8 : decode cX9_flagHere 8 = .ok (.iaload, 1) := by decide +kernel
theorem dX9_flagHere_9 : decode cX9_flagHere 9 = .ok (.iconst 1, 1) := by decide +kernel
theorem dX9_flagHere_10 : decode cX9_flagHere 10 = .ok (.if_icmp .eq 5, 3) := by decide +kernel
theorem dX9_flagHere_15 : decode cX9_flagHere 15 = .ok (.aload_n 0, 1) := by decide +kernel
theorem dX9_flagHere_16 : decode cX9_flagHere 16 = .ok (.getfield 34, 3) := by decide +kernel
theorem dX9_flagHere_19 : decode cX9_flagHere 19 = .ok (.aload_n 0, 1) := by decide +kernel
theorem dX9_flagHere_20 : decode cX9_flagHere 20 = .ok (.getfield 187, 3) := by decide +kernel
theorem dX9_flagHere_23 : decode cX9_flagHere 23 = .ok (.iaload, 1) := by decide +kernel
theorem dX9_flagHere_24 : decode cX9_flagHere 24 = .ok (.tableswitch 68 60 69 #[62, 68, 68, 68, 68, 68, 56, 58, 60, 65], 56) := by decide +kernel
theorem dX9_flagHere_80 : decode cX9_flagHere 80 = .ok (.iconst 1, 1) := by decide +kernel
theorem dX9_flagHere_81 : decode cX9_flagHere 81 = .ok (.ireturn, 1) := by decide +kernel
theorem dX9_flagHere_86 : decode cX9_flagHere 86 = .ok (.bipush 8, 2) := by decide +kernel
theorem dX9_flagHere_88 : decode cX9_flagHere 88 = .ok (.ireturn, 1) := by decide +kernel
theorem dX9_flagHere_92 : decode cX9_flagHere 92 = .ok (.iconst 0, 1) := by decide +kernel
theorem dX9_flagHere_93 : decode cX9_flagHere 93 = .ok (.ireturn, 1) := by decide +kernel
def rpX9_flagHere : List Nat := [0, 1, 4, 5, 8, 9, 10, 13, 15, 16, 19, 20, 23, 24, 80, 81, 82, 84, 86, 88, 89, 92, 93]
noncomputable def rcX9_flagHere : List rz_B := [rz_aload 0, rz_getf (Nat.add (Nat.mul 256 11) 1) 11 rz_r, rz_aload 0, rz_getf (Nat.add (Nat.mul 256 11) 1) 15 rz_i, rz_iald, rz_cst 1, rz_icmpeq 8, rz_no, rz_aload 0, rz_getf (Nat.add (Nat.mul 256 11) 1) 13 rz_r, rz_aload 0, rz_getf (Nat.add (Nat.mul 256 11) 1) 15 rz_i, rz_iald, rz_tsw 60 [18, 21, 21, 21, 21, 21, 14, 16, 17, 20] 21, rz_cst 1, rz_iret, rz_no, rz_no, rz_cst 8, rz_iret, rz_no, rz_cst 0, rz_iret]
noncomputable def rgX9_flagHere : rz_L → rz_M → rz_Z → Bool := rz_go rcX9_flagHere 1 1000000
def rrX9_flagHere : Room := { frames := 0, cells := 0, slots := 0, locals := 0 }
theorem rmX9_flagHere (l : Launch) {G : rz_G} (hG : rz_Gd G) (vs : rz_L) (M : rz_M) (Z : rz_Z) (hn : vs.length = 1) (h : rgX9_flagHere vs M Z = true) : Met l yX9_flagHere (Cond.code yX9_flagHere cX9_flagHere 1 (some .int) :: rz_TB) rrX9_flagHere (rz_Pre G vs M) (rz_Qi G M.2 Z) 0 0 (fun q => rz_b G ≤ q) := by
  obtain ⟨D, tc, ad, b, xs, rfl⟩ := id hG
  refine rz_body (pcs := rpX9_flagHere) (by decide) rfl (by rw [hn]; decide) h ?_
  intro p e R s m args below meth c hC
  obtain ⟨hx, hb, hml, hr, hlk, ho, hts, hKn, hRm⟩ := id hC
  obtain ⟨hK, hA, hSt⟩ := id hKn
  have hw : ∀ {i j : Nat} {ws : List Cond} {w : Cond}, rz_WW[i]? = some ws → ws[j]? = some w → w.before args s = true := fun h1 h2 => hts _ (List.mem_cons_of_mem _ (rz_mem h1 h2))
  refine rz_All_c (i := 0) (fun k J hk hJ => rz_aload_n_ok (pc := 0) hx hb dX9_flagHere_0 rfl hk) ?_
  refine rz_All_c (i := 1) (fun k J hk hJ => rz_getf_ok (pc := 1) (own := RX9) (ref := "ThreadJudge$Reader") (C := RX9) (T := TX9) (N := 19) (ci := 11) (index := 28) (f := 11) (t := 2) (Ts := Cond.code yX9_flagHere cX9_flagHere 1 (some .int) :: rz_TB) hx hb hts rz_in11 ho hK rfl (by decide) rfl (fun _ => rfl) (hw (i := 3) (j := 14) rfl rfl) (fun _ z => z) dX9_flagHere_1 hk) ?_
  refine rz_All_c (i := 2) (fun k J hk hJ => rz_aload_n_ok (pc := 4) hx hb dX9_flagHere_4 rfl hk) ?_
  refine rz_All_c (i := 3) (fun k J hk hJ => rz_getf_ok (pc := 5) (own := RX9) (ref := "ThreadJudge$Reader") (C := RX9) (T := TX9) (N := 19) (ci := 11) (index := 187) (f := 15) (t := 0) (Ts := Cond.code yX9_flagHere cX9_flagHere 1 (some .int) :: rz_TB) hx hb hts rz_in11 ho hK rfl (by decide) rfl (fun _ => rfl) (hw (i := 3) (j := 11) rfl rfl) (fun _ z => z) dX9_flagHere_5 hk) ?_
  refine rz_All_c (i := 4) (fun k J hk hJ => rz_iald_ok (pc := 8) hx hb hK dX9_flagHere_8 hk) ?_
  refine rz_All_c (i := 5) (fun k J hk hJ => rz_iconst_ok (pc := 9) hx hb dX9_flagHere_9 rfl hk) ?_
  refine rz_All_c (i := 6) (fun k J hk hJ => rz_icmpeq_ok (pc := 10) hx hb dX9_flagHere_10 rfl hk (hJ 8)) ?_
  refine rz_All_c (i := 7) (fun k J hk hJ => rz_no_ok) ?_
  refine rz_All_c (i := 8) (fun k J hk hJ => rz_aload_n_ok (pc := 15) hx hb dX9_flagHere_15 rfl hk) ?_
  refine rz_All_c (i := 9) (fun k J hk hJ => rz_getf_ok (pc := 16) (own := RX9) (ref := "ThreadJudge$Reader") (C := RX9) (T := TX9) (N := 19) (ci := 11) (index := 34) (f := 13) (t := 2) (Ts := Cond.code yX9_flagHere cX9_flagHere 1 (some .int) :: rz_TB) hx hb hts rz_in11 ho hK rfl (by decide) rfl (fun _ => rfl) (hw (i := 5) (j := 2) rfl rfl) (fun _ z => z) dX9_flagHere_16 hk) ?_
  refine rz_All_c (i := 10) (fun k J hk hJ => rz_aload_n_ok (pc := 19) hx hb dX9_flagHere_19 rfl hk) ?_
  refine rz_All_c (i := 11) (fun k J hk hJ => rz_getf_ok (pc := 20) (own := RX9) (ref := "ThreadJudge$Reader") (C := RX9) (T := TX9) (N := 19) (ci := 11) (index := 187) (f := 15) (t := 0) (Ts := Cond.code yX9_flagHere cX9_flagHere 1 (some .int) :: rz_TB) hx hb hts rz_in11 ho hK rfl (by decide) rfl (fun _ => rfl) (hw (i := 3) (j := 11) rfl rfl) (fun _ z => z) dX9_flagHere_20 hk) ?_
  refine rz_All_c (i := 12) (fun k J hk hJ => rz_iald_ok (pc := 23) hx hb hK dX9_flagHere_23 hk) ?_
  refine rz_All_c (i := 13) (fun k J hk hJ => rz_tsw_ok (pc := 24) (pcs := rpX9_flagHere) (js := [18, 21, 21, 21, 21, 21, 14, 16, 17, 20]) (d := 21) (lo := 60) hx hb dX9_flagHere_24 (by decide +kernel) hJ) ?_
  refine rz_All_c (i := 14) (fun k J hk hJ => rz_iconst_ok (pc := 80) hx hb dX9_flagHere_80 rfl hk) ?_
  refine rz_All_c (i := 15) (fun k J hk hJ => rz_iret_ok (pc := 81) hC dX9_flagHere_81) ?_
  refine rz_All_c (i := 16) (fun k J hk hJ => rz_no_ok) ?_
  refine rz_All_c (i := 17) (fun k J hk hJ => rz_no_ok) ?_
  refine rz_All_c (i := 18) (fun k J hk hJ => rz_bipush_ok (pc := 86) hx hb dX9_flagHere_86 (by decide) hk) ?_
  refine rz_All_c (i := 19) (fun k J hk hJ => rz_iret_ok (pc := 88) hC dX9_flagHere_88) ?_
  refine rz_All_c (i := 20) (fun k J hk hJ => rz_no_ok) ?_
  refine rz_All_c (i := 21) (fun k J hk hJ => rz_iconst_ok (pc := 92) hx hb dX9_flagHere_92 rfl hk) ?_
  refine rz_All_c (i := 22) (fun k J hk hJ => rz_iret_ok (pc := 93) hC dX9_flagHere_93) ?_
  exact trivial
theorem dX9_types_0 : decode cX9_types 0 = .ok (.aload_n 0, 1) := by decide +kernel
theorem dX9_types_1 : decode cX9_types 1 = .ok (.bipush 40, 2) := by decide +kernel
theorem dX9_types_3 : decode cX9_types 3 = .ok (.invokevirtual 223, 3) := by decide +kernel
theorem dX9_types_6 : decode cX9_types 6 = .ok (.ifCond .ne 5, 3) := by decide +kernel
theorem dX9_types_11 : decode cX9_types 11 = .ok (.aload_n 0, 1) := by decide +kernel
theorem dX9_types_12 : decode cX9_types 12 = .ok (.bipush 41, 2) := by decide +kernel
theorem dX9_types_14 : decode cX9_types 14 = .ok (.invokevirtual 223, 3) := by decide +kernel
theorem dX9_types_17 : decode cX9_types 17 = .ok (.ifCond .eq 5, 3) := by decide +kernel
theorem dX9_types_20 : decode cX9_types 20 = .ok (.iconst 0, 1) := by decide +kernel
theorem dX9_types_21 : decode cX9_types 21 = .ok (.ireturn, 1) := by decide +kernel
theorem dX9_types_22 : decode cX9_types 22 = .ok (.iconst 0, 1) := by decide +kernel
theorem dX9_types_23 : decode cX9_types 23 = .ok (.istore_n 3, 1) := by decide +kernel
theorem dX9_types_24 : decode cX9_types 24 = .ok (.iload_n 3, 1) := by decide +kernel
theorem dX9_types_25 : decode cX9_types 25 = .ok (.bipush 6, 2) := by decide +kernel
theorem dX9_types_27 : decode cX9_types 27 = .ok (.if_icmp .gt 72, 3) := by decide +kernel
theorem dX9_types_30 : decode cX9_types 30 = .ok (.aload_n 0, 1) := by decide +kernel
theorem dX9_types_31 : decode cX9_types 31 = .ok (.invokevirtual 270, 3) := by decide +kernel
theorem dX9_types_34 : decode cX9_types 34 = .ok (.ifCond .eq 65, 3) := by decide +kernel
theorem dX9_types_37 : decode cX9_types 37 = .ok (.iload_n 3, 1) := by decide +kernel
theorem dX9_types_38 : decode cX9_types 38 = .ok (.bipush 6, 2) := by decide +kernel
theorem dX9_types_40 : decode cX9_types 40 = .ok (.if_icmp .ne 10, 3) := by decide +kernel
theorem dX9_types_50 : decode cX9_types 50 = .ok (.aload_n 1, 1) := by decide +kernel
theorem dX9_types_51 : decode cX9_types 51 = .ok (.iload_n 2, 1) := by decide +kernel
theorem dX9_types_52 : decode cX9_types 52 = .ok (.iload_n 3, 1) := by decide +kernel
theorem dX9_types_53 : decode cX9_types 53 = .ok (.iadd, 1) := by decide +kernel
theorem dX9_types_54 : decode cX9_types 54 = .ok (.aload_n 0, 1) := by decide +kernel
theorem dX9_types_55 : decode cX9_types 55 = .ok (.invokevirtual 273, 3) := by decide +kernel
theorem dX9_types_58 : decode cX9_types 58 = .ok (.iastore, 1) := by decide +kernel
theorem dX9_types_59 : decode cX9_types 59 = .ok (.aload_n 1, 1) := by decide +kernel
theorem dX9_types_60 : decode cX9_types 60 = .ok (.iload_n 2, 1) := by decide +kernel
theorem dX9_types_61 : decode cX9_types 61 = .ok (.iload_n 3, 1) := by decide +kernel
theorem dX9_types_62 : decode cX9_types 62 = .ok (.iadd, 1) := by decide +kernel
theorem dX9_types_63 : decode cX9_types 63 = .ok (.iaload, 1) := by decide +kernel
theorem dX9_types_64 : decode cX9_types 64 = .ok (.ifCond .ge 5, 3) := by decide +kernel
theorem dX9_types_69 : decode cX9_types 69 = .ok (.aload_n 0, 1) := by decide +kernel
theorem dX9_types_70 : decode cX9_types 70 = .ok (.bipush 41, 2) := by decide +kernel
theorem dX9_types_72 : decode cX9_types 72 = .ok (.invokevirtual 223, 3) := by decide +kernel
theorem dX9_types_75 : decode cX9_types 75 = .ok (.ifCond .eq 7, 3) := by decide +kernel
theorem dX9_types_78 : decode cX9_types 78 = .ok (.iload_n 3, 1) := by decide +kernel
theorem dX9_types_79 : decode cX9_types 79 = .ok (.iconst 1, 1) := by decide +kernel
theorem dX9_types_80 : decode cX9_types 80 = .ok (.iadd, 1) := by decide +kernel
theorem dX9_types_81 : decode cX9_types 81 = .ok (.ireturn, 1) := by decide +kernel
def rpX9_types : List Nat := [0, 1, 3, 6, 9, 11, 12, 14, 17, 20, 21, 22, 23, 24, 25, 27, 30, 31, 34, 37, 38, 40, 43, 50, 51, 52, 53, 54, 55, 58, 59, 60, 61, 62, 63, 64, 67, 69, 70, 72, 75, 78, 79, 80, 81, 82, 99]
noncomputable def rcX9_types : List rz_B := [rz_aload 0, rz_cst 40, rz_callV 1 (Nat.add (Nat.mul 256 11) 1) rgX9_takeSign, rz_ifne 5, rz_no, rz_aload 0, rz_cst 41, rz_callV 1 (Nat.add (Nat.mul 256 11) 1) rgX9_takeSign, rz_ifeq 11, rz_cst 0, rz_iret, rz_cst 0, rz_istore 3, rz_iload 3, rz_cst 6, rz_icmpgt 46, rz_aload 0, rz_callV 0 (Nat.add (Nat.mul 256 11) 1) rgX9_isType, rz_ifeq 46, rz_iload 3, rz_cst 6, rz_icmpne 23, rz_no, rz_aload 1, rz_iload 2, rz_iload 3, rz_iadd, rz_aload 0, rz_callV 0 (Nat.add (Nat.mul 256 11) 1) rgX9_rawType, rz_iast, rz_aload 1, rz_iload 2, rz_iload 3, rz_iadd, rz_iald, rz_ifge 37, rz_no, rz_aload 0, rz_cst 41, rz_callV 1 (Nat.add (Nat.mul 256 11) 1) rgX9_takeSign, rz_ifeq 45, rz_iload 3, rz_cst 1, rz_iadd, rz_iret, rz_no, rz_no]
noncomputable def rgX9_types : rz_L → rz_M → rz_Z → Bool := rz_go rcX9_types 4 1000000
def rrX9_types : Room := { frames := 2, cells := 0, slots := 0, locals := 42 }
theorem rmX9_types (l : Launch) {G : rz_G} (hG : rz_Gd G) (vs : rz_L) (M : rz_M) (Z : rz_Z) (hn : vs.length = 3) (h : rgX9_types vs M Z = true) : Met l yX9_types (Cond.code yX9_types cX9_types 4 (some .int) :: rz_TB) rrX9_types (rz_Pre G vs M) (rz_Qi G M.2 Z) 0 0 (fun q => rz_b G ≤ q) := by
  obtain ⟨D, tc, ad, b, xs, rfl⟩ := id hG
  refine rz_body (pcs := rpX9_types) (by decide) rfl (by rw [hn]; decide) h ?_
  intro p e R s m args below meth c hC
  obtain ⟨hx, hb, hml, hr, hlk, ho, hts, hKn, hRm⟩ := id hC
  obtain ⟨hK, hA, hSt⟩ := id hKn
  have hw : ∀ {i j : Nat} {ws : List Cond} {w : Cond}, rz_WW[i]? = some ws → ws[j]? = some w → w.before args s = true := fun h1 h2 => hts _ (List.mem_cons_of_mem _ (rz_mem h1 h2))
  refine rz_All_c (i := 0) (fun k J hk hJ => rz_aload_n_ok (pc := 0) hx hb dX9_types_0 rfl hk) ?_
  refine rz_All_c (i := 1) (fun k J hk hJ => rz_bipush_ok (pc := 1) hx hb dX9_types_1 (by decide) hk) ?_
  refine rz_All_c (i := 2) (fun k J hk hJ => rz_callV_ok (pc := 3) (own := RX9) (C := RX9) (T0 := TX9) (N0 := 19) hC rfl (rmX9_takeSign l hG) (rz_cwV 1 hC rz_good (rz_mem (i := 11) (j := 8) rfl rfl) (rz_mem (i := 11) (j := 9) rfl rfl) (rz_mem (i := 11) (j := 10) rfl rfl) (rz_mem (i := 1) (j := 21) rfl rfl) (rz_mem (i := 11) (j := 11) rfl rfl) ⟨rfl, by decide, by decide, by decide +kernel⟩ rfl rfl ⟨by decide, by decide⟩) rfl dX9_types_3 hk) ?_
  refine rz_All_c (i := 3) (fun k J hk hJ => rz_ifne_ok (pc := 6) hx hb dX9_types_6 rfl hk (hJ 5)) ?_
  refine rz_All_c (i := 4) (fun k J hk hJ => rz_no_ok) ?_
  refine rz_All_c (i := 5) (fun k J hk hJ => rz_aload_n_ok (pc := 11) hx hb dX9_types_11 rfl hk) ?_
  refine rz_All_c (i := 6) (fun k J hk hJ => rz_bipush_ok (pc := 12) hx hb dX9_types_12 (by decide) hk) ?_
  refine rz_All_c (i := 7) (fun k J hk hJ => rz_callV_ok (pc := 14) (own := RX9) (C := RX9) (T0 := TX9) (N0 := 19) hC rfl (rmX9_takeSign l hG) (rz_cwV 1 hC rz_good (rz_mem (i := 11) (j := 8) rfl rfl) (rz_mem (i := 11) (j := 9) rfl rfl) (rz_mem (i := 11) (j := 10) rfl rfl) (rz_mem (i := 1) (j := 21) rfl rfl) (rz_mem (i := 11) (j := 11) rfl rfl) ⟨rfl, by decide, by decide, by decide +kernel⟩ rfl rfl ⟨by decide, by decide⟩) rfl dX9_types_14 hk) ?_
  refine rz_All_c (i := 8) (fun k J hk hJ => rz_ifeq_ok (pc := 17) hx hb dX9_types_17 rfl hk (hJ 11)) ?_
  refine rz_All_c (i := 9) (fun k J hk hJ => rz_iconst_ok (pc := 20) hx hb dX9_types_20 rfl hk) ?_
  refine rz_All_c (i := 10) (fun k J hk hJ => rz_iret_ok (pc := 21) hC dX9_types_21) ?_
  refine rz_All_c (i := 11) (fun k J hk hJ => rz_iconst_ok (pc := 22) hx hb dX9_types_22 rfl hk) ?_
  refine rz_All_c (i := 12) (fun k J hk hJ => rz_istore_n_ok (pc := 23) hx hb dX9_types_23 rfl hk) ?_
  refine rz_All_c (i := 13) (fun k J hk hJ => rz_iload_n_ok (pc := 24) hx hb dX9_types_24 rfl hk) ?_
  refine rz_All_c (i := 14) (fun k J hk hJ => rz_bipush_ok (pc := 25) hx hb dX9_types_25 (by decide) hk) ?_
  refine rz_All_c (i := 15) (fun k J hk hJ => rz_icmpgt_ok (pc := 27) hx hb dX9_types_27 rfl hk (hJ 46)) ?_
  refine rz_All_c (i := 16) (fun k J hk hJ => rz_aload_n_ok (pc := 30) hx hb dX9_types_30 rfl hk) ?_
  refine rz_All_c (i := 17) (fun k J hk hJ => rz_callV_ok (pc := 31) (own := RX9) (C := RX9) (T0 := TX9) (N0 := 19) hC rfl (rmX9_isType l hG) (rz_cwV 0 hC rz_good (rz_mem (i := 12) (j := 6) rfl rfl) (rz_mem (i := 12) (j := 7) rfl rfl) (rz_mem (i := 12) (j := 8) rfl rfl) (rz_mem (i := 1) (j := 21) rfl rfl) (rz_mem (i := 12) (j := 9) rfl rfl) ⟨rfl, by decide, by decide, by decide +kernel⟩ rfl rfl ⟨by decide, by decide⟩) rfl dX9_types_31 hk) ?_
  refine rz_All_c (i := 18) (fun k J hk hJ => rz_ifeq_ok (pc := 34) hx hb dX9_types_34 rfl hk (hJ 46)) ?_
  refine rz_All_c (i := 19) (fun k J hk hJ => rz_iload_n_ok (pc := 37) hx hb dX9_types_37 rfl hk) ?_
  refine rz_All_c (i := 20) (fun k J hk hJ => rz_bipush_ok (pc := 38) hx hb dX9_types_38 (by decide) hk) ?_
  refine rz_All_c (i := 21) (fun k J hk hJ => rz_icmpne_ok (pc := 40) hx hb dX9_types_40 rfl hk (hJ 23)) ?_
  refine rz_All_c (i := 22) (fun k J hk hJ => rz_no_ok) ?_
  refine rz_All_c (i := 23) (fun k J hk hJ => rz_aload_n_ok (pc := 50) hx hb dX9_types_50 rfl hk) ?_
  refine rz_All_c (i := 24) (fun k J hk hJ => rz_iload_n_ok (pc := 51) hx hb dX9_types_51 rfl hk) ?_
  refine rz_All_c (i := 25) (fun k J hk hJ => rz_iload_n_ok (pc := 52) hx hb dX9_types_52 rfl hk) ?_
  refine rz_All_c (i := 26) (fun k J hk hJ => rz_iadd_ok (pc := 53) hx hb dX9_types_53 hk) ?_
  refine rz_All_c (i := 27) (fun k J hk hJ => rz_aload_n_ok (pc := 54) hx hb dX9_types_54 rfl hk) ?_
  refine rz_All_c (i := 28) (fun k J hk hJ => rz_callV_ok (pc := 55) (own := RX9) (C := RX9) (T0 := TX9) (N0 := 19) hC rfl (rmX9_rawType l hG) (rz_cwV 0 hC rz_good (rz_mem (i := 12) (j := 2) rfl rfl) (rz_mem (i := 12) (j := 3) rfl rfl) (rz_mem (i := 12) (j := 4) rfl rfl) (rz_mem (i := 1) (j := 21) rfl rfl) (rz_mem (i := 12) (j := 5) rfl rfl) ⟨rfl, by decide, by decide, by decide +kernel⟩ rfl rfl ⟨by decide, by decide⟩) rfl dX9_types_55 hk) ?_
  refine rz_All_c (i := 29) (fun k J hk hJ => rz_iast_ok (pc := 58) hx hb hK hA dX9_types_58 hk) ?_
  refine rz_All_c (i := 30) (fun k J hk hJ => rz_aload_n_ok (pc := 59) hx hb dX9_types_59 rfl hk) ?_
  refine rz_All_c (i := 31) (fun k J hk hJ => rz_iload_n_ok (pc := 60) hx hb dX9_types_60 rfl hk) ?_
  refine rz_All_c (i := 32) (fun k J hk hJ => rz_iload_n_ok (pc := 61) hx hb dX9_types_61 rfl hk) ?_
  refine rz_All_c (i := 33) (fun k J hk hJ => rz_iadd_ok (pc := 62) hx hb dX9_types_62 hk) ?_
  refine rz_All_c (i := 34) (fun k J hk hJ => rz_iald_ok (pc := 63) hx hb hK dX9_types_63 hk) ?_
  refine rz_All_c (i := 35) (fun k J hk hJ => rz_ifge_ok (pc := 64) hx hb dX9_types_64 rfl hk (hJ 37)) ?_
  refine rz_All_c (i := 36) (fun k J hk hJ => rz_no_ok) ?_
  refine rz_All_c (i := 37) (fun k J hk hJ => rz_aload_n_ok (pc := 69) hx hb dX9_types_69 rfl hk) ?_
  refine rz_All_c (i := 38) (fun k J hk hJ => rz_bipush_ok (pc := 70) hx hb dX9_types_70 (by decide) hk) ?_
  refine rz_All_c (i := 39) (fun k J hk hJ => rz_callV_ok (pc := 72) (own := RX9) (C := RX9) (T0 := TX9) (N0 := 19) hC rfl (rmX9_takeSign l hG) (rz_cwV 1 hC rz_good (rz_mem (i := 11) (j := 8) rfl rfl) (rz_mem (i := 11) (j := 9) rfl rfl) (rz_mem (i := 11) (j := 10) rfl rfl) (rz_mem (i := 1) (j := 21) rfl rfl) (rz_mem (i := 11) (j := 11) rfl rfl) ⟨rfl, by decide, by decide, by decide +kernel⟩ rfl rfl ⟨by decide, by decide⟩) rfl dX9_types_72 hk) ?_
  refine rz_All_c (i := 40) (fun k J hk hJ => rz_ifeq_ok (pc := 75) hx hb dX9_types_75 rfl hk (hJ 45)) ?_
  refine rz_All_c (i := 41) (fun k J hk hJ => rz_iload_n_ok (pc := 78) hx hb dX9_types_78 rfl hk) ?_
  refine rz_All_c (i := 42) (fun k J hk hJ => rz_iconst_ok (pc := 79) hx hb dX9_types_79 rfl hk) ?_
  refine rz_All_c (i := 43) (fun k J hk hJ => rz_iadd_ok (pc := 80) hx hb dX9_types_80 hk) ?_
  refine rz_All_c (i := 44) (fun k J hk hJ => rz_iret_ok (pc := 81) hC dX9_types_81) ?_
  refine rz_All_c (i := 45) (fun k J hk hJ => rz_no_ok) ?_
  refine rz_All_c (i := 46) (fun k J hk hJ => rz_no_ok) ?_
  exact trivial
theorem dX9_methodHead_0 : decode cX9_methodHead 0 = .ok (.aload_n 0, 1) := by decide +kernel
theorem dX9_methodHead_1 : decode cX9_methodHead 1 = .ok (.invokevirtual 273, 3) := by decide +kernel
theorem dX9_methodHead_4 : decode cX9_methodHead 4 = .ok (.istore_n 2, 1) := by decide +kernel
theorem dX9_methodHead_5 : decode cX9_methodHead 5 = .ok (.iload_n 2, 1) := by decide +kernel
theorem dX9_methodHead_6 : decode cX9_methodHead 6 = .ok (.ifCond .lt 10, 3) := by decide +kernel
theorem dX9_methodHead_9 : decode cX9_methodHead 9 = .ok (.aload_n 0, 1) := by decide +kernel
theorem dX9_methodHead_10 : decode cX9_methodHead 10 = .ok (.invokevirtual 230, 3) := by decide +kernel
theorem dX9_methodHead_13 : decode cX9_methodHead 13 = .ok (.ifCond .ne 5, 3) := by decide +kernel
theorem dX9_methodHead_18 : decode cX9_methodHead 18 = .ok (.aload_n 0, 1) := by decide +kernel
theorem dX9_methodHead_19 : decode cX9_methodHead 19 = .ok (.getfield 37, 3) := by decide +kernel
theorem dX9_methodHead_22 : decode cX9_methodHead 22 = .ok (.getfield 246, 3) := by decide +kernel
theorem dX9_methodHead_25 : decode cX9_methodHead 25 = .ok (.bipush 117, 2) := by decide +kernel
theorem dX9_methodHead_27 : decode cX9_methodHead 27 = .ok (.if_icmp .lt 8, 3) := by decide +kernel
theorem dX9_methodHead_35 : decode cX9_methodHead 35 = .ok (.aload_n 0, 1) := by decide +kernel
theorem dX9_methodHead_36 : decode cX9_methodHead 36 = .ok (.getfield 37, 3) := by decide +kernel
theorem dX9_methodHead_39 : decode cX9_methodHead 39 = .ok (.dup, 1) := by decide +kernel
theorem dX9_methodHead_40 : decode cX9_methodHead 40 = .ok (.getfield 246, 3) := by decide +kernel
theorem dX9_methodHead_43 : decode cX9_methodHead 43 = .ok (.dup_x1, 1) := by decide +kernel
theorem dX9_methodHead_44 : decode cX9_methodHead 44 = .ok (.iconst 1, 1) := by decide +kernel
theorem dX9_methodHead_45 : decode cX9_methodHead 45 = .ok (.iadd, 1) := by decide +kernel
theorem dX9_methodHead_46 : decode cX9_methodHead 46 = .ok (.putfield 246, 3) := by decide +kernel
theorem dX9_methodHead_49 : decode cX9_methodHead 49 = .ok (.istore_n 3, 1) := by decide +kernel
theorem dX9_methodHead_50 : decode cX9_methodHead 50 = .ok (.aload_n 0, 1) := by decide +kernel
theorem dX9_methodHead_51 : decode cX9_methodHead 51 = .ok (.getfield 37, 3) := by decide +kernel
theorem dX9_methodHead_54 : decode cX9_methodHead 54 = .ok (.getfield 239, 3) := by decide +kernel
theorem dX9_methodHead_57 : decode cX9_methodHead 57 = .ok (.iconst 5, 1) := by decide +kernel
theorem dX9_methodHead_58 : decode cX9_methodHead 58 = .ok (.aaload, 1) := by decide +kernel
theorem dX9_methodHead_59 : decode cX9_methodHead 59 = .ok (.aload_n 0, 1) := by decide +kernel
theorem dX9_methodHead_60 : decode cX9_methodHead 60 = .ok (.getfield 37, 3) := by decide +kernel
theorem dX9_methodHead_63 : decode cX9_methodHead 63 = .ok (.getfield 233, 3) := by decide +kernel
theorem dX9_methodHead_66 : decode cX9_methodHead 66 = .ok (.iconst 1, 1) := by decide +kernel
theorem dX9_methodHead_67 : decode cX9_methodHead 67 = .ok (.isub, 1) := by decide +kernel
theorem dX9_methodHead_68 : decode cX9_methodHead 68 = .ok (.dup2, 1) := by decide +kernel
theorem dX9_methodHead_69 : decode cX9_methodHead 69 = .ok (.iaload, 1) := by decide +kernel
theorem dX9_methodHead_70 : decode cX9_methodHead 70 = .ok (.iconst 1, 1) := by decide +kernel
theorem dX9_methodHead_71 : decode cX9_methodHead 71 = .ok (.iadd, 1) := by decide +kernel
theorem dX9_methodHead_72 : decode cX9_methodHead 72 = .ok (.iastore, 1) := by decide +kernel
theorem dX9_methodHead_73 : decode cX9_methodHead 73 = .ok (.aload_n 0, 1) := by decide +kernel
theorem dX9_methodHead_74 : decode cX9_methodHead 74 = .ok (.getfield 37, 3) := by decide +kernel
theorem dX9_methodHead_77 : decode cX9_methodHead 77 = .ok (.getfield 282, 3) := by decide +kernel
theorem dX9_methodHead_80 : decode cX9_methodHead 80 = .ok (.iconst 0, 1) := by decide +kernel
theorem dX9_methodHead_81 : decode cX9_methodHead 81 = .ok (.aaload, 1) := by decide +kernel
theorem dX9_methodHead_82 : decode cX9_methodHead 82 = .ok (.iload_n 3, 1) := by decide +kernel
theorem dX9_methodHead_83 : decode cX9_methodHead 83 = .ok (.aload_n 0, 1) := by decide +kernel
theorem dX9_methodHead_84 : decode cX9_methodHead 84 = .ok (.getfield 34, 3) := by decide +kernel
theorem dX9_methodHead_87 : decode cX9_methodHead 87 = .ok (.aload_n 0, 1) := by decide +kernel
theorem dX9_methodHead_88 : decode cX9_methodHead 88 = .ok (.getfield 187, 3) := by decide +kernel
theorem dX9_methodHead_91 : decode cX9_methodHead 91 = .ok (.iaload, 1) := by decide +kernel
theorem dX9_methodHead_92 : decode cX9_methodHead 92 = .ok (.iastore, 1) := by decide +kernel
theorem dX9_methodHead_93 : decode cX9_methodHead 93 = .ok (.aload_n 0, 1) := by decide +kernel
theorem dX9_methodHead_94 : decode cX9_methodHead 94 = .ok (.getfield 37, 3) := by decide +kernel
theorem dX9_methodHead_97 : decode cX9_methodHead 97 = .ok (.getfield 282, 3) := by decide +kernel
theorem dX9_methodHead_100 : decode cX9_methodHead 100 = .ok (.iconst 1, 1) := by decide +kernel
theorem dX9_methodHead_101 : decode cX9_methodHead 101 = .ok (.aaload, 1) := by decide +kernel
theorem dX9_methodHead_102 : decode cX9_methodHead 102 = .ok (.iload_n 3, 1) := by decide +kernel
theorem dX9_methodHead_103 : decode cX9_methodHead 103 = .ok (.aload_n 0, 1) := by decide +kernel
theorem dX9_methodHead_104 : decode cX9_methodHead 104 = .ok (.invokevirtual 242, 3) := by decide +kernel
theorem dX9_methodHead_107 : decode cX9_methodHead 107 = .ok (.iastore, 1) := by decide +kernel
theorem dX9_methodHead_108 : decode cX9_methodHead 108 = .ok (.aload_n 0, 1) := by decide +kernel
theorem dX9_methodHead_109 : decode cX9_methodHead 109 = .ok (.getfield 37, 3) := by decide +kernel
theorem dX9_methodHead_112 : decode cX9_methodHead 112 = .ok (.getfield 282, 3) := by decide +kernel
theorem dX9_methodHead_115 : decode cX9_methodHead 115 = .ok (.iconst 2, 1) := by decide +kernel
theorem dX9_methodHead_116 : decode cX9_methodHead 116 = .ok (.aaload, 1) := by decide +kernel
theorem dX9_methodHead_117 : decode cX9_methodHead 117 = .ok (.iload_n 3, 1) := by decide +kernel
theorem dX9_methodHead_118 : decode cX9_methodHead 118 = .ok (.aload_n 0, 1) := by decide +kernel
theorem dX9_methodHead_119 : decode cX9_methodHead 119 = .ok (.getfield 37, 3) := by decide +kernel
theorem dX9_methodHead_122 : decode cX9_methodHead 122 = .ok (.getfield 233, 3) := by decide +kernel
theorem dX9_methodHead_125 : decode cX9_methodHead 125 = .ok (.iconst 1, 1) := by decide +kernel
theorem dX9_methodHead_126 : decode cX9_methodHead 126 = .ok (.isub, 1) := by decide +kernel
theorem dX9_methodHead_127 : decode cX9_methodHead 127 = .ok (.iastore, 1) := by decide +kernel
theorem dX9_methodHead_128 : decode cX9_methodHead 128 = .ok (.aload_n 0, 1) := by decide +kernel
theorem dX9_methodHead_129 : decode cX9_methodHead 129 = .ok (.getfield 37, 3) := by decide +kernel
theorem dX9_methodHead_132 : decode cX9_methodHead 132 = .ok (.getfield 282, 3) := by decide +kernel
theorem dX9_methodHead_135 : decode cX9_methodHead 135 = .ok (.iconst 3, 1) := by decide +kernel
theorem dX9_methodHead_136 : decode cX9_methodHead 136 = .ok (.aaload, 1) := by decide +kernel
theorem dX9_methodHead_137 : decode cX9_methodHead 137 = .ok (.iload_n 3, 1) := by decide +kernel
theorem dX9_methodHead_138 : decode cX9_methodHead 138 = .ok (.iload_n 2, 1) := by decide +kernel
theorem dX9_methodHead_139 : decode cX9_methodHead 139 = .ok (.iastore, 1) := by decide +kernel
theorem dX9_methodHead_140 : decode cX9_methodHead 140 = .ok (.aload_n 0, 1) := by decide +kernel
theorem dX9_methodHead_141 : decode cX9_methodHead 141 = .ok (.getfield 37, 3) := by decide +kernel
theorem dX9_methodHead_144 : decode cX9_methodHead 144 = .ok (.getfield 282, 3) := by decide +kernel
theorem dX9_methodHead_147 : decode cX9_methodHead 147 = .ok (.bipush 6, 2) := by decide +kernel
theorem dX9_methodHead_149 : decode cX9_methodHead 149 = .ok (.aaload, 1) := by decide +kernel
theorem dX9_methodHead_150 : decode cX9_methodHead 150 = .ok (.iload_n 3, 1) := by decide +kernel
theorem dX9_methodHead_151 : decode cX9_methodHead 151 = .ok (.aload_n 0, 1) := by decide +kernel
theorem dX9_methodHead_152 : decode cX9_methodHead 152 = .ok (.getfield 37, 3) := by decide +kernel
theorem dX9_methodHead_155 : decode cX9_methodHead 155 = .ok (.getfield 206, 3) := by decide +kernel
theorem dX9_methodHead_158 : decode cX9_methodHead 158 = .ok (.iastore, 1) := by decide +kernel
theorem dX9_methodHead_159 : decode cX9_methodHead 159 = .ok (.aload_n 0, 1) := by decide +kernel
theorem dX9_methodHead_160 : decode cX9_methodHead 160 = .ok (.getfield 37, 3) := by decide +kernel
theorem dX9_methodHead_163 : decode cX9_methodHead 163 = .ok (.getfield 282, 3) := by decide +kernel
theorem dX9_methodHead_166 : decode cX9_methodHead 166 = .ok (.bipush 7, 2) := by decide +kernel
theorem dX9_methodHead_168 : decode cX9_methodHead 168 = .ok (.aaload, 1) := by decide +kernel
theorem dX9_methodHead_169 : decode cX9_methodHead 169 = .ok (.iload_n 3, 1) := by decide +kernel
theorem dX9_methodHead_170 : decode cX9_methodHead 170 = .ok (.iconst 0, 1) := by decide +kernel
theorem dX9_methodHead_171 : decode cX9_methodHead 171 = .ok (.iastore, 1) := by decide +kernel
theorem dX9_methodHead_172 : decode cX9_methodHead 172 = .ok (.aload_n 0, 1) := by decide +kernel
theorem dX9_methodHead_173 : decode cX9_methodHead 173 = .ok (.getfield 37, 3) := by decide +kernel
theorem dX9_methodHead_176 : decode cX9_methodHead 176 = .ok (.getfield 282, 3) := by decide +kernel
theorem dX9_methodHead_179 : decode cX9_methodHead 179 = .ok (.bipush 8, 2) := by decide +kernel
theorem dX9_methodHead_181 : decode cX9_methodHead 181 = .ok (.aaload, 1) := by decide +kernel
theorem dX9_methodHead_182 : decode cX9_methodHead 182 = .ok (.iload_n 3, 1) := by decide +kernel
theorem dX9_methodHead_183 : decode cX9_methodHead 183 = .ok (.aload_n 0, 1) := by decide +kernel
theorem dX9_methodHead_184 : decode cX9_methodHead 184 = .ok (.getfield 37, 3) := by decide +kernel
theorem dX9_methodHead_187 : decode cX9_methodHead 187 = .ok (.getfield 285, 3) := by decide +kernel
theorem dX9_methodHead_190 : decode cX9_methodHead 190 = .ok (.iastore, 1) := by decide +kernel
theorem dX9_methodHead_191 : decode cX9_methodHead 191 = .ok (.aload_n 0, 1) := by decide +kernel
theorem dX9_methodHead_192 : decode cX9_methodHead 192 = .ok (.getfield 37, 3) := by decide +kernel
theorem dX9_methodHead_195 : decode cX9_methodHead 195 = .ok (.getfield 282, 3) := by decide +kernel
theorem dX9_methodHead_198 : decode cX9_methodHead 198 = .ok (.bipush 9, 2) := by decide +kernel
theorem dX9_methodHead_200 : decode cX9_methodHead 200 = .ok (.aaload, 1) := by decide +kernel
theorem dX9_methodHead_201 : decode cX9_methodHead 201 = .ok (.iload_n 3, 1) := by decide +kernel
theorem dX9_methodHead_202 : decode cX9_methodHead 202 = .ok (.iconst 0, 1) := by decide +kernel
theorem dX9_methodHead_203 : decode cX9_methodHead 203 = .ok (.iastore, 1) := by decide +kernel
theorem dX9_methodHead_204 : decode cX9_methodHead 204 = .ok (.aload_n 0, 1) := by decide +kernel
theorem dX9_methodHead_205 : decode cX9_methodHead 205 = .ok (.getfield 37, 3) := by decide +kernel
theorem dX9_methodHead_208 : decode cX9_methodHead 208 = .ok (.getfield 282, 3) := by decide +kernel
theorem dX9_methodHead_211 : decode cX9_methodHead 211 = .ok (.bipush 10, 2) := by decide +kernel
theorem dX9_methodHead_213 : decode cX9_methodHead 213 = .ok (.aaload, 1) := by decide +kernel
theorem dX9_methodHead_214 : decode cX9_methodHead 214 = .ok (.iload_n 3, 1) := by decide +kernel
theorem dX9_methodHead_215 : decode cX9_methodHead 215 = .ok (.aload_n 0, 1) := by decide +kernel
theorem dX9_methodHead_216 : decode cX9_methodHead 216 = .ok (.getfield 37, 3) := by decide +kernel
theorem dX9_methodHead_219 : decode cX9_methodHead 219 = .ok (.getfield 288, 3) := by decide +kernel
theorem dX9_methodHead_222 : decode cX9_methodHead 222 = .ok (.iastore, 1) := by decide +kernel
theorem dX9_methodHead_223 : decode cX9_methodHead 223 = .ok (.aload_n 0, 1) := by decide +kernel
theorem dX9_methodHead_224 : decode cX9_methodHead 224 = .ok (.getfield 37, 3) := by decide +kernel
theorem dX9_methodHead_227 : decode cX9_methodHead 227 = .ok (.getfield 282, 3) := by decide +kernel
theorem dX9_methodHead_230 : decode cX9_methodHead 230 = .ok (.bipush 11, 2) := by decide +kernel
theorem dX9_methodHead_232 : decode cX9_methodHead 232 = .ok (.aaload, 1) := by decide +kernel
theorem dX9_methodHead_233 : decode cX9_methodHead 233 = .ok (.iload_n 3, 1) := by decide +kernel
theorem dX9_methodHead_234 : decode cX9_methodHead 234 = .ok (.iconst 0, 1) := by decide +kernel
theorem dX9_methodHead_235 : decode cX9_methodHead 235 = .ok (.iastore, 1) := by decide +kernel
theorem dX9_methodHead_236 : decode cX9_methodHead 236 = .ok (.aload_n 0, 1) := by decide +kernel
theorem dX9_methodHead_237 : decode cX9_methodHead 237 = .ok (.dup, 1) := by decide +kernel
theorem dX9_methodHead_238 : decode cX9_methodHead 238 = .ok (.getfield 187, 3) := by decide +kernel
theorem dX9_methodHead_241 : decode cX9_methodHead 241 = .ok (.iconst 1, 1) := by decide +kernel
theorem dX9_methodHead_242 : decode cX9_methodHead 242 = .ok (.iadd, 1) := by decide +kernel
theorem dX9_methodHead_243 : decode cX9_methodHead 243 = .ok (.putfield 187, 3) := by decide +kernel
theorem dX9_methodHead_246 : decode cX9_methodHead 246 = .ok (.aload_n 0, 1) := by decide +kernel
theorem dX9_methodHead_247 : decode cX9_methodHead 247 = .ok (.getfield 37, 3) := by decide +kernel
theorem dX9_methodHead_250 : decode cX9_methodHead 250 = .ok (.getfield 282, 3) := by decide +kernel
theorem dX9_methodHead_253 : decode cX9_methodHead 253 = .ok (.iconst 5, 1) := by decide +kernel
theorem dX9_methodHead_254 : decode cX9_methodHead 254 = .ok (.aaload, 1) := by decide +kernel
theorem dX9_methodHead_255 : decode cX9_methodHead 255 = .ok (.iload_n 3, 1) := by decide +kernel
theorem dX9_methodHead_256 : decode cX9_methodHead 256 = .ok (.aload_n 0, 1) := by decide +kernel
theorem dX9_methodHead_257 : decode cX9_methodHead 257 = .ok (.aload_n 0, 1) := by decide +kernel
theorem dX9_methodHead_258 : decode cX9_methodHead 258 = .ok (.getfield 37, 3) := by decide +kernel
theorem dX9_methodHead_261 : decode cX9_methodHead 261 = .ok (.getfield 291, 3) := by decide +kernel
theorem dX9_methodHead_264 : decode cX9_methodHead 264 = .ok (.iload_n 3, 1) := by decide +kernel
theorem dX9_methodHead_265 : decode cX9_methodHead 265 = .ok (.bipush 6, 2) := by decide +kernel
theorem dX9_methodHead_267 : decode cX9_methodHead 267 = .ok (.imul, 1) := by decide +kernel
theorem dX9_methodHead_268 : decode cX9_methodHead 268 = .ok (.invokevirtual 294, 3) := by decide +kernel
theorem dX9_methodHead_271 : decode cX9_methodHead 271 = .ok (.iastore, 1) := by decide +kernel
theorem dX9_methodHead_272 : decode cX9_methodHead 272 = .ok (.aload_n 0, 1) := by decide +kernel
theorem dX9_methodHead_273 : decode cX9_methodHead 273 = .ok (.getfield 37, 3) := by decide +kernel
theorem dX9_methodHead_276 : decode cX9_methodHead 276 = .ok (.getfield 282, 3) := by decide +kernel
theorem dX9_methodHead_279 : decode cX9_methodHead 279 = .ok (.iconst 5, 1) := by decide +kernel
theorem dX9_methodHead_280 : decode cX9_methodHead 280 = .ok (.aaload, 1) := by decide +kernel
theorem dX9_methodHead_281 : decode cX9_methodHead 281 = .ok (.iload_n 3, 1) := by decide +kernel
theorem dX9_methodHead_282 : decode cX9_methodHead 282 = .ok (.iaload, 1) := by decide +kernel
theorem dX9_methodHead_283 : decode cX9_methodHead 283 = .ok (.ifCond .ge 5, 3) := by decide +kernel
theorem dX9_methodHead_288 : decode cX9_methodHead 288 = .ok (.aload_n 0, 1) := by decide +kernel
theorem dX9_methodHead_289 : decode cX9_methodHead 289 = .ok (.bipush 123, 2) := by decide +kernel
theorem dX9_methodHead_291 : decode cX9_methodHead 291 = .ok (.invokevirtual 258, 3) := by decide +kernel
theorem dX9_methodHead_294 : decode cX9_methodHead 294 = .ok (.istore 4, 2) := by decide +kernel
theorem dX9_methodHead_296 : decode cX9_methodHead 296 = .ok (.aload_n 0, 1) := by decide +kernel
theorem dX9_methodHead_297 : decode cX9_methodHead 297 = .ok (.getfield 83, 3) := by decide +kernel
theorem dX9_methodHead_300 : decode cX9_methodHead 300 = .ok (.aload_n 0, 1) := by decide +kernel
theorem dX9_methodHead_301 : decode cX9_methodHead 301 = .ok (.getfield 80, 3) := by decide +kernel
theorem dX9_methodHead_304 : decode cX9_methodHead 304 = .ok (.if_acmp .ne 19, 3) := by decide +kernel
theorem dX9_methodHead_307 : decode cX9_methodHead 307 = .ok (.iload 4, 2) := by decide +kernel
theorem dX9_methodHead_309 : decode cX9_methodHead 309 = .ok (.ifCond .ne 14, 3) := by decide +kernel
theorem dX9_methodHead_312 : decode cX9_methodHead 312 = .ok (.iload_n 1, 1) := by decide +kernel
theorem dX9_methodHead_313 : decode cX9_methodHead 313 = .ok (.bipush 8, 2) := by decide +kernel
theorem dX9_methodHead_315 : decode cX9_methodHead 315 = .ok (.iand, 1) := by decide +kernel
theorem dX9_methodHead_316 : decode cX9_methodHead 316 = .ok (.ifCond .ne 7, 3) := by decide +kernel
theorem dX9_methodHead_319 : decode cX9_methodHead 319 = .ok (.iconst 1, 1) := by decide +kernel
theorem dX9_methodHead_320 : decode cX9_methodHead 320 = .ok (.goto 4, 3) := by decide +kernel
theorem dX9_methodHead_323 : decode cX9_methodHead 323 = .ok (.iconst 0, 1) := by decide +kernel
theorem dX9_methodHead_324 : decode cX9_methodHead 324 = .ok (.istore 5, 2) := by decide +kernel
theorem dX9_methodHead_326 : decode cX9_methodHead 326 = .ok (.aload_n 0, 1) := by decide +kernel
theorem dX9_methodHead_327 : decode cX9_methodHead 327 = .ok (.getfield 37, 3) := by decide +kernel
theorem dX9_methodHead_330 : decode cX9_methodHead 330 = .ok (.getfield 282, 3) := by decide +kernel
theorem dX9_methodHead_333 : decode cX9_methodHead 333 = .ok (.iconst 4, 1) := by decide +kernel
theorem dX9_methodHead_334 : decode cX9_methodHead 334 = .ok (.aaload, 1) := by decide +kernel
theorem dX9_methodHead_335 : decode cX9_methodHead 335 = .ok (.iload_n 3, 1) := by decide +kernel
theorem dX9_methodHead_336 : decode cX9_methodHead 336 = .ok (.iload_n 1, 1) := by decide +kernel
theorem dX9_methodHead_337 : decode cX9_methodHead 337 = .ok (.iload 4, 2) := by decide +kernel
theorem dX9_methodHead_339 : decode cX9_methodHead 339 = .ok (.ifCond .eq 8, 3) := by decide +kernel
theorem dX9_methodHead_342 : decode cX9_methodHead 342 = .ok (.bipush 32, 2) := by decide +kernel
theorem dX9_methodHead_344 : decode cX9_methodHead 344 = .ok (.goto 4, 3) := by decide +kernel
theorem dX9_methodHead_347 : decode cX9_methodHead 347 = .ok (.iconst 0, 1) := by decide +kernel
theorem dX9_methodHead_348 : decode cX9_methodHead 348 = .ok (.ior, 1) := by decide +kernel
theorem dX9_methodHead_349 : decode cX9_methodHead 349 = .ok (.iload 5, 2) := by decide +kernel
theorem dX9_methodHead_351 : decode cX9_methodHead 351 = .ok (.ifCond .eq 8, 3) := by decide +kernel
theorem dX9_methodHead_354 : decode cX9_methodHead 354 = .ok (.bipush 64, 2) := by decide +kernel
theorem dX9_methodHead_356 : decode cX9_methodHead 356 = .ok (.goto 4, 3) := by decide +kernel
theorem dX9_methodHead_359 : decode cX9_methodHead 359 = .ok (.iconst 0, 1) := by decide +kernel
theorem dX9_methodHead_360 : decode cX9_methodHead 360 = .ok (.ior, 1) := by decide +kernel
theorem dX9_methodHead_361 : decode cX9_methodHead 361 = .ok (.iastore, 1) := by decide +kernel
theorem dX9_methodHead_362 : decode cX9_methodHead 362 = .ok (.aload_n 0, 1) := by decide +kernel
theorem dX9_methodHead_363 : decode cX9_methodHead 363 = .ok (.iload 4, 2) := by decide +kernel
theorem dX9_methodHead_365 : decode cX9_methodHead 365 = .ok (.ifCond .eq 7, 3) := by decide +kernel
theorem dX9_methodHead_368 : decode cX9_methodHead 368 = .ok (.iconst 2, 1) := by decide +kernel
theorem dX9_methodHead_369 : decode cX9_methodHead 369 = .ok (.goto 4, 3) := by decide +kernel
theorem dX9_methodHead_372 : decode cX9_methodHead 372 = .ok (.iconst 1, 1) := by decide +kernel
theorem dX9_methodHead_373 : decode cX9_methodHead 373 = .ok (.putfield 190, 3) := by decide +kernel
theorem dX9_methodHead_376 : decode cX9_methodHead 376 = .ok (.aload_n 0, 1) := by decide +kernel
theorem dX9_methodHead_377 : decode cX9_methodHead 377 = .ok (.iload 4, 2) := by decide +kernel
theorem dX9_methodHead_379 : decode cX9_methodHead 379 = .ok (.ifCond .eq 8, 3) := by decide +kernel
theorem dX9_methodHead_382 : decode cX9_methodHead 382 = .ok (.bipush 123, 2) := by decide +kernel
theorem dX9_methodHead_384 : decode cX9_methodHead 384 = .ok (.goto 5, 3) := by decide +kernel
theorem dX9_methodHead_387 : decode cX9_methodHead 387 = .ok (.bipush 59, 2) := by decide +kernel
theorem dX9_methodHead_389 : decode cX9_methodHead 389 = .ok (.invokevirtual 223, 3) := by decide +kernel
theorem dX9_methodHead_392 : decode cX9_methodHead 392 = .ok (.ireturn, 1) := by decide +kernel
def rpX9_methodHead : List Nat := [0, 1, 4, 5, 6, 9, 10, 13, 16, 18, 19, 22, 25, 27, 30, 35, 36, 39, 40, 43, 44, 45, 46, 49, 50, 51, 54, 57, 58, 59, 60, 63, 66, 67, 68, 69, 70, 71, 72, 73, 74, 77, 80, 81, 82, 83, 84, 87, 88, 91, 92, 93, 94, 97, 100, 101, 102, 103, 104, 107, 108, 109, 112, 115, 116, 117, 118, 119, 122, 125, 126, 127, 128, 129, 132, 135, 136, 137, 138, 139, 140, 141, 144, 147, 149, 150, 151, 152, 155, 158, 159, 160, 163, 166, 168, 169, 170, 171, 172, 173, 176, 179, 181, 182, 183, 184, 187, 190, 191, 192, 195, 198, 200, 201, 202, 203, 204, 205, 208, 211, 213, 214, 215, 216, 219, 222, 223, 224, 227, 230, 232, 233, 234, 235, 236, 237, 238, 241, 242, 243, 246, 247, 250, 253, 254, 255, 256, 257, 258, 261, 264, 265, 267, 268, 271, 272, 273, 276, 279, 280, 281, 282, 283, 286, 288, 289, 291, 294, 296, 297, 300, 301, 304, 307, 309, 312, 313, 315, 316, 319, 320, 323, 324, 326, 327, 330, 333, 334, 335, 336, 337, 339, 342, 344, 347, 348, 349, 351, 354, 356, 359, 360, 361, 362, 363, 365, 368, 369, 372, 373, 376, 377, 379, 382, 384, 387, 389, 392]
noncomputable def rcX9_methodHead : List rz_B := [rz_aload 0, rz_callV 0 (Nat.add (Nat.mul 256 11) 1) rgX9_rawType, rz_istore 2, rz_iload 2, rz_iflt 8, rz_aload 0, rz_callV 0 (Nat.add (Nat.mul 256 11) 1) rgX9_isName, rz_ifne 9, rz_no, rz_aload 0, rz_getf (Nat.add (Nat.mul 256 11) 1) 0 rz_r, rz_getf (Nat.add (Nat.mul 256 9) 1) 9 rz_i, rz_cst 117, rz_icmplt 15, rz_no, rz_aload 0, rz_getf (Nat.add (Nat.mul 256 11) 1) 0 rz_r, rz_dup, rz_getf (Nat.add (Nat.mul 256 9) 1) 9 rz_i, rz_dup_x1, rz_cst 1, rz_iadd, rz_putf (Nat.add (Nat.mul 256 9) 1) 9 rz_unI, rz_istore 3, rz_aload 0, rz_getf (Nat.add (Nat.mul 256 11) 1) 0 rz_r, rz_getf (Nat.add (Nat.mul 256 9) 1) 3 rz_r, rz_cst 5, rz_aald, rz_aload 0, rz_getf (Nat.add (Nat.mul 256 11) 1) 0 rz_r, rz_getf (Nat.add (Nat.mul 256 9) 1) 2 rz_i, rz_cst 1, rz_isub, rz_dup2, rz_iald, rz_cst 1, rz_iadd, rz_iast, rz_aload 0, rz_getf (Nat.add (Nat.mul 256 11) 1) 0 rz_r, rz_getf (Nat.add (Nat.mul 256 9) 1) 10 rz_r, rz_cst 0, rz_aald, rz_iload 3, rz_aload 0, rz_getf (Nat.add (Nat.mul 256 11) 1) 13 rz_r, rz_aload 0, rz_getf (Nat.add (Nat.mul 256 11) 1) 15 rz_i, rz_iald, rz_iast, rz_aload 0, rz_getf (Nat.add (Nat.mul 256 11) 1) 0 rz_r, rz_getf (Nat.add (Nat.mul 256 9) 1) 10 rz_r, rz_cst 1, rz_aald, rz_iload 3, rz_aload 0, rz_callV 0 (Nat.add (Nat.mul 256 11) 1) rgX9_spot, rz_iast, rz_aload 0, rz_getf (Nat.add (Nat.mul 256 11) 1) 0 rz_r, rz_getf (Nat.add (Nat.mul 256 9) 1) 10 rz_r, rz_cst 2, rz_aald, rz_iload 3, rz_aload 0, rz_getf (Nat.add (Nat.mul 256 11) 1) 0 rz_r, rz_getf (Nat.add (Nat.mul 256 9) 1) 2 rz_i, rz_cst 1, rz_isub, rz_iast, rz_aload 0, rz_getf (Nat.add (Nat.mul 256 11) 1) 0 rz_r, rz_getf (Nat.add (Nat.mul 256 9) 1) 10 rz_r, rz_cst 3, rz_aald, rz_iload 3, rz_iload 2, rz_iast, rz_aload 0, rz_getf (Nat.add (Nat.mul 256 11) 1) 0 rz_r, rz_getf (Nat.add (Nat.mul 256 9) 1) 10 rz_r, rz_cst 6, rz_aald, rz_iload 3, rz_aload 0, rz_getf (Nat.add (Nat.mul 256 11) 1) 0 rz_r, rz_getf (Nat.add (Nat.mul 256 9) 1) 13 rz_i, rz_iast, rz_aload 0, rz_getf (Nat.add (Nat.mul 256 11) 1) 0 rz_r, rz_getf (Nat.add (Nat.mul 256 9) 1) 10 rz_r, rz_cst 7, rz_aald, rz_iload 3, rz_cst 0, rz_iast, rz_aload 0, rz_getf (Nat.add (Nat.mul 256 11) 1) 0 rz_r, rz_getf (Nat.add (Nat.mul 256 9) 1) 10 rz_r, rz_cst 8, rz_aald, rz_iload 3, rz_aload 0, rz_getf (Nat.add (Nat.mul 256 11) 1) 0 rz_r, rz_getf (Nat.add (Nat.mul 256 9) 1) 16 rz_i, rz_iast, rz_aload 0, rz_getf (Nat.add (Nat.mul 256 11) 1) 0 rz_r, rz_getf (Nat.add (Nat.mul 256 9) 1) 10 rz_r, rz_cst 9, rz_aald, rz_iload 3, rz_cst 0, rz_iast, rz_aload 0, rz_getf (Nat.add (Nat.mul 256 11) 1) 0 rz_r, rz_getf (Nat.add (Nat.mul 256 9) 1) 10 rz_r, rz_cst 10, rz_aald, rz_iload 3, rz_aload 0, rz_getf (Nat.add (Nat.mul 256 11) 1) 0 rz_r, rz_getf (Nat.add (Nat.mul 256 9) 1) 18 rz_i, rz_iast, rz_aload 0, rz_getf (Nat.add (Nat.mul 256 11) 1) 0 rz_r, rz_getf (Nat.add (Nat.mul 256 9) 1) 10 rz_r, rz_cst 11, rz_aald, rz_iload 3, rz_cst 0, rz_iast, rz_aload 0, rz_dup, rz_getf (Nat.add (Nat.mul 256 11) 1) 15 rz_i, rz_cst 1, rz_iadd, rz_putf (Nat.add (Nat.mul 256 11) 1) 15 rz_unI, rz_aload 0, rz_getf (Nat.add (Nat.mul 256 11) 1) 0 rz_r, rz_getf (Nat.add (Nat.mul 256 9) 1) 10 rz_r, rz_cst 5, rz_aald, rz_iload 3, rz_aload 0, rz_aload 0, rz_getf (Nat.add (Nat.mul 256 11) 1) 0 rz_r, rz_getf (Nat.add (Nat.mul 256 9) 1) 11 rz_r, rz_iload 3, rz_cst 6, rz_imul, rz_callV 2 (Nat.add (Nat.mul 256 11) 1) rgX9_types, rz_iast, rz_aload 0, rz_getf (Nat.add (Nat.mul 256 11) 1) 0 rz_r, rz_getf (Nat.add (Nat.mul 256 9) 1) 10 rz_r, rz_cst 5, rz_aald, rz_iload 3, rz_iald, rz_ifge 164, rz_no, rz_aload 0, rz_cst 123, rz_callV 1 (Nat.add (Nat.mul 256 11) 1) rgX9_isSign, rz_istore 4, rz_aload 0, rz_getf (Nat.add (Nat.mul 256 11) 1) 9 rz_r, rz_aload 0, rz_getf (Nat.add (Nat.mul 256 11) 1) 2 rz_r, rz_acmpne 181, rz_iload 4, rz_ifne 181, rz_iload 1, rz_cst 8, rz_iand, rz_ifne 181, rz_cst 1, rz_goto 182, rz_cst 0, rz_istore 5, rz_aload 0, rz_getf (Nat.add (Nat.mul 256 11) 1) 0 rz_r, rz_getf (Nat.add (Nat.mul 256 9) 1) 10 rz_r, rz_cst 4, rz_aald, rz_iload 3, rz_iload 1, rz_iload 4, rz_ifeq 194, rz_cst 32, rz_goto 195, rz_cst 0, rz_ior, rz_iload 5, rz_ifeq 200, rz_cst 64, rz_goto 201, rz_cst 0, rz_ior, rz_iast, rz_aload 0, rz_iload 4, rz_ifeq 208, rz_cst 2, rz_goto 209, rz_cst 1, rz_putf (Nat.add (Nat.mul 256 11) 1) 16 rz_unI, rz_aload 0, rz_iload 4, rz_ifeq 215, rz_cst 123, rz_goto 216, rz_cst 59, rz_callV 1 (Nat.add (Nat.mul 256 11) 1) rgX9_takeSign, rz_zret]
noncomputable def rgX9_methodHead : rz_L → rz_M → rz_Z → Bool := rz_go rcX9_methodHead 6 1000000
def rrX9_methodHead : Room := { frames := 3, cells := 0, slots := 0, locals := 65 }
theorem rmX9_methodHead (l : Launch) {G : rz_G} (hG : rz_Gd G) (vs : rz_L) (M : rz_M) (Z : rz_Z) (hn : vs.length = 2) (h : rgX9_methodHead vs M Z = true) : Met l yX9_methodHead (Cond.code yX9_methodHead cX9_methodHead 6 (some .boolean) :: rz_TB) rrX9_methodHead (rz_Pre G vs M) (rz_Qi G M.2 Z) 0 0 (fun q => rz_b G ≤ q) := by
  obtain ⟨D, tc, ad, b, xs, rfl⟩ := id hG
  refine rz_body (pcs := rpX9_methodHead) (by decide) rfl (by rw [hn]; decide) h ?_
  intro p e R s m args below meth c hC
  obtain ⟨hx, hb, hml, hr, hlk, ho, hts, hKn, hRm⟩ := id hC
  obtain ⟨hK, hA, hSt⟩ := id hKn
  have hw : ∀ {i j : Nat} {ws : List Cond} {w : Cond}, rz_WW[i]? = some ws → ws[j]? = some w → w.before args s = true := fun h1 h2 => hts _ (List.mem_cons_of_mem _ (rz_mem h1 h2))
  refine rz_All_c (i := 0) (fun k J hk hJ => rz_aload_n_ok (pc := 0) hx hb dX9_methodHead_0 rfl hk) ?_
  refine rz_All_c (i := 1) (fun k J hk hJ => rz_callV_ok (pc := 1) (own := RX9) (C := RX9) (T0 := TX9) (N0 := 19) hC rfl (rmX9_rawType l hG) (rz_cwV 0 hC rz_good (rz_mem (i := 12) (j := 2) rfl rfl) (rz_mem (i := 12) (j := 3) rfl rfl) (rz_mem (i := 12) (j := 4) rfl rfl) (rz_mem (i := 1) (j := 21) rfl rfl) (rz_mem (i := 12) (j := 5) rfl rfl) ⟨rfl, by decide, by decide, by decide +kernel⟩ rfl rfl ⟨by decide, by decide⟩) rfl dX9_methodHead_1 hk) ?_
  refine rz_All_c (i := 2) (fun k J hk hJ => rz_istore_n_ok (pc := 4) hx hb dX9_methodHead_4 rfl hk) ?_
  refine rz_All_c (i := 3) (fun k J hk hJ => rz_iload_n_ok (pc := 5) hx hb dX9_methodHead_5 rfl hk) ?_
  refine rz_All_c (i := 4) (fun k J hk hJ => rz_iflt_ok (pc := 6) hx hb dX9_methodHead_6 rfl hk (hJ 8)) ?_
  refine rz_All_c (i := 5) (fun k J hk hJ => rz_aload_n_ok (pc := 9) hx hb dX9_methodHead_9 rfl hk) ?_
  refine rz_All_c (i := 6) (fun k J hk hJ => rz_callV_ok (pc := 10) (own := RX9) (C := RX9) (T0 := TX9) (N0 := 19) hC rfl (rmX9_isName l hG) (rz_cwV 0 hC rz_good (rz_mem (i := 10) (j := 6) rfl rfl) (rz_mem (i := 10) (j := 7) rfl rfl) (rz_mem (i := 10) (j := 8) rfl rfl) (rz_mem (i := 1) (j := 21) rfl rfl) (rz_mem (i := 10) (j := 9) rfl rfl) ⟨rfl, by decide, by decide, by decide +kernel⟩ rfl rfl ⟨by decide, by decide⟩) rfl dX9_methodHead_10 hk) ?_
  refine rz_All_c (i := 7) (fun k J hk hJ => rz_ifne_ok (pc := 13) hx hb dX9_methodHead_13 rfl hk (hJ 9)) ?_
  refine rz_All_c (i := 8) (fun k J hk hJ => rz_no_ok) ?_
  refine rz_All_c (i := 9) (fun k J hk hJ => rz_aload_n_ok (pc := 18) hx hb dX9_methodHead_18 rfl hk) ?_
  refine rz_All_c (i := 10) (fun k J hk hJ => rz_getf_ok (pc := 19) (own := RX9) (ref := "ThreadJudge$Reader") (C := RX9) (T := TX9) (N := 19) (ci := 11) (index := 37) (f := 0) (t := 2) (Ts := Cond.code yX9_methodHead cX9_methodHead 6 (some .boolean) :: rz_TB) hx hb hts rz_in11 ho hK rfl (by decide) rfl (fun _ => rfl) (hw (i := 9) (j := 16) rfl rfl) (fun _ z => z) dX9_methodHead_19 hk) ?_
  refine rz_All_c (i := 11) (fun k J hk hJ => rz_getf_ok (pc := 22) (own := RX9) (ref := "ThreadJudge$Program") (C := RX7) (T := TX7) (N := 22) (ci := 9) (index := 246) (f := 9) (t := 0) (Ts := Cond.code yX9_methodHead cX9_methodHead 6 (some .boolean) :: rz_TB) hx hb hts rz_in9 ho hK rfl (by decide) rfl (fun _ => rfl) (hw (i := 10) (j := 1) rfl rfl) (fun _ z => z) dX9_methodHead_22 hk) ?_
  refine rz_All_c (i := 12) (fun k J hk hJ => rz_bipush_ok (pc := 25) hx hb dX9_methodHead_25 (by decide) hk) ?_
  refine rz_All_c (i := 13) (fun k J hk hJ => rz_icmplt_ok (pc := 27) hx hb dX9_methodHead_27 rfl hk (hJ 15)) ?_
  refine rz_All_c (i := 14) (fun k J hk hJ => rz_no_ok) ?_
  refine rz_All_c (i := 15) (fun k J hk hJ => rz_aload_n_ok (pc := 35) hx hb dX9_methodHead_35 rfl hk) ?_
  refine rz_All_c (i := 16) (fun k J hk hJ => rz_getf_ok (pc := 36) (own := RX9) (ref := "ThreadJudge$Reader") (C := RX9) (T := TX9) (N := 19) (ci := 11) (index := 37) (f := 0) (t := 2) (Ts := Cond.code yX9_methodHead cX9_methodHead 6 (some .boolean) :: rz_TB) hx hb hts rz_in11 ho hK rfl (by decide) rfl (fun _ => rfl) (hw (i := 9) (j := 16) rfl rfl) (fun _ z => z) dX9_methodHead_36 hk) ?_
  refine rz_All_c (i := 17) (fun k J hk hJ => rz_dup_ok (pc := 39) hx hb dX9_methodHead_39 hk) ?_
  refine rz_All_c (i := 18) (fun k J hk hJ => rz_getf_ok (pc := 40) (own := RX9) (ref := "ThreadJudge$Program") (C := RX7) (T := TX7) (N := 22) (ci := 9) (index := 246) (f := 9) (t := 0) (Ts := Cond.code yX9_methodHead cX9_methodHead 6 (some .boolean) :: rz_TB) hx hb hts rz_in9 ho hK rfl (by decide) rfl (fun _ => rfl) (hw (i := 10) (j := 1) rfl rfl) (fun _ z => z) dX9_methodHead_40 hk) ?_
  refine rz_All_c (i := 19) (fun k J hk hJ => rz_dup_x1_ok (pc := 43) hx hb dX9_methodHead_43 hk) ?_
  refine rz_All_c (i := 20) (fun k J hk hJ => rz_iconst_ok (pc := 44) hx hb dX9_methodHead_44 rfl hk) ?_
  refine rz_All_c (i := 21) (fun k J hk hJ => rz_iadd_ok (pc := 45) hx hb dX9_methodHead_45 hk) ?_
  refine rz_All_c (i := 22) (fun k J hk hJ => rz_putf_ok (pc := 46) (own := RX9) (ref := "ThreadJudge$Program") (C := RX7) (T := TX7) (N := 22) (ci := 9) (index := 246) (f := 9) (t := 0) (Ts := Cond.code yX9_methodHead cX9_methodHead 6 (some .boolean) :: rz_TB) hx hb hts rz_in9 tyX7 tyX7_ok nmX7 ho hK hA rfl (by decide) rfl (rz_UnI _) rfl (tyX7_ok 9 (by decide)) (hw (i := 10) (j := 1) rfl rfl) (fun _ z => z) dX9_methodHead_46 hk) ?_
  refine rz_All_c (i := 23) (fun k J hk hJ => rz_istore_n_ok (pc := 49) hx hb dX9_methodHead_49 rfl hk) ?_
  refine rz_All_c (i := 24) (fun k J hk hJ => rz_aload_n_ok (pc := 50) hx hb dX9_methodHead_50 rfl hk) ?_
  refine rz_All_c (i := 25) (fun k J hk hJ => rz_getf_ok (pc := 51) (own := RX9) (ref := "ThreadJudge$Reader") (C := RX9) (T := TX9) (N := 19) (ci := 11) (index := 37) (f := 0) (t := 2) (Ts := Cond.code yX9_methodHead cX9_methodHead 6 (some .boolean) :: rz_TB) hx hb hts rz_in11 ho hK rfl (by decide) rfl (fun _ => rfl) (hw (i := 9) (j := 16) rfl rfl) (fun _ z => z) dX9_methodHead_51 hk) ?_
  refine rz_All_c (i := 26) (fun k J hk hJ => rz_getf_ok (pc := 54) (own := RX9) (ref := "ThreadJudge$Program") (C := RX7) (T := TX7) (N := 22) (ci := 9) (index := 239) (f := 3) (t := 2) (Ts := Cond.code yX9_methodHead cX9_methodHead 6 (some .boolean) :: rz_TB) hx hb hts rz_in9 ho hK rfl (by decide) rfl (fun _ => rfl) (hw (i := 10) (j := 0) rfl rfl) (fun _ z => z) dX9_methodHead_54 hk) ?_
  refine rz_All_c (i := 27) (fun k J hk hJ => rz_iconst_ok (pc := 57) hx hb dX9_methodHead_57 rfl hk) ?_
  refine rz_All_c (i := 28) (fun k J hk hJ => rz_aald_ok (pc := 58) hx hb hK dX9_methodHead_58 hk) ?_
  refine rz_All_c (i := 29) (fun k J hk hJ => rz_aload_n_ok (pc := 59) hx hb dX9_methodHead_59 rfl hk) ?_
  refine rz_All_c (i := 30) (fun k J hk hJ => rz_getf_ok (pc := 60) (own := RX9) (ref := "ThreadJudge$Reader") (C := RX9) (T := TX9) (N := 19) (ci := 11) (index := 37) (f := 0) (t := 2) (Ts := Cond.code yX9_methodHead cX9_methodHead 6 (some .boolean) :: rz_TB) hx hb hts rz_in11 ho hK rfl (by decide) rfl (fun _ => rfl) (hw (i := 9) (j := 16) rfl rfl) (fun _ z => z) dX9_methodHead_60 hk) ?_
  refine rz_All_c (i := 31) (fun k J hk hJ => rz_getf_ok (pc := 63) (own := RX9) (ref := "ThreadJudge$Program") (C := RX7) (T := TX7) (N := 22) (ci := 9) (index := 233) (f := 2) (t := 0) (Ts := Cond.code yX9_methodHead cX9_methodHead 6 (some .boolean) :: rz_TB) hx hb hts rz_in9 ho hK rfl (by decide) rfl (fun _ => rfl) (hw (i := 9) (j := 23) rfl rfl) (fun _ z => z) dX9_methodHead_63 hk) ?_
  refine rz_All_c (i := 32) (fun k J hk hJ => rz_iconst_ok (pc := 66) hx hb dX9_methodHead_66 rfl hk) ?_
  refine rz_All_c (i := 33) (fun k J hk hJ => rz_isub_ok (pc := 67) hx hb dX9_methodHead_67 hk) ?_
  refine rz_All_c (i := 34) (fun k J hk hJ => rz_dup2_ok (pc := 68) hx hb dX9_methodHead_68 hk) ?_
  refine rz_All_c (i := 35) (fun k J hk hJ => rz_iald_ok (pc := 69) hx hb hK dX9_methodHead_69 hk) ?_
  refine rz_All_c (i := 36) (fun k J hk hJ => rz_iconst_ok (pc := 70) hx hb dX9_methodHead_70 rfl hk) ?_
  refine rz_All_c (i := 37) (fun k J hk hJ => rz_iadd_ok (pc := 71) hx hb dX9_methodHead_71 hk) ?_
  refine rz_All_c (i := 38) (fun k J hk hJ => rz_iast_ok (pc := 72) hx hb hK hA dX9_methodHead_72 hk) ?_
  refine rz_All_c (i := 39) (fun k J hk hJ => rz_aload_n_ok (pc := 73) hx hb dX9_methodHead_73 rfl hk) ?_
  refine rz_All_c (i := 40) (fun k J hk hJ => rz_getf_ok (pc := 74) (own := RX9) (ref := "ThreadJudge$Reader") (C := RX9) (T := TX9) (N := 19) (ci := 11) (index := 37) (f := 0) (t := 2) (Ts := Cond.code yX9_methodHead cX9_methodHead 6 (some .boolean) :: rz_TB) hx hb hts rz_in11 ho hK rfl (by decide) rfl (fun _ => rfl) (hw (i := 9) (j := 16) rfl rfl) (fun _ z => z) dX9_methodHead_74 hk) ?_
  refine rz_All_c (i := 41) (fun k J hk hJ => rz_getf_ok (pc := 77) (own := RX9) (ref := "ThreadJudge$Program") (C := RX7) (T := TX7) (N := 22) (ci := 9) (index := 282) (f := 10) (t := 2) (Ts := Cond.code yX9_methodHead cX9_methodHead 6 (some .boolean) :: rz_TB) hx hb hts rz_in9 ho hK rfl (by decide) rfl (fun _ => rfl) (hw (i := 12) (j := 14) rfl rfl) (fun _ z => z) dX9_methodHead_77 hk) ?_
  refine rz_All_c (i := 42) (fun k J hk hJ => rz_iconst_ok (pc := 80) hx hb dX9_methodHead_80 rfl hk) ?_
  refine rz_All_c (i := 43) (fun k J hk hJ => rz_aald_ok (pc := 81) hx hb hK dX9_methodHead_81 hk) ?_
  refine rz_All_c (i := 44) (fun k J hk hJ => rz_iload_n_ok (pc := 82) hx hb dX9_methodHead_82 rfl hk) ?_
  refine rz_All_c (i := 45) (fun k J hk hJ => rz_aload_n_ok (pc := 83) hx hb dX9_methodHead_83 rfl hk) ?_
  refine rz_All_c (i := 46) (fun k J hk hJ => rz_getf_ok (pc := 84) (own := RX9) (ref := "ThreadJudge$Reader") (C := RX9) (T := TX9) (N := 19) (ci := 11) (index := 34) (f := 13) (t := 2) (Ts := Cond.code yX9_methodHead cX9_methodHead 6 (some .boolean) :: rz_TB) hx hb hts rz_in11 ho hK rfl (by decide) rfl (fun _ => rfl) (hw (i := 5) (j := 2) rfl rfl) (fun _ z => z) dX9_methodHead_84 hk) ?_
  refine rz_All_c (i := 47) (fun k J hk hJ => rz_aload_n_ok (pc := 87) hx hb dX9_methodHead_87 rfl hk) ?_
  refine rz_All_c (i := 48) (fun k J hk hJ => rz_getf_ok (pc := 88) (own := RX9) (ref := "ThreadJudge$Reader") (C := RX9) (T := TX9) (N := 19) (ci := 11) (index := 187) (f := 15) (t := 0) (Ts := Cond.code yX9_methodHead cX9_methodHead 6 (some .boolean) :: rz_TB) hx hb hts rz_in11 ho hK rfl (by decide) rfl (fun _ => rfl) (hw (i := 3) (j := 11) rfl rfl) (fun _ z => z) dX9_methodHead_88 hk) ?_
  refine rz_All_c (i := 49) (fun k J hk hJ => rz_iald_ok (pc := 91) hx hb hK dX9_methodHead_91 hk) ?_
  refine rz_All_c (i := 50) (fun k J hk hJ => rz_iast_ok (pc := 92) hx hb hK hA dX9_methodHead_92 hk) ?_
  refine rz_All_c (i := 51) (fun k J hk hJ => rz_aload_n_ok (pc := 93) hx hb dX9_methodHead_93 rfl hk) ?_
  refine rz_All_c (i := 52) (fun k J hk hJ => rz_getf_ok (pc := 94) (own := RX9) (ref := "ThreadJudge$Reader") (C := RX9) (T := TX9) (N := 19) (ci := 11) (index := 37) (f := 0) (t := 2) (Ts := Cond.code yX9_methodHead cX9_methodHead 6 (some .boolean) :: rz_TB) hx hb hts rz_in11 ho hK rfl (by decide) rfl (fun _ => rfl) (hw (i := 9) (j := 16) rfl rfl) (fun _ z => z) dX9_methodHead_94 hk) ?_
  refine rz_All_c (i := 53) (fun k J hk hJ => rz_getf_ok (pc := 97) (own := RX9) (ref := "ThreadJudge$Program") (C := RX7) (T := TX7) (N := 22) (ci := 9) (index := 282) (f := 10) (t := 2) (Ts := Cond.code yX9_methodHead cX9_methodHead 6 (some .boolean) :: rz_TB) hx hb hts rz_in9 ho hK rfl (by decide) rfl (fun _ => rfl) (hw (i := 12) (j := 14) rfl rfl) (fun _ z => z) dX9_methodHead_97 hk) ?_
  refine rz_All_c (i := 54) (fun k J hk hJ => rz_iconst_ok (pc := 100) hx hb dX9_methodHead_100 rfl hk) ?_
  refine rz_All_c (i := 55) (fun k J hk hJ => rz_aald_ok (pc := 101) hx hb hK dX9_methodHead_101 hk) ?_
  refine rz_All_c (i := 56) (fun k J hk hJ => rz_iload_n_ok (pc := 102) hx hb dX9_methodHead_102 rfl hk) ?_
  refine rz_All_c (i := 57) (fun k J hk hJ => rz_aload_n_ok (pc := 103) hx hb dX9_methodHead_103 rfl hk) ?_
  refine rz_All_c (i := 58) (fun k J hk hJ => rz_callV_ok (pc := 104) (own := RX9) (C := RX9) (T0 := TX9) (N0 := 19) hC rfl (rmX9_spot l hG) (rz_cwV 0 hC rz_good (rz_mem (i := 10) (j := 14) rfl rfl) (rz_mem (i := 10) (j := 15) rfl rfl) (rz_mem (i := 10) (j := 16) rfl rfl) (rz_mem (i := 1) (j := 21) rfl rfl) (rz_mem (i := 10) (j := 17) rfl rfl) ⟨rfl, by decide, by decide, by decide +kernel⟩ rfl rfl ⟨by decide, by decide⟩) rfl dX9_methodHead_104 hk) ?_
  refine rz_All_c (i := 59) (fun k J hk hJ => rz_iast_ok (pc := 107) hx hb hK hA dX9_methodHead_107 hk) ?_
  refine rz_All_c (i := 60) (fun k J hk hJ => rz_aload_n_ok (pc := 108) hx hb dX9_methodHead_108 rfl hk) ?_
  refine rz_All_c (i := 61) (fun k J hk hJ => rz_getf_ok (pc := 109) (own := RX9) (ref := "ThreadJudge$Reader") (C := RX9) (T := TX9) (N := 19) (ci := 11) (index := 37) (f := 0) (t := 2) (Ts := Cond.code yX9_methodHead cX9_methodHead 6 (some .boolean) :: rz_TB) hx hb hts rz_in11 ho hK rfl (by decide) rfl (fun _ => rfl) (hw (i := 9) (j := 16) rfl rfl) (fun _ z => z) dX9_methodHead_109 hk) ?_
  refine rz_All_c (i := 62) (fun k J hk hJ => rz_getf_ok (pc := 112) (own := RX9) (ref := "ThreadJudge$Program") (C := RX7) (T := TX7) (N := 22) (ci := 9) (index := 282) (f := 10) (t := 2) (Ts := Cond.code yX9_methodHead cX9_methodHead 6 (some .boolean) :: rz_TB) hx hb hts rz_in9 ho hK rfl (by decide) rfl (fun _ => rfl) (hw (i := 12) (j := 14) rfl rfl) (fun _ z => z) dX9_methodHead_112 hk) ?_
  refine rz_All_c (i := 63) (fun k J hk hJ => rz_iconst_ok (pc := 115) hx hb dX9_methodHead_115 rfl hk) ?_
  refine rz_All_c (i := 64) (fun k J hk hJ => rz_aald_ok (pc := 116) hx hb hK dX9_methodHead_116 hk) ?_
  refine rz_All_c (i := 65) (fun k J hk hJ => rz_iload_n_ok (pc := 117) hx hb dX9_methodHead_117 rfl hk) ?_
  refine rz_All_c (i := 66) (fun k J hk hJ => rz_aload_n_ok (pc := 118) hx hb dX9_methodHead_118 rfl hk) ?_
  refine rz_All_c (i := 67) (fun k J hk hJ => rz_getf_ok (pc := 119) (own := RX9) (ref := "ThreadJudge$Reader") (C := RX9) (T := TX9) (N := 19) (ci := 11) (index := 37) (f := 0) (t := 2) (Ts := Cond.code yX9_methodHead cX9_methodHead 6 (some .boolean) :: rz_TB) hx hb hts rz_in11 ho hK rfl (by decide) rfl (fun _ => rfl) (hw (i := 9) (j := 16) rfl rfl) (fun _ z => z) dX9_methodHead_119 hk) ?_
  refine rz_All_c (i := 68) (fun k J hk hJ => rz_getf_ok (pc := 122) (own := RX9) (ref := "ThreadJudge$Program") (C := RX7) (T := TX7) (N := 22) (ci := 9) (index := 233) (f := 2) (t := 0) (Ts := Cond.code yX9_methodHead cX9_methodHead 6 (some .boolean) :: rz_TB) hx hb hts rz_in9 ho hK rfl (by decide) rfl (fun _ => rfl) (hw (i := 9) (j := 23) rfl rfl) (fun _ z => z) dX9_methodHead_122 hk) ?_
  refine rz_All_c (i := 69) (fun k J hk hJ => rz_iconst_ok (pc := 125) hx hb dX9_methodHead_125 rfl hk) ?_
  refine rz_All_c (i := 70) (fun k J hk hJ => rz_isub_ok (pc := 126) hx hb dX9_methodHead_126 hk) ?_
  refine rz_All_c (i := 71) (fun k J hk hJ => rz_iast_ok (pc := 127) hx hb hK hA dX9_methodHead_127 hk) ?_
  refine rz_All_c (i := 72) (fun k J hk hJ => rz_aload_n_ok (pc := 128) hx hb dX9_methodHead_128 rfl hk) ?_
  refine rz_All_c (i := 73) (fun k J hk hJ => rz_getf_ok (pc := 129) (own := RX9) (ref := "ThreadJudge$Reader") (C := RX9) (T := TX9) (N := 19) (ci := 11) (index := 37) (f := 0) (t := 2) (Ts := Cond.code yX9_methodHead cX9_methodHead 6 (some .boolean) :: rz_TB) hx hb hts rz_in11 ho hK rfl (by decide) rfl (fun _ => rfl) (hw (i := 9) (j := 16) rfl rfl) (fun _ z => z) dX9_methodHead_129 hk) ?_
  refine rz_All_c (i := 74) (fun k J hk hJ => rz_getf_ok (pc := 132) (own := RX9) (ref := "ThreadJudge$Program") (C := RX7) (T := TX7) (N := 22) (ci := 9) (index := 282) (f := 10) (t := 2) (Ts := Cond.code yX9_methodHead cX9_methodHead 6 (some .boolean) :: rz_TB) hx hb hts rz_in9 ho hK rfl (by decide) rfl (fun _ => rfl) (hw (i := 12) (j := 14) rfl rfl) (fun _ z => z) dX9_methodHead_132 hk) ?_
  refine rz_All_c (i := 75) (fun k J hk hJ => rz_iconst_ok (pc := 135) hx hb dX9_methodHead_135 rfl hk) ?_
  refine rz_All_c (i := 76) (fun k J hk hJ => rz_aald_ok (pc := 136) hx hb hK dX9_methodHead_136 hk) ?_
  refine rz_All_c (i := 77) (fun k J hk hJ => rz_iload_n_ok (pc := 137) hx hb dX9_methodHead_137 rfl hk) ?_
  refine rz_All_c (i := 78) (fun k J hk hJ => rz_iload_n_ok (pc := 138) hx hb dX9_methodHead_138 rfl hk) ?_
  refine rz_All_c (i := 79) (fun k J hk hJ => rz_iast_ok (pc := 139) hx hb hK hA dX9_methodHead_139 hk) ?_
  refine rz_All_c (i := 80) (fun k J hk hJ => rz_aload_n_ok (pc := 140) hx hb dX9_methodHead_140 rfl hk) ?_
  refine rz_All_c (i := 81) (fun k J hk hJ => rz_getf_ok (pc := 141) (own := RX9) (ref := "ThreadJudge$Reader") (C := RX9) (T := TX9) (N := 19) (ci := 11) (index := 37) (f := 0) (t := 2) (Ts := Cond.code yX9_methodHead cX9_methodHead 6 (some .boolean) :: rz_TB) hx hb hts rz_in11 ho hK rfl (by decide) rfl (fun _ => rfl) (hw (i := 9) (j := 16) rfl rfl) (fun _ z => z) dX9_methodHead_141 hk) ?_
  refine rz_All_c (i := 82) (fun k J hk hJ => rz_getf_ok (pc := 144) (own := RX9) (ref := "ThreadJudge$Program") (C := RX7) (T := TX7) (N := 22) (ci := 9) (index := 282) (f := 10) (t := 2) (Ts := Cond.code yX9_methodHead cX9_methodHead 6 (some .boolean) :: rz_TB) hx hb hts rz_in9 ho hK rfl (by decide) rfl (fun _ => rfl) (hw (i := 12) (j := 14) rfl rfl) (fun _ z => z) dX9_methodHead_144 hk) ?_
  refine rz_All_c (i := 83) (fun k J hk hJ => rz_bipush_ok (pc := 147) hx hb dX9_methodHead_147 (by decide) hk) ?_
  refine rz_All_c (i := 84) (fun k J hk hJ => rz_aald_ok (pc := 149) hx hb hK dX9_methodHead_149 hk) ?_
  refine rz_All_c (i := 85) (fun k J hk hJ => rz_iload_n_ok (pc := 150) hx hb dX9_methodHead_150 rfl hk) ?_
  refine rz_All_c (i := 86) (fun k J hk hJ => rz_aload_n_ok (pc := 151) hx hb dX9_methodHead_151 rfl hk) ?_
  refine rz_All_c (i := 87) (fun k J hk hJ => rz_getf_ok (pc := 152) (own := RX9) (ref := "ThreadJudge$Reader") (C := RX9) (T := TX9) (N := 19) (ci := 11) (index := 37) (f := 0) (t := 2) (Ts := Cond.code yX9_methodHead cX9_methodHead 6 (some .boolean) :: rz_TB) hx hb hts rz_in11 ho hK rfl (by decide) rfl (fun _ => rfl) (hw (i := 9) (j := 16) rfl rfl) (fun _ z => z) dX9_methodHead_152 hk) ?_
  refine rz_All_c (i := 88) (fun k J hk hJ => rz_getf_ok (pc := 155) (own := RX9) (ref := "ThreadJudge$Program") (C := RX7) (T := TX7) (N := 22) (ci := 9) (index := 206) (f := 13) (t := 0) (Ts := Cond.code yX9_methodHead cX9_methodHead 6 (some .boolean) :: rz_TB) hx hb hts rz_in9 ho hK rfl (by decide) rfl (fun _ => rfl) (hw (i := 9) (j := 17) rfl rfl) (fun _ z => z) dX9_methodHead_155 hk) ?_
  refine rz_All_c (i := 89) (fun k J hk hJ => rz_iast_ok (pc := 158) hx hb hK hA dX9_methodHead_158 hk) ?_
  refine rz_All_c (i := 90) (fun k J hk hJ => rz_aload_n_ok (pc := 159) hx hb dX9_methodHead_159 rfl hk) ?_
  refine rz_All_c (i := 91) (fun k J hk hJ => rz_getf_ok (pc := 160) (own := RX9) (ref := "ThreadJudge$Reader") (C := RX9) (T := TX9) (N := 19) (ci := 11) (index := 37) (f := 0) (t := 2) (Ts := Cond.code yX9_methodHead cX9_methodHead 6 (some .boolean) :: rz_TB) hx hb hts rz_in11 ho hK rfl (by decide) rfl (fun _ => rfl) (hw (i := 9) (j := 16) rfl rfl) (fun _ z => z) dX9_methodHead_160 hk) ?_
  refine rz_All_c (i := 92) (fun k J hk hJ => rz_getf_ok (pc := 163) (own := RX9) (ref := "ThreadJudge$Program") (C := RX7) (T := TX7) (N := 22) (ci := 9) (index := 282) (f := 10) (t := 2) (Ts := Cond.code yX9_methodHead cX9_methodHead 6 (some .boolean) :: rz_TB) hx hb hts rz_in9 ho hK rfl (by decide) rfl (fun _ => rfl) (hw (i := 12) (j := 14) rfl rfl) (fun _ z => z) dX9_methodHead_163 hk) ?_
  refine rz_All_c (i := 93) (fun k J hk hJ => rz_bipush_ok (pc := 166) hx hb dX9_methodHead_166 (by decide) hk) ?_
  refine rz_All_c (i := 94) (fun k J hk hJ => rz_aald_ok (pc := 168) hx hb hK dX9_methodHead_168 hk) ?_
  refine rz_All_c (i := 95) (fun k J hk hJ => rz_iload_n_ok (pc := 169) hx hb dX9_methodHead_169 rfl hk) ?_
  refine rz_All_c (i := 96) (fun k J hk hJ => rz_iconst_ok (pc := 170) hx hb dX9_methodHead_170 rfl hk) ?_
  refine rz_All_c (i := 97) (fun k J hk hJ => rz_iast_ok (pc := 171) hx hb hK hA dX9_methodHead_171 hk) ?_
  refine rz_All_c (i := 98) (fun k J hk hJ => rz_aload_n_ok (pc := 172) hx hb dX9_methodHead_172 rfl hk) ?_
  refine rz_All_c (i := 99) (fun k J hk hJ => rz_getf_ok (pc := 173) (own := RX9) (ref := "ThreadJudge$Reader") (C := RX9) (T := TX9) (N := 19) (ci := 11) (index := 37) (f := 0) (t := 2) (Ts := Cond.code yX9_methodHead cX9_methodHead 6 (some .boolean) :: rz_TB) hx hb hts rz_in11 ho hK rfl (by decide) rfl (fun _ => rfl) (hw (i := 9) (j := 16) rfl rfl) (fun _ z => z) dX9_methodHead_173 hk) ?_
  refine rz_All_c (i := 100) (fun k J hk hJ => rz_getf_ok (pc := 176) (own := RX9) (ref := "ThreadJudge$Program") (C := RX7) (T := TX7) (N := 22) (ci := 9) (index := 282) (f := 10) (t := 2) (Ts := Cond.code yX9_methodHead cX9_methodHead 6 (some .boolean) :: rz_TB) hx hb hts rz_in9 ho hK rfl (by decide) rfl (fun _ => rfl) (hw (i := 12) (j := 14) rfl rfl) (fun _ z => z) dX9_methodHead_176 hk) ?_
  refine rz_All_c (i := 101) (fun k J hk hJ => rz_bipush_ok (pc := 179) hx hb dX9_methodHead_179 (by decide) hk) ?_
  refine rz_All_c (i := 102) (fun k J hk hJ => rz_aald_ok (pc := 181) hx hb hK dX9_methodHead_181 hk) ?_
  refine rz_All_c (i := 103) (fun k J hk hJ => rz_iload_n_ok (pc := 182) hx hb dX9_methodHead_182 rfl hk) ?_
  refine rz_All_c (i := 104) (fun k J hk hJ => rz_aload_n_ok (pc := 183) hx hb dX9_methodHead_183 rfl hk) ?_
  refine rz_All_c (i := 105) (fun k J hk hJ => rz_getf_ok (pc := 184) (own := RX9) (ref := "ThreadJudge$Reader") (C := RX9) (T := TX9) (N := 19) (ci := 11) (index := 37) (f := 0) (t := 2) (Ts := Cond.code yX9_methodHead cX9_methodHead 6 (some .boolean) :: rz_TB) hx hb hts rz_in11 ho hK rfl (by decide) rfl (fun _ => rfl) (hw (i := 9) (j := 16) rfl rfl) (fun _ z => z) dX9_methodHead_184 hk) ?_
  refine rz_All_c (i := 106) (fun k J hk hJ => rz_getf_ok (pc := 187) (own := RX9) (ref := "ThreadJudge$Program") (C := RX7) (T := TX7) (N := 22) (ci := 9) (index := 285) (f := 16) (t := 0) (Ts := Cond.code yX9_methodHead cX9_methodHead 6 (some .boolean) :: rz_TB) hx hb hts rz_in9 ho hK rfl (by decide) rfl (fun _ => rfl) (hw (i := 12) (j := 15) rfl rfl) (fun _ z => z) dX9_methodHead_187 hk) ?_
  refine rz_All_c (i := 107) (fun k J hk hJ => rz_iast_ok (pc := 190) hx hb hK hA dX9_methodHead_190 hk) ?_
  refine rz_All_c (i := 108) (fun k J hk hJ => rz_aload_n_ok (pc := 191) hx hb dX9_methodHead_191 rfl hk) ?_
  refine rz_All_c (i := 109) (fun k J hk hJ => rz_getf_ok (pc := 192) (own := RX9) (ref := "ThreadJudge$Reader") (C := RX9) (T := TX9) (N := 19) (ci := 11) (index := 37) (f := 0) (t := 2) (Ts := Cond.code yX9_methodHead cX9_methodHead 6 (some .boolean) :: rz_TB) hx hb hts rz_in11 ho hK rfl (by decide) rfl (fun _ => rfl) (hw (i := 9) (j := 16) rfl rfl) (fun _ z => z) dX9_methodHead_192 hk) ?_
  refine rz_All_c (i := 110) (fun k J hk hJ => rz_getf_ok (pc := 195) (own := RX9) (ref := "ThreadJudge$Program") (C := RX7) (T := TX7) (N := 22) (ci := 9) (index := 282) (f := 10) (t := 2) (Ts := Cond.code yX9_methodHead cX9_methodHead 6 (some .boolean) :: rz_TB) hx hb hts rz_in9 ho hK rfl (by decide) rfl (fun _ => rfl) (hw (i := 12) (j := 14) rfl rfl) (fun _ z => z) dX9_methodHead_195 hk) ?_
  refine rz_All_c (i := 111) (fun k J hk hJ => rz_bipush_ok (pc := 198) hx hb dX9_methodHead_198 (by decide) hk) ?_
  refine rz_All_c (i := 112) (fun k J hk hJ => rz_aald_ok (pc := 200) hx hb hK dX9_methodHead_200 hk) ?_
  refine rz_All_c (i := 113) (fun k J hk hJ => rz_iload_n_ok (pc := 201) hx hb dX9_methodHead_201 rfl hk) ?_
  refine rz_All_c (i := 114) (fun k J hk hJ => rz_iconst_ok (pc := 202) hx hb dX9_methodHead_202 rfl hk) ?_
  refine rz_All_c (i := 115) (fun k J hk hJ => rz_iast_ok (pc := 203) hx hb hK hA dX9_methodHead_203 hk) ?_
  refine rz_All_c (i := 116) (fun k J hk hJ => rz_aload_n_ok (pc := 204) hx hb dX9_methodHead_204 rfl hk) ?_
  refine rz_All_c (i := 117) (fun k J hk hJ => rz_getf_ok (pc := 205) (own := RX9) (ref := "ThreadJudge$Reader") (C := RX9) (T := TX9) (N := 19) (ci := 11) (index := 37) (f := 0) (t := 2) (Ts := Cond.code yX9_methodHead cX9_methodHead 6 (some .boolean) :: rz_TB) hx hb hts rz_in11 ho hK rfl (by decide) rfl (fun _ => rfl) (hw (i := 9) (j := 16) rfl rfl) (fun _ z => z) dX9_methodHead_205 hk) ?_
  refine rz_All_c (i := 118) (fun k J hk hJ => rz_getf_ok (pc := 208) (own := RX9) (ref := "ThreadJudge$Program") (C := RX7) (T := TX7) (N := 22) (ci := 9) (index := 282) (f := 10) (t := 2) (Ts := Cond.code yX9_methodHead cX9_methodHead 6 (some .boolean) :: rz_TB) hx hb hts rz_in9 ho hK rfl (by decide) rfl (fun _ => rfl) (hw (i := 12) (j := 14) rfl rfl) (fun _ z => z) dX9_methodHead_208 hk) ?_
  refine rz_All_c (i := 119) (fun k J hk hJ => rz_bipush_ok (pc := 211) hx hb dX9_methodHead_211 (by decide) hk) ?_
  refine rz_All_c (i := 120) (fun k J hk hJ => rz_aald_ok (pc := 213) hx hb hK dX9_methodHead_213 hk) ?_
  refine rz_All_c (i := 121) (fun k J hk hJ => rz_iload_n_ok (pc := 214) hx hb dX9_methodHead_214 rfl hk) ?_
  refine rz_All_c (i := 122) (fun k J hk hJ => rz_aload_n_ok (pc := 215) hx hb dX9_methodHead_215 rfl hk) ?_
  refine rz_All_c (i := 123) (fun k J hk hJ => rz_getf_ok (pc := 216) (own := RX9) (ref := "ThreadJudge$Reader") (C := RX9) (T := TX9) (N := 19) (ci := 11) (index := 37) (f := 0) (t := 2) (Ts := Cond.code yX9_methodHead cX9_methodHead 6 (some .boolean) :: rz_TB) hx hb hts rz_in11 ho hK rfl (by decide) rfl (fun _ => rfl) (hw (i := 9) (j := 16) rfl rfl) (fun _ z => z) dX9_methodHead_216 hk) ?_
  refine rz_All_c (i := 124) (fun k J hk hJ => rz_getf_ok (pc := 219) (own := RX9) (ref := "ThreadJudge$Program") (C := RX7) (T := TX7) (N := 22) (ci := 9) (index := 288) (f := 18) (t := 0) (Ts := Cond.code yX9_methodHead cX9_methodHead 6 (some .boolean) :: rz_TB) hx hb hts rz_in9 ho hK rfl (by decide) rfl (fun _ => rfl) (hw (i := 12) (j := 16) rfl rfl) (fun _ z => z) dX9_methodHead_219 hk) ?_
  refine rz_All_c (i := 125) (fun k J hk hJ => rz_iast_ok (pc := 222) hx hb hK hA dX9_methodHead_222 hk) ?_
  refine rz_All_c (i := 126) (fun k J hk hJ => rz_aload_n_ok (pc := 223) hx hb dX9_methodHead_223 rfl hk) ?_
  refine rz_All_c (i := 127) (fun k J hk hJ => rz_getf_ok (pc := 224) (own := RX9) (ref := "ThreadJudge$Reader") (C := RX9) (T := TX9) (N := 19) (ci := 11) (index := 37) (f := 0) (t := 2) (Ts := Cond.code yX9_methodHead cX9_methodHead 6 (some .boolean) :: rz_TB) hx hb hts rz_in11 ho hK rfl (by decide) rfl (fun _ => rfl) (hw (i := 9) (j := 16) rfl rfl) (fun _ z => z) dX9_methodHead_224 hk) ?_
  refine rz_All_c (i := 128) (fun k J hk hJ => rz_getf_ok (pc := 227) (own := RX9) (ref := "ThreadJudge$Program") (C := RX7) (T := TX7) (N := 22) (ci := 9) (index := 282) (f := 10) (t := 2) (Ts := Cond.code yX9_methodHead cX9_methodHead 6 (some .boolean) :: rz_TB) hx hb hts rz_in9 ho hK rfl (by decide) rfl (fun _ => rfl) (hw (i := 12) (j := 14) rfl rfl) (fun _ z => z) dX9_methodHead_227 hk) ?_
  refine rz_All_c (i := 129) (fun k J hk hJ => rz_bipush_ok (pc := 230) hx hb dX9_methodHead_230 (by decide) hk) ?_
  refine rz_All_c (i := 130) (fun k J hk hJ => rz_aald_ok (pc := 232) hx hb hK dX9_methodHead_232 hk) ?_
  refine rz_All_c (i := 131) (fun k J hk hJ => rz_iload_n_ok (pc := 233) hx hb dX9_methodHead_233 rfl hk) ?_
  refine rz_All_c (i := 132) (fun k J hk hJ => rz_iconst_ok (pc := 234) hx hb dX9_methodHead_234 rfl hk) ?_
  refine rz_All_c (i := 133) (fun k J hk hJ => rz_iast_ok (pc := 235) hx hb hK hA dX9_methodHead_235 hk) ?_
  refine rz_All_c (i := 134) (fun k J hk hJ => rz_aload_n_ok (pc := 236) hx hb dX9_methodHead_236 rfl hk) ?_
  refine rz_All_c (i := 135) (fun k J hk hJ => rz_dup_ok (pc := 237) hx hb dX9_methodHead_237 hk) ?_
  refine rz_All_c (i := 136) (fun k J hk hJ => rz_getf_ok (pc := 238) (own := RX9) (ref := "ThreadJudge$Reader") (C := RX9) (T := TX9) (N := 19) (ci := 11) (index := 187) (f := 15) (t := 0) (Ts := Cond.code yX9_methodHead cX9_methodHead 6 (some .boolean) :: rz_TB) hx hb hts rz_in11 ho hK rfl (by decide) rfl (fun _ => rfl) (hw (i := 3) (j := 11) rfl rfl) (fun _ z => z) dX9_methodHead_238 hk) ?_
  refine rz_All_c (i := 137) (fun k J hk hJ => rz_iconst_ok (pc := 241) hx hb dX9_methodHead_241 rfl hk) ?_
  refine rz_All_c (i := 138) (fun k J hk hJ => rz_iadd_ok (pc := 242) hx hb dX9_methodHead_242 hk) ?_
  refine rz_All_c (i := 139) (fun k J hk hJ => rz_putf_ok (pc := 243) (own := RX9) (ref := "ThreadJudge$Reader") (C := RX9) (T := TX9) (N := 19) (ci := 11) (index := 187) (f := 15) (t := 0) (Ts := Cond.code yX9_methodHead cX9_methodHead 6 (some .boolean) :: rz_TB) hx hb hts rz_in11 tyX9 tyX9_ok nmX9 ho hK hA rfl (by decide) rfl (rz_UnI _) rfl (tyX9_ok 15 (by decide)) (hw (i := 3) (j := 11) rfl rfl) (fun _ z => z) dX9_methodHead_243 hk) ?_
  refine rz_All_c (i := 140) (fun k J hk hJ => rz_aload_n_ok (pc := 246) hx hb dX9_methodHead_246 rfl hk) ?_
  refine rz_All_c (i := 141) (fun k J hk hJ => rz_getf_ok (pc := 247) (own := RX9) (ref := "ThreadJudge$Reader") (C := RX9) (T := TX9) (N := 19) (ci := 11) (index := 37) (f := 0) (t := 2) (Ts := Cond.code yX9_methodHead cX9_methodHead 6 (some .boolean) :: rz_TB) hx hb hts rz_in11 ho hK rfl (by decide) rfl (fun _ => rfl) (hw (i := 9) (j := 16) rfl rfl) (fun _ z => z) dX9_methodHead_247 hk) ?_
  refine rz_All_c (i := 142) (fun k J hk hJ => rz_getf_ok (pc := 250) (own := RX9) (ref := "ThreadJudge$Program") (C := RX7) (T := TX7) (N := 22) (ci := 9) (index := 282) (f := 10) (t := 2) (Ts := Cond.code yX9_methodHead cX9_methodHead 6 (some .boolean) :: rz_TB) hx hb hts rz_in9 ho hK rfl (by decide) rfl (fun _ => rfl) (hw (i := 12) (j := 14) rfl rfl) (fun _ z => z) dX9_methodHead_250 hk) ?_
  refine rz_All_c (i := 143) (fun k J hk hJ => rz_iconst_ok (pc := 253) hx hb dX9_methodHead_253 rfl hk) ?_
  refine rz_All_c (i := 144) (fun k J hk hJ => rz_aald_ok (pc := 254) hx hb hK dX9_methodHead_254 hk) ?_
  refine rz_All_c (i := 145) (fun k J hk hJ => rz_iload_n_ok (pc := 255) hx hb dX9_methodHead_255 rfl hk) ?_
  refine rz_All_c (i := 146) (fun k J hk hJ => rz_aload_n_ok (pc := 256) hx hb dX9_methodHead_256 rfl hk) ?_
  refine rz_All_c (i := 147) (fun k J hk hJ => rz_aload_n_ok (pc := 257) hx hb dX9_methodHead_257 rfl hk) ?_
  refine rz_All_c (i := 148) (fun k J hk hJ => rz_getf_ok (pc := 258) (own := RX9) (ref := "ThreadJudge$Reader") (C := RX9) (T := TX9) (N := 19) (ci := 11) (index := 37) (f := 0) (t := 2) (Ts := Cond.code yX9_methodHead cX9_methodHead 6 (some .boolean) :: rz_TB) hx hb hts rz_in11 ho hK rfl (by decide) rfl (fun _ => rfl) (hw (i := 9) (j := 16) rfl rfl) (fun _ z => z) dX9_methodHead_258 hk) ?_
  refine rz_All_c (i := 149) (fun k J hk hJ => rz_getf_ok (pc := 261) (own := RX9) (ref := "ThreadJudge$Program") (C := RX7) (T := TX7) (N := 22) (ci := 9) (index := 291) (f := 11) (t := 2) (Ts := Cond.code yX9_methodHead cX9_methodHead 6 (some .boolean) :: rz_TB) hx hb hts rz_in9 ho hK rfl (by decide) rfl (fun _ => rfl) (hw (i := 12) (j := 17) rfl rfl) (fun _ z => z) dX9_methodHead_261 hk) ?_
  refine rz_All_c (i := 150) (fun k J hk hJ => rz_iload_n_ok (pc := 264) hx hb dX9_methodHead_264 rfl hk) ?_
  refine rz_All_c (i := 151) (fun k J hk hJ => rz_bipush_ok (pc := 265) hx hb dX9_methodHead_265 (by decide) hk) ?_
  refine rz_All_c (i := 152) (fun k J hk hJ => rz_imul_ok (pc := 267) hx hb dX9_methodHead_267 hk) ?_
  refine rz_All_c (i := 153) (fun k J hk hJ => rz_callV_ok (pc := 268) (own := RX9) (C := RX9) (T0 := TX9) (N0 := 19) hC rfl (rmX9_types l hG) (rz_cwV 2 hC rz_good (rz_mem (i := 12) (j := 18) rfl rfl) (rz_mem (i := 12) (j := 19) rfl rfl) (rz_mem (i := 12) (j := 20) rfl rfl) (rz_mem (i := 1) (j := 21) rfl rfl) (rz_mem (i := 12) (j := 21) rfl rfl) ⟨rfl, by decide, by decide, by decide +kernel⟩ rfl rfl ⟨by decide, by decide⟩) rfl dX9_methodHead_268 hk) ?_
  refine rz_All_c (i := 154) (fun k J hk hJ => rz_iast_ok (pc := 271) hx hb hK hA dX9_methodHead_271 hk) ?_
  refine rz_All_c (i := 155) (fun k J hk hJ => rz_aload_n_ok (pc := 272) hx hb dX9_methodHead_272 rfl hk) ?_
  refine rz_All_c (i := 156) (fun k J hk hJ => rz_getf_ok (pc := 273) (own := RX9) (ref := "ThreadJudge$Reader") (C := RX9) (T := TX9) (N := 19) (ci := 11) (index := 37) (f := 0) (t := 2) (Ts := Cond.code yX9_methodHead cX9_methodHead 6 (some .boolean) :: rz_TB) hx hb hts rz_in11 ho hK rfl (by decide) rfl (fun _ => rfl) (hw (i := 9) (j := 16) rfl rfl) (fun _ z => z) dX9_methodHead_273 hk) ?_
  refine rz_All_c (i := 157) (fun k J hk hJ => rz_getf_ok (pc := 276) (own := RX9) (ref := "ThreadJudge$Program") (C := RX7) (T := TX7) (N := 22) (ci := 9) (index := 282) (f := 10) (t := 2) (Ts := Cond.code yX9_methodHead cX9_methodHead 6 (some .boolean) :: rz_TB) hx hb hts rz_in9 ho hK rfl (by decide) rfl (fun _ => rfl) (hw (i := 12) (j := 14) rfl rfl) (fun _ z => z) dX9_methodHead_276 hk) ?_
  refine rz_All_c (i := 158) (fun k J hk hJ => rz_iconst_ok (pc := 279) hx hb dX9_methodHead_279 rfl hk) ?_
  refine rz_All_c (i := 159) (fun k J hk hJ => rz_aald_ok (pc := 280) hx hb hK dX9_methodHead_280 hk) ?_
  refine rz_All_c (i := 160) (fun k J hk hJ => rz_iload_n_ok (pc := 281) hx hb dX9_methodHead_281 rfl hk) ?_
  refine rz_All_c (i := 161) (fun k J hk hJ => rz_iald_ok (pc := 282) hx hb hK dX9_methodHead_282 hk) ?_
  refine rz_All_c (i := 162) (fun k J hk hJ => rz_ifge_ok (pc := 283) hx hb dX9_methodHead_283 rfl hk (hJ 164)) ?_
  refine rz_All_c (i := 163) (fun k J hk hJ => rz_no_ok) ?_
  refine rz_All_c (i := 164) (fun k J hk hJ => rz_aload_n_ok (pc := 288) hx hb dX9_methodHead_288 rfl hk) ?_
  refine rz_All_c (i := 165) (fun k J hk hJ => rz_bipush_ok (pc := 289) hx hb dX9_methodHead_289 (by decide) hk) ?_
  refine rz_All_c (i := 166) (fun k J hk hJ => rz_callV_ok (pc := 291) (own := RX9) (C := RX9) (T0 := TX9) (N0 := 19) hC rfl (rmX9_isSign l hG) (rz_cwV 1 hC rz_good (rz_mem (i := 11) (j := 4) rfl rfl) (rz_mem (i := 11) (j := 5) rfl rfl) (rz_mem (i := 11) (j := 6) rfl rfl) (rz_mem (i := 1) (j := 21) rfl rfl) (rz_mem (i := 11) (j := 7) rfl rfl) ⟨rfl, by decide, by decide, by decide +kernel⟩ rfl rfl ⟨by decide, by decide⟩) rfl dX9_methodHead_291 hk) ?_
  refine rz_All_c (i := 167) (fun k J hk hJ => rz_istore_ok (pc := 294) hx hb dX9_methodHead_294 hk) ?_
  refine rz_All_c (i := 168) (fun k J hk hJ => rz_aload_n_ok (pc := 296) hx hb dX9_methodHead_296 rfl hk) ?_
  refine rz_All_c (i := 169) (fun k J hk hJ => rz_getf_ok (pc := 297) (own := RX9) (ref := "ThreadJudge$Reader") (C := RX9) (T := TX9) (N := 19) (ci := 11) (index := 83) (f := 9) (t := 2) (Ts := Cond.code yX9_methodHead cX9_methodHead 6 (some .boolean) :: rz_TB) hx hb hts rz_in11 ho hK rfl (by decide) rfl (fun _ => rfl) (hw (i := 3) (j := 20) rfl rfl) (fun _ z => z) dX9_methodHead_297 hk) ?_
  refine rz_All_c (i := 170) (fun k J hk hJ => rz_aload_n_ok (pc := 300) hx hb dX9_methodHead_300 rfl hk) ?_
  refine rz_All_c (i := 171) (fun k J hk hJ => rz_getf_ok (pc := 301) (own := RX9) (ref := "ThreadJudge$Reader") (C := RX9) (T := TX9) (N := 19) (ci := 11) (index := 80) (f := 2) (t := 2) (Ts := Cond.code yX9_methodHead cX9_methodHead 6 (some .boolean) :: rz_TB) hx hb hts rz_in11 ho hK rfl (by decide) rfl (fun _ => rfl) (hw (i := 10) (j := 18) rfl rfl) (fun _ z => z) dX9_methodHead_301 hk) ?_
  refine rz_All_c (i := 172) (fun k J hk hJ => rz_acmpne_ok (pc := 304) hx hb hA dX9_methodHead_304 rfl hk (hJ 181)) ?_
  refine rz_All_c (i := 173) (fun k J hk hJ => rz_iload_ok (pc := 307) hx hb dX9_methodHead_307 hk) ?_
  refine rz_All_c (i := 174) (fun k J hk hJ => rz_ifne_ok (pc := 309) hx hb dX9_methodHead_309 rfl hk (hJ 181)) ?_
  refine rz_All_c (i := 175) (fun k J hk hJ => rz_iload_n_ok (pc := 312) hx hb dX9_methodHead_312 rfl hk) ?_
  refine rz_All_c (i := 176) (fun k J hk hJ => rz_bipush_ok (pc := 313) hx hb dX9_methodHead_313 (by decide) hk) ?_
  refine rz_All_c (i := 177) (fun k J hk hJ => rz_iand_ok (pc := 315) hx hb dX9_methodHead_315 hk) ?_
  refine rz_All_c (i := 178) (fun k J hk hJ => rz_ifne_ok (pc := 316) hx hb dX9_methodHead_316 rfl hk (hJ 181)) ?_
  refine rz_All_c (i := 179) (fun k J hk hJ => rz_iconst_ok (pc := 319) hx hb dX9_methodHead_319 rfl hk) ?_
  refine rz_All_c (i := 180) (fun k J hk hJ => rz_goto_ok (pc := 320) hx hb dX9_methodHead_320 rfl (hJ 182)) ?_
  refine rz_All_c (i := 181) (fun k J hk hJ => rz_iconst_ok (pc := 323) hx hb dX9_methodHead_323 rfl hk) ?_
  refine rz_All_c (i := 182) (fun k J hk hJ => rz_istore_ok (pc := 324) hx hb dX9_methodHead_324 hk) ?_
  refine rz_All_c (i := 183) (fun k J hk hJ => rz_aload_n_ok (pc := 326) hx hb dX9_methodHead_326 rfl hk) ?_
  refine rz_All_c (i := 184) (fun k J hk hJ => rz_getf_ok (pc := 327) (own := RX9) (ref := "ThreadJudge$Reader") (C := RX9) (T := TX9) (N := 19) (ci := 11) (index := 37) (f := 0) (t := 2) (Ts := Cond.code yX9_methodHead cX9_methodHead 6 (some .boolean) :: rz_TB) hx hb hts rz_in11 ho hK rfl (by decide) rfl (fun _ => rfl) (hw (i := 9) (j := 16) rfl rfl) (fun _ z => z) dX9_methodHead_327 hk) ?_
  refine rz_All_c (i := 185) (fun k J hk hJ => rz_getf_ok (pc := 330) (own := RX9) (ref := "ThreadJudge$Program") (C := RX7) (T := TX7) (N := 22) (ci := 9) (index := 282) (f := 10) (t := 2) (Ts := Cond.code yX9_methodHead cX9_methodHead 6 (some .boolean) :: rz_TB) hx hb hts rz_in9 ho hK rfl (by decide) rfl (fun _ => rfl) (hw (i := 12) (j := 14) rfl rfl) (fun _ z => z) dX9_methodHead_330 hk) ?_
  refine rz_All_c (i := 186) (fun k J hk hJ => rz_iconst_ok (pc := 333) hx hb dX9_methodHead_333 rfl hk) ?_
  refine rz_All_c (i := 187) (fun k J hk hJ => rz_aald_ok (pc := 334) hx hb hK dX9_methodHead_334 hk) ?_
  refine rz_All_c (i := 188) (fun k J hk hJ => rz_iload_n_ok (pc := 335) hx hb dX9_methodHead_335 rfl hk) ?_
  refine rz_All_c (i := 189) (fun k J hk hJ => rz_iload_n_ok (pc := 336) hx hb dX9_methodHead_336 rfl hk) ?_
  refine rz_All_c (i := 190) (fun k J hk hJ => rz_iload_ok (pc := 337) hx hb dX9_methodHead_337 hk) ?_
  refine rz_All_c (i := 191) (fun k J hk hJ => rz_ifeq_ok (pc := 339) hx hb dX9_methodHead_339 rfl hk (hJ 194)) ?_
  refine rz_All_c (i := 192) (fun k J hk hJ => rz_bipush_ok (pc := 342) hx hb dX9_methodHead_342 (by decide) hk) ?_
  refine rz_All_c (i := 193) (fun k J hk hJ => rz_goto_ok (pc := 344) hx hb dX9_methodHead_344 rfl (hJ 195)) ?_
  refine rz_All_c (i := 194) (fun k J hk hJ => rz_iconst_ok (pc := 347) hx hb dX9_methodHead_347 rfl hk) ?_
  refine rz_All_c (i := 195) (fun k J hk hJ => rz_ior_ok (pc := 348) hx hb dX9_methodHead_348 hk) ?_
  refine rz_All_c (i := 196) (fun k J hk hJ => rz_iload_ok (pc := 349) hx hb dX9_methodHead_349 hk) ?_
  refine rz_All_c (i := 197) (fun k J hk hJ => rz_ifeq_ok (pc := 351) hx hb dX9_methodHead_351 rfl hk (hJ 200)) ?_
  refine rz_All_c (i := 198) (fun k J hk hJ => rz_bipush_ok (pc := 354) hx hb dX9_methodHead_354 (by decide) hk) ?_
  refine rz_All_c (i := 199) (fun k J hk hJ => rz_goto_ok (pc := 356) hx hb dX9_methodHead_356 rfl (hJ 201)) ?_
  refine rz_All_c (i := 200) (fun k J hk hJ => rz_iconst_ok (pc := 359) hx hb dX9_methodHead_359 rfl hk) ?_
  refine rz_All_c (i := 201) (fun k J hk hJ => rz_ior_ok (pc := 360) hx hb dX9_methodHead_360 hk) ?_
  refine rz_All_c (i := 202) (fun k J hk hJ => rz_iast_ok (pc := 361) hx hb hK hA dX9_methodHead_361 hk) ?_
  refine rz_All_c (i := 203) (fun k J hk hJ => rz_aload_n_ok (pc := 362) hx hb dX9_methodHead_362 rfl hk) ?_
  refine rz_All_c (i := 204) (fun k J hk hJ => rz_iload_ok (pc := 363) hx hb dX9_methodHead_363 hk) ?_
  refine rz_All_c (i := 205) (fun k J hk hJ => rz_ifeq_ok (pc := 365) hx hb dX9_methodHead_365 rfl hk (hJ 208)) ?_
  refine rz_All_c (i := 206) (fun k J hk hJ => rz_iconst_ok (pc := 368) hx hb dX9_methodHead_368 rfl hk) ?_
  refine rz_All_c (i := 207) (fun k J hk hJ => rz_goto_ok (pc := 369) hx hb dX9_methodHead_369 rfl (hJ 209)) ?_
  refine rz_All_c (i := 208) (fun k J hk hJ => rz_iconst_ok (pc := 372) hx hb dX9_methodHead_372 rfl hk) ?_
  refine rz_All_c (i := 209) (fun k J hk hJ => rz_putf_ok (pc := 373) (own := RX9) (ref := "ThreadJudge$Reader") (C := RX9) (T := TX9) (N := 19) (ci := 11) (index := 190) (f := 16) (t := 0) (Ts := Cond.code yX9_methodHead cX9_methodHead 6 (some .boolean) :: rz_TB) hx hb hts rz_in11 tyX9 tyX9_ok nmX9 ho hK hA rfl (by decide) rfl (rz_UnI _) rfl (tyX9_ok 16 (by decide)) (hw (i := 3) (j := 12) rfl rfl) (fun _ z => z) dX9_methodHead_373 hk) ?_
  refine rz_All_c (i := 210) (fun k J hk hJ => rz_aload_n_ok (pc := 376) hx hb dX9_methodHead_376 rfl hk) ?_
  refine rz_All_c (i := 211) (fun k J hk hJ => rz_iload_ok (pc := 377) hx hb dX9_methodHead_377 hk) ?_
  refine rz_All_c (i := 212) (fun k J hk hJ => rz_ifeq_ok (pc := 379) hx hb dX9_methodHead_379 rfl hk (hJ 215)) ?_
  refine rz_All_c (i := 213) (fun k J hk hJ => rz_bipush_ok (pc := 382) hx hb dX9_methodHead_382 (by decide) hk) ?_
  refine rz_All_c (i := 214) (fun k J hk hJ => rz_goto_ok (pc := 384) hx hb dX9_methodHead_384 rfl (hJ 216)) ?_
  refine rz_All_c (i := 215) (fun k J hk hJ => rz_bipush_ok (pc := 387) hx hb dX9_methodHead_387 (by decide) hk) ?_
  refine rz_All_c (i := 216) (fun k J hk hJ => rz_callV_ok (pc := 389) (own := RX9) (C := RX9) (T0 := TX9) (N0 := 19) hC rfl (rmX9_takeSign l hG) (rz_cwV 1 hC rz_good (rz_mem (i := 11) (j := 8) rfl rfl) (rz_mem (i := 11) (j := 9) rfl rfl) (rz_mem (i := 11) (j := 10) rfl rfl) (rz_mem (i := 1) (j := 21) rfl rfl) (rz_mem (i := 11) (j := 11) rfl rfl) ⟨rfl, by decide, by decide, by decide +kernel⟩ rfl rfl ⟨by decide, by decide⟩) rfl dX9_methodHead_389 hk) ?_
  refine rz_All_c (i := 217) (fun k J hk hJ => rz_zret_ok (pc := 392) hC dX9_methodHead_392) ?_
  exact trivial
theorem dX9_member_0 : decode cX9_member 0 = .ok (.aload_n 0, 1) := by decide +kernel
theorem dX9_member_1 : decode cX9_member 1 = .ok (.bipush 125, 2) := by decide +kernel
theorem dX9_member_3 : decode cX9_member 3 = .ok (.invokevirtual 258, 3) := by decide +kernel
theorem dX9_member_6 : decode cX9_member 6 = .ok (.ifCond .eq 20, 3) := by decide +kernel
theorem dX9_member_9 : decode cX9_member 9 = .ok (.aload_n 0, 1) := by decide +kernel
theorem dX9_member_10 : decode cX9_member 10 = .ok (.dup, 1) := by decide +kernel
theorem dX9_member_11 : decode cX9_member 11 = .ok (.getfield 187, 3) := by decide +kernel
theorem dX9_member_14 : decode cX9_member 14 = .ok (.iconst 1, 1) := by decide +kernel
theorem dX9_member_15 : decode cX9_member 15 = .ok (.iadd, 1) := by decide +kernel
theorem dX9_member_16 : decode cX9_member 16 = .ok (.putfield 187, 3) := by decide +kernel
theorem dX9_member_19 : decode cX9_member 19 = .ok (.aload_n 0, 1) := by decide +kernel
theorem dX9_member_20 : decode cX9_member 20 = .ok (.iconst 0, 1) := by decide +kernel
theorem dX9_member_21 : decode cX9_member 21 = .ok (.putfield 190, 3) := by decide +kernel
theorem dX9_member_24 : decode cX9_member 24 = .ok (.iconst 1, 1) := by decide +kernel
theorem dX9_member_25 : decode cX9_member 25 = .ok (.ireturn, 1) := by decide +kernel
theorem dX9_member_26 : decode cX9_member 26 = .ok (.iconst 0, 1) := by decide +kernel
theorem dX9_member_27 : decode cX9_member 27 = .ok (.istore_n 1, 1) := by decide +kernel
theorem dX9_member_28 : decode cX9_member 28 = .ok (.iconst 0, 1) := by decide +kernel
theorem dX9_member_29 : decode cX9_member 29 = .ok (.istore_n 2, 1) := by decide +kernel
theorem dX9_member_30 : decode cX9_member 30 = .ok (.iload_n 2, 1) := by decide +kernel
theorem dX9_member_31 : decode cX9_member 31 = .ok (.aload_n 0, 1) := by decide +kernel
theorem dX9_member_32 : decode cX9_member 32 = .ok (.getfield 129, 3) := by decide +kernel
theorem dX9_member_35 : decode cX9_member 35 = .ok (.if_icmp .ge 33, 3) := by decide +kernel
theorem dX9_member_38 : decode cX9_member 38 = .ok (.aload_n 0, 1) := by decide +kernel
theorem dX9_member_39 : decode cX9_member 39 = .ok (.invokevirtual 261, 3) := by decide +kernel
theorem dX9_member_42 : decode cX9_member 42 = .ok (.ifCond .eq 26, 3) := by decide +kernel
theorem dX9_member_45 : decode cX9_member 45 = .ok (.iload_n 1, 1) := by decide +kernel
theorem dX9_member_46 : decode cX9_member 46 = .ok (.aload_n 0, 1) := by decide +kernel
theorem dX9_member_47 : decode cX9_member 47 = .ok (.invokevirtual 261, 3) := by decide +kernel
theorem dX9_member_50 : decode cX9_member 50 = .ok (.ior, 1) := by decide +kernel
theorem dX9_member_51 : decode cX9_member 51 = .ok (.istore_n 1, 1) := by decide +kernel
theorem dX9_member_52 : decode cX9_member 52 = .ok (.aload_n 0, 1) := by decide +kernel
theorem dX9_member_53 : decode cX9_member 53 = .ok (.dup, 1) := by decide +kernel
theorem dX9_member_54 : decode cX9_member 54 = .ok (.getfield 187, 3) := by decide +kernel
theorem dX9_member_57 : decode cX9_member 57 = .ok (.iconst 1, 1) := by decide +kernel
theorem dX9_member_58 : decode cX9_member 58 = .ok (.iadd, 1) := by decide +kernel
theorem dX9_member_59 : decode cX9_member 59 = .ok (.putfield 187, 3) := by decide +kernel
theorem dX9_member_62 : decode cX9_member 62 = .ok (.iinc 2 1, 3) := by decide +kernel
theorem dX9_member_65 : decode cX9_member 65 = .ok (.goto (-35), 3) := by decide +kernel
theorem dX9_member_68 : decode cX9_member 68 = .ok (.aload_n 0, 1) := by decide +kernel
theorem dX9_member_69 : decode cX9_member 69 = .ok (.bipush 70, 2) := by decide +kernel
theorem dX9_member_71 : decode cX9_member 71 = .ok (.invokevirtual 226, 3) := by decide +kernel
theorem dX9_member_74 : decode cX9_member 74 = .ok (.ifCond .eq 19, 3) := by decide +kernel
theorem dX9_member_77 : decode cX9_member 77 = .ok (.aload_n 0, 1) := by decide +kernel
theorem dX9_member_78 : decode cX9_member 78 = .ok (.dup, 1) := by decide +kernel
theorem dX9_member_79 : decode cX9_member 79 = .ok (.getfield 187, 3) := by decide +kernel
theorem dX9_member_82 : decode cX9_member 82 = .ok (.iconst 1, 1) := by decide +kernel
theorem dX9_member_83 : decode cX9_member 83 = .ok (.iadd, 1) := by decide +kernel
theorem dX9_member_84 : decode cX9_member 84 = .ok (.putfield 187, 3) := by decide +kernel
theorem dX9_member_87 : decode cX9_member 87 = .ok (.aload_n 0, 1) := by decide +kernel
theorem dX9_member_88 : decode cX9_member 88 = .ok (.iload_n 1, 1) := by decide +kernel
theorem dX9_member_89 : decode cX9_member 89 = .ok (.invokevirtual 264, 3) := by decide +kernel
theorem dX9_member_92 : decode cX9_member 92 = .ok (.ireturn, 1) := by decide +kernel
theorem dX9_member_93 : decode cX9_member 93 = .ok (.aload_n 0, 1) := by decide +kernel
theorem dX9_member_94 : decode cX9_member 94 = .ok (.bipush 71, 2) := by decide +kernel
theorem dX9_member_96 : decode cX9_member 96 = .ok (.invokevirtual 226, 3) := by decide +kernel
theorem dX9_member_99 : decode cX9_member 99 = .ok (.ifCond .eq 19, 3) := by decide +kernel
theorem dX9_member_102 : decode cX9_member 102 = .ok (.aload_n 0, 1) := by decide +kernel
theorem dX9_member_103 : decode cX9_member 103 = .ok (.dup, 1) := by decide +kernel
theorem dX9_member_104 : decode cX9_member 104 = .ok (.getfield 187, 3) := by decide +kernel
theorem dX9_member_107 : decode cX9_member 107 = .ok (.iconst 1, 1) := by decide +kernel
theorem dX9_member_108 : decode cX9_member 108 = .ok (.iadd, 1) := by decide +kernel
theorem dX9_member_109 : decode cX9_member 109 = .ok (.putfield 187, 3) := by decide +kernel
theorem dX9_member_112 : decode cX9_member 112 = .ok (.aload_n 0, 1) := by decide +kernel
theorem dX9_member_113 : decode cX9_member 113 = .ok (.iload_n 1, 1) := by decide +kernel
theorem dX9_member_114 : decode cX9_member 114 = .ok (.invokevirtual 267, 3) := by decide +kernel
theorem dX9_member_117 : decode cX9_member 117 = .ok (.ireturn, 1) := by decide +kernel
def rpX9_member : List Nat := [0, 1, 3, 6, 9, 10, 11, 14, 15, 16, 19, 20, 21, 24, 25, 26, 27, 28, 29, 30, 31, 32, 35, 38, 39, 42, 45, 46, 47, 50, 51, 52, 53, 54, 57, 58, 59, 62, 65, 68, 69, 71, 74, 77, 78, 79, 82, 83, 84, 87, 88, 89, 92, 93, 94, 96, 99, 102, 103, 104, 107, 108, 109, 112, 113, 114, 117, 118]
noncomputable def rcX9_member : List rz_B := [rz_aload 0, rz_cst 125, rz_callV 1 (Nat.add (Nat.mul 256 11) 1) rgX9_isSign, rz_ifeq 15, rz_aload 0, rz_dup, rz_getf (Nat.add (Nat.mul 256 11) 1) 15 rz_i, rz_cst 1, rz_iadd, rz_putf (Nat.add (Nat.mul 256 11) 1) 15 rz_unI, rz_aload 0, rz_cst 0, rz_putf (Nat.add (Nat.mul 256 11) 1) 16 rz_unI, rz_cst 1, rz_zret, rz_cst 0, rz_istore 1, rz_cst 0, rz_istore 2, rz_iload 2, rz_aload 0, rz_getf (Nat.add (Nat.mul 256 11) 1) 14 rz_i, rz_icmpge 39, rz_aload 0, rz_callV 0 (Nat.add (Nat.mul 256 11) 1) rgX9_flagHere, rz_ifeq 39, rz_iload 1, rz_aload 0, rz_callV 0 (Nat.add (Nat.mul 256 11) 1) rgX9_flagHere, rz_ior, rz_istore 1, rz_aload 0, rz_dup, rz_getf (Nat.add (Nat.mul 256 11) 1) 15 rz_i, rz_cst 1, rz_iadd, rz_putf (Nat.add (Nat.mul 256 11) 1) 15 rz_unI, rz_iinc 2 1, rz_goto 19, rz_aload 0, rz_cst 70, rz_callV 1 (Nat.add (Nat.mul 256 11) 1) rgX9_isWord, rz_ifeq 53, rz_aload 0, rz_dup, rz_getf (Nat.add (Nat.mul 256 11) 1) 15 rz_i, rz_cst 1, rz_iadd, rz_putf (Nat.add (Nat.mul 256 11) 1) 15 rz_unI, rz_aload 0, rz_iload 1, rz_callV 1 (Nat.add (Nat.mul 256 11) 1) rgX9_fieldLine, rz_zret, rz_aload 0, rz_cst 71, rz_callV 1 (Nat.add (Nat.mul 256 11) 1) rgX9_isWord, rz_ifeq 67, rz_aload 0, rz_dup, rz_getf (Nat.add (Nat.mul 256 11) 1) 15 rz_i, rz_cst 1, rz_iadd, rz_putf (Nat.add (Nat.mul 256 11) 1) 15 rz_unI, rz_aload 0, rz_iload 1, rz_callV 1 (Nat.add (Nat.mul 256 11) 1) rgX9_methodHead, rz_zret, rz_no]
noncomputable def rgX9_member : rz_L → rz_M → rz_Z → Bool := rz_go rcX9_member 3 1000000
def rrX9_member : Room := { frames := 4, cells := 0, slots := 0, locals := 90 }
theorem rmX9_member (l : Launch) {G : rz_G} (hG : rz_Gd G) (vs : rz_L) (M : rz_M) (Z : rz_Z) (hn : vs.length = 1) (h : rgX9_member vs M Z = true) : Met l yX9_member (Cond.code yX9_member cX9_member 3 (some .boolean) :: rz_TB) rrX9_member (rz_Pre G vs M) (rz_Qi G M.2 Z) 0 0 (fun q => rz_b G ≤ q) := by
  obtain ⟨D, tc, ad, b, xs, rfl⟩ := id hG
  refine rz_body (pcs := rpX9_member) (by decide) rfl (by rw [hn]; decide) h ?_
  intro p e R s m args below meth c hC
  obtain ⟨hx, hb, hml, hr, hlk, ho, hts, hKn, hRm⟩ := id hC
  obtain ⟨hK, hA, hSt⟩ := id hKn
  have hw : ∀ {i j : Nat} {ws : List Cond} {w : Cond}, rz_WW[i]? = some ws → ws[j]? = some w → w.before args s = true := fun h1 h2 => hts _ (List.mem_cons_of_mem _ (rz_mem h1 h2))
  refine rz_All_c (i := 0) (fun k J hk hJ => rz_aload_n_ok (pc := 0) hx hb dX9_member_0 rfl hk) ?_
  refine rz_All_c (i := 1) (fun k J hk hJ => rz_bipush_ok (pc := 1) hx hb dX9_member_1 (by decide) hk) ?_
  refine rz_All_c (i := 2) (fun k J hk hJ => rz_callV_ok (pc := 3) (own := RX9) (C := RX9) (T0 := TX9) (N0 := 19) hC rfl (rmX9_isSign l hG) (rz_cwV 1 hC rz_good (rz_mem (i := 11) (j := 4) rfl rfl) (rz_mem (i := 11) (j := 5) rfl rfl) (rz_mem (i := 11) (j := 6) rfl rfl) (rz_mem (i := 1) (j := 21) rfl rfl) (rz_mem (i := 11) (j := 7) rfl rfl) ⟨rfl, by decide, by decide, by decide +kernel⟩ rfl rfl ⟨by decide, by decide⟩) rfl dX9_member_3 hk) ?_
  refine rz_All_c (i := 3) (fun k J hk hJ => rz_ifeq_ok (pc := 6) hx hb dX9_member_6 rfl hk (hJ 15)) ?_
  refine rz_All_c (i := 4) (fun k J hk hJ => rz_aload_n_ok (pc := 9) hx hb dX9_member_9 rfl hk) ?_
  refine rz_All_c (i := 5) (fun k J hk hJ => rz_dup_ok (pc := 10) hx hb dX9_member_10 hk) ?_
  refine rz_All_c (i := 6) (fun k J hk hJ => rz_getf_ok (pc := 11) (own := RX9) (ref := "ThreadJudge$Reader") (C := RX9) (T := TX9) (N := 19) (ci := 11) (index := 187) (f := 15) (t := 0) (Ts := Cond.code yX9_member cX9_member 3 (some .boolean) :: rz_TB) hx hb hts rz_in11 ho hK rfl (by decide) rfl (fun _ => rfl) (hw (i := 3) (j := 11) rfl rfl) (fun _ z => z) dX9_member_11 hk) ?_
  refine rz_All_c (i := 7) (fun k J hk hJ => rz_iconst_ok (pc := 14) hx hb dX9_member_14 rfl hk) ?_
  refine rz_All_c (i := 8) (fun k J hk hJ => rz_iadd_ok (pc := 15) hx hb dX9_member_15 hk) ?_
  refine rz_All_c (i := 9) (fun k J hk hJ => rz_putf_ok (pc := 16) (own := RX9) (ref := "ThreadJudge$Reader") (C := RX9) (T := TX9) (N := 19) (ci := 11) (index := 187) (f := 15) (t := 0) (Ts := Cond.code yX9_member cX9_member 3 (some .boolean) :: rz_TB) hx hb hts rz_in11 tyX9 tyX9_ok nmX9 ho hK hA rfl (by decide) rfl (rz_UnI _) rfl (tyX9_ok 15 (by decide)) (hw (i := 3) (j := 11) rfl rfl) (fun _ z => z) dX9_member_16 hk) ?_
  refine rz_All_c (i := 10) (fun k J hk hJ => rz_aload_n_ok (pc := 19) hx hb dX9_member_19 rfl hk) ?_
  refine rz_All_c (i := 11) (fun k J hk hJ => rz_iconst_ok (pc := 20) hx hb dX9_member_20 rfl hk) ?_
  refine rz_All_c (i := 12) (fun k J hk hJ => rz_putf_ok (pc := 21) (own := RX9) (ref := "ThreadJudge$Reader") (C := RX9) (T := TX9) (N := 19) (ci := 11) (index := 190) (f := 16) (t := 0) (Ts := Cond.code yX9_member cX9_member 3 (some .boolean) :: rz_TB) hx hb hts rz_in11 tyX9 tyX9_ok nmX9 ho hK hA rfl (by decide) rfl (rz_UnI _) rfl (tyX9_ok 16 (by decide)) (hw (i := 3) (j := 12) rfl rfl) (fun _ z => z) dX9_member_21 hk) ?_
  refine rz_All_c (i := 13) (fun k J hk hJ => rz_iconst_ok (pc := 24) hx hb dX9_member_24 rfl hk) ?_
  refine rz_All_c (i := 14) (fun k J hk hJ => rz_zret_ok (pc := 25) hC dX9_member_25) ?_
  refine rz_All_c (i := 15) (fun k J hk hJ => rz_iconst_ok (pc := 26) hx hb dX9_member_26 rfl hk) ?_
  refine rz_All_c (i := 16) (fun k J hk hJ => rz_istore_n_ok (pc := 27) hx hb dX9_member_27 rfl hk) ?_
  refine rz_All_c (i := 17) (fun k J hk hJ => rz_iconst_ok (pc := 28) hx hb dX9_member_28 rfl hk) ?_
  refine rz_All_c (i := 18) (fun k J hk hJ => rz_istore_n_ok (pc := 29) hx hb dX9_member_29 rfl hk) ?_
  refine rz_All_c (i := 19) (fun k J hk hJ => rz_iload_n_ok (pc := 30) hx hb dX9_member_30 rfl hk) ?_
  refine rz_All_c (i := 20) (fun k J hk hJ => rz_aload_n_ok (pc := 31) hx hb dX9_member_31 rfl hk) ?_
  refine rz_All_c (i := 21) (fun k J hk hJ => rz_getf_ok (pc := 32) (own := RX9) (ref := "ThreadJudge$Reader") (C := RX9) (T := TX9) (N := 19) (ci := 11) (index := 129) (f := 14) (t := 0) (Ts := Cond.code yX9_member cX9_member 3 (some .boolean) :: rz_TB) hx hb hts rz_in11 ho hK rfl (by decide) rfl (fun _ => rfl) (hw (i := 3) (j := 13) rfl rfl) (fun _ z => z) dX9_member_32 hk) ?_
  refine rz_All_c (i := 22) (fun k J hk hJ => rz_icmpge_ok (pc := 35) hx hb dX9_member_35 rfl hk (hJ 39)) ?_
  refine rz_All_c (i := 23) (fun k J hk hJ => rz_aload_n_ok (pc := 38) hx hb dX9_member_38 rfl hk) ?_
  refine rz_All_c (i := 24) (fun k J hk hJ => rz_callV_ok (pc := 39) (own := RX9) (C := RX9) (T0 := TX9) (N0 := 19) hC rfl (rmX9_flagHere l hG) (rz_cwV 0 hC rz_good (rz_mem (i := 11) (j := 16) rfl rfl) (rz_mem (i := 11) (j := 17) rfl rfl) (rz_mem (i := 11) (j := 18) rfl rfl) (rz_mem (i := 1) (j := 21) rfl rfl) (rz_mem (i := 11) (j := 19) rfl rfl) ⟨rfl, by decide, by decide, by decide +kernel⟩ rfl rfl ⟨by decide, by decide⟩) rfl dX9_member_39 hk) ?_
  refine rz_All_c (i := 25) (fun k J hk hJ => rz_ifeq_ok (pc := 42) hx hb dX9_member_42 rfl hk (hJ 39)) ?_
  refine rz_All_c (i := 26) (fun k J hk hJ => rz_iload_n_ok (pc := 45) hx hb dX9_member_45 rfl hk) ?_
  refine rz_All_c (i := 27) (fun k J hk hJ => rz_aload_n_ok (pc := 46) hx hb dX9_member_46 rfl hk) ?_
  refine rz_All_c (i := 28) (fun k J hk hJ => rz_callV_ok (pc := 47) (own := RX9) (C := RX9) (T0 := TX9) (N0 := 19) hC rfl (rmX9_flagHere l hG) (rz_cwV 0 hC rz_good (rz_mem (i := 11) (j := 16) rfl rfl) (rz_mem (i := 11) (j := 17) rfl rfl) (rz_mem (i := 11) (j := 18) rfl rfl) (rz_mem (i := 1) (j := 21) rfl rfl) (rz_mem (i := 11) (j := 19) rfl rfl) ⟨rfl, by decide, by decide, by decide +kernel⟩ rfl rfl ⟨by decide, by decide⟩) rfl dX9_member_47 hk) ?_
  refine rz_All_c (i := 29) (fun k J hk hJ => rz_ior_ok (pc := 50) hx hb dX9_member_50 hk) ?_
  refine rz_All_c (i := 30) (fun k J hk hJ => rz_istore_n_ok (pc := 51) hx hb dX9_member_51 rfl hk) ?_
  refine rz_All_c (i := 31) (fun k J hk hJ => rz_aload_n_ok (pc := 52) hx hb dX9_member_52 rfl hk) ?_
  refine rz_All_c (i := 32) (fun k J hk hJ => rz_dup_ok (pc := 53) hx hb dX9_member_53 hk) ?_
  refine rz_All_c (i := 33) (fun k J hk hJ => rz_getf_ok (pc := 54) (own := RX9) (ref := "ThreadJudge$Reader") (C := RX9) (T := TX9) (N := 19) (ci := 11) (index := 187) (f := 15) (t := 0) (Ts := Cond.code yX9_member cX9_member 3 (some .boolean) :: rz_TB) hx hb hts rz_in11 ho hK rfl (by decide) rfl (fun _ => rfl) (hw (i := 3) (j := 11) rfl rfl) (fun _ z => z) dX9_member_54 hk) ?_
  refine rz_All_c (i := 34) (fun k J hk hJ => rz_iconst_ok (pc := 57) hx hb dX9_member_57 rfl hk) ?_
  refine rz_All_c (i := 35) (fun k J hk hJ => rz_iadd_ok (pc := 58) hx hb dX9_member_58 hk) ?_
  refine rz_All_c (i := 36) (fun k J hk hJ => rz_putf_ok (pc := 59) (own := RX9) (ref := "ThreadJudge$Reader") (C := RX9) (T := TX9) (N := 19) (ci := 11) (index := 187) (f := 15) (t := 0) (Ts := Cond.code yX9_member cX9_member 3 (some .boolean) :: rz_TB) hx hb hts rz_in11 tyX9 tyX9_ok nmX9 ho hK hA rfl (by decide) rfl (rz_UnI _) rfl (tyX9_ok 15 (by decide)) (hw (i := 3) (j := 11) rfl rfl) (fun _ z => z) dX9_member_59 hk) ?_
  refine rz_All_c (i := 37) (fun k J hk hJ => rz_iinc_ok (pc := 62) hx hb dX9_member_62 (by decide) hk) ?_
  refine rz_All_c (i := 38) (fun k J hk hJ => rz_goto_ok (pc := 65) hx hb dX9_member_65 rfl (hJ 19)) ?_
  refine rz_All_c (i := 39) (fun k J hk hJ => rz_aload_n_ok (pc := 68) hx hb dX9_member_68 rfl hk) ?_
  refine rz_All_c (i := 40) (fun k J hk hJ => rz_bipush_ok (pc := 69) hx hb dX9_member_69 (by decide) hk) ?_
  refine rz_All_c (i := 41) (fun k J hk hJ => rz_callV_ok (pc := 71) (own := RX9) (C := RX9) (T0 := TX9) (N0 := 19) hC rfl (rmX9_isWord l hG) (rz_cwV 1 hC rz_good (rz_mem (i := 10) (j := 2) rfl rfl) (rz_mem (i := 10) (j := 3) rfl rfl) (rz_mem (i := 10) (j := 4) rfl rfl) (rz_mem (i := 1) (j := 21) rfl rfl) (rz_mem (i := 10) (j := 5) rfl rfl) ⟨rfl, by decide, by decide, by decide +kernel⟩ rfl rfl ⟨by decide, by decide⟩) rfl dX9_member_71 hk) ?_
  refine rz_All_c (i := 42) (fun k J hk hJ => rz_ifeq_ok (pc := 74) hx hb dX9_member_74 rfl hk (hJ 53)) ?_
  refine rz_All_c (i := 43) (fun k J hk hJ => rz_aload_n_ok (pc := 77) hx hb dX9_member_77 rfl hk) ?_
  refine rz_All_c (i := 44) (fun k J hk hJ => rz_dup_ok (pc := 78) hx hb dX9_member_78 hk) ?_
  refine rz_All_c (i := 45) (fun k J hk hJ => rz_getf_ok (pc := 79) (own := RX9) (ref := "ThreadJudge$Reader") (C := RX9) (T := TX9) (N := 19) (ci := 11) (index := 187) (f := 15) (t := 0) (Ts := Cond.code yX9_member cX9_member 3 (some .boolean) :: rz_TB) hx hb hts rz_in11 ho hK rfl (by decide) rfl (fun _ => rfl) (hw (i := 3) (j := 11) rfl rfl) (fun _ z => z) dX9_member_79 hk) ?_
  refine rz_All_c (i := 46) (fun k J hk hJ => rz_iconst_ok (pc := 82) hx hb dX9_member_82 rfl hk) ?_
  refine rz_All_c (i := 47) (fun k J hk hJ => rz_iadd_ok (pc := 83) hx hb dX9_member_83 hk) ?_
  refine rz_All_c (i := 48) (fun k J hk hJ => rz_putf_ok (pc := 84) (own := RX9) (ref := "ThreadJudge$Reader") (C := RX9) (T := TX9) (N := 19) (ci := 11) (index := 187) (f := 15) (t := 0) (Ts := Cond.code yX9_member cX9_member 3 (some .boolean) :: rz_TB) hx hb hts rz_in11 tyX9 tyX9_ok nmX9 ho hK hA rfl (by decide) rfl (rz_UnI _) rfl (tyX9_ok 15 (by decide)) (hw (i := 3) (j := 11) rfl rfl) (fun _ z => z) dX9_member_84 hk) ?_
  refine rz_All_c (i := 49) (fun k J hk hJ => rz_aload_n_ok (pc := 87) hx hb dX9_member_87 rfl hk) ?_
  refine rz_All_c (i := 50) (fun k J hk hJ => rz_iload_n_ok (pc := 88) hx hb dX9_member_88 rfl hk) ?_
  refine rz_All_c (i := 51) (fun k J hk hJ => rz_callV_ok (pc := 89) (own := RX9) (C := RX9) (T0 := TX9) (N0 := 19) hC rfl (rmX9_fieldLine l hG) (rz_cwV 1 hC rz_good (rz_mem (i := 11) (j := 20) rfl rfl) (rz_mem (i := 11) (j := 21) rfl rfl) (rz_mem (i := 11) (j := 22) rfl rfl) (rz_mem (i := 1) (j := 21) rfl rfl) (rz_mem (i := 11) (j := 23) rfl rfl) ⟨rfl, by decide, by decide, by decide +kernel⟩ rfl rfl ⟨by decide, by decide⟩) rfl dX9_member_89 hk) ?_
  refine rz_All_c (i := 52) (fun k J hk hJ => rz_zret_ok (pc := 92) hC dX9_member_92) ?_
  refine rz_All_c (i := 53) (fun k J hk hJ => rz_aload_n_ok (pc := 93) hx hb dX9_member_93 rfl hk) ?_
  refine rz_All_c (i := 54) (fun k J hk hJ => rz_bipush_ok (pc := 94) hx hb dX9_member_94 (by decide) hk) ?_
  refine rz_All_c (i := 55) (fun k J hk hJ => rz_callV_ok (pc := 96) (own := RX9) (C := RX9) (T0 := TX9) (N0 := 19) hC rfl (rmX9_isWord l hG) (rz_cwV 1 hC rz_good (rz_mem (i := 10) (j := 2) rfl rfl) (rz_mem (i := 10) (j := 3) rfl rfl) (rz_mem (i := 10) (j := 4) rfl rfl) (rz_mem (i := 1) (j := 21) rfl rfl) (rz_mem (i := 10) (j := 5) rfl rfl) ⟨rfl, by decide, by decide, by decide +kernel⟩ rfl rfl ⟨by decide, by decide⟩) rfl dX9_member_96 hk) ?_
  refine rz_All_c (i := 56) (fun k J hk hJ => rz_ifeq_ok (pc := 99) hx hb dX9_member_99 rfl hk (hJ 67)) ?_
  refine rz_All_c (i := 57) (fun k J hk hJ => rz_aload_n_ok (pc := 102) hx hb dX9_member_102 rfl hk) ?_
  refine rz_All_c (i := 58) (fun k J hk hJ => rz_dup_ok (pc := 103) hx hb dX9_member_103 hk) ?_
  refine rz_All_c (i := 59) (fun k J hk hJ => rz_getf_ok (pc := 104) (own := RX9) (ref := "ThreadJudge$Reader") (C := RX9) (T := TX9) (N := 19) (ci := 11) (index := 187) (f := 15) (t := 0) (Ts := Cond.code yX9_member cX9_member 3 (some .boolean) :: rz_TB) hx hb hts rz_in11 ho hK rfl (by decide) rfl (fun _ => rfl) (hw (i := 3) (j := 11) rfl rfl) (fun _ z => z) dX9_member_104 hk) ?_
  refine rz_All_c (i := 60) (fun k J hk hJ => rz_iconst_ok (pc := 107) hx hb dX9_member_107 rfl hk) ?_
  refine rz_All_c (i := 61) (fun k J hk hJ => rz_iadd_ok (pc := 108) hx hb dX9_member_108 hk) ?_
  refine rz_All_c (i := 62) (fun k J hk hJ => rz_putf_ok (pc := 109) (own := RX9) (ref := "ThreadJudge$Reader") (C := RX9) (T := TX9) (N := 19) (ci := 11) (index := 187) (f := 15) (t := 0) (Ts := Cond.code yX9_member cX9_member 3 (some .boolean) :: rz_TB) hx hb hts rz_in11 tyX9 tyX9_ok nmX9 ho hK hA rfl (by decide) rfl (rz_UnI _) rfl (tyX9_ok 15 (by decide)) (hw (i := 3) (j := 11) rfl rfl) (fun _ z => z) dX9_member_109 hk) ?_
  refine rz_All_c (i := 63) (fun k J hk hJ => rz_aload_n_ok (pc := 112) hx hb dX9_member_112 rfl hk) ?_
  refine rz_All_c (i := 64) (fun k J hk hJ => rz_iload_n_ok (pc := 113) hx hb dX9_member_113 rfl hk) ?_
  refine rz_All_c (i := 65) (fun k J hk hJ => rz_callV_ok (pc := 114) (own := RX9) (C := RX9) (T0 := TX9) (N0 := 19) hC rfl (rmX9_methodHead l hG) (rz_cwV 1 hC rz_good (rz_mem (i := 12) (j := 10) rfl rfl) (rz_mem (i := 12) (j := 11) rfl rfl) (rz_mem (i := 12) (j := 12) rfl rfl) (rz_mem (i := 1) (j := 21) rfl rfl) (rz_mem (i := 12) (j := 13) rfl rfl) ⟨rfl, by decide, by decide, by decide +kernel⟩ rfl rfl ⟨by decide, by decide⟩) rfl dX9_member_114 hk) ?_
  refine rz_All_c (i := 66) (fun k J hk hJ => rz_zret_ok (pc := 117) hC dX9_member_117) ?_
  refine rz_All_c (i := 67) (fun k J hk hJ => rz_no_ok) ?_
  exact trivial
