/-! Methods: handlers, facts, contracts. -/
theorem dX12_isRound_0 : decode cX12_isRound 0 = .ok (.aload_n 0, 1) := by decide +kernel
theorem dX12_isRound_1 : decode cX12_isRound 1 = .ok (.getfield 165, 3) := by decide +kernel
theorem dX12_isRound_4 : decode cX12_isRound 4 = .ok (.iload_n 1, 1) := by decide +kernel
theorem dX12_isRound_5 : decode cX12_isRound 5 = .ok (.iaload, 1) := by decide +kernel
theorem dX12_isRound_6 : decode cX12_isRound 6 = .ok (.ifCond .lt 26, 3) := by decide +kernel
theorem dX12_isRound_9 : decode cX12_isRound 9 = .ok (.aload_n 0, 1) := by decide +kernel
theorem dX12_isRound_10 : decode cX12_isRound 10 = .ok (.getfield 171, 3) := by decide +kernel
theorem dX12_isRound_13 : decode cX12_isRound 13 = .ok (.bipush 43, 2) := by decide +kernel
theorem dX12_isRound_15 : decode cX12_isRound 15 = .ok (.aload_n 0, 1) := by decide +kernel
theorem dX12_isRound_16 : decode cX12_isRound 16 = .ok (.getfield 165, 3) := by decide +kernel
theorem dX12_isRound_19 : decode cX12_isRound 19 = .ok (.iload_n 1, 1) := by decide +kernel
theorem dX12_isRound_20 : decode cX12_isRound 20 = .ok (.iaload, 1) := by decide +kernel
theorem dX12_isRound_21 : decode cX12_isRound 21 = .ok (.imul, 1) := by decide +kernel
theorem dX12_isRound_22 : decode cX12_isRound 22 = .ok (.iload_n 1, 1) := by decide +kernel
theorem dX12_isRound_23 : decode cX12_isRound 23 = .ok (.iadd, 1) := by decide +kernel
theorem dX12_isRound_24 : decode cX12_isRound 24 = .ok (.baload, 1) := by decide +kernel
theorem dX12_isRound_25 : decode cX12_isRound 25 = .ok (.ifCond .eq 7, 3) := by decide +kernel
theorem dX12_isRound_32 : decode cX12_isRound 32 = .ok (.iconst 0, 1) := by decide +kernel
theorem dX12_isRound_33 : decode cX12_isRound 33 = .ok (.istore_n 2, 1) := by decide +kernel
theorem dX12_isRound_34 : decode cX12_isRound 34 = .ok (.iconst 0, 1) := by decide +kernel
theorem dX12_isRound_35 : decode cX12_isRound 35 = .ok (.istore_n 3, 1) := by decide +kernel
theorem dX12_isRound_36 : decode cX12_isRound 36 = .ok (.iload_n 3, 1) := by decide +kernel
theorem dX12_isRound_37 : decode cX12_isRound 37 = .ok (.aload_n 0, 1) := by decide +kernel
theorem dX12_isRound_38 : decode cX12_isRound 38 = .ok (.getfield 42, 3) := by decide +kernel
theorem dX12_isRound_41 : decode cX12_isRound 41 = .ok (.iload_n 1, 1) := by decide +kernel
theorem dX12_isRound_42 : decode cX12_isRound 42 = .ok (.iaload, 1) := by decide +kernel
theorem dX12_isRound_43 : decode cX12_isRound 43 = .ok (.if_icmp .ge 57, 3) := by decide +kernel
theorem dX12_isRound_46 : decode cX12_isRound 46 = .ok (.iload_n 2, 1) := by decide +kernel
theorem dX12_isRound_47 : decode cX12_isRound 47 = .ok (.ifCond .ne 41, 3) := by decide +kernel
theorem dX12_isRound_50 : decode cX12_isRound 50 = .ok (.aload_n 0, 1) := by decide +kernel
theorem dX12_isRound_51 : decode cX12_isRound 51 = .ok (.getfield 168, 3) := by decide +kernel
theorem dX12_isRound_54 : decode cX12_isRound 54 = .ok (.bipush 6, 2) := by decide +kernel
theorem dX12_isRound_56 : decode cX12_isRound 56 = .ok (.iload_n 1, 1) := by decide +kernel
theorem dX12_isRound_57 : decode cX12_isRound 57 = .ok (.imul, 1) := by decide +kernel
theorem dX12_isRound_58 : decode cX12_isRound 58 = .ok (.iload_n 3, 1) := by decide +kernel
theorem dX12_isRound_59 : decode cX12_isRound 59 = .ok (.iadd, 1) := by decide +kernel
theorem dX12_isRound_60 : decode cX12_isRound 60 = .ok (.iaload, 1) := by decide +kernel
theorem dX12_isRound_61 : decode cX12_isRound 61 = .ok (.ifCond .lt 31, 3) := by decide +kernel
theorem dX12_isRound_64 : decode cX12_isRound 64 = .ok (.aload_n 0, 1) := by decide +kernel
theorem dX12_isRound_65 : decode cX12_isRound 65 = .ok (.getfield 171, 3) := by decide +kernel
theorem dX12_isRound_68 : decode cX12_isRound 68 = .ok (.bipush 43, 2) := by decide +kernel
theorem dX12_isRound_70 : decode cX12_isRound 70 = .ok (.aload_n 0, 1) := by decide +kernel
theorem dX12_isRound_71 : decode cX12_isRound 71 = .ok (.getfield 168, 3) := by decide +kernel
theorem dX12_isRound_74 : decode cX12_isRound 74 = .ok (.bipush 6, 2) := by decide +kernel
theorem dX12_isRound_76 : decode cX12_isRound 76 = .ok (.iload_n 1, 1) := by decide +kernel
theorem dX12_isRound_77 : decode cX12_isRound 77 = .ok (.imul, 1) := by decide +kernel
theorem dX12_isRound_78 : decode cX12_isRound 78 = .ok (.iload_n 3, 1) := by decide +kernel
theorem dX12_isRound_79 : decode cX12_isRound 79 = .ok (.iadd, 1) := by decide +kernel
theorem dX12_isRound_80 : decode cX12_isRound 80 = .ok (.iaload, 1) := by decide +kernel
theorem dX12_isRound_81 : decode cX12_isRound 81 = .ok (.imul, 1) := by decide +kernel
theorem dX12_isRound_82 : decode cX12_isRound 82 = .ok (.iload_n 1, 1) := by decide +kernel
theorem dX12_isRound_83 : decode cX12_isRound 83 = .ok (.iadd, 1) := by decide +kernel
theorem dX12_isRound_84 : decode cX12_isRound 84 = .ok (.baload, 1) := by decide +kernel
theorem dX12_isRound_85 : decode cX12_isRound 85 = .ok (.ifCond .eq 7, 3) := by decide +kernel
theorem dX12_isRound_92 : decode cX12_isRound 92 = .ok (.iconst 0, 1) := by decide +kernel
theorem dX12_isRound_93 : decode cX12_isRound 93 = .ok (.istore_n 2, 1) := by decide +kernel
theorem dX12_isRound_94 : decode cX12_isRound 94 = .ok (.iinc 3 1, 3) := by decide +kernel
theorem dX12_isRound_97 : decode cX12_isRound 97 = .ok (.goto (-61), 3) := by decide +kernel
theorem dX12_isRound_100 : decode cX12_isRound 100 = .ok (.iload_n 2, 1) := by decide +kernel
theorem dX12_isRound_101 : decode cX12_isRound 101 = .ok (.ireturn, 1) := by decide +kernel
def rpX12_isRound : List Nat := [0, 1, 4, 5, 6, 9, 10, 13, 15, 16, 19, 20, 21, 22, 23, 24, 25, 28, 32, 33, 34, 35, 36, 37, 38, 41, 42, 43, 46, 47, 50, 51, 54, 56, 57, 58, 59, 60, 61, 64, 65, 68, 70, 71, 74, 76, 77, 78, 79, 80, 81, 82, 83, 84, 85, 88, 92, 93, 94, 97, 100, 101]
noncomputable def rcX12_isRound : List rz_B := [rz_aload 0, rz_getf (Nat.add (Nat.mul 256 14) 1) 71 rz_r, rz_iload 1, rz_iald, rz_iflt 18, rz_aload 0, rz_getf (Nat.add (Nat.mul 256 14) 1) 73 rz_r, rz_cst 43, rz_aload 0, rz_getf (Nat.add (Nat.mul 256 14) 1) 71 rz_r, rz_iload 1, rz_iald, rz_imul, rz_iload 1, rz_iadd, rz_zald, rz_ifeq 18, rz_no, rz_cst 0, rz_istore 2, rz_cst 0, rz_istore 3, rz_iload 3, rz_aload 0, rz_getf (Nat.add (Nat.mul 256 14) 1) 21 rz_r, rz_iload 1, rz_iald, rz_icmpge 60, rz_iload 2, rz_ifne 55, rz_aload 0, rz_getf (Nat.add (Nat.mul 256 14) 1) 72 rz_r, rz_cst 6, rz_iload 1, rz_imul, rz_iload 3, rz_iadd, rz_iald, rz_iflt 56, rz_aload 0, rz_getf (Nat.add (Nat.mul 256 14) 1) 73 rz_r, rz_cst 43, rz_aload 0, rz_getf (Nat.add (Nat.mul 256 14) 1) 72 rz_r, rz_cst 6, rz_iload 1, rz_imul, rz_iload 3, rz_iadd, rz_iald, rz_imul, rz_iload 1, rz_iadd, rz_zald, rz_ifeq 56, rz_no, rz_cst 0, rz_istore 2, rz_iinc 3 1, rz_goto 22, rz_iload 2, rz_zret]
noncomputable def rgX12_isRound : rz_L → rz_M → rz_Z → Bool := rz_go rcX12_isRound 4 1000000
def rrX12_isRound : Room := { frames := 0, cells := 0, slots := 0, locals := 0 }
theorem rmX12_isRound (l : Launch) {G : rz_G} (hG : rz_Gd G) (vs : rz_L) (M : rz_M) (Z : rz_Z) (hn : vs.length = 2) (h : rgX12_isRound vs M Z = true) : Met l yX12_isRound (Cond.code yX12_isRound cX12_isRound 4 (some .boolean) :: rz_TB) rrX12_isRound (rz_Pre G vs M) (rz_Qi G M.2 Z) 0 0 (fun q => rz_b G ≤ q) := by
  obtain ⟨D, tc, ad, b, xs, rfl⟩ := id hG
  refine rz_body (pcs := rpX12_isRound) (by decide) rfl (by rw [hn]; decide) h ?_
  intro p e R s m args below meth c hC
  obtain ⟨hx, hb, hml, hr, hlk, ho, hts, hKn, hRm⟩ := id hC
  obtain ⟨hK, hA, hSt⟩ := id hKn
  have hw : ∀ {i j : Nat} {ws : List Cond} {w : Cond}, rz_WW[i]? = some ws → ws[j]? = some w → w.before args s = true := fun h1 h2 => hts _ (List.mem_cons_of_mem _ (rz_mem h1 h2))
  refine rz_All_c (i := 0) (fun k J hk hJ => rz_aload_n_ok (pc := 0) hx hb dX12_isRound_0 rfl hk) ?_
  refine rz_All_c (i := 1) (fun k J hk hJ => rz_getf_ok (pc := 1) (own := RX12) (ref := "ThreadJudgeModel") (C := RX12) (T := TX12) (N := 257) (ci := 14) (index := 165) (f := 71) (t := 2) (Ts := Cond.code yX12_isRound cX12_isRound 4 (some .boolean) :: rz_TB) hx hb hts rz_in14 ho hK rfl (by decide) rfl (fun _ => rfl) (hw (i := 42) (j := 16) rfl rfl) (fun _ z => z) dX12_isRound_1 hk) ?_
  refine rz_All_c (i := 2) (fun k J hk hJ => rz_iload_n_ok (pc := 4) hx hb dX12_isRound_4 rfl hk) ?_
  refine rz_All_c (i := 3) (fun k J hk hJ => rz_iald_ok (pc := 5) hx hb hK dX12_isRound_5 hk) ?_
  refine rz_All_c (i := 4) (fun k J hk hJ => rz_iflt_ok (pc := 6) hx hb dX12_isRound_6 rfl hk (hJ 18)) ?_
  refine rz_All_c (i := 5) (fun k J hk hJ => rz_aload_n_ok (pc := 9) hx hb dX12_isRound_9 rfl hk) ?_
  refine rz_All_c (i := 6) (fun k J hk hJ => rz_getf_ok (pc := 10) (own := RX12) (ref := "ThreadJudgeModel") (C := RX12) (T := TX12) (N := 257) (ci := 14) (index := 171) (f := 73) (t := 2) (Ts := Cond.code yX12_isRound cX12_isRound 4 (some .boolean) :: rz_TB) hx hb hts rz_in14 ho hK rfl (by decide) rfl (fun _ => rfl) (hw (i := 43) (j := 10) rfl rfl) (fun _ z => z) dX12_isRound_10 hk) ?_
  refine rz_All_c (i := 7) (fun k J hk hJ => rz_bipush_ok (pc := 13) hx hb dX12_isRound_13 (by decide) hk) ?_
  refine rz_All_c (i := 8) (fun k J hk hJ => rz_aload_n_ok (pc := 15) hx hb dX12_isRound_15 rfl hk) ?_
  refine rz_All_c (i := 9) (fun k J hk hJ => rz_getf_ok (pc := 16) (own := RX12) (ref := "ThreadJudgeModel") (C := RX12) (T := TX12) (N := 257) (ci := 14) (index := 165) (f := 71) (t := 2) (Ts := Cond.code yX12_isRound cX12_isRound 4 (some .boolean) :: rz_TB) hx hb hts rz_in14 ho hK rfl (by decide) rfl (fun _ => rfl) (hw (i := 42) (j := 16) rfl rfl) (fun _ z => z) dX12_isRound_16 hk) ?_
  refine rz_All_c (i := 10) (fun k J hk hJ => rz_iload_n_ok (pc := 19) hx hb dX12_isRound_19 rfl hk) ?_
  refine rz_All_c (i := 11) (fun k J hk hJ => rz_iald_ok (pc := 20) hx hb hK dX12_isRound_20 hk) ?_
  refine rz_All_c (i := 12) (fun k J hk hJ => rz_imul_ok (pc := 21) hx hb dX12_isRound_21 hk) ?_
  refine rz_All_c (i := 13) (fun k J hk hJ => rz_iload_n_ok (pc := 22) hx hb dX12_isRound_22 rfl hk) ?_
  refine rz_All_c (i := 14) (fun k J hk hJ => rz_iadd_ok (pc := 23) hx hb dX12_isRound_23 hk) ?_
  refine rz_All_c (i := 15) (fun k J hk hJ => rz_zald_ok (pc := 24) hx hb hK dX12_isRound_24 hk) ?_
  refine rz_All_c (i := 16) (fun k J hk hJ => rz_ifeq_ok (pc := 25) hx hb dX12_isRound_25 rfl hk (hJ 18)) ?_
  refine rz_All_c (i := 17) (fun k J hk hJ => rz_no_ok) ?_
  refine rz_All_c (i := 18) (fun k J hk hJ => rz_iconst_ok (pc := 32) hx hb dX12_isRound_32 rfl hk) ?_
  refine rz_All_c (i := 19) (fun k J hk hJ => rz_istore_n_ok (pc := 33) hx hb dX12_isRound_33 rfl hk) ?_
  refine rz_All_c (i := 20) (fun k J hk hJ => rz_iconst_ok (pc := 34) hx hb dX12_isRound_34 rfl hk) ?_
  refine rz_All_c (i := 21) (fun k J hk hJ => rz_istore_n_ok (pc := 35) hx hb dX12_isRound_35 rfl hk) ?_
  refine rz_All_c (i := 22) (fun k J hk hJ => rz_iload_n_ok (pc := 36) hx hb dX12_isRound_36 rfl hk) ?_
  refine rz_All_c (i := 23) (fun k J hk hJ => rz_aload_n_ok (pc := 37) hx hb dX12_isRound_37 rfl hk) ?_
  refine rz_All_c (i := 24) (fun k J hk hJ => rz_getf_ok (pc := 38) (own := RX12) (ref := "ThreadJudgeModel") (C := RX12) (T := TX12) (N := 257) (ci := 14) (index := 42) (f := 21) (t := 2) (Ts := Cond.code yX12_isRound cX12_isRound 4 (some .boolean) :: rz_TB) hx hb hts rz_in14 ho hK rfl (by decide) rfl (fun _ => rfl) (hw (i := 36) (j := 18) rfl rfl) (fun _ z => z) dX12_isRound_38 hk) ?_
  refine rz_All_c (i := 25) (fun k J hk hJ => rz_iload_n_ok (pc := 41) hx hb dX12_isRound_41 rfl hk) ?_
  refine rz_All_c (i := 26) (fun k J hk hJ => rz_iald_ok (pc := 42) hx hb hK dX12_isRound_42 hk) ?_
  refine rz_All_c (i := 27) (fun k J hk hJ => rz_icmpge_ok (pc := 43) hx hb dX12_isRound_43 rfl hk (hJ 60)) ?_
  refine rz_All_c (i := 28) (fun k J hk hJ => rz_iload_n_ok (pc := 46) hx hb dX12_isRound_46 rfl hk) ?_
  refine rz_All_c (i := 29) (fun k J hk hJ => rz_ifne_ok (pc := 47) hx hb dX12_isRound_47 rfl hk (hJ 55)) ?_
  refine rz_All_c (i := 30) (fun k J hk hJ => rz_aload_n_ok (pc := 50) hx hb dX12_isRound_50 rfl hk) ?_
  refine rz_All_c (i := 31) (fun k J hk hJ => rz_getf_ok (pc := 51) (own := RX12) (ref := "ThreadJudgeModel") (C := RX12) (T := TX12) (N := 257) (ci := 14) (index := 168) (f := 72) (t := 2) (Ts := Cond.code yX12_isRound cX12_isRound 4 (some .boolean) :: rz_TB) hx hb hts rz_in14 ho hK rfl (by decide) rfl (fun _ => rfl) (hw (i := 42) (j := 21) rfl rfl) (fun _ z => z) dX12_isRound_51 hk) ?_
  refine rz_All_c (i := 32) (fun k J hk hJ => rz_bipush_ok (pc := 54) hx hb dX12_isRound_54 (by decide) hk) ?_
  refine rz_All_c (i := 33) (fun k J hk hJ => rz_iload_n_ok (pc := 56) hx hb dX12_isRound_56 rfl hk) ?_
  refine rz_All_c (i := 34) (fun k J hk hJ => rz_imul_ok (pc := 57) hx hb dX12_isRound_57 hk) ?_
  refine rz_All_c (i := 35) (fun k J hk hJ => rz_iload_n_ok (pc := 58) hx hb dX12_isRound_58 rfl hk) ?_
  refine rz_All_c (i := 36) (fun k J hk hJ => rz_iadd_ok (pc := 59) hx hb dX12_isRound_59 hk) ?_
  refine rz_All_c (i := 37) (fun k J hk hJ => rz_iald_ok (pc := 60) hx hb hK dX12_isRound_60 hk) ?_
  refine rz_All_c (i := 38) (fun k J hk hJ => rz_iflt_ok (pc := 61) hx hb dX12_isRound_61 rfl hk (hJ 56)) ?_
  refine rz_All_c (i := 39) (fun k J hk hJ => rz_aload_n_ok (pc := 64) hx hb dX12_isRound_64 rfl hk) ?_
  refine rz_All_c (i := 40) (fun k J hk hJ => rz_getf_ok (pc := 65) (own := RX12) (ref := "ThreadJudgeModel") (C := RX12) (T := TX12) (N := 257) (ci := 14) (index := 171) (f := 73) (t := 2) (Ts := Cond.code yX12_isRound cX12_isRound 4 (some .boolean) :: rz_TB) hx hb hts rz_in14 ho hK rfl (by decide) rfl (fun _ => rfl) (hw (i := 43) (j := 10) rfl rfl) (fun _ z => z) dX12_isRound_65 hk) ?_
  refine rz_All_c (i := 41) (fun k J hk hJ => rz_bipush_ok (pc := 68) hx hb dX12_isRound_68 (by decide) hk) ?_
  refine rz_All_c (i := 42) (fun k J hk hJ => rz_aload_n_ok (pc := 70) hx hb dX12_isRound_70 rfl hk) ?_
  refine rz_All_c (i := 43) (fun k J hk hJ => rz_getf_ok (pc := 71) (own := RX12) (ref := "ThreadJudgeModel") (C := RX12) (T := TX12) (N := 257) (ci := 14) (index := 168) (f := 72) (t := 2) (Ts := Cond.code yX12_isRound cX12_isRound 4 (some .boolean) :: rz_TB) hx hb hts rz_in14 ho hK rfl (by decide) rfl (fun _ => rfl) (hw (i := 42) (j := 21) rfl rfl) (fun _ z => z) dX12_isRound_71 hk) ?_
  refine rz_All_c (i := 44) (fun k J hk hJ => rz_bipush_ok (pc := 74) hx hb dX12_isRound_74 (by decide) hk) ?_
  refine rz_All_c (i := 45) (fun k J hk hJ => rz_iload_n_ok (pc := 76) hx hb dX12_isRound_76 rfl hk) ?_
  refine rz_All_c (i := 46) (fun k J hk hJ => rz_imul_ok (pc := 77) hx hb dX12_isRound_77 hk) ?_
  refine rz_All_c (i := 47) (fun k J hk hJ => rz_iload_n_ok (pc := 78) hx hb dX12_isRound_78 rfl hk) ?_
  refine rz_All_c (i := 48) (fun k J hk hJ => rz_iadd_ok (pc := 79) hx hb dX12_isRound_79 hk) ?_
  refine rz_All_c (i := 49) (fun k J hk hJ => rz_iald_ok (pc := 80) hx hb hK dX12_isRound_80 hk) ?_
  refine rz_All_c (i := 50) (fun k J hk hJ => rz_imul_ok (pc := 81) hx hb dX12_isRound_81 hk) ?_
  refine rz_All_c (i := 51) (fun k J hk hJ => rz_iload_n_ok (pc := 82) hx hb dX12_isRound_82 rfl hk) ?_
  refine rz_All_c (i := 52) (fun k J hk hJ => rz_iadd_ok (pc := 83) hx hb dX12_isRound_83 hk) ?_
  refine rz_All_c (i := 53) (fun k J hk hJ => rz_zald_ok (pc := 84) hx hb hK dX12_isRound_84 hk) ?_
  refine rz_All_c (i := 54) (fun k J hk hJ => rz_ifeq_ok (pc := 85) hx hb dX12_isRound_85 rfl hk (hJ 56)) ?_
  refine rz_All_c (i := 55) (fun k J hk hJ => rz_no_ok) ?_
  refine rz_All_c (i := 56) (fun k J hk hJ => rz_iconst_ok (pc := 92) hx hb dX12_isRound_92 rfl hk) ?_
  refine rz_All_c (i := 57) (fun k J hk hJ => rz_istore_n_ok (pc := 93) hx hb dX12_isRound_93 rfl hk) ?_
  refine rz_All_c (i := 58) (fun k J hk hJ => rz_iinc_ok (pc := 94) hx hb dX12_isRound_94 (by decide) hk) ?_
  refine rz_All_c (i := 59) (fun k J hk hJ => rz_goto_ok (pc := 97) hx hb dX12_isRound_97 rfl (hJ 22)) ?_
  refine rz_All_c (i := 60) (fun k J hk hJ => rz_iload_n_ok (pc := 100) hx hb dX12_isRound_100 rfl hk) ?_
  refine rz_All_c (i := 61) (fun k J hk hJ => rz_zret_ok (pc := 101) hC dX12_isRound_101) ?_
  exact trivial
theorem dX12_linkClasses_0 : decode cX12_linkClasses 0 = .ok (.iconst 0, 1) := by decide +kernel
theorem dX12_linkClasses_1 : decode cX12_linkClasses 1 = .ok (.istore_n 1, 1) := by decide +kernel
theorem dX12_linkClasses_2 : decode cX12_linkClasses 2 = .ok (.iload_n 1, 1) := by decide +kernel
theorem dX12_linkClasses_3 : decode cX12_linkClasses 3 = .ok (.aload_n 0, 1) := by decide +kernel
theorem dX12_linkClasses_4 : decode cX12_linkClasses 4 = .ok (.getfield 684, 3) := by decide +kernel
theorem dX12_linkClasses_7 : decode cX12_linkClasses 7 = .ok (.if_icmp .ge 235, 3) := by decide +kernel
theorem dX12_linkClasses_10 : decode cX12_linkClasses 10 = .ok (.aload_n 0, 1) := by decide +kernel
theorem dX12_linkClasses_11 : decode cX12_linkClasses 11 = .ok (.getfield 20, 3) := by decide +kernel
theorem dX12_linkClasses_14 : decode cX12_linkClasses 14 = .ok (.iload_n 1, 1) := by decide +kernel
theorem dX12_linkClasses_15 : decode cX12_linkClasses 15 = .ok (.iaload, 1) := by decide +kernel
theorem dX12_linkClasses_16 : decode cX12_linkClasses 16 = .ok (.istore_n 2, 1) := by decide +kernel
theorem dX12_linkClasses_17 : decode cX12_linkClasses 17 = .ok (.aload_n 0, 1) := by decide +kernel
theorem dX12_linkClasses_18 : decode cX12_linkClasses 18 = .ok (.iload_n 2, 1) := by decide +kernel
theorem dX12_linkClasses_19 : decode cX12_linkClasses 19 = .ok (.aload_n 0, 1) := by decide +kernel
theorem dX12_linkClasses_20 : decode cX12_linkClasses 20 = .ok (.getfield 23, 3) := by decide +kernel
theorem dX12_linkClasses_23 : decode cX12_linkClasses 23 = .ok (.iload_n 1, 1) := by decide +kernel
theorem dX12_linkClasses_24 : decode cX12_linkClasses 24 = .ok (.iaload, 1) := by decide +kernel
theorem dX12_linkClasses_25 : decode cX12_linkClasses 25 = .ok (.invokevirtual 761, 3) := by decide +kernel
theorem dX12_linkClasses_28 : decode cX12_linkClasses 28 = .ok (.iload_n 1, 1) := by decide +kernel
theorem dX12_linkClasses_29 : decode cX12_linkClasses 29 = .ok (.if_icmp .ne 21, 3) := by decide +kernel
theorem dX12_linkClasses_32 : decode cX12_linkClasses 32 = .ok (.aload_n 0, 1) := by decide +kernel
theorem dX12_linkClasses_33 : decode cX12_linkClasses 33 = .ok (.getfield 26, 3) := by decide +kernel
theorem dX12_linkClasses_36 : decode cX12_linkClasses 36 = .ok (.iload_n 1, 1) := by decide +kernel
theorem dX12_linkClasses_37 : decode cX12_linkClasses 37 = .ok (.baload, 1) := by decide +kernel
theorem dX12_linkClasses_38 : decode cX12_linkClasses 38 = .ok (.ifCond .eq 17, 3) := by decide +kernel
theorem dX12_linkClasses_41 : decode cX12_linkClasses 41 = .ok (.aload_n 0, 1) := by decide +kernel
theorem dX12_linkClasses_42 : decode cX12_linkClasses 42 = .ok (.getfield 30, 3) := by decide +kernel
theorem dX12_linkClasses_45 : decode cX12_linkClasses 45 = .ok (.iload_n 1, 1) := by decide +kernel
theorem dX12_linkClasses_46 : decode cX12_linkClasses 46 = .ok (.baload, 1) := by decide +kernel
theorem dX12_linkClasses_47 : decode cX12_linkClasses 47 = .ok (.ifCond .eq 8, 3) := by decide +kernel
theorem dX12_linkClasses_55 : decode cX12_linkClasses 55 = .ok (.aload_n 0, 1) := by decide +kernel
theorem dX12_linkClasses_56 : decode cX12_linkClasses 56 = .ok (.getfield 165, 3) := by decide +kernel
theorem dX12_linkClasses_59 : decode cX12_linkClasses 59 = .ok (.iload_n 1, 1) := by decide +kernel
theorem dX12_linkClasses_60 : decode cX12_linkClasses 60 = .ok (.iload_n 1, 1) := by decide +kernel
theorem dX12_linkClasses_61 : decode cX12_linkClasses 61 = .ok (.ifCond .ne 7, 3) := by decide +kernel
theorem dX12_linkClasses_64 : decode cX12_linkClasses 64 = .ok (.iconst (-1), 1) := by decide +kernel
theorem dX12_linkClasses_65 : decode cX12_linkClasses 65 = .ok (.goto 4, 3) := by decide +kernel
theorem dX12_linkClasses_68 : decode cX12_linkClasses 68 = .ok (.iconst 0, 1) := by decide +kernel
theorem dX12_linkClasses_69 : decode cX12_linkClasses 69 = .ok (.iastore, 1) := by decide +kernel
theorem dX12_linkClasses_70 : decode cX12_linkClasses 70 = .ok (.aload_n 0, 1) := by decide +kernel
theorem dX12_linkClasses_71 : decode cX12_linkClasses 71 = .ok (.getfield 36, 3) := by decide +kernel
theorem dX12_linkClasses_74 : decode cX12_linkClasses 74 = .ok (.iload_n 1, 1) := by decide +kernel
theorem dX12_linkClasses_75 : decode cX12_linkClasses 75 = .ok (.iaload, 1) := by decide +kernel
theorem dX12_linkClasses_76 : decode cX12_linkClasses 76 = .ok (.iconst (-1), 1) := by decide +kernel
theorem dX12_linkClasses_77 : decode cX12_linkClasses 77 = .ok (.if_icmp .eq 69, 3) := by decide +kernel
theorem dX12_linkClasses_80 : decode cX12_linkClasses 80 = .ok (.aload_n 0, 1) := by decide +kernel
theorem dX12_linkClasses_81 : decode cX12_linkClasses 81 = .ok (.aload_n 0, 1) := by decide +kernel
theorem dX12_linkClasses_82 : decode cX12_linkClasses 82 = .ok (.getfield 36, 3) := by decide +kernel
theorem dX12_linkClasses_85 : decode cX12_linkClasses 85 = .ok (.iload_n 1, 1) := by decide +kernel
theorem dX12_linkClasses_86 : decode cX12_linkClasses 86 = .ok (.iaload, 1) := by decide +kernel
theorem dX12_linkClasses_87 : decode cX12_linkClasses 87 = .ok (.aload_n 0, 1) := by decide +kernel
theorem dX12_linkClasses_88 : decode cX12_linkClasses 88 = .ok (.getfield 39, 3) := by decide +kernel
theorem dX12_linkClasses_91 : decode cX12_linkClasses 91 = .ok (.iload_n 1, 1) := by decide +kernel
theorem dX12_linkClasses_92 : decode cX12_linkClasses 92 = .ok (.iaload, 1) := by decide +kernel
theorem dX12_linkClasses_93 : decode cX12_linkClasses 93 = .ok (.invokevirtual 761, 3) := by decide +kernel
theorem dX12_linkClasses_96 : decode cX12_linkClasses 96 = .ok (.istore_n 3, 1) := by decide +kernel
theorem dX12_linkClasses_97 : decode cX12_linkClasses 97 = .ok (.iload_n 3, 1) := by decide +kernel
theorem dX12_linkClasses_98 : decode cX12_linkClasses 98 = .ok (.iconst (-1), 1) := by decide +kernel
theorem dX12_linkClasses_99 : decode cX12_linkClasses 99 = .ok (.if_icmp .eq 21, 3) := by decide +kernel
theorem dX12_linkClasses_102 : decode cX12_linkClasses 102 = .ok (.aload_n 0, 1) := by decide +kernel
theorem dX12_linkClasses_103 : decode cX12_linkClasses 103 = .ok (.getfield 26, 3) := by decide +kernel
theorem dX12_linkClasses_106 : decode cX12_linkClasses 106 = .ok (.iload_n 3, 1) := by decide +kernel
theorem dX12_linkClasses_107 : decode cX12_linkClasses 107 = .ok (.baload, 1) := by decide +kernel
theorem dX12_linkClasses_108 : decode cX12_linkClasses 108 = .ok (.ifCond .ne 12, 3) := by decide +kernel
theorem dX12_linkClasses_111 : decode cX12_linkClasses 111 = .ok (.aload_n 0, 1) := by decide +kernel
theorem dX12_linkClasses_112 : decode cX12_linkClasses 112 = .ok (.getfield 26, 3) := by decide +kernel
theorem dX12_linkClasses_115 : decode cX12_linkClasses 115 = .ok (.iload_n 1, 1) := by decide +kernel
theorem dX12_linkClasses_116 : decode cX12_linkClasses 116 = .ok (.baload, 1) := by decide +kernel
theorem dX12_linkClasses_117 : decode cX12_linkClasses 117 = .ok (.ifCond .eq 13, 3) := by decide +kernel
theorem dX12_linkClasses_130 : decode cX12_linkClasses 130 = .ok (.aload_n 0, 1) := by decide +kernel
theorem dX12_linkClasses_131 : decode cX12_linkClasses 131 = .ok (.getfield 165, 3) := by decide +kernel
theorem dX12_linkClasses_134 : decode cX12_linkClasses 134 = .ok (.iload_n 1, 1) := by decide +kernel
theorem dX12_linkClasses_135 : decode cX12_linkClasses 135 = .ok (.iload_n 3, 1) := by decide +kernel
theorem dX12_linkClasses_136 : decode cX12_linkClasses 136 = .ok (.iconst (-1), 1) := by decide +kernel
theorem dX12_linkClasses_137 : decode cX12_linkClasses 137 = .ok (.if_icmp .ne 7, 3) := by decide +kernel
theorem dX12_linkClasses_144 : decode cX12_linkClasses 144 = .ok (.iload_n 3, 1) := by decide +kernel
theorem dX12_linkClasses_145 : decode cX12_linkClasses 145 = .ok (.iastore, 1) := by decide +kernel
theorem dX12_linkClasses_146 : decode cX12_linkClasses 146 = .ok (.iconst 0, 1) := by decide +kernel
theorem dX12_linkClasses_147 : decode cX12_linkClasses 147 = .ok (.istore_n 3, 1) := by decide +kernel
theorem dX12_linkClasses_148 : decode cX12_linkClasses 148 = .ok (.iload_n 3, 1) := by decide +kernel
theorem dX12_linkClasses_149 : decode cX12_linkClasses 149 = .ok (.aload_n 0, 1) := by decide +kernel
theorem dX12_linkClasses_150 : decode cX12_linkClasses 150 = .ok (.getfield 42, 3) := by decide +kernel
theorem dX12_linkClasses_153 : decode cX12_linkClasses 153 = .ok (.iload_n 1, 1) := by decide +kernel
theorem dX12_linkClasses_154 : decode cX12_linkClasses 154 = .ok (.iaload, 1) := by decide +kernel
theorem dX12_linkClasses_155 : decode cX12_linkClasses 155 = .ok (.if_icmp .ge 81, 3) := by decide +kernel
theorem dX12_linkClasses_158 : decode cX12_linkClasses 158 = .ok (.aload_n 0, 1) := by decide +kernel
theorem dX12_linkClasses_159 : decode cX12_linkClasses 159 = .ok (.aload_n 0, 1) := by decide +kernel
theorem dX12_linkClasses_160 : decode cX12_linkClasses 160 = .ok (.getfield 45, 3) := by decide +kernel
theorem dX12_linkClasses_163 : decode cX12_linkClasses 163 = .ok (.bipush 6, 2) := by decide +kernel
theorem dX12_linkClasses_165 : decode cX12_linkClasses 165 = .ok (.iload_n 1, 1) := by decide +kernel
theorem dX12_linkClasses_166 : decode cX12_linkClasses 166 = .ok (.imul, 1) := by decide +kernel
theorem dX12_linkClasses_167 : decode cX12_linkClasses 167 = .ok (.iload_n 3, 1) := by decide +kernel
theorem dX12_linkClasses_168 : decode cX12_linkClasses 168 = .ok (.iadd, 1) := by decide +kernel
theorem dX12_linkClasses_169 : decode cX12_linkClasses 169 = .ok (.iaload, 1) := by decide +kernel
theorem dX12_linkClasses_170 : decode cX12_linkClasses 170 = .ok (.aload_n 0, 1) := by decide +kernel
theorem dX12_linkClasses_171 : decode cX12_linkClasses 171 = .ok (.getfield 48, 3) := by decide +kernel
theorem dX12_linkClasses_174 : decode cX12_linkClasses 174 = .ok (.bipush 6, 2) := by decide +kernel
theorem dX12_linkClasses_176 : decode cX12_linkClasses 176 = .ok (.iload_n 1, 1) := by decide +kernel
theorem dX12_linkClasses_177 : decode cX12_linkClasses 177 = .ok (.imul, 1) := by decide +kernel
theorem dX12_linkClasses_178 : decode cX12_linkClasses 178 = .ok (.iload_n 3, 1) := by decide +kernel
theorem dX12_linkClasses_179 : decode cX12_linkClasses 179 = .ok (.iadd, 1) := by decide +kernel
theorem dX12_linkClasses_180 : decode cX12_linkClasses 180 = .ok (.iaload, 1) := by decide +kernel
theorem dX12_linkClasses_181 : decode cX12_linkClasses 181 = .ok (.invokevirtual 761, 3) := by decide +kernel
theorem dX12_linkClasses_184 : decode cX12_linkClasses 184 = .ok (.istore 4, 2) := by decide +kernel
theorem dX12_linkClasses_186 : decode cX12_linkClasses 186 = .ok (.iload 4, 2) := by decide +kernel
theorem dX12_linkClasses_188 : decode cX12_linkClasses 188 = .ok (.iconst (-1), 1) := by decide +kernel
theorem dX12_linkClasses_189 : decode cX12_linkClasses 189 = .ok (.if_icmp .eq 13, 3) := by decide +kernel
theorem dX12_linkClasses_192 : decode cX12_linkClasses 192 = .ok (.aload_n 0, 1) := by decide +kernel
theorem dX12_linkClasses_193 : decode cX12_linkClasses 193 = .ok (.getfield 26, 3) := by decide +kernel
theorem dX12_linkClasses_196 : decode cX12_linkClasses 196 = .ok (.iload 4, 2) := by decide +kernel
theorem dX12_linkClasses_198 : decode cX12_linkClasses 198 = .ok (.baload, 1) := by decide +kernel
theorem dX12_linkClasses_199 : decode cX12_linkClasses 199 = .ok (.ifCond .ne 18, 3) := by decide +kernel
theorem dX12_linkClasses_217 : decode cX12_linkClasses 217 = .ok (.aload_n 0, 1) := by decide +kernel
theorem dX12_linkClasses_218 : decode cX12_linkClasses 218 = .ok (.getfield 168, 3) := by decide +kernel
theorem dX12_linkClasses_221 : decode cX12_linkClasses 221 = .ok (.bipush 6, 2) := by decide +kernel
theorem dX12_linkClasses_223 : decode cX12_linkClasses 223 = .ok (.iload_n 1, 1) := by decide +kernel
theorem dX12_linkClasses_224 : decode cX12_linkClasses 224 = .ok (.imul, 1) := by decide +kernel
theorem dX12_linkClasses_225 : decode cX12_linkClasses 225 = .ok (.iload_n 3, 1) := by decide +kernel
theorem dX12_linkClasses_226 : decode cX12_linkClasses 226 = .ok (.iadd, 1) := by decide +kernel
theorem dX12_linkClasses_227 : decode cX12_linkClasses 227 = .ok (.iload 4, 2) := by decide +kernel
theorem dX12_linkClasses_229 : decode cX12_linkClasses 229 = .ok (.iastore, 1) := by decide +kernel
theorem dX12_linkClasses_230 : decode cX12_linkClasses 230 = .ok (.iinc 3 1, 3) := by decide +kernel
theorem dX12_linkClasses_233 : decode cX12_linkClasses 233 = .ok (.goto (-85), 3) := by decide +kernel
theorem dX12_linkClasses_236 : decode cX12_linkClasses 236 = .ok (.iinc 1 1, 3) := by decide +kernel
theorem dX12_linkClasses_239 : decode cX12_linkClasses 239 = .ok (.goto (-237), 3) := by decide +kernel
theorem dX12_linkClasses_242 : decode cX12_linkClasses 242 = .ok (.aload_n 0, 1) := by decide +kernel
theorem dX12_linkClasses_243 : decode cX12_linkClasses 243 = .ok (.invokevirtual 768, 3) := by decide +kernel
theorem dX12_linkClasses_246 : decode cX12_linkClasses 246 = .ok (.iconst 0, 1) := by decide +kernel
theorem dX12_linkClasses_247 : decode cX12_linkClasses 247 = .ok (.istore_n 1, 1) := by decide +kernel
theorem dX12_linkClasses_248 : decode cX12_linkClasses 248 = .ok (.iload_n 1, 1) := by decide +kernel
theorem dX12_linkClasses_249 : decode cX12_linkClasses 249 = .ok (.aload_n 0, 1) := by decide +kernel
theorem dX12_linkClasses_250 : decode cX12_linkClasses 250 = .ok (.getfield 684, 3) := by decide +kernel
theorem dX12_linkClasses_253 : decode cX12_linkClasses 253 = .ok (.if_icmp .ge 27, 3) := by decide +kernel
theorem dX12_linkClasses_256 : decode cX12_linkClasses 256 = .ok (.aload_n 0, 1) := by decide +kernel
theorem dX12_linkClasses_257 : decode cX12_linkClasses 257 = .ok (.iload_n 1, 1) := by decide +kernel
theorem dX12_linkClasses_258 : decode cX12_linkClasses 258 = .ok (.invokevirtual 771, 3) := by decide +kernel
theorem dX12_linkClasses_261 : decode cX12_linkClasses 261 = .ok (.ifCond .eq 13, 3) := by decide +kernel
theorem dX12_linkClasses_274 : decode cX12_linkClasses 274 = .ok (.iinc 1 1, 3) := by decide +kernel
theorem dX12_linkClasses_277 : decode cX12_linkClasses 277 = .ok (.goto (-29), 3) := by decide +kernel
theorem dX12_linkClasses_280 : decode cX12_linkClasses 280 = .ok (.return_, 1) := by decide +kernel
def rpX12_linkClasses : List Nat := [0, 1, 2, 3, 4, 7, 10, 11, 14, 15, 16, 17, 18, 19, 20, 23, 24, 25, 28, 29, 32, 33, 36, 37, 38, 41, 42, 45, 46, 47, 50, 55, 56, 59, 60, 61, 64, 65, 68, 69, 70, 71, 74, 75, 76, 77, 80, 81, 82, 85, 86, 87, 88, 91, 92, 93, 96, 97, 98, 99, 102, 103, 106, 107, 108, 111, 112, 115, 116, 117, 120, 130, 131, 134, 135, 136, 137, 140, 144, 145, 146, 147, 148, 149, 150, 153, 154, 155, 158, 159, 160, 163, 165, 166, 167, 168, 169, 170, 171, 174, 176, 177, 178, 179, 180, 181, 184, 186, 188, 189, 192, 193, 196, 198, 199, 202, 217, 218, 221, 223, 224, 225, 226, 227, 229, 230, 233, 236, 239, 242, 243, 246, 247, 248, 249, 250, 253, 256, 257, 258, 261, 264, 274, 277, 280]
noncomputable def rcX12_linkClasses : List rz_B := [rz_cst 0, rz_istore 1, rz_iload 1, rz_aload 0, rz_getf (Nat.add (Nat.mul 256 14) 1) 13 rz_i, rz_icmpge 129, rz_aload 0, rz_getf (Nat.add (Nat.mul 256 14) 1) 14 rz_r, rz_iload 1, rz_iald, rz_istore 2, rz_aload 0, rz_iload 2, rz_aload 0, rz_getf (Nat.add (Nat.mul 256 14) 1) 15 rz_r, rz_iload 1, rz_iald, rz_callV 2 (Nat.add (Nat.mul 256 14) 1) rgX12_classNamed, rz_iload 1, rz_icmpne 30, rz_aload 0, rz_getf (Nat.add (Nat.mul 256 14) 1) 16 rz_r, rz_iload 1, rz_zald, rz_ifeq 31, rz_aload 0, rz_getf (Nat.add (Nat.mul 256 14) 1) 17 rz_r, rz_iload 1, rz_zald, rz_ifeq 31, rz_no, rz_aload 0, rz_getf (Nat.add (Nat.mul 256 14) 1) 71 rz_r, rz_iload 1, rz_iload 1, rz_ifne 38, rz_cst 4294967295, rz_goto 39, rz_cst 0, rz_iast, rz_aload 0, rz_getf (Nat.add (Nat.mul 256 14) 1) 19 rz_r, rz_iload 1, rz_iald, rz_cst 4294967295, rz_icmpeq 80, rz_aload 0, rz_aload 0, rz_getf (Nat.add (Nat.mul 256 14) 1) 19 rz_r, rz_iload 1, rz_iald, rz_aload 0, rz_getf (Nat.add (Nat.mul 256 14) 1) 20 rz_r, rz_iload 1, rz_iald, rz_callV 2 (Nat.add (Nat.mul 256 14) 1) rgX12_classNamed, rz_istore 3, rz_iload 3, rz_cst 4294967295, rz_icmpeq 70, rz_aload 0, rz_getf (Nat.add (Nat.mul 256 14) 1) 16 rz_r, rz_iload 3, rz_zald, rz_ifne 70, rz_aload 0, rz_getf (Nat.add (Nat.mul 256 14) 1) 16 rz_r, rz_iload 1, rz_zald, rz_ifeq 71, rz_no, rz_aload 0, rz_getf (Nat.add (Nat.mul 256 14) 1) 71 rz_r, rz_iload 1, rz_iload 3, rz_cst 4294967295, rz_icmpne 78, rz_no, rz_iload 3, rz_iast, rz_cst 0, rz_istore 3, rz_iload 3, rz_aload 0, rz_getf (Nat.add (Nat.mul 256 14) 1) 21 rz_r, rz_iload 1, rz_iald, rz_icmpge 127, rz_aload 0, rz_aload 0, rz_getf (Nat.add (Nat.mul 256 14) 1) 22 rz_r, rz_cst 6, rz_iload 1, rz_imul, rz_iload 3, rz_iadd, rz_iald, rz_aload 0, rz_getf (Nat.add (Nat.mul 256 14) 1) 23 rz_r, rz_cst 6, rz_iload 1, rz_imul, rz_iload 3, rz_iadd, rz_iald, rz_callV 2 (Nat.add (Nat.mul 256 14) 1) rgX12_classNamed, rz_istore 4, rz_iload 4, rz_cst 4294967295, rz_icmpeq 115, rz_aload 0, rz_getf (Nat.add (Nat.mul 256 14) 1) 16 rz_r, rz_iload 4, rz_zald, rz_ifne 116, rz_no, rz_aload 0, rz_getf (Nat.add (Nat.mul 256 14) 1) 72 rz_r, rz_cst 6, rz_iload 1, rz_imul, rz_iload 3, rz_iadd, rz_iload 4, rz_iast, rz_iinc 3 1, rz_goto 82, rz_iinc 1 1, rz_goto 2, rz_aload 0, rz_callVv 0 (Nat.add (Nat.mul 256 14) 1) rgX12_closeBelow, rz_cst 0, rz_istore 1, rz_iload 1, rz_aload 0, rz_getf (Nat.add (Nat.mul 256 14) 1) 13 rz_i, rz_icmpge 144, rz_aload 0, rz_iload 1, rz_callV 1 (Nat.add (Nat.mul 256 14) 1) rgX12_isRound, rz_ifeq 142, rz_no, rz_iinc 1 1, rz_goto 133, rz_vret]
noncomputable def rgX12_linkClasses : rz_L → rz_M → rz_Z → Bool := rz_go rcX12_linkClasses 5 1000000
def rrX12_linkClasses : Room := { frames := 2, cells := 0, slots := 0, locals := 49 }
theorem rmX12_linkClasses (l : Launch) {G : rz_G} (hG : rz_Gd G) (vs : rz_L) (M : rz_M) (Z : rz_Z) (hn : vs.length = 1) (h : rgX12_linkClasses vs M Z = true) : Met l yX12_linkClasses (Cond.code yX12_linkClasses cX12_linkClasses 5 none :: rz_TB) rrX12_linkClasses (rz_Pre G vs M) (rz_Qv G M.2 Z) 0 0 (fun q => rz_b G ≤ q) := by
  obtain ⟨D, tc, ad, b, xs, rfl⟩ := id hG
  refine rz_body (pcs := rpX12_linkClasses) (by decide) rfl (by rw [hn]; decide) h ?_
  intro p e R s m args below meth c hC
  obtain ⟨hx, hb, hml, hr, hlk, ho, hts, hKn, hRm⟩ := id hC
  obtain ⟨hK, hA, hSt⟩ := id hKn
  have hw : ∀ {i j : Nat} {ws : List Cond} {w : Cond}, rz_WW[i]? = some ws → ws[j]? = some w → w.before args s = true := fun h1 h2 => hts _ (List.mem_cons_of_mem _ (rz_mem h1 h2))
  refine rz_All_c (i := 0) (fun k J hk hJ => rz_iconst_ok (pc := 0) hx hb dX12_linkClasses_0 rfl hk) ?_
  refine rz_All_c (i := 1) (fun k J hk hJ => rz_istore_n_ok (pc := 1) hx hb dX12_linkClasses_1 rfl hk) ?_
  refine rz_All_c (i := 2) (fun k J hk hJ => rz_iload_n_ok (pc := 2) hx hb dX12_linkClasses_2 rfl hk) ?_
  refine rz_All_c (i := 3) (fun k J hk hJ => rz_aload_n_ok (pc := 3) hx hb dX12_linkClasses_3 rfl hk) ?_
  refine rz_All_c (i := 4) (fun k J hk hJ => rz_getf_ok (pc := 4) (own := RX12) (ref := "ThreadJudgeModel") (C := RX12) (T := TX12) (N := 257) (ci := 14) (index := 684) (f := 13) (t := 0) (Ts := Cond.code yX12_linkClasses cX12_linkClasses 5 none :: rz_TB) hx hb hts rz_in14 ho hK rfl (by decide) rfl (fun _ => rfl) (hw (i := 32) (j := 17) rfl rfl) (fun _ z => z) dX12_linkClasses_4 hk) ?_
  refine rz_All_c (i := 5) (fun k J hk hJ => rz_icmpge_ok (pc := 7) hx hb dX12_linkClasses_7 rfl hk (hJ 129)) ?_
  refine rz_All_c (i := 6) (fun k J hk hJ => rz_aload_n_ok (pc := 10) hx hb dX12_linkClasses_10 rfl hk) ?_
  refine rz_All_c (i := 7) (fun k J hk hJ => rz_getf_ok (pc := 11) (own := RX12) (ref := "ThreadJudgeModel") (C := RX12) (T := TX12) (N := 257) (ci := 14) (index := 20) (f := 14) (t := 2) (Ts := Cond.code yX12_linkClasses cX12_linkClasses 5 none :: rz_TB) hx hb hts rz_in14 ho hK rfl (by decide) rfl (fun _ => rfl) (hw (i := 36) (j := 10) rfl rfl) (fun _ z => z) dX12_linkClasses_11 hk) ?_
  refine rz_All_c (i := 8) (fun k J hk hJ => rz_iload_n_ok (pc := 14) hx hb dX12_linkClasses_14 rfl hk) ?_
  refine rz_All_c (i := 9) (fun k J hk hJ => rz_iald_ok (pc := 15) hx hb hK dX12_linkClasses_15 hk) ?_
  refine rz_All_c (i := 10) (fun k J hk hJ => rz_istore_n_ok (pc := 16) hx hb dX12_linkClasses_16 rfl hk) ?_
  refine rz_All_c (i := 11) (fun k J hk hJ => rz_aload_n_ok (pc := 17) hx hb dX12_linkClasses_17 rfl hk) ?_
  refine rz_All_c (i := 12) (fun k J hk hJ => rz_iload_n_ok (pc := 18) hx hb dX12_linkClasses_18 rfl hk) ?_
  refine rz_All_c (i := 13) (fun k J hk hJ => rz_aload_n_ok (pc := 19) hx hb dX12_linkClasses_19 rfl hk) ?_
  refine rz_All_c (i := 14) (fun k J hk hJ => rz_getf_ok (pc := 20) (own := RX12) (ref := "ThreadJudgeModel") (C := RX12) (T := TX12) (N := 257) (ci := 14) (index := 23) (f := 15) (t := 2) (Ts := Cond.code yX12_linkClasses cX12_linkClasses 5 none :: rz_TB) hx hb hts rz_in14 ho hK rfl (by decide) rfl (fun _ => rfl) (hw (i := 36) (j := 12) rfl rfl) (fun _ z => z) dX12_linkClasses_20 hk) ?_
  refine rz_All_c (i := 15) (fun k J hk hJ => rz_iload_n_ok (pc := 23) hx hb dX12_linkClasses_23 rfl hk) ?_
  refine rz_All_c (i := 16) (fun k J hk hJ => rz_iald_ok (pc := 24) hx hb hK dX12_linkClasses_24 hk) ?_
  refine rz_All_c (i := 17) (fun k J hk hJ => rz_callV_ok (pc := 25) (own := RX12) (C := RX12) (T0 := TX12) (N0 := 257) hC rfl (rmX12_classNamed l hG) (rz_cwV 2 hC rz_good (rz_mem (i := 42) (j := 22) rfl rfl) (rz_mem (i := 42) (j := 23) rfl rfl) (rz_mem (i := 43) (j := 0) rfl rfl) (rz_mem (i := 32) (j := 8) rfl rfl) (rz_mem (i := 43) (j := 1) rfl rfl) ⟨rfl, by decide, by decide, by decide +kernel⟩ rfl rfl ⟨by decide, by decide⟩) rfl dX12_linkClasses_25 hk) ?_
  refine rz_All_c (i := 18) (fun k J hk hJ => rz_iload_n_ok (pc := 28) hx hb dX12_linkClasses_28 rfl hk) ?_
  refine rz_All_c (i := 19) (fun k J hk hJ => rz_icmpne_ok (pc := 29) hx hb dX12_linkClasses_29 rfl hk (hJ 30)) ?_
  refine rz_All_c (i := 20) (fun k J hk hJ => rz_aload_n_ok (pc := 32) hx hb dX12_linkClasses_32 rfl hk) ?_
  refine rz_All_c (i := 21) (fun k J hk hJ => rz_getf_ok (pc := 33) (own := RX12) (ref := "ThreadJudgeModel") (C := RX12) (T := TX12) (N := 257) (ci := 14) (index := 26) (f := 16) (t := 2) (Ts := Cond.code yX12_linkClasses cX12_linkClasses 5 none :: rz_TB) hx hb hts rz_in14 ho hK rfl (by decide) rfl (fun _ => rfl) (hw (i := 36) (j := 14) rfl rfl) (fun _ z => z) dX12_linkClasses_33 hk) ?_
  refine rz_All_c (i := 22) (fun k J hk hJ => rz_iload_n_ok (pc := 36) hx hb dX12_linkClasses_36 rfl hk) ?_
  refine rz_All_c (i := 23) (fun k J hk hJ => rz_zald_ok (pc := 37) hx hb hK dX12_linkClasses_37 hk) ?_
  refine rz_All_c (i := 24) (fun k J hk hJ => rz_ifeq_ok (pc := 38) hx hb dX12_linkClasses_38 rfl hk (hJ 31)) ?_
  refine rz_All_c (i := 25) (fun k J hk hJ => rz_aload_n_ok (pc := 41) hx hb dX12_linkClasses_41 rfl hk) ?_
  refine rz_All_c (i := 26) (fun k J hk hJ => rz_getf_ok (pc := 42) (own := RX12) (ref := "ThreadJudgeModel") (C := RX12) (T := TX12) (N := 257) (ci := 14) (index := 30) (f := 17) (t := 2) (Ts := Cond.code yX12_linkClasses cX12_linkClasses 5 none :: rz_TB) hx hb hts rz_in14 ho hK rfl (by decide) rfl (fun _ => rfl) (hw (i := 36) (j := 15) rfl rfl) (fun _ z => z) dX12_linkClasses_42 hk) ?_
  refine rz_All_c (i := 27) (fun k J hk hJ => rz_iload_n_ok (pc := 45) hx hb dX12_linkClasses_45 rfl hk) ?_
  refine rz_All_c (i := 28) (fun k J hk hJ => rz_zald_ok (pc := 46) hx hb hK dX12_linkClasses_46 hk) ?_
  refine rz_All_c (i := 29) (fun k J hk hJ => rz_ifeq_ok (pc := 47) hx hb dX12_linkClasses_47 rfl hk (hJ 31)) ?_
  refine rz_All_c (i := 30) (fun k J hk hJ => rz_no_ok) ?_
  refine rz_All_c (i := 31) (fun k J hk hJ => rz_aload_n_ok (pc := 55) hx hb dX12_linkClasses_55 rfl hk) ?_
  refine rz_All_c (i := 32) (fun k J hk hJ => rz_getf_ok (pc := 56) (own := RX12) (ref := "ThreadJudgeModel") (C := RX12) (T := TX12) (N := 257) (ci := 14) (index := 165) (f := 71) (t := 2) (Ts := Cond.code yX12_linkClasses cX12_linkClasses 5 none :: rz_TB) hx hb hts rz_in14 ho hK rfl (by decide) rfl (fun _ => rfl) (hw (i := 42) (j := 16) rfl rfl) (fun _ z => z) dX12_linkClasses_56 hk) ?_
  refine rz_All_c (i := 33) (fun k J hk hJ => rz_iload_n_ok (pc := 59) hx hb dX12_linkClasses_59 rfl hk) ?_
  refine rz_All_c (i := 34) (fun k J hk hJ => rz_iload_n_ok (pc := 60) hx hb dX12_linkClasses_60 rfl hk) ?_
  refine rz_All_c (i := 35) (fun k J hk hJ => rz_ifne_ok (pc := 61) hx hb dX12_linkClasses_61 rfl hk (hJ 38)) ?_
  refine rz_All_c (i := 36) (fun k J hk hJ => rz_iconst_ok (pc := 64) hx hb dX12_linkClasses_64 rfl hk) ?_
  refine rz_All_c (i := 37) (fun k J hk hJ => rz_goto_ok (pc := 65) hx hb dX12_linkClasses_65 rfl (hJ 39)) ?_
  refine rz_All_c (i := 38) (fun k J hk hJ => rz_iconst_ok (pc := 68) hx hb dX12_linkClasses_68 rfl hk) ?_
  refine rz_All_c (i := 39) (fun k J hk hJ => rz_iast_ok (pc := 69) hx hb hK hA dX12_linkClasses_69 hk) ?_
  refine rz_All_c (i := 40) (fun k J hk hJ => rz_aload_n_ok (pc := 70) hx hb dX12_linkClasses_70 rfl hk) ?_
  refine rz_All_c (i := 41) (fun k J hk hJ => rz_getf_ok (pc := 71) (own := RX12) (ref := "ThreadJudgeModel") (C := RX12) (T := TX12) (N := 257) (ci := 14) (index := 36) (f := 19) (t := 2) (Ts := Cond.code yX12_linkClasses cX12_linkClasses 5 none :: rz_TB) hx hb hts rz_in14 ho hK rfl (by decide) rfl (fun _ => rfl) (hw (i := 36) (j := 17) rfl rfl) (fun _ z => z) dX12_linkClasses_71 hk) ?_
  refine rz_All_c (i := 42) (fun k J hk hJ => rz_iload_n_ok (pc := 74) hx hb dX12_linkClasses_74 rfl hk) ?_
  refine rz_All_c (i := 43) (fun k J hk hJ => rz_iald_ok (pc := 75) hx hb hK dX12_linkClasses_75 hk) ?_
  refine rz_All_c (i := 44) (fun k J hk hJ => rz_iconst_ok (pc := 76) hx hb dX12_linkClasses_76 rfl hk) ?_
  refine rz_All_c (i := 45) (fun k J hk hJ => rz_icmpeq_ok (pc := 77) hx hb dX12_linkClasses_77 rfl hk (hJ 80)) ?_
  refine rz_All_c (i := 46) (fun k J hk hJ => rz_aload_n_ok (pc := 80) hx hb dX12_linkClasses_80 rfl hk) ?_
  refine rz_All_c (i := 47) (fun k J hk hJ => rz_aload_n_ok (pc := 81) hx hb dX12_linkClasses_81 rfl hk) ?_
  refine rz_All_c (i := 48) (fun k J hk hJ => rz_getf_ok (pc := 82) (own := RX12) (ref := "ThreadJudgeModel") (C := RX12) (T := TX12) (N := 257) (ci := 14) (index := 36) (f := 19) (t := 2) (Ts := Cond.code yX12_linkClasses cX12_linkClasses 5 none :: rz_TB) hx hb hts rz_in14 ho hK rfl (by decide) rfl (fun _ => rfl) (hw (i := 36) (j := 17) rfl rfl) (fun _ z => z) dX12_linkClasses_82 hk) ?_
  refine rz_All_c (i := 49) (fun k J hk hJ => rz_iload_n_ok (pc := 85) hx hb dX12_linkClasses_85 rfl hk) ?_
  refine rz_All_c (i := 50) (fun k J hk hJ => rz_iald_ok (pc := 86) hx hb hK dX12_linkClasses_86 hk) ?_
  refine rz_All_c (i := 51) (fun k J hk hJ => rz_aload_n_ok (pc := 87) hx hb dX12_linkClasses_87 rfl hk) ?_
  refine rz_All_c (i := 52) (fun k J hk hJ => rz_getf_ok (pc := 88) (own := RX12) (ref := "ThreadJudgeModel") (C := RX12) (T := TX12) (N := 257) (ci := 14) (index := 39) (f := 20) (t := 2) (Ts := Cond.code yX12_linkClasses cX12_linkClasses 5 none :: rz_TB) hx hb hts rz_in14 ho hK rfl (by decide) rfl (fun _ => rfl) (hw (i := 36) (j := 21) rfl rfl) (fun _ z => z) dX12_linkClasses_88 hk) ?_
  refine rz_All_c (i := 53) (fun k J hk hJ => rz_iload_n_ok (pc := 91) hx hb dX12_linkClasses_91 rfl hk) ?_
  refine rz_All_c (i := 54) (fun k J hk hJ => rz_iald_ok (pc := 92) hx hb hK dX12_linkClasses_92 hk) ?_
  refine rz_All_c (i := 55) (fun k J hk hJ => rz_callV_ok (pc := 93) (own := RX12) (C := RX12) (T0 := TX12) (N0 := 257) hC rfl (rmX12_classNamed l hG) (rz_cwV 2 hC rz_good (rz_mem (i := 42) (j := 22) rfl rfl) (rz_mem (i := 42) (j := 23) rfl rfl) (rz_mem (i := 43) (j := 0) rfl rfl) (rz_mem (i := 32) (j := 8) rfl rfl) (rz_mem (i := 43) (j := 1) rfl rfl) ⟨rfl, by decide, by decide, by decide +kernel⟩ rfl rfl ⟨by decide, by decide⟩) rfl dX12_linkClasses_93 hk) ?_
  refine rz_All_c (i := 56) (fun k J hk hJ => rz_istore_n_ok (pc := 96) hx hb dX12_linkClasses_96 rfl hk) ?_
  refine rz_All_c (i := 57) (fun k J hk hJ => rz_iload_n_ok (pc := 97) hx hb dX12_linkClasses_97 rfl hk) ?_
  refine rz_All_c (i := 58) (fun k J hk hJ => rz_iconst_ok (pc := 98) hx hb dX12_linkClasses_98 rfl hk) ?_
  refine rz_All_c (i := 59) (fun k J hk hJ => rz_icmpeq_ok (pc := 99) hx hb dX12_linkClasses_99 rfl hk (hJ 70)) ?_
  refine rz_All_c (i := 60) (fun k J hk hJ => rz_aload_n_ok (pc := 102) hx hb dX12_linkClasses_102 rfl hk) ?_
  refine rz_All_c (i := 61) (fun k J hk hJ => rz_getf_ok (pc := 103) (own := RX12) (ref := "ThreadJudgeModel") (C := RX12) (T := TX12) (N := 257) (ci := 14) (index := 26) (f := 16) (t := 2) (Ts := Cond.code yX12_linkClasses cX12_linkClasses 5 none :: rz_TB) hx hb hts rz_in14 ho hK rfl (by decide) rfl (fun _ => rfl) (hw (i := 36) (j := 14) rfl rfl) (fun _ z => z) dX12_linkClasses_103 hk) ?_
  refine rz_All_c (i := 62) (fun k J hk hJ => rz_iload_n_ok (pc := 106) hx hb dX12_linkClasses_106 rfl hk) ?_
  refine rz_All_c (i := 63) (fun k J hk hJ => rz_zald_ok (pc := 107) hx hb hK dX12_linkClasses_107 hk) ?_
  refine rz_All_c (i := 64) (fun k J hk hJ => rz_ifne_ok (pc := 108) hx hb dX12_linkClasses_108 rfl hk (hJ 70)) ?_
  refine rz_All_c (i := 65) (fun k J hk hJ => rz_aload_n_ok (pc := 111) hx hb dX12_linkClasses_111 rfl hk) ?_
  refine rz_All_c (i := 66) (fun k J hk hJ => rz_getf_ok (pc := 112) (own := RX12) (ref := "ThreadJudgeModel") (C := RX12) (T := TX12) (N := 257) (ci := 14) (index := 26) (f := 16) (t := 2) (Ts := Cond.code yX12_linkClasses cX12_linkClasses 5 none :: rz_TB) hx hb hts rz_in14 ho hK rfl (by decide) rfl (fun _ => rfl) (hw (i := 36) (j := 14) rfl rfl) (fun _ z => z) dX12_linkClasses_112 hk) ?_
  refine rz_All_c (i := 67) (fun k J hk hJ => rz_iload_n_ok (pc := 115) hx hb dX12_linkClasses_115 rfl hk) ?_
  refine rz_All_c (i := 68) (fun k J hk hJ => rz_zald_ok (pc := 116) hx hb hK dX12_linkClasses_116 hk) ?_
  refine rz_All_c (i := 69) (fun k J hk hJ => rz_ifeq_ok (pc := 117) hx hb dX12_linkClasses_117 rfl hk (hJ 71)) ?_
  refine rz_All_c (i := 70) (fun k J hk hJ => rz_no_ok) ?_
  refine rz_All_c (i := 71) (fun k J hk hJ => rz_aload_n_ok (pc := 130) hx hb dX12_linkClasses_130 rfl hk) ?_
  refine rz_All_c (i := 72) (fun k J hk hJ => rz_getf_ok (pc := 131) (own := RX12) (ref := "ThreadJudgeModel") (C := RX12) (T := TX12) (N := 257) (ci := 14) (index := 165) (f := 71) (t := 2) (Ts := Cond.code yX12_linkClasses cX12_linkClasses 5 none :: rz_TB) hx hb hts rz_in14 ho hK rfl (by decide) rfl (fun _ => rfl) (hw (i := 42) (j := 16) rfl rfl) (fun _ z => z) dX12_linkClasses_131 hk) ?_
  refine rz_All_c (i := 73) (fun k J hk hJ => rz_iload_n_ok (pc := 134) hx hb dX12_linkClasses_134 rfl hk) ?_
  refine rz_All_c (i := 74) (fun k J hk hJ => rz_iload_n_ok (pc := 135) hx hb dX12_linkClasses_135 rfl hk) ?_
  refine rz_All_c (i := 75) (fun k J hk hJ => rz_iconst_ok (pc := 136) hx hb dX12_linkClasses_136 rfl hk) ?_
  refine rz_All_c (i := 76) (fun k J hk hJ => rz_icmpne_ok (pc := 137) hx hb dX12_linkClasses_137 rfl hk (hJ 78)) ?_
  refine rz_All_c (i := 77) (fun k J hk hJ => rz_no_ok) ?_
  refine rz_All_c (i := 78) (fun k J hk hJ => rz_iload_n_ok (pc := 144) hx hb dX12_linkClasses_144 rfl hk) ?_
  refine rz_All_c (i := 79) (fun k J hk hJ => rz_iast_ok (pc := 145) hx hb hK hA dX12_linkClasses_145 hk) ?_
  refine rz_All_c (i := 80) (fun k J hk hJ => rz_iconst_ok (pc := 146) hx hb dX12_linkClasses_146 rfl hk) ?_
  refine rz_All_c (i := 81) (fun k J hk hJ => rz_istore_n_ok (pc := 147) hx hb dX12_linkClasses_147 rfl hk) ?_
  refine rz_All_c (i := 82) (fun k J hk hJ => rz_iload_n_ok (pc := 148) hx hb dX12_linkClasses_148 rfl hk) ?_
  refine rz_All_c (i := 83) (fun k J hk hJ => rz_aload_n_ok (pc := 149) hx hb dX12_linkClasses_149 rfl hk) ?_
  refine rz_All_c (i := 84) (fun k J hk hJ => rz_getf_ok (pc := 150) (own := RX12) (ref := "ThreadJudgeModel") (C := RX12) (T := TX12) (N := 257) (ci := 14) (index := 42) (f := 21) (t := 2) (Ts := Cond.code yX12_linkClasses cX12_linkClasses 5 none :: rz_TB) hx hb hts rz_in14 ho hK rfl (by decide) rfl (fun _ => rfl) (hw (i := 36) (j := 18) rfl rfl) (fun _ z => z) dX12_linkClasses_150 hk) ?_
  refine rz_All_c (i := 85) (fun k J hk hJ => rz_iload_n_ok (pc := 153) hx hb dX12_linkClasses_153 rfl hk) ?_
  refine rz_All_c (i := 86) (fun k J hk hJ => rz_iald_ok (pc := 154) hx hb hK dX12_linkClasses_154 hk) ?_
  refine rz_All_c (i := 87) (fun k J hk hJ => rz_icmpge_ok (pc := 155) hx hb dX12_linkClasses_155 rfl hk (hJ 127)) ?_
  refine rz_All_c (i := 88) (fun k J hk hJ => rz_aload_n_ok (pc := 158) hx hb dX12_linkClasses_158 rfl hk) ?_
  refine rz_All_c (i := 89) (fun k J hk hJ => rz_aload_n_ok (pc := 159) hx hb dX12_linkClasses_159 rfl hk) ?_
  refine rz_All_c (i := 90) (fun k J hk hJ => rz_getf_ok (pc := 160) (own := RX12) (ref := "ThreadJudgeModel") (C := RX12) (T := TX12) (N := 257) (ci := 14) (index := 45) (f := 22) (t := 2) (Ts := Cond.code yX12_linkClasses cX12_linkClasses 5 none :: rz_TB) hx hb hts rz_in14 ho hK rfl (by decide) rfl (fun _ => rfl) (hw (i := 36) (j := 22) rfl rfl) (fun _ z => z) dX12_linkClasses_160 hk) ?_
  refine rz_All_c (i := 91) (fun k J hk hJ => rz_bipush_ok (pc := 163) hx hb dX12_linkClasses_163 (by decide) hk) ?_
  refine rz_All_c (i := 92) (fun k J hk hJ => rz_iload_n_ok (pc := 165) hx hb dX12_linkClasses_165 rfl hk) ?_
  refine rz_All_c (i := 93) (fun k J hk hJ => rz_imul_ok (pc := 166) hx hb dX12_linkClasses_166 hk) ?_
  refine rz_All_c (i := 94) (fun k J hk hJ => rz_iload_n_ok (pc := 167) hx hb dX12_linkClasses_167 rfl hk) ?_
  refine rz_All_c (i := 95) (fun k J hk hJ => rz_iadd_ok (pc := 168) hx hb dX12_linkClasses_168 hk) ?_
  refine rz_All_c (i := 96) (fun k J hk hJ => rz_iald_ok (pc := 169) hx hb hK dX12_linkClasses_169 hk) ?_
  refine rz_All_c (i := 97) (fun k J hk hJ => rz_aload_n_ok (pc := 170) hx hb dX12_linkClasses_170 rfl hk) ?_
  refine rz_All_c (i := 98) (fun k J hk hJ => rz_getf_ok (pc := 171) (own := RX12) (ref := "ThreadJudgeModel") (C := RX12) (T := TX12) (N := 257) (ci := 14) (index := 48) (f := 23) (t := 2) (Ts := Cond.code yX12_linkClasses cX12_linkClasses 5 none :: rz_TB) hx hb hts rz_in14 ho hK rfl (by decide) rfl (fun _ => rfl) (hw (i := 36) (j := 23) rfl rfl) (fun _ z => z) dX12_linkClasses_171 hk) ?_
  refine rz_All_c (i := 99) (fun k J hk hJ => rz_bipush_ok (pc := 174) hx hb dX12_linkClasses_174 (by decide) hk) ?_
  refine rz_All_c (i := 100) (fun k J hk hJ => rz_iload_n_ok (pc := 176) hx hb dX12_linkClasses_176 rfl hk) ?_
  refine rz_All_c (i := 101) (fun k J hk hJ => rz_imul_ok (pc := 177) hx hb dX12_linkClasses_177 hk) ?_
  refine rz_All_c (i := 102) (fun k J hk hJ => rz_iload_n_ok (pc := 178) hx hb dX12_linkClasses_178 rfl hk) ?_
  refine rz_All_c (i := 103) (fun k J hk hJ => rz_iadd_ok (pc := 179) hx hb dX12_linkClasses_179 hk) ?_
  refine rz_All_c (i := 104) (fun k J hk hJ => rz_iald_ok (pc := 180) hx hb hK dX12_linkClasses_180 hk) ?_
  refine rz_All_c (i := 105) (fun k J hk hJ => rz_callV_ok (pc := 181) (own := RX12) (C := RX12) (T0 := TX12) (N0 := 257) hC rfl (rmX12_classNamed l hG) (rz_cwV 2 hC rz_good (rz_mem (i := 42) (j := 22) rfl rfl) (rz_mem (i := 42) (j := 23) rfl rfl) (rz_mem (i := 43) (j := 0) rfl rfl) (rz_mem (i := 32) (j := 8) rfl rfl) (rz_mem (i := 43) (j := 1) rfl rfl) ⟨rfl, by decide, by decide, by decide +kernel⟩ rfl rfl ⟨by decide, by decide⟩) rfl dX12_linkClasses_181 hk) ?_
  refine rz_All_c (i := 106) (fun k J hk hJ => rz_istore_ok (pc := 184) hx hb dX12_linkClasses_184 hk) ?_
  refine rz_All_c (i := 107) (fun k J hk hJ => rz_iload_ok (pc := 186) hx hb dX12_linkClasses_186 hk) ?_
  refine rz_All_c (i := 108) (fun k J hk hJ => rz_iconst_ok (pc := 188) hx hb dX12_linkClasses_188 rfl hk) ?_
  refine rz_All_c (i := 109) (fun k J hk hJ => rz_icmpeq_ok (pc := 189) hx hb dX12_linkClasses_189 rfl hk (hJ 115)) ?_
  refine rz_All_c (i := 110) (fun k J hk hJ => rz_aload_n_ok (pc := 192) hx hb dX12_linkClasses_192 rfl hk) ?_
  refine rz_All_c (i := 111) (fun k J hk hJ => rz_getf_ok (pc := 193) (own := RX12) (ref := "ThreadJudgeModel") (C := RX12) (T := TX12) (N := 257) (ci := 14) (index := 26) (f := 16) (t := 2) (Ts := Cond.code yX12_linkClasses cX12_linkClasses 5 none :: rz_TB) hx hb hts rz_in14 ho hK rfl (by decide) rfl (fun _ => rfl) (hw (i := 36) (j := 14) rfl rfl) (fun _ z => z) dX12_linkClasses_193 hk) ?_
  refine rz_All_c (i := 112) (fun k J hk hJ => rz_iload_ok (pc := 196) hx hb dX12_linkClasses_196 hk) ?_
  refine rz_All_c (i := 113) (fun k J hk hJ => rz_zald_ok (pc := 198) hx hb hK dX12_linkClasses_198 hk) ?_
  refine rz_All_c (i := 114) (fun k J hk hJ => rz_ifne_ok (pc := 199) hx hb dX12_linkClasses_199 rfl hk (hJ 116)) ?_
  refine rz_All_c (i := 115) (fun k J hk hJ => rz_no_ok) ?_
  refine rz_All_c (i := 116) (fun k J hk hJ => rz_aload_n_ok (pc := 217) hx hb dX12_linkClasses_217 rfl hk) ?_
  refine rz_All_c (i := 117) (fun k J hk hJ => rz_getf_ok (pc := 218) (own := RX12) (ref := "ThreadJudgeModel") (C := RX12) (T := TX12) (N := 257) (ci := 14) (index := 168) (f := 72) (t := 2) (Ts := Cond.code yX12_linkClasses cX12_linkClasses 5 none :: rz_TB) hx hb hts rz_in14 ho hK rfl (by decide) rfl (fun _ => rfl) (hw (i := 42) (j := 21) rfl rfl) (fun _ z => z) dX12_linkClasses_218 hk) ?_
  refine rz_All_c (i := 118) (fun k J hk hJ => rz_bipush_ok (pc := 221) hx hb dX12_linkClasses_221 (by decide) hk) ?_
  refine rz_All_c (i := 119) (fun k J hk hJ => rz_iload_n_ok (pc := 223) hx hb dX12_linkClasses_223 rfl hk) ?_
  refine rz_All_c (i := 120) (fun k J hk hJ => rz_imul_ok (pc := 224) hx hb dX12_linkClasses_224 hk) ?_
  refine rz_All_c (i := 121) (fun k J hk hJ => rz_iload_n_ok (pc := 225) hx hb dX12_linkClasses_225 rfl hk) ?_
  refine rz_All_c (i := 122) (fun k J hk hJ => rz_iadd_ok (pc := 226) hx hb dX12_linkClasses_226 hk) ?_
  refine rz_All_c (i := 123) (fun k J hk hJ => rz_iload_ok (pc := 227) hx hb dX12_linkClasses_227 hk) ?_
  refine rz_All_c (i := 124) (fun k J hk hJ => rz_iast_ok (pc := 229) hx hb hK hA dX12_linkClasses_229 hk) ?_
  refine rz_All_c (i := 125) (fun k J hk hJ => rz_iinc_ok (pc := 230) hx hb dX12_linkClasses_230 (by decide) hk) ?_
  refine rz_All_c (i := 126) (fun k J hk hJ => rz_goto_ok (pc := 233) hx hb dX12_linkClasses_233 rfl (hJ 82)) ?_
  refine rz_All_c (i := 127) (fun k J hk hJ => rz_iinc_ok (pc := 236) hx hb dX12_linkClasses_236 (by decide) hk) ?_
  refine rz_All_c (i := 128) (fun k J hk hJ => rz_goto_ok (pc := 239) hx hb dX12_linkClasses_239 rfl (hJ 2)) ?_
  refine rz_All_c (i := 129) (fun k J hk hJ => rz_aload_n_ok (pc := 242) hx hb dX12_linkClasses_242 rfl hk) ?_
  refine rz_All_c (i := 130) (fun k J hk hJ => rz_callVv_ok (pc := 243) (own := RX12) (C := RX12) (T0 := TX12) (N0 := 257) hC rfl (rmX12_closeBelow l hG) (rz_cwV 0 hC rz_good (rz_mem (i := 43) (j := 6) rfl rfl) (rz_mem (i := 43) (j := 7) rfl rfl) (rz_mem (i := 43) (j := 8) rfl rfl) (rz_mem (i := 32) (j := 8) rfl rfl) (rz_mem (i := 43) (j := 9) rfl rfl) ⟨rfl, by decide, by decide, by decide +kernel⟩ rfl rfl ⟨by decide, by decide⟩) rfl dX12_linkClasses_243 hk) ?_
  refine rz_All_c (i := 131) (fun k J hk hJ => rz_iconst_ok (pc := 246) hx hb dX12_linkClasses_246 rfl hk) ?_
  refine rz_All_c (i := 132) (fun k J hk hJ => rz_istore_n_ok (pc := 247) hx hb dX12_linkClasses_247 rfl hk) ?_
  refine rz_All_c (i := 133) (fun k J hk hJ => rz_iload_n_ok (pc := 248) hx hb dX12_linkClasses_248 rfl hk) ?_
  refine rz_All_c (i := 134) (fun k J hk hJ => rz_aload_n_ok (pc := 249) hx hb dX12_linkClasses_249 rfl hk) ?_
  refine rz_All_c (i := 135) (fun k J hk hJ => rz_getf_ok (pc := 250) (own := RX12) (ref := "ThreadJudgeModel") (C := RX12) (T := TX12) (N := 257) (ci := 14) (index := 684) (f := 13) (t := 0) (Ts := Cond.code yX12_linkClasses cX12_linkClasses 5 none :: rz_TB) hx hb hts rz_in14 ho hK rfl (by decide) rfl (fun _ => rfl) (hw (i := 32) (j := 17) rfl rfl) (fun _ z => z) dX12_linkClasses_250 hk) ?_
  refine rz_All_c (i := 136) (fun k J hk hJ => rz_icmpge_ok (pc := 253) hx hb dX12_linkClasses_253 rfl hk (hJ 144)) ?_
  refine rz_All_c (i := 137) (fun k J hk hJ => rz_aload_n_ok (pc := 256) hx hb dX12_linkClasses_256 rfl hk) ?_
  refine rz_All_c (i := 138) (fun k J hk hJ => rz_iload_n_ok (pc := 257) hx hb dX12_linkClasses_257 rfl hk) ?_
  refine rz_All_c (i := 139) (fun k J hk hJ => rz_callV_ok (pc := 258) (own := RX12) (C := RX12) (T0 := TX12) (N0 := 257) hC rfl (rmX12_isRound l hG) (rz_cwV 1 hC rz_good (rz_mem (i := 43) (j := 11) rfl rfl) (rz_mem (i := 43) (j := 12) rfl rfl) (rz_mem (i := 43) (j := 13) rfl rfl) (rz_mem (i := 32) (j := 8) rfl rfl) (rz_mem (i := 43) (j := 14) rfl rfl) ⟨rfl, by decide, by decide, by decide +kernel⟩ rfl rfl ⟨by decide, by decide⟩) rfl dX12_linkClasses_258 hk) ?_
  refine rz_All_c (i := 140) (fun k J hk hJ => rz_ifeq_ok (pc := 261) hx hb dX12_linkClasses_261 rfl hk (hJ 142)) ?_
  refine rz_All_c (i := 141) (fun k J hk hJ => rz_no_ok) ?_
  refine rz_All_c (i := 142) (fun k J hk hJ => rz_iinc_ok (pc := 274) hx hb dX12_linkClasses_274 (by decide) hk) ?_
  refine rz_All_c (i := 143) (fun k J hk hJ => rz_goto_ok (pc := 277) hx hb dX12_linkClasses_277 rfl (hJ 133)) ?_
  refine rz_All_c (i := 144) (fun k J hk hJ => rz_vret_ok (pc := 280) hC dX12_linkClasses_280) ?_
  exact trivial
theorem dX12_has_0 : decode cX12_has 0 = .ok (.aload_n 0, 1) := by decide +kernel
theorem dX12_has_1 : decode cX12_has 1 = .ok (.getfield 75, 3) := by decide +kernel
theorem dX12_has_4 : decode cX12_has 4 = .ok (.iload_n 1, 1) := by decide +kernel
theorem dX12_has_5 : decode cX12_has 5 = .ok (.iaload, 1) := by decide +kernel
theorem dX12_has_6 : decode cX12_has 6 = .ok (.iload_n 2, 1) := by decide +kernel
theorem dX12_has_7 : decode cX12_has 7 = .ok (.iand, 1) := by decide +kernel
theorem dX12_has_8 : decode cX12_has 8 = .ok (.ifCond .eq 7, 3) := by decide +kernel
theorem dX12_has_15 : decode cX12_has 15 = .ok (.iconst 0, 1) := by decide +kernel
theorem dX12_has_16 : decode cX12_has 16 = .ok (.ireturn, 1) := by decide +kernel
def rpX12_has : List Nat := [0, 1, 4, 5, 6, 7, 8, 11, 15, 16]
noncomputable def rcX12_has : List rz_B := [rz_aload 0, rz_getf (Nat.add (Nat.mul 256 14) 1) 34 rz_r, rz_iload 1, rz_iald, rz_iload 2, rz_iand, rz_ifeq 8, rz_no, rz_cst 0, rz_zret]
noncomputable def rgX12_has : rz_L → rz_M → rz_Z → Bool := rz_go rcX12_has 3 1000000
def rrX12_has : Room := { frames := 0, cells := 0, slots := 0, locals := 0 }
theorem rmX12_has (l : Launch) {G : rz_G} (hG : rz_Gd G) (vs : rz_L) (M : rz_M) (Z : rz_Z) (hn : vs.length = 3) (h : rgX12_has vs M Z = true) : Met l yX12_has (Cond.code yX12_has cX12_has 3 (some .boolean) :: rz_TB) rrX12_has (rz_Pre G vs M) (rz_Qi G M.2 Z) 0 0 (fun q => rz_b G ≤ q) := by
  obtain ⟨D, tc, ad, b, xs, rfl⟩ := id hG
  refine rz_body (pcs := rpX12_has) (by decide) rfl (by rw [hn]; decide) h ?_
  intro p e R s m args below meth c hC
  obtain ⟨hx, hb, hml, hr, hlk, ho, hts, hKn, hRm⟩ := id hC
  obtain ⟨hK, hA, hSt⟩ := id hKn
  have hw : ∀ {i j : Nat} {ws : List Cond} {w : Cond}, rz_WW[i]? = some ws → ws[j]? = some w → w.before args s = true := fun h1 h2 => hts _ (List.mem_cons_of_mem _ (rz_mem h1 h2))
  refine rz_All_c (i := 0) (fun k J hk hJ => rz_aload_n_ok (pc := 0) hx hb dX12_has_0 rfl hk) ?_
  refine rz_All_c (i := 1) (fun k J hk hJ => rz_getf_ok (pc := 1) (own := RX12) (ref := "ThreadJudgeModel") (C := RX12) (T := TX12) (N := 257) (ci := 14) (index := 75) (f := 34) (t := 2) (Ts := Cond.code yX12_has cX12_has 3 (some .boolean) :: rz_TB) hx hb hts rz_in14 ho hK rfl (by decide) rfl (fun _ => rfl) (hw (i := 39) (j := 17) rfl rfl) (fun _ z => z) dX12_has_1 hk) ?_
  refine rz_All_c (i := 2) (fun k J hk hJ => rz_iload_n_ok (pc := 4) hx hb dX12_has_4 rfl hk) ?_
  refine rz_All_c (i := 3) (fun k J hk hJ => rz_iald_ok (pc := 5) hx hb hK dX12_has_5 hk) ?_
  refine rz_All_c (i := 4) (fun k J hk hJ => rz_iload_n_ok (pc := 6) hx hb dX12_has_6 rfl hk) ?_
  refine rz_All_c (i := 5) (fun k J hk hJ => rz_iand_ok (pc := 7) hx hb dX12_has_7 hk) ?_
  refine rz_All_c (i := 6) (fun k J hk hJ => rz_ifeq_ok (pc := 8) hx hb dX12_has_8 rfl hk (hJ 8)) ?_
  refine rz_All_c (i := 7) (fun k J hk hJ => rz_no_ok) ?_
  refine rz_All_c (i := 8) (fun k J hk hJ => rz_iconst_ok (pc := 15) hx hb dX12_has_15 rfl hk) ?_
  refine rz_All_c (i := 9) (fun k J hk hJ => rz_zret_ok (pc := 16) hC dX12_has_16) ?_
  exact trivial
theorem dX12_isStatic_0 : decode cX12_isStatic 0 = .ok (.aload_n 0, 1) := by decide +kernel
theorem dX12_isStatic_1 : decode cX12_isStatic 1 = .ok (.iload_n 1, 1) := by decide +kernel
theorem dX12_isStatic_2 : decode cX12_isStatic 2 = .ok (.iconst 1, 1) := by decide +kernel
theorem dX12_isStatic_3 : decode cX12_isStatic 3 = .ok (.invokevirtual 781, 3) := by decide +kernel
theorem dX12_isStatic_6 : decode cX12_isStatic 6 = .ok (.ireturn, 1) := by decide +kernel
def rpX12_isStatic : List Nat := [0, 1, 2, 3, 6]
noncomputable def rcX12_isStatic : List rz_B := [rz_aload 0, rz_iload 1, rz_cst 1, rz_callV 2 (Nat.add (Nat.mul 256 14) 1) rgX12_has, rz_zret]
noncomputable def rgX12_isStatic : rz_L → rz_M → rz_Z → Bool := rz_go rcX12_isStatic 2 1000000
def rrX12_isStatic : Room := { frames := 1, cells := 0, slots := 0, locals := 22 }
theorem rmX12_isStatic (l : Launch) {G : rz_G} (hG : rz_Gd G) (vs : rz_L) (M : rz_M) (Z : rz_Z) (hn : vs.length = 2) (h : rgX12_isStatic vs M Z = true) : Met l yX12_isStatic (Cond.code yX12_isStatic cX12_isStatic 2 (some .boolean) :: rz_TB) rrX12_isStatic (rz_Pre G vs M) (rz_Qi G M.2 Z) 0 0 (fun q => rz_b G ≤ q) := by
  obtain ⟨D, tc, ad, b, xs, rfl⟩ := id hG
  refine rz_body (pcs := rpX12_isStatic) (by decide) rfl (by rw [hn]; decide) h ?_
  intro p e R s m args below meth c hC
  obtain ⟨hx, hb, hml, hr, hlk, ho, hts, hKn, hRm⟩ := id hC
  obtain ⟨hK, hA, hSt⟩ := id hKn
  have hw : ∀ {i j : Nat} {ws : List Cond} {w : Cond}, rz_WW[i]? = some ws → ws[j]? = some w → w.before args s = true := fun h1 h2 => hts _ (List.mem_cons_of_mem _ (rz_mem h1 h2))
  refine rz_All_c (i := 0) (fun k J hk hJ => rz_aload_n_ok (pc := 0) hx hb dX12_isStatic_0 rfl hk) ?_
  refine rz_All_c (i := 1) (fun k J hk hJ => rz_iload_n_ok (pc := 1) hx hb dX12_isStatic_1 rfl hk) ?_
  refine rz_All_c (i := 2) (fun k J hk hJ => rz_iconst_ok (pc := 2) hx hb dX12_isStatic_2 rfl hk) ?_
  refine rz_All_c (i := 3) (fun k J hk hJ => rz_callV_ok (pc := 3) (own := RX12) (C := RX12) (T0 := TX12) (N0 := 257) hC rfl (rmX12_has l hG) (rz_cwV 2 hC rz_good (rz_mem (i := 45) (j := 4) rfl rfl) (rz_mem (i := 45) (j := 5) rfl rfl) (rz_mem (i := 45) (j := 6) rfl rfl) (rz_mem (i := 32) (j := 8) rfl rfl) (rz_mem (i := 45) (j := 7) rfl rfl) ⟨rfl, by decide, by decide, by decide +kernel⟩ rfl rfl ⟨by decide, by decide⟩) rfl dX12_isStatic_3 hk) ?_
  refine rz_All_c (i := 4) (fun k J hk hJ => rz_zret_ok (pc := 6) hC dX12_isStatic_6) ?_
  exact trivial
theorem dX12_wordOf_0 : decode cX12_wordOf 0 = .ok (.iconst 0, 1) := by decide +kernel
theorem dX12_wordOf_1 : decode cX12_wordOf 1 = .ok (.istore 4, 2) := by decide +kernel
theorem dX12_wordOf_3 : decode cX12_wordOf 3 = .ok (.iconst 0, 1) := by decide +kernel
theorem dX12_wordOf_4 : decode cX12_wordOf 4 = .ok (.istore 5, 2) := by decide +kernel
theorem dX12_wordOf_6 : decode cX12_wordOf 6 = .ok (.iload 5, 2) := by decide +kernel
theorem dX12_wordOf_8 : decode cX12_wordOf 8 = .ok (.aload_n 1, 1) := by decide +kernel
theorem dX12_wordOf_9 : decode cX12_wordOf 9 = .ok (.invokevirtual 626, 3) := by decide +kernel
theorem dX12_wordOf_12 : decode cX12_wordOf 12 = .ok (.if_icmp .ge 110, 3) := by decide +kernel
theorem dX12_wordOf_15 : decode cX12_wordOf 15 = .ok (.iconst 0, 1) := by decide +kernel
theorem dX12_wordOf_16 : decode cX12_wordOf 16 = .ok (.istore 6, 2) := by decide +kernel
theorem dX12_wordOf_18 : decode cX12_wordOf 18 = .ok (.aload_n 1, 1) := by decide +kernel
theorem dX12_wordOf_19 : decode cX12_wordOf 19 = .ok (.iload 5, 2) := by decide +kernel
theorem dX12_wordOf_21 : decode cX12_wordOf 21 = .ok (.iload 6, 2) := by decide +kernel
theorem dX12_wordOf_23 : decode cX12_wordOf 23 = .ok (.iadd, 1) := by decide +kernel
theorem dX12_wordOf_24 : decode cX12_wordOf 24 = .ok (.invokevirtual 631, 3) := by decide +kernel
theorem dX12_wordOf_27 : decode cX12_wordOf 27 = .ok (.bipush 32, 2) := by decide +kernel
theorem dX12_wordOf_29 : decode cX12_wordOf 29 = .ok (.if_icmp .eq 9, 3) := by decide +kernel
theorem dX12_wordOf_32 : decode cX12_wordOf 32 = .ok (.iinc 6 1, 3) := by decide +kernel
theorem dX12_wordOf_35 : decode cX12_wordOf 35 = .ok (.goto (-17), 3) := by decide +kernel
theorem dX12_wordOf_38 : decode cX12_wordOf 38 = .ok (.iload 6, 2) := by decide +kernel
theorem dX12_wordOf_40 : decode cX12_wordOf 40 = .ok (.iload_n 3, 1) := by decide +kernel
theorem dX12_wordOf_41 : decode cX12_wordOf 41 = .ok (.if_icmp .ne 7, 3) := by decide +kernel
theorem dX12_wordOf_44 : decode cX12_wordOf 44 = .ok (.iconst 1, 1) := by decide +kernel
theorem dX12_wordOf_45 : decode cX12_wordOf 45 = .ok (.goto 4, 3) := by decide +kernel
theorem dX12_wordOf_48 : decode cX12_wordOf 48 = .ok (.iconst 0, 1) := by decide +kernel
theorem dX12_wordOf_49 : decode cX12_wordOf 49 = .ok (.istore 7, 2) := by decide +kernel
theorem dX12_wordOf_51 : decode cX12_wordOf 51 = .ok (.iconst 0, 1) := by decide +kernel
theorem dX12_wordOf_52 : decode cX12_wordOf 52 = .ok (.istore 8, 2) := by decide +kernel
theorem dX12_wordOf_54 : decode cX12_wordOf 54 = .ok (.iload 8, 2) := by decide +kernel
theorem dX12_wordOf_56 : decode cX12_wordOf 56 = .ok (.iload_n 3, 1) := by decide +kernel
theorem dX12_wordOf_57 : decode cX12_wordOf 57 = .ok (.if_icmp .ge 42, 3) := by decide +kernel
theorem dX12_wordOf_60 : decode cX12_wordOf 60 = .ok (.iload 7, 2) := by decide +kernel
theorem dX12_wordOf_62 : decode cX12_wordOf 62 = .ok (.ifCond .eq 37, 3) := by decide +kernel
theorem dX12_wordOf_65 : decode cX12_wordOf 65 = .ok (.aload_n 1, 1) := by decide +kernel
theorem dX12_wordOf_66 : decode cX12_wordOf 66 = .ok (.iload 5, 2) := by decide +kernel
theorem dX12_wordOf_68 : decode cX12_wordOf 68 = .ok (.iload 8, 2) := by decide +kernel
theorem dX12_wordOf_70 : decode cX12_wordOf 70 = .ok (.iadd, 1) := by decide +kernel
theorem dX12_wordOf_71 : decode cX12_wordOf 71 = .ok (.invokevirtual 631, 3) := by decide +kernel
theorem dX12_wordOf_74 : decode cX12_wordOf 74 = .ok (.aload_n 0, 1) := by decide +kernel
theorem dX12_wordOf_75 : decode cX12_wordOf 75 = .ok (.getfield 13, 3) := by decide +kernel
theorem dX12_wordOf_78 : decode cX12_wordOf 78 = .ok (.iload_n 2, 1) := by decide +kernel
theorem dX12_wordOf_79 : decode cX12_wordOf 79 = .ok (.iload 8, 2) := by decide +kernel
theorem dX12_wordOf_81 : decode cX12_wordOf 81 = .ok (.iadd, 1) := by decide +kernel
theorem dX12_wordOf_82 : decode cX12_wordOf 82 = .ok (.iaload, 1) := by decide +kernel
theorem dX12_wordOf_83 : decode cX12_wordOf 83 = .ok (.if_icmp .ne 7, 3) := by decide +kernel
theorem dX12_wordOf_86 : decode cX12_wordOf 86 = .ok (.iconst 1, 1) := by decide +kernel
theorem dX12_wordOf_87 : decode cX12_wordOf 87 = .ok (.goto 4, 3) := by decide +kernel
theorem dX12_wordOf_90 : decode cX12_wordOf 90 = .ok (.iconst 0, 1) := by decide +kernel
theorem dX12_wordOf_91 : decode cX12_wordOf 91 = .ok (.istore 7, 2) := by decide +kernel
theorem dX12_wordOf_93 : decode cX12_wordOf 93 = .ok (.iinc 8 1, 3) := by decide +kernel
theorem dX12_wordOf_96 : decode cX12_wordOf 96 = .ok (.goto (-42), 3) := by decide +kernel
theorem dX12_wordOf_99 : decode cX12_wordOf 99 = .ok (.iload 7, 2) := by decide +kernel
theorem dX12_wordOf_101 : decode cX12_wordOf 101 = .ok (.ifCond .eq 6, 3) := by decide +kernel
theorem dX12_wordOf_104 : decode cX12_wordOf 104 = .ok (.iload 4, 2) := by decide +kernel
theorem dX12_wordOf_106 : decode cX12_wordOf 106 = .ok (.ireturn, 1) := by decide +kernel
theorem dX12_wordOf_107 : decode cX12_wordOf 107 = .ok (.iload 5, 2) := by decide +kernel
theorem dX12_wordOf_109 : decode cX12_wordOf 109 = .ok (.iload 6, 2) := by decide +kernel
theorem dX12_wordOf_111 : decode cX12_wordOf 111 = .ok (.iconst 1, 1) := by decide +kernel
theorem dX12_wordOf_112 : decode cX12_wordOf 112 = .ok (.iadd, 1) := by decide +kernel
theorem dX12_wordOf_113 : decode cX12_wordOf 113 = .ok (.iadd, 1) := by decide +kernel
theorem dX12_wordOf_114 : decode cX12_wordOf 114 = .ok (.istore 5, 2) := by decide +kernel
theorem dX12_wordOf_116 : decode cX12_wordOf 116 = .ok (.iinc 4 1, 3) := by decide +kernel
theorem dX12_wordOf_119 : decode cX12_wordOf 119 = .ok (.goto (-113), 3) := by decide +kernel
theorem dX12_wordOf_122 : decode cX12_wordOf 122 = .ok (.iconst (-1), 1) := by decide +kernel
theorem dX12_wordOf_123 : decode cX12_wordOf 123 = .ok (.ireturn, 1) := by decide +kernel
def rpX12_wordOf : List Nat := [0, 1, 3, 4, 6, 8, 9, 12, 15, 16, 18, 19, 21, 23, 24, 27, 29, 32, 35, 38, 40, 41, 44, 45, 48, 49, 51, 52, 54, 56, 57, 60, 62, 65, 66, 68, 70, 71, 74, 75, 78, 79, 81, 82, 83, 86, 87, 90, 91, 93, 96, 99, 101, 104, 106, 107, 109, 111, 112, 113, 114, 116, 119, 122, 123]
noncomputable def rcX12_wordOf : List rz_B := [rz_cst 0, rz_istore 4, rz_cst 0, rz_istore 5, rz_iload 5, rz_aload 1, rz_callT 0 rgJ0_length_8abf5_f, rz_icmpge 63, rz_cst 0, rz_istore 6, rz_aload 1, rz_iload 5, rz_iload 6, rz_iadd, rz_callT 1 rgJ0_charAt_5068e_f, rz_cst 32, rz_icmpeq 19, rz_iinc 6 1, rz_goto 10, rz_iload 6, rz_iload 3, rz_icmpne 24, rz_cst 1, rz_goto 25, rz_cst 0, rz_istore 7, rz_cst 0, rz_istore 8, rz_iload 8, rz_iload 3, rz_icmpge 51, rz_iload 7, rz_ifeq 51, rz_aload 1, rz_iload 5, rz_iload 8, rz_iadd, rz_callT 1 rgJ0_charAt_5068e_f, rz_aload 0, rz_getf (Nat.add (Nat.mul 256 14) 1) 2 rz_r, rz_iload 2, rz_iload 8, rz_iadd, rz_iald, rz_icmpne 47, rz_cst 1, rz_goto 48, rz_cst 0, rz_istore 7, rz_iinc 8 1, rz_goto 28, rz_iload 7, rz_ifeq 55, rz_iload 4, rz_iret, rz_iload 5, rz_iload 6, rz_cst 1, rz_iadd, rz_iadd, rz_istore 5, rz_iinc 4 1, rz_goto 4, rz_cst 4294967295, rz_iret]
noncomputable def rgX12_wordOf : rz_L → rz_M → rz_Z → Bool := rz_go rcX12_wordOf 9 1000000
def rrX12_wordOf : Room := { frames := 4, cells := 0, slots := 0, locals := 123 }
theorem rmX12_wordOf (l : Launch) {G : rz_G} (hG : rz_Gd G) (vs : rz_L) (M : rz_M) (Z : rz_Z) (hn : vs.length = 4) (h : rgX12_wordOf vs M Z = true) : Met l yX12_wordOf (Cond.code yX12_wordOf cX12_wordOf 9 (some .int) :: rz_TB) rrX12_wordOf (rz_Pre G vs M) (rz_Qi G M.2 Z) 0 0 (fun q => rz_b G ≤ q) := by
  obtain ⟨D, tc, ad, b, xs, rfl⟩ := id hG
  refine rz_body (pcs := rpX12_wordOf) (by decide) rfl (by rw [hn]; decide) h ?_
  intro p e R s m args below meth c hC
  obtain ⟨hx, hb, hml, hr, hlk, ho, hts, hKn, hRm⟩ := id hC
  obtain ⟨hK, hA, hSt⟩ := id hKn
  have hw : ∀ {i j : Nat} {ws : List Cond} {w : Cond}, rz_WW[i]? = some ws → ws[j]? = some w → w.before args s = true := fun h1 h2 => hts _ (List.mem_cons_of_mem _ (rz_mem h1 h2))
  refine rz_All_c (i := 0) (fun k J hk hJ => rz_iconst_ok (pc := 0) hx hb dX12_wordOf_0 rfl hk) ?_
  refine rz_All_c (i := 1) (fun k J hk hJ => rz_istore_ok (pc := 1) hx hb dX12_wordOf_1 hk) ?_
  refine rz_All_c (i := 2) (fun k J hk hJ => rz_iconst_ok (pc := 3) hx hb dX12_wordOf_3 rfl hk) ?_
  refine rz_All_c (i := 3) (fun k J hk hJ => rz_istore_ok (pc := 4) hx hb dX12_wordOf_4 hk) ?_
  refine rz_All_c (i := 4) (fun k J hk hJ => rz_iload_ok (pc := 6) hx hb dX12_wordOf_6 hk) ?_
  refine rz_All_c (i := 5) (fun k J hk hJ => rz_aload_n_ok (pc := 8) hx hb dX12_wordOf_8 rfl hk) ?_
  refine rz_All_c (i := 6) (fun k J hk hJ => rz_callT_ok (pc := 9) (own := RX12) hC rfl (rmJ0_length_8abf5_f l hG) (rz_cwV 0 hC rz_good (rz_mem (i := 37) (j := 8) rfl rfl) (rz_mem (i := 6) (j := 13) rfl rfl) (rz_mem (i := 6) (j := 14) rfl rfl) (rz_mem (i := 5) (j := 23) rfl rfl) (rz_mem (i := 6) (j := 15) rfl rfl) ⟨rfl, by decide, by decide, by decide +kernel⟩ rfl rfl ⟨by decide, by decide⟩) dX12_wordOf_9 hk) ?_
  refine rz_All_c (i := 7) (fun k J hk hJ => rz_icmpge_ok (pc := 12) hx hb dX12_wordOf_12 rfl hk (hJ 63)) ?_
  refine rz_All_c (i := 8) (fun k J hk hJ => rz_iconst_ok (pc := 15) hx hb dX12_wordOf_15 rfl hk) ?_
  refine rz_All_c (i := 9) (fun k J hk hJ => rz_istore_ok (pc := 16) hx hb dX12_wordOf_16 hk) ?_
  refine rz_All_c (i := 10) (fun k J hk hJ => rz_aload_n_ok (pc := 18) hx hb dX12_wordOf_18 rfl hk) ?_
  refine rz_All_c (i := 11) (fun k J hk hJ => rz_iload_ok (pc := 19) hx hb dX12_wordOf_19 hk) ?_
  refine rz_All_c (i := 12) (fun k J hk hJ => rz_iload_ok (pc := 21) hx hb dX12_wordOf_21 hk) ?_
  refine rz_All_c (i := 13) (fun k J hk hJ => rz_iadd_ok (pc := 23) hx hb dX12_wordOf_23 hk) ?_
  refine rz_All_c (i := 14) (fun k J hk hJ => rz_callT_ok (pc := 24) (own := RX12) hC rfl (rmJ0_charAt_5068e_f l hG) (rz_cwV 1 hC rz_good (rz_mem (i := 33) (j := 4) rfl rfl) (rz_mem (i := 13) (j := 21) rfl rfl) (rz_mem (i := 13) (j := 22) rfl rfl) (rz_mem (i := 5) (j := 23) rfl rfl) (rz_mem (i := 13) (j := 23) rfl rfl) ⟨rfl, by decide, by decide, by decide +kernel⟩ rfl rfl ⟨by decide, by decide⟩) dX12_wordOf_24 hk) ?_
  refine rz_All_c (i := 15) (fun k J hk hJ => rz_bipush_ok (pc := 27) hx hb dX12_wordOf_27 (by decide) hk) ?_
  refine rz_All_c (i := 16) (fun k J hk hJ => rz_icmpeq_ok (pc := 29) hx hb dX12_wordOf_29 rfl hk (hJ 19)) ?_
  refine rz_All_c (i := 17) (fun k J hk hJ => rz_iinc_ok (pc := 32) hx hb dX12_wordOf_32 (by decide) hk) ?_
  refine rz_All_c (i := 18) (fun k J hk hJ => rz_goto_ok (pc := 35) hx hb dX12_wordOf_35 rfl (hJ 10)) ?_
  refine rz_All_c (i := 19) (fun k J hk hJ => rz_iload_ok (pc := 38) hx hb dX12_wordOf_38 hk) ?_
  refine rz_All_c (i := 20) (fun k J hk hJ => rz_iload_n_ok (pc := 40) hx hb dX12_wordOf_40 rfl hk) ?_
  refine rz_All_c (i := 21) (fun k J hk hJ => rz_icmpne_ok (pc := 41) hx hb dX12_wordOf_41 rfl hk (hJ 24)) ?_
  refine rz_All_c (i := 22) (fun k J hk hJ => rz_iconst_ok (pc := 44) hx hb dX12_wordOf_44 rfl hk) ?_
  refine rz_All_c (i := 23) (fun k J hk hJ => rz_goto_ok (pc := 45) hx hb dX12_wordOf_45 rfl (hJ 25)) ?_
  refine rz_All_c (i := 24) (fun k J hk hJ => rz_iconst_ok (pc := 48) hx hb dX12_wordOf_48 rfl hk) ?_
  refine rz_All_c (i := 25) (fun k J hk hJ => rz_istore_ok (pc := 49) hx hb dX12_wordOf_49 hk) ?_
  refine rz_All_c (i := 26) (fun k J hk hJ => rz_iconst_ok (pc := 51) hx hb dX12_wordOf_51 rfl hk) ?_
  refine rz_All_c (i := 27) (fun k J hk hJ => rz_istore_ok (pc := 52) hx hb dX12_wordOf_52 hk) ?_
  refine rz_All_c (i := 28) (fun k J hk hJ => rz_iload_ok (pc := 54) hx hb dX12_wordOf_54 hk) ?_
  refine rz_All_c (i := 29) (fun k J hk hJ => rz_iload_n_ok (pc := 56) hx hb dX12_wordOf_56 rfl hk) ?_
  refine rz_All_c (i := 30) (fun k J hk hJ => rz_icmpge_ok (pc := 57) hx hb dX12_wordOf_57 rfl hk (hJ 51)) ?_
  refine rz_All_c (i := 31) (fun k J hk hJ => rz_iload_ok (pc := 60) hx hb dX12_wordOf_60 hk) ?_
  refine rz_All_c (i := 32) (fun k J hk hJ => rz_ifeq_ok (pc := 62) hx hb dX12_wordOf_62 rfl hk (hJ 51)) ?_
  refine rz_All_c (i := 33) (fun k J hk hJ => rz_aload_n_ok (pc := 65) hx hb dX12_wordOf_65 rfl hk) ?_
  refine rz_All_c (i := 34) (fun k J hk hJ => rz_iload_ok (pc := 66) hx hb dX12_wordOf_66 hk) ?_
  refine rz_All_c (i := 35) (fun k J hk hJ => rz_iload_ok (pc := 68) hx hb dX12_wordOf_68 hk) ?_
  refine rz_All_c (i := 36) (fun k J hk hJ => rz_iadd_ok (pc := 70) hx hb dX12_wordOf_70 hk) ?_
  refine rz_All_c (i := 37) (fun k J hk hJ => rz_callT_ok (pc := 71) (own := RX12) hC rfl (rmJ0_charAt_5068e_f l hG) (rz_cwV 1 hC rz_good (rz_mem (i := 33) (j := 4) rfl rfl) (rz_mem (i := 13) (j := 21) rfl rfl) (rz_mem (i := 13) (j := 22) rfl rfl) (rz_mem (i := 5) (j := 23) rfl rfl) (rz_mem (i := 13) (j := 23) rfl rfl) ⟨rfl, by decide, by decide, by decide +kernel⟩ rfl rfl ⟨by decide, by decide⟩) dX12_wordOf_71 hk) ?_
  refine rz_All_c (i := 38) (fun k J hk hJ => rz_aload_n_ok (pc := 74) hx hb dX12_wordOf_74 rfl hk) ?_
  refine rz_All_c (i := 39) (fun k J hk hJ => rz_getf_ok (pc := 75) (own := RX12) (ref := "ThreadJudgeModel") (C := RX12) (T := TX12) (N := 257) (ci := 14) (index := 13) (f := 2) (t := 2) (Ts := Cond.code yX12_wordOf cX12_wordOf 9 (some .int) :: rz_TB) hx hb hts rz_in14 ho hK rfl (by decide) rfl (fun _ => rfl) (hw (i := 32) (j := 13) rfl rfl) (fun _ z => z) dX12_wordOf_75 hk) ?_
  refine rz_All_c (i := 40) (fun k J hk hJ => rz_iload_n_ok (pc := 78) hx hb dX12_wordOf_78 rfl hk) ?_
  refine rz_All_c (i := 41) (fun k J hk hJ => rz_iload_ok (pc := 79) hx hb dX12_wordOf_79 hk) ?_
  refine rz_All_c (i := 42) (fun k J hk hJ => rz_iadd_ok (pc := 81) hx hb dX12_wordOf_81 hk) ?_
  refine rz_All_c (i := 43) (fun k J hk hJ => rz_iald_ok (pc := 82) hx hb hK dX12_wordOf_82 hk) ?_
  refine rz_All_c (i := 44) (fun k J hk hJ => rz_icmpne_ok (pc := 83) hx hb dX12_wordOf_83 rfl hk (hJ 47)) ?_
  refine rz_All_c (i := 45) (fun k J hk hJ => rz_iconst_ok (pc := 86) hx hb dX12_wordOf_86 rfl hk) ?_
  refine rz_All_c (i := 46) (fun k J hk hJ => rz_goto_ok (pc := 87) hx hb dX12_wordOf_87 rfl (hJ 48)) ?_
  refine rz_All_c (i := 47) (fun k J hk hJ => rz_iconst_ok (pc := 90) hx hb dX12_wordOf_90 rfl hk) ?_
  refine rz_All_c (i := 48) (fun k J hk hJ => rz_istore_ok (pc := 91) hx hb dX12_wordOf_91 hk) ?_
  refine rz_All_c (i := 49) (fun k J hk hJ => rz_iinc_ok (pc := 93) hx hb dX12_wordOf_93 (by decide) hk) ?_
  refine rz_All_c (i := 50) (fun k J hk hJ => rz_goto_ok (pc := 96) hx hb dX12_wordOf_96 rfl (hJ 28)) ?_
  refine rz_All_c (i := 51) (fun k J hk hJ => rz_iload_ok (pc := 99) hx hb dX12_wordOf_99 hk) ?_
  refine rz_All_c (i := 52) (fun k J hk hJ => rz_ifeq_ok (pc := 101) hx hb dX12_wordOf_101 rfl hk (hJ 55)) ?_
  refine rz_All_c (i := 53) (fun k J hk hJ => rz_iload_ok (pc := 104) hx hb dX12_wordOf_104 hk) ?_
  refine rz_All_c (i := 54) (fun k J hk hJ => rz_iret_ok (pc := 106) hC dX12_wordOf_106) ?_
  refine rz_All_c (i := 55) (fun k J hk hJ => rz_iload_ok (pc := 107) hx hb dX12_wordOf_107 hk) ?_
  refine rz_All_c (i := 56) (fun k J hk hJ => rz_iload_ok (pc := 109) hx hb dX12_wordOf_109 hk) ?_
  refine rz_All_c (i := 57) (fun k J hk hJ => rz_iconst_ok (pc := 111) hx hb dX12_wordOf_111 rfl hk) ?_
  refine rz_All_c (i := 58) (fun k J hk hJ => rz_iadd_ok (pc := 112) hx hb dX12_wordOf_112 hk) ?_
  refine rz_All_c (i := 59) (fun k J hk hJ => rz_iadd_ok (pc := 113) hx hb dX12_wordOf_113 hk) ?_
  refine rz_All_c (i := 60) (fun k J hk hJ => rz_istore_ok (pc := 114) hx hb dX12_wordOf_114 hk) ?_
  refine rz_All_c (i := 61) (fun k J hk hJ => rz_iinc_ok (pc := 116) hx hb dX12_wordOf_116 (by decide) hk) ?_
  refine rz_All_c (i := 62) (fun k J hk hJ => rz_goto_ok (pc := 119) hx hb dX12_wordOf_119 rfl (hJ 4)) ?_
  refine rz_All_c (i := 63) (fun k J hk hJ => rz_iconst_ok (pc := 122) hx hb dX12_wordOf_122 rfl hk) ?_
  refine rz_All_c (i := 64) (fun k J hk hJ => rz_iret_ok (pc := 123) hC dX12_wordOf_123) ?_
  exact trivial
theorem dX12_codeOf_0 : decode cX12_codeOf 0 = .ok (.aload_n 0, 1) := by decide +kernel
theorem dX12_codeOf_1 : decode cX12_codeOf 1 = .ok (.ldc_w 651, 3) := by decide +kernel
theorem dX12_codeOf_4 : decode cX12_codeOf 4 = .ok (.aload_n 0, 1) := by decide +kernel
theorem dX12_codeOf_5 : decode cX12_codeOf 5 = .ok (.getfield 93, 3) := by decide +kernel
theorem dX12_codeOf_8 : decode cX12_codeOf 8 = .ok (.iload_n 1, 1) := by decide +kernel
theorem dX12_codeOf_9 : decode cX12_codeOf 9 = .ok (.iaload, 1) := by decide +kernel
theorem dX12_codeOf_10 : decode cX12_codeOf 10 = .ok (.aload_n 0, 1) := by decide +kernel
theorem dX12_codeOf_11 : decode cX12_codeOf 11 = .ok (.getfield 96, 3) := by decide +kernel
theorem dX12_codeOf_14 : decode cX12_codeOf 14 = .ok (.iload_n 1, 1) := by decide +kernel
theorem dX12_codeOf_15 : decode cX12_codeOf 15 = .ok (.iaload, 1) := by decide +kernel
theorem dX12_codeOf_16 : decode cX12_codeOf 16 = .ok (.invokevirtual 653, 3) := by decide +kernel
theorem dX12_codeOf_19 : decode cX12_codeOf 19 = .ok (.istore_n 2, 1) := by decide +kernel
theorem dX12_codeOf_20 : decode cX12_codeOf 20 = .ok (.iload_n 2, 1) := by decide +kernel
theorem dX12_codeOf_21 : decode cX12_codeOf 21 = .ok (.bipush 13, 2) := by decide +kernel
theorem dX12_codeOf_23 : decode cX12_codeOf 23 = .ok (.if_icmp .ne 8, 3) := by decide +kernel
theorem dX12_codeOf_26 : decode cX12_codeOf 26 = .ok (.bipush 100, 2) := by decide +kernel
theorem dX12_codeOf_28 : decode cX12_codeOf 28 = .ok (.goto 30, 3) := by decide +kernel
theorem dX12_codeOf_31 : decode cX12_codeOf 31 = .ok (.iload_n 2, 1) := by decide +kernel
theorem dX12_codeOf_32 : decode cX12_codeOf 32 = .ok (.bipush 14, 2) := by decide +kernel
theorem dX12_codeOf_34 : decode cX12_codeOf 34 = .ok (.if_icmp .ne 8, 3) := by decide +kernel
theorem dX12_codeOf_37 : decode cX12_codeOf 37 = .ok (.bipush 101, 2) := by decide +kernel
theorem dX12_codeOf_39 : decode cX12_codeOf 39 = .ok (.goto 19, 3) := by decide +kernel
theorem dX12_codeOf_42 : decode cX12_codeOf 42 = .ok (.aload_n 0, 1) := by decide +kernel
theorem dX12_codeOf_43 : decode cX12_codeOf 43 = .ok (.aload_n 0, 1) := by decide +kernel
theorem dX12_codeOf_44 : decode cX12_codeOf 44 = .ok (.getfield 93, 3) := by decide +kernel
theorem dX12_codeOf_47 : decode cX12_codeOf 47 = .ok (.iload_n 1, 1) := by decide +kernel
theorem dX12_codeOf_48 : decode cX12_codeOf 48 = .ok (.iaload, 1) := by decide +kernel
theorem dX12_codeOf_49 : decode cX12_codeOf 49 = .ok (.aload_n 0, 1) := by decide +kernel
theorem dX12_codeOf_50 : decode cX12_codeOf 50 = .ok (.getfield 96, 3) := by decide +kernel
theorem dX12_codeOf_53 : decode cX12_codeOf 53 = .ok (.iload_n 1, 1) := by decide +kernel
theorem dX12_codeOf_54 : decode cX12_codeOf 54 = .ok (.iaload, 1) := by decide +kernel
theorem dX12_codeOf_55 : decode cX12_codeOf 55 = .ok (.invokevirtual 761, 3) := by decide +kernel
theorem dX12_codeOf_58 : decode cX12_codeOf 58 = .ok (.istore_n 3, 1) := by decide +kernel
theorem dX12_codeOf_59 : decode cX12_codeOf 59 = .ok (.iload_n 3, 1) := by decide +kernel
theorem dX12_codeOf_60 : decode cX12_codeOf 60 = .ok (.iconst (-1), 1) := by decide +kernel
theorem dX12_codeOf_61 : decode cX12_codeOf 61 = .ok (.if_icmp .ne 7, 3) := by decide +kernel
theorem dX12_codeOf_68 : decode cX12_codeOf 68 = .ok (.aload_n 0, 1) := by decide +kernel
theorem dX12_codeOf_69 : decode cX12_codeOf 69 = .ok (.getfield 99, 3) := by decide +kernel
theorem dX12_codeOf_72 : decode cX12_codeOf 72 = .ok (.iload_n 1, 1) := by decide +kernel
theorem dX12_codeOf_73 : decode cX12_codeOf 73 = .ok (.baload, 1) := by decide +kernel
theorem dX12_codeOf_74 : decode cX12_codeOf 74 = .ok (.ifCond .eq 11, 3) := by decide +kernel
theorem dX12_codeOf_85 : decode cX12_codeOf 85 = .ok (.iload_n 3, 1) := by decide +kernel
theorem dX12_codeOf_86 : decode cX12_codeOf 86 = .ok (.ireturn, 1) := by decide +kernel
def rpX12_codeOf : List Nat := [0, 1, 4, 5, 8, 9, 10, 11, 14, 15, 16, 19, 20, 21, 23, 26, 28, 31, 32, 34, 37, 39, 42, 43, 44, 47, 48, 49, 50, 53, 54, 55, 58, 59, 60, 61, 64, 68, 69, 72, 73, 74, 77, 85, 86]
noncomputable def rcX12_codeOf : List rz_B := [rz_aload 0, rz_txt 1000012, rz_aload 0, rz_getf (Nat.add (Nat.mul 256 14) 1) 40 rz_r, rz_iload 1, rz_iald, rz_aload 0, rz_getf (Nat.add (Nat.mul 256 14) 1) 41 rz_r, rz_iload 1, rz_iald, rz_callV 3 (Nat.add (Nat.mul 256 14) 1) rgX12_wordOf, rz_istore 2, rz_iload 2, rz_cst 13, rz_icmpne 17, rz_cst 100, rz_goto 32, rz_iload 2, rz_cst 14, rz_icmpne 22, rz_cst 101, rz_goto 32, rz_aload 0, rz_aload 0, rz_getf (Nat.add (Nat.mul 256 14) 1) 40 rz_r, rz_iload 1, rz_iald, rz_aload 0, rz_getf (Nat.add (Nat.mul 256 14) 1) 41 rz_r, rz_iload 1, rz_iald, rz_callV 2 (Nat.add (Nat.mul 256 14) 1) rgX12_classNamed, rz_istore 3, rz_iload 3, rz_cst 4294967295, rz_icmpne 37, rz_no, rz_aload 0, rz_getf (Nat.add (Nat.mul 256 14) 1) 42 rz_r, rz_iload 1, rz_zald, rz_ifeq 43, rz_no, rz_iload 3, rz_iret]
noncomputable def rgX12_codeOf : rz_L → rz_M → rz_Z → Bool := rz_go rcX12_codeOf 4 1000000
def rrX12_codeOf : Room := { frames := 5, cells := 0, slots := 0, locals := 151 }
theorem rmX12_codeOf (l : Launch) {G : rz_G} (hG : rz_Gd G) (vs : rz_L) (M : rz_M) (Z : rz_Z) (hn : vs.length = 2) (h : rgX12_codeOf vs M Z = true) : Met l yX12_codeOf (Cond.code yX12_codeOf cX12_codeOf 4 (some .int) :: rz_TB) rrX12_codeOf (rz_Pre G vs M) (rz_Qi G M.2 Z) 0 0 (fun q => rz_b G ≤ q) := by
  obtain ⟨D, tc, ad, b, xs, rfl⟩ := id hG
  refine rz_body (pcs := rpX12_codeOf) (by decide) rfl (by rw [hn]; decide) h ?_
  intro p e R s m args below meth c hC
  obtain ⟨hx, hb, hml, hr, hlk, ho, hts, hKn, hRm⟩ := id hC
  obtain ⟨hK, hA, hSt⟩ := id hKn
  have hw : ∀ {i j : Nat} {ws : List Cond} {w : Cond}, rz_WW[i]? = some ws → ws[j]? = some w → w.before args s = true := fun h1 h2 => hts _ (List.mem_cons_of_mem _ (rz_mem h1 h2))
  refine rz_All_c (i := 0) (fun k J hk hJ => rz_aload_n_ok (pc := 0) hx hb dX12_codeOf_0 rfl hk) ?_
  refine rz_All_c (i := 1) (fun k J hk hJ => rz_ldcwS_ok (pc := 1) (i := 11) hx hb (hSt.2.1 ("ThreadJudgeModel", 651, "abstract excluded class interface extends implements static volatile final synchronized field method catch int void ", 11) (List.mem_of_getElem? (i := 12) rfl)) ho dX12_codeOf_1 hk) ?_
  refine rz_All_c (i := 2) (fun k J hk hJ => rz_aload_n_ok (pc := 4) hx hb dX12_codeOf_4 rfl hk) ?_
  refine rz_All_c (i := 3) (fun k J hk hJ => rz_getf_ok (pc := 5) (own := RX12) (ref := "ThreadJudgeModel") (C := RX12) (T := TX12) (N := 257) (ci := 14) (index := 93) (f := 40) (t := 2) (Ts := Cond.code yX12_codeOf cX12_codeOf 4 (some .int) :: rz_TB) hx hb hts rz_in14 ho hK rfl (by decide) rfl (fun _ => rfl) (hw (i := 39) (j := 8) rfl rfl) (fun _ z => z) dX12_codeOf_5 hk) ?_
  refine rz_All_c (i := 4) (fun k J hk hJ => rz_iload_n_ok (pc := 8) hx hb dX12_codeOf_8 rfl hk) ?_
  refine rz_All_c (i := 5) (fun k J hk hJ => rz_iald_ok (pc := 9) hx hb hK dX12_codeOf_9 hk) ?_
  refine rz_All_c (i := 6) (fun k J hk hJ => rz_aload_n_ok (pc := 10) hx hb dX12_codeOf_10 rfl hk) ?_
  refine rz_All_c (i := 7) (fun k J hk hJ => rz_getf_ok (pc := 11) (own := RX12) (ref := "ThreadJudgeModel") (C := RX12) (T := TX12) (N := 257) (ci := 14) (index := 96) (f := 41) (t := 2) (Ts := Cond.code yX12_codeOf cX12_codeOf 4 (some .int) :: rz_TB) hx hb hts rz_in14 ho hK rfl (by decide) rfl (fun _ => rfl) (hw (i := 39) (j := 9) rfl rfl) (fun _ z => z) dX12_codeOf_11 hk) ?_
  refine rz_All_c (i := 8) (fun k J hk hJ => rz_iload_n_ok (pc := 14) hx hb dX12_codeOf_14 rfl hk) ?_
  refine rz_All_c (i := 9) (fun k J hk hJ => rz_iald_ok (pc := 15) hx hb hK dX12_codeOf_15 hk) ?_
  refine rz_All_c (i := 10) (fun k J hk hJ => rz_callV_ok (pc := 16) (own := RX12) (C := RX12) (T0 := TX12) (N0 := 257) hC rfl (rmX12_wordOf l hG) (rz_cwV 3 hC rz_good (rz_mem (i := 37) (j := 4) rfl rfl) (rz_mem (i := 37) (j := 5) rfl rfl) (rz_mem (i := 37) (j := 6) rfl rfl) (rz_mem (i := 32) (j := 8) rfl rfl) (rz_mem (i := 37) (j := 7) rfl rfl) ⟨rfl, by decide, by decide, by decide +kernel⟩ rfl rfl ⟨by decide, by decide⟩) rfl dX12_codeOf_16 hk) ?_
  refine rz_All_c (i := 11) (fun k J hk hJ => rz_istore_n_ok (pc := 19) hx hb dX12_codeOf_19 rfl hk) ?_
  refine rz_All_c (i := 12) (fun k J hk hJ => rz_iload_n_ok (pc := 20) hx hb dX12_codeOf_20 rfl hk) ?_
  refine rz_All_c (i := 13) (fun k J hk hJ => rz_bipush_ok (pc := 21) hx hb dX12_codeOf_21 (by decide) hk) ?_
  refine rz_All_c (i := 14) (fun k J hk hJ => rz_icmpne_ok (pc := 23) hx hb dX12_codeOf_23 rfl hk (hJ 17)) ?_
  refine rz_All_c (i := 15) (fun k J hk hJ => rz_bipush_ok (pc := 26) hx hb dX12_codeOf_26 (by decide) hk) ?_
  refine rz_All_c (i := 16) (fun k J hk hJ => rz_goto_ok (pc := 28) hx hb dX12_codeOf_28 rfl (hJ 32)) ?_
  refine rz_All_c (i := 17) (fun k J hk hJ => rz_iload_n_ok (pc := 31) hx hb dX12_codeOf_31 rfl hk) ?_
  refine rz_All_c (i := 18) (fun k J hk hJ => rz_bipush_ok (pc := 32) hx hb dX12_codeOf_32 (by decide) hk) ?_
  refine rz_All_c (i := 19) (fun k J hk hJ => rz_icmpne_ok (pc := 34) hx hb dX12_codeOf_34 rfl hk (hJ 22)) ?_
  refine rz_All_c (i := 20) (fun k J hk hJ => rz_bipush_ok (pc := 37) hx hb dX12_codeOf_37 (by decide) hk) ?_
  refine rz_All_c (i := 21) (fun k J hk hJ => rz_goto_ok (pc := 39) hx hb dX12_codeOf_39 rfl (hJ 32)) ?_
  refine rz_All_c (i := 22) (fun k J hk hJ => rz_aload_n_ok (pc := 42) hx hb dX12_codeOf_42 rfl hk) ?_
  refine rz_All_c (i := 23) (fun k J hk hJ => rz_aload_n_ok (pc := 43) hx hb dX12_codeOf_43 rfl hk) ?_
  refine rz_All_c (i := 24) (fun k J hk hJ => rz_getf_ok (pc := 44) (own := RX12) (ref := "ThreadJudgeModel") (C := RX12) (T := TX12) (N := 257) (ci := 14) (index := 93) (f := 40) (t := 2) (Ts := Cond.code yX12_codeOf cX12_codeOf 4 (some .int) :: rz_TB) hx hb hts rz_in14 ho hK rfl (by decide) rfl (fun _ => rfl) (hw (i := 39) (j := 8) rfl rfl) (fun _ z => z) dX12_codeOf_44 hk) ?_
  refine rz_All_c (i := 25) (fun k J hk hJ => rz_iload_n_ok (pc := 47) hx hb dX12_codeOf_47 rfl hk) ?_
  refine rz_All_c (i := 26) (fun k J hk hJ => rz_iald_ok (pc := 48) hx hb hK dX12_codeOf_48 hk) ?_
  refine rz_All_c (i := 27) (fun k J hk hJ => rz_aload_n_ok (pc := 49) hx hb dX12_codeOf_49 rfl hk) ?_
  refine rz_All_c (i := 28) (fun k J hk hJ => rz_getf_ok (pc := 50) (own := RX12) (ref := "ThreadJudgeModel") (C := RX12) (T := TX12) (N := 257) (ci := 14) (index := 96) (f := 41) (t := 2) (Ts := Cond.code yX12_codeOf cX12_codeOf 4 (some .int) :: rz_TB) hx hb hts rz_in14 ho hK rfl (by decide) rfl (fun _ => rfl) (hw (i := 39) (j := 9) rfl rfl) (fun _ z => z) dX12_codeOf_50 hk) ?_
  refine rz_All_c (i := 29) (fun k J hk hJ => rz_iload_n_ok (pc := 53) hx hb dX12_codeOf_53 rfl hk) ?_
  refine rz_All_c (i := 30) (fun k J hk hJ => rz_iald_ok (pc := 54) hx hb hK dX12_codeOf_54 hk) ?_
  refine rz_All_c (i := 31) (fun k J hk hJ => rz_callV_ok (pc := 55) (own := RX12) (C := RX12) (T0 := TX12) (N0 := 257) hC rfl (rmX12_classNamed l hG) (rz_cwV 2 hC rz_good (rz_mem (i := 42) (j := 22) rfl rfl) (rz_mem (i := 42) (j := 23) rfl rfl) (rz_mem (i := 43) (j := 0) rfl rfl) (rz_mem (i := 32) (j := 8) rfl rfl) (rz_mem (i := 43) (j := 1) rfl rfl) ⟨rfl, by decide, by decide, by decide +kernel⟩ rfl rfl ⟨by decide, by decide⟩) rfl dX12_codeOf_55 hk) ?_
  refine rz_All_c (i := 32) (fun k J hk hJ => rz_istore_n_ok (pc := 58) hx hb dX12_codeOf_58 rfl hk) ?_
  refine rz_All_c (i := 33) (fun k J hk hJ => rz_iload_n_ok (pc := 59) hx hb dX12_codeOf_59 rfl hk) ?_
  refine rz_All_c (i := 34) (fun k J hk hJ => rz_iconst_ok (pc := 60) hx hb dX12_codeOf_60 rfl hk) ?_
  refine rz_All_c (i := 35) (fun k J hk hJ => rz_icmpne_ok (pc := 61) hx hb dX12_codeOf_61 rfl hk (hJ 37)) ?_
  refine rz_All_c (i := 36) (fun k J hk hJ => rz_no_ok) ?_
  refine rz_All_c (i := 37) (fun k J hk hJ => rz_aload_n_ok (pc := 68) hx hb dX12_codeOf_68 rfl hk) ?_
  refine rz_All_c (i := 38) (fun k J hk hJ => rz_getf_ok (pc := 69) (own := RX12) (ref := "ThreadJudgeModel") (C := RX12) (T := TX12) (N := 257) (ci := 14) (index := 99) (f := 42) (t := 2) (Ts := Cond.code yX12_codeOf cX12_codeOf 4 (some .int) :: rz_TB) hx hb hts rz_in14 ho hK rfl (by decide) rfl (fun _ => rfl) (hw (i := 39) (j := 10) rfl rfl) (fun _ z => z) dX12_codeOf_69 hk) ?_
  refine rz_All_c (i := 39) (fun k J hk hJ => rz_iload_n_ok (pc := 72) hx hb dX12_codeOf_72 rfl hk) ?_
  refine rz_All_c (i := 40) (fun k J hk hJ => rz_zald_ok (pc := 73) hx hb hK dX12_codeOf_73 hk) ?_
  refine rz_All_c (i := 41) (fun k J hk hJ => rz_ifeq_ok (pc := 74) hx hb dX12_codeOf_74 rfl hk (hJ 43)) ?_
  refine rz_All_c (i := 42) (fun k J hk hJ => rz_no_ok) ?_
  refine rz_All_c (i := 43) (fun k J hk hJ => rz_iload_n_ok (pc := 85) hx hb dX12_codeOf_85 rfl hk) ?_
  refine rz_All_c (i := 44) (fun k J hk hJ => rz_iret_ok (pc := 86) hC dX12_codeOf_86) ?_
  exact trivial
theorem dX12_fits_0 : decode cX12_fits 0 = .ok (.aload_n 0, 1) := by decide +kernel
theorem dX12_fits_1 : decode cX12_fits 1 = .ok (.getfield 81, 3) := by decide +kernel
theorem dX12_fits_4 : decode cX12_fits 4 = .ok (.iload_n 1, 1) := by decide +kernel
theorem dX12_fits_5 : decode cX12_fits 5 = .ok (.iaload, 1) := by decide +kernel
theorem dX12_fits_6 : decode cX12_fits 6 = .ok (.aload_n 0, 1) := by decide +kernel
theorem dX12_fits_7 : decode cX12_fits 7 = .ok (.getfield 814, 3) := by decide +kernel
theorem dX12_fits_10 : decode cX12_fits 10 = .ok (.if_icmp .ne 28, 3) := by decide +kernel
theorem dX12_fits_13 : decode cX12_fits 13 = .ok (.aload_n 0, 1) := by decide +kernel
theorem dX12_fits_14 : decode cX12_fits 14 = .ok (.aload_n 0, 1) := by decide +kernel
theorem dX12_fits_15 : decode cX12_fits 15 = .ok (.getfield 69, 3) := by decide +kernel
theorem dX12_fits_18 : decode cX12_fits 18 = .ok (.iload_n 1, 1) := by decide +kernel
theorem dX12_fits_19 : decode cX12_fits 19 = .ok (.iaload, 1) := by decide +kernel
theorem dX12_fits_20 : decode cX12_fits 20 = .ok (.aload_n 0, 1) := by decide +kernel
theorem dX12_fits_21 : decode cX12_fits 21 = .ok (.getfield 72, 3) := by decide +kernel
theorem dX12_fits_24 : decode cX12_fits 24 = .ok (.iload_n 1, 1) := by decide +kernel
theorem dX12_fits_25 : decode cX12_fits 25 = .ok (.iaload, 1) := by decide +kernel
theorem dX12_fits_26 : decode cX12_fits 26 = .ok (.iload_n 2, 1) := by decide +kernel
theorem dX12_fits_27 : decode cX12_fits 27 = .ok (.iload_n 3, 1) := by decide +kernel
theorem dX12_fits_28 : decode cX12_fits 28 = .ok (.invokevirtual 734, 3) := by decide +kernel
theorem dX12_fits_31 : decode cX12_fits 31 = .ok (.ifCond .eq 7, 3) := by decide +kernel
theorem dX12_fits_34 : decode cX12_fits 34 = .ok (.iconst 1, 1) := by decide +kernel
theorem dX12_fits_35 : decode cX12_fits 35 = .ok (.goto 4, 3) := by decide +kernel
theorem dX12_fits_39 : decode cX12_fits 39 = .ok (.istore 4, 2) := by decide +kernel
theorem dX12_fits_41 : decode cX12_fits 41 = .ok (.iconst 0, 1) := by decide +kernel
theorem dX12_fits_42 : decode cX12_fits 42 = .ok (.istore 5, 2) := by decide +kernel
theorem dX12_fits_44 : decode cX12_fits 44 = .ok (.iload 5, 2) := by decide +kernel
theorem dX12_fits_46 : decode cX12_fits 46 = .ok (.aload_n 0, 1) := by decide +kernel
theorem dX12_fits_47 : decode cX12_fits 47 = .ok (.getfield 814, 3) := by decide +kernel
theorem dX12_fits_50 : decode cX12_fits 50 = .ok (.if_icmp .ge 43, 3) := by decide +kernel
theorem dX12_fits_93 : decode cX12_fits 93 = .ok (.iload 4, 2) := by decide +kernel
theorem dX12_fits_95 : decode cX12_fits 95 = .ok (.ireturn, 1) := by decide +kernel
def rpX12_fits : List Nat := [0, 1, 4, 5, 6, 7, 10, 13, 14, 15, 18, 19, 20, 21, 24, 25, 26, 27, 28, 31, 34, 35, 38, 39, 41, 42, 44, 46, 47, 50, 53, 93, 95]
noncomputable def rcX12_fits : List rz_B := [rz_aload 0, rz_getf (Nat.add (Nat.mul 256 14) 1) 36 rz_r, rz_iload 1, rz_iald, rz_aload 0, rz_getf (Nat.add (Nat.mul 256 14) 1) 85 rz_i, rz_icmpne 22, rz_aload 0, rz_aload 0, rz_getf (Nat.add (Nat.mul 256 14) 1) 32 rz_r, rz_iload 1, rz_iald, rz_aload 0, rz_getf (Nat.add (Nat.mul 256 14) 1) 33 rz_r, rz_iload 1, rz_iald, rz_iload 2, rz_iload 3, rz_callV 4 (Nat.add (Nat.mul 256 14) 1) rgX12_isSame, rz_ifeq 22, rz_cst 1, rz_goto 23, rz_no, rz_istore 4, rz_cst 0, rz_istore 5, rz_iload 5, rz_aload 0, rz_getf (Nat.add (Nat.mul 256 14) 1) 85 rz_i, rz_icmpge 31, rz_no, rz_iload 4, rz_zret]
noncomputable def rgX12_fits : rz_L → rz_M → rz_Z → Bool := rz_go rcX12_fits 6 1000000
def rrX12_fits : Room := { frames := 1, cells := 0, slots := 0, locals := 26 }
theorem rmX12_fits (l : Launch) {G : rz_G} (hG : rz_Gd G) (vs : rz_L) (M : rz_M) (Z : rz_Z) (hn : vs.length = 4) (h : rgX12_fits vs M Z = true) : Met l yX12_fits (Cond.code yX12_fits cX12_fits 6 (some .boolean) :: rz_TB) rrX12_fits (rz_Pre G vs M) (rz_Qi G M.2 Z) 0 0 (fun q => rz_b G ≤ q) := by
  obtain ⟨D, tc, ad, b, xs, rfl⟩ := id hG
  refine rz_body (pcs := rpX12_fits) (by decide) rfl (by rw [hn]; decide) h ?_
  intro p e R s m args below meth c hC
  obtain ⟨hx, hb, hml, hr, hlk, ho, hts, hKn, hRm⟩ := id hC
  obtain ⟨hK, hA, hSt⟩ := id hKn
  have hw : ∀ {i j : Nat} {ws : List Cond} {w : Cond}, rz_WW[i]? = some ws → ws[j]? = some w → w.before args s = true := fun h1 h2 => hts _ (List.mem_cons_of_mem _ (rz_mem h1 h2))
  refine rz_All_c (i := 0) (fun k J hk hJ => rz_aload_n_ok (pc := 0) hx hb dX12_fits_0 rfl hk) ?_
  refine rz_All_c (i := 1) (fun k J hk hJ => rz_getf_ok (pc := 1) (own := RX12) (ref := "ThreadJudgeModel") (C := RX12) (T := TX12) (N := 257) (ci := 14) (index := 81) (f := 36) (t := 2) (Ts := Cond.code yX12_fits cX12_fits 6 (some .boolean) :: rz_TB) hx hb hts rz_in14 ho hK rfl (by decide) rfl (fun _ => rfl) (hw (i := 39) (j := 22) rfl rfl) (fun _ z => z) dX12_fits_1 hk) ?_
  refine rz_All_c (i := 2) (fun k J hk hJ => rz_iload_n_ok (pc := 4) hx hb dX12_fits_4 rfl hk) ?_
  refine rz_All_c (i := 3) (fun k J hk hJ => rz_iald_ok (pc := 5) hx hb hK dX12_fits_5 hk) ?_
  refine rz_All_c (i := 4) (fun k J hk hJ => rz_aload_n_ok (pc := 6) hx hb dX12_fits_6 rfl hk) ?_
  refine rz_All_c (i := 5) (fun k J hk hJ => rz_getf_ok (pc := 7) (own := RX12) (ref := "ThreadJudgeModel") (C := RX12) (T := TX12) (N := 257) (ci := 14) (index := 814) (f := 85) (t := 0) (Ts := Cond.code yX12_fits cX12_fits 6 (some .boolean) :: rz_TB) hx hb hts rz_in14 ho hK rfl (by decide) rfl (fun _ => rfl) (hw (i := 47) (j := 6) rfl rfl) (fun _ z => z) dX12_fits_7 hk) ?_
  refine rz_All_c (i := 6) (fun k J hk hJ => rz_icmpne_ok (pc := 10) hx hb dX12_fits_10 rfl hk (hJ 22)) ?_
  refine rz_All_c (i := 7) (fun k J hk hJ => rz_aload_n_ok (pc := 13) hx hb dX12_fits_13 rfl hk) ?_
  refine rz_All_c (i := 8) (fun k J hk hJ => rz_aload_n_ok (pc := 14) hx hb dX12_fits_14 rfl hk) ?_
  refine rz_All_c (i := 9) (fun k J hk hJ => rz_getf_ok (pc := 15) (own := RX12) (ref := "ThreadJudgeModel") (C := RX12) (T := TX12) (N := 257) (ci := 14) (index := 69) (f := 32) (t := 2) (Ts := Cond.code yX12_fits cX12_fits 6 (some .boolean) :: rz_TB) hx hb hts rz_in14 ho hK rfl (by decide) rfl (fun _ => rfl) (hw (i := 39) (j := 15) rfl rfl) (fun _ z => z) dX12_fits_15 hk) ?_
  refine rz_All_c (i := 10) (fun k J hk hJ => rz_iload_n_ok (pc := 18) hx hb dX12_fits_18 rfl hk) ?_
  refine rz_All_c (i := 11) (fun k J hk hJ => rz_iald_ok (pc := 19) hx hb hK dX12_fits_19 hk) ?_
  refine rz_All_c (i := 12) (fun k J hk hJ => rz_aload_n_ok (pc := 20) hx hb dX12_fits_20 rfl hk) ?_
  refine rz_All_c (i := 13) (fun k J hk hJ => rz_getf_ok (pc := 21) (own := RX12) (ref := "ThreadJudgeModel") (C := RX12) (T := TX12) (N := 257) (ci := 14) (index := 72) (f := 33) (t := 2) (Ts := Cond.code yX12_fits cX12_fits 6 (some .boolean) :: rz_TB) hx hb hts rz_in14 ho hK rfl (by decide) rfl (fun _ => rfl) (hw (i := 39) (j := 16) rfl rfl) (fun _ z => z) dX12_fits_21 hk) ?_
  refine rz_All_c (i := 14) (fun k J hk hJ => rz_iload_n_ok (pc := 24) hx hb dX12_fits_24 rfl hk) ?_
  refine rz_All_c (i := 15) (fun k J hk hJ => rz_iald_ok (pc := 25) hx hb hK dX12_fits_25 hk) ?_
  refine rz_All_c (i := 16) (fun k J hk hJ => rz_iload_n_ok (pc := 26) hx hb dX12_fits_26 rfl hk) ?_
  refine rz_All_c (i := 17) (fun k J hk hJ => rz_iload_n_ok (pc := 27) hx hb dX12_fits_27 rfl hk) ?_
  refine rz_All_c (i := 18) (fun k J hk hJ => rz_callV_ok (pc := 28) (own := RX12) (C := RX12) (T0 := TX12) (N0 := 257) hC rfl (rmX12_isSame l hG) (rz_cwV 4 hC rz_good (rz_mem (i := 41) (j := 16) rfl rfl) (rz_mem (i := 41) (j := 17) rfl rfl) (rz_mem (i := 41) (j := 18) rfl rfl) (rz_mem (i := 32) (j := 8) rfl rfl) (rz_mem (i := 41) (j := 19) rfl rfl) ⟨rfl, by decide, by decide, by decide +kernel⟩ rfl rfl ⟨by decide, by decide⟩) rfl dX12_fits_28 hk) ?_
  refine rz_All_c (i := 19) (fun k J hk hJ => rz_ifeq_ok (pc := 31) hx hb dX12_fits_31 rfl hk (hJ 22)) ?_
  refine rz_All_c (i := 20) (fun k J hk hJ => rz_iconst_ok (pc := 34) hx hb dX12_fits_34 rfl hk) ?_
  refine rz_All_c (i := 21) (fun k J hk hJ => rz_goto_ok (pc := 35) hx hb dX12_fits_35 rfl (hJ 23)) ?_
  refine rz_All_c (i := 22) (fun k J hk hJ => rz_no_ok) ?_
  refine rz_All_c (i := 23) (fun k J hk hJ => rz_istore_ok (pc := 39) hx hb dX12_fits_39 hk) ?_
  refine rz_All_c (i := 24) (fun k J hk hJ => rz_iconst_ok (pc := 41) hx hb dX12_fits_41 rfl hk) ?_
  refine rz_All_c (i := 25) (fun k J hk hJ => rz_istore_ok (pc := 42) hx hb dX12_fits_42 hk) ?_
  refine rz_All_c (i := 26) (fun k J hk hJ => rz_iload_ok (pc := 44) hx hb dX12_fits_44 hk) ?_
  refine rz_All_c (i := 27) (fun k J hk hJ => rz_aload_n_ok (pc := 46) hx hb dX12_fits_46 rfl hk) ?_
  refine rz_All_c (i := 28) (fun k J hk hJ => rz_getf_ok (pc := 47) (own := RX12) (ref := "ThreadJudgeModel") (C := RX12) (T := TX12) (N := 257) (ci := 14) (index := 814) (f := 85) (t := 0) (Ts := Cond.code yX12_fits cX12_fits 6 (some .boolean) :: rz_TB) hx hb hts rz_in14 ho hK rfl (by decide) rfl (fun _ => rfl) (hw (i := 47) (j := 6) rfl rfl) (fun _ z => z) dX12_fits_47 hk) ?_
  refine rz_All_c (i := 29) (fun k J hk hJ => rz_icmpge_ok (pc := 50) hx hb dX12_fits_50 rfl hk (hJ 31)) ?_
  refine rz_All_c (i := 30) (fun k J hk hJ => rz_no_ok) ?_
  refine rz_All_c (i := 31) (fun k J hk hJ => rz_iload_ok (pc := 93) hx hb dX12_fits_93 hk) ?_
  refine rz_All_c (i := 32) (fun k J hk hJ => rz_zret_ok (pc := 95) hC dX12_fits_95) ?_
  exact trivial
theorem dX12_inClass_0 : decode cX12_inClass 0 = .ok (.aload_n 0, 1) := by decide +kernel
theorem dX12_inClass_1 : decode cX12_inClass 1 = .ok (.getfield 54, 3) := by decide +kernel
theorem dX12_inClass_4 : decode cX12_inClass 4 = .ok (.iload_n 1, 1) := by decide +kernel
theorem dX12_inClass_5 : decode cX12_inClass 5 = .ok (.iaload, 1) := by decide +kernel
theorem dX12_inClass_6 : decode cX12_inClass 6 = .ok (.istore 4, 2) := by decide +kernel
theorem dX12_inClass_8 : decode cX12_inClass 8 = .ok (.iload 4, 2) := by decide +kernel
theorem dX12_inClass_10 : decode cX12_inClass 10 = .ok (.aload_n 0, 1) := by decide +kernel
theorem dX12_inClass_11 : decode cX12_inClass 11 = .ok (.getfield 54, 3) := by decide +kernel
theorem dX12_inClass_14 : decode cX12_inClass 14 = .ok (.iload_n 1, 1) := by decide +kernel
theorem dX12_inClass_15 : decode cX12_inClass 15 = .ok (.iconst 1, 1) := by decide +kernel
theorem dX12_inClass_16 : decode cX12_inClass 16 = .ok (.iadd, 1) := by decide +kernel
theorem dX12_inClass_17 : decode cX12_inClass 17 = .ok (.iaload, 1) := by decide +kernel
theorem dX12_inClass_18 : decode cX12_inClass 18 = .ok (.if_icmp .ge 23, 3) := by decide +kernel
theorem dX12_inClass_21 : decode cX12_inClass 21 = .ok (.aload_n 0, 1) := by decide +kernel
theorem dX12_inClass_22 : decode cX12_inClass 22 = .ok (.iload 4, 2) := by decide +kernel
theorem dX12_inClass_24 : decode cX12_inClass 24 = .ok (.iload_n 2, 1) := by decide +kernel
theorem dX12_inClass_25 : decode cX12_inClass 25 = .ok (.iload_n 3, 1) := by decide +kernel
theorem dX12_inClass_26 : decode cX12_inClass 26 = .ok (.invokevirtual 817, 3) := by decide +kernel
theorem dX12_inClass_29 : decode cX12_inClass 29 = .ok (.ifCond .eq 6, 3) := by decide +kernel
theorem dX12_inClass_32 : decode cX12_inClass 32 = .ok (.iload 4, 2) := by decide +kernel
theorem dX12_inClass_34 : decode cX12_inClass 34 = .ok (.ireturn, 1) := by decide +kernel
def rpX12_inClass : List Nat := [0, 1, 4, 5, 6, 8, 10, 11, 14, 15, 16, 17, 18, 21, 22, 24, 25, 26, 29, 32, 34, 35, 41]
noncomputable def rcX12_inClass : List rz_B := [rz_aload 0, rz_getf (Nat.add (Nat.mul 256 14) 1) 25 rz_r, rz_iload 1, rz_iald, rz_istore 4, rz_iload 4, rz_aload 0, rz_getf (Nat.add (Nat.mul 256 14) 1) 25 rz_r, rz_iload 1, rz_cst 1, rz_iadd, rz_iald, rz_icmpge 22, rz_aload 0, rz_iload 4, rz_iload 2, rz_iload 3, rz_callV 3 (Nat.add (Nat.mul 256 14) 1) rgX12_fits, rz_ifeq 21, rz_iload 4, rz_iret, rz_no, rz_no]
noncomputable def rgX12_inClass : rz_L → rz_M → rz_Z → Bool := rz_go rcX12_inClass 5 1000000
def rrX12_inClass : Room := { frames := 2, cells := 0, slots := 0, locals := 51 }
theorem rmX12_inClass (l : Launch) {G : rz_G} (hG : rz_Gd G) (vs : rz_L) (M : rz_M) (Z : rz_Z) (hn : vs.length = 4) (h : rgX12_inClass vs M Z = true) : Met l yX12_inClass (Cond.code yX12_inClass cX12_inClass 5 (some .int) :: rz_TB) rrX12_inClass (rz_Pre G vs M) (rz_Qi G M.2 Z) 0 0 (fun q => rz_b G ≤ q) := by
  obtain ⟨D, tc, ad, b, xs, rfl⟩ := id hG
  refine rz_body (pcs := rpX12_inClass) (by decide) rfl (by rw [hn]; decide) h ?_
  intro p e R s m args below meth c hC
  obtain ⟨hx, hb, hml, hr, hlk, ho, hts, hKn, hRm⟩ := id hC
  obtain ⟨hK, hA, hSt⟩ := id hKn
  have hw : ∀ {i j : Nat} {ws : List Cond} {w : Cond}, rz_WW[i]? = some ws → ws[j]? = some w → w.before args s = true := fun h1 h2 => hts _ (List.mem_cons_of_mem _ (rz_mem h1 h2))
  refine rz_All_c (i := 0) (fun k J hk hJ => rz_aload_n_ok (pc := 0) hx hb dX12_inClass_0 rfl hk) ?_
  refine rz_All_c (i := 1) (fun k J hk hJ => rz_getf_ok (pc := 1) (own := RX12) (ref := "ThreadJudgeModel") (C := RX12) (T := TX12) (N := 257) (ci := 14) (index := 54) (f := 25) (t := 2) (Ts := Cond.code yX12_inClass cX12_inClass 5 (some .int) :: rz_TB) hx hb hts rz_in14 ho hK rfl (by decide) rfl (fun _ => rfl) (hw (i := 36) (j := 20) rfl rfl) (fun _ z => z) dX12_inClass_1 hk) ?_
  refine rz_All_c (i := 2) (fun k J hk hJ => rz_iload_n_ok (pc := 4) hx hb dX12_inClass_4 rfl hk) ?_
  refine rz_All_c (i := 3) (fun k J hk hJ => rz_iald_ok (pc := 5) hx hb hK dX12_inClass_5 hk) ?_
  refine rz_All_c (i := 4) (fun k J hk hJ => rz_istore_ok (pc := 6) hx hb dX12_inClass_6 hk) ?_
  refine rz_All_c (i := 5) (fun k J hk hJ => rz_iload_ok (pc := 8) hx hb dX12_inClass_8 hk) ?_
  refine rz_All_c (i := 6) (fun k J hk hJ => rz_aload_n_ok (pc := 10) hx hb dX12_inClass_10 rfl hk) ?_
  refine rz_All_c (i := 7) (fun k J hk hJ => rz_getf_ok (pc := 11) (own := RX12) (ref := "ThreadJudgeModel") (C := RX12) (T := TX12) (N := 257) (ci := 14) (index := 54) (f := 25) (t := 2) (Ts := Cond.code yX12_inClass cX12_inClass 5 (some .int) :: rz_TB) hx hb hts rz_in14 ho hK rfl (by decide) rfl (fun _ => rfl) (hw (i := 36) (j := 20) rfl rfl) (fun _ z => z) dX12_inClass_11 hk) ?_
  refine rz_All_c (i := 8) (fun k J hk hJ => rz_iload_n_ok (pc := 14) hx hb dX12_inClass_14 rfl hk) ?_
  refine rz_All_c (i := 9) (fun k J hk hJ => rz_iconst_ok (pc := 15) hx hb dX12_inClass_15 rfl hk) ?_
  refine rz_All_c (i := 10) (fun k J hk hJ => rz_iadd_ok (pc := 16) hx hb dX12_inClass_16 hk) ?_
  refine rz_All_c (i := 11) (fun k J hk hJ => rz_iald_ok (pc := 17) hx hb hK dX12_inClass_17 hk) ?_
  refine rz_All_c (i := 12) (fun k J hk hJ => rz_icmpge_ok (pc := 18) hx hb dX12_inClass_18 rfl hk (hJ 22)) ?_
  refine rz_All_c (i := 13) (fun k J hk hJ => rz_aload_n_ok (pc := 21) hx hb dX12_inClass_21 rfl hk) ?_
  refine rz_All_c (i := 14) (fun k J hk hJ => rz_iload_ok (pc := 22) hx hb dX12_inClass_22 hk) ?_
  refine rz_All_c (i := 15) (fun k J hk hJ => rz_iload_n_ok (pc := 24) hx hb dX12_inClass_24 rfl hk) ?_
  refine rz_All_c (i := 16) (fun k J hk hJ => rz_iload_n_ok (pc := 25) hx hb dX12_inClass_25 rfl hk) ?_
  refine rz_All_c (i := 17) (fun k J hk hJ => rz_callV_ok (pc := 26) (own := RX12) (C := RX12) (T0 := TX12) (N0 := 257) hC rfl (rmX12_fits l hG) (rz_cwV 3 hC rz_good (rz_mem (i := 47) (j := 16) rfl rfl) (rz_mem (i := 47) (j := 17) rfl rfl) (rz_mem (i := 47) (j := 18) rfl rfl) (rz_mem (i := 32) (j := 8) rfl rfl) (rz_mem (i := 47) (j := 19) rfl rfl) ⟨rfl, by decide, by decide, by decide +kernel⟩ rfl rfl ⟨by decide, by decide⟩) rfl dX12_inClass_26 hk) ?_
  refine rz_All_c (i := 18) (fun k J hk hJ => rz_ifeq_ok (pc := 29) hx hb dX12_inClass_29 rfl hk (hJ 21)) ?_
  refine rz_All_c (i := 19) (fun k J hk hJ => rz_iload_ok (pc := 32) hx hb dX12_inClass_32 hk) ?_
  refine rz_All_c (i := 20) (fun k J hk hJ => rz_iret_ok (pc := 34) hC dX12_inClass_34) ?_
  refine rz_All_c (i := 21) (fun k J hk hJ => rz_no_ok) ?_
  refine rz_All_c (i := 22) (fun k J hk hJ => rz_no_ok) ?_
  exact trivial
theorem dX12_methodFound_0 : decode cX12_methodFound 0 = .ok (.iload_n 1, 1) := by decide +kernel
theorem dX12_methodFound_1 : decode cX12_methodFound 1 = .ok (.istore 4, 2) := by decide +kernel
theorem dX12_methodFound_3 : decode cX12_methodFound 3 = .ok (.iload 4, 2) := by decide +kernel
theorem dX12_methodFound_5 : decode cX12_methodFound 5 = .ok (.ifCond .lt 36, 3) := by decide +kernel
theorem dX12_methodFound_8 : decode cX12_methodFound 8 = .ok (.aload_n 0, 1) := by decide +kernel
theorem dX12_methodFound_9 : decode cX12_methodFound 9 = .ok (.iload 4, 2) := by decide +kernel
theorem dX12_methodFound_11 : decode cX12_methodFound 11 = .ok (.iload_n 2, 1) := by decide +kernel
theorem dX12_methodFound_12 : decode cX12_methodFound 12 = .ok (.iload_n 3, 1) := by decide +kernel
theorem dX12_methodFound_13 : decode cX12_methodFound 13 = .ok (.invokevirtual 821, 3) := by decide +kernel
theorem dX12_methodFound_16 : decode cX12_methodFound 16 = .ok (.iconst (-1), 1) := by decide +kernel
theorem dX12_methodFound_17 : decode cX12_methodFound 17 = .ok (.if_icmp .eq 12, 3) := by decide +kernel
theorem dX12_methodFound_20 : decode cX12_methodFound 20 = .ok (.aload_n 0, 1) := by decide +kernel
theorem dX12_methodFound_21 : decode cX12_methodFound 21 = .ok (.iload 4, 2) := by decide +kernel
theorem dX12_methodFound_23 : decode cX12_methodFound 23 = .ok (.iload_n 2, 1) := by decide +kernel
theorem dX12_methodFound_24 : decode cX12_methodFound 24 = .ok (.iload_n 3, 1) := by decide +kernel
theorem dX12_methodFound_25 : decode cX12_methodFound 25 = .ok (.invokevirtual 821, 3) := by decide +kernel
theorem dX12_methodFound_28 : decode cX12_methodFound 28 = .ok (.ireturn, 1) := by decide +kernel
def rpX12_methodFound : List Nat := [0, 1, 3, 5, 8, 9, 11, 12, 13, 16, 17, 20, 21, 23, 24, 25, 28, 29, 41]
noncomputable def rcX12_methodFound : List rz_B := [rz_iload 1, rz_istore 4, rz_iload 4, rz_iflt 18, rz_aload 0, rz_iload 4, rz_iload 2, rz_iload 3, rz_callV 3 (Nat.add (Nat.mul 256 14) 1) rgX12_inClass, rz_cst 4294967295, rz_icmpeq 17, rz_aload 0, rz_iload 4, rz_iload 2, rz_iload 3, rz_callV 3 (Nat.add (Nat.mul 256 14) 1) rgX12_inClass, rz_iret, rz_no, rz_no]
noncomputable def rgX12_methodFound : rz_L → rz_M → rz_Z → Bool := rz_go rcX12_methodFound 5 1000000
def rrX12_methodFound : Room := { frames := 3, cells := 0, slots := 0, locals := 75 }
theorem rmX12_methodFound (l : Launch) {G : rz_G} (hG : rz_Gd G) (vs : rz_L) (M : rz_M) (Z : rz_Z) (hn : vs.length = 4) (h : rgX12_methodFound vs M Z = true) : Met l yX12_methodFound (Cond.code yX12_methodFound cX12_methodFound 5 (some .int) :: rz_TB) rrX12_methodFound (rz_Pre G vs M) (rz_Qi G M.2 Z) 0 0 (fun q => rz_b G ≤ q) := by
  obtain ⟨D, tc, ad, b, xs, rfl⟩ := id hG
  refine rz_body (pcs := rpX12_methodFound) (by decide) rfl (by rw [hn]; decide) h ?_
  intro p e R s m args below meth c hC
  obtain ⟨hx, hb, hml, hr, hlk, ho, hts, hKn, hRm⟩ := id hC
  obtain ⟨hK, hA, hSt⟩ := id hKn
  have hw : ∀ {i j : Nat} {ws : List Cond} {w : Cond}, rz_WW[i]? = some ws → ws[j]? = some w → w.before args s = true := fun h1 h2 => hts _ (List.mem_cons_of_mem _ (rz_mem h1 h2))
  refine rz_All_c (i := 0) (fun k J hk hJ => rz_iload_n_ok (pc := 0) hx hb dX12_methodFound_0 rfl hk) ?_
  refine rz_All_c (i := 1) (fun k J hk hJ => rz_istore_ok (pc := 1) hx hb dX12_methodFound_1 hk) ?_
  refine rz_All_c (i := 2) (fun k J hk hJ => rz_iload_ok (pc := 3) hx hb dX12_methodFound_3 hk) ?_
  refine rz_All_c (i := 3) (fun k J hk hJ => rz_iflt_ok (pc := 5) hx hb dX12_methodFound_5 rfl hk (hJ 18)) ?_
  refine rz_All_c (i := 4) (fun k J hk hJ => rz_aload_n_ok (pc := 8) hx hb dX12_methodFound_8 rfl hk) ?_
  refine rz_All_c (i := 5) (fun k J hk hJ => rz_iload_ok (pc := 9) hx hb dX12_methodFound_9 hk) ?_
  refine rz_All_c (i := 6) (fun k J hk hJ => rz_iload_n_ok (pc := 11) hx hb dX12_methodFound_11 rfl hk) ?_
  refine rz_All_c (i := 7) (fun k J hk hJ => rz_iload_n_ok (pc := 12) hx hb dX12_methodFound_12 rfl hk) ?_
  refine rz_All_c (i := 8) (fun k J hk hJ => rz_callV_ok (pc := 13) (own := RX12) (C := RX12) (T0 := TX12) (N0 := 257) hC rfl (rmX12_inClass l hG) (rz_cwV 3 hC rz_good (rz_mem (i := 47) (j := 12) rfl rfl) (rz_mem (i := 47) (j := 13) rfl rfl) (rz_mem (i := 47) (j := 14) rfl rfl) (rz_mem (i := 32) (j := 8) rfl rfl) (rz_mem (i := 47) (j := 15) rfl rfl) ⟨rfl, by decide, by decide, by decide +kernel⟩ rfl rfl ⟨by decide, by decide⟩) rfl dX12_methodFound_13 hk) ?_
  refine rz_All_c (i := 9) (fun k J hk hJ => rz_iconst_ok (pc := 16) hx hb dX12_methodFound_16 rfl hk) ?_
  refine rz_All_c (i := 10) (fun k J hk hJ => rz_icmpeq_ok (pc := 17) hx hb dX12_methodFound_17 rfl hk (hJ 17)) ?_
  refine rz_All_c (i := 11) (fun k J hk hJ => rz_aload_n_ok (pc := 20) hx hb dX12_methodFound_20 rfl hk) ?_
  refine rz_All_c (i := 12) (fun k J hk hJ => rz_iload_ok (pc := 21) hx hb dX12_methodFound_21 hk) ?_
  refine rz_All_c (i := 13) (fun k J hk hJ => rz_iload_n_ok (pc := 23) hx hb dX12_methodFound_23 rfl hk) ?_
  refine rz_All_c (i := 14) (fun k J hk hJ => rz_iload_n_ok (pc := 24) hx hb dX12_methodFound_24 rfl hk) ?_
  refine rz_All_c (i := 15) (fun k J hk hJ => rz_callV_ok (pc := 25) (own := RX12) (C := RX12) (T0 := TX12) (N0 := 257) hC rfl (rmX12_inClass l hG) (rz_cwV 3 hC rz_good (rz_mem (i := 47) (j := 12) rfl rfl) (rz_mem (i := 47) (j := 13) rfl rfl) (rz_mem (i := 47) (j := 14) rfl rfl) (rz_mem (i := 32) (j := 8) rfl rfl) (rz_mem (i := 47) (j := 15) rfl rfl) ⟨rfl, by decide, by decide, by decide +kernel⟩ rfl rfl ⟨by decide, by decide⟩) rfl dX12_methodFound_25 hk) ?_
  refine rz_All_c (i := 16) (fun k J hk hJ => rz_iret_ok (pc := 28) hC dX12_methodFound_28) ?_
  refine rz_All_c (i := 17) (fun k J hk hJ => rz_no_ok) ?_
  refine rz_All_c (i := 18) (fun k J hk hJ => rz_no_ok) ?_
  exact trivial
theorem dX12_methodOfCode_0 : decode cX12_methodOfCode 0 = .ok (.aload_n 0, 1) := by decide +kernel
theorem dX12_methodOfCode_1 : decode cX12_methodOfCode 1 = .ok (.aload_n 0, 1) := by decide +kernel
theorem dX12_methodOfCode_2 : decode cX12_methodOfCode 2 = .ok (.getfield 117, 3) := by decide +kernel
theorem dX12_methodOfCode_5 : decode cX12_methodOfCode 5 = .ok (.iload_n 1, 1) := by decide +kernel
theorem dX12_methodOfCode_6 : decode cX12_methodOfCode 6 = .ok (.iaload, 1) := by decide +kernel
theorem dX12_methodOfCode_7 : decode cX12_methodOfCode 7 = .ok (.aload_n 0, 1) := by decide +kernel
theorem dX12_methodOfCode_8 : decode cX12_methodOfCode 8 = .ok (.getfield 120, 3) := by decide +kernel
theorem dX12_methodOfCode_11 : decode cX12_methodOfCode 11 = .ok (.iload_n 1, 1) := by decide +kernel
theorem dX12_methodOfCode_12 : decode cX12_methodOfCode 12 = .ok (.iaload, 1) := by decide +kernel
theorem dX12_methodOfCode_13 : decode cX12_methodOfCode 13 = .ok (.invokevirtual 761, 3) := by decide +kernel
theorem dX12_methodOfCode_16 : decode cX12_methodOfCode 16 = .ok (.istore_n 2, 1) := by decide +kernel
theorem dX12_methodOfCode_17 : decode cX12_methodOfCode 17 = .ok (.aload_n 0, 1) := by decide +kernel
theorem dX12_methodOfCode_18 : decode cX12_methodOfCode 18 = .ok (.getfield 186, 3) := by decide +kernel
theorem dX12_methodOfCode_21 : decode cX12_methodOfCode 21 = .ok (.iload_n 1, 1) := by decide +kernel
theorem dX12_methodOfCode_22 : decode cX12_methodOfCode 22 = .ok (.iload_n 2, 1) := by decide +kernel
theorem dX12_methodOfCode_23 : decode cX12_methodOfCode 23 = .ok (.iastore, 1) := by decide +kernel
theorem dX12_methodOfCode_24 : decode cX12_methodOfCode 24 = .ok (.aload_n 0, 1) := by decide +kernel
theorem dX12_methodOfCode_25 : decode cX12_methodOfCode 25 = .ok (.aload_n 0, 1) := by decide +kernel
theorem dX12_methodOfCode_26 : decode cX12_methodOfCode 26 = .ok (.getfield 129, 3) := by decide +kernel
theorem dX12_methodOfCode_29 : decode cX12_methodOfCode 29 = .ok (.iload_n 1, 1) := by decide +kernel
theorem dX12_methodOfCode_30 : decode cX12_methodOfCode 30 = .ok (.iaload, 1) := by decide +kernel
theorem dX12_methodOfCode_31 : decode cX12_methodOfCode 31 = .ok (.putfield 814, 3) := by decide +kernel
theorem dX12_methodOfCode_34 : decode cX12_methodOfCode 34 = .ok (.iconst 0, 1) := by decide +kernel
theorem dX12_methodOfCode_35 : decode cX12_methodOfCode 35 = .ok (.istore_n 3, 1) := by decide +kernel
theorem dX12_methodOfCode_36 : decode cX12_methodOfCode 36 = .ok (.iload_n 3, 1) := by decide +kernel
theorem dX12_methodOfCode_37 : decode cX12_methodOfCode 37 = .ok (.aload_n 0, 1) := by decide +kernel
theorem dX12_methodOfCode_38 : decode cX12_methodOfCode 38 = .ok (.getfield 814, 3) := by decide +kernel
theorem dX12_methodOfCode_41 : decode cX12_methodOfCode 41 = .ok (.if_icmp .ge 29, 3) := by decide +kernel
theorem dX12_methodOfCode_70 : decode cX12_methodOfCode 70 = .ok (.iload_n 2, 1) := by decide +kernel
theorem dX12_methodOfCode_71 : decode cX12_methodOfCode 71 = .ok (.iconst (-1), 1) := by decide +kernel
theorem dX12_methodOfCode_72 : decode cX12_methodOfCode 72 = .ok (.if_icmp .ne 7, 3) := by decide +kernel
theorem dX12_methodOfCode_79 : decode cX12_methodOfCode 79 = .ok (.aload_n 0, 1) := by decide +kernel
theorem dX12_methodOfCode_80 : decode cX12_methodOfCode 80 = .ok (.iload_n 2, 1) := by decide +kernel
theorem dX12_methodOfCode_81 : decode cX12_methodOfCode 81 = .ok (.aload_n 0, 1) := by decide +kernel
theorem dX12_methodOfCode_82 : decode cX12_methodOfCode 82 = .ok (.getfield 123, 3) := by decide +kernel
theorem dX12_methodOfCode_85 : decode cX12_methodOfCode 85 = .ok (.iload_n 1, 1) := by decide +kernel
theorem dX12_methodOfCode_86 : decode cX12_methodOfCode 86 = .ok (.iaload, 1) := by decide +kernel
theorem dX12_methodOfCode_87 : decode cX12_methodOfCode 87 = .ok (.aload_n 0, 1) := by decide +kernel
theorem dX12_methodOfCode_88 : decode cX12_methodOfCode 88 = .ok (.getfield 126, 3) := by decide +kernel
theorem dX12_methodOfCode_91 : decode cX12_methodOfCode 91 = .ok (.iload_n 1, 1) := by decide +kernel
theorem dX12_methodOfCode_92 : decode cX12_methodOfCode 92 = .ok (.iaload, 1) := by decide +kernel
theorem dX12_methodOfCode_93 : decode cX12_methodOfCode 93 = .ok (.invokevirtual 837, 3) := by decide +kernel
theorem dX12_methodOfCode_96 : decode cX12_methodOfCode 96 = .ok (.istore_n 3, 1) := by decide +kernel
theorem dX12_methodOfCode_97 : decode cX12_methodOfCode 97 = .ok (.iload_n 3, 1) := by decide +kernel
theorem dX12_methodOfCode_98 : decode cX12_methodOfCode 98 = .ok (.iconst (-1), 1) := by decide +kernel
theorem dX12_methodOfCode_99 : decode cX12_methodOfCode 99 = .ok (.if_icmp .eq 24, 3) := by decide +kernel
theorem dX12_methodOfCode_102 : decode cX12_methodOfCode 102 = .ok (.aload_n 0, 1) := by decide +kernel
theorem dX12_methodOfCode_103 : decode cX12_methodOfCode 103 = .ok (.getfield 177, 3) := by decide +kernel
theorem dX12_methodOfCode_106 : decode cX12_methodOfCode 106 = .ok (.iload_n 3, 1) := by decide +kernel
theorem dX12_methodOfCode_107 : decode cX12_methodOfCode 107 = .ok (.iaload, 1) := by decide +kernel
theorem dX12_methodOfCode_108 : decode cX12_methodOfCode 108 = .ok (.aload_n 0, 1) := by decide +kernel
theorem dX12_methodOfCode_109 : decode cX12_methodOfCode 109 = .ok (.sipush 1100, 3) := by decide +kernel
theorem dX12_methodOfCode_112 : decode cX12_methodOfCode 112 = .ok (.bipush 8, 2) := by decide +kernel
theorem dX12_methodOfCode_114 : decode cX12_methodOfCode 114 = .ok (.iload_n 1, 1) := by decide +kernel
theorem dX12_methodOfCode_115 : decode cX12_methodOfCode 115 = .ok (.imul, 1) := by decide +kernel
theorem dX12_methodOfCode_116 : decode cX12_methodOfCode 116 = .ok (.iadd, 1) := by decide +kernel
theorem dX12_methodOfCode_117 : decode cX12_methodOfCode 117 = .ok (.invokevirtual 787, 3) := by decide +kernel
theorem dX12_methodOfCode_120 : decode cX12_methodOfCode 120 = .ok (.if_icmp .eq 7, 3) := by decide +kernel
theorem dX12_methodOfCode_127 : decode cX12_methodOfCode 127 = .ok (.iload_n 3, 1) := by decide +kernel
theorem dX12_methodOfCode_128 : decode cX12_methodOfCode 128 = .ok (.ireturn, 1) := by decide +kernel
def rpX12_methodOfCode : List Nat := [0, 1, 2, 5, 6, 7, 8, 11, 12, 13, 16, 17, 18, 21, 22, 23, 24, 25, 26, 29, 30, 31, 34, 35, 36, 37, 38, 41, 44, 70, 71, 72, 75, 79, 80, 81, 82, 85, 86, 87, 88, 91, 92, 93, 96, 97, 98, 99, 102, 103, 106, 107, 108, 109, 112, 114, 115, 116, 117, 120, 123, 127, 128]
noncomputable def rcX12_methodOfCode : List rz_B := [rz_aload 0, rz_aload 0, rz_getf (Nat.add (Nat.mul 256 14) 1) 49 rz_r, rz_iload 1, rz_iald, rz_aload 0, rz_getf (Nat.add (Nat.mul 256 14) 1) 50 rz_r, rz_iload 1, rz_iald, rz_callV 2 (Nat.add (Nat.mul 256 14) 1) rgX12_classNamed, rz_istore 2, rz_aload 0, rz_getf (Nat.add (Nat.mul 256 14) 1) 79 rz_r, rz_iload 1, rz_iload 2, rz_iast, rz_aload 0, rz_aload 0, rz_getf (Nat.add (Nat.mul 256 14) 1) 53 rz_r, rz_iload 1, rz_iald, rz_putf (Nat.add (Nat.mul 256 14) 1) 85 rz_unI, rz_cst 0, rz_istore 3, rz_iload 3, rz_aload 0, rz_getf (Nat.add (Nat.mul 256 14) 1) 85 rz_i, rz_icmpge 29, rz_no, rz_iload 2, rz_cst 4294967295, rz_icmpne 33, rz_no, rz_aload 0, rz_iload 2, rz_aload 0, rz_getf (Nat.add (Nat.mul 256 14) 1) 51 rz_r, rz_iload 1, rz_iald, rz_aload 0, rz_getf (Nat.add (Nat.mul 256 14) 1) 52 rz_r, rz_iload 1, rz_iald, rz_callV 3 (Nat.add (Nat.mul 256 14) 1) rgX12_methodFound, rz_istore 3, rz_iload 3, rz_cst 4294967295, rz_icmpeq 60, rz_aload 0, rz_getf (Nat.add (Nat.mul 256 14) 1) 75 rz_r, rz_iload 3, rz_iald, rz_aload 0, rz_cst 1100, rz_cst 8, rz_iload 1, rz_imul, rz_iadd, rz_callV 1 (Nat.add (Nat.mul 256 14) 1) rgX12_codeOf, rz_icmpeq 61, rz_no, rz_iload 3, rz_iret]
noncomputable def rgX12_methodOfCode : rz_L → rz_M → rz_Z → Bool := rz_go rcX12_methodOfCode 4 1000000
def rrX12_methodOfCode : Room := { frames := 6, cells := 0, slots := 0, locals := 174 }
theorem rmX12_methodOfCode (l : Launch) {G : rz_G} (hG : rz_Gd G) (vs : rz_L) (M : rz_M) (Z : rz_Z) (hn : vs.length = 2) (h : rgX12_methodOfCode vs M Z = true) : Met l yX12_methodOfCode (Cond.code yX12_methodOfCode cX12_methodOfCode 4 (some .int) :: rz_TB) rrX12_methodOfCode (rz_Pre G vs M) (rz_Qi G M.2 Z) 0 0 (fun q => rz_b G ≤ q) := by
  obtain ⟨D, tc, ad, b, xs, rfl⟩ := id hG
  refine rz_body (pcs := rpX12_methodOfCode) (by decide) rfl (by rw [hn]; decide) h ?_
  intro p e R s m args below meth c hC
  obtain ⟨hx, hb, hml, hr, hlk, ho, hts, hKn, hRm⟩ := id hC
  obtain ⟨hK, hA, hSt⟩ := id hKn
  have hw : ∀ {i j : Nat} {ws : List Cond} {w : Cond}, rz_WW[i]? = some ws → ws[j]? = some w → w.before args s = true := fun h1 h2 => hts _ (List.mem_cons_of_mem _ (rz_mem h1 h2))
  refine rz_All_c (i := 0) (fun k J hk hJ => rz_aload_n_ok (pc := 0) hx hb dX12_methodOfCode_0 rfl hk) ?_
  refine rz_All_c (i := 1) (fun k J hk hJ => rz_aload_n_ok (pc := 1) hx hb dX12_methodOfCode_1 rfl hk) ?_
  refine rz_All_c (i := 2) (fun k J hk hJ => rz_getf_ok (pc := 2) (own := RX12) (ref := "ThreadJudgeModel") (C := RX12) (T := TX12) (N := 257) (ci := 14) (index := 117) (f := 49) (t := 2) (Ts := Cond.code yX12_methodOfCode cX12_methodOfCode 4 (some .int) :: rz_TB) hx hb hts rz_in14 ho hK rfl (by decide) rfl (fun _ => rfl) (hw (i := 42) (j := 2) rfl rfl) (fun _ z => z) dX12_methodOfCode_2 hk) ?_
  refine rz_All_c (i := 3) (fun k J hk hJ => rz_iload_n_ok (pc := 5) hx hb dX12_methodOfCode_5 rfl hk) ?_
  refine rz_All_c (i := 4) (fun k J hk hJ => rz_iald_ok (pc := 6) hx hb hK dX12_methodOfCode_6 hk) ?_
  refine rz_All_c (i := 5) (fun k J hk hJ => rz_aload_n_ok (pc := 7) hx hb dX12_methodOfCode_7 rfl hk) ?_
  refine rz_All_c (i := 6) (fun k J hk hJ => rz_getf_ok (pc := 8) (own := RX12) (ref := "ThreadJudgeModel") (C := RX12) (T := TX12) (N := 257) (ci := 14) (index := 120) (f := 50) (t := 2) (Ts := Cond.code yX12_methodOfCode cX12_methodOfCode 4 (some .int) :: rz_TB) hx hb hts rz_in14 ho hK rfl (by decide) rfl (fun _ => rfl) (hw (i := 42) (j := 3) rfl rfl) (fun _ z => z) dX12_methodOfCode_8 hk) ?_
  refine rz_All_c (i := 7) (fun k J hk hJ => rz_iload_n_ok (pc := 11) hx hb dX12_methodOfCode_11 rfl hk) ?_
  refine rz_All_c (i := 8) (fun k J hk hJ => rz_iald_ok (pc := 12) hx hb hK dX12_methodOfCode_12 hk) ?_
  refine rz_All_c (i := 9) (fun k J hk hJ => rz_callV_ok (pc := 13) (own := RX12) (C := RX12) (T0 := TX12) (N0 := 257) hC rfl (rmX12_classNamed l hG) (rz_cwV 2 hC rz_good (rz_mem (i := 42) (j := 22) rfl rfl) (rz_mem (i := 42) (j := 23) rfl rfl) (rz_mem (i := 43) (j := 0) rfl rfl) (rz_mem (i := 32) (j := 8) rfl rfl) (rz_mem (i := 43) (j := 1) rfl rfl) ⟨rfl, by decide, by decide, by decide +kernel⟩ rfl rfl ⟨by decide, by decide⟩) rfl dX12_methodOfCode_13 hk) ?_
  refine rz_All_c (i := 10) (fun k J hk hJ => rz_istore_n_ok (pc := 16) hx hb dX12_methodOfCode_16 rfl hk) ?_
  refine rz_All_c (i := 11) (fun k J hk hJ => rz_aload_n_ok (pc := 17) hx hb dX12_methodOfCode_17 rfl hk) ?_
  refine rz_All_c (i := 12) (fun k J hk hJ => rz_getf_ok (pc := 18) (own := RX12) (ref := "ThreadJudgeModel") (C := RX12) (T := TX12) (N := 257) (ci := 14) (index := 186) (f := 79) (t := 2) (Ts := Cond.code yX12_methodOfCode cX12_methodOfCode 4 (some .int) :: rz_TB) hx hb hts rz_in14 ho hK rfl (by decide) rfl (fun _ => rfl) (hw (i := 47) (j := 5) rfl rfl) (fun _ z => z) dX12_methodOfCode_18 hk) ?_
  refine rz_All_c (i := 13) (fun k J hk hJ => rz_iload_n_ok (pc := 21) hx hb dX12_methodOfCode_21 rfl hk) ?_
  refine rz_All_c (i := 14) (fun k J hk hJ => rz_iload_n_ok (pc := 22) hx hb dX12_methodOfCode_22 rfl hk) ?_
  refine rz_All_c (i := 15) (fun k J hk hJ => rz_iast_ok (pc := 23) hx hb hK hA dX12_methodOfCode_23 hk) ?_
  refine rz_All_c (i := 16) (fun k J hk hJ => rz_aload_n_ok (pc := 24) hx hb dX12_methodOfCode_24 rfl hk) ?_
  refine rz_All_c (i := 17) (fun k J hk hJ => rz_aload_n_ok (pc := 25) hx hb dX12_methodOfCode_25 rfl hk) ?_
  refine rz_All_c (i := 18) (fun k J hk hJ => rz_getf_ok (pc := 26) (own := RX12) (ref := "ThreadJudgeModel") (C := RX12) (T := TX12) (N := 257) (ci := 14) (index := 129) (f := 53) (t := 2) (Ts := Cond.code yX12_methodOfCode cX12_methodOfCode 4 (some .int) :: rz_TB) hx hb hts rz_in14 ho hK rfl (by decide) rfl (fun _ => rfl) (hw (i := 42) (j := 8) rfl rfl) (fun _ z => z) dX12_methodOfCode_26 hk) ?_
  refine rz_All_c (i := 19) (fun k J hk hJ => rz_iload_n_ok (pc := 29) hx hb dX12_methodOfCode_29 rfl hk) ?_
  refine rz_All_c (i := 20) (fun k J hk hJ => rz_iald_ok (pc := 30) hx hb hK dX12_methodOfCode_30 hk) ?_
  refine rz_All_c (i := 21) (fun k J hk hJ => rz_putf_ok (pc := 31) (own := RX12) (ref := "ThreadJudgeModel") (C := RX12) (T := TX12) (N := 257) (ci := 14) (index := 814) (f := 85) (t := 0) (Ts := Cond.code yX12_methodOfCode cX12_methodOfCode 4 (some .int) :: rz_TB) hx hb hts rz_in14 tyX12 tyX12_ok nmX12 ho hK hA rfl (by decide) rfl (rz_UnI _) rfl (tyX12_ok 85 (by decide)) (hw (i := 47) (j := 6) rfl rfl) (fun _ z => z) dX12_methodOfCode_31 hk) ?_
  refine rz_All_c (i := 22) (fun k J hk hJ => rz_iconst_ok (pc := 34) hx hb dX12_methodOfCode_34 rfl hk) ?_
  refine rz_All_c (i := 23) (fun k J hk hJ => rz_istore_n_ok (pc := 35) hx hb dX12_methodOfCode_35 rfl hk) ?_
  refine rz_All_c (i := 24) (fun k J hk hJ => rz_iload_n_ok (pc := 36) hx hb dX12_methodOfCode_36 rfl hk) ?_
  refine rz_All_c (i := 25) (fun k J hk hJ => rz_aload_n_ok (pc := 37) hx hb dX12_methodOfCode_37 rfl hk) ?_
  refine rz_All_c (i := 26) (fun k J hk hJ => rz_getf_ok (pc := 38) (own := RX12) (ref := "ThreadJudgeModel") (C := RX12) (T := TX12) (N := 257) (ci := 14) (index := 814) (f := 85) (t := 0) (Ts := Cond.code yX12_methodOfCode cX12_methodOfCode 4 (some .int) :: rz_TB) hx hb hts rz_in14 ho hK rfl (by decide) rfl (fun _ => rfl) (hw (i := 47) (j := 6) rfl rfl) (fun _ z => z) dX12_methodOfCode_38 hk) ?_
  refine rz_All_c (i := 27) (fun k J hk hJ => rz_icmpge_ok (pc := 41) hx hb dX12_methodOfCode_41 rfl hk (hJ 29)) ?_
  refine rz_All_c (i := 28) (fun k J hk hJ => rz_no_ok) ?_
  refine rz_All_c (i := 29) (fun k J hk hJ => rz_iload_n_ok (pc := 70) hx hb dX12_methodOfCode_70 rfl hk) ?_
  refine rz_All_c (i := 30) (fun k J hk hJ => rz_iconst_ok (pc := 71) hx hb dX12_methodOfCode_71 rfl hk) ?_
  refine rz_All_c (i := 31) (fun k J hk hJ => rz_icmpne_ok (pc := 72) hx hb dX12_methodOfCode_72 rfl hk (hJ 33)) ?_
  refine rz_All_c (i := 32) (fun k J hk hJ => rz_no_ok) ?_
  refine rz_All_c (i := 33) (fun k J hk hJ => rz_aload_n_ok (pc := 79) hx hb dX12_methodOfCode_79 rfl hk) ?_
  refine rz_All_c (i := 34) (fun k J hk hJ => rz_iload_n_ok (pc := 80) hx hb dX12_methodOfCode_80 rfl hk) ?_
  refine rz_All_c (i := 35) (fun k J hk hJ => rz_aload_n_ok (pc := 81) hx hb dX12_methodOfCode_81 rfl hk) ?_
  refine rz_All_c (i := 36) (fun k J hk hJ => rz_getf_ok (pc := 82) (own := RX12) (ref := "ThreadJudgeModel") (C := RX12) (T := TX12) (N := 257) (ci := 14) (index := 123) (f := 51) (t := 2) (Ts := Cond.code yX12_methodOfCode cX12_methodOfCode 4 (some .int) :: rz_TB) hx hb hts rz_in14 ho hK rfl (by decide) rfl (fun _ => rfl) (hw (i := 42) (j := 0) rfl rfl) (fun _ z => z) dX12_methodOfCode_82 hk) ?_
  refine rz_All_c (i := 37) (fun k J hk hJ => rz_iload_n_ok (pc := 85) hx hb dX12_methodOfCode_85 rfl hk) ?_
  refine rz_All_c (i := 38) (fun k J hk hJ => rz_iald_ok (pc := 86) hx hb hK dX12_methodOfCode_86 hk) ?_
  refine rz_All_c (i := 39) (fun k J hk hJ => rz_aload_n_ok (pc := 87) hx hb dX12_methodOfCode_87 rfl hk) ?_
  refine rz_All_c (i := 40) (fun k J hk hJ => rz_getf_ok (pc := 88) (own := RX12) (ref := "ThreadJudgeModel") (C := RX12) (T := TX12) (N := 257) (ci := 14) (index := 126) (f := 52) (t := 2) (Ts := Cond.code yX12_methodOfCode cX12_methodOfCode 4 (some .int) :: rz_TB) hx hb hts rz_in14 ho hK rfl (by decide) rfl (fun _ => rfl) (hw (i := 42) (j := 1) rfl rfl) (fun _ z => z) dX12_methodOfCode_88 hk) ?_
  refine rz_All_c (i := 41) (fun k J hk hJ => rz_iload_n_ok (pc := 91) hx hb dX12_methodOfCode_91 rfl hk) ?_
  refine rz_All_c (i := 42) (fun k J hk hJ => rz_iald_ok (pc := 92) hx hb hK dX12_methodOfCode_92 hk) ?_
  refine rz_All_c (i := 43) (fun k J hk hJ => rz_callV_ok (pc := 93) (own := RX12) (C := RX12) (T0 := TX12) (N0 := 257) hC rfl (rmX12_methodFound l hG) (rz_cwV 3 hC rz_good (rz_mem (i := 47) (j := 8) rfl rfl) (rz_mem (i := 47) (j := 9) rfl rfl) (rz_mem (i := 47) (j := 10) rfl rfl) (rz_mem (i := 32) (j := 8) rfl rfl) (rz_mem (i := 47) (j := 11) rfl rfl) ⟨rfl, by decide, by decide, by decide +kernel⟩ rfl rfl ⟨by decide, by decide⟩) rfl dX12_methodOfCode_93 hk) ?_
  refine rz_All_c (i := 44) (fun k J hk hJ => rz_istore_n_ok (pc := 96) hx hb dX12_methodOfCode_96 rfl hk) ?_
  refine rz_All_c (i := 45) (fun k J hk hJ => rz_iload_n_ok (pc := 97) hx hb dX12_methodOfCode_97 rfl hk) ?_
  refine rz_All_c (i := 46) (fun k J hk hJ => rz_iconst_ok (pc := 98) hx hb dX12_methodOfCode_98 rfl hk) ?_
  refine rz_All_c (i := 47) (fun k J hk hJ => rz_icmpeq_ok (pc := 99) hx hb dX12_methodOfCode_99 rfl hk (hJ 60)) ?_
  refine rz_All_c (i := 48) (fun k J hk hJ => rz_aload_n_ok (pc := 102) hx hb dX12_methodOfCode_102 rfl hk) ?_
  refine rz_All_c (i := 49) (fun k J hk hJ => rz_getf_ok (pc := 103) (own := RX12) (ref := "ThreadJudgeModel") (C := RX12) (T := TX12) (N := 257) (ci := 14) (index := 177) (f := 75) (t := 2) (Ts := Cond.code yX12_methodOfCode cX12_methodOfCode 4 (some .int) :: rz_TB) hx hb hts rz_in14 ho hK rfl (by decide) rfl (fun _ => rfl) (hw (i := 42) (j := 15) rfl rfl) (fun _ z => z) dX12_methodOfCode_103 hk) ?_
  refine rz_All_c (i := 50) (fun k J hk hJ => rz_iload_n_ok (pc := 106) hx hb dX12_methodOfCode_106 rfl hk) ?_
  refine rz_All_c (i := 51) (fun k J hk hJ => rz_iald_ok (pc := 107) hx hb hK dX12_methodOfCode_107 hk) ?_
  refine rz_All_c (i := 52) (fun k J hk hJ => rz_aload_n_ok (pc := 108) hx hb dX12_methodOfCode_108 rfl hk) ?_
  refine rz_All_c (i := 53) (fun k J hk hJ => rz_sipush_ok (pc := 109) hx hb dX12_methodOfCode_109 (by decide) hk) ?_
  refine rz_All_c (i := 54) (fun k J hk hJ => rz_bipush_ok (pc := 112) hx hb dX12_methodOfCode_112 (by decide) hk) ?_
  refine rz_All_c (i := 55) (fun k J hk hJ => rz_iload_n_ok (pc := 114) hx hb dX12_methodOfCode_114 rfl hk) ?_
  refine rz_All_c (i := 56) (fun k J hk hJ => rz_imul_ok (pc := 115) hx hb dX12_methodOfCode_115 hk) ?_
  refine rz_All_c (i := 57) (fun k J hk hJ => rz_iadd_ok (pc := 116) hx hb dX12_methodOfCode_116 hk) ?_
  refine rz_All_c (i := 58) (fun k J hk hJ => rz_callV_ok (pc := 117) (own := RX12) (C := RX12) (T0 := TX12) (N0 := 257) hC rfl (rmX12_codeOf l hG) (rz_cwV 1 hC rz_good (rz_mem (i := 44) (j := 1) rfl rfl) (rz_mem (i := 44) (j := 2) rfl rfl) (rz_mem (i := 44) (j := 3) rfl rfl) (rz_mem (i := 32) (j := 8) rfl rfl) (rz_mem (i := 44) (j := 4) rfl rfl) ⟨rfl, by decide, by decide, by decide +kernel⟩ rfl rfl ⟨by decide, by decide⟩) rfl dX12_methodOfCode_117 hk) ?_
  refine rz_All_c (i := 59) (fun k J hk hJ => rz_icmpeq_ok (pc := 120) hx hb dX12_methodOfCode_120 rfl hk (hJ 61)) ?_
  refine rz_All_c (i := 60) (fun k J hk hJ => rz_no_ok) ?_
  refine rz_All_c (i := 61) (fun k J hk hJ => rz_iload_n_ok (pc := 127) hx hb dX12_methodOfCode_127 rfl hk) ?_
  refine rz_All_c (i := 62) (fun k J hk hJ => rz_iret_ok (pc := 128) hC dX12_methodOfCode_128) ?_
  exact trivial
