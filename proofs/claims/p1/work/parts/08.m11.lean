/-! Methods: handlers, facts, contracts. -/
theorem dX12_isTorn_0 : decode cX12_isTorn 0 = .ok (.iconst 0, 1) := by decide +kernel
theorem dX12_isTorn_1 : decode cX12_isTorn 1 = .ok (.istore_n 2, 1) := by decide +kernel
theorem dX12_isTorn_2 : decode cX12_isTorn 2 = .ok (.iload_n 2, 1) := by decide +kernel
theorem dX12_isTorn_3 : decode cX12_isTorn 3 = .ok (.aload_n 0, 1) := by decide +kernel
theorem dX12_isTorn_4 : decode cX12_isTorn 4 = .ok (.getfield 693, 3) := by decide +kernel
theorem dX12_isTorn_7 : decode cX12_isTorn 7 = .ok (.if_icmp .ge 188, 3) := by decide +kernel
theorem dX12_isTorn_10 : decode cX12_isTorn 10 = .ok (.aload_n 0, 1) := by decide +kernel
theorem dX12_isTorn_11 : decode cX12_isTorn 11 = .ok (.getfield 78, 3) := by decide +kernel
theorem dX12_isTorn_14 : decode cX12_isTorn 14 = .ok (.iload_n 2, 1) := by decide +kernel
theorem dX12_isTorn_15 : decode cX12_isTorn 15 = .ok (.iaload, 1) := by decide +kernel
theorem dX12_isTorn_16 : decode cX12_isTorn 16 = .ok (.istore_n 3, 1) := by decide +kernel
theorem dX12_isTorn_17 : decode cX12_isTorn 17 = .ok (.iload_n 3, 1) := by decide +kernel
theorem dX12_isTorn_18 : decode cX12_isTorn 18 = .ok (.iload_n 1, 1) := by decide +kernel
theorem dX12_isTorn_19 : decode cX12_isTorn 19 = .ok (.if_icmp .eq 45, 3) := by decide +kernel
theorem dX12_isTorn_22 : decode cX12_isTorn 22 = .ok (.aload_n 0, 1) := by decide +kernel
theorem dX12_isTorn_23 : decode cX12_isTorn 23 = .ok (.getfield 171, 3) := by decide +kernel
theorem dX12_isTorn_26 : decode cX12_isTorn 26 = .ok (.bipush 43, 2) := by decide +kernel
theorem dX12_isTorn_28 : decode cX12_isTorn 28 = .ok (.iload_n 1, 1) := by decide +kernel
theorem dX12_isTorn_29 : decode cX12_isTorn 29 = .ok (.imul, 1) := by decide +kernel
theorem dX12_isTorn_30 : decode cX12_isTorn 30 = .ok (.iload_n 3, 1) := by decide +kernel
theorem dX12_isTorn_31 : decode cX12_isTorn 31 = .ok (.iadd, 1) := by decide +kernel
theorem dX12_isTorn_32 : decode cX12_isTorn 32 = .ok (.baload, 1) := by decide +kernel
theorem dX12_isTorn_33 : decode cX12_isTorn 33 = .ok (.ifCond .eq 31, 3) := by decide +kernel
theorem dX12_isTorn_36 : decode cX12_isTorn 36 = .ok (.aload_n 0, 1) := by decide +kernel
theorem dX12_isTorn_37 : decode cX12_isTorn 37 = .ok (.iload_n 2, 1) := by decide +kernel
theorem dX12_isTorn_38 : decode cX12_isTorn 38 = .ok (.invokevirtual 799, 3) := by decide +kernel
theorem dX12_isTorn_41 : decode cX12_isTorn 41 = .ok (.ifCond .ne 23, 3) := by decide +kernel
theorem dX12_isTorn_44 : decode cX12_isTorn 44 = .ok (.aload_n 0, 1) := by decide +kernel
theorem dX12_isTorn_45 : decode cX12_isTorn 45 = .ok (.getfield 13, 3) := by decide +kernel
theorem dX12_isTorn_48 : decode cX12_isTorn 48 = .ok (.aload_n 0, 1) := by decide +kernel
theorem dX12_isTorn_49 : decode cX12_isTorn 49 = .ok (.getfield 69, 3) := by decide +kernel
theorem dX12_isTorn_52 : decode cX12_isTorn 52 = .ok (.iload_n 2, 1) := by decide +kernel
theorem dX12_isTorn_53 : decode cX12_isTorn 53 = .ok (.iaload, 1) := by decide +kernel
theorem dX12_isTorn_54 : decode cX12_isTorn 54 = .ok (.iaload, 1) := by decide +kernel
theorem dX12_isTorn_55 : decode cX12_isTorn 55 = .ok (.bipush 60, 2) := by decide +kernel
theorem dX12_isTorn_57 : decode cX12_isTorn 57 = .ok (.if_icmp .eq 7, 3) := by decide +kernel
theorem dX12_isTorn_60 : decode cX12_isTorn 60 = .ok (.iconst 1, 1) := by decide +kernel
theorem dX12_isTorn_61 : decode cX12_isTorn 61 = .ok (.goto 4, 3) := by decide +kernel
theorem dX12_isTorn_64 : decode cX12_isTorn 64 = .ok (.iconst 0, 1) := by decide +kernel
theorem dX12_isTorn_65 : decode cX12_isTorn 65 = .ok (.istore 4, 2) := by decide +kernel
theorem dX12_isTorn_67 : decode cX12_isTorn 67 = .ok (.iconst 0, 1) := by decide +kernel
theorem dX12_isTorn_68 : decode cX12_isTorn 68 = .ok (.istore 5, 2) := by decide +kernel
theorem dX12_isTorn_70 : decode cX12_isTorn 70 = .ok (.iload 5, 2) := by decide +kernel
theorem dX12_isTorn_72 : decode cX12_isTorn 72 = .ok (.iload_n 2, 1) := by decide +kernel
theorem dX12_isTorn_73 : decode cX12_isTorn 73 = .ok (.if_icmp .ge 116, 3) := by decide +kernel
theorem dX12_isTorn_76 : decode cX12_isTorn 76 = .ok (.iload 4, 2) := by decide +kernel
theorem dX12_isTorn_78 : decode cX12_isTorn 78 = .ok (.ifCond .eq 111, 3) := by decide +kernel
theorem dX12_isTorn_81 : decode cX12_isTorn 81 = .ok (.aload_n 0, 1) := by decide +kernel
theorem dX12_isTorn_82 : decode cX12_isTorn 82 = .ok (.getfield 78, 3) := by decide +kernel
theorem dX12_isTorn_85 : decode cX12_isTorn 85 = .ok (.iload 5, 2) := by decide +kernel
theorem dX12_isTorn_87 : decode cX12_isTorn 87 = .ok (.iaload, 1) := by decide +kernel
theorem dX12_isTorn_88 : decode cX12_isTorn 88 = .ok (.istore 6, 2) := by decide +kernel
theorem dX12_isTorn_90 : decode cX12_isTorn 90 = .ok (.iload 6, 2) := by decide +kernel
theorem dX12_isTorn_92 : decode cX12_isTorn 92 = .ok (.iload_n 1, 1) := by decide +kernel
theorem dX12_isTorn_93 : decode cX12_isTorn 93 = .ok (.if_icmp .eq 54, 3) := by decide +kernel
theorem dX12_isTorn_96 : decode cX12_isTorn 96 = .ok (.iload 6, 2) := by decide +kernel
theorem dX12_isTorn_98 : decode cX12_isTorn 98 = .ok (.iload_n 3, 1) := by decide +kernel
theorem dX12_isTorn_99 : decode cX12_isTorn 99 = .ok (.if_icmp .eq 48, 3) := by decide +kernel
theorem dX12_isTorn_147 : decode cX12_isTorn 147 = .ok (.iconst 0, 1) := by decide +kernel
theorem dX12_isTorn_148 : decode cX12_isTorn 148 = .ok (.istore 7, 2) := by decide +kernel
theorem dX12_isTorn_150 : decode cX12_isTorn 150 = .ok (.iload 7, 2) := by decide +kernel
theorem dX12_isTorn_152 : decode cX12_isTorn 152 = .ok (.ifCond .eq 31, 3) := by decide +kernel
theorem dX12_isTorn_183 : decode cX12_isTorn 183 = .ok (.iinc 5 1, 3) := by decide +kernel
theorem dX12_isTorn_186 : decode cX12_isTorn 186 = .ok (.goto (-116), 3) := by decide +kernel
theorem dX12_isTorn_189 : decode cX12_isTorn 189 = .ok (.iinc 2 1, 3) := by decide +kernel
theorem dX12_isTorn_192 : decode cX12_isTorn 192 = .ok (.goto (-190), 3) := by decide +kernel
theorem dX12_isTorn_195 : decode cX12_isTorn 195 = .ok (.iconst 0, 1) := by decide +kernel
theorem dX12_isTorn_196 : decode cX12_isTorn 196 = .ok (.ireturn, 1) := by decide +kernel
def rpX12_isTorn : List Nat := [0, 1, 2, 3, 4, 7, 10, 11, 14, 15, 16, 17, 18, 19, 22, 23, 26, 28, 29, 30, 31, 32, 33, 36, 37, 38, 41, 44, 45, 48, 49, 52, 53, 54, 55, 57, 60, 61, 64, 65, 67, 68, 70, 72, 73, 76, 78, 81, 82, 85, 87, 88, 90, 92, 93, 96, 98, 99, 102, 147, 148, 150, 152, 155, 183, 186, 189, 192, 195, 196]
noncomputable def rcX12_isTorn : List rz_B := [rz_cst 0, rz_istore 2, rz_iload 2, rz_aload 0, rz_getf (Nat.add (Nat.mul 256 14) 1) 31 rz_i, rz_icmpge 68, rz_aload 0, rz_getf (Nat.add (Nat.mul 256 14) 1) 35 rz_r, rz_iload 2, rz_iald, rz_istore 3, rz_iload 3, rz_iload 1, rz_icmpeq 38, rz_aload 0, rz_getf (Nat.add (Nat.mul 256 14) 1) 73 rz_r, rz_cst 43, rz_iload 1, rz_imul, rz_iload 3, rz_iadd, rz_zald, rz_ifeq 38, rz_aload 0, rz_iload 2, rz_callV 1 (Nat.add (Nat.mul 256 14) 1) rgX12_isStatic, rz_ifne 38, rz_aload 0, rz_getf (Nat.add (Nat.mul 256 14) 1) 2 rz_r, rz_aload 0, rz_getf (Nat.add (Nat.mul 256 14) 1) 32 rz_r, rz_iload 2, rz_iald, rz_iald, rz_cst 60, rz_icmpeq 38, rz_cst 1, rz_goto 39, rz_cst 0, rz_istore 4, rz_cst 0, rz_istore 5, rz_iload 5, rz_iload 2, rz_icmpge 66, rz_iload 4, rz_ifeq 66, rz_aload 0, rz_getf (Nat.add (Nat.mul 256 14) 1) 35 rz_r, rz_iload 5, rz_iald, rz_istore 6, rz_iload 6, rz_iload 1, rz_icmpeq 59, rz_iload 6, rz_iload 3, rz_icmpeq 59, rz_no, rz_cst 0, rz_istore 7, rz_iload 7, rz_ifeq 64, rz_no, rz_iinc 5 1, rz_goto 42, rz_iinc 2 1, rz_goto 2, rz_cst 0, rz_zret]
noncomputable def rgX12_isTorn : rz_L → rz_M → rz_Z → Bool := rz_go rcX12_isTorn 8 1000000
def rrX12_isTorn : Room := { frames := 2, cells := 0, slots := 0, locals := 43 }
theorem rmX12_isTorn (l : Launch) {G : rz_G} (hG : rz_Gd G) (vs : rz_L) (M : rz_M) (Z : rz_Z) (hn : vs.length = 2) (h : rgX12_isTorn vs M Z = true) : Met l yX12_isTorn (Cond.code yX12_isTorn cX12_isTorn 8 (some .boolean) :: rz_TB) rrX12_isTorn (rz_Pre G vs M) (rz_Qi G M.2 Z) 0 0 (fun q => rz_b G ≤ q) := by
  obtain ⟨D, tc, ad, b, xs, rfl⟩ := id hG
  refine rz_body (pcs := rpX12_isTorn) (by decide) rfl (by rw [hn]; decide) h ?_
  intro p e R s m args below meth c hC
  obtain ⟨hx, hb, hml, hr, hlk, ho, hts, hKn, hRm⟩ := id hC
  obtain ⟨hK, hA, hSt⟩ := id hKn
  have hw : ∀ {i j : Nat} {ws : List Cond} {w : Cond}, rz_WW[i]? = some ws → ws[j]? = some w → w.before args s = true := fun h1 h2 => hts _ (List.mem_cons_of_mem _ (rz_mem h1 h2))
  refine rz_All_c (i := 0) (fun k J hk hJ => rz_iconst_ok (pc := 0) hx hb dX12_isTorn_0 rfl hk) ?_
  refine rz_All_c (i := 1) (fun k J hk hJ => rz_istore_n_ok (pc := 1) hx hb dX12_isTorn_1 rfl hk) ?_
  refine rz_All_c (i := 2) (fun k J hk hJ => rz_iload_n_ok (pc := 2) hx hb dX12_isTorn_2 rfl hk) ?_
  refine rz_All_c (i := 3) (fun k J hk hJ => rz_aload_n_ok (pc := 3) hx hb dX12_isTorn_3 rfl hk) ?_
  refine rz_All_c (i := 4) (fun k J hk hJ => rz_getf_ok (pc := 4) (own := RX12) (ref := "ThreadJudgeModel") (C := RX12) (T := TX12) (N := 257) (ci := 14) (index := 693) (f := 31) (t := 0) (Ts := Cond.code yX12_isTorn cX12_isTorn 8 (some .boolean) :: rz_TB) hx hb hts rz_in14 ho hK rfl (by decide) rfl (fun _ => rfl) (hw (i := 32) (j := 19) rfl rfl) (fun _ z => z) dX12_isTorn_4 hk) ?_
  refine rz_All_c (i := 5) (fun k J hk hJ => rz_icmpge_ok (pc := 7) hx hb dX12_isTorn_7 rfl hk (hJ 68)) ?_
  refine rz_All_c (i := 6) (fun k J hk hJ => rz_aload_n_ok (pc := 10) hx hb dX12_isTorn_10 rfl hk) ?_
  refine rz_All_c (i := 7) (fun k J hk hJ => rz_getf_ok (pc := 11) (own := RX12) (ref := "ThreadJudgeModel") (C := RX12) (T := TX12) (N := 257) (ci := 14) (index := 78) (f := 35) (t := 2) (Ts := Cond.code yX12_isTorn cX12_isTorn 8 (some .boolean) :: rz_TB) hx hb hts rz_in14 ho hK rfl (by decide) rfl (fun _ => rfl) (hw (i := 39) (j := 18) rfl rfl) (fun _ z => z) dX12_isTorn_11 hk) ?_
  refine rz_All_c (i := 8) (fun k J hk hJ => rz_iload_n_ok (pc := 14) hx hb dX12_isTorn_14 rfl hk) ?_
  refine rz_All_c (i := 9) (fun k J hk hJ => rz_iald_ok (pc := 15) hx hb hK dX12_isTorn_15 hk) ?_
  refine rz_All_c (i := 10) (fun k J hk hJ => rz_istore_n_ok (pc := 16) hx hb dX12_isTorn_16 rfl hk) ?_
  refine rz_All_c (i := 11) (fun k J hk hJ => rz_iload_n_ok (pc := 17) hx hb dX12_isTorn_17 rfl hk) ?_
  refine rz_All_c (i := 12) (fun k J hk hJ => rz_iload_n_ok (pc := 18) hx hb dX12_isTorn_18 rfl hk) ?_
  refine rz_All_c (i := 13) (fun k J hk hJ => rz_icmpeq_ok (pc := 19) hx hb dX12_isTorn_19 rfl hk (hJ 38)) ?_
  refine rz_All_c (i := 14) (fun k J hk hJ => rz_aload_n_ok (pc := 22) hx hb dX12_isTorn_22 rfl hk) ?_
  refine rz_All_c (i := 15) (fun k J hk hJ => rz_getf_ok (pc := 23) (own := RX12) (ref := "ThreadJudgeModel") (C := RX12) (T := TX12) (N := 257) (ci := 14) (index := 171) (f := 73) (t := 2) (Ts := Cond.code yX12_isTorn cX12_isTorn 8 (some .boolean) :: rz_TB) hx hb hts rz_in14 ho hK rfl (by decide) rfl (fun _ => rfl) (hw (i := 43) (j := 10) rfl rfl) (fun _ z => z) dX12_isTorn_23 hk) ?_
  refine rz_All_c (i := 16) (fun k J hk hJ => rz_bipush_ok (pc := 26) hx hb dX12_isTorn_26 (by decide) hk) ?_
  refine rz_All_c (i := 17) (fun k J hk hJ => rz_iload_n_ok (pc := 28) hx hb dX12_isTorn_28 rfl hk) ?_
  refine rz_All_c (i := 18) (fun k J hk hJ => rz_imul_ok (pc := 29) hx hb dX12_isTorn_29 hk) ?_
  refine rz_All_c (i := 19) (fun k J hk hJ => rz_iload_n_ok (pc := 30) hx hb dX12_isTorn_30 rfl hk) ?_
  refine rz_All_c (i := 20) (fun k J hk hJ => rz_iadd_ok (pc := 31) hx hb dX12_isTorn_31 hk) ?_
  refine rz_All_c (i := 21) (fun k J hk hJ => rz_zald_ok (pc := 32) hx hb hK dX12_isTorn_32 hk) ?_
  refine rz_All_c (i := 22) (fun k J hk hJ => rz_ifeq_ok (pc := 33) hx hb dX12_isTorn_33 rfl hk (hJ 38)) ?_
  refine rz_All_c (i := 23) (fun k J hk hJ => rz_aload_n_ok (pc := 36) hx hb dX12_isTorn_36 rfl hk) ?_
  refine rz_All_c (i := 24) (fun k J hk hJ => rz_iload_n_ok (pc := 37) hx hb dX12_isTorn_37 rfl hk) ?_
  refine rz_All_c (i := 25) (fun k J hk hJ => rz_callV_ok (pc := 38) (own := RX12) (C := RX12) (T0 := TX12) (N0 := 257) hC rfl (rmX12_isStatic l hG) (rz_cwV 1 hC rz_good (rz_mem (i := 45) (j := 0) rfl rfl) (rz_mem (i := 45) (j := 1) rfl rfl) (rz_mem (i := 45) (j := 2) rfl rfl) (rz_mem (i := 32) (j := 8) rfl rfl) (rz_mem (i := 45) (j := 3) rfl rfl) ⟨rfl, by decide, by decide, by decide +kernel⟩ rfl rfl ⟨by decide, by decide⟩) rfl dX12_isTorn_38 hk) ?_
  refine rz_All_c (i := 26) (fun k J hk hJ => rz_ifne_ok (pc := 41) hx hb dX12_isTorn_41 rfl hk (hJ 38)) ?_
  refine rz_All_c (i := 27) (fun k J hk hJ => rz_aload_n_ok (pc := 44) hx hb dX12_isTorn_44 rfl hk) ?_
  refine rz_All_c (i := 28) (fun k J hk hJ => rz_getf_ok (pc := 45) (own := RX12) (ref := "ThreadJudgeModel") (C := RX12) (T := TX12) (N := 257) (ci := 14) (index := 13) (f := 2) (t := 2) (Ts := Cond.code yX12_isTorn cX12_isTorn 8 (some .boolean) :: rz_TB) hx hb hts rz_in14 ho hK rfl (by decide) rfl (fun _ => rfl) (hw (i := 32) (j := 13) rfl rfl) (fun _ z => z) dX12_isTorn_45 hk) ?_
  refine rz_All_c (i := 29) (fun k J hk hJ => rz_aload_n_ok (pc := 48) hx hb dX12_isTorn_48 rfl hk) ?_
  refine rz_All_c (i := 30) (fun k J hk hJ => rz_getf_ok (pc := 49) (own := RX12) (ref := "ThreadJudgeModel") (C := RX12) (T := TX12) (N := 257) (ci := 14) (index := 69) (f := 32) (t := 2) (Ts := Cond.code yX12_isTorn cX12_isTorn 8 (some .boolean) :: rz_TB) hx hb hts rz_in14 ho hK rfl (by decide) rfl (fun _ => rfl) (hw (i := 39) (j := 15) rfl rfl) (fun _ z => z) dX12_isTorn_49 hk) ?_
  refine rz_All_c (i := 31) (fun k J hk hJ => rz_iload_n_ok (pc := 52) hx hb dX12_isTorn_52 rfl hk) ?_
  refine rz_All_c (i := 32) (fun k J hk hJ => rz_iald_ok (pc := 53) hx hb hK dX12_isTorn_53 hk) ?_
  refine rz_All_c (i := 33) (fun k J hk hJ => rz_iald_ok (pc := 54) hx hb hK dX12_isTorn_54 hk) ?_
  refine rz_All_c (i := 34) (fun k J hk hJ => rz_bipush_ok (pc := 55) hx hb dX12_isTorn_55 (by decide) hk) ?_
  refine rz_All_c (i := 35) (fun k J hk hJ => rz_icmpeq_ok (pc := 57) hx hb dX12_isTorn_57 rfl hk (hJ 38)) ?_
  refine rz_All_c (i := 36) (fun k J hk hJ => rz_iconst_ok (pc := 60) hx hb dX12_isTorn_60 rfl hk) ?_
  refine rz_All_c (i := 37) (fun k J hk hJ => rz_goto_ok (pc := 61) hx hb dX12_isTorn_61 rfl (hJ 39)) ?_
  refine rz_All_c (i := 38) (fun k J hk hJ => rz_iconst_ok (pc := 64) hx hb dX12_isTorn_64 rfl hk) ?_
  refine rz_All_c (i := 39) (fun k J hk hJ => rz_istore_ok (pc := 65) hx hb dX12_isTorn_65 hk) ?_
  refine rz_All_c (i := 40) (fun k J hk hJ => rz_iconst_ok (pc := 67) hx hb dX12_isTorn_67 rfl hk) ?_
  refine rz_All_c (i := 41) (fun k J hk hJ => rz_istore_ok (pc := 68) hx hb dX12_isTorn_68 hk) ?_
  refine rz_All_c (i := 42) (fun k J hk hJ => rz_iload_ok (pc := 70) hx hb dX12_isTorn_70 hk) ?_
  refine rz_All_c (i := 43) (fun k J hk hJ => rz_iload_n_ok (pc := 72) hx hb dX12_isTorn_72 rfl hk) ?_
  refine rz_All_c (i := 44) (fun k J hk hJ => rz_icmpge_ok (pc := 73) hx hb dX12_isTorn_73 rfl hk (hJ 66)) ?_
  refine rz_All_c (i := 45) (fun k J hk hJ => rz_iload_ok (pc := 76) hx hb dX12_isTorn_76 hk) ?_
  refine rz_All_c (i := 46) (fun k J hk hJ => rz_ifeq_ok (pc := 78) hx hb dX12_isTorn_78 rfl hk (hJ 66)) ?_
  refine rz_All_c (i := 47) (fun k J hk hJ => rz_aload_n_ok (pc := 81) hx hb dX12_isTorn_81 rfl hk) ?_
  refine rz_All_c (i := 48) (fun k J hk hJ => rz_getf_ok (pc := 82) (own := RX12) (ref := "ThreadJudgeModel") (C := RX12) (T := TX12) (N := 257) (ci := 14) (index := 78) (f := 35) (t := 2) (Ts := Cond.code yX12_isTorn cX12_isTorn 8 (some .boolean) :: rz_TB) hx hb hts rz_in14 ho hK rfl (by decide) rfl (fun _ => rfl) (hw (i := 39) (j := 18) rfl rfl) (fun _ z => z) dX12_isTorn_82 hk) ?_
  refine rz_All_c (i := 49) (fun k J hk hJ => rz_iload_ok (pc := 85) hx hb dX12_isTorn_85 hk) ?_
  refine rz_All_c (i := 50) (fun k J hk hJ => rz_iald_ok (pc := 87) hx hb hK dX12_isTorn_87 hk) ?_
  refine rz_All_c (i := 51) (fun k J hk hJ => rz_istore_ok (pc := 88) hx hb dX12_isTorn_88 hk) ?_
  refine rz_All_c (i := 52) (fun k J hk hJ => rz_iload_ok (pc := 90) hx hb dX12_isTorn_90 hk) ?_
  refine rz_All_c (i := 53) (fun k J hk hJ => rz_iload_n_ok (pc := 92) hx hb dX12_isTorn_92 rfl hk) ?_
  refine rz_All_c (i := 54) (fun k J hk hJ => rz_icmpeq_ok (pc := 93) hx hb dX12_isTorn_93 rfl hk (hJ 59)) ?_
  refine rz_All_c (i := 55) (fun k J hk hJ => rz_iload_ok (pc := 96) hx hb dX12_isTorn_96 hk) ?_
  refine rz_All_c (i := 56) (fun k J hk hJ => rz_iload_n_ok (pc := 98) hx hb dX12_isTorn_98 rfl hk) ?_
  refine rz_All_c (i := 57) (fun k J hk hJ => rz_icmpeq_ok (pc := 99) hx hb dX12_isTorn_99 rfl hk (hJ 59)) ?_
  refine rz_All_c (i := 58) (fun k J hk hJ => rz_no_ok) ?_
  refine rz_All_c (i := 59) (fun k J hk hJ => rz_iconst_ok (pc := 147) hx hb dX12_isTorn_147 rfl hk) ?_
  refine rz_All_c (i := 60) (fun k J hk hJ => rz_istore_ok (pc := 148) hx hb dX12_isTorn_148 hk) ?_
  refine rz_All_c (i := 61) (fun k J hk hJ => rz_iload_ok (pc := 150) hx hb dX12_isTorn_150 hk) ?_
  refine rz_All_c (i := 62) (fun k J hk hJ => rz_ifeq_ok (pc := 152) hx hb dX12_isTorn_152 rfl hk (hJ 64)) ?_
  refine rz_All_c (i := 63) (fun k J hk hJ => rz_no_ok) ?_
  refine rz_All_c (i := 64) (fun k J hk hJ => rz_iinc_ok (pc := 183) hx hb dX12_isTorn_183 (by decide) hk) ?_
  refine rz_All_c (i := 65) (fun k J hk hJ => rz_goto_ok (pc := 186) hx hb dX12_isTorn_186 rfl (hJ 42)) ?_
  refine rz_All_c (i := 66) (fun k J hk hJ => rz_iinc_ok (pc := 189) hx hb dX12_isTorn_189 (by decide) hk) ?_
  refine rz_All_c (i := 67) (fun k J hk hJ => rz_goto_ok (pc := 192) hx hb dX12_isTorn_192 rfl (hJ 2)) ?_
  refine rz_All_c (i := 68) (fun k J hk hJ => rz_iconst_ok (pc := 195) hx hb dX12_isTorn_195 rfl hk) ?_
  refine rz_All_c (i := 69) (fun k J hk hJ => rz_zret_ok (pc := 196) hC dX12_isTorn_196) ?_
  exact trivial
theorem dX12_isPlain_0 : decode cX12_isPlain 0 = .ok (.iload_n 0, 1) := by decide +kernel
theorem dX12_isPlain_1 : decode cX12_isPlain 1 = .ok (.iconst (-1), 1) := by decide +kernel
theorem dX12_isPlain_2 : decode cX12_isPlain 2 = .ok (.if_icmp .eq 20, 3) := by decide +kernel
theorem dX12_isPlain_5 : decode cX12_isPlain 5 = .ok (.iload_n 0, 1) := by decide +kernel
theorem dX12_isPlain_6 : decode cX12_isPlain 6 = .ok (.bipush 101, 2) := by decide +kernel
theorem dX12_isPlain_8 : decode cX12_isPlain 8 = .ok (.if_icmp .eq 14, 3) := by decide +kernel
theorem dX12_isPlain_11 : decode cX12_isPlain 11 = .ok (.iload_n 0, 1) := by decide +kernel
theorem dX12_isPlain_12 : decode cX12_isPlain 12 = .ok (.sipush 301, 3) := by decide +kernel
theorem dX12_isPlain_15 : decode cX12_isPlain 15 = .ok (.if_icmp .eq 7, 3) := by decide +kernel
theorem dX12_isPlain_18 : decode cX12_isPlain 18 = .ok (.iconst 1, 1) := by decide +kernel
theorem dX12_isPlain_19 : decode cX12_isPlain 19 = .ok (.goto 4, 3) := by decide +kernel
theorem dX12_isPlain_23 : decode cX12_isPlain 23 = .ok (.ireturn, 1) := by decide +kernel
def rpX12_isPlain : List Nat := [0, 1, 2, 5, 6, 8, 11, 12, 15, 18, 19, 22, 23]
noncomputable def rcX12_isPlain : List rz_B := [rz_iload 0, rz_cst 4294967295, rz_icmpeq 11, rz_iload 0, rz_cst 101, rz_icmpeq 11, rz_iload 0, rz_cst 301, rz_icmpeq 11, rz_cst 1, rz_goto 12, rz_no, rz_zret]
noncomputable def rgX12_isPlain : rz_L → rz_M → rz_Z → Bool := rz_go rcX12_isPlain 1 1000000
def rrX12_isPlain : Room := { frames := 0, cells := 0, slots := 0, locals := 0 }
theorem rmX12_isPlain (l : Launch) {G : rz_G} (hG : rz_Gd G) (vs : rz_L) (M : rz_M) (Z : rz_Z) (hn : vs.length = 1) (h : rgX12_isPlain vs M Z = true) : Met l yX12_isPlain (Cond.code yX12_isPlain cX12_isPlain 1 (some .boolean) :: rz_TB) rrX12_isPlain (rz_Pre G vs M) (rz_Qi G M.2 Z) 0 0 (fun q => rz_b G ≤ q) := by
  obtain ⟨D, tc, ad, b, xs, rfl⟩ := id hG
  refine rz_body (pcs := rpX12_isPlain) (by decide) rfl (by rw [hn]; decide) h ?_
  intro p e R s m args below meth c hC
  obtain ⟨hx, hb, hml, hr, hlk, ho, hts, hKn, hRm⟩ := id hC
  obtain ⟨hK, hA, hSt⟩ := id hKn
  have hw : ∀ {i j : Nat} {ws : List Cond} {w : Cond}, rz_WW[i]? = some ws → ws[j]? = some w → w.before args s = true := fun h1 h2 => hts _ (List.mem_cons_of_mem _ (rz_mem h1 h2))
  refine rz_All_c (i := 0) (fun k J hk hJ => rz_iload_n_ok (pc := 0) hx hb dX12_isPlain_0 rfl hk) ?_
  refine rz_All_c (i := 1) (fun k J hk hJ => rz_iconst_ok (pc := 1) hx hb dX12_isPlain_1 rfl hk) ?_
  refine rz_All_c (i := 2) (fun k J hk hJ => rz_icmpeq_ok (pc := 2) hx hb dX12_isPlain_2 rfl hk (hJ 11)) ?_
  refine rz_All_c (i := 3) (fun k J hk hJ => rz_iload_n_ok (pc := 5) hx hb dX12_isPlain_5 rfl hk) ?_
  refine rz_All_c (i := 4) (fun k J hk hJ => rz_bipush_ok (pc := 6) hx hb dX12_isPlain_6 (by decide) hk) ?_
  refine rz_All_c (i := 5) (fun k J hk hJ => rz_icmpeq_ok (pc := 8) hx hb dX12_isPlain_8 rfl hk (hJ 11)) ?_
  refine rz_All_c (i := 6) (fun k J hk hJ => rz_iload_n_ok (pc := 11) hx hb dX12_isPlain_11 rfl hk) ?_
  refine rz_All_c (i := 7) (fun k J hk hJ => rz_sipush_ok (pc := 12) hx hb dX12_isPlain_12 (by decide) hk) ?_
  refine rz_All_c (i := 8) (fun k J hk hJ => rz_icmpeq_ok (pc := 15) hx hb dX12_isPlain_15 rfl hk (hJ 11)) ?_
  refine rz_All_c (i := 9) (fun k J hk hJ => rz_iconst_ok (pc := 18) hx hb dX12_isPlain_18 rfl hk) ?_
  refine rz_All_c (i := 10) (fun k J hk hJ => rz_goto_ok (pc := 19) hx hb dX12_isPlain_19 rfl (hJ 12)) ?_
  refine rz_All_c (i := 11) (fun k J hk hJ => rz_no_ok) ?_
  refine rz_All_c (i := 12) (fun k J hk hJ => rz_zret_ok (pc := 23) hC dX12_isPlain_23) ?_
  exact trivial
theorem dX12_linkField_0 : decode cX12_linkField 0 = .ok (.aload_n 0, 1) := by decide +kernel
theorem dX12_linkField_1 : decode cX12_linkField 1 = .ok (.getfield 63, 3) := by decide +kernel
theorem dX12_linkField_4 : decode cX12_linkField 4 = .ok (.iload_n 1, 1) := by decide +kernel
theorem dX12_linkField_5 : decode cX12_linkField 5 = .ok (.iaload, 1) := by decide +kernel
theorem dX12_linkField_6 : decode cX12_linkField 6 = .ok (.istore_n 2, 1) := by decide +kernel
theorem dX12_linkField_7 : decode cX12_linkField 7 = .ok (.aload_n 0, 1) := by decide +kernel
theorem dX12_linkField_8 : decode cX12_linkField 8 = .ok (.getfield 66, 3) := by decide +kernel
theorem dX12_linkField_11 : decode cX12_linkField 11 = .ok (.iload_n 1, 1) := by decide +kernel
theorem dX12_linkField_12 : decode cX12_linkField 12 = .ok (.iaload, 1) := by decide +kernel
theorem dX12_linkField_13 : decode cX12_linkField 13 = .ok (.istore_n 3, 1) := by decide +kernel
theorem dX12_linkField_14 : decode cX12_linkField 14 = .ok (.aload_n 0, 1) := by decide +kernel
theorem dX12_linkField_15 : decode cX12_linkField 15 = .ok (.getfield 174, 3) := by decide +kernel
theorem dX12_linkField_18 : decode cX12_linkField 18 = .ok (.iload_n 1, 1) := by decide +kernel
theorem dX12_linkField_19 : decode cX12_linkField 19 = .ok (.aload_n 0, 1) := by decide +kernel
theorem dX12_linkField_20 : decode cX12_linkField 20 = .ok (.iload_n 1, 1) := by decide +kernel
theorem dX12_linkField_21 : decode cX12_linkField 21 = .ok (.invokevirtual 787, 3) := by decide +kernel
theorem dX12_linkField_24 : decode cX12_linkField 24 = .ok (.iastore, 1) := by decide +kernel
theorem dX12_linkField_25 : decode cX12_linkField 25 = .ok (.aload_n 0, 1) := by decide +kernel
theorem dX12_linkField_26 : decode cX12_linkField 26 = .ok (.getfield 174, 3) := by decide +kernel
theorem dX12_linkField_29 : decode cX12_linkField 29 = .ok (.iload_n 1, 1) := by decide +kernel
theorem dX12_linkField_30 : decode cX12_linkField 30 = .ok (.iaload, 1) := by decide +kernel
theorem dX12_linkField_31 : decode cX12_linkField 31 = .ok (.invokestatic 790, 3) := by decide +kernel
theorem dX12_linkField_34 : decode cX12_linkField 34 = .ok (.ifCond .eq 50, 3) := by decide +kernel
theorem dX12_linkField_37 : decode cX12_linkField 37 = .ok (.aload_n 0, 1) := by decide +kernel
theorem dX12_linkField_38 : decode cX12_linkField 38 = .ok (.getfield 13, 3) := by decide +kernel
theorem dX12_linkField_41 : decode cX12_linkField 41 = .ok (.aload_n 0, 1) := by decide +kernel
theorem dX12_linkField_42 : decode cX12_linkField 42 = .ok (.getfield 57, 3) := by decide +kernel
theorem dX12_linkField_45 : decode cX12_linkField 45 = .ok (.iload_n 1, 1) := by decide +kernel
theorem dX12_linkField_46 : decode cX12_linkField 46 = .ok (.iaload, 1) := by decide +kernel
theorem dX12_linkField_47 : decode cX12_linkField 47 = .ok (.iaload, 1) := by decide +kernel
theorem dX12_linkField_48 : decode cX12_linkField 48 = .ok (.bipush 60, 2) := by decide +kernel
theorem dX12_linkField_50 : decode cX12_linkField 50 = .ok (.if_icmp .eq 34, 3) := by decide +kernel
theorem dX12_linkField_53 : decode cX12_linkField 53 = .ok (.iload_n 2, 1) := by decide +kernel
theorem dX12_linkField_54 : decode cX12_linkField 54 = .ok (.bipush 24, 2) := by decide +kernel
theorem dX12_linkField_56 : decode cX12_linkField 56 = .ok (.iand, 1) := by decide +kernel
theorem dX12_linkField_57 : decode cX12_linkField 57 = .ok (.ifCond .ne 27, 3) := by decide +kernel
theorem dX12_linkField_60 : decode cX12_linkField 60 = .ok (.iload_n 2, 1) := by decide +kernel
theorem dX12_linkField_61 : decode cX12_linkField 61 = .ok (.bipush 6, 2) := by decide +kernel
theorem dX12_linkField_63 : decode cX12_linkField 63 = .ok (.iand, 1) := by decide +kernel
theorem dX12_linkField_64 : decode cX12_linkField 64 = .ok (.bipush 6, 2) := by decide +kernel
theorem dX12_linkField_66 : decode cX12_linkField 66 = .ok (.if_icmp .eq 18, 3) := by decide +kernel
theorem dX12_linkField_69 : decode cX12_linkField 69 = .ok (.aload_n 0, 1) := by decide +kernel
theorem dX12_linkField_70 : decode cX12_linkField 70 = .ok (.getfield 26, 3) := by decide +kernel
theorem dX12_linkField_73 : decode cX12_linkField 73 = .ok (.iload_n 3, 1) := by decide +kernel
theorem dX12_linkField_74 : decode cX12_linkField 74 = .ok (.baload, 1) := by decide +kernel
theorem dX12_linkField_75 : decode cX12_linkField 75 = .ok (.ifCond .eq 13, 3) := by decide +kernel
theorem dX12_linkField_88 : decode cX12_linkField 88 = .ok (.iconst 0, 1) := by decide +kernel
theorem dX12_linkField_89 : decode cX12_linkField 89 = .ok (.istore 4, 2) := by decide +kernel
theorem dX12_linkField_91 : decode cX12_linkField 91 = .ok (.aload_n 0, 1) := by decide +kernel
theorem dX12_linkField_92 : decode cX12_linkField 92 = .ok (.getfield 51, 3) := by decide +kernel
theorem dX12_linkField_95 : decode cX12_linkField 95 = .ok (.iload_n 3, 1) := by decide +kernel
theorem dX12_linkField_96 : decode cX12_linkField 96 = .ok (.iaload, 1) := by decide +kernel
theorem dX12_linkField_97 : decode cX12_linkField 97 = .ok (.istore 5, 2) := by decide +kernel
theorem dX12_linkField_99 : decode cX12_linkField 99 = .ok (.iload 5, 2) := by decide +kernel
theorem dX12_linkField_101 : decode cX12_linkField 101 = .ok (.iload_n 1, 1) := by decide +kernel
theorem dX12_linkField_102 : decode cX12_linkField 102 = .ok (.if_icmp .ge 54, 3) := by decide +kernel
theorem dX12_linkField_156 : decode cX12_linkField 156 = .ok (.iload 4, 2) := by decide +kernel
theorem dX12_linkField_158 : decode cX12_linkField 158 = .ok (.ifCond .eq 13, 3) := by decide +kernel
theorem dX12_linkField_171 : decode cX12_linkField 171 = .ok (.return_, 1) := by decide +kernel
def rpX12_linkField : List Nat := [0, 1, 4, 5, 6, 7, 8, 11, 12, 13, 14, 15, 18, 19, 20, 21, 24, 25, 26, 29, 30, 31, 34, 37, 38, 41, 42, 45, 46, 47, 48, 50, 53, 54, 56, 57, 60, 61, 63, 64, 66, 69, 70, 73, 74, 75, 78, 84, 88, 89, 91, 92, 95, 96, 97, 99, 101, 102, 105, 156, 158, 161, 171]
noncomputable def rcX12_linkField : List rz_B := [rz_aload 0, rz_getf (Nat.add (Nat.mul 256 14) 1) 29 rz_r, rz_iload 1, rz_iald, rz_istore 2, rz_aload 0, rz_getf (Nat.add (Nat.mul 256 14) 1) 30 rz_r, rz_iload 1, rz_iald, rz_istore 3, rz_aload 0, rz_getf (Nat.add (Nat.mul 256 14) 1) 74 rz_r, rz_iload 1, rz_aload 0, rz_iload 1, rz_callV 1 (Nat.add (Nat.mul 256 14) 1) rgX12_codeOf, rz_iast, rz_aload 0, rz_getf (Nat.add (Nat.mul 256 14) 1) 74 rz_r, rz_iload 1, rz_iald, rz_callS 1 rgX12_isPlain, rz_ifeq 47, rz_aload 0, rz_getf (Nat.add (Nat.mul 256 14) 1) 2 rz_r, rz_aload 0, rz_getf (Nat.add (Nat.mul 256 14) 1) 27 rz_r, rz_iload 1, rz_iald, rz_iald, rz_cst 60, rz_icmpeq 47, rz_iload 2, rz_cst 24, rz_iand, rz_ifne 47, rz_iload 2, rz_cst 6, rz_iand, rz_cst 6, rz_icmpeq 47, rz_aload 0, rz_getf (Nat.add (Nat.mul 256 14) 1) 16 rz_r, rz_iload 3, rz_zald, rz_ifeq 48, rz_no, rz_no, rz_cst 0, rz_istore 4, rz_aload 0, rz_getf (Nat.add (Nat.mul 256 14) 1) 24 rz_r, rz_iload 3, rz_iald, rz_istore 5, rz_iload 5, rz_iload 1, rz_icmpge 59, rz_no, rz_iload 4, rz_ifeq 62, rz_no, rz_vret]
noncomputable def rgX12_linkField : rz_L → rz_M → rz_Z → Bool := rz_go rcX12_linkField 6 1000000
def rrX12_linkField : Room := { frames := 6, cells := 0, slots := 0, locals := 174 }
theorem rmX12_linkField (l : Launch) {G : rz_G} (hG : rz_Gd G) (vs : rz_L) (M : rz_M) (Z : rz_Z) (hn : vs.length = 2) (h : rgX12_linkField vs M Z = true) : Met l yX12_linkField (Cond.code yX12_linkField cX12_linkField 6 none :: rz_TB) rrX12_linkField (rz_Pre G vs M) (rz_Qv G M.2 Z) 0 0 (fun q => rz_b G ≤ q) := by
  obtain ⟨D, tc, ad, b, xs, rfl⟩ := id hG
  refine rz_body (pcs := rpX12_linkField) (by decide) rfl (by rw [hn]; decide) h ?_
  intro p e R s m args below meth c hC
  obtain ⟨hx, hb, hml, hr, hlk, ho, hts, hKn, hRm⟩ := id hC
  obtain ⟨hK, hA, hSt⟩ := id hKn
  have hw : ∀ {i j : Nat} {ws : List Cond} {w : Cond}, rz_WW[i]? = some ws → ws[j]? = some w → w.before args s = true := fun h1 h2 => hts _ (List.mem_cons_of_mem _ (rz_mem h1 h2))
  refine rz_All_c (i := 0) (fun k J hk hJ => rz_aload_n_ok (pc := 0) hx hb dX12_linkField_0 rfl hk) ?_
  refine rz_All_c (i := 1) (fun k J hk hJ => rz_getf_ok (pc := 1) (own := RX12) (ref := "ThreadJudgeModel") (C := RX12) (T := TX12) (N := 257) (ci := 14) (index := 63) (f := 29) (t := 2) (Ts := Cond.code yX12_linkField cX12_linkField 6 none :: rz_TB) hx hb hts rz_in14 ho hK rfl (by decide) rfl (fun _ => rfl) (hw (i := 39) (j := 2) rfl rfl) (fun _ z => z) dX12_linkField_1 hk) ?_
  refine rz_All_c (i := 2) (fun k J hk hJ => rz_iload_n_ok (pc := 4) hx hb dX12_linkField_4 rfl hk) ?_
  refine rz_All_c (i := 3) (fun k J hk hJ => rz_iald_ok (pc := 5) hx hb hK dX12_linkField_5 hk) ?_
  refine rz_All_c (i := 4) (fun k J hk hJ => rz_istore_n_ok (pc := 6) hx hb dX12_linkField_6 rfl hk) ?_
  refine rz_All_c (i := 5) (fun k J hk hJ => rz_aload_n_ok (pc := 7) hx hb dX12_linkField_7 rfl hk) ?_
  refine rz_All_c (i := 6) (fun k J hk hJ => rz_getf_ok (pc := 8) (own := RX12) (ref := "ThreadJudgeModel") (C := RX12) (T := TX12) (N := 257) (ci := 14) (index := 66) (f := 30) (t := 2) (Ts := Cond.code yX12_linkField cX12_linkField 6 none :: rz_TB) hx hb hts rz_in14 ho hK rfl (by decide) rfl (fun _ => rfl) (hw (i := 39) (j := 3) rfl rfl) (fun _ z => z) dX12_linkField_8 hk) ?_
  refine rz_All_c (i := 7) (fun k J hk hJ => rz_iload_n_ok (pc := 11) hx hb dX12_linkField_11 rfl hk) ?_
  refine rz_All_c (i := 8) (fun k J hk hJ => rz_iald_ok (pc := 12) hx hb hK dX12_linkField_12 hk) ?_
  refine rz_All_c (i := 9) (fun k J hk hJ => rz_istore_n_ok (pc := 13) hx hb dX12_linkField_13 rfl hk) ?_
  refine rz_All_c (i := 10) (fun k J hk hJ => rz_aload_n_ok (pc := 14) hx hb dX12_linkField_14 rfl hk) ?_
  refine rz_All_c (i := 11) (fun k J hk hJ => rz_getf_ok (pc := 15) (own := RX12) (ref := "ThreadJudgeModel") (C := RX12) (T := TX12) (N := 257) (ci := 14) (index := 174) (f := 74) (t := 2) (Ts := Cond.code yX12_linkField cX12_linkField 6 none :: rz_TB) hx hb hts rz_in14 ho hK rfl (by decide) rfl (fun _ => rfl) (hw (i := 44) (j := 0) rfl rfl) (fun _ z => z) dX12_linkField_15 hk) ?_
  refine rz_All_c (i := 12) (fun k J hk hJ => rz_iload_n_ok (pc := 18) hx hb dX12_linkField_18 rfl hk) ?_
  refine rz_All_c (i := 13) (fun k J hk hJ => rz_aload_n_ok (pc := 19) hx hb dX12_linkField_19 rfl hk) ?_
  refine rz_All_c (i := 14) (fun k J hk hJ => rz_iload_n_ok (pc := 20) hx hb dX12_linkField_20 rfl hk) ?_
  refine rz_All_c (i := 15) (fun k J hk hJ => rz_callV_ok (pc := 21) (own := RX12) (C := RX12) (T0 := TX12) (N0 := 257) hC rfl (rmX12_codeOf l hG) (rz_cwV 1 hC rz_good (rz_mem (i := 44) (j := 1) rfl rfl) (rz_mem (i := 44) (j := 2) rfl rfl) (rz_mem (i := 44) (j := 3) rfl rfl) (rz_mem (i := 32) (j := 8) rfl rfl) (rz_mem (i := 44) (j := 4) rfl rfl) ⟨rfl, by decide, by decide, by decide +kernel⟩ rfl rfl ⟨by decide, by decide⟩) rfl dX12_linkField_21 hk) ?_
  refine rz_All_c (i := 16) (fun k J hk hJ => rz_iast_ok (pc := 24) hx hb hK hA dX12_linkField_24 hk) ?_
  refine rz_All_c (i := 17) (fun k J hk hJ => rz_aload_n_ok (pc := 25) hx hb dX12_linkField_25 rfl hk) ?_
  refine rz_All_c (i := 18) (fun k J hk hJ => rz_getf_ok (pc := 26) (own := RX12) (ref := "ThreadJudgeModel") (C := RX12) (T := TX12) (N := 257) (ci := 14) (index := 174) (f := 74) (t := 2) (Ts := Cond.code yX12_linkField cX12_linkField 6 none :: rz_TB) hx hb hts rz_in14 ho hK rfl (by decide) rfl (fun _ => rfl) (hw (i := 44) (j := 0) rfl rfl) (fun _ z => z) dX12_linkField_26 hk) ?_
  refine rz_All_c (i := 19) (fun k J hk hJ => rz_iload_n_ok (pc := 29) hx hb dX12_linkField_29 rfl hk) ?_
  refine rz_All_c (i := 20) (fun k J hk hJ => rz_iald_ok (pc := 30) hx hb hK dX12_linkField_30 hk) ?_
  refine rz_All_c (i := 21) (fun k J hk hJ => rz_callS_ok (pc := 31) (own := RX12) hC rfl (rmX12_isPlain l hG) (rz_cwS 1 hC rz_good (rz_mem (i := 44) (j := 5) rfl rfl) (rz_mem (i := 44) (j := 6) rfl rfl) (rz_mem (i := 32) (j := 8) rfl rfl) (rz_mem (i := 44) (j := 7) rfl rfl) ⟨rfl, by decide, by decide, by decide +kernel⟩ rfl rfl ⟨by decide, by decide⟩) dX12_linkField_31 hk) ?_
  refine rz_All_c (i := 22) (fun k J hk hJ => rz_ifeq_ok (pc := 34) hx hb dX12_linkField_34 rfl hk (hJ 47)) ?_
  refine rz_All_c (i := 23) (fun k J hk hJ => rz_aload_n_ok (pc := 37) hx hb dX12_linkField_37 rfl hk) ?_
  refine rz_All_c (i := 24) (fun k J hk hJ => rz_getf_ok (pc := 38) (own := RX12) (ref := "ThreadJudgeModel") (C := RX12) (T := TX12) (N := 257) (ci := 14) (index := 13) (f := 2) (t := 2) (Ts := Cond.code yX12_linkField cX12_linkField 6 none :: rz_TB) hx hb hts rz_in14 ho hK rfl (by decide) rfl (fun _ => rfl) (hw (i := 32) (j := 13) rfl rfl) (fun _ z => z) dX12_linkField_38 hk) ?_
  refine rz_All_c (i := 25) (fun k J hk hJ => rz_aload_n_ok (pc := 41) hx hb dX12_linkField_41 rfl hk) ?_
  refine rz_All_c (i := 26) (fun k J hk hJ => rz_getf_ok (pc := 42) (own := RX12) (ref := "ThreadJudgeModel") (C := RX12) (T := TX12) (N := 257) (ci := 14) (index := 57) (f := 27) (t := 2) (Ts := Cond.code yX12_linkField cX12_linkField 6 none :: rz_TB) hx hb hts rz_in14 ho hK rfl (by decide) rfl (fun _ => rfl) (hw (i := 39) (j := 0) rfl rfl) (fun _ z => z) dX12_linkField_42 hk) ?_
  refine rz_All_c (i := 27) (fun k J hk hJ => rz_iload_n_ok (pc := 45) hx hb dX12_linkField_45 rfl hk) ?_
  refine rz_All_c (i := 28) (fun k J hk hJ => rz_iald_ok (pc := 46) hx hb hK dX12_linkField_46 hk) ?_
  refine rz_All_c (i := 29) (fun k J hk hJ => rz_iald_ok (pc := 47) hx hb hK dX12_linkField_47 hk) ?_
  refine rz_All_c (i := 30) (fun k J hk hJ => rz_bipush_ok (pc := 48) hx hb dX12_linkField_48 (by decide) hk) ?_
  refine rz_All_c (i := 31) (fun k J hk hJ => rz_icmpeq_ok (pc := 50) hx hb dX12_linkField_50 rfl hk (hJ 47)) ?_
  refine rz_All_c (i := 32) (fun k J hk hJ => rz_iload_n_ok (pc := 53) hx hb dX12_linkField_53 rfl hk) ?_
  refine rz_All_c (i := 33) (fun k J hk hJ => rz_bipush_ok (pc := 54) hx hb dX12_linkField_54 (by decide) hk) ?_
  refine rz_All_c (i := 34) (fun k J hk hJ => rz_iand_ok (pc := 56) hx hb dX12_linkField_56 hk) ?_
  refine rz_All_c (i := 35) (fun k J hk hJ => rz_ifne_ok (pc := 57) hx hb dX12_linkField_57 rfl hk (hJ 47)) ?_
  refine rz_All_c (i := 36) (fun k J hk hJ => rz_iload_n_ok (pc := 60) hx hb dX12_linkField_60 rfl hk) ?_
  refine rz_All_c (i := 37) (fun k J hk hJ => rz_bipush_ok (pc := 61) hx hb dX12_linkField_61 (by decide) hk) ?_
  refine rz_All_c (i := 38) (fun k J hk hJ => rz_iand_ok (pc := 63) hx hb dX12_linkField_63 hk) ?_
  refine rz_All_c (i := 39) (fun k J hk hJ => rz_bipush_ok (pc := 64) hx hb dX12_linkField_64 (by decide) hk) ?_
  refine rz_All_c (i := 40) (fun k J hk hJ => rz_icmpeq_ok (pc := 66) hx hb dX12_linkField_66 rfl hk (hJ 47)) ?_
  refine rz_All_c (i := 41) (fun k J hk hJ => rz_aload_n_ok (pc := 69) hx hb dX12_linkField_69 rfl hk) ?_
  refine rz_All_c (i := 42) (fun k J hk hJ => rz_getf_ok (pc := 70) (own := RX12) (ref := "ThreadJudgeModel") (C := RX12) (T := TX12) (N := 257) (ci := 14) (index := 26) (f := 16) (t := 2) (Ts := Cond.code yX12_linkField cX12_linkField 6 none :: rz_TB) hx hb hts rz_in14 ho hK rfl (by decide) rfl (fun _ => rfl) (hw (i := 36) (j := 14) rfl rfl) (fun _ z => z) dX12_linkField_70 hk) ?_
  refine rz_All_c (i := 43) (fun k J hk hJ => rz_iload_n_ok (pc := 73) hx hb dX12_linkField_73 rfl hk) ?_
  refine rz_All_c (i := 44) (fun k J hk hJ => rz_zald_ok (pc := 74) hx hb hK dX12_linkField_74 hk) ?_
  refine rz_All_c (i := 45) (fun k J hk hJ => rz_ifeq_ok (pc := 75) hx hb dX12_linkField_75 rfl hk (hJ 48)) ?_
  refine rz_All_c (i := 46) (fun k J hk hJ => rz_no_ok) ?_
  refine rz_All_c (i := 47) (fun k J hk hJ => rz_no_ok) ?_
  refine rz_All_c (i := 48) (fun k J hk hJ => rz_iconst_ok (pc := 88) hx hb dX12_linkField_88 rfl hk) ?_
  refine rz_All_c (i := 49) (fun k J hk hJ => rz_istore_ok (pc := 89) hx hb dX12_linkField_89 hk) ?_
  refine rz_All_c (i := 50) (fun k J hk hJ => rz_aload_n_ok (pc := 91) hx hb dX12_linkField_91 rfl hk) ?_
  refine rz_All_c (i := 51) (fun k J hk hJ => rz_getf_ok (pc := 92) (own := RX12) (ref := "ThreadJudgeModel") (C := RX12) (T := TX12) (N := 257) (ci := 14) (index := 51) (f := 24) (t := 2) (Ts := Cond.code yX12_linkField cX12_linkField 6 none :: rz_TB) hx hb hts rz_in14 ho hK rfl (by decide) rfl (fun _ => rfl) (hw (i := 36) (j := 19) rfl rfl) (fun _ z => z) dX12_linkField_92 hk) ?_
  refine rz_All_c (i := 52) (fun k J hk hJ => rz_iload_n_ok (pc := 95) hx hb dX12_linkField_95 rfl hk) ?_
  refine rz_All_c (i := 53) (fun k J hk hJ => rz_iald_ok (pc := 96) hx hb hK dX12_linkField_96 hk) ?_
  refine rz_All_c (i := 54) (fun k J hk hJ => rz_istore_ok (pc := 97) hx hb dX12_linkField_97 hk) ?_
  refine rz_All_c (i := 55) (fun k J hk hJ => rz_iload_ok (pc := 99) hx hb dX12_linkField_99 hk) ?_
  refine rz_All_c (i := 56) (fun k J hk hJ => rz_iload_n_ok (pc := 101) hx hb dX12_linkField_101 rfl hk) ?_
  refine rz_All_c (i := 57) (fun k J hk hJ => rz_icmpge_ok (pc := 102) hx hb dX12_linkField_102 rfl hk (hJ 59)) ?_
  refine rz_All_c (i := 58) (fun k J hk hJ => rz_no_ok) ?_
  refine rz_All_c (i := 59) (fun k J hk hJ => rz_iload_ok (pc := 156) hx hb dX12_linkField_156 hk) ?_
  refine rz_All_c (i := 60) (fun k J hk hJ => rz_ifeq_ok (pc := 158) hx hb dX12_linkField_158 rfl hk (hJ 62)) ?_
  refine rz_All_c (i := 61) (fun k J hk hJ => rz_no_ok) ?_
  refine rz_All_c (i := 62) (fun k J hk hJ => rz_vret_ok (pc := 171) hC dX12_linkField_171) ?_
  exact trivial
theorem dX12_linkMembers_0 : decode cX12_linkMembers 0 = .ok (.iconst 0, 1) := by decide +kernel
theorem dX12_linkMembers_1 : decode cX12_linkMembers 1 = .ok (.istore_n 1, 1) := by decide +kernel
theorem dX12_linkMembers_2 : decode cX12_linkMembers 2 = .ok (.iload_n 1, 1) := by decide +kernel
theorem dX12_linkMembers_3 : decode cX12_linkMembers 3 = .ok (.aload_n 0, 1) := by decide +kernel
theorem dX12_linkMembers_4 : decode cX12_linkMembers 4 = .ok (.getfield 690, 3) := by decide +kernel
theorem dX12_linkMembers_7 : decode cX12_linkMembers 7 = .ok (.if_icmp .ge 14, 3) := by decide +kernel
theorem dX12_linkMembers_10 : decode cX12_linkMembers 10 = .ok (.aload_n 0, 1) := by decide +kernel
theorem dX12_linkMembers_11 : decode cX12_linkMembers 11 = .ok (.iload_n 1, 1) := by decide +kernel
theorem dX12_linkMembers_12 : decode cX12_linkMembers 12 = .ok (.invokevirtual 805, 3) := by decide +kernel
theorem dX12_linkMembers_15 : decode cX12_linkMembers 15 = .ok (.iinc 1 1, 3) := by decide +kernel
theorem dX12_linkMembers_18 : decode cX12_linkMembers 18 = .ok (.goto (-16), 3) := by decide +kernel
theorem dX12_linkMembers_21 : decode cX12_linkMembers 21 = .ok (.iconst 0, 1) := by decide +kernel
theorem dX12_linkMembers_22 : decode cX12_linkMembers 22 = .ok (.istore_n 1, 1) := by decide +kernel
theorem dX12_linkMembers_23 : decode cX12_linkMembers 23 = .ok (.iload_n 1, 1) := by decide +kernel
theorem dX12_linkMembers_24 : decode cX12_linkMembers 24 = .ok (.aload_n 0, 1) := by decide +kernel
theorem dX12_linkMembers_25 : decode cX12_linkMembers 25 = .ok (.getfield 693, 3) := by decide +kernel
theorem dX12_linkMembers_28 : decode cX12_linkMembers 28 = .ok (.if_icmp .ge 66, 3) := by decide +kernel
theorem dX12_linkMembers_31 : decode cX12_linkMembers 31 = .ok (.aload_n 0, 1) := by decide +kernel
theorem dX12_linkMembers_32 : decode cX12_linkMembers 32 = .ok (.getfield 177, 3) := by decide +kernel
theorem dX12_linkMembers_35 : decode cX12_linkMembers 35 = .ok (.iload_n 1, 1) := by decide +kernel
theorem dX12_linkMembers_36 : decode cX12_linkMembers 36 = .ok (.aload_n 0, 1) := by decide +kernel
theorem dX12_linkMembers_37 : decode cX12_linkMembers 37 = .ok (.bipush 100, 2) := by decide +kernel
theorem dX12_linkMembers_39 : decode cX12_linkMembers 39 = .ok (.iload_n 1, 1) := by decide +kernel
theorem dX12_linkMembers_40 : decode cX12_linkMembers 40 = .ok (.iadd, 1) := by decide +kernel
theorem dX12_linkMembers_41 : decode cX12_linkMembers 41 = .ok (.invokevirtual 787, 3) := by decide +kernel
theorem dX12_linkMembers_44 : decode cX12_linkMembers 44 = .ok (.iastore, 1) := by decide +kernel
theorem dX12_linkMembers_45 : decode cX12_linkMembers 45 = .ok (.iconst 0, 1) := by decide +kernel
theorem dX12_linkMembers_46 : decode cX12_linkMembers 46 = .ok (.istore_n 2, 1) := by decide +kernel
theorem dX12_linkMembers_47 : decode cX12_linkMembers 47 = .ok (.iload_n 2, 1) := by decide +kernel
theorem dX12_linkMembers_48 : decode cX12_linkMembers 48 = .ok (.aload_n 0, 1) := by decide +kernel
theorem dX12_linkMembers_49 : decode cX12_linkMembers 49 = .ok (.getfield 81, 3) := by decide +kernel
theorem dX12_linkMembers_52 : decode cX12_linkMembers 52 = .ok (.iload_n 1, 1) := by decide +kernel
theorem dX12_linkMembers_53 : decode cX12_linkMembers 53 = .ok (.iaload, 1) := by decide +kernel
theorem dX12_linkMembers_54 : decode cX12_linkMembers 54 = .ok (.if_icmp .ge 34, 3) := by decide +kernel
theorem dX12_linkMembers_57 : decode cX12_linkMembers 57 = .ok (.aload_n 0, 1) := by decide +kernel
theorem dX12_linkMembers_58 : decode cX12_linkMembers 58 = .ok (.getfield 180, 3) := by decide +kernel
theorem dX12_linkMembers_61 : decode cX12_linkMembers 61 = .ok (.bipush 6, 2) := by decide +kernel
theorem dX12_linkMembers_63 : decode cX12_linkMembers 63 = .ok (.iload_n 1, 1) := by decide +kernel
theorem dX12_linkMembers_64 : decode cX12_linkMembers 64 = .ok (.imul, 1) := by decide +kernel
theorem dX12_linkMembers_65 : decode cX12_linkMembers 65 = .ok (.iload_n 2, 1) := by decide +kernel
theorem dX12_linkMembers_66 : decode cX12_linkMembers 66 = .ok (.iadd, 1) := by decide +kernel
theorem dX12_linkMembers_67 : decode cX12_linkMembers 67 = .ok (.aload_n 0, 1) := by decide +kernel
theorem dX12_linkMembers_68 : decode cX12_linkMembers 68 = .ok (.sipush 300, 3) := by decide +kernel
theorem dX12_linkMembers_71 : decode cX12_linkMembers 71 = .ok (.bipush 6, 2) := by decide +kernel
theorem dX12_linkMembers_73 : decode cX12_linkMembers 73 = .ok (.iload_n 1, 1) := by decide +kernel
theorem dX12_linkMembers_74 : decode cX12_linkMembers 74 = .ok (.imul, 1) := by decide +kernel
theorem dX12_linkMembers_75 : decode cX12_linkMembers 75 = .ok (.iadd, 1) := by decide +kernel
theorem dX12_linkMembers_76 : decode cX12_linkMembers 76 = .ok (.iload_n 2, 1) := by decide +kernel
theorem dX12_linkMembers_77 : decode cX12_linkMembers 77 = .ok (.iadd, 1) := by decide +kernel
theorem dX12_linkMembers_78 : decode cX12_linkMembers 78 = .ok (.invokevirtual 787, 3) := by decide +kernel
theorem dX12_linkMembers_81 : decode cX12_linkMembers 81 = .ok (.iastore, 1) := by decide +kernel
theorem dX12_linkMembers_82 : decode cX12_linkMembers 82 = .ok (.iinc 2 1, 3) := by decide +kernel
theorem dX12_linkMembers_85 : decode cX12_linkMembers 85 = .ok (.goto (-38), 3) := by decide +kernel
theorem dX12_linkMembers_88 : decode cX12_linkMembers 88 = .ok (.iinc 1 1, 3) := by decide +kernel
theorem dX12_linkMembers_91 : decode cX12_linkMembers 91 = .ok (.goto (-68), 3) := by decide +kernel
theorem dX12_linkMembers_94 : decode cX12_linkMembers 94 = .ok (.bipush 17, 2) := by decide +kernel
theorem dX12_linkMembers_96 : decode cX12_linkMembers 96 = .ok (.istore_n 1, 1) := by decide +kernel
theorem dX12_linkMembers_97 : decode cX12_linkMembers 97 = .ok (.iload_n 1, 1) := by decide +kernel
theorem dX12_linkMembers_98 : decode cX12_linkMembers 98 = .ok (.aload_n 0, 1) := by decide +kernel
theorem dX12_linkMembers_99 : decode cX12_linkMembers 99 = .ok (.getfield 693, 3) := by decide +kernel
theorem dX12_linkMembers_102 : decode cX12_linkMembers 102 = .ok (.if_icmp .ge 27, 3) := by decide +kernel
theorem dX12_linkMembers_129 : decode cX12_linkMembers 129 = .ok (.bipush 17, 2) := by decide +kernel
theorem dX12_linkMembers_131 : decode cX12_linkMembers 131 = .ok (.istore_n 1, 1) := by decide +kernel
theorem dX12_linkMembers_132 : decode cX12_linkMembers 132 = .ok (.iload_n 1, 1) := by decide +kernel
theorem dX12_linkMembers_133 : decode cX12_linkMembers 133 = .ok (.aload_n 0, 1) := by decide +kernel
theorem dX12_linkMembers_134 : decode cX12_linkMembers 134 = .ok (.getfield 684, 3) := by decide +kernel
theorem dX12_linkMembers_137 : decode cX12_linkMembers 137 = .ok (.if_icmp .ge 27, 3) := by decide +kernel
theorem dX12_linkMembers_140 : decode cX12_linkMembers 140 = .ok (.aload_n 0, 1) := by decide +kernel
theorem dX12_linkMembers_141 : decode cX12_linkMembers 141 = .ok (.iload_n 1, 1) := by decide +kernel
theorem dX12_linkMembers_142 : decode cX12_linkMembers 142 = .ok (.invokevirtual 811, 3) := by decide +kernel
theorem dX12_linkMembers_145 : decode cX12_linkMembers 145 = .ok (.ifCond .eq 13, 3) := by decide +kernel
theorem dX12_linkMembers_158 : decode cX12_linkMembers 158 = .ok (.iinc 1 1, 3) := by decide +kernel
theorem dX12_linkMembers_161 : decode cX12_linkMembers 161 = .ok (.goto (-29), 3) := by decide +kernel
theorem dX12_linkMembers_164 : decode cX12_linkMembers 164 = .ok (.return_, 1) := by decide +kernel
def rpX12_linkMembers : List Nat := [0, 1, 2, 3, 4, 7, 10, 11, 12, 15, 18, 21, 22, 23, 24, 25, 28, 31, 32, 35, 36, 37, 39, 40, 41, 44, 45, 46, 47, 48, 49, 52, 53, 54, 57, 58, 61, 63, 64, 65, 66, 67, 68, 71, 73, 74, 75, 76, 77, 78, 81, 82, 85, 88, 91, 94, 96, 97, 98, 99, 102, 105, 129, 131, 132, 133, 134, 137, 140, 141, 142, 145, 148, 158, 161, 164]
noncomputable def rcX12_linkMembers : List rz_B := [rz_cst 0, rz_istore 1, rz_iload 1, rz_aload 0, rz_getf (Nat.add (Nat.mul 256 14) 1) 26 rz_i, rz_icmpge 11, rz_aload 0, rz_iload 1, rz_callVv 1 (Nat.add (Nat.mul 256 14) 1) rgX12_linkField, rz_iinc 1 1, rz_goto 2, rz_cst 0, rz_istore 1, rz_iload 1, rz_aload 0, rz_getf (Nat.add (Nat.mul 256 14) 1) 31 rz_i, rz_icmpge 55, rz_aload 0, rz_getf (Nat.add (Nat.mul 256 14) 1) 75 rz_r, rz_iload 1, rz_aload 0, rz_cst 100, rz_iload 1, rz_iadd, rz_callV 1 (Nat.add (Nat.mul 256 14) 1) rgX12_codeOf, rz_iast, rz_cst 0, rz_istore 2, rz_iload 2, rz_aload 0, rz_getf (Nat.add (Nat.mul 256 14) 1) 36 rz_r, rz_iload 1, rz_iald, rz_icmpge 53, rz_aload 0, rz_getf (Nat.add (Nat.mul 256 14) 1) 76 rz_r, rz_cst 6, rz_iload 1, rz_imul, rz_iload 2, rz_iadd, rz_aload 0, rz_cst 300, rz_cst 6, rz_iload 1, rz_imul, rz_iadd, rz_iload 2, rz_iadd, rz_callV 1 (Nat.add (Nat.mul 256 14) 1) rgX12_codeOf, rz_iast, rz_iinc 2 1, rz_goto 28, rz_iinc 1 1, rz_goto 13, rz_cst 17, rz_istore 1, rz_iload 1, rz_aload 0, rz_getf (Nat.add (Nat.mul 256 14) 1) 31 rz_i, rz_icmpge 62, rz_no, rz_cst 17, rz_istore 1, rz_iload 1, rz_aload 0, rz_getf (Nat.add (Nat.mul 256 14) 1) 13 rz_i, rz_icmpge 75, rz_aload 0, rz_iload 1, rz_callV 1 (Nat.add (Nat.mul 256 14) 1) rgX12_isTorn, rz_ifeq 73, rz_no, rz_iinc 1 1, rz_goto 64, rz_vret]
noncomputable def rgX12_linkMembers : rz_L → rz_M → rz_Z → Bool := rz_go rcX12_linkMembers 3 1000000
def rrX12_linkMembers : Room := { frames := 7, cells := 0, slots := 0, locals := 199 }
theorem rmX12_linkMembers (l : Launch) {G : rz_G} (hG : rz_Gd G) (vs : rz_L) (M : rz_M) (Z : rz_Z) (hn : vs.length = 1) (h : rgX12_linkMembers vs M Z = true) : Met l yX12_linkMembers (Cond.code yX12_linkMembers cX12_linkMembers 3 none :: rz_TB) rrX12_linkMembers (rz_Pre G vs M) (rz_Qv G M.2 Z) 0 0 (fun q => rz_b G ≤ q) := by
  obtain ⟨D, tc, ad, b, xs, rfl⟩ := id hG
  refine rz_body (pcs := rpX12_linkMembers) (by decide) rfl (by rw [hn]; decide) h ?_
  intro p e R s m args below meth c hC
  obtain ⟨hx, hb, hml, hr, hlk, ho, hts, hKn, hRm⟩ := id hC
  obtain ⟨hK, hA, hSt⟩ := id hKn
  have hw : ∀ {i j : Nat} {ws : List Cond} {w : Cond}, rz_WW[i]? = some ws → ws[j]? = some w → w.before args s = true := fun h1 h2 => hts _ (List.mem_cons_of_mem _ (rz_mem h1 h2))
  refine rz_All_c (i := 0) (fun k J hk hJ => rz_iconst_ok (pc := 0) hx hb dX12_linkMembers_0 rfl hk) ?_
  refine rz_All_c (i := 1) (fun k J hk hJ => rz_istore_n_ok (pc := 1) hx hb dX12_linkMembers_1 rfl hk) ?_
  refine rz_All_c (i := 2) (fun k J hk hJ => rz_iload_n_ok (pc := 2) hx hb dX12_linkMembers_2 rfl hk) ?_
  refine rz_All_c (i := 3) (fun k J hk hJ => rz_aload_n_ok (pc := 3) hx hb dX12_linkMembers_3 rfl hk) ?_
  refine rz_All_c (i := 4) (fun k J hk hJ => rz_getf_ok (pc := 4) (own := RX12) (ref := "ThreadJudgeModel") (C := RX12) (T := TX12) (N := 257) (ci := 14) (index := 690) (f := 26) (t := 0) (Ts := Cond.code yX12_linkMembers cX12_linkMembers 3 none :: rz_TB) hx hb hts rz_in14 ho hK rfl (by decide) rfl (fun _ => rfl) (hw (i := 32) (j := 18) rfl rfl) (fun _ z => z) dX12_linkMembers_4 hk) ?_
  refine rz_All_c (i := 5) (fun k J hk hJ => rz_icmpge_ok (pc := 7) hx hb dX12_linkMembers_7 rfl hk (hJ 11)) ?_
  refine rz_All_c (i := 6) (fun k J hk hJ => rz_aload_n_ok (pc := 10) hx hb dX12_linkMembers_10 rfl hk) ?_
  refine rz_All_c (i := 7) (fun k J hk hJ => rz_iload_n_ok (pc := 11) hx hb dX12_linkMembers_11 rfl hk) ?_
  refine rz_All_c (i := 8) (fun k J hk hJ => rz_callVv_ok (pc := 12) (own := RX12) (C := RX12) (T0 := TX12) (N0 := 257) hC rfl (rmX12_linkField l hG) (rz_cwV 1 hC rz_good (rz_mem (i := 43) (j := 20) rfl rfl) (rz_mem (i := 43) (j := 21) rfl rfl) (rz_mem (i := 43) (j := 22) rfl rfl) (rz_mem (i := 32) (j := 8) rfl rfl) (rz_mem (i := 43) (j := 23) rfl rfl) ⟨rfl, by decide, by decide, by decide +kernel⟩ rfl rfl ⟨by decide, by decide⟩) rfl dX12_linkMembers_12 hk) ?_
  refine rz_All_c (i := 9) (fun k J hk hJ => rz_iinc_ok (pc := 15) hx hb dX12_linkMembers_15 (by decide) hk) ?_
  refine rz_All_c (i := 10) (fun k J hk hJ => rz_goto_ok (pc := 18) hx hb dX12_linkMembers_18 rfl (hJ 2)) ?_
  refine rz_All_c (i := 11) (fun k J hk hJ => rz_iconst_ok (pc := 21) hx hb dX12_linkMembers_21 rfl hk) ?_
  refine rz_All_c (i := 12) (fun k J hk hJ => rz_istore_n_ok (pc := 22) hx hb dX12_linkMembers_22 rfl hk) ?_
  refine rz_All_c (i := 13) (fun k J hk hJ => rz_iload_n_ok (pc := 23) hx hb dX12_linkMembers_23 rfl hk) ?_
  refine rz_All_c (i := 14) (fun k J hk hJ => rz_aload_n_ok (pc := 24) hx hb dX12_linkMembers_24 rfl hk) ?_
  refine rz_All_c (i := 15) (fun k J hk hJ => rz_getf_ok (pc := 25) (own := RX12) (ref := "ThreadJudgeModel") (C := RX12) (T := TX12) (N := 257) (ci := 14) (index := 693) (f := 31) (t := 0) (Ts := Cond.code yX12_linkMembers cX12_linkMembers 3 none :: rz_TB) hx hb hts rz_in14 ho hK rfl (by decide) rfl (fun _ => rfl) (hw (i := 32) (j := 19) rfl rfl) (fun _ z => z) dX12_linkMembers_25 hk) ?_
  refine rz_All_c (i := 16) (fun k J hk hJ => rz_icmpge_ok (pc := 28) hx hb dX12_linkMembers_28 rfl hk (hJ 55)) ?_
  refine rz_All_c (i := 17) (fun k J hk hJ => rz_aload_n_ok (pc := 31) hx hb dX12_linkMembers_31 rfl hk) ?_
  refine rz_All_c (i := 18) (fun k J hk hJ => rz_getf_ok (pc := 32) (own := RX12) (ref := "ThreadJudgeModel") (C := RX12) (T := TX12) (N := 257) (ci := 14) (index := 177) (f := 75) (t := 2) (Ts := Cond.code yX12_linkMembers cX12_linkMembers 3 none :: rz_TB) hx hb hts rz_in14 ho hK rfl (by decide) rfl (fun _ => rfl) (hw (i := 42) (j := 15) rfl rfl) (fun _ z => z) dX12_linkMembers_32 hk) ?_
  refine rz_All_c (i := 19) (fun k J hk hJ => rz_iload_n_ok (pc := 35) hx hb dX12_linkMembers_35 rfl hk) ?_
  refine rz_All_c (i := 20) (fun k J hk hJ => rz_aload_n_ok (pc := 36) hx hb dX12_linkMembers_36 rfl hk) ?_
  refine rz_All_c (i := 21) (fun k J hk hJ => rz_bipush_ok (pc := 37) hx hb dX12_linkMembers_37 (by decide) hk) ?_
  refine rz_All_c (i := 22) (fun k J hk hJ => rz_iload_n_ok (pc := 39) hx hb dX12_linkMembers_39 rfl hk) ?_
  refine rz_All_c (i := 23) (fun k J hk hJ => rz_iadd_ok (pc := 40) hx hb dX12_linkMembers_40 hk) ?_
  refine rz_All_c (i := 24) (fun k J hk hJ => rz_callV_ok (pc := 41) (own := RX12) (C := RX12) (T0 := TX12) (N0 := 257) hC rfl (rmX12_codeOf l hG) (rz_cwV 1 hC rz_good (rz_mem (i := 44) (j := 1) rfl rfl) (rz_mem (i := 44) (j := 2) rfl rfl) (rz_mem (i := 44) (j := 3) rfl rfl) (rz_mem (i := 32) (j := 8) rfl rfl) (rz_mem (i := 44) (j := 4) rfl rfl) ⟨rfl, by decide, by decide, by decide +kernel⟩ rfl rfl ⟨by decide, by decide⟩) rfl dX12_linkMembers_41 hk) ?_
  refine rz_All_c (i := 25) (fun k J hk hJ => rz_iast_ok (pc := 44) hx hb hK hA dX12_linkMembers_44 hk) ?_
  refine rz_All_c (i := 26) (fun k J hk hJ => rz_iconst_ok (pc := 45) hx hb dX12_linkMembers_45 rfl hk) ?_
  refine rz_All_c (i := 27) (fun k J hk hJ => rz_istore_n_ok (pc := 46) hx hb dX12_linkMembers_46 rfl hk) ?_
  refine rz_All_c (i := 28) (fun k J hk hJ => rz_iload_n_ok (pc := 47) hx hb dX12_linkMembers_47 rfl hk) ?_
  refine rz_All_c (i := 29) (fun k J hk hJ => rz_aload_n_ok (pc := 48) hx hb dX12_linkMembers_48 rfl hk) ?_
  refine rz_All_c (i := 30) (fun k J hk hJ => rz_getf_ok (pc := 49) (own := RX12) (ref := "ThreadJudgeModel") (C := RX12) (T := TX12) (N := 257) (ci := 14) (index := 81) (f := 36) (t := 2) (Ts := Cond.code yX12_linkMembers cX12_linkMembers 3 none :: rz_TB) hx hb hts rz_in14 ho hK rfl (by decide) rfl (fun _ => rfl) (hw (i := 39) (j := 22) rfl rfl) (fun _ z => z) dX12_linkMembers_49 hk) ?_
  refine rz_All_c (i := 31) (fun k J hk hJ => rz_iload_n_ok (pc := 52) hx hb dX12_linkMembers_52 rfl hk) ?_
  refine rz_All_c (i := 32) (fun k J hk hJ => rz_iald_ok (pc := 53) hx hb hK dX12_linkMembers_53 hk) ?_
  refine rz_All_c (i := 33) (fun k J hk hJ => rz_icmpge_ok (pc := 54) hx hb dX12_linkMembers_54 rfl hk (hJ 53)) ?_
  refine rz_All_c (i := 34) (fun k J hk hJ => rz_aload_n_ok (pc := 57) hx hb dX12_linkMembers_57 rfl hk) ?_
  refine rz_All_c (i := 35) (fun k J hk hJ => rz_getf_ok (pc := 58) (own := RX12) (ref := "ThreadJudgeModel") (C := RX12) (T := TX12) (N := 257) (ci := 14) (index := 180) (f := 76) (t := 2) (Ts := Cond.code yX12_linkMembers cX12_linkMembers 3 none :: rz_TB) hx hb hts rz_in14 ho hK rfl (by decide) rfl (fun _ => rfl) (hw (i := 43) (j := 19) rfl rfl) (fun _ z => z) dX12_linkMembers_58 hk) ?_
  refine rz_All_c (i := 36) (fun k J hk hJ => rz_bipush_ok (pc := 61) hx hb dX12_linkMembers_61 (by decide) hk) ?_
  refine rz_All_c (i := 37) (fun k J hk hJ => rz_iload_n_ok (pc := 63) hx hb dX12_linkMembers_63 rfl hk) ?_
  refine rz_All_c (i := 38) (fun k J hk hJ => rz_imul_ok (pc := 64) hx hb dX12_linkMembers_64 hk) ?_
  refine rz_All_c (i := 39) (fun k J hk hJ => rz_iload_n_ok (pc := 65) hx hb dX12_linkMembers_65 rfl hk) ?_
  refine rz_All_c (i := 40) (fun k J hk hJ => rz_iadd_ok (pc := 66) hx hb dX12_linkMembers_66 hk) ?_
  refine rz_All_c (i := 41) (fun k J hk hJ => rz_aload_n_ok (pc := 67) hx hb dX12_linkMembers_67 rfl hk) ?_
  refine rz_All_c (i := 42) (fun k J hk hJ => rz_sipush_ok (pc := 68) hx hb dX12_linkMembers_68 (by decide) hk) ?_
  refine rz_All_c (i := 43) (fun k J hk hJ => rz_bipush_ok (pc := 71) hx hb dX12_linkMembers_71 (by decide) hk) ?_
  refine rz_All_c (i := 44) (fun k J hk hJ => rz_iload_n_ok (pc := 73) hx hb dX12_linkMembers_73 rfl hk) ?_
  refine rz_All_c (i := 45) (fun k J hk hJ => rz_imul_ok (pc := 74) hx hb dX12_linkMembers_74 hk) ?_
  refine rz_All_c (i := 46) (fun k J hk hJ => rz_iadd_ok (pc := 75) hx hb dX12_linkMembers_75 hk) ?_
  refine rz_All_c (i := 47) (fun k J hk hJ => rz_iload_n_ok (pc := 76) hx hb dX12_linkMembers_76 rfl hk) ?_
  refine rz_All_c (i := 48) (fun k J hk hJ => rz_iadd_ok (pc := 77) hx hb dX12_linkMembers_77 hk) ?_
  refine rz_All_c (i := 49) (fun k J hk hJ => rz_callV_ok (pc := 78) (own := RX12) (C := RX12) (T0 := TX12) (N0 := 257) hC rfl (rmX12_codeOf l hG) (rz_cwV 1 hC rz_good (rz_mem (i := 44) (j := 1) rfl rfl) (rz_mem (i := 44) (j := 2) rfl rfl) (rz_mem (i := 44) (j := 3) rfl rfl) (rz_mem (i := 32) (j := 8) rfl rfl) (rz_mem (i := 44) (j := 4) rfl rfl) ⟨rfl, by decide, by decide, by decide +kernel⟩ rfl rfl ⟨by decide, by decide⟩) rfl dX12_linkMembers_78 hk) ?_
  refine rz_All_c (i := 50) (fun k J hk hJ => rz_iast_ok (pc := 81) hx hb hK hA dX12_linkMembers_81 hk) ?_
  refine rz_All_c (i := 51) (fun k J hk hJ => rz_iinc_ok (pc := 82) hx hb dX12_linkMembers_82 (by decide) hk) ?_
  refine rz_All_c (i := 52) (fun k J hk hJ => rz_goto_ok (pc := 85) hx hb dX12_linkMembers_85 rfl (hJ 28)) ?_
  refine rz_All_c (i := 53) (fun k J hk hJ => rz_iinc_ok (pc := 88) hx hb dX12_linkMembers_88 (by decide) hk) ?_
  refine rz_All_c (i := 54) (fun k J hk hJ => rz_goto_ok (pc := 91) hx hb dX12_linkMembers_91 rfl (hJ 13)) ?_
  refine rz_All_c (i := 55) (fun k J hk hJ => rz_bipush_ok (pc := 94) hx hb dX12_linkMembers_94 (by decide) hk) ?_
  refine rz_All_c (i := 56) (fun k J hk hJ => rz_istore_n_ok (pc := 96) hx hb dX12_linkMembers_96 rfl hk) ?_
  refine rz_All_c (i := 57) (fun k J hk hJ => rz_iload_n_ok (pc := 97) hx hb dX12_linkMembers_97 rfl hk) ?_
  refine rz_All_c (i := 58) (fun k J hk hJ => rz_aload_n_ok (pc := 98) hx hb dX12_linkMembers_98 rfl hk) ?_
  refine rz_All_c (i := 59) (fun k J hk hJ => rz_getf_ok (pc := 99) (own := RX12) (ref := "ThreadJudgeModel") (C := RX12) (T := TX12) (N := 257) (ci := 14) (index := 693) (f := 31) (t := 0) (Ts := Cond.code yX12_linkMembers cX12_linkMembers 3 none :: rz_TB) hx hb hts rz_in14 ho hK rfl (by decide) rfl (fun _ => rfl) (hw (i := 32) (j := 19) rfl rfl) (fun _ z => z) dX12_linkMembers_99 hk) ?_
  refine rz_All_c (i := 60) (fun k J hk hJ => rz_icmpge_ok (pc := 102) hx hb dX12_linkMembers_102 rfl hk (hJ 62)) ?_
  refine rz_All_c (i := 61) (fun k J hk hJ => rz_no_ok) ?_
  refine rz_All_c (i := 62) (fun k J hk hJ => rz_bipush_ok (pc := 129) hx hb dX12_linkMembers_129 (by decide) hk) ?_
  refine rz_All_c (i := 63) (fun k J hk hJ => rz_istore_n_ok (pc := 131) hx hb dX12_linkMembers_131 rfl hk) ?_
  refine rz_All_c (i := 64) (fun k J hk hJ => rz_iload_n_ok (pc := 132) hx hb dX12_linkMembers_132 rfl hk) ?_
  refine rz_All_c (i := 65) (fun k J hk hJ => rz_aload_n_ok (pc := 133) hx hb dX12_linkMembers_133 rfl hk) ?_
  refine rz_All_c (i := 66) (fun k J hk hJ => rz_getf_ok (pc := 134) (own := RX12) (ref := "ThreadJudgeModel") (C := RX12) (T := TX12) (N := 257) (ci := 14) (index := 684) (f := 13) (t := 0) (Ts := Cond.code yX12_linkMembers cX12_linkMembers 3 none :: rz_TB) hx hb hts rz_in14 ho hK rfl (by decide) rfl (fun _ => rfl) (hw (i := 32) (j := 17) rfl rfl) (fun _ z => z) dX12_linkMembers_134 hk) ?_
  refine rz_All_c (i := 67) (fun k J hk hJ => rz_icmpge_ok (pc := 137) hx hb dX12_linkMembers_137 rfl hk (hJ 75)) ?_
  refine rz_All_c (i := 68) (fun k J hk hJ => rz_aload_n_ok (pc := 140) hx hb dX12_linkMembers_140 rfl hk) ?_
  refine rz_All_c (i := 69) (fun k J hk hJ => rz_iload_n_ok (pc := 141) hx hb dX12_linkMembers_141 rfl hk) ?_
  refine rz_All_c (i := 70) (fun k J hk hJ => rz_callV_ok (pc := 142) (own := RX12) (C := RX12) (T0 := TX12) (N0 := 257) hC rfl (rmX12_isTorn l hG) (rz_cwV 1 hC rz_good (rz_mem (i := 45) (j := 16) rfl rfl) (rz_mem (i := 45) (j := 17) rfl rfl) (rz_mem (i := 45) (j := 18) rfl rfl) (rz_mem (i := 32) (j := 8) rfl rfl) (rz_mem (i := 45) (j := 19) rfl rfl) ⟨rfl, by decide, by decide, by decide +kernel⟩ rfl rfl ⟨by decide, by decide⟩) rfl dX12_linkMembers_142 hk) ?_
  refine rz_All_c (i := 71) (fun k J hk hJ => rz_ifeq_ok (pc := 145) hx hb dX12_linkMembers_145 rfl hk (hJ 73)) ?_
  refine rz_All_c (i := 72) (fun k J hk hJ => rz_no_ok) ?_
  refine rz_All_c (i := 73) (fun k J hk hJ => rz_iinc_ok (pc := 158) hx hb dX12_linkMembers_158 (by decide) hk) ?_
  refine rz_All_c (i := 74) (fun k J hk hJ => rz_goto_ok (pc := 161) hx hb dX12_linkMembers_161 rfl (hJ 64)) ?_
  refine rz_All_c (i := 75) (fun k J hk hJ => rz_vret_ok (pc := 164) hC dX12_linkMembers_164) ?_
  exact trivial
theorem dX12_link_0 : decode cX12_link 0 = .ok (.aload_n 0, 1) := by decide +kernel
theorem dX12_link_1 : decode cX12_link 1 = .ok (.iconst (-1), 1) := by decide +kernel
theorem dX12_link_2 : decode cX12_link 2 = .ok (.putfield 758, 3) := by decide +kernel
theorem dX12_link_5 : decode cX12_link 5 = .ok (.aload_n 0, 1) := by decide +kernel
theorem dX12_link_6 : decode cX12_link 6 = .ok (.invokevirtual 864, 3) := by decide +kernel
theorem dX12_link_9 : decode cX12_link 9 = .ok (.aload_n 0, 1) := by decide +kernel
theorem dX12_link_10 : decode cX12_link 10 = .ok (.getfield 758, 3) := by decide +kernel
theorem dX12_link_13 : decode cX12_link 13 = .ok (.iconst (-1), 1) := by decide +kernel
theorem dX12_link_14 : decode cX12_link 14 = .ok (.if_icmp .eq 19, 3) := by decide +kernel
theorem dX12_link_33 : decode cX12_link 33 = .ok (.aload_n 0, 1) := by decide +kernel
theorem dX12_link_34 : decode cX12_link 34 = .ok (.invokevirtual 867, 3) := by decide +kernel
theorem dX12_link_37 : decode cX12_link 37 = .ok (.aload_n 0, 1) := by decide +kernel
theorem dX12_link_38 : decode cX12_link 38 = .ok (.getfield 758, 3) := by decide +kernel
theorem dX12_link_41 : decode cX12_link 41 = .ok (.iconst (-1), 1) := by decide +kernel
theorem dX12_link_42 : decode cX12_link 42 = .ok (.if_icmp .eq 19, 3) := by decide +kernel
theorem dX12_link_61 : decode cX12_link 61 = .ok (.aload_n 0, 1) := by decide +kernel
theorem dX12_link_62 : decode cX12_link 62 = .ok (.invokevirtual 870, 3) := by decide +kernel
theorem dX12_link_65 : decode cX12_link 65 = .ok (.aload_n 0, 1) := by decide +kernel
theorem dX12_link_66 : decode cX12_link 66 = .ok (.getfield 758, 3) := by decide +kernel
theorem dX12_link_69 : decode cX12_link 69 = .ok (.iconst (-1), 1) := by decide +kernel
theorem dX12_link_70 : decode cX12_link 70 = .ok (.if_icmp .eq 19, 3) := by decide +kernel
theorem dX12_link_89 : decode cX12_link 89 = .ok (.aload_n 0, 1) := by decide +kernel
theorem dX12_link_90 : decode cX12_link 90 = .ok (.iconst (-1), 1) := by decide +kernel
theorem dX12_link_91 : decode cX12_link 91 = .ok (.putfield 873, 3) := by decide +kernel
theorem dX12_link_94 : decode cX12_link 94 = .ok (.aload_n 0, 1) := by decide +kernel
theorem dX12_link_95 : decode cX12_link 95 = .ok (.getfield 693, 3) := by decide +kernel
theorem dX12_link_98 : decode cX12_link 98 = .ok (.iconst 1, 1) := by decide +kernel
theorem dX12_link_99 : decode cX12_link 99 = .ok (.isub, 1) := by decide +kernel
theorem dX12_link_100 : decode cX12_link 100 = .ok (.istore_n 1, 1) := by decide +kernel
theorem dX12_link_101 : decode cX12_link 101 = .ok (.iload_n 1, 1) := by decide +kernel
theorem dX12_link_102 : decode cX12_link 102 = .ok (.bipush 17, 2) := by decide +kernel
theorem dX12_link_104 : decode cX12_link 104 = .ok (.if_icmp .lt 121, 3) := by decide +kernel
theorem dX12_link_225 : decode cX12_link 225 = .ok (.aload_n 0, 1) := by decide +kernel
theorem dX12_link_226 : decode cX12_link 226 = .ok (.getfield 873, 3) := by decide +kernel
theorem dX12_link_229 : decode cX12_link 229 = .ok (.iconst (-1), 1) := by decide +kernel
theorem dX12_link_230 : decode cX12_link 230 = .ok (.if_icmp .ne 23, 3) := by decide +kernel
theorem dX12_link_233 : decode cX12_link 233 = .ok (.aload_n 0, 1) := by decide +kernel
theorem dX12_link_234 : decode cX12_link 234 = .ok (.bipush 13, 2) := by decide +kernel
theorem dX12_link_236 : decode cX12_link 236 = .ok (.putfield 635, 3) := by decide +kernel
theorem dX12_link_239 : decode cX12_link 239 = .ok (.aload_n 0, 1) := by decide +kernel
theorem dX12_link_240 : decode cX12_link 240 = .ok (.aload_n 0, 1) := by decide +kernel
theorem dX12_link_241 : decode cX12_link 241 = .ok (.getfield 578, 3) := by decide +kernel
theorem dX12_link_244 : decode cX12_link 244 = .ok (.getstatic 638, 3) := by decide +kernel
theorem dX12_link_247 : decode cX12_link 247 = .ok (.isub, 1) := by decide +kernel
theorem dX12_link_248 : decode cX12_link 248 = .ok (.putfield 16, 3) := by decide +kernel
theorem dX12_link_251 : decode cX12_link 251 = .ok (.iconst 0, 1) := by decide +kernel
theorem dX12_link_252 : decode cX12_link 252 = .ok (.ireturn, 1) := by decide +kernel
def rpX12_link : List Nat := [0, 1, 2, 5, 6, 9, 10, 13, 14, 17, 33, 34, 37, 38, 41, 42, 45, 61, 62, 65, 66, 69, 70, 73, 89, 90, 91, 94, 95, 98, 99, 100, 101, 102, 104, 107, 225, 226, 229, 230, 233, 234, 236, 239, 240, 241, 244, 247, 248, 251, 252, 253]
noncomputable def rcX12_link : List rz_B := [rz_aload 0, rz_cst 4294967295, rz_putf (Nat.add (Nat.mul 256 14) 1) 77 rz_unI, rz_aload 0, rz_callVv 0 (Nat.add (Nat.mul 256 14) 1) rgX12_linkClasses, rz_aload 0, rz_getf (Nat.add (Nat.mul 256 14) 1) 77 rz_i, rz_cst 4294967295, rz_icmpeq 10, rz_no, rz_aload 0, rz_callVv 0 (Nat.add (Nat.mul 256 14) 1) rgX12_linkMembers, rz_aload 0, rz_getf (Nat.add (Nat.mul 256 14) 1) 77 rz_i, rz_cst 4294967295, rz_icmpeq 17, rz_no, rz_aload 0, rz_callVv 0 (Nat.add (Nat.mul 256 14) 1) rgX12_linkLines, rz_aload 0, rz_getf (Nat.add (Nat.mul 256 14) 1) 77 rz_i, rz_cst 4294967295, rz_icmpeq 24, rz_no, rz_aload 0, rz_cst 4294967295, rz_putf (Nat.add (Nat.mul 256 14) 1) 87 rz_unI, rz_aload 0, rz_getf (Nat.add (Nat.mul 256 14) 1) 31 rz_i, rz_cst 1, rz_isub, rz_istore 1, rz_iload 1, rz_cst 17, rz_icmplt 36, rz_no, rz_aload 0, rz_getf (Nat.add (Nat.mul 256 14) 1) 87 rz_i, rz_cst 4294967295, rz_icmpne 51, rz_aload 0, rz_cst 13, rz_putf (Nat.add (Nat.mul 256 14) 1) 10 rz_unI, rz_aload 0, rz_aload 0, rz_getf (Nat.add (Nat.mul 256 14) 1) 3 rz_i, rz_cst 1192, rz_isub, rz_putf (Nat.add (Nat.mul 256 14) 1) 11 rz_unI, rz_cst 0, rz_zret, rz_no]
noncomputable def rgX12_link : rz_L → rz_M → rz_Z → Bool := rz_go rcX12_link 4 1000000
def rrX12_link : Room := { frames := 10, cells := 0, slots := 0, locals := 264 }
theorem rmX12_link (l : Launch) {G : rz_G} (hG : rz_Gd G) (vs : rz_L) (M : rz_M) (Z : rz_Z) (hn : vs.length = 1) (h : rgX12_link vs M Z = true) : Met l yX12_link (Cond.code yX12_link cX12_link 4 (some .boolean) :: rz_TB) rrX12_link (rz_Pre G vs M) (rz_Qi G M.2 Z) 0 0 (fun q => rz_b G ≤ q) := by
  obtain ⟨D, tc, ad, b, xs, rfl⟩ := id hG
  refine rz_body (pcs := rpX12_link) (by decide) rfl (by rw [hn]; decide) h ?_
  intro p e R s m args below meth c hC
  obtain ⟨hx, hb, hml, hr, hlk, ho, hts, hKn, hRm⟩ := id hC
  obtain ⟨hK, hA, hSt⟩ := id hKn
  have hw : ∀ {i j : Nat} {ws : List Cond} {w : Cond}, rz_WW[i]? = some ws → ws[j]? = some w → w.before args s = true := fun h1 h2 => hts _ (List.mem_cons_of_mem _ (rz_mem h1 h2))
  refine rz_All_c (i := 0) (fun k J hk hJ => rz_aload_n_ok (pc := 0) hx hb dX12_link_0 rfl hk) ?_
  refine rz_All_c (i := 1) (fun k J hk hJ => rz_iconst_ok (pc := 1) hx hb dX12_link_1 rfl hk) ?_
  refine rz_All_c (i := 2) (fun k J hk hJ => rz_putf_ok (pc := 2) (own := RX12) (ref := "ThreadJudgeModel") (C := RX12) (T := TX12) (N := 257) (ci := 14) (index := 758) (f := 77) (t := 0) (Ts := Cond.code yX12_link cX12_link 4 (some .boolean) :: rz_TB) hx hb hts rz_in14 tyX12 tyX12_ok nmX12 ho hK hA rfl (by decide) rfl (rz_UnI _) rfl (tyX12_ok 77 (by decide)) (hw (i := 42) (j := 13) rfl rfl) (fun _ z => z) dX12_link_2 hk) ?_
  refine rz_All_c (i := 3) (fun k J hk hJ => rz_aload_n_ok (pc := 5) hx hb dX12_link_5 rfl hk) ?_
  refine rz_All_c (i := 4) (fun k J hk hJ => rz_callVv_ok (pc := 6) (own := RX12) (C := RX12) (T0 := TX12) (N0 := 257) hC rfl (rmX12_linkClasses l hG) (rz_cwV 0 hC rz_good (rz_mem (i := 42) (j := 17) rfl rfl) (rz_mem (i := 42) (j := 18) rfl rfl) (rz_mem (i := 42) (j := 19) rfl rfl) (rz_mem (i := 32) (j := 8) rfl rfl) (rz_mem (i := 42) (j := 20) rfl rfl) ⟨rfl, by decide, by decide, by decide +kernel⟩ rfl rfl ⟨by decide, by decide⟩) rfl dX12_link_6 hk) ?_
  refine rz_All_c (i := 5) (fun k J hk hJ => rz_aload_n_ok (pc := 9) hx hb dX12_link_9 rfl hk) ?_
  refine rz_All_c (i := 6) (fun k J hk hJ => rz_getf_ok (pc := 10) (own := RX12) (ref := "ThreadJudgeModel") (C := RX12) (T := TX12) (N := 257) (ci := 14) (index := 758) (f := 77) (t := 0) (Ts := Cond.code yX12_link cX12_link 4 (some .boolean) :: rz_TB) hx hb hts rz_in14 ho hK rfl (by decide) rfl (fun _ => rfl) (hw (i := 42) (j := 13) rfl rfl) (fun _ z => z) dX12_link_10 hk) ?_
  refine rz_All_c (i := 7) (fun k J hk hJ => rz_iconst_ok (pc := 13) hx hb dX12_link_13 rfl hk) ?_
  refine rz_All_c (i := 8) (fun k J hk hJ => rz_icmpeq_ok (pc := 14) hx hb dX12_link_14 rfl hk (hJ 10)) ?_
  refine rz_All_c (i := 9) (fun k J hk hJ => rz_no_ok) ?_
  refine rz_All_c (i := 10) (fun k J hk hJ => rz_aload_n_ok (pc := 33) hx hb dX12_link_33 rfl hk) ?_
  refine rz_All_c (i := 11) (fun k J hk hJ => rz_callVv_ok (pc := 34) (own := RX12) (C := RX12) (T0 := TX12) (N0 := 257) hC rfl (rmX12_linkMembers l hG) (rz_cwV 0 hC rz_good (rz_mem (i := 43) (j := 15) rfl rfl) (rz_mem (i := 43) (j := 16) rfl rfl) (rz_mem (i := 43) (j := 17) rfl rfl) (rz_mem (i := 32) (j := 8) rfl rfl) (rz_mem (i := 43) (j := 18) rfl rfl) ⟨rfl, by decide, by decide, by decide +kernel⟩ rfl rfl ⟨by decide, by decide⟩) rfl dX12_link_34 hk) ?_
  refine rz_All_c (i := 12) (fun k J hk hJ => rz_aload_n_ok (pc := 37) hx hb dX12_link_37 rfl hk) ?_
  refine rz_All_c (i := 13) (fun k J hk hJ => rz_getf_ok (pc := 38) (own := RX12) (ref := "ThreadJudgeModel") (C := RX12) (T := TX12) (N := 257) (ci := 14) (index := 758) (f := 77) (t := 0) (Ts := Cond.code yX12_link cX12_link 4 (some .boolean) :: rz_TB) hx hb hts rz_in14 ho hK rfl (by decide) rfl (fun _ => rfl) (hw (i := 42) (j := 13) rfl rfl) (fun _ z => z) dX12_link_38 hk) ?_
  refine rz_All_c (i := 14) (fun k J hk hJ => rz_iconst_ok (pc := 41) hx hb dX12_link_41 rfl hk) ?_
  refine rz_All_c (i := 15) (fun k J hk hJ => rz_icmpeq_ok (pc := 42) hx hb dX12_link_42 rfl hk (hJ 17)) ?_
  refine rz_All_c (i := 16) (fun k J hk hJ => rz_no_ok) ?_
  refine rz_All_c (i := 17) (fun k J hk hJ => rz_aload_n_ok (pc := 61) hx hb dX12_link_61 rfl hk) ?_
  refine rz_All_c (i := 18) (fun k J hk hJ => rz_callVv_ok (pc := 62) (own := RX12) (C := RX12) (T0 := TX12) (N0 := 257) hC rfl (rmX12_linkLines l hG) (rz_cwV 0 hC rz_good (rz_mem (i := 45) (j := 20) rfl rfl) (rz_mem (i := 45) (j := 21) rfl rfl) (rz_mem (i := 45) (j := 22) rfl rfl) (rz_mem (i := 32) (j := 8) rfl rfl) (rz_mem (i := 45) (j := 23) rfl rfl) ⟨rfl, by decide, by decide, by decide +kernel⟩ rfl rfl ⟨by decide, by decide⟩) rfl dX12_link_62 hk) ?_
  refine rz_All_c (i := 19) (fun k J hk hJ => rz_aload_n_ok (pc := 65) hx hb dX12_link_65 rfl hk) ?_
  refine rz_All_c (i := 20) (fun k J hk hJ => rz_getf_ok (pc := 66) (own := RX12) (ref := "ThreadJudgeModel") (C := RX12) (T := TX12) (N := 257) (ci := 14) (index := 758) (f := 77) (t := 0) (Ts := Cond.code yX12_link cX12_link 4 (some .boolean) :: rz_TB) hx hb hts rz_in14 ho hK rfl (by decide) rfl (fun _ => rfl) (hw (i := 42) (j := 13) rfl rfl) (fun _ z => z) dX12_link_66 hk) ?_
  refine rz_All_c (i := 21) (fun k J hk hJ => rz_iconst_ok (pc := 69) hx hb dX12_link_69 rfl hk) ?_
  refine rz_All_c (i := 22) (fun k J hk hJ => rz_icmpeq_ok (pc := 70) hx hb dX12_link_70 rfl hk (hJ 24)) ?_
  refine rz_All_c (i := 23) (fun k J hk hJ => rz_no_ok) ?_
  refine rz_All_c (i := 24) (fun k J hk hJ => rz_aload_n_ok (pc := 89) hx hb dX12_link_89 rfl hk) ?_
  refine rz_All_c (i := 25) (fun k J hk hJ => rz_iconst_ok (pc := 90) hx hb dX12_link_90 rfl hk) ?_
  refine rz_All_c (i := 26) (fun k J hk hJ => rz_putf_ok (pc := 91) (own := RX12) (ref := "ThreadJudgeModel") (C := RX12) (T := TX12) (N := 257) (ci := 14) (index := 873) (f := 87) (t := 0) (Ts := Cond.code yX12_link cX12_link 4 (some .boolean) :: rz_TB) hx hb hts rz_in14 tyX12 tyX12_ok nmX12 ho hK hA rfl (by decide) rfl (rz_UnI _) rfl (tyX12_ok 87 (by decide)) (hw (i := 42) (j := 14) rfl rfl) (fun _ z => z) dX12_link_91 hk) ?_
  refine rz_All_c (i := 27) (fun k J hk hJ => rz_aload_n_ok (pc := 94) hx hb dX12_link_94 rfl hk) ?_
  refine rz_All_c (i := 28) (fun k J hk hJ => rz_getf_ok (pc := 95) (own := RX12) (ref := "ThreadJudgeModel") (C := RX12) (T := TX12) (N := 257) (ci := 14) (index := 693) (f := 31) (t := 0) (Ts := Cond.code yX12_link cX12_link 4 (some .boolean) :: rz_TB) hx hb hts rz_in14 ho hK rfl (by decide) rfl (fun _ => rfl) (hw (i := 32) (j := 19) rfl rfl) (fun _ z => z) dX12_link_95 hk) ?_
  refine rz_All_c (i := 29) (fun k J hk hJ => rz_iconst_ok (pc := 98) hx hb dX12_link_98 rfl hk) ?_
  refine rz_All_c (i := 30) (fun k J hk hJ => rz_isub_ok (pc := 99) hx hb dX12_link_99 hk) ?_
  refine rz_All_c (i := 31) (fun k J hk hJ => rz_istore_n_ok (pc := 100) hx hb dX12_link_100 rfl hk) ?_
  refine rz_All_c (i := 32) (fun k J hk hJ => rz_iload_n_ok (pc := 101) hx hb dX12_link_101 rfl hk) ?_
  refine rz_All_c (i := 33) (fun k J hk hJ => rz_bipush_ok (pc := 102) hx hb dX12_link_102 (by decide) hk) ?_
  refine rz_All_c (i := 34) (fun k J hk hJ => rz_icmplt_ok (pc := 104) hx hb dX12_link_104 rfl hk (hJ 36)) ?_
  refine rz_All_c (i := 35) (fun k J hk hJ => rz_no_ok) ?_
  refine rz_All_c (i := 36) (fun k J hk hJ => rz_aload_n_ok (pc := 225) hx hb dX12_link_225 rfl hk) ?_
  refine rz_All_c (i := 37) (fun k J hk hJ => rz_getf_ok (pc := 226) (own := RX12) (ref := "ThreadJudgeModel") (C := RX12) (T := TX12) (N := 257) (ci := 14) (index := 873) (f := 87) (t := 0) (Ts := Cond.code yX12_link cX12_link 4 (some .boolean) :: rz_TB) hx hb hts rz_in14 ho hK rfl (by decide) rfl (fun _ => rfl) (hw (i := 42) (j := 14) rfl rfl) (fun _ z => z) dX12_link_226 hk) ?_
  refine rz_All_c (i := 38) (fun k J hk hJ => rz_iconst_ok (pc := 229) hx hb dX12_link_229 rfl hk) ?_
  refine rz_All_c (i := 39) (fun k J hk hJ => rz_icmpne_ok (pc := 230) hx hb dX12_link_230 rfl hk (hJ 51)) ?_
  refine rz_All_c (i := 40) (fun k J hk hJ => rz_aload_n_ok (pc := 233) hx hb dX12_link_233 rfl hk) ?_
  refine rz_All_c (i := 41) (fun k J hk hJ => rz_bipush_ok (pc := 234) hx hb dX12_link_234 (by decide) hk) ?_
  refine rz_All_c (i := 42) (fun k J hk hJ => rz_putf_ok (pc := 236) (own := RX12) (ref := "ThreadJudgeModel") (C := RX12) (T := TX12) (N := 257) (ci := 14) (index := 635) (f := 10) (t := 0) (Ts := Cond.code yX12_link cX12_link 4 (some .boolean) :: rz_TB) hx hb hts rz_in14 tyX12 tyX12_ok nmX12 ho hK hA rfl (by decide) rfl (rz_UnI _) rfl (tyX12_ok 10 (by decide)) (hw (i := 32) (j := 4) rfl rfl) (fun _ z => z) dX12_link_236 hk) ?_
  refine rz_All_c (i := 43) (fun k J hk hJ => rz_aload_n_ok (pc := 239) hx hb dX12_link_239 rfl hk) ?_
  refine rz_All_c (i := 44) (fun k J hk hJ => rz_aload_n_ok (pc := 240) hx hb dX12_link_240 rfl hk) ?_
  refine rz_All_c (i := 45) (fun k J hk hJ => rz_getf_ok (pc := 241) (own := RX12) (ref := "ThreadJudgeModel") (C := RX12) (T := TX12) (N := 257) (ci := 14) (index := 578) (f := 3) (t := 0) (Ts := Cond.code yX12_link cX12_link 4 (some .boolean) :: rz_TB) hx hb hts rz_in14 ho hK rfl (by decide) rfl (fun _ => rfl) (hw (i := 32) (j := 12) rfl rfl) (fun _ z => z) dX12_link_241 hk) ?_
  refine rz_All_c (i := 46) (fun k J hk hJ => rz_gets_ok (pc := 244) (own := RX12) (ref := "ThreadJudgeModel") (index := 638) hx hb hSt.2.2.1 rfl ho (hw (i := 32) (j := 10) rfl rfl) (fun _ z => z) dX12_link_244 hk) ?_
  refine rz_All_c (i := 47) (fun k J hk hJ => rz_isub_ok (pc := 247) hx hb dX12_link_247 hk) ?_
  refine rz_All_c (i := 48) (fun k J hk hJ => rz_putf_ok (pc := 248) (own := RX12) (ref := "ThreadJudgeModel") (C := RX12) (T := TX12) (N := 257) (ci := 14) (index := 16) (f := 11) (t := 0) (Ts := Cond.code yX12_link cX12_link 4 (some .boolean) :: rz_TB) hx hb hts rz_in14 tyX12 tyX12_ok nmX12 ho hK hA rfl (by decide) rfl (rz_UnI _) rfl (tyX12_ok 11 (by decide)) (hw (i := 33) (j := 1) rfl rfl) (fun _ z => z) dX12_link_248 hk) ?_
  refine rz_All_c (i := 49) (fun k J hk hJ => rz_iconst_ok (pc := 251) hx hb dX12_link_251 rfl hk) ?_
  refine rz_All_c (i := 50) (fun k J hk hJ => rz_zret_ok (pc := 252) hC dX12_link_252) ?_
  refine rz_All_c (i := 51) (fun k J hk hJ => rz_no_ok) ?_
  exact trivial
theorem dX12_isFigure_0 : decode cX12_isFigure 0 = .ok (.iload_n 1, 1) := by decide +kernel
theorem dX12_isFigure_1 : decode cX12_isFigure 1 = .ok (.bipush 48, 2) := by decide +kernel
theorem dX12_isFigure_3 : decode cX12_isFigure 3 = .ok (.if_icmp .lt 13, 3) := by decide +kernel
theorem dX12_isFigure_6 : decode cX12_isFigure 6 = .ok (.iload_n 1, 1) := by decide +kernel
theorem dX12_isFigure_7 : decode cX12_isFigure 7 = .ok (.bipush 57, 2) := by decide +kernel
theorem dX12_isFigure_9 : decode cX12_isFigure 9 = .ok (.if_icmp .gt 7, 3) := by decide +kernel
theorem dX12_isFigure_12 : decode cX12_isFigure 12 = .ok (.iconst 1, 1) := by decide +kernel
theorem dX12_isFigure_13 : decode cX12_isFigure 13 = .ok (.goto 4, 3) := by decide +kernel
theorem dX12_isFigure_16 : decode cX12_isFigure 16 = .ok (.iconst 0, 1) := by decide +kernel
theorem dX12_isFigure_17 : decode cX12_isFigure 17 = .ok (.ireturn, 1) := by decide +kernel
def rpX12_isFigure : List Nat := [0, 1, 3, 6, 7, 9, 12, 13, 16, 17]
noncomputable def rcX12_isFigure : List rz_B := [rz_iload 1, rz_cst 48, rz_icmplt 8, rz_iload 1, rz_cst 57, rz_icmpgt 8, rz_cst 1, rz_goto 9, rz_cst 0, rz_zret]
noncomputable def rgX12_isFigure : rz_L → rz_M → rz_Z → Bool := rz_go rcX12_isFigure 2 1000000
def rrX12_isFigure : Room := { frames := 0, cells := 0, slots := 0, locals := 0 }
theorem rmX12_isFigure (l : Launch) {G : rz_G} (hG : rz_Gd G) (vs : rz_L) (M : rz_M) (Z : rz_Z) (hn : vs.length = 2) (h : rgX12_isFigure vs M Z = true) : Met l yX12_isFigure (Cond.code yX12_isFigure cX12_isFigure 2 (some .boolean) :: rz_TB) rrX12_isFigure (rz_Pre G vs M) (rz_Qi G M.2 Z) 0 0 (fun q => rz_b G ≤ q) := by
  obtain ⟨D, tc, ad, b, xs, rfl⟩ := id hG
  refine rz_body (pcs := rpX12_isFigure) (by decide) rfl (by rw [hn]; decide) h ?_
  intro p e R s m args below meth c hC
  obtain ⟨hx, hb, hml, hr, hlk, ho, hts, hKn, hRm⟩ := id hC
  obtain ⟨hK, hA, hSt⟩ := id hKn
  have hw : ∀ {i j : Nat} {ws : List Cond} {w : Cond}, rz_WW[i]? = some ws → ws[j]? = some w → w.before args s = true := fun h1 h2 => hts _ (List.mem_cons_of_mem _ (rz_mem h1 h2))
  refine rz_All_c (i := 0) (fun k J hk hJ => rz_iload_n_ok (pc := 0) hx hb dX12_isFigure_0 rfl hk) ?_
  refine rz_All_c (i := 1) (fun k J hk hJ => rz_bipush_ok (pc := 1) hx hb dX12_isFigure_1 (by decide) hk) ?_
  refine rz_All_c (i := 2) (fun k J hk hJ => rz_icmplt_ok (pc := 3) hx hb dX12_isFigure_3 rfl hk (hJ 8)) ?_
  refine rz_All_c (i := 3) (fun k J hk hJ => rz_iload_n_ok (pc := 6) hx hb dX12_isFigure_6 rfl hk) ?_
  refine rz_All_c (i := 4) (fun k J hk hJ => rz_bipush_ok (pc := 7) hx hb dX12_isFigure_7 (by decide) hk) ?_
  refine rz_All_c (i := 5) (fun k J hk hJ => rz_icmpgt_ok (pc := 9) hx hb dX12_isFigure_9 rfl hk (hJ 8)) ?_
  refine rz_All_c (i := 6) (fun k J hk hJ => rz_iconst_ok (pc := 12) hx hb dX12_isFigure_12 rfl hk) ?_
  refine rz_All_c (i := 7) (fun k J hk hJ => rz_goto_ok (pc := 13) hx hb dX12_isFigure_13 rfl (hJ 9)) ?_
  refine rz_All_c (i := 8) (fun k J hk hJ => rz_iconst_ok (pc := 16) hx hb dX12_isFigure_16 rfl hk) ?_
  refine rz_All_c (i := 9) (fun k J hk hJ => rz_zret_ok (pc := 17) hC dX12_isFigure_17) ?_
  exact trivial
theorem dX12_isLetter_0 : decode cX12_isLetter 0 = .ok (.iload_n 1, 1) := by decide +kernel
theorem dX12_isLetter_1 : decode cX12_isLetter 1 = .ok (.bipush 97, 2) := by decide +kernel
theorem dX12_isLetter_3 : decode cX12_isLetter 3 = .ok (.if_icmp .lt 9, 3) := by decide +kernel
theorem dX12_isLetter_6 : decode cX12_isLetter 6 = .ok (.iload_n 1, 1) := by decide +kernel
theorem dX12_isLetter_7 : decode cX12_isLetter 7 = .ok (.bipush 122, 2) := by decide +kernel
theorem dX12_isLetter_9 : decode cX12_isLetter 9 = .ok (.if_icmp .le 15, 3) := by decide +kernel
theorem dX12_isLetter_12 : decode cX12_isLetter 12 = .ok (.iload_n 1, 1) := by decide +kernel
theorem dX12_isLetter_13 : decode cX12_isLetter 13 = .ok (.bipush 65, 2) := by decide +kernel
theorem dX12_isLetter_15 : decode cX12_isLetter 15 = .ok (.if_icmp .lt 13, 3) := by decide +kernel
theorem dX12_isLetter_18 : decode cX12_isLetter 18 = .ok (.iload_n 1, 1) := by decide +kernel
theorem dX12_isLetter_19 : decode cX12_isLetter 19 = .ok (.bipush 90, 2) := by decide +kernel
theorem dX12_isLetter_21 : decode cX12_isLetter 21 = .ok (.if_icmp .gt 7, 3) := by decide +kernel
theorem dX12_isLetter_24 : decode cX12_isLetter 24 = .ok (.iconst 1, 1) := by decide +kernel
theorem dX12_isLetter_25 : decode cX12_isLetter 25 = .ok (.goto 4, 3) := by decide +kernel
theorem dX12_isLetter_28 : decode cX12_isLetter 28 = .ok (.iconst 0, 1) := by decide +kernel
theorem dX12_isLetter_29 : decode cX12_isLetter 29 = .ok (.ireturn, 1) := by decide +kernel
def rpX12_isLetter : List Nat := [0, 1, 3, 6, 7, 9, 12, 13, 15, 18, 19, 21, 24, 25, 28, 29]
noncomputable def rcX12_isLetter : List rz_B := [rz_iload 1, rz_cst 97, rz_icmplt 6, rz_iload 1, rz_cst 122, rz_icmple 12, rz_iload 1, rz_cst 65, rz_icmplt 14, rz_iload 1, rz_cst 90, rz_icmpgt 14, rz_cst 1, rz_goto 15, rz_cst 0, rz_zret]
noncomputable def rgX12_isLetter : rz_L → rz_M → rz_Z → Bool := rz_go rcX12_isLetter 2 1000000
def rrX12_isLetter : Room := { frames := 0, cells := 0, slots := 0, locals := 0 }
theorem rmX12_isLetter (l : Launch) {G : rz_G} (hG : rz_Gd G) (vs : rz_L) (M : rz_M) (Z : rz_Z) (hn : vs.length = 2) (h : rgX12_isLetter vs M Z = true) : Met l yX12_isLetter (Cond.code yX12_isLetter cX12_isLetter 2 (some .boolean) :: rz_TB) rrX12_isLetter (rz_Pre G vs M) (rz_Qi G M.2 Z) 0 0 (fun q => rz_b G ≤ q) := by
  obtain ⟨D, tc, ad, b, xs, rfl⟩ := id hG
  refine rz_body (pcs := rpX12_isLetter) (by decide) rfl (by rw [hn]; decide) h ?_
  intro p e R s m args below meth c hC
  obtain ⟨hx, hb, hml, hr, hlk, ho, hts, hKn, hRm⟩ := id hC
  obtain ⟨hK, hA, hSt⟩ := id hKn
  have hw : ∀ {i j : Nat} {ws : List Cond} {w : Cond}, rz_WW[i]? = some ws → ws[j]? = some w → w.before args s = true := fun h1 h2 => hts _ (List.mem_cons_of_mem _ (rz_mem h1 h2))
  refine rz_All_c (i := 0) (fun k J hk hJ => rz_iload_n_ok (pc := 0) hx hb dX12_isLetter_0 rfl hk) ?_
  refine rz_All_c (i := 1) (fun k J hk hJ => rz_bipush_ok (pc := 1) hx hb dX12_isLetter_1 (by decide) hk) ?_
  refine rz_All_c (i := 2) (fun k J hk hJ => rz_icmplt_ok (pc := 3) hx hb dX12_isLetter_3 rfl hk (hJ 6)) ?_
  refine rz_All_c (i := 3) (fun k J hk hJ => rz_iload_n_ok (pc := 6) hx hb dX12_isLetter_6 rfl hk) ?_
  refine rz_All_c (i := 4) (fun k J hk hJ => rz_bipush_ok (pc := 7) hx hb dX12_isLetter_7 (by decide) hk) ?_
  refine rz_All_c (i := 5) (fun k J hk hJ => rz_icmple_ok (pc := 9) hx hb dX12_isLetter_9 rfl hk (hJ 12)) ?_
  refine rz_All_c (i := 6) (fun k J hk hJ => rz_iload_n_ok (pc := 12) hx hb dX12_isLetter_12 rfl hk) ?_
  refine rz_All_c (i := 7) (fun k J hk hJ => rz_bipush_ok (pc := 13) hx hb dX12_isLetter_13 (by decide) hk) ?_
  refine rz_All_c (i := 8) (fun k J hk hJ => rz_icmplt_ok (pc := 15) hx hb dX12_isLetter_15 rfl hk (hJ 14)) ?_
  refine rz_All_c (i := 9) (fun k J hk hJ => rz_iload_n_ok (pc := 18) hx hb dX12_isLetter_18 rfl hk) ?_
  refine rz_All_c (i := 10) (fun k J hk hJ => rz_bipush_ok (pc := 19) hx hb dX12_isLetter_19 (by decide) hk) ?_
  refine rz_All_c (i := 11) (fun k J hk hJ => rz_icmpgt_ok (pc := 21) hx hb dX12_isLetter_21 rfl hk (hJ 14)) ?_
  refine rz_All_c (i := 12) (fun k J hk hJ => rz_iconst_ok (pc := 24) hx hb dX12_isLetter_24 rfl hk) ?_
  refine rz_All_c (i := 13) (fun k J hk hJ => rz_goto_ok (pc := 25) hx hb dX12_isLetter_25 rfl (hJ 15)) ?_
  refine rz_All_c (i := 14) (fun k J hk hJ => rz_iconst_ok (pc := 28) hx hb dX12_isLetter_28 rfl hk) ?_
  refine rz_All_c (i := 15) (fun k J hk hJ => rz_zret_ok (pc := 29) hC dX12_isLetter_29) ?_
  exact trivial
theorem dX12_signAt_0 : decode cX12_signAt 0 = .ok (.iload_n 1, 1) := by decide +kernel
theorem dX12_signAt_1 : decode cX12_signAt 1 = .ok (.aload_n 0, 1) := by decide +kernel
theorem dX12_signAt_2 : decode cX12_signAt 2 = .ok (.getfield 578, 3) := by decide +kernel
theorem dX12_signAt_5 : decode cX12_signAt 5 = .ok (.if_icmp .ge 12, 3) := by decide +kernel
theorem dX12_signAt_8 : decode cX12_signAt 8 = .ok (.aload_n 0, 1) := by decide +kernel
theorem dX12_signAt_9 : decode cX12_signAt 9 = .ok (.getfield 13, 3) := by decide +kernel
theorem dX12_signAt_12 : decode cX12_signAt 12 = .ok (.iload_n 1, 1) := by decide +kernel
theorem dX12_signAt_13 : decode cX12_signAt 13 = .ok (.iaload, 1) := by decide +kernel
theorem dX12_signAt_14 : decode cX12_signAt 14 = .ok (.goto 4, 3) := by decide +kernel
theorem dX12_signAt_17 : decode cX12_signAt 17 = .ok (.iconst (-1), 1) := by decide +kernel
theorem dX12_signAt_18 : decode cX12_signAt 18 = .ok (.ireturn, 1) := by decide +kernel
def rpX12_signAt : List Nat := [0, 1, 2, 5, 8, 9, 12, 13, 14, 17, 18]
noncomputable def rcX12_signAt : List rz_B := [rz_iload 1, rz_aload 0, rz_getf (Nat.add (Nat.mul 256 14) 1) 3 rz_i, rz_icmpge 9, rz_aload 0, rz_getf (Nat.add (Nat.mul 256 14) 1) 2 rz_r, rz_iload 1, rz_iald, rz_goto 10, rz_cst 4294967295, rz_iret]
noncomputable def rgX12_signAt : rz_L → rz_M → rz_Z → Bool := rz_go rcX12_signAt 2 1000000
def rrX12_signAt : Room := { frames := 0, cells := 0, slots := 0, locals := 0 }
theorem rmX12_signAt (l : Launch) {G : rz_G} (hG : rz_Gd G) (vs : rz_L) (M : rz_M) (Z : rz_Z) (hn : vs.length = 2) (h : rgX12_signAt vs M Z = true) : Met l yX12_signAt (Cond.code yX12_signAt cX12_signAt 2 (some .int) :: rz_TB) rrX12_signAt (rz_Pre G vs M) (rz_Qi G M.2 Z) 0 0 (fun q => rz_b G ≤ q) := by
  obtain ⟨D, tc, ad, b, xs, rfl⟩ := id hG
  refine rz_body (pcs := rpX12_signAt) (by decide) rfl (by rw [hn]; decide) h ?_
  intro p e R s m args below meth c hC
  obtain ⟨hx, hb, hml, hr, hlk, ho, hts, hKn, hRm⟩ := id hC
  obtain ⟨hK, hA, hSt⟩ := id hKn
  have hw : ∀ {i j : Nat} {ws : List Cond} {w : Cond}, rz_WW[i]? = some ws → ws[j]? = some w → w.before args s = true := fun h1 h2 => hts _ (List.mem_cons_of_mem _ (rz_mem h1 h2))
  refine rz_All_c (i := 0) (fun k J hk hJ => rz_iload_n_ok (pc := 0) hx hb dX12_signAt_0 rfl hk) ?_
  refine rz_All_c (i := 1) (fun k J hk hJ => rz_aload_n_ok (pc := 1) hx hb dX12_signAt_1 rfl hk) ?_
  refine rz_All_c (i := 2) (fun k J hk hJ => rz_getf_ok (pc := 2) (own := RX12) (ref := "ThreadJudgeModel") (C := RX12) (T := TX12) (N := 257) (ci := 14) (index := 578) (f := 3) (t := 0) (Ts := Cond.code yX12_signAt cX12_signAt 2 (some .int) :: rz_TB) hx hb hts rz_in14 ho hK rfl (by decide) rfl (fun _ => rfl) (hw (i := 32) (j := 12) rfl rfl) (fun _ z => z) dX12_signAt_2 hk) ?_
  refine rz_All_c (i := 3) (fun k J hk hJ => rz_icmpge_ok (pc := 5) hx hb dX12_signAt_5 rfl hk (hJ 9)) ?_
  refine rz_All_c (i := 4) (fun k J hk hJ => rz_aload_n_ok (pc := 8) hx hb dX12_signAt_8 rfl hk) ?_
  refine rz_All_c (i := 5) (fun k J hk hJ => rz_getf_ok (pc := 9) (own := RX12) (ref := "ThreadJudgeModel") (C := RX12) (T := TX12) (N := 257) (ci := 14) (index := 13) (f := 2) (t := 2) (Ts := Cond.code yX12_signAt cX12_signAt 2 (some .int) :: rz_TB) hx hb hts rz_in14 ho hK rfl (by decide) rfl (fun _ => rfl) (hw (i := 32) (j := 13) rfl rfl) (fun _ z => z) dX12_signAt_9 hk) ?_
  refine rz_All_c (i := 6) (fun k J hk hJ => rz_iload_n_ok (pc := 12) hx hb dX12_signAt_12 rfl hk) ?_
  refine rz_All_c (i := 7) (fun k J hk hJ => rz_iald_ok (pc := 13) hx hb hK dX12_signAt_13 hk) ?_
  refine rz_All_c (i := 8) (fun k J hk hJ => rz_goto_ok (pc := 14) hx hb dX12_signAt_14 rfl (hJ 10)) ?_
  refine rz_All_c (i := 9) (fun k J hk hJ => rz_iconst_ok (pc := 17) hx hb dX12_signAt_17 rfl hk) ?_
  refine rz_All_c (i := 10) (fun k J hk hJ => rz_iret_ok (pc := 18) hC dX12_signAt_18) ?_
  exact trivial
theorem dX12_readNumber_0 : decode cX12_readNumber 0 = .ok (.aload_n 0, 1) := by decide +kernel
theorem dX12_readNumber_1 : decode cX12_readNumber 1 = .ok (.getfield 13, 3) := by decide +kernel
theorem dX12_readNumber_4 : decode cX12_readNumber 4 = .ok (.aload_n 0, 1) := by decide +kernel
theorem dX12_readNumber_5 : decode cX12_readNumber 5 = .ok (.getfield 581, 3) := by decide +kernel
theorem dX12_readNumber_8 : decode cX12_readNumber 8 = .ok (.iaload, 1) := by decide +kernel
theorem dX12_readNumber_9 : decode cX12_readNumber 9 = .ok (.bipush 45, 2) := by decide +kernel
theorem dX12_readNumber_11 : decode cX12_readNumber 11 = .ok (.if_icmp .ne 7, 3) := by decide +kernel
theorem dX12_readNumber_18 : decode cX12_readNumber 18 = .ok (.iconst 0, 1) := by decide +kernel
theorem dX12_readNumber_19 : decode cX12_readNumber 19 = .ok (.istore_n 1, 1) := by decide +kernel
theorem dX12_readNumber_20 : decode cX12_readNumber 20 = .ok (.aload_n 0, 1) := by decide +kernel
theorem dX12_readNumber_21 : decode cX12_readNumber 21 = .ok (.iload_n 1, 1) := by decide +kernel
theorem dX12_readNumber_22 : decode cX12_readNumber 22 = .ok (.ifCond .eq 12, 3) := by decide +kernel
theorem dX12_readNumber_34 : decode cX12_readNumber 34 = .ok (.aload_n 0, 1) := by decide +kernel
theorem dX12_readNumber_35 : decode cX12_readNumber 35 = .ok (.getfield 581, 3) := by decide +kernel
theorem dX12_readNumber_38 : decode cX12_readNumber 38 = .ok (.putfield 581, 3) := by decide +kernel
theorem dX12_readNumber_41 : decode cX12_readNumber 41 = .ok (.aload_n 0, 1) := by decide +kernel
theorem dX12_readNumber_42 : decode cX12_readNumber 42 = .ok (.aload_n 0, 1) := by decide +kernel
theorem dX12_readNumber_43 : decode cX12_readNumber 43 = .ok (.aload_n 0, 1) := by decide +kernel
theorem dX12_readNumber_44 : decode cX12_readNumber 44 = .ok (.getfield 581, 3) := by decide +kernel
theorem dX12_readNumber_47 : decode cX12_readNumber 47 = .ok (.invokevirtual 584, 3) := by decide +kernel
theorem dX12_readNumber_50 : decode cX12_readNumber 50 = .ok (.invokevirtual 594, 3) := by decide +kernel
theorem dX12_readNumber_53 : decode cX12_readNumber 53 = .ok (.ifCond .ne 12, 3) := by decide +kernel
theorem dX12_readNumber_65 : decode cX12_readNumber 65 = .ok (.lconst 0, 1) := by decide +kernel
theorem dX12_readNumber_66 : decode cX12_readNumber 66 = .ok (.lstore_n 2, 1) := by decide +kernel
theorem dX12_readNumber_67 : decode cX12_readNumber 67 = .ok (.aload_n 0, 1) := by decide +kernel
theorem dX12_readNumber_68 : decode cX12_readNumber 68 = .ok (.aload_n 0, 1) := by decide +kernel
theorem dX12_readNumber_69 : decode cX12_readNumber 69 = .ok (.aload_n 0, 1) := by decide +kernel
theorem dX12_readNumber_70 : decode cX12_readNumber 70 = .ok (.getfield 581, 3) := by decide +kernel
theorem dX12_readNumber_73 : decode cX12_readNumber 73 = .ok (.invokevirtual 584, 3) := by decide +kernel
theorem dX12_readNumber_76 : decode cX12_readNumber 76 = .ok (.invokevirtual 594, 3) := by decide +kernel
theorem dX12_readNumber_79 : decode cX12_readNumber 79 = .ok (.ifCond .eq 49, 3) := by decide +kernel
theorem dX12_readNumber_82 : decode cX12_readNumber 82 = .ok (.lload_n 2, 1) := by decide +kernel
theorem dX12_readNumber_83 : decode cX12_readNumber 83 = .ok (.ldc2_w 602, 3) := by decide +kernel
theorem dX12_readNumber_86 : decode cX12_readNumber 86 = .ok (.lcmp, 1) := by decide +kernel
theorem dX12_readNumber_87 : decode cX12_readNumber 87 = .ok (.ifCond .le 7, 3) := by decide +kernel
theorem dX12_readNumber_94 : decode cX12_readNumber 94 = .ok (.ldc2_w 604, 3) := by decide +kernel
theorem dX12_readNumber_97 : decode cX12_readNumber 97 = .ok (.lload_n 2, 1) := by decide +kernel
theorem dX12_readNumber_98 : decode cX12_readNumber 98 = .ok (.lmul, 1) := by decide +kernel
theorem dX12_readNumber_99 : decode cX12_readNumber 99 = .ok (.aload_n 0, 1) := by decide +kernel
theorem dX12_readNumber_100 : decode cX12_readNumber 100 = .ok (.getfield 13, 3) := by decide +kernel
theorem dX12_readNumber_103 : decode cX12_readNumber 103 = .ok (.aload_n 0, 1) := by decide +kernel
theorem dX12_readNumber_104 : decode cX12_readNumber 104 = .ok (.getfield 581, 3) := by decide +kernel
theorem dX12_readNumber_107 : decode cX12_readNumber 107 = .ok (.iaload, 1) := by decide +kernel
theorem dX12_readNumber_108 : decode cX12_readNumber 108 = .ok (.i2l, 1) := by decide +kernel
theorem dX12_readNumber_109 : decode cX12_readNumber 109 = .ok (.ladd, 1) := by decide +kernel
theorem dX12_readNumber_110 : decode cX12_readNumber 110 = .ok (.ldc2_w 606, 3) := by decide +kernel
theorem dX12_readNumber_113 : decode cX12_readNumber 113 = .ok (.lsub, 1) := by decide +kernel
theorem dX12_readNumber_114 : decode cX12_readNumber 114 = .ok (.lstore_n 2, 1) := by decide +kernel
theorem dX12_readNumber_115 : decode cX12_readNumber 115 = .ok (.aload_n 0, 1) := by decide +kernel
theorem dX12_readNumber_116 : decode cX12_readNumber 116 = .ok (.dup, 1) := by decide +kernel
theorem dX12_readNumber_117 : decode cX12_readNumber 117 = .ok (.getfield 581, 3) := by decide +kernel
theorem dX12_readNumber_120 : decode cX12_readNumber 120 = .ok (.iconst 1, 1) := by decide +kernel
theorem dX12_readNumber_121 : decode cX12_readNumber 121 = .ok (.iadd, 1) := by decide +kernel
theorem dX12_readNumber_122 : decode cX12_readNumber 122 = .ok (.putfield 581, 3) := by decide +kernel
theorem dX12_readNumber_125 : decode cX12_readNumber 125 = .ok (.goto (-58), 3) := by decide +kernel
theorem dX12_readNumber_128 : decode cX12_readNumber 128 = .ok (.iload_n 1, 1) := by decide +kernel
theorem dX12_readNumber_129 : decode cX12_readNumber 129 = .ok (.ifCond .eq 8, 3) := by decide +kernel
theorem dX12_readNumber_137 : decode cX12_readNumber 137 = .ok (.lload_n 2, 1) := by decide +kernel
theorem dX12_readNumber_138 : decode cX12_readNumber 138 = .ok (.lstore_n 2, 1) := by decide +kernel
theorem dX12_readNumber_139 : decode cX12_readNumber 139 = .ok (.aload_n 0, 1) := by decide +kernel
theorem dX12_readNumber_140 : decode cX12_readNumber 140 = .ok (.aload_n 0, 1) := by decide +kernel
theorem dX12_readNumber_141 : decode cX12_readNumber 141 = .ok (.getfield 581, 3) := by decide +kernel
theorem dX12_readNumber_144 : decode cX12_readNumber 144 = .ok (.putfield 608, 3) := by decide +kernel
theorem dX12_readNumber_147 : decode cX12_readNumber 147 = .ok (.aload_n 0, 1) := by decide +kernel
theorem dX12_readNumber_148 : decode cX12_readNumber 148 = .ok (.iconst 2, 1) := by decide +kernel
theorem dX12_readNumber_149 : decode cX12_readNumber 149 = .ok (.putfield 588, 3) := by decide +kernel
theorem dX12_readNumber_152 : decode cX12_readNumber 152 = .ok (.aload_n 0, 1) := by decide +kernel
theorem dX12_readNumber_153 : decode cX12_readNumber 153 = .ok (.lload_n 2, 1) := by decide +kernel
theorem dX12_readNumber_154 : decode cX12_readNumber 154 = .ok (.l2i, 1) := by decide +kernel
theorem dX12_readNumber_155 : decode cX12_readNumber 155 = .ok (.putfield 611, 3) := by decide +kernel
theorem dX12_readNumber_158 : decode cX12_readNumber 158 = .ok (.lload_n 2, 1) := by decide +kernel
theorem dX12_readNumber_159 : decode cX12_readNumber 159 = .ok (.aload_n 0, 1) := by decide +kernel
theorem dX12_readNumber_160 : decode cX12_readNumber 160 = .ok (.getfield 611, 3) := by decide +kernel
theorem dX12_readNumber_163 : decode cX12_readNumber 163 = .ok (.i2l, 1) := by decide +kernel
theorem dX12_readNumber_164 : decode cX12_readNumber 164 = .ok (.lcmp, 1) := by decide +kernel
theorem dX12_readNumber_165 : decode cX12_readNumber 165 = .ok (.ifCond .eq 11, 3) := by decide +kernel
theorem dX12_readNumber_176 : decode cX12_readNumber 176 = .ok (.return_, 1) := by decide +kernel
def rpX12_readNumber : List Nat := [0, 1, 4, 5, 8, 9, 11, 14, 18, 19, 20, 21, 22, 25, 34, 35, 38, 41, 42, 43, 44, 47, 50, 53, 56, 65, 66, 67, 68, 69, 70, 73, 76, 79, 82, 83, 86, 87, 90, 94, 97, 98, 99, 100, 103, 104, 107, 108, 109, 110, 113, 114, 115, 116, 117, 120, 121, 122, 125, 128, 129, 132, 137, 138, 139, 140, 141, 144, 147, 148, 149, 152, 153, 154, 155, 158, 159, 160, 163, 164, 165, 168, 176]
noncomputable def rcX12_readNumber : List rz_B := [rz_aload 0, rz_getf (Nat.add (Nat.mul 256 14) 1) 2 rz_r, rz_aload 0, rz_getf (Nat.add (Nat.mul 256 14) 1) 4 rz_i, rz_iald, rz_cst 45, rz_icmpne 8, rz_no, rz_cst 0, rz_istore 1, rz_aload 0, rz_iload 1, rz_ifeq 14, rz_no, rz_aload 0, rz_getf (Nat.add (Nat.mul 256 14) 1) 4 rz_i, rz_putf (Nat.add (Nat.mul 256 14) 1) 4 rz_unI, rz_aload 0, rz_aload 0, rz_aload 0, rz_getf (Nat.add (Nat.mul 256 14) 1) 4 rz_i, rz_callV 1 (Nat.add (Nat.mul 256 14) 1) rgX12_signAt, rz_callV 1 (Nat.add (Nat.mul 256 14) 1) rgX12_isFigure, rz_ifne 25, rz_no, rz_lcst 0, rz_lstore 2, rz_aload 0, rz_aload 0, rz_aload 0, rz_getf (Nat.add (Nat.mul 256 14) 1) 4 rz_i, rz_callV 1 (Nat.add (Nat.mul 256 14) 1) rgX12_signAt, rz_callV 1 (Nat.add (Nat.mul 256 14) 1) rgX12_isFigure, rz_ifeq 59, rz_lload 2, rz_lcst 9999999999, rz_lcmp, rz_ifle 39, rz_no, rz_lcst 10, rz_lload 2, rz_lmul, rz_aload 0, rz_getf (Nat.add (Nat.mul 256 14) 1) 2 rz_r, rz_aload 0, rz_getf (Nat.add (Nat.mul 256 14) 1) 4 rz_i, rz_iald, rz_i2l, rz_ladd, rz_lcst 48, rz_lsub, rz_lstore 2, rz_aload 0, rz_dup, rz_getf (Nat.add (Nat.mul 256 14) 1) 4 rz_i, rz_cst 1, rz_iadd, rz_putf (Nat.add (Nat.mul 256 14) 1) 4 rz_unI, rz_goto 27, rz_iload 1, rz_ifeq 62, rz_no, rz_lload 2, rz_lstore 2, rz_aload 0, rz_aload 0, rz_getf (Nat.add (Nat.mul 256 14) 1) 4 rz_i, rz_putf (Nat.add (Nat.mul 256 14) 1) 9 rz_unI, rz_aload 0, rz_cst 2, rz_putf (Nat.add (Nat.mul 256 14) 1) 5 rz_unI, rz_aload 0, rz_lload 2, rz_l2i, rz_putf (Nat.add (Nat.mul 256 14) 1) 8 rz_unI, rz_lload 2, rz_aload 0, rz_getf (Nat.add (Nat.mul 256 14) 1) 8 rz_i, rz_i2l, rz_lcmp, rz_ifeq 82, rz_no, rz_vret]
noncomputable def rgX12_readNumber : rz_L → rz_M → rz_Z → Bool := rz_go rcX12_readNumber 4 1000000
def rrX12_readNumber : Room := { frames := 1, cells := 0, slots := 0, locals := 21 }
theorem rmX12_readNumber (l : Launch) {G : rz_G} (hG : rz_Gd G) (vs : rz_L) (M : rz_M) (Z : rz_Z) (hn : vs.length = 1) (h : rgX12_readNumber vs M Z = true) : Met l yX12_readNumber (Cond.code yX12_readNumber cX12_readNumber 4 none :: rz_TB) rrX12_readNumber (rz_Pre G vs M) (rz_Qv G M.2 Z) 0 0 (fun q => rz_b G ≤ q) := by
  obtain ⟨D, tc, ad, b, xs, rfl⟩ := id hG
  refine rz_body (pcs := rpX12_readNumber) (by decide) rfl (by rw [hn]; decide) h ?_
  intro p e R s m args below meth c hC
  obtain ⟨hx, hb, hml, hr, hlk, ho, hts, hKn, hRm⟩ := id hC
  obtain ⟨hK, hA, hSt⟩ := id hKn
  have hw : ∀ {i j : Nat} {ws : List Cond} {w : Cond}, rz_WW[i]? = some ws → ws[j]? = some w → w.before args s = true := fun h1 h2 => hts _ (List.mem_cons_of_mem _ (rz_mem h1 h2))
  refine rz_All_c (i := 0) (fun k J hk hJ => rz_aload_n_ok (pc := 0) hx hb dX12_readNumber_0 rfl hk) ?_
  refine rz_All_c (i := 1) (fun k J hk hJ => rz_getf_ok (pc := 1) (own := RX12) (ref := "ThreadJudgeModel") (C := RX12) (T := TX12) (N := 257) (ci := 14) (index := 13) (f := 2) (t := 2) (Ts := Cond.code yX12_readNumber cX12_readNumber 4 none :: rz_TB) hx hb hts rz_in14 ho hK rfl (by decide) rfl (fun _ => rfl) (hw (i := 32) (j := 13) rfl rfl) (fun _ z => z) dX12_readNumber_1 hk) ?_
  refine rz_All_c (i := 2) (fun k J hk hJ => rz_aload_n_ok (pc := 4) hx hb dX12_readNumber_4 rfl hk) ?_
  refine rz_All_c (i := 3) (fun k J hk hJ => rz_getf_ok (pc := 5) (own := RX12) (ref := "ThreadJudgeModel") (C := RX12) (T := TX12) (N := 257) (ci := 14) (index := 581) (f := 4) (t := 0) (Ts := Cond.code yX12_readNumber cX12_readNumber 4 none :: rz_TB) hx hb hts rz_in14 ho hK rfl (by decide) rfl (fun _ => rfl) (hw (i := 32) (j := 15) rfl rfl) (fun _ z => z) dX12_readNumber_5 hk) ?_
  refine rz_All_c (i := 4) (fun k J hk hJ => rz_iald_ok (pc := 8) hx hb hK dX12_readNumber_8 hk) ?_
  refine rz_All_c (i := 5) (fun k J hk hJ => rz_bipush_ok (pc := 9) hx hb dX12_readNumber_9 (by decide) hk) ?_
  refine rz_All_c (i := 6) (fun k J hk hJ => rz_icmpne_ok (pc := 11) hx hb dX12_readNumber_11 rfl hk (hJ 8)) ?_
  refine rz_All_c (i := 7) (fun k J hk hJ => rz_no_ok) ?_
  refine rz_All_c (i := 8) (fun k J hk hJ => rz_iconst_ok (pc := 18) hx hb dX12_readNumber_18 rfl hk) ?_
  refine rz_All_c (i := 9) (fun k J hk hJ => rz_istore_n_ok (pc := 19) hx hb dX12_readNumber_19 rfl hk) ?_
  refine rz_All_c (i := 10) (fun k J hk hJ => rz_aload_n_ok (pc := 20) hx hb dX12_readNumber_20 rfl hk) ?_
  refine rz_All_c (i := 11) (fun k J hk hJ => rz_iload_n_ok (pc := 21) hx hb dX12_readNumber_21 rfl hk) ?_
  refine rz_All_c (i := 12) (fun k J hk hJ => rz_ifeq_ok (pc := 22) hx hb dX12_readNumber_22 rfl hk (hJ 14)) ?_
  refine rz_All_c (i := 13) (fun k J hk hJ => rz_no_ok) ?_
  refine rz_All_c (i := 14) (fun k J hk hJ => rz_aload_n_ok (pc := 34) hx hb dX12_readNumber_34 rfl hk) ?_
  refine rz_All_c (i := 15) (fun k J hk hJ => rz_getf_ok (pc := 35) (own := RX12) (ref := "ThreadJudgeModel") (C := RX12) (T := TX12) (N := 257) (ci := 14) (index := 581) (f := 4) (t := 0) (Ts := Cond.code yX12_readNumber cX12_readNumber 4 none :: rz_TB) hx hb hts rz_in14 ho hK rfl (by decide) rfl (fun _ => rfl) (hw (i := 32) (j := 15) rfl rfl) (fun _ z => z) dX12_readNumber_35 hk) ?_
  refine rz_All_c (i := 16) (fun k J hk hJ => rz_putf_ok (pc := 38) (own := RX12) (ref := "ThreadJudgeModel") (C := RX12) (T := TX12) (N := 257) (ci := 14) (index := 581) (f := 4) (t := 0) (Ts := Cond.code yX12_readNumber cX12_readNumber 4 none :: rz_TB) hx hb hts rz_in14 tyX12 tyX12_ok nmX12 ho hK hA rfl (by decide) rfl (rz_UnI _) rfl (tyX12_ok 4 (by decide)) (hw (i := 32) (j := 15) rfl rfl) (fun _ z => z) dX12_readNumber_38 hk) ?_
  refine rz_All_c (i := 17) (fun k J hk hJ => rz_aload_n_ok (pc := 41) hx hb dX12_readNumber_41 rfl hk) ?_
  refine rz_All_c (i := 18) (fun k J hk hJ => rz_aload_n_ok (pc := 42) hx hb dX12_readNumber_42 rfl hk) ?_
  refine rz_All_c (i := 19) (fun k J hk hJ => rz_aload_n_ok (pc := 43) hx hb dX12_readNumber_43 rfl hk) ?_
  refine rz_All_c (i := 20) (fun k J hk hJ => rz_getf_ok (pc := 44) (own := RX12) (ref := "ThreadJudgeModel") (C := RX12) (T := TX12) (N := 257) (ci := 14) (index := 581) (f := 4) (t := 0) (Ts := Cond.code yX12_readNumber cX12_readNumber 4 none :: rz_TB) hx hb hts rz_in14 ho hK rfl (by decide) rfl (fun _ => rfl) (hw (i := 32) (j := 15) rfl rfl) (fun _ z => z) dX12_readNumber_44 hk) ?_
  refine rz_All_c (i := 21) (fun k J hk hJ => rz_callV_ok (pc := 47) (own := RX12) (C := RX12) (T0 := TX12) (N0 := 257) hC rfl (rmX12_signAt l hG) (rz_cwV 1 hC rz_good (rz_mem (i := 35) (j := 7) rfl rfl) (rz_mem (i := 35) (j := 8) rfl rfl) (rz_mem (i := 35) (j := 9) rfl rfl) (rz_mem (i := 32) (j := 8) rfl rfl) (rz_mem (i := 35) (j := 10) rfl rfl) ⟨rfl, by decide, by decide, by decide +kernel⟩ rfl rfl ⟨by decide, by decide⟩) rfl dX12_readNumber_47 hk) ?_
  refine rz_All_c (i := 22) (fun k J hk hJ => rz_callV_ok (pc := 50) (own := RX12) (C := RX12) (T0 := TX12) (N0 := 257) hC rfl (rmX12_isFigure l hG) (rz_cwV 1 hC rz_good (rz_mem (i := 35) (j := 15) rfl rfl) (rz_mem (i := 35) (j := 16) rfl rfl) (rz_mem (i := 35) (j := 17) rfl rfl) (rz_mem (i := 32) (j := 8) rfl rfl) (rz_mem (i := 35) (j := 18) rfl rfl) ⟨rfl, by decide, by decide, by decide +kernel⟩ rfl rfl ⟨by decide, by decide⟩) rfl dX12_readNumber_50 hk) ?_
  refine rz_All_c (i := 23) (fun k J hk hJ => rz_ifne_ok (pc := 53) hx hb dX12_readNumber_53 rfl hk (hJ 25)) ?_
  refine rz_All_c (i := 24) (fun k J hk hJ => rz_no_ok) ?_
  refine rz_All_c (i := 25) (fun k J hk hJ => rz_lconst_ok (pc := 65) hx hb dX12_readNumber_65 rfl hk) ?_
  refine rz_All_c (i := 26) (fun k J hk hJ => rz_lstore_n_ok (pc := 66) hx hb dX12_readNumber_66 rfl hk) ?_
  refine rz_All_c (i := 27) (fun k J hk hJ => rz_aload_n_ok (pc := 67) hx hb dX12_readNumber_67 rfl hk) ?_
  refine rz_All_c (i := 28) (fun k J hk hJ => rz_aload_n_ok (pc := 68) hx hb dX12_readNumber_68 rfl hk) ?_
  refine rz_All_c (i := 29) (fun k J hk hJ => rz_aload_n_ok (pc := 69) hx hb dX12_readNumber_69 rfl hk) ?_
  refine rz_All_c (i := 30) (fun k J hk hJ => rz_getf_ok (pc := 70) (own := RX12) (ref := "ThreadJudgeModel") (C := RX12) (T := TX12) (N := 257) (ci := 14) (index := 581) (f := 4) (t := 0) (Ts := Cond.code yX12_readNumber cX12_readNumber 4 none :: rz_TB) hx hb hts rz_in14 ho hK rfl (by decide) rfl (fun _ => rfl) (hw (i := 32) (j := 15) rfl rfl) (fun _ z => z) dX12_readNumber_70 hk) ?_
  refine rz_All_c (i := 31) (fun k J hk hJ => rz_callV_ok (pc := 73) (own := RX12) (C := RX12) (T0 := TX12) (N0 := 257) hC rfl (rmX12_signAt l hG) (rz_cwV 1 hC rz_good (rz_mem (i := 35) (j := 7) rfl rfl) (rz_mem (i := 35) (j := 8) rfl rfl) (rz_mem (i := 35) (j := 9) rfl rfl) (rz_mem (i := 32) (j := 8) rfl rfl) (rz_mem (i := 35) (j := 10) rfl rfl) ⟨rfl, by decide, by decide, by decide +kernel⟩ rfl rfl ⟨by decide, by decide⟩) rfl dX12_readNumber_73 hk) ?_
  refine rz_All_c (i := 32) (fun k J hk hJ => rz_callV_ok (pc := 76) (own := RX12) (C := RX12) (T0 := TX12) (N0 := 257) hC rfl (rmX12_isFigure l hG) (rz_cwV 1 hC rz_good (rz_mem (i := 35) (j := 15) rfl rfl) (rz_mem (i := 35) (j := 16) rfl rfl) (rz_mem (i := 35) (j := 17) rfl rfl) (rz_mem (i := 32) (j := 8) rfl rfl) (rz_mem (i := 35) (j := 18) rfl rfl) ⟨rfl, by decide, by decide, by decide +kernel⟩ rfl rfl ⟨by decide, by decide⟩) rfl dX12_readNumber_76 hk) ?_
  refine rz_All_c (i := 33) (fun k J hk hJ => rz_ifeq_ok (pc := 79) hx hb dX12_readNumber_79 rfl hk (hJ 59)) ?_
  refine rz_All_c (i := 34) (fun k J hk hJ => rz_lload_n_ok (pc := 82) hx hb dX12_readNumber_82 rfl hk) ?_
  refine rz_All_c (i := 35) (fun k J hk hJ => rz_ldc2_ok (pc := 83) hx hb (own := RX12) ho (hw (i := 36) (j := 3) rfl rfl) (by decide) dX12_readNumber_83 hk) ?_
  refine rz_All_c (i := 36) (fun k J hk hJ => rz_lcmp_ok (pc := 86) hx hb dX12_readNumber_86 hk) ?_
  refine rz_All_c (i := 37) (fun k J hk hJ => rz_ifle_ok (pc := 87) hx hb dX12_readNumber_87 rfl hk (hJ 39)) ?_
  refine rz_All_c (i := 38) (fun k J hk hJ => rz_no_ok) ?_
  refine rz_All_c (i := 39) (fun k J hk hJ => rz_ldc2_ok (pc := 94) hx hb (own := RX12) ho (hw (i := 36) (j := 4) rfl rfl) (by decide) dX12_readNumber_94 hk) ?_
  refine rz_All_c (i := 40) (fun k J hk hJ => rz_lload_n_ok (pc := 97) hx hb dX12_readNumber_97 rfl hk) ?_
  refine rz_All_c (i := 41) (fun k J hk hJ => rz_lmul_ok (pc := 98) hx hb dX12_readNumber_98 hk) ?_
  refine rz_All_c (i := 42) (fun k J hk hJ => rz_aload_n_ok (pc := 99) hx hb dX12_readNumber_99 rfl hk) ?_
  refine rz_All_c (i := 43) (fun k J hk hJ => rz_getf_ok (pc := 100) (own := RX12) (ref := "ThreadJudgeModel") (C := RX12) (T := TX12) (N := 257) (ci := 14) (index := 13) (f := 2) (t := 2) (Ts := Cond.code yX12_readNumber cX12_readNumber 4 none :: rz_TB) hx hb hts rz_in14 ho hK rfl (by decide) rfl (fun _ => rfl) (hw (i := 32) (j := 13) rfl rfl) (fun _ z => z) dX12_readNumber_100 hk) ?_
  refine rz_All_c (i := 44) (fun k J hk hJ => rz_aload_n_ok (pc := 103) hx hb dX12_readNumber_103 rfl hk) ?_
  refine rz_All_c (i := 45) (fun k J hk hJ => rz_getf_ok (pc := 104) (own := RX12) (ref := "ThreadJudgeModel") (C := RX12) (T := TX12) (N := 257) (ci := 14) (index := 581) (f := 4) (t := 0) (Ts := Cond.code yX12_readNumber cX12_readNumber 4 none :: rz_TB) hx hb hts rz_in14 ho hK rfl (by decide) rfl (fun _ => rfl) (hw (i := 32) (j := 15) rfl rfl) (fun _ z => z) dX12_readNumber_104 hk) ?_
  refine rz_All_c (i := 46) (fun k J hk hJ => rz_iald_ok (pc := 107) hx hb hK dX12_readNumber_107 hk) ?_
  refine rz_All_c (i := 47) (fun k J hk hJ => rz_i2l_ok (pc := 108) hx hb dX12_readNumber_108 hk) ?_
  refine rz_All_c (i := 48) (fun k J hk hJ => rz_ladd_ok (pc := 109) hx hb dX12_readNumber_109 hk) ?_
  refine rz_All_c (i := 49) (fun k J hk hJ => rz_ldc2_ok (pc := 110) hx hb (own := RX12) ho (hw (i := 36) (j := 5) rfl rfl) (by decide) dX12_readNumber_110 hk) ?_
  refine rz_All_c (i := 50) (fun k J hk hJ => rz_lsub_ok (pc := 113) hx hb dX12_readNumber_113 hk) ?_
  refine rz_All_c (i := 51) (fun k J hk hJ => rz_lstore_n_ok (pc := 114) hx hb dX12_readNumber_114 rfl hk) ?_
  refine rz_All_c (i := 52) (fun k J hk hJ => rz_aload_n_ok (pc := 115) hx hb dX12_readNumber_115 rfl hk) ?_
  refine rz_All_c (i := 53) (fun k J hk hJ => rz_dup_ok (pc := 116) hx hb dX12_readNumber_116 hk) ?_
  refine rz_All_c (i := 54) (fun k J hk hJ => rz_getf_ok (pc := 117) (own := RX12) (ref := "ThreadJudgeModel") (C := RX12) (T := TX12) (N := 257) (ci := 14) (index := 581) (f := 4) (t := 0) (Ts := Cond.code yX12_readNumber cX12_readNumber 4 none :: rz_TB) hx hb hts rz_in14 ho hK rfl (by decide) rfl (fun _ => rfl) (hw (i := 32) (j := 15) rfl rfl) (fun _ z => z) dX12_readNumber_117 hk) ?_
  refine rz_All_c (i := 55) (fun k J hk hJ => rz_iconst_ok (pc := 120) hx hb dX12_readNumber_120 rfl hk) ?_
  refine rz_All_c (i := 56) (fun k J hk hJ => rz_iadd_ok (pc := 121) hx hb dX12_readNumber_121 hk) ?_
  refine rz_All_c (i := 57) (fun k J hk hJ => rz_putf_ok (pc := 122) (own := RX12) (ref := "ThreadJudgeModel") (C := RX12) (T := TX12) (N := 257) (ci := 14) (index := 581) (f := 4) (t := 0) (Ts := Cond.code yX12_readNumber cX12_readNumber 4 none :: rz_TB) hx hb hts rz_in14 tyX12 tyX12_ok nmX12 ho hK hA rfl (by decide) rfl (rz_UnI _) rfl (tyX12_ok 4 (by decide)) (hw (i := 32) (j := 15) rfl rfl) (fun _ z => z) dX12_readNumber_122 hk) ?_
  refine rz_All_c (i := 58) (fun k J hk hJ => rz_goto_ok (pc := 125) hx hb dX12_readNumber_125 rfl (hJ 27)) ?_
  refine rz_All_c (i := 59) (fun k J hk hJ => rz_iload_n_ok (pc := 128) hx hb dX12_readNumber_128 rfl hk) ?_
  refine rz_All_c (i := 60) (fun k J hk hJ => rz_ifeq_ok (pc := 129) hx hb dX12_readNumber_129 rfl hk (hJ 62)) ?_
  refine rz_All_c (i := 61) (fun k J hk hJ => rz_no_ok) ?_
  refine rz_All_c (i := 62) (fun k J hk hJ => rz_lload_n_ok (pc := 137) hx hb dX12_readNumber_137 rfl hk) ?_
  refine rz_All_c (i := 63) (fun k J hk hJ => rz_lstore_n_ok (pc := 138) hx hb dX12_readNumber_138 rfl hk) ?_
  refine rz_All_c (i := 64) (fun k J hk hJ => rz_aload_n_ok (pc := 139) hx hb dX12_readNumber_139 rfl hk) ?_
  refine rz_All_c (i := 65) (fun k J hk hJ => rz_aload_n_ok (pc := 140) hx hb dX12_readNumber_140 rfl hk) ?_
  refine rz_All_c (i := 66) (fun k J hk hJ => rz_getf_ok (pc := 141) (own := RX12) (ref := "ThreadJudgeModel") (C := RX12) (T := TX12) (N := 257) (ci := 14) (index := 581) (f := 4) (t := 0) (Ts := Cond.code yX12_readNumber cX12_readNumber 4 none :: rz_TB) hx hb hts rz_in14 ho hK rfl (by decide) rfl (fun _ => rfl) (hw (i := 32) (j := 15) rfl rfl) (fun _ z => z) dX12_readNumber_141 hk) ?_
  refine rz_All_c (i := 67) (fun k J hk hJ => rz_putf_ok (pc := 144) (own := RX12) (ref := "ThreadJudgeModel") (C := RX12) (T := TX12) (N := 257) (ci := 14) (index := 608) (f := 9) (t := 0) (Ts := Cond.code yX12_readNumber cX12_readNumber 4 none :: rz_TB) hx hb hts rz_in14 tyX12 tyX12_ok nmX12 ho hK hA rfl (by decide) rfl (rz_UnI _) rfl (tyX12_ok 9 (by decide)) (hw (i := 32) (j := 16) rfl rfl) (fun _ z => z) dX12_readNumber_144 hk) ?_
  refine rz_All_c (i := 68) (fun k J hk hJ => rz_aload_n_ok (pc := 147) hx hb dX12_readNumber_147 rfl hk) ?_
  refine rz_All_c (i := 69) (fun k J hk hJ => rz_iconst_ok (pc := 148) hx hb dX12_readNumber_148 rfl hk) ?_
  refine rz_All_c (i := 70) (fun k J hk hJ => rz_putf_ok (pc := 149) (own := RX12) (ref := "ThreadJudgeModel") (C := RX12) (T := TX12) (N := 257) (ci := 14) (index := 588) (f := 5) (t := 0) (Ts := Cond.code yX12_readNumber cX12_readNumber 4 none :: rz_TB) hx hb hts rz_in14 tyX12 tyX12_ok nmX12 ho hK hA rfl (by decide) rfl (rz_UnI _) rfl (tyX12_ok 5 (by decide)) (hw (i := 33) (j := 2) rfl rfl) (fun _ z => z) dX12_readNumber_149 hk) ?_
  refine rz_All_c (i := 71) (fun k J hk hJ => rz_aload_n_ok (pc := 152) hx hb dX12_readNumber_152 rfl hk) ?_
  refine rz_All_c (i := 72) (fun k J hk hJ => rz_lload_n_ok (pc := 153) hx hb dX12_readNumber_153 rfl hk) ?_
  refine rz_All_c (i := 73) (fun k J hk hJ => rz_l2i_ok (pc := 154) hx hb dX12_readNumber_154 hk) ?_
  refine rz_All_c (i := 74) (fun k J hk hJ => rz_putf_ok (pc := 155) (own := RX12) (ref := "ThreadJudgeModel") (C := RX12) (T := TX12) (N := 257) (ci := 14) (index := 611) (f := 8) (t := 0) (Ts := Cond.code yX12_readNumber cX12_readNumber 4 none :: rz_TB) hx hb hts rz_in14 tyX12 tyX12_ok nmX12 ho hK hA rfl (by decide) rfl (rz_UnI _) rfl (tyX12_ok 8 (by decide)) (hw (i := 35) (j := 2) rfl rfl) (fun _ z => z) dX12_readNumber_155 hk) ?_
  refine rz_All_c (i := 75) (fun k J hk hJ => rz_lload_n_ok (pc := 158) hx hb dX12_readNumber_158 rfl hk) ?_
  refine rz_All_c (i := 76) (fun k J hk hJ => rz_aload_n_ok (pc := 159) hx hb dX12_readNumber_159 rfl hk) ?_
  refine rz_All_c (i := 77) (fun k J hk hJ => rz_getf_ok (pc := 160) (own := RX12) (ref := "ThreadJudgeModel") (C := RX12) (T := TX12) (N := 257) (ci := 14) (index := 611) (f := 8) (t := 0) (Ts := Cond.code yX12_readNumber cX12_readNumber 4 none :: rz_TB) hx hb hts rz_in14 ho hK rfl (by decide) rfl (fun _ => rfl) (hw (i := 35) (j := 2) rfl rfl) (fun _ z => z) dX12_readNumber_160 hk) ?_
  refine rz_All_c (i := 78) (fun k J hk hJ => rz_i2l_ok (pc := 163) hx hb dX12_readNumber_163 hk) ?_
  refine rz_All_c (i := 79) (fun k J hk hJ => rz_lcmp_ok (pc := 164) hx hb dX12_readNumber_164 hk) ?_
  refine rz_All_c (i := 80) (fun k J hk hJ => rz_ifeq_ok (pc := 165) hx hb dX12_readNumber_165 rfl hk (hJ 82)) ?_
  refine rz_All_c (i := 81) (fun k J hk hJ => rz_no_ok) ?_
  refine rz_All_c (i := 82) (fun k J hk hJ => rz_vret_ok (pc := 176) hC dX12_readNumber_176) ?_
  exact trivial
theorem dX12_skip_0 : decode cX12_skip 0 = .ok (.iconst 1, 1) := by decide +kernel
theorem dX12_skip_1 : decode cX12_skip 1 = .ok (.istore_n 1, 1) := by decide +kernel
theorem dX12_skip_2 : decode cX12_skip 2 = .ok (.iload_n 1, 1) := by decide +kernel
theorem dX12_skip_3 : decode cX12_skip 3 = .ok (.ifCond .eq 98, 3) := by decide +kernel
theorem dX12_skip_6 : decode cX12_skip 6 = .ok (.aload_n 0, 1) := by decide +kernel
theorem dX12_skip_7 : decode cX12_skip 7 = .ok (.aload_n 0, 1) := by decide +kernel
theorem dX12_skip_8 : decode cX12_skip 8 = .ok (.getfield 581, 3) := by decide +kernel
theorem dX12_skip_11 : decode cX12_skip 11 = .ok (.invokevirtual 584, 3) := by decide +kernel
theorem dX12_skip_14 : decode cX12_skip 14 = .ok (.istore_n 2, 1) := by decide +kernel
theorem dX12_skip_15 : decode cX12_skip 15 = .ok (.iload_n 2, 1) := by decide +kernel
theorem dX12_skip_16 : decode cX12_skip 16 = .ok (.bipush 9, 2) := by decide +kernel
theorem dX12_skip_18 : decode cX12_skip 18 = .ok (.if_icmp .eq 21, 3) := by decide +kernel
theorem dX12_skip_21 : decode cX12_skip 21 = .ok (.iload_n 2, 1) := by decide +kernel
theorem dX12_skip_22 : decode cX12_skip 22 = .ok (.bipush 10, 2) := by decide +kernel
theorem dX12_skip_24 : decode cX12_skip 24 = .ok (.if_icmp .eq 15, 3) := by decide +kernel
theorem dX12_skip_27 : decode cX12_skip 27 = .ok (.iload_n 2, 1) := by decide +kernel
theorem dX12_skip_28 : decode cX12_skip 28 = .ok (.bipush 13, 2) := by decide +kernel
theorem dX12_skip_30 : decode cX12_skip 30 = .ok (.if_icmp .eq 9, 3) := by decide +kernel
theorem dX12_skip_33 : decode cX12_skip 33 = .ok (.iload_n 2, 1) := by decide +kernel
theorem dX12_skip_34 : decode cX12_skip 34 = .ok (.bipush 32, 2) := by decide +kernel
theorem dX12_skip_36 : decode cX12_skip 36 = .ok (.if_icmp .ne 16, 3) := by decide +kernel
theorem dX12_skip_39 : decode cX12_skip 39 = .ok (.aload_n 0, 1) := by decide +kernel
theorem dX12_skip_40 : decode cX12_skip 40 = .ok (.dup, 1) := by decide +kernel
theorem dX12_skip_41 : decode cX12_skip 41 = .ok (.getfield 581, 3) := by decide +kernel
theorem dX12_skip_44 : decode cX12_skip 44 = .ok (.iconst 1, 1) := by decide +kernel
theorem dX12_skip_45 : decode cX12_skip 45 = .ok (.iadd, 1) := by decide +kernel
theorem dX12_skip_46 : decode cX12_skip 46 = .ok (.putfield 581, 3) := by decide +kernel
theorem dX12_skip_49 : decode cX12_skip 49 = .ok (.goto 49, 3) := by decide +kernel
theorem dX12_skip_52 : decode cX12_skip 52 = .ok (.iload_n 2, 1) := by decide +kernel
theorem dX12_skip_53 : decode cX12_skip 53 = .ok (.bipush 35, 2) := by decide +kernel
theorem dX12_skip_55 : decode cX12_skip 55 = .ok (.if_icmp .ne 41, 3) := by decide +kernel
theorem dX12_skip_96 : decode cX12_skip 96 = .ok (.iconst 0, 1) := by decide +kernel
theorem dX12_skip_97 : decode cX12_skip 97 = .ok (.istore_n 1, 1) := by decide +kernel
theorem dX12_skip_98 : decode cX12_skip 98 = .ok (.goto (-96), 3) := by decide +kernel
theorem dX12_skip_101 : decode cX12_skip 101 = .ok (.return_, 1) := by decide +kernel
def rpX12_skip : List Nat := [0, 1, 2, 3, 6, 7, 8, 11, 14, 15, 16, 18, 21, 22, 24, 27, 28, 30, 33, 34, 36, 39, 40, 41, 44, 45, 46, 49, 52, 53, 55, 58, 96, 97, 98, 101]
noncomputable def rcX12_skip : List rz_B := [rz_cst 1, rz_istore 1, rz_iload 1, rz_ifeq 35, rz_aload 0, rz_aload 0, rz_getf (Nat.add (Nat.mul 256 14) 1) 4 rz_i, rz_callV 1 (Nat.add (Nat.mul 256 14) 1) rgX12_signAt, rz_istore 2, rz_iload 2, rz_cst 9, rz_icmpeq 21, rz_iload 2, rz_cst 10, rz_icmpeq 21, rz_iload 2, rz_cst 13, rz_icmpeq 21, rz_iload 2, rz_cst 32, rz_icmpne 28, rz_aload 0, rz_dup, rz_getf (Nat.add (Nat.mul 256 14) 1) 4 rz_i, rz_cst 1, rz_iadd, rz_putf (Nat.add (Nat.mul 256 14) 1) 4 rz_unI, rz_goto 34, rz_iload 2, rz_cst 35, rz_icmpne 32, rz_no, rz_cst 0, rz_istore 1, rz_goto 2, rz_vret]
noncomputable def rgX12_skip : rz_L → rz_M → rz_Z → Bool := rz_go rcX12_skip 3 1000000
def rrX12_skip : Room := { frames := 1, cells := 0, slots := 0, locals := 21 }
theorem rmX12_skip (l : Launch) {G : rz_G} (hG : rz_Gd G) (vs : rz_L) (M : rz_M) (Z : rz_Z) (hn : vs.length = 1) (h : rgX12_skip vs M Z = true) : Met l yX12_skip (Cond.code yX12_skip cX12_skip 3 none :: rz_TB) rrX12_skip (rz_Pre G vs M) (rz_Qv G M.2 Z) 0 0 (fun q => rz_b G ≤ q) := by
  obtain ⟨D, tc, ad, b, xs, rfl⟩ := id hG
  refine rz_body (pcs := rpX12_skip) (by decide) rfl (by rw [hn]; decide) h ?_
  intro p e R s m args below meth c hC
  obtain ⟨hx, hb, hml, hr, hlk, ho, hts, hKn, hRm⟩ := id hC
  obtain ⟨hK, hA, hSt⟩ := id hKn
  have hw : ∀ {i j : Nat} {ws : List Cond} {w : Cond}, rz_WW[i]? = some ws → ws[j]? = some w → w.before args s = true := fun h1 h2 => hts _ (List.mem_cons_of_mem _ (rz_mem h1 h2))
  refine rz_All_c (i := 0) (fun k J hk hJ => rz_iconst_ok (pc := 0) hx hb dX12_skip_0 rfl hk) ?_
  refine rz_All_c (i := 1) (fun k J hk hJ => rz_istore_n_ok (pc := 1) hx hb dX12_skip_1 rfl hk) ?_
  refine rz_All_c (i := 2) (fun k J hk hJ => rz_iload_n_ok (pc := 2) hx hb dX12_skip_2 rfl hk) ?_
  refine rz_All_c (i := 3) (fun k J hk hJ => rz_ifeq_ok (pc := 3) hx hb dX12_skip_3 rfl hk (hJ 35)) ?_
  refine rz_All_c (i := 4) (fun k J hk hJ => rz_aload_n_ok (pc := 6) hx hb dX12_skip_6 rfl hk) ?_
  refine rz_All_c (i := 5) (fun k J hk hJ => rz_aload_n_ok (pc := 7) hx hb dX12_skip_7 rfl hk) ?_
  refine rz_All_c (i := 6) (fun k J hk hJ => rz_getf_ok (pc := 8) (own := RX12) (ref := "ThreadJudgeModel") (C := RX12) (T := TX12) (N := 257) (ci := 14) (index := 581) (f := 4) (t := 0) (Ts := Cond.code yX12_skip cX12_skip 3 none :: rz_TB) hx hb hts rz_in14 ho hK rfl (by decide) rfl (fun _ => rfl) (hw (i := 32) (j := 15) rfl rfl) (fun _ z => z) dX12_skip_8 hk) ?_
  refine rz_All_c (i := 7) (fun k J hk hJ => rz_callV_ok (pc := 11) (own := RX12) (C := RX12) (T0 := TX12) (N0 := 257) hC rfl (rmX12_signAt l hG) (rz_cwV 1 hC rz_good (rz_mem (i := 35) (j := 7) rfl rfl) (rz_mem (i := 35) (j := 8) rfl rfl) (rz_mem (i := 35) (j := 9) rfl rfl) (rz_mem (i := 32) (j := 8) rfl rfl) (rz_mem (i := 35) (j := 10) rfl rfl) ⟨rfl, by decide, by decide, by decide +kernel⟩ rfl rfl ⟨by decide, by decide⟩) rfl dX12_skip_11 hk) ?_
  refine rz_All_c (i := 8) (fun k J hk hJ => rz_istore_n_ok (pc := 14) hx hb dX12_skip_14 rfl hk) ?_
  refine rz_All_c (i := 9) (fun k J hk hJ => rz_iload_n_ok (pc := 15) hx hb dX12_skip_15 rfl hk) ?_
  refine rz_All_c (i := 10) (fun k J hk hJ => rz_bipush_ok (pc := 16) hx hb dX12_skip_16 (by decide) hk) ?_
  refine rz_All_c (i := 11) (fun k J hk hJ => rz_icmpeq_ok (pc := 18) hx hb dX12_skip_18 rfl hk (hJ 21)) ?_
  refine rz_All_c (i := 12) (fun k J hk hJ => rz_iload_n_ok (pc := 21) hx hb dX12_skip_21 rfl hk) ?_
  refine rz_All_c (i := 13) (fun k J hk hJ => rz_bipush_ok (pc := 22) hx hb dX12_skip_22 (by decide) hk) ?_
  refine rz_All_c (i := 14) (fun k J hk hJ => rz_icmpeq_ok (pc := 24) hx hb dX12_skip_24 rfl hk (hJ 21)) ?_
  refine rz_All_c (i := 15) (fun k J hk hJ => rz_iload_n_ok (pc := 27) hx hb dX12_skip_27 rfl hk) ?_
  refine rz_All_c (i := 16) (fun k J hk hJ => rz_bipush_ok (pc := 28) hx hb dX12_skip_28 (by decide) hk) ?_
  refine rz_All_c (i := 17) (fun k J hk hJ => rz_icmpeq_ok (pc := 30) hx hb dX12_skip_30 rfl hk (hJ 21)) ?_
  refine rz_All_c (i := 18) (fun k J hk hJ => rz_iload_n_ok (pc := 33) hx hb dX12_skip_33 rfl hk) ?_
  refine rz_All_c (i := 19) (fun k J hk hJ => rz_bipush_ok (pc := 34) hx hb dX12_skip_34 (by decide) hk) ?_
  refine rz_All_c (i := 20) (fun k J hk hJ => rz_icmpne_ok (pc := 36) hx hb dX12_skip_36 rfl hk (hJ 28)) ?_
  refine rz_All_c (i := 21) (fun k J hk hJ => rz_aload_n_ok (pc := 39) hx hb dX12_skip_39 rfl hk) ?_
  refine rz_All_c (i := 22) (fun k J hk hJ => rz_dup_ok (pc := 40) hx hb dX12_skip_40 hk) ?_
  refine rz_All_c (i := 23) (fun k J hk hJ => rz_getf_ok (pc := 41) (own := RX12) (ref := "ThreadJudgeModel") (C := RX12) (T := TX12) (N := 257) (ci := 14) (index := 581) (f := 4) (t := 0) (Ts := Cond.code yX12_skip cX12_skip 3 none :: rz_TB) hx hb hts rz_in14 ho hK rfl (by decide) rfl (fun _ => rfl) (hw (i := 32) (j := 15) rfl rfl) (fun _ z => z) dX12_skip_41 hk) ?_
  refine rz_All_c (i := 24) (fun k J hk hJ => rz_iconst_ok (pc := 44) hx hb dX12_skip_44 rfl hk) ?_
  refine rz_All_c (i := 25) (fun k J hk hJ => rz_iadd_ok (pc := 45) hx hb dX12_skip_45 hk) ?_
  refine rz_All_c (i := 26) (fun k J hk hJ => rz_putf_ok (pc := 46) (own := RX12) (ref := "ThreadJudgeModel") (C := RX12) (T := TX12) (N := 257) (ci := 14) (index := 581) (f := 4) (t := 0) (Ts := Cond.code yX12_skip cX12_skip 3 none :: rz_TB) hx hb hts rz_in14 tyX12 tyX12_ok nmX12 ho hK hA rfl (by decide) rfl (rz_UnI _) rfl (tyX12_ok 4 (by decide)) (hw (i := 32) (j := 15) rfl rfl) (fun _ z => z) dX12_skip_46 hk) ?_
  refine rz_All_c (i := 27) (fun k J hk hJ => rz_goto_ok (pc := 49) hx hb dX12_skip_49 rfl (hJ 34)) ?_
  refine rz_All_c (i := 28) (fun k J hk hJ => rz_iload_n_ok (pc := 52) hx hb dX12_skip_52 rfl hk) ?_
  refine rz_All_c (i := 29) (fun k J hk hJ => rz_bipush_ok (pc := 53) hx hb dX12_skip_53 (by decide) hk) ?_
  refine rz_All_c (i := 30) (fun k J hk hJ => rz_icmpne_ok (pc := 55) hx hb dX12_skip_55 rfl hk (hJ 32)) ?_
  refine rz_All_c (i := 31) (fun k J hk hJ => rz_no_ok) ?_
  refine rz_All_c (i := 32) (fun k J hk hJ => rz_iconst_ok (pc := 96) hx hb dX12_skip_96 rfl hk) ?_
  refine rz_All_c (i := 33) (fun k J hk hJ => rz_istore_n_ok (pc := 97) hx hb dX12_skip_97 rfl hk) ?_
  refine rz_All_c (i := 34) (fun k J hk hJ => rz_goto_ok (pc := 98) hx hb dX12_skip_98 rfl (hJ 2)) ?_
  refine rz_All_c (i := 35) (fun k J hk hJ => rz_vret_ok (pc := 101) hC dX12_skip_101) ?_
  exact trivial
