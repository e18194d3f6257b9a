/-! Runs of load(). -/
theorem rk_X12_readMethod_1_m (l : Launch) {G : rz_G} (hG : rz_Gd G) : Met l yX12_readMethod (Cond.code yX12_readMethod cX12_readMethod 4 (some .boolean) :: rz_TB) rrX12_readMethod (rz_Pre G [rz_r 215, rz_i 16, rz_i 0] (rs_39, 398, 0)) (rz_Qi G (rs_39, 398, 0).2 (rz_tst (rz_i 1) (rs_40, 398, 0))) 0 0 (fun q => rz_b G ≤ q) := rmX12_readMethod_c l hG _ _ _ rfl rfl (rz_Rn_cut rk_X12_readMethod_1_s0 (rz_Rn_cut rk_X12_readMethod_1_s1 (rz_Rn_last rk_X12_readMethod_1_e)))
noncomputable def roX12_readMethod : rz_L → rz_M → rz_Z → Bool := (rz_ora [rz_r 215, rz_i 16, rz_i 0] (rs_39, 398, 0) (rz_i 1) (rs_40, 398, 0) (rz_ora [rz_r 215, rz_i 16, rz_i 0] (rs_36, 398, 0) (rz_i 1) (rs_37, 398, 0) rgX12_readMethod))
theorem rmoX12_readMethod (l : Launch) {G : rz_G} (hG : rz_Gd G) (vs : rz_L) (M : rz_M) (Z : rz_Z) (hn : vs.length = 3) (h : roX12_readMethod vs M Z = true) : Met l yX12_readMethod (Cond.code yX12_readMethod cX12_readMethod 4 (some .boolean) :: rz_TB) rrX12_readMethod (rz_Pre G vs M) (rz_Qi G M.2 Z) 0 0 (fun q => rz_b G ≤ q) := (fun vs M Z hn h => rz_orb_i (rk_X12_readMethod_1_m l hG) (fun vs M Z hn h => rz_orb_i (rk_X12_readMethod_0_m l hG) (fun vs M Z hn h => rmX12_readMethod l hG vs M Z hn h) vs M Z hn h) vs M Z hn h) vs M Z hn h
noncomputable def rcX12_readMember_o : List rz_B := [rz_cst 0, rz_istore 2, rz_cst 1, rz_istore 3, rz_iload 3, rz_ifeq 58, rz_aload 0, rz_getf (Nat.add (Nat.mul 256 14) 1) 5 rz_i, rz_cst 1, rz_icmpne 18, rz_aload 0, rz_txt 1000012, rz_aload 0, rz_getf (Nat.add (Nat.mul 256 14) 1) 6 rz_i, rz_aload 0, rz_getf (Nat.add (Nat.mul 256 14) 1) 7 rz_i, rz_callV 3 (Nat.add (Nat.mul 256 14) 1) rgX12_wordOf, rz_goto 19, rz_no, rz_istore 4, rz_iload 4, rz_cst 6, rz_icmpne 25, rz_cst 1, rz_goto 42, rz_iload 4, rz_cst 7, rz_icmpne 29, rz_no, rz_iload 4, rz_cst 8, rz_icmpne 33, rz_no, rz_iload 4, rz_ifne 37, rz_cst 8, rz_goto 42, rz_iload 4, rz_cst 9, rz_icmpne 41, rz_no, rz_cst 0, rz_istore 5, rz_iload 2, rz_iload 5, rz_ior, rz_istore 2, rz_iload 5, rz_ifle 51, rz_cst 1, rz_goto 52, rz_cst 0, rz_istore 3, rz_iload 3, rz_ifeq 57, rz_aload 0, rz_callVv 0 (Nat.add (Nat.mul 256 14) 1) rgX12_next, rz_goto 4, rz_aload 0, rz_cst 10, rz_callV 1 (Nat.add (Nat.mul 256 14) 1) rgX12_isWord, rz_ifeq 69, rz_aload 0, rz_callVv 0 (Nat.add (Nat.mul 256 14) 1) rgX12_next, rz_aload 0, rz_iload 1, rz_iload 2, rz_callV 2 (Nat.add (Nat.mul 256 14) 1) rgX12_readField, rz_zret, rz_aload 0, rz_aload 0, rz_cst 11, rz_callV 1 (Nat.add (Nat.mul 256 14) 1) rgX12_isWord, rz_callV 1 (Nat.add (Nat.mul 256 14) 1) rgX12_can, rz_ifne 76, rz_no, rz_aload 0, rz_callVv 0 (Nat.add (Nat.mul 256 14) 1) rgX12_next, rz_aload 0, rz_iload 1, rz_iload 2, rz_callV 2 (Nat.add (Nat.mul 256 14) 1) roX12_readMethod, rz_zret]
noncomputable def rgX12_readMember_o : rz_L → rz_M → rz_Z → Bool := rz_go rcX12_readMember_o 6 1000000
theorem rmX12_readMember_o (l : Launch) {G : rz_G} (hG : rz_Gd G) (vs : rz_L) (M : rz_M) (Z : rz_Z) (hn : vs.length = 2) (h : rgX12_readMember_o vs M Z = true) : Met l yX12_readMember (Cond.code yX12_readMember cX12_readMember 6 (some .boolean) :: rz_TB) rrX12_readMember (rz_Pre G vs M) (rz_Qi G M.2 Z) 0 0 (fun q => rz_b G ≤ q) := by
  obtain ⟨D, tc, ad, b, xs, rfl⟩ := id hG
  refine rz_body (pcs := rpX12_readMember) (by decide) rfl (by rw [hn]; decide) h ?_
  intro p e R s m args below meth c hC
  obtain ⟨hx, hb, hml, hr, hlk, ho, hts, hKn, hRm⟩ := id hC
  obtain ⟨hK, hA, hSt⟩ := id hKn
  have hw : ∀ {i j : Nat} {ws : List Cond} {w : Cond}, rz_WW[i]? = some ws → ws[j]? = some w → w.before args s = true := fun h1 h2 => hts _ (List.mem_cons_of_mem _ (rz_mem h1 h2))
  refine rz_All_c (i := 0) (fun k J hk hJ => rz_iconst_ok (pc := 0) hx hb dX12_readMember_0 rfl hk) ?_
  refine rz_All_c (i := 1) (fun k J hk hJ => rz_istore_n_ok (pc := 1) hx hb dX12_readMember_1 rfl hk) ?_
  refine rz_All_c (i := 2) (fun k J hk hJ => rz_iconst_ok (pc := 2) hx hb dX12_readMember_2 rfl hk) ?_
  refine rz_All_c (i := 3) (fun k J hk hJ => rz_istore_n_ok (pc := 3) hx hb dX12_readMember_3 rfl hk) ?_
  refine rz_All_c (i := 4) (fun k J hk hJ => rz_iload_n_ok (pc := 4) hx hb dX12_readMember_4 rfl hk) ?_
  refine rz_All_c (i := 5) (fun k J hk hJ => rz_ifeq_ok (pc := 5) hx hb dX12_readMember_5 rfl hk (hJ 58)) ?_
  refine rz_All_c (i := 6) (fun k J hk hJ => rz_aload_n_ok (pc := 8) hx hb dX12_readMember_8 rfl hk) ?_
  refine rz_All_c (i := 7) (fun k J hk hJ => rz_getf_ok (pc := 9) (own := RX12) (ref := "ThreadJudgeModel") (C := RX12) (T := TX12) (N := 257) (ci := 14) (index := 588) (f := 5) (t := 0) (Ts := Cond.code yX12_readMember cX12_readMember 6 (some .boolean) :: rz_TB) hx hb hts rz_in14 ho hK rfl (by decide) rfl (fun _ => rfl) (hw (i := 33) (j := 2) rfl rfl) (fun _ z => z) dX12_readMember_9 hk) ?_
  refine rz_All_c (i := 8) (fun k J hk hJ => rz_iconst_ok (pc := 12) hx hb dX12_readMember_12 rfl hk) ?_
  refine rz_All_c (i := 9) (fun k J hk hJ => rz_icmpne_ok (pc := 13) hx hb dX12_readMember_13 rfl hk (hJ 18)) ?_
  refine rz_All_c (i := 10) (fun k J hk hJ => rz_aload_n_ok (pc := 16) hx hb dX12_readMember_16 rfl hk) ?_
  refine rz_All_c (i := 11) (fun k J hk hJ => rz_ldcwS_ok (pc := 17) (i := 11) hx hb (hSt.2.1 ("ThreadJudgeModel", 651, "abstract excluded class interface extends implements static volatile final synchronized field method catch int void ", 11) (List.mem_of_getElem? (i := 12) rfl)) ho dX12_readMember_17 hk) ?_
  refine rz_All_c (i := 12) (fun k J hk hJ => rz_aload_n_ok (pc := 20) hx hb dX12_readMember_20 rfl hk) ?_
  refine rz_All_c (i := 13) (fun k J hk hJ => rz_getf_ok (pc := 21) (own := RX12) (ref := "ThreadJudgeModel") (C := RX12) (T := TX12) (N := 257) (ci := 14) (index := 591) (f := 6) (t := 0) (Ts := Cond.code yX12_readMember cX12_readMember 6 (some .boolean) :: rz_TB) hx hb hts rz_in14 ho hK rfl (by decide) rfl (fun _ => rfl) (hw (i := 33) (j := 3) rfl rfl) (fun _ z => z) dX12_readMember_21 hk) ?_
  refine rz_All_c (i := 14) (fun k J hk hJ => rz_aload_n_ok (pc := 24) hx hb dX12_readMember_24 rfl hk) ?_
  refine rz_All_c (i := 15) (fun k J hk hJ => rz_getf_ok (pc := 25) (own := RX12) (ref := "ThreadJudgeModel") (C := RX12) (T := TX12) (N := 257) (ci := 14) (index := 620) (f := 7) (t := 0) (Ts := Cond.code yX12_readMember cX12_readMember 6 (some .boolean) :: rz_TB) hx hb hts rz_in14 ho hK rfl (by decide) rfl (fun _ => rfl) (hw (i := 35) (j := 1) rfl rfl) (fun _ z => z) dX12_readMember_25 hk) ?_
  refine rz_All_c (i := 16) (fun k J hk hJ => rz_callV_ok (pc := 28) (own := RX12) (C := RX12) (T0 := TX12) (N0 := 257) hC rfl (rmX12_wordOf l hG) (rz_cwV 3 hC rz_good (rz_mem (i := 37) (j := 4) rfl rfl) (rz_mem (i := 37) (j := 5) rfl rfl) (rz_mem (i := 37) (j := 6) rfl rfl) (rz_mem (i := 32) (j := 8) rfl rfl) (rz_mem (i := 37) (j := 7) rfl rfl) ⟨rfl, by decide, by decide, by decide +kernel⟩ rfl rfl ⟨by decide, by decide⟩) rfl dX12_readMember_28 hk) ?_
  refine rz_All_c (i := 17) (fun k J hk hJ => rz_goto_ok (pc := 31) hx hb dX12_readMember_31 rfl (hJ 19)) ?_
  refine rz_All_c (i := 18) (fun k J hk hJ => rz_no_ok) ?_
  refine rz_All_c (i := 19) (fun k J hk hJ => rz_istore_ok (pc := 35) hx hb dX12_readMember_35 hk) ?_
  refine rz_All_c (i := 20) (fun k J hk hJ => rz_iload_ok (pc := 37) hx hb dX12_readMember_37 hk) ?_
  refine rz_All_c (i := 21) (fun k J hk hJ => rz_bipush_ok (pc := 39) hx hb dX12_readMember_39 (by decide) hk) ?_
  refine rz_All_c (i := 22) (fun k J hk hJ => rz_icmpne_ok (pc := 41) hx hb dX12_readMember_41 rfl hk (hJ 25)) ?_
  refine rz_All_c (i := 23) (fun k J hk hJ => rz_iconst_ok (pc := 44) hx hb dX12_readMember_44 rfl hk) ?_
  refine rz_All_c (i := 24) (fun k J hk hJ => rz_goto_ok (pc := 45) hx hb dX12_readMember_45 rfl (hJ 42)) ?_
  refine rz_All_c (i := 25) (fun k J hk hJ => rz_iload_ok (pc := 48) hx hb dX12_readMember_48 hk) ?_
  refine rz_All_c (i := 26) (fun k J hk hJ => rz_bipush_ok (pc := 50) hx hb dX12_readMember_50 (by decide) hk) ?_
  refine rz_All_c (i := 27) (fun k J hk hJ => rz_icmpne_ok (pc := 52) hx hb dX12_readMember_52 rfl hk (hJ 29)) ?_
  refine rz_All_c (i := 28) (fun k J hk hJ => rz_no_ok) ?_
  refine rz_All_c (i := 29) (fun k J hk hJ => rz_iload_ok (pc := 59) hx hb dX12_readMember_59 hk) ?_
  refine rz_All_c (i := 30) (fun k J hk hJ => rz_bipush_ok (pc := 61) hx hb dX12_readMember_61 (by decide) hk) ?_
  refine rz_All_c (i := 31) (fun k J hk hJ => rz_icmpne_ok (pc := 63) hx hb dX12_readMember_63 rfl hk (hJ 33)) ?_
  refine rz_All_c (i := 32) (fun k J hk hJ => rz_no_ok) ?_
  refine rz_All_c (i := 33) (fun k J hk hJ => rz_iload_ok (pc := 70) hx hb dX12_readMember_70 hk) ?_
  refine rz_All_c (i := 34) (fun k J hk hJ => rz_ifne_ok (pc := 72) hx hb dX12_readMember_72 rfl hk (hJ 37)) ?_
  refine rz_All_c (i := 35) (fun k J hk hJ => rz_bipush_ok (pc := 75) hx hb dX12_readMember_75 (by decide) hk) ?_
  refine rz_All_c (i := 36) (fun k J hk hJ => rz_goto_ok (pc := 77) hx hb dX12_readMember_77 rfl (hJ 42)) ?_
  refine rz_All_c (i := 37) (fun k J hk hJ => rz_iload_ok (pc := 80) hx hb dX12_readMember_80 hk) ?_
  refine rz_All_c (i := 38) (fun k J hk hJ => rz_bipush_ok (pc := 82) hx hb dX12_readMember_82 (by decide) hk) ?_
  refine rz_All_c (i := 39) (fun k J hk hJ => rz_icmpne_ok (pc := 84) hx hb dX12_readMember_84 rfl hk (hJ 41)) ?_
  refine rz_All_c (i := 40) (fun k J hk hJ => rz_no_ok) ?_
  refine rz_All_c (i := 41) (fun k J hk hJ => rz_iconst_ok (pc := 92) hx hb dX12_readMember_92 rfl hk) ?_
  refine rz_All_c (i := 42) (fun k J hk hJ => rz_istore_ok (pc := 93) hx hb dX12_readMember_93 hk) ?_
  refine rz_All_c (i := 43) (fun k J hk hJ => rz_iload_n_ok (pc := 95) hx hb dX12_readMember_95 rfl hk) ?_
  refine rz_All_c (i := 44) (fun k J hk hJ => rz_iload_ok (pc := 96) hx hb dX12_readMember_96 hk) ?_
  refine rz_All_c (i := 45) (fun k J hk hJ => rz_ior_ok (pc := 98) hx hb dX12_readMember_98 hk) ?_
  refine rz_All_c (i := 46) (fun k J hk hJ => rz_istore_n_ok (pc := 99) hx hb dX12_readMember_99 rfl hk) ?_
  refine rz_All_c (i := 47) (fun k J hk hJ => rz_iload_ok (pc := 100) hx hb dX12_readMember_100 hk) ?_
  refine rz_All_c (i := 48) (fun k J hk hJ => rz_ifle_ok (pc := 102) hx hb dX12_readMember_102 rfl hk (hJ 51)) ?_
  refine rz_All_c (i := 49) (fun k J hk hJ => rz_iconst_ok (pc := 105) hx hb dX12_readMember_105 rfl hk) ?_
  refine rz_All_c (i := 50) (fun k J hk hJ => rz_goto_ok (pc := 106) hx hb dX12_readMember_106 rfl (hJ 52)) ?_
  refine rz_All_c (i := 51) (fun k J hk hJ => rz_iconst_ok (pc := 109) hx hb dX12_readMember_109 rfl hk) ?_
  refine rz_All_c (i := 52) (fun k J hk hJ => rz_istore_n_ok (pc := 110) hx hb dX12_readMember_110 rfl hk) ?_
  refine rz_All_c (i := 53) (fun k J hk hJ => rz_iload_n_ok (pc := 111) hx hb dX12_readMember_111 rfl hk) ?_
  refine rz_All_c (i := 54) (fun k J hk hJ => rz_ifeq_ok (pc := 112) hx hb dX12_readMember_112 rfl hk (hJ 57)) ?_
  refine rz_All_c (i := 55) (fun k J hk hJ => rz_aload_n_ok (pc := 115) hx hb dX12_readMember_115 rfl hk) ?_
  refine rz_All_c (i := 56) (fun k J hk hJ => rz_callVv_ok (pc := 116) (own := RX12) (C := RX12) (T0 := TX12) (N0 := 257) hC rfl (rmX12_next l hG) (rz_cwV 0 hC rz_good (rz_mem (i := 34) (j := 21) rfl rfl) (rz_mem (i := 34) (j := 22) rfl rfl) (rz_mem (i := 34) (j := 23) rfl rfl) (rz_mem (i := 32) (j := 8) rfl rfl) (rz_mem (i := 35) (j := 0) rfl rfl) ⟨rfl, by decide, by decide, by decide +kernel⟩ rfl rfl ⟨by decide, by decide⟩) rfl dX12_readMember_116 hk) ?_
  refine rz_All_c (i := 57) (fun k J hk hJ => rz_goto_ok (pc := 119) hx hb dX12_readMember_119 rfl (hJ 4)) ?_
  refine rz_All_c (i := 58) (fun k J hk hJ => rz_aload_n_ok (pc := 122) hx hb dX12_readMember_122 rfl hk) ?_
  refine rz_All_c (i := 59) (fun k J hk hJ => rz_bipush_ok (pc := 123) hx hb dX12_readMember_123 (by decide) hk) ?_
  refine rz_All_c (i := 60) (fun k J hk hJ => rz_callV_ok (pc := 125) (own := RX12) (C := RX12) (T0 := TX12) (N0 := 257) hC rfl (rmX12_isWord l hG) (rz_cwV 1 hC rz_good (rz_mem (i := 37) (j := 0) rfl rfl) (rz_mem (i := 37) (j := 1) rfl rfl) (rz_mem (i := 37) (j := 2) rfl rfl) (rz_mem (i := 32) (j := 8) rfl rfl) (rz_mem (i := 37) (j := 3) rfl rfl) ⟨rfl, by decide, by decide, by decide +kernel⟩ rfl rfl ⟨by decide, by decide⟩) rfl dX12_readMember_125 hk) ?_
  refine rz_All_c (i := 61) (fun k J hk hJ => rz_ifeq_ok (pc := 128) hx hb dX12_readMember_128 rfl hk (hJ 69)) ?_
  refine rz_All_c (i := 62) (fun k J hk hJ => rz_aload_n_ok (pc := 131) hx hb dX12_readMember_131 rfl hk) ?_
  refine rz_All_c (i := 63) (fun k J hk hJ => rz_callVv_ok (pc := 132) (own := RX12) (C := RX12) (T0 := TX12) (N0 := 257) hC rfl (rmX12_next l hG) (rz_cwV 0 hC rz_good (rz_mem (i := 34) (j := 21) rfl rfl) (rz_mem (i := 34) (j := 22) rfl rfl) (rz_mem (i := 34) (j := 23) rfl rfl) (rz_mem (i := 32) (j := 8) rfl rfl) (rz_mem (i := 35) (j := 0) rfl rfl) ⟨rfl, by decide, by decide, by decide +kernel⟩ rfl rfl ⟨by decide, by decide⟩) rfl dX12_readMember_132 hk) ?_
  refine rz_All_c (i := 64) (fun k J hk hJ => rz_aload_n_ok (pc := 135) hx hb dX12_readMember_135 rfl hk) ?_
  refine rz_All_c (i := 65) (fun k J hk hJ => rz_iload_n_ok (pc := 136) hx hb dX12_readMember_136 rfl hk) ?_
  refine rz_All_c (i := 66) (fun k J hk hJ => rz_iload_n_ok (pc := 137) hx hb dX12_readMember_137 rfl hk) ?_
  refine rz_All_c (i := 67) (fun k J hk hJ => rz_callV_ok (pc := 138) (own := RX12) (C := RX12) (T0 := TX12) (N0 := 257) hC rfl (rmX12_readField l hG) (rz_cwV 2 hC rz_good (rz_mem (i := 38) (j := 20) rfl rfl) (rz_mem (i := 38) (j := 21) rfl rfl) (rz_mem (i := 38) (j := 22) rfl rfl) (rz_mem (i := 32) (j := 8) rfl rfl) (rz_mem (i := 38) (j := 23) rfl rfl) ⟨rfl, by decide, by decide, by decide +kernel⟩ rfl rfl ⟨by decide, by decide⟩) rfl dX12_readMember_138 hk) ?_
  refine rz_All_c (i := 68) (fun k J hk hJ => rz_zret_ok (pc := 141) hC dX12_readMember_141) ?_
  refine rz_All_c (i := 69) (fun k J hk hJ => rz_aload_n_ok (pc := 142) hx hb dX12_readMember_142 rfl hk) ?_
  refine rz_All_c (i := 70) (fun k J hk hJ => rz_aload_n_ok (pc := 143) hx hb dX12_readMember_143 rfl hk) ?_
  refine rz_All_c (i := 71) (fun k J hk hJ => rz_bipush_ok (pc := 144) hx hb dX12_readMember_144 (by decide) hk) ?_
  refine rz_All_c (i := 72) (fun k J hk hJ => rz_callV_ok (pc := 146) (own := RX12) (C := RX12) (T0 := TX12) (N0 := 257) hC rfl (rmX12_isWord l hG) (rz_cwV 1 hC rz_good (rz_mem (i := 37) (j := 0) rfl rfl) (rz_mem (i := 37) (j := 1) rfl rfl) (rz_mem (i := 37) (j := 2) rfl rfl) (rz_mem (i := 32) (j := 8) rfl rfl) (rz_mem (i := 37) (j := 3) rfl rfl) ⟨rfl, by decide, by decide, by decide +kernel⟩ rfl rfl ⟨by decide, by decide⟩) rfl dX12_readMember_146 hk) ?_
  refine rz_All_c (i := 73) (fun k J hk hJ => rz_callV_ok (pc := 149) (own := RX12) (C := RX12) (T0 := TX12) (N0 := 257) hC rfl (rmX12_can l hG) (rz_cwV 1 hC rz_good (rz_mem (i := 37) (j := 16) rfl rfl) (rz_mem (i := 37) (j := 17) rfl rfl) (rz_mem (i := 37) (j := 18) rfl rfl) (rz_mem (i := 32) (j := 8) rfl rfl) (rz_mem (i := 37) (j := 19) rfl rfl) ⟨rfl, by decide, by decide, by decide +kernel⟩ rfl rfl ⟨by decide, by decide⟩) rfl dX12_readMember_149 hk) ?_
  refine rz_All_c (i := 74) (fun k J hk hJ => rz_ifne_ok (pc := 152) hx hb dX12_readMember_152 rfl hk (hJ 76)) ?_
  refine rz_All_c (i := 75) (fun k J hk hJ => rz_no_ok) ?_
  refine rz_All_c (i := 76) (fun k J hk hJ => rz_aload_n_ok (pc := 157) hx hb dX12_readMember_157 rfl hk) ?_
  refine rz_All_c (i := 77) (fun k J hk hJ => rz_callVv_ok (pc := 158) (own := RX12) (C := RX12) (T0 := TX12) (N0 := 257) hC rfl (rmX12_next l hG) (rz_cwV 0 hC rz_good (rz_mem (i := 34) (j := 21) rfl rfl) (rz_mem (i := 34) (j := 22) rfl rfl) (rz_mem (i := 34) (j := 23) rfl rfl) (rz_mem (i := 32) (j := 8) rfl rfl) (rz_mem (i := 35) (j := 0) rfl rfl) ⟨rfl, by decide, by decide, by decide +kernel⟩ rfl rfl ⟨by decide, by decide⟩) rfl dX12_readMember_158 hk) ?_
  refine rz_All_c (i := 78) (fun k J hk hJ => rz_aload_n_ok (pc := 161) hx hb dX12_readMember_161 rfl hk) ?_
  refine rz_All_c (i := 79) (fun k J hk hJ => rz_iload_n_ok (pc := 162) hx hb dX12_readMember_162 rfl hk) ?_
  refine rz_All_c (i := 80) (fun k J hk hJ => rz_iload_n_ok (pc := 163) hx hb dX12_readMember_163 rfl hk) ?_
  refine rz_All_c (i := 81) (fun k J hk hJ => rz_callV_ok (pc := 164) (own := RX12) (C := RX12) (T0 := TX12) (N0 := 257) hC rfl (rmoX12_readMethod l hG) (rz_cwV 2 hC rz_good (rz_mem (i := 39) (j := 11) rfl rfl) (rz_mem (i := 39) (j := 12) rfl rfl) (rz_mem (i := 39) (j := 13) rfl rfl) (rz_mem (i := 32) (j := 8) rfl rfl) (rz_mem (i := 39) (j := 14) rfl rfl) ⟨rfl, by decide, by decide, by decide +kernel⟩ rfl rfl ⟨by decide, by decide⟩) rfl dX12_readMember_164 hk) ?_
  refine rz_All_c (i := 82) (fun k J hk hJ => rz_zret_ok (pc := 167) hC dX12_readMember_167) ?_
  exact trivial
