/-! Runs of load(). -/
theorem rk_X12_link_0_m (l : Launch) {G : rz_G} (hG : rz_Gd G) : Met l yX12_link (Cond.code yX12_link cX12_link 4 (some .boolean) :: rz_TB) rrX12_link (rz_Pre G [rz_r 215] (rs_33, 398, 0)) (rz_Qi G (rs_33, 398, 0).2 (rz_tst (rz_i 0) (rs_34, 398, 0))) 0 0 (fun q => rz_b G ≤ q) := rmX12_link_c l hG _ _ _ rfl rfl (rz_Rn_cut rk_X12_link_0_s0 (rz_Rn_last rk_X12_link_0_e))
noncomputable def roX12_link : rz_L → rz_M → rz_Z → Bool := (rz_ora [rz_r 215] (rs_33, 398, 0) (rz_i 0) (rs_34, 398, 0) rgX12_link)
theorem rmoX12_link (l : Launch) {G : rz_G} (hG : rz_Gd G) (vs : rz_L) (M : rz_M) (Z : rz_Z) (hn : vs.length = 1) (h : roX12_link vs M Z = true) : Met l yX12_link (Cond.code yX12_link cX12_link 4 (some .boolean) :: rz_TB) rrX12_link (rz_Pre G vs M) (rz_Qi G M.2 Z) 0 0 (fun q => rz_b G ≤ q) := (fun vs M Z hn h => rz_orb_i (rk_X12_link_0_m l hG) (fun vs M Z hn h => rmX12_link l hG vs M Z hn h) vs M Z hn h) vs M Z hn h
theorem rmX12_readMethod_c (l : Launch) {G : rz_G} (hG : rz_Gd G) (vs : rz_L) (M : rz_M) (Z : rz_Z) (hn : vs.length = 3) (hck : rz_ck vs true = true) (h : rz_Rn rcX12_readMethod Z 0 (rz_pad 4 vs) [] M) : Met l yX12_readMethod (Cond.code yX12_readMethod cX12_readMethod 4 (some .boolean) :: rz_TB) rrX12_readMethod (rz_Pre G vs M) (rz_Qi G M.2 Z) 0 0 (fun q => rz_b G ≤ q) := by
  obtain ⟨D, tc, ad, b, xs, rfl⟩ := id hG
  refine rz_bodyC (pcs := rpX12_readMethod) (by decide) rfl (by rw [hn]; decide) hck h ?_
  intro p e R s m args below meth c hC
  obtain ⟨hx, hb, hml, hr, hlk, ho, hts, hKn, hRm⟩ := id hC
  obtain ⟨hK, hA, hSt⟩ := id hKn
  have hw : ∀ {i j : Nat} {ws : List Cond} {w : Cond}, rz_WW[i]? = some ws → ws[j]? = some w → w.before args s = true := fun h1 h2 => hts _ (List.mem_cons_of_mem _ (rz_mem h1 h2))
  refine rz_All_c (i := 0) (fun k J hk hJ => rz_aload_n_ok (pc := 0) hx hb dX12_readMethod_0 rfl hk) ?_
  refine rz_All_c (i := 1) (fun k J hk hJ => rz_aload_n_ok (pc := 1) hx hb dX12_readMethod_1 rfl hk) ?_
  refine rz_All_c (i := 2) (fun k J hk hJ => rz_getf_ok (pc := 2) (own := RX12) (ref := "ThreadJudgeModel") (C := RX12) (T := TX12) (N := 257) (ci := 14) (index := 693) (f := 31) (t := 0) (Ts := Cond.code yX12_readMethod cX12_readMethod 4 (some .boolean) :: rz_TB) hx hb hts rz_in14 ho hK rfl (by decide) rfl (fun _ => rfl) (hw (i := 32) (j := 19) rfl rfl) (fun _ z => z) dX12_readMethod_2 hk) ?_
  refine rz_All_c (i := 3) (fun k J hk hJ => rz_bipush_ok (pc := 5) hx hb dX12_readMethod_5 (by decide) hk) ?_
  refine rz_All_c (i := 4) (fun k J hk hJ => rz_icmpne_ok (pc := 7) hx hb dX12_readMethod_7 rfl hk (hJ 6)) ?_
  refine rz_All_c (i := 5) (fun k J hk hJ => rz_no_ok) ?_
  refine rz_All_c (i := 6) (fun k J hk hJ => rz_bipush_ok (pc := 15) hx hb dX12_readMethod_15 (by decide) hk) ?_
  refine rz_All_c (i := 7) (fun k J hk hJ => rz_aload_n_ok (pc := 17) hx hb dX12_readMethod_17 rfl hk) ?_
  refine rz_All_c (i := 8) (fun k J hk hJ => rz_getf_ok (pc := 18) (own := RX12) (ref := "ThreadJudgeModel") (C := RX12) (T := TX12) (N := 257) (ci := 14) (index := 693) (f := 31) (t := 0) (Ts := Cond.code yX12_readMethod cX12_readMethod 4 (some .boolean) :: rz_TB) hx hb hts rz_in14 ho hK rfl (by decide) rfl (fun _ => rfl) (hw (i := 32) (j := 19) rfl rfl) (fun _ z => z) dX12_readMethod_18 hk) ?_
  refine rz_All_c (i := 9) (fun k J hk hJ => rz_iadd_ok (pc := 21) hx hb dX12_readMethod_21 hk) ?_
  refine rz_All_c (i := 10) (fun k J hk hJ => rz_callV_ok (pc := 22) (own := RX12) (C := RX12) (T0 := TX12) (N0 := 257) hC rfl (rmX12_type l hG) (rz_cwV 1 hC rz_good (rz_mem (i := 39) (j := 4) rfl rfl) (rz_mem (i := 39) (j := 5) rfl rfl) (rz_mem (i := 39) (j := 6) rfl rfl) (rz_mem (i := 32) (j := 8) rfl rfl) (rz_mem (i := 39) (j := 7) rfl rfl) ⟨rfl, by decide, by decide, by decide +kernel⟩ rfl rfl ⟨by decide, by decide⟩) rfl dX12_readMethod_22 hk) ?_
  refine rz_All_c (i := 11) (fun k J hk hJ => rz_ifne_ok (pc := 25) hx hb dX12_readMethod_25 rfl hk (hJ 13)) ?_
  refine rz_All_c (i := 12) (fun k J hk hJ => rz_no_ok) ?_
  refine rz_All_c (i := 13) (fun k J hk hJ => rz_aload_n_ok (pc := 30) hx hb dX12_readMethod_30 rfl hk) ?_
  refine rz_All_c (i := 14) (fun k J hk hJ => rz_callV_ok (pc := 31) (own := RX12) (C := RX12) (T0 := TX12) (N0 := 257) hC rfl (rmX12_isName l hG) (rz_cwV 0 hC rz_good (rz_mem (i := 37) (j := 20) rfl rfl) (rz_mem (i := 37) (j := 21) rfl rfl) (rz_mem (i := 37) (j := 22) rfl rfl) (rz_mem (i := 32) (j := 8) rfl rfl) (rz_mem (i := 37) (j := 23) rfl rfl) ⟨rfl, by decide, by decide, by decide +kernel⟩ rfl rfl ⟨by decide, by decide⟩) rfl dX12_readMethod_31 hk) ?_
  refine rz_All_c (i := 15) (fun k J hk hJ => rz_ifeq_ok (pc := 34) hx hb dX12_readMethod_34 rfl hk (hJ 21)) ?_
  refine rz_All_c (i := 16) (fun k J hk hJ => rz_aload_n_ok (pc := 37) hx hb dX12_readMethod_37 rfl hk) ?_
  refine rz_All_c (i := 17) (fun k J hk hJ => rz_getf_ok (pc := 38) (own := RX12) (ref := "ThreadJudgeModel") (C := RX12) (T := TX12) (N := 257) (ci := 14) (index := 693) (f := 31) (t := 0) (Ts := Cond.code yX12_readMethod cX12_readMethod 4 (some .boolean) :: rz_TB) hx hb hts rz_in14 ho hK rfl (by decide) rfl (fun _ => rfl) (hw (i := 32) (j := 19) rfl rfl) (fun _ z => z) dX12_readMethod_38 hk) ?_
  refine rz_All_c (i := 18) (fun k J hk hJ => rz_bipush_ok (pc := 41) hx hb dX12_readMethod_41 (by decide) hk) ?_
  refine rz_All_c (i := 19) (fun k J hk hJ => rz_icmpne_ok (pc := 43) hx hb dX12_readMethod_43 rfl hk (hJ 21)) ?_
  refine rz_All_c (i := 20) (fun k J hk hJ => rz_no_ok) ?_
  refine rz_All_c (i := 21) (fun k J hk hJ => rz_aload_n_ok (pc := 51) hx hb dX12_readMethod_51 rfl hk) ?_
  refine rz_All_c (i := 22) (fun k J hk hJ => rz_callV_ok (pc := 52) (own := RX12) (C := RX12) (T0 := TX12) (N0 := 257) hC rfl (rmX12_name l hG) (rz_cwV 0 hC rz_good (rz_mem (i := 38) (j := 4) rfl rfl) (rz_mem (i := 38) (j := 5) rfl rfl) (rz_mem (i := 38) (j := 6) rfl rfl) (rz_mem (i := 32) (j := 8) rfl rfl) (rz_mem (i := 38) (j := 7) rfl rfl) ⟨rfl, by decide, by decide, by decide +kernel⟩ rfl rfl ⟨by decide, by decide⟩) rfl dX12_readMethod_52 hk) ?_
  refine rz_All_c (i := 23) (fun k J hk hJ => rz_ifne_ok (pc := 55) hx hb dX12_readMethod_55 rfl hk (hJ 25)) ?_
  refine rz_All_c (i := 24) (fun k J hk hJ => rz_no_ok) ?_
  refine rz_All_c (i := 25) (fun k J hk hJ => rz_aload_n_ok (pc := 60) hx hb dX12_readMethod_60 rfl hk) ?_
  refine rz_All_c (i := 26) (fun k J hk hJ => rz_getf_ok (pc := 61) (own := RX12) (ref := "ThreadJudgeModel") (C := RX12) (T := TX12) (N := 257) (ci := 14) (index := 693) (f := 31) (t := 0) (Ts := Cond.code yX12_readMethod cX12_readMethod 4 (some .boolean) :: rz_TB) hx hb hts rz_in14 ho hK rfl (by decide) rfl (fun _ => rfl) (hw (i := 32) (j := 19) rfl rfl) (fun _ z => z) dX12_readMethod_61 hk) ?_
  refine rz_All_c (i := 27) (fun k J hk hJ => rz_istore_n_ok (pc := 64) hx hb dX12_readMethod_64 rfl hk) ?_
  refine rz_All_c (i := 28) (fun k J hk hJ => rz_aload_n_ok (pc := 65) hx hb dX12_readMethod_65 rfl hk) ?_
  refine rz_All_c (i := 29) (fun k J hk hJ => rz_getf_ok (pc := 66) (own := RX12) (ref := "ThreadJudgeModel") (C := RX12) (T := TX12) (N := 257) (ci := 14) (index := 69) (f := 32) (t := 2) (Ts := Cond.code yX12_readMethod cX12_readMethod 4 (some .boolean) :: rz_TB) hx hb hts rz_in14 ho hK rfl (by decide) rfl (fun _ => rfl) (hw (i := 39) (j := 15) rfl rfl) (fun _ z => z) dX12_readMethod_66 hk) ?_
  refine rz_All_c (i := 30) (fun k J hk hJ => rz_iload_n_ok (pc := 69) hx hb dX12_readMethod_69 rfl hk) ?_
  refine rz_All_c (i := 31) (fun k J hk hJ => rz_aload_n_ok (pc := 70) hx hb dX12_readMethod_70 rfl hk) ?_
  refine rz_All_c (i := 32) (fun k J hk hJ => rz_getf_ok (pc := 71) (own := RX12) (ref := "ThreadJudgeModel") (C := RX12) (T := TX12) (N := 257) (ci := 14) (index := 669) (f := 66) (t := 0) (Ts := Cond.code yX12_readMethod cX12_readMethod 4 (some .boolean) :: rz_TB) hx hb hts rz_in14 ho hK rfl (by decide) rfl (fun _ => rfl) (hw (i := 36) (j := 11) rfl rfl) (fun _ z => z) dX12_readMethod_71 hk) ?_
  refine rz_All_c (i := 33) (fun k J hk hJ => rz_iast_ok (pc := 74) hx hb hK hA dX12_readMethod_74 hk) ?_
  refine rz_All_c (i := 34) (fun k J hk hJ => rz_aload_n_ok (pc := 75) hx hb dX12_readMethod_75 rfl hk) ?_
  refine rz_All_c (i := 35) (fun k J hk hJ => rz_getf_ok (pc := 76) (own := RX12) (ref := "ThreadJudgeModel") (C := RX12) (T := TX12) (N := 257) (ci := 14) (index := 72) (f := 33) (t := 2) (Ts := Cond.code yX12_readMethod cX12_readMethod 4 (some .boolean) :: rz_TB) hx hb hts rz_in14 ho hK rfl (by decide) rfl (fun _ => rfl) (hw (i := 39) (j := 16) rfl rfl) (fun _ z => z) dX12_readMethod_76 hk) ?_
  refine rz_All_c (i := 36) (fun k J hk hJ => rz_iload_n_ok (pc := 79) hx hb dX12_readMethod_79 rfl hk) ?_
  refine rz_All_c (i := 37) (fun k J hk hJ => rz_aload_n_ok (pc := 80) hx hb dX12_readMethod_80 rfl hk) ?_
  refine rz_All_c (i := 38) (fun k J hk hJ => rz_getf_ok (pc := 81) (own := RX12) (ref := "ThreadJudgeModel") (C := RX12) (T := TX12) (N := 257) (ci := 14) (index := 672) (f := 67) (t := 0) (Ts := Cond.code yX12_readMethod cX12_readMethod 4 (some .boolean) :: rz_TB) hx hb hts rz_in14 ho hK rfl (by decide) rfl (fun _ => rfl) (hw (i := 36) (j := 13) rfl rfl) (fun _ z => z) dX12_readMethod_81 hk) ?_
  refine rz_All_c (i := 39) (fun k J hk hJ => rz_iast_ok (pc := 84) hx hb hK hA dX12_readMethod_84 hk) ?_
  refine rz_All_c (i := 40) (fun k J hk hJ => rz_aload_n_ok (pc := 85) hx hb dX12_readMethod_85 rfl hk) ?_
  refine rz_All_c (i := 41) (fun k J hk hJ => rz_getf_ok (pc := 86) (own := RX12) (ref := "ThreadJudgeModel") (C := RX12) (T := TX12) (N := 257) (ci := 14) (index := 75) (f := 34) (t := 2) (Ts := Cond.code yX12_readMethod cX12_readMethod 4 (some .boolean) :: rz_TB) hx hb hts rz_in14 ho hK rfl (by decide) rfl (fun _ => rfl) (hw (i := 39) (j := 17) rfl rfl) (fun _ z => z) dX12_readMethod_86 hk) ?_
  refine rz_All_c (i := 42) (fun k J hk hJ => rz_iload_n_ok (pc := 89) hx hb dX12_readMethod_89 rfl hk) ?_
  refine rz_All_c (i := 43) (fun k J hk hJ => rz_iload_n_ok (pc := 90) hx hb dX12_readMethod_90 rfl hk) ?_
  refine rz_All_c (i := 44) (fun k J hk hJ => rz_iast_ok (pc := 91) hx hb hK hA dX12_readMethod_91 hk) ?_
  refine rz_All_c (i := 45) (fun k J hk hJ => rz_aload_n_ok (pc := 92) hx hb dX12_readMethod_92 rfl hk) ?_
  refine rz_All_c (i := 46) (fun k J hk hJ => rz_getf_ok (pc := 93) (own := RX12) (ref := "ThreadJudgeModel") (C := RX12) (T := TX12) (N := 257) (ci := 14) (index := 78) (f := 35) (t := 2) (Ts := Cond.code yX12_readMethod cX12_readMethod 4 (some .boolean) :: rz_TB) hx hb hts rz_in14 ho hK rfl (by decide) rfl (fun _ => rfl) (hw (i := 39) (j := 18) rfl rfl) (fun _ z => z) dX12_readMethod_93 hk) ?_
  refine rz_All_c (i := 47) (fun k J hk hJ => rz_iload_n_ok (pc := 96) hx hb dX12_readMethod_96 rfl hk) ?_
  refine rz_All_c (i := 48) (fun k J hk hJ => rz_iload_n_ok (pc := 97) hx hb dX12_readMethod_97 rfl hk) ?_
  refine rz_All_c (i := 49) (fun k J hk hJ => rz_iast_ok (pc := 98) hx hb hK hA dX12_readMethod_98 hk) ?_
  refine rz_All_c (i := 50) (fun k J hk hJ => rz_aload_n_ok (pc := 99) hx hb dX12_readMethod_99 rfl hk) ?_
  refine rz_All_c (i := 51) (fun k J hk hJ => rz_getf_ok (pc := 100) (own := RX12) (ref := "ThreadJudgeModel") (C := RX12) (T := TX12) (N := 257) (ci := 14) (index := 84) (f := 37) (t := 2) (Ts := Cond.code yX12_readMethod cX12_readMethod 4 (some .boolean) :: rz_TB) hx hb hts rz_in14 ho hK rfl (by decide) rfl (fun _ => rfl) (hw (i := 39) (j := 19) rfl rfl) (fun _ z => z) dX12_readMethod_100 hk) ?_
  refine rz_All_c (i := 52) (fun k J hk hJ => rz_iload_n_ok (pc := 103) hx hb dX12_readMethod_103 rfl hk) ?_
  refine rz_All_c (i := 53) (fun k J hk hJ => rz_iconst_ok (pc := 104) hx hb dX12_readMethod_104 rfl hk) ?_
  refine rz_All_c (i := 54) (fun k J hk hJ => rz_zast_ok (pc := 105) hx hb hK hA dX12_readMethod_105 hk) ?_
  refine rz_All_c (i := 55) (fun k J hk hJ => rz_aload_n_ok (pc := 106) hx hb dX12_readMethod_106 rfl hk) ?_
  refine rz_All_c (i := 56) (fun k J hk hJ => rz_getf_ok (pc := 107) (own := RX12) (ref := "ThreadJudgeModel") (C := RX12) (T := TX12) (N := 257) (ci := 14) (index := 87) (f := 38) (t := 2) (Ts := Cond.code yX12_readMethod cX12_readMethod 4 (some .boolean) :: rz_TB) hx hb hts rz_in14 ho hK rfl (by decide) rfl (fun _ => rfl) (hw (i := 39) (j := 20) rfl rfl) (fun _ z => z) dX12_readMethod_107 hk) ?_
  refine rz_All_c (i := 57) (fun k J hk hJ => rz_iload_n_ok (pc := 110) hx hb dX12_readMethod_110 rfl hk) ?_
  refine rz_All_c (i := 58) (fun k J hk hJ => rz_aload_n_ok (pc := 111) hx hb dX12_readMethod_111 rfl hk) ?_
  refine rz_All_c (i := 59) (fun k J hk hJ => rz_getf_ok (pc := 112) (own := RX12) (ref := "ThreadJudgeModel") (C := RX12) (T := TX12) (N := 257) (ci := 14) (index := 706) (f := 43) (t := 0) (Ts := Cond.code yX12_readMethod cX12_readMethod 4 (some .boolean) :: rz_TB) hx hb hts rz_in14 ho hK rfl (by decide) rfl (fun _ => rfl) (hw (i := 32) (j := 20) rfl rfl) (fun _ z => z) dX12_readMethod_112 hk) ?_
  refine rz_All_c (i := 60) (fun k J hk hJ => rz_iast_ok (pc := 115) hx hb hK hA dX12_readMethod_115 hk) ?_
  refine rz_All_c (i := 61) (fun k J hk hJ => rz_aload_n_ok (pc := 116) hx hb dX12_readMethod_116 rfl hk) ?_
  refine rz_All_c (i := 62) (fun k J hk hJ => rz_getf_ok (pc := 117) (own := RX12) (ref := "ThreadJudgeModel") (C := RX12) (T := TX12) (N := 257) (ci := 14) (index := 90) (f := 39) (t := 2) (Ts := Cond.code yX12_readMethod cX12_readMethod 4 (some .boolean) :: rz_TB) hx hb hts rz_in14 ho hK rfl (by decide) rfl (fun _ => rfl) (hw (i := 39) (j := 21) rfl rfl) (fun _ z => z) dX12_readMethod_117 hk) ?_
  refine rz_All_c (i := 63) (fun k J hk hJ => rz_iload_n_ok (pc := 120) hx hb dX12_readMethod_120 rfl hk) ?_
  refine rz_All_c (i := 64) (fun k J hk hJ => rz_iconst_ok (pc := 121) hx hb dX12_readMethod_121 rfl hk) ?_
  refine rz_All_c (i := 65) (fun k J hk hJ => rz_iast_ok (pc := 122) hx hb hK hA dX12_readMethod_122 hk) ?_
  refine rz_All_c (i := 66) (fun k J hk hJ => rz_aload_n_ok (pc := 123) hx hb dX12_readMethod_123 rfl hk) ?_
  refine rz_All_c (i := 67) (fun k J hk hJ => rz_dup_ok (pc := 124) hx hb dX12_readMethod_124 hk) ?_
  refine rz_All_c (i := 68) (fun k J hk hJ => rz_getf_ok (pc := 125) (own := RX12) (ref := "ThreadJudgeModel") (C := RX12) (T := TX12) (N := 257) (ci := 14) (index := 693) (f := 31) (t := 0) (Ts := Cond.code yX12_readMethod cX12_readMethod 4 (some .boolean) :: rz_TB) hx hb hts rz_in14 ho hK rfl (by decide) rfl (fun _ => rfl) (hw (i := 32) (j := 19) rfl rfl) (fun _ z => z) dX12_readMethod_125 hk) ?_
  refine rz_All_c (i := 69) (fun k J hk hJ => rz_iconst_ok (pc := 128) hx hb dX12_readMethod_128 rfl hk) ?_
  refine rz_All_c (i := 70) (fun k J hk hJ => rz_iadd_ok (pc := 129) hx hb dX12_readMethod_129 hk) ?_
  refine rz_All_c (i := 71) (fun k J hk hJ => rz_putf_ok (pc := 130) (own := RX12) (ref := "ThreadJudgeModel") (C := RX12) (T := TX12) (N := 257) (ci := 14) (index := 693) (f := 31) (t := 0) (Ts := Cond.code yX12_readMethod cX12_readMethod 4 (some .boolean) :: rz_TB) hx hb hts rz_in14 tyX12 tyX12_ok nmX12 ho hK hA rfl (by decide) rfl (rz_UnI _) rfl (tyX12_ok 31 (by decide)) (hw (i := 32) (j := 19) rfl rfl) (fun _ z => z) dX12_readMethod_130 hk) ?_
  refine rz_All_c (i := 72) (fun k J hk hJ => rz_aload_n_ok (pc := 133) hx hb dX12_readMethod_133 rfl hk) ?_
  refine rz_All_c (i := 73) (fun k J hk hJ => rz_sipush_ok (pc := 134) hx hb dX12_readMethod_134 (by decide) hk) ?_
  refine rz_All_c (i := 74) (fun k J hk hJ => rz_bipush_ok (pc := 137) hx hb dX12_readMethod_137 (by decide) hk) ?_
  refine rz_All_c (i := 75) (fun k J hk hJ => rz_iload_n_ok (pc := 139) hx hb dX12_readMethod_139 rfl hk) ?_
  refine rz_All_c (i := 76) (fun k J hk hJ => rz_imul_ok (pc := 140) hx hb dX12_readMethod_140 hk) ?_
  refine rz_All_c (i := 77) (fun k J hk hJ => rz_iadd_ok (pc := 141) hx hb dX12_readMethod_141 hk) ?_
  refine rz_All_c (i := 78) (fun k J hk hJ => rz_callV_ok (pc := 142) (own := RX12) (C := RX12) (T0 := TX12) (N0 := 257) hC rfl (rmX12_types l hG) (rz_cwV 1 hC rz_good (rz_mem (i := 40) (j := 0) rfl rfl) (rz_mem (i := 40) (j := 1) rfl rfl) (rz_mem (i := 40) (j := 2) rfl rfl) (rz_mem (i := 32) (j := 8) rfl rfl) (rz_mem (i := 40) (j := 3) rfl rfl) ⟨rfl, by decide, by decide, by decide +kernel⟩ rfl rfl ⟨by decide, by decide⟩) rfl dX12_readMethod_142 hk) ?_
  refine rz_All_c (i := 79) (fun k J hk hJ => rz_ifne_ok (pc := 145) hx hb dX12_readMethod_145 rfl hk (hJ 81)) ?_
  refine rz_All_c (i := 80) (fun k J hk hJ => rz_no_ok) ?_
  refine rz_All_c (i := 81) (fun k J hk hJ => rz_aload_n_ok (pc := 150) hx hb dX12_readMethod_150 rfl hk) ?_
  refine rz_All_c (i := 82) (fun k J hk hJ => rz_getf_ok (pc := 151) (own := RX12) (ref := "ThreadJudgeModel") (C := RX12) (T := TX12) (N := 257) (ci := 14) (index := 81) (f := 36) (t := 2) (Ts := Cond.code yX12_readMethod cX12_readMethod 4 (some .boolean) :: rz_TB) hx hb hts rz_in14 ho hK rfl (by decide) rfl (fun _ => rfl) (hw (i := 39) (j := 22) rfl rfl) (fun _ z => z) dX12_readMethod_151 hk) ?_
  refine rz_All_c (i := 83) (fun k J hk hJ => rz_iload_n_ok (pc := 154) hx hb dX12_readMethod_154 rfl hk) ?_
  refine rz_All_c (i := 84) (fun k J hk hJ => rz_aload_n_ok (pc := 155) hx hb dX12_readMethod_155 rfl hk) ?_
  refine rz_All_c (i := 85) (fun k J hk hJ => rz_getf_ok (pc := 156) (own := RX12) (ref := "ThreadJudgeModel") (C := RX12) (T := TX12) (N := 257) (ci := 14) (index := 675) (f := 68) (t := 0) (Ts := Cond.code yX12_readMethod cX12_readMethod 4 (some .boolean) :: rz_TB) hx hb hts rz_in14 ho hK rfl (by decide) rfl (fun _ => rfl) (hw (i := 39) (j := 23) rfl rfl) (fun _ z => z) dX12_readMethod_156 hk) ?_
  refine rz_All_c (i := 86) (fun k J hk hJ => rz_iast_ok (pc := 159) hx hb hK hA dX12_readMethod_159 hk) ?_
  refine rz_All_c (i := 87) (fun k J hk hJ => rz_aload_n_ok (pc := 160) hx hb dX12_readMethod_160 rfl hk) ?_
  refine rz_All_c (i := 88) (fun k J hk hJ => rz_bipush_ok (pc := 161) hx hb dX12_readMethod_161 (by decide) hk) ?_
  refine rz_All_c (i := 89) (fun k J hk hJ => rz_callV_ok (pc := 163) (own := RX12) (C := RX12) (T0 := TX12) (N0 := 257) hC rfl (rmX12_isSign l hG) (rz_cwV 1 hC rz_good (rz_mem (i := 38) (j := 8) rfl rfl) (rz_mem (i := 38) (j := 9) rfl rfl) (rz_mem (i := 38) (j := 10) rfl rfl) (rz_mem (i := 32) (j := 8) rfl rfl) (rz_mem (i := 38) (j := 11) rfl rfl) ⟨rfl, by decide, by decide, by decide +kernel⟩ rfl rfl ⟨by decide, by decide⟩) rfl dX12_readMethod_163 hk) ?_
  refine rz_All_c (i := 90) (fun k J hk hJ => rz_ifeq_ok (pc := 166) hx hb dX12_readMethod_166 rfl hk (hJ 102)) ?_
  refine rz_All_c (i := 91) (fun k J hk hJ => rz_aload_n_ok (pc := 169) hx hb dX12_readMethod_169 rfl hk) ?_
  refine rz_All_c (i := 92) (fun k J hk hJ => rz_callVv_ok (pc := 170) (own := RX12) (C := RX12) (T0 := TX12) (N0 := 257) hC rfl (rmX12_next l hG) (rz_cwV 0 hC rz_good (rz_mem (i := 34) (j := 21) rfl rfl) (rz_mem (i := 34) (j := 22) rfl rfl) (rz_mem (i := 34) (j := 23) rfl rfl) (rz_mem (i := 32) (j := 8) rfl rfl) (rz_mem (i := 35) (j := 0) rfl rfl) ⟨rfl, by decide, by decide, by decide +kernel⟩ rfl rfl ⟨by decide, by decide⟩) rfl dX12_readMethod_170 hk) ?_
  refine rz_All_c (i := 93) (fun k J hk hJ => rz_aload_n_ok (pc := 173) hx hb dX12_readMethod_173 rfl hk) ?_
  refine rz_All_c (i := 94) (fun k J hk hJ => rz_getf_ok (pc := 174) (own := RX12) (ref := "ThreadJudgeModel") (C := RX12) (T := TX12) (N := 257) (ci := 14) (index := 87) (f := 38) (t := 2) (Ts := Cond.code yX12_readMethod cX12_readMethod 4 (some .boolean) :: rz_TB) hx hb hts rz_in14 ho hK rfl (by decide) rfl (fun _ => rfl) (hw (i := 39) (j := 20) rfl rfl) (fun _ z => z) dX12_readMethod_174 hk) ?_
  refine rz_All_c (i := 95) (fun k J hk hJ => rz_aload_n_ok (pc := 177) hx hb dX12_readMethod_177 rfl hk) ?_
  refine rz_All_c (i := 96) (fun k J hk hJ => rz_getf_ok (pc := 178) (own := RX12) (ref := "ThreadJudgeModel") (C := RX12) (T := TX12) (N := 257) (ci := 14) (index := 693) (f := 31) (t := 0) (Ts := Cond.code yX12_readMethod cX12_readMethod 4 (some .boolean) :: rz_TB) hx hb hts rz_in14 ho hK rfl (by decide) rfl (fun _ => rfl) (hw (i := 32) (j := 19) rfl rfl) (fun _ z => z) dX12_readMethod_178 hk) ?_
  refine rz_All_c (i := 97) (fun k J hk hJ => rz_aload_n_ok (pc := 181) hx hb dX12_readMethod_181 rfl hk) ?_
  refine rz_All_c (i := 98) (fun k J hk hJ => rz_getf_ok (pc := 182) (own := RX12) (ref := "ThreadJudgeModel") (C := RX12) (T := TX12) (N := 257) (ci := 14) (index := 706) (f := 43) (t := 0) (Ts := Cond.code yX12_readMethod cX12_readMethod 4 (some .boolean) :: rz_TB) hx hb hts rz_in14 ho hK rfl (by decide) rfl (fun _ => rfl) (hw (i := 32) (j := 20) rfl rfl) (fun _ z => z) dX12_readMethod_182 hk) ?_
  refine rz_All_c (i := 99) (fun k J hk hJ => rz_iast_ok (pc := 185) hx hb hK hA dX12_readMethod_185 hk) ?_
  refine rz_All_c (i := 100) (fun k J hk hJ => rz_iconst_ok (pc := 186) hx hb dX12_readMethod_186 rfl hk) ?_
  refine rz_All_c (i := 101) (fun k J hk hJ => rz_zret_ok (pc := 187) hC dX12_readMethod_187) ?_
  refine rz_All_c (i := 102) (fun k J hk hJ => rz_aload_n_ok (pc := 188) hx hb dX12_readMethod_188 rfl hk) ?_
  refine rz_All_c (i := 103) (fun k J hk hJ => rz_bipush_ok (pc := 189) hx hb dX12_readMethod_189 (by decide) hk) ?_
  refine rz_All_c (i := 104) (fun k J hk hJ => rz_callV_ok (pc := 191) (own := RX12) (C := RX12) (T0 := TX12) (N0 := 257) hC rfl (rmX12_sign l hG) (rz_cwV 1 hC rz_good (rz_mem (i := 38) (j := 12) rfl rfl) (rz_mem (i := 38) (j := 13) rfl rfl) (rz_mem (i := 38) (j := 14) rfl rfl) (rz_mem (i := 32) (j := 8) rfl rfl) (rz_mem (i := 38) (j := 15) rfl rfl) ⟨rfl, by decide, by decide, by decide +kernel⟩ rfl rfl ⟨by decide, by decide⟩) rfl dX12_readMethod_191 hk) ?_
  refine rz_All_c (i := 105) (fun k J hk hJ => rz_ifne_ok (pc := 194) hx hb dX12_readMethod_194 rfl hk (hJ 107)) ?_
  refine rz_All_c (i := 106) (fun k J hk hJ => rz_no_ok) ?_
  refine rz_All_c (i := 107) (fun k J hk hJ => rz_aload_n_ok (pc := 199) hx hb dX12_readMethod_199 rfl hk) ?_
  refine rz_All_c (i := 108) (fun k J hk hJ => rz_getf_ok (pc := 200) (own := RX12) (ref := "ThreadJudgeModel") (C := RX12) (T := TX12) (N := 257) (ci := 14) (index := 84) (f := 37) (t := 2) (Ts := Cond.code yX12_readMethod cX12_readMethod 4 (some .boolean) :: rz_TB) hx hb hts rz_in14 ho hK rfl (by decide) rfl (fun _ => rfl) (hw (i := 39) (j := 19) rfl rfl) (fun _ z => z) dX12_readMethod_200 hk) ?_
  refine rz_All_c (i := 109) (fun k J hk hJ => rz_iload_n_ok (pc := 203) hx hb dX12_readMethod_203 rfl hk) ?_
  refine rz_All_c (i := 110) (fun k J hk hJ => rz_iconst_ok (pc := 204) hx hb dX12_readMethod_204 rfl hk) ?_
  refine rz_All_c (i := 111) (fun k J hk hJ => rz_zast_ok (pc := 205) hx hb hK hA dX12_readMethod_205 hk) ?_
  refine rz_All_c (i := 112) (fun k J hk hJ => rz_aload_n_ok (pc := 206) hx hb dX12_readMethod_206 rfl hk) ?_
  refine rz_All_c (i := 113) (fun k J hk hJ => rz_bipush_ok (pc := 207) hx hb dX12_readMethod_207 (by decide) hk) ?_
  refine rz_All_c (i := 114) (fun k J hk hJ => rz_callV_ok (pc := 209) (own := RX12) (C := RX12) (T0 := TX12) (N0 := 257) hC rfl (rmX12_isSign l hG) (rz_cwV 1 hC rz_good (rz_mem (i := 38) (j := 8) rfl rfl) (rz_mem (i := 38) (j := 9) rfl rfl) (rz_mem (i := 38) (j := 10) rfl rfl) (rz_mem (i := 32) (j := 8) rfl rfl) (rz_mem (i := 38) (j := 11) rfl rfl) ⟨rfl, by decide, by decide, by decide +kernel⟩ rfl rfl ⟨by decide, by decide⟩) rfl dX12_readMethod_209 hk) ?_
  refine rz_All_c (i := 115) (fun k J hk hJ => rz_ifne_ok (pc := 212) hx hb dX12_readMethod_212 rfl hk (hJ 121)) ?_
  refine rz_All_c (i := 116) (fun k J hk hJ => rz_aload_n_ok (pc := 215) hx hb dX12_readMethod_215 rfl hk) ?_
  refine rz_All_c (i := 117) (fun k J hk hJ => rz_iload_n_ok (pc := 216) hx hb dX12_readMethod_216 rfl hk) ?_
  refine rz_All_c (i := 118) (fun k J hk hJ => rz_callV_ok (pc := 217) (own := RX12) (C := RX12) (T0 := TX12) (N0 := 257) hC rfl (rmX12_readLine l hG) (rz_cwV 1 hC rz_good (rz_mem (i := 40) (j := 4) rfl rfl) (rz_mem (i := 40) (j := 5) rfl rfl) (rz_mem (i := 40) (j := 6) rfl rfl) (rz_mem (i := 32) (j := 8) rfl rfl) (rz_mem (i := 40) (j := 7) rfl rfl) ⟨rfl, by decide, by decide, by decide +kernel⟩ rfl rfl ⟨by decide, by decide⟩) rfl dX12_readMethod_217 hk) ?_
  refine rz_All_c (i := 119) (fun k J hk hJ => rz_ifne_ok (pc := 220) hx hb dX12_readMethod_220 rfl hk (hJ 112)) ?_
  refine rz_All_c (i := 120) (fun k J hk hJ => rz_no_ok) ?_
  refine rz_All_c (i := 121) (fun k J hk hJ => rz_aload_n_ok (pc := 225) hx hb dX12_readMethod_225 rfl hk) ?_
  refine rz_All_c (i := 122) (fun k J hk hJ => rz_callVv_ok (pc := 226) (own := RX12) (C := RX12) (T0 := TX12) (N0 := 257) hC rfl (rmX12_next l hG) (rz_cwV 0 hC rz_good (rz_mem (i := 34) (j := 21) rfl rfl) (rz_mem (i := 34) (j := 22) rfl rfl) (rz_mem (i := 34) (j := 23) rfl rfl) (rz_mem (i := 32) (j := 8) rfl rfl) (rz_mem (i := 35) (j := 0) rfl rfl) ⟨rfl, by decide, by decide, by decide +kernel⟩ rfl rfl ⟨by decide, by decide⟩) rfl dX12_readMethod_226 hk) ?_
  refine rz_All_c (i := 123) (fun k J hk hJ => rz_aload_n_ok (pc := 229) hx hb dX12_readMethod_229 rfl hk) ?_
  refine rz_All_c (i := 124) (fun k J hk hJ => rz_getf_ok (pc := 230) (own := RX12) (ref := "ThreadJudgeModel") (C := RX12) (T := TX12) (N := 257) (ci := 14) (index := 87) (f := 38) (t := 2) (Ts := Cond.code yX12_readMethod cX12_readMethod 4 (some .boolean) :: rz_TB) hx hb hts rz_in14 ho hK rfl (by decide) rfl (fun _ => rfl) (hw (i := 39) (j := 20) rfl rfl) (fun _ z => z) dX12_readMethod_230 hk) ?_
  refine rz_All_c (i := 125) (fun k J hk hJ => rz_aload_n_ok (pc := 233) hx hb dX12_readMethod_233 rfl hk) ?_
  refine rz_All_c (i := 126) (fun k J hk hJ => rz_getf_ok (pc := 234) (own := RX12) (ref := "ThreadJudgeModel") (C := RX12) (T := TX12) (N := 257) (ci := 14) (index := 693) (f := 31) (t := 0) (Ts := Cond.code yX12_readMethod cX12_readMethod 4 (some .boolean) :: rz_TB) hx hb hts rz_in14 ho hK rfl (by decide) rfl (fun _ => rfl) (hw (i := 32) (j := 19) rfl rfl) (fun _ z => z) dX12_readMethod_234 hk) ?_
  refine rz_All_c (i := 127) (fun k J hk hJ => rz_aload_n_ok (pc := 237) hx hb dX12_readMethod_237 rfl hk) ?_
  refine rz_All_c (i := 128) (fun k J hk hJ => rz_getf_ok (pc := 238) (own := RX12) (ref := "ThreadJudgeModel") (C := RX12) (T := TX12) (N := 257) (ci := 14) (index := 706) (f := 43) (t := 0) (Ts := Cond.code yX12_readMethod cX12_readMethod 4 (some .boolean) :: rz_TB) hx hb hts rz_in14 ho hK rfl (by decide) rfl (fun _ => rfl) (hw (i := 32) (j := 20) rfl rfl) (fun _ z => z) dX12_readMethod_238 hk) ?_
  refine rz_All_c (i := 129) (fun k J hk hJ => rz_iast_ok (pc := 241) hx hb hK hA dX12_readMethod_241 hk) ?_
  refine rz_All_c (i := 130) (fun k J hk hJ => rz_iconst_ok (pc := 242) hx hb dX12_readMethod_242 rfl hk) ?_
  refine rz_All_c (i := 131) (fun k J hk hJ => rz_zret_ok (pc := 243) hC dX12_readMethod_243) ?_
  exact trivial
