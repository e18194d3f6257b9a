/-! Runs of load(). -/
theorem rk_X11_load_0_m (l : Launch) {G : rz_G} (hG : rz_Gd G) : Met l yX11_load (Cond.code yX11_load cX11_load 1 (some .int) :: rz_TB) rrX11_load (rz_Pre G [rz_r 1] (rs_31, 398, 0)) (rz_Qi G (rs_31, 398, 0).2 (rz_tst (rz_i 13) (rs_32, 398, 0))) 0 0 (fun q => rz_b G ≤ q) := rmX11_load_o l hG _ _ _ rfl rk_X11_load_0
noncomputable def roX11_load : rz_L → rz_M → rz_Z → Bool := (rz_ora [rz_r 1] (rs_31, 398, 0) (rz_i 13) (rs_32, 398, 0) rgX11_load_o)
theorem rmoX11_load (l : Launch) {G : rz_G} (hG : rz_Gd G) (vs : rz_L) (M : rz_M) (Z : rz_Z) (hn : vs.length = 1) (h : roX11_load vs M Z = true) : Met l yX11_load (Cond.code yX11_load cX11_load 1 (some .int) :: rz_TB) rrX11_load (rz_Pre G vs M) (rz_Qi G M.2 Z) 0 0 (fun q => rz_b G ≤ q) := (fun vs M Z hn h => rz_orb_i (rk_X11_load_0_m l hG) (fun vs M Z hn h => rmX11_load_o l hG vs M Z hn h) vs M Z hn h) vs M Z hn h
theorem rmX12_link_c (l : Launch) {G : rz_G} (hG : rz_Gd G) (vs : rz_L) (M : rz_M) (Z : rz_Z) (hn : vs.length = 1) (hck : rz_ck vs true = true) (h : rz_Rn rcX12_link Z 0 (rz_pad 4 vs) [] M) : Met l yX12_link (Cond.code yX12_link cX12_link 4 (some .boolean) :: rz_TB) rrX12_link (rz_Pre G vs M) (rz_Qi G M.2 Z) 0 0 (fun q => rz_b G ≤ q) := by
  obtain ⟨D, tc, ad, b, xs, rfl⟩ := id hG
  refine rz_bodyC (pcs := rpX12_link) (by decide) rfl (by rw [hn]; decide) hck h ?_
  intro p e R s m args below meth c hC
  obtain ⟨hx, hb, hml, hr, hlk, ho, hts, hKn, hRm⟩ := id hC
  obtain ⟨hK, hA, hSt⟩ := id hKn
  have hw : ∀ {i j : Nat} {ws : List Cond} {w : Cond}, rz_WW[i]? = some ws → ws[j]? = some w → w.before args s = true := fun h1 h2 => hts _ (List.mem_cons_of_mem _ (rz_mem h1 h2))
  refine rz_All_c (i := 0) (fun k J hk hJ => rz_aload_n_ok (pc := 0) hx hb dX12_link_0 rfl hk) ?_
  refine rz_All_c (i := 1) (fun k J hk hJ => rz_iconst_ok (pc := 1) hx hb dX12_link_1 rfl hk) ?_
  refine rz_All_c (i := 2) (fun k J hk hJ => rz_putf_ok (pc := 2) (own := RX12) (ref := "ThreadJudgeModel") (C := RX12) (T := TX12) (N := 257) (ci := 14) (index := 758) (f := 77) (t := 0) (Ts := Cond.code yX12_link cX12_link 4 (some .boolean) :: rz_TB) hx hb hts rz_in14 tyX12 tyX12_ok nmX12 ho hK hA rfl (by decide) rfl (rz_UnI _) rfl (tyX12_ok 77 (by decide)) (hw (i := 42) (j := 13) rfl rfl) (fun _ z => z) dX12_link_2 hk) ?_
  refine rz_All_c (i := 3) (fun k J hk hJ => rz_aload_n_ok (pc := 5) hx hb dX12_link_5 rfl hk) ?_
  refine rz_All_c (i := 4) (fun k J hk hJ => rz_callVv_ok (pc := 6) (own := RX12) (C := RX12) (T0 := TX12) (N0 := 257) hC rfl (rmX12_linkClasses l hG) (rz_cwV 0 hC rz_good (rz_mem (i := 42) (j := 17) rfl rfl) (rz_mem (i := 42) (j := 18) rfl rfl) (rz_mem (i := 42) (j := 19) rfl rfl) (rz_mem (i := 32) (j := 8) rfl rfl) (rz_mem (i := 42) (j := 20) rfl rfl) ⟨rfl, by decide, by decide, by decide +kernel⟩ rfl rfl ⟨by decide, by decide⟩) rfl dX12_link_6 hk) ?_
  refine rz_All_c (i := 5) (fun k J hk hJ => rz_aload_n_ok (pc := 9) hx hb dX12_link_9 rfl hk) ?_
  refine rz_All_c (i := 6) (fun k J hk hJ => rz_getf_ok (pc := 10) (own := RX12) (ref := "ThreadJudgeModel") (C := RX12) (T := TX12) (N := 257) (ci := 14) (index := 758) (f := 77) (t := 0) (Ts := Cond.code yX12_link cX12_link 4 (some .boolean) :: rz_TB) hx hb hts rz_in14 ho hK rfl (by decide) rfl (fun _ => rfl) (hw (i := 42) (j := 13) rfl rfl) (fun _ z => z) dX12_link_10 hk) ?_
  refine rz_All_c (i := 7) (fun k J hk hJ => rz_iconst_ok (pc := 13) hx hb dX12_link_13 rfl hk) ?_
  refine rz_All_c (i := 8) (fun k J hk hJ => rz_icmpeq_ok (pc := 14) hx hb dX12_link_14 rfl hk (hJ 10)) ?_
  refine rz_All_c (i := 9) (fun k J hk hJ => rz_no_ok) ?_
  refine rz_All_c (i := 10) (fun k J hk hJ => rz_aload_n_ok (pc := 33) hx hb dX12_link_33 rfl hk) ?_
  refine rz_All_c (i := 11) (fun k J hk hJ => rz_callVv_ok (pc := 34) (own := RX12) (C := RX12) (T0 := TX12) (N0 := 257) hC rfl (rmX12_linkMembers l hG) (rz_cwV 0 hC rz_good (rz_mem (i := 43) (j := 15) rfl rfl) (rz_mem (i := 43) (j := 16) rfl rfl) (rz_mem (i := 43) (j := 17) rfl rfl) (rz_mem (i := 32) (j := 8) rfl rfl) (rz_mem (i := 43) (j := 18) rfl rfl) ⟨rfl, by decide, by decide, by decide +kernel⟩ rfl rfl ⟨by decide, by decide⟩) rfl dX12_link_34 hk) ?_
  refine rz_All_c (i := 12) (fun k J hk hJ => rz_aload_n_ok (pc := 37) hx hb dX12_link_37 rfl hk) ?_
  refine rz_All_c (i := 13) (fun k J hk hJ => rz_getf_ok (pc := 38) (own := RX12) (ref := "ThreadJudgeModel") (C := RX12) (T := TX12) (N := 257) (ci := 14) (index := 758) (f := 77) (t := 0) (Ts := Cond.code yX12_link cX12_link 4 (some .boolean) :: rz_TB) hx hb hts rz_in14 ho hK rfl (by decide) rfl (fun _ => rfl) (hw (i := 42) (j := 13) rfl rfl) (fun _ z => z) dX12_link_38 hk) ?_
  refine rz_All_c (i := 14) (fun k J hk hJ => rz_iconst_ok (pc := 41) hx hb dX12_link_41 rfl hk) ?_
  refine rz_All_c (i := 15) (fun k J hk hJ => rz_icmpeq_ok (pc := 42) hx hb dX12_link_42 rfl hk (hJ 17)) ?_
  refine rz_All_c (i := 16) (fun k J hk hJ => rz_no_ok) ?_
  refine rz_All_c (i := 17) (fun k J hk hJ => rz_aload_n_ok (pc := 61) hx hb dX12_link_61 rfl hk) ?_
  refine rz_All_c (i := 18) (fun k J hk hJ => rz_callVv_ok (pc := 62) (own := RX12) (C := RX12) (T0 := TX12) (N0 := 257) hC rfl (rmX12_linkLines l hG) (rz_cwV 0 hC rz_good (rz_mem (i := 45) (j := 20) rfl rfl) (rz_mem (i := 45) (j := 21) rfl rfl) (rz_mem (i := 45) (j := 22) rfl rfl) (rz_mem (i := 32) (j := 8) rfl rfl) (rz_mem (i := 45) (j := 23) rfl rfl) ⟨rfl, by decide, by decide, by decide +kernel⟩ rfl rfl ⟨by decide, by decide⟩) rfl dX12_link_62 hk) ?_
  refine rz_All_c (i := 19) (fun k J hk hJ => rz_aload_n_ok (pc := 65) hx hb dX12_link_65 rfl hk) ?_
  refine rz_All_c (i := 20) (fun k J hk hJ => rz_getf_ok (pc := 66) (own := RX12) (ref := "ThreadJudgeModel") (C := RX12) (T := TX12) (N := 257) (ci := 14) (index := 758) (f := 77) (t := 0) (Ts := Cond.code yX12_link cX12_link 4 (some .boolean) :: rz_TB) hx hb hts rz_in14 ho hK rfl (by decide) rfl (fun _ => rfl) (hw (i := 42) (j := 13) rfl rfl) (fun _ z => z) dX12_link_66 hk) ?_
  refine rz_All_c (i := 21) (fun k J hk hJ => rz_iconst_ok (pc := 69) hx hb dX12_link_69 rfl hk) ?_
  refine rz_All_c (i := 22) (fun k J hk hJ => rz_icmpeq_ok (pc := 70) hx hb dX12_link_70 rfl hk (hJ 24)) ?_
  refine rz_All_c (i := 23) (fun k J hk hJ => rz_no_ok) ?_
  refine rz_All_c (i := 24) (fun k J hk hJ => rz_aload_n_ok (pc := 89) hx hb dX12_link_89 rfl hk) ?_
  refine rz_All_c (i := 25) (fun k J hk hJ => rz_iconst_ok (pc := 90) hx hb dX12_link_90 rfl hk) ?_
  refine rz_All_c (i := 26) (fun k J hk hJ => rz_putf_ok (pc := 91) (own := RX12) (ref := "ThreadJudgeModel") (C := RX12) (T := TX12) (N := 257) (ci := 14) (index := 873) (f := 87) (t := 0) (Ts := Cond.code yX12_link cX12_link 4 (some .boolean) :: rz_TB) hx hb hts rz_in14 tyX12 tyX12_ok nmX12 ho hK hA rfl (by decide) rfl (rz_UnI _) rfl (tyX12_ok 87 (by decide)) (hw (i := 42) (j := 14) rfl rfl) (fun _ z => z) dX12_link_91 hk) ?_
  refine rz_All_c (i := 27) (fun k J hk hJ => rz_aload_n_ok (pc := 94) hx hb dX12_link_94 rfl hk) ?_
  refine rz_All_c (i := 28) (fun k J hk hJ => rz_getf_ok (pc := 95) (own := RX12) (ref := "ThreadJudgeModel") (C := RX12) (T := TX12) (N := 257) (ci := 14) (index := 693) (f := 31) (t := 0) (Ts := Cond.code yX12_link cX12_link 4 (some .boolean) :: rz_TB) hx hb hts rz_in14 ho hK rfl (by decide) rfl (fun _ => rfl) (hw (i := 32) (j := 19) rfl rfl) (fun _ z => z) dX12_link_95 hk) ?_
  refine rz_All_c (i := 29) (fun k J hk hJ => rz_iconst_ok (pc := 98) hx hb dX12_link_98 rfl hk) ?_
  refine rz_All_c (i := 30) (fun k J hk hJ => rz_isub_ok (pc := 99) hx hb dX12_link_99 hk) ?_
  refine rz_All_c (i := 31) (fun k J hk hJ => rz_istore_n_ok (pc := 100) hx hb dX12_link_100 rfl hk) ?_
  refine rz_All_c (i := 32) (fun k J hk hJ => rz_iload_n_ok (pc := 101) hx hb dX12_link_101 rfl hk) ?_
  refine rz_All_c (i := 33) (fun k J hk hJ => rz_bipush_ok (pc := 102) hx hb dX12_link_102 (by decide) hk) ?_
  refine rz_All_c (i := 34) (fun k J hk hJ => rz_icmplt_ok (pc := 104) hx hb dX12_link_104 rfl hk (hJ 36)) ?_
  refine rz_All_c (i := 35) (fun k J hk hJ => rz_no_ok) ?_
  refine rz_All_c (i := 36) (fun k J hk hJ => rz_aload_n_ok (pc := 225) hx hb dX12_link_225 rfl hk) ?_
  refine rz_All_c (i := 37) (fun k J hk hJ => rz_getf_ok (pc := 226) (own := RX12) (ref := "ThreadJudgeModel") (C := RX12) (T := TX12) (N := 257) (ci := 14) (index := 873) (f := 87) (t := 0) (Ts := Cond.code yX12_link cX12_link 4 (some .boolean) :: rz_TB) hx hb hts rz_in14 ho hK rfl (by decide) rfl (fun _ => rfl) (hw (i := 42) (j := 14) rfl rfl) (fun _ z => z) dX12_link_226 hk) ?_
  refine rz_All_c (i := 38) (fun k J hk hJ => rz_iconst_ok (pc := 229) hx hb dX12_link_229 rfl hk) ?_
  refine rz_All_c (i := 39) (fun k J hk hJ => rz_icmpne_ok (pc := 230) hx hb dX12_link_230 rfl hk (hJ 51)) ?_
  refine rz_All_c (i := 40) (fun k J hk hJ => rz_aload_n_ok (pc := 233) hx hb dX12_link_233 rfl hk) ?_
  refine rz_All_c (i := 41) (fun k J hk hJ => rz_bipush_ok (pc := 234) hx hb dX12_link_234 (by decide) hk) ?_
  refine rz_All_c (i := 42) (fun k J hk hJ => rz_putf_ok (pc := 236) (own := RX12) (ref := "ThreadJudgeModel") (C := RX12) (T := TX12) (N := 257) (ci := 14) (index := 635) (f := 10) (t := 0) (Ts := Cond.code yX12_link cX12_link 4 (some .boolean) :: rz_TB) hx hb hts rz_in14 tyX12 tyX12_ok nmX12 ho hK hA rfl (by decide) rfl (rz_UnI _) rfl (tyX12_ok 10 (by decide)) (hw (i := 32) (j := 4) rfl rfl) (fun _ z => z) dX12_link_236 hk) ?_
  refine rz_All_c (i := 43) (fun k J hk hJ => rz_aload_n_ok (pc := 239) hx hb dX12_link_239 rfl hk) ?_
  refine rz_All_c (i := 44) (fun k J hk hJ => rz_aload_n_ok (pc := 240) hx hb dX12_link_240 rfl hk) ?_
  refine rz_All_c (i := 45) (fun k J hk hJ => rz_getf_ok (pc := 241) (own := RX12) (ref := "ThreadJudgeModel") (C := RX12) (T := TX12) (N := 257) (ci := 14) (index := 578) (f := 3) (t := 0) (Ts := Cond.code yX12_link cX12_link 4 (some .boolean) :: rz_TB) hx hb hts rz_in14 ho hK rfl (by decide) rfl (fun _ => rfl) (hw (i := 32) (j := 12) rfl rfl) (fun _ z => z) dX12_link_241 hk) ?_
  refine rz_All_c (i := 46) (fun k J hk hJ => rz_gets_ok (pc := 244) (own := RX12) (ref := "ThreadJudgeModel") (index := 638) hx hb hSt.2.2.1 rfl ho (hw (i := 32) (j := 10) rfl rfl) (fun _ z => z) dX12_link_244 hk) ?_
  refine rz_All_c (i := 47) (fun k J hk hJ => rz_isub_ok (pc := 247) hx hb dX12_link_247 hk) ?_
  refine rz_All_c (i := 48) (fun k J hk hJ => rz_putf_ok (pc := 248) (own := RX12) (ref := "ThreadJudgeModel") (C := RX12) (T := TX12) (N := 257) (ci := 14) (index := 16) (f := 11) (t := 0) (Ts := Cond.code yX12_link cX12_link 4 (some .boolean) :: rz_TB) hx hb hts rz_in14 tyX12 tyX12_ok nmX12 ho hK hA rfl (by decide) rfl (rz_UnI _) rfl (tyX12_ok 11 (by decide)) (hw (i := 33) (j := 1) rfl rfl) (fun _ z => z) dX12_link_248 hk) ?_
  refine rz_All_c (i := 49) (fun k J hk hJ => rz_iconst_ok (pc := 251) hx hb dX12_link_251 rfl hk) ?_
  refine rz_All_c (i := 50) (fun k J hk hJ => rz_zret_ok (pc := 252) hC dX12_link_252) ?_
  refine rz_All_c (i := 51) (fun k J hk hJ => rz_no_ok) ?_
  exact trivial
