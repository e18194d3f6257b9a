/-! Runs of load(). -/
theorem rk_X4_link_0_m (l : Launch) {G : rz_G} (hG : rz_Gd G) : Met l yX4_link (Cond.code yX4_link cX4_link 2 (some .boolean) :: rz_TB) rrX4_link (rz_Pre G [rz_r 91, rz_i 0] (rs_5, 398, 0)) (rz_Qi G (rs_5, 398, 0).2 (rz_tst (rz_i 0) (rs_6, 398, 0))) 0 0 (fun q => rz_b G ≤ q) := rmX4_link_o l hG _ _ _ rfl rk_X4_link_0
noncomputable def roX4_link : rz_L → rz_M → rz_Z → Bool := (rz_ora [rz_r 91, rz_i 0] (rs_5, 398, 0) (rz_i 0) (rs_6, 398, 0) rgX4_link_o)
theorem rmoX4_link (l : Launch) {G : rz_G} (hG : rz_Gd G) (vs : rz_L) (M : rz_M) (Z : rz_Z) (hn : vs.length = 2) (h : roX4_link vs M Z = true) : Met l yX4_link (Cond.code yX4_link cX4_link 2 (some .boolean) :: rz_TB) rrX4_link (rz_Pre G vs M) (rz_Qi G M.2 Z) 0 0 (fun q => rz_b G ≤ q) := (fun vs M Z hn h => rz_orb_i (rk_X4_link_0_m l hG) (fun vs M Z hn h => rmX4_link_o l hG vs M Z hn h) vs M Z hn h) vs M Z hn h
theorem rmX9_cut_c (l : Launch) {G : rz_G} (hG : rz_Gd G) (vs : rz_L) (M : rz_M) (Z : rz_Z) (hn : vs.length = 3) (hck : rz_ck vs true = true) (h : rz_Rn rcX9_cut Z 0 (rz_pad 5 vs) [] M) : Met l yX9_cut (Cond.code yX9_cut cX9_cut 5 none :: rz_TB) rrX9_cut (rz_Pre G vs M) (rz_Qv G M.2 Z) 0 0 (fun q => rz_b G ≤ q) := by
  obtain ⟨D, tc, ad, b, xs, rfl⟩ := id hG
  refine rz_bodyC (pcs := rpX9_cut) (by decide) rfl (by rw [hn]; decide) hck h ?_
  intro p e R s m args below meth c hC
  obtain ⟨hx, hb, hml, hr, hlk, ho, hts, hKn, hRm⟩ := id hC
  obtain ⟨hK, hA, hSt⟩ := id hKn
  have hw : ∀ {i j : Nat} {ws : List Cond} {w : Cond}, rz_WW[i]? = some ws → ws[j]? = some w → w.before args s = true := fun h1 h2 => hts _ (List.mem_cons_of_mem _ (rz_mem h1 h2))
  refine rz_All_c (i := 0) (fun k J hk hJ => rz_aload_n_ok (pc := 0) hx hb dX9_cut_0 rfl hk) ?_
  refine rz_All_c (i := 1) (fun k J hk hJ => rz_aload_n_ok (pc := 1) hx hb dX9_cut_1 rfl hk) ?_
  refine rz_All_c (i := 2) (fun k J hk hJ => rz_putf_ok (pc := 2) (own := RX9) (ref := "ThreadJudge$Reader") (C := RX9) (T := TX9) (N := 19) (ci := 11) (index := 83) (f := 9) (t := 2) (Ts := Cond.code yX9_cut cX9_cut 5 none :: rz_TB) hx hb hts rz_in11 tyX9 tyX9_ok nmX9 ho hK hA rfl (by decide) rfl (rz_UnR _ (Or.inr ⟨_, rfl⟩)) rfl (tyX9_ok 9 (by decide)) (hw (i := 3) (j := 20) rfl rfl) (fun _ z => z) dX9_cut_2 hk) ?_
  refine rz_All_c (i := 3) (fun k J hk hJ => rz_aload_n_ok (pc := 5) hx hb dX9_cut_5 rfl hk) ?_
  refine rz_All_c (i := 4) (fun k J hk hJ => rz_iload_n_ok (pc := 6) hx hb dX9_cut_6 rfl hk) ?_
  refine rz_All_c (i := 5) (fun k J hk hJ => rz_putf_ok (pc := 7) (own := RX9) (ref := "ThreadJudge$Reader") (C := RX9) (T := TX9) (N := 19) (ci := 11) (index := 132) (f := 10) (t := 0) (Ts := Cond.code yX9_cut cX9_cut 5 none :: rz_TB) hx hb hts rz_in11 tyX9 tyX9_ok nmX9 ho hK hA rfl (by decide) rfl (rz_UnI _) rfl (tyX9_ok 10 (by decide)) (hw (i := 3) (j := 21) rfl rfl) (fun _ z => z) dX9_cut_7 hk) ?_
  refine rz_All_c (i := 6) (fun k J hk hJ => rz_aload_n_ok (pc := 10) hx hb dX9_cut_10 rfl hk) ?_
  refine rz_All_c (i := 7) (fun k J hk hJ => rz_iconst_ok (pc := 11) hx hb dX9_cut_11 rfl hk) ?_
  refine rz_All_c (i := 8) (fun k J hk hJ => rz_putf_ok (pc := 12) (own := RX9) (ref := "ThreadJudge$Reader") (C := RX9) (T := TX9) (N := 19) (ci := 11) (index := 129) (f := 14) (t := 0) (Ts := Cond.code yX9_cut cX9_cut 5 none :: rz_TB) hx hb hts rz_in11 tyX9 tyX9_ok nmX9 ho hK hA rfl (by decide) rfl (rz_UnI _) rfl (tyX9_ok 14 (by decide)) (hw (i := 3) (j := 13) rfl rfl) (fun _ z => z) dX9_cut_12 hk) ?_
  refine rz_All_c (i := 9) (fun k J hk hJ => rz_aload_n_ok (pc := 15) hx hb dX9_cut_15 rfl hk) ?_
  refine rz_All_c (i := 10) (fun k J hk hJ => rz_iconst_ok (pc := 16) hx hb dX9_cut_16 rfl hk) ?_
  refine rz_All_c (i := 11) (fun k J hk hJ => rz_callV_ok (pc := 17) (own := RX9) (C := RX9) (T0 := TX9) (N0 := 19) hC rfl (rmX9_pastBlanks l hG) (rz_cwV 1 hC rz_good (rz_mem (i := 3) (j := 22) rfl rfl) (rz_mem (i := 3) (j := 23) rfl rfl) (rz_mem (i := 4) (j := 0) rfl rfl) (rz_mem (i := 1) (j := 21) rfl rfl) (rz_mem (i := 4) (j := 1) rfl rfl) ⟨rfl, by decide, by decide, by decide +kernel⟩ rfl rfl ⟨by decide, by decide⟩) rfl dX9_cut_17 hk) ?_
  refine rz_All_c (i := 12) (fun k J hk hJ => rz_istore_n_ok (pc := 20) hx hb dX9_cut_20 rfl hk) ?_
  refine rz_All_c (i := 13) (fun k J hk hJ => rz_iconst_ok (pc := 21) hx hb dX9_cut_21 rfl hk) ?_
  refine rz_All_c (i := 14) (fun k J hk hJ => rz_istore_ok (pc := 22) hx hb dX9_cut_22 hk) ?_
  refine rz_All_c (i := 15) (fun k J hk hJ => rz_iload_ok (pc := 24) hx hb dX9_cut_24 hk) ?_
  refine rz_All_c (i := 16) (fun k J hk hJ => rz_iload_n_ok (pc := 26) hx hb dX9_cut_26 rfl hk) ?_
  refine rz_All_c (i := 17) (fun k J hk hJ => rz_icmpge_ok (pc := 27) hx hb dX9_cut_27 rfl hk (hJ 36)) ?_
  refine rz_All_c (i := 18) (fun k J hk hJ => rz_iload_n_ok (pc := 30) hx hb dX9_cut_30 rfl hk) ?_
  refine rz_All_c (i := 19) (fun k J hk hJ => rz_iflt_ok (pc := 31) hx hb dX9_cut_31 rfl hk (hJ 36)) ?_
  refine rz_All_c (i := 20) (fun k J hk hJ => rz_iload_n_ok (pc := 34) hx hb dX9_cut_34 rfl hk) ?_
  refine rz_All_c (i := 21) (fun k J hk hJ => rz_aload_n_ok (pc := 35) hx hb dX9_cut_35 rfl hk) ?_
  refine rz_All_c (i := 22) (fun k J hk hJ => rz_getf_ok (pc := 36) (own := RX9) (ref := "ThreadJudge$Reader") (C := RX9) (T := TX9) (N := 19) (ci := 11) (index := 132) (f := 10) (t := 0) (Ts := Cond.code yX9_cut cX9_cut 5 none :: rz_TB) hx hb hts rz_in11 ho hK rfl (by decide) rfl (fun _ => rfl) (hw (i := 3) (j := 21) rfl rfl) (fun _ z => z) dX9_cut_36 hk) ?_
  refine rz_All_c (i := 23) (fun k J hk hJ => rz_icmpge_ok (pc := 39) hx hb dX9_cut_39 rfl hk (hJ 36)) ?_
  refine rz_All_c (i := 24) (fun k J hk hJ => rz_aload_n_ok (pc := 42) hx hb dX9_cut_42 rfl hk) ?_
  refine rz_All_c (i := 25) (fun k J hk hJ => rz_iload_n_ok (pc := 43) hx hb dX9_cut_43 rfl hk) ?_
  refine rz_All_c (i := 26) (fun k J hk hJ => rz_callV_ok (pc := 44) (own := RX9) (C := RX9) (T0 := TX9) (N0 := 19) hC rfl (rmX9_cutOne l hG) (rz_cwV 1 hC rz_good (rz_mem (i := 4) (j := 5) rfl rfl) (rz_mem (i := 4) (j := 6) rfl rfl) (rz_mem (i := 4) (j := 7) rfl rfl) (rz_mem (i := 1) (j := 21) rfl rfl) (rz_mem (i := 4) (j := 8) rfl rfl) ⟨rfl, by decide, by decide, by decide +kernel⟩ rfl rfl ⟨by decide, by decide⟩) rfl dX9_cut_44 hk) ?_
  refine rz_All_c (i := 27) (fun k J hk hJ => rz_istore_n_ok (pc := 47) hx hb dX9_cut_47 rfl hk) ?_
  refine rz_All_c (i := 28) (fun k J hk hJ => rz_iload_n_ok (pc := 48) hx hb dX9_cut_48 rfl hk) ?_
  refine rz_All_c (i := 29) (fun k J hk hJ => rz_iflt_ok (pc := 49) hx hb dX9_cut_49 rfl hk (hJ 34)) ?_
  refine rz_All_c (i := 30) (fun k J hk hJ => rz_aload_n_ok (pc := 52) hx hb dX9_cut_52 rfl hk) ?_
  refine rz_All_c (i := 31) (fun k J hk hJ => rz_iload_n_ok (pc := 53) hx hb dX9_cut_53 rfl hk) ?_
  refine rz_All_c (i := 32) (fun k J hk hJ => rz_callV_ok (pc := 54) (own := RX9) (C := RX9) (T0 := TX9) (N0 := 19) hC rfl (rmX9_pastBlanks l hG) (rz_cwV 1 hC rz_good (rz_mem (i := 3) (j := 22) rfl rfl) (rz_mem (i := 3) (j := 23) rfl rfl) (rz_mem (i := 4) (j := 0) rfl rfl) (rz_mem (i := 1) (j := 21) rfl rfl) (rz_mem (i := 4) (j := 1) rfl rfl) ⟨rfl, by decide, by decide, by decide +kernel⟩ rfl rfl ⟨by decide, by decide⟩) rfl dX9_cut_54 hk) ?_
  refine rz_All_c (i := 33) (fun k J hk hJ => rz_istore_n_ok (pc := 57) hx hb dX9_cut_57 rfl hk) ?_
  refine rz_All_c (i := 34) (fun k J hk hJ => rz_iinc_ok (pc := 58) hx hb dX9_cut_58 (by decide) hk) ?_
  refine rz_All_c (i := 35) (fun k J hk hJ => rz_goto_ok (pc := 61) hx hb dX9_cut_61 rfl (hJ 15)) ?_
  refine rz_All_c (i := 36) (fun k J hk hJ => rz_aload_n_ok (pc := 64) hx hb dX9_cut_64 rfl hk) ?_
  refine rz_All_c (i := 37) (fun k J hk hJ => rz_iconst_ok (pc := 65) hx hb dX9_cut_65 rfl hk) ?_
  refine rz_All_c (i := 38) (fun k J hk hJ => rz_aload_n_ok (pc := 66) hx hb dX9_cut_66 rfl hk) ?_
  refine rz_All_c (i := 39) (fun k J hk hJ => rz_getf_ok (pc := 67) (own := RX9) (ref := "ThreadJudge$Reader") (C := RX9) (T := TX9) (N := 19) (ci := 11) (index := 132) (f := 10) (t := 0) (Ts := Cond.code yX9_cut cX9_cut 5 none :: rz_TB) hx hb hts rz_in11 ho hK rfl (by decide) rfl (fun _ => rfl) (hw (i := 3) (j := 21) rfl rfl) (fun _ z => z) dX9_cut_67 hk) ?_
  refine rz_All_c (i := 40) (fun k J hk hJ => rz_iconst_ok (pc := 70) hx hb dX9_cut_70 rfl hk) ?_
  refine rz_All_c (i := 41) (fun k J hk hJ => rz_callVv_ok (pc := 71) (own := RX9) (C := RX9) (T0 := TX9) (N0 := 19) hC rfl (rmX9_token l hG) (rz_cwV 3 hC rz_good (rz_mem (i := 4) (j := 22) rfl rfl) (rz_mem (i := 4) (j := 23) rfl rfl) (rz_mem (i := 5) (j := 0) rfl rfl) (rz_mem (i := 1) (j := 21) rfl rfl) (rz_mem (i := 5) (j := 1) rfl rfl) ⟨rfl, by decide, by decide, by decide +kernel⟩ rfl rfl ⟨by decide, by decide⟩) rfl dX9_cut_71 hk) ?_
  refine rz_All_c (i := 42) (fun k J hk hJ => rz_vret_ok (pc := 74) hC dX9_cut_74) ?_
  exact trivial
