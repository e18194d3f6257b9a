/-! Runs of load(). -/
theorem rk_J7_fill_53178_1_m (l : Launch) {G : rz_G} (hG : rz_Gd G) : Met l yJ7_fill_53178 (Cond.code yJ7_fill_53178 cJ7_fill_53178 4 none :: rz_TB) rrJ7_fill_53178 (rz_Pre G [rz_r 71, rz_i 4294967295] (rs_19, 398, 0)) (rz_Qv G (rs_19, 398, 0).2 (rz_tst (rz_o) (rs_20, 398, 0))) 0 0 (fun q => rz_b G ≤ q) := rmJ7_fill_53178_c l hG _ _ _ rfl rfl (rz_Rn_cut rk_J7_fill_53178_1_s0 (rz_Rn_cut rk_J7_fill_53178_1_s1 (rz_Rn_cut rk_J7_fill_53178_1_s2 (rz_Rn_cut rk_J7_fill_53178_1_s3 (rz_Rn_cut rk_J7_fill_53178_1_s4 (rz_Rn_cut rk_J7_fill_53178_1_s5 (rz_Rn_last rk_J7_fill_53178_1_e)))))))
noncomputable def roJ7_fill_53178 : rz_L → rz_M → rz_Z → Bool := (rz_ora [rz_r 71, rz_i 4294967295] (rs_19, 398, 0) (rz_o) (rs_20, 398, 0) (rz_ora [rz_r 106, rz_i 4294967295] (rs_7, 124, 0) (rz_o) (rs_8, 124, 0) rgJ7_fill_53178))
theorem rmoJ7_fill_53178 (l : Launch) {G : rz_G} (hG : rz_Gd G) (vs : rz_L) (M : rz_M) (Z : rz_Z) (hn : vs.length = 2) (h : roJ7_fill_53178 vs M Z = true) : Met l yJ7_fill_53178 (Cond.code yJ7_fill_53178 cJ7_fill_53178 4 none :: rz_TB) rrJ7_fill_53178 (rz_Pre G vs M) (rz_Qv G M.2 Z) 0 0 (fun q => rz_b G ≤ q) := (fun vs M Z hn h => rz_orb_v (rk_J7_fill_53178_1_m l hG) (fun vs M Z hn h => rz_orb_v (rk_J7_fill_53178_0_m l hG) (fun vs M Z hn h => rmJ7_fill_53178 l hG vs M Z hn h) vs M Z hn h) vs M Z hn h) vs M Z hn h
noncomputable def rcX9_open_o : List rz_B := [rz_aload 0, rz_cst 0, rz_putf (Nat.add (Nat.mul 256 11) 1) 17 rz_unI, rz_aload 0, rz_cst 4294967295, rz_putf (Nat.add (Nat.mul 256 11) 1) 18 rz_unI, rz_aload 0, rz_cst 0, rz_putf (Nat.add (Nat.mul 256 11) 1) 8 rz_unI, rz_aload 0, rz_getf (Nat.add (Nat.mul 256 11) 1) 7 rz_r, rz_cst 4294967295, rz_callSv 2 roJ7_fill_53178, rz_cst 0, rz_istore 1, rz_cst 0, rz_istore 2, rz_iload 1, rz_aload 0, rz_getf (Nat.add (Nat.mul 256 11) 1) 1 rz_r, rz_alen, rz_icmpge 41, rz_aload 0, rz_getf (Nat.add (Nat.mul 256 11) 1) 1 rz_r, rz_iload 1, rz_cald, rz_cst 32, rz_icmpne 39, rz_aload 0, rz_aload 0, rz_getf (Nat.add (Nat.mul 256 11) 1) 1 rz_r, rz_iload 2, rz_iload 1, rz_callV 3 (Nat.add (Nat.mul 256 11) 1) rgX9_intern, rz_pop, rz_iload 1, rz_cst 1, rz_iadd, rz_istore 2, rz_iinc 1 1, rz_goto 17, rz_vret]
noncomputable def rgX9_open_o : rz_L → rz_M → rz_Z → Bool := rz_go rcX9_open_o 3 1000000
theorem rmX9_open_o (l : Launch) {G : rz_G} (hG : rz_Gd G) (vs : rz_L) (M : rz_M) (Z : rz_Z) (hn : vs.length = 1) (h : rgX9_open_o vs M Z = true) : Met l yX9_open (Cond.code yX9_open cX9_open 3 none :: rz_TB) rrX9_open (rz_Pre G vs M) (rz_Qv G M.2 Z) 0 0 (fun q => rz_b G ≤ q) := by
  obtain ⟨D, tc, ad, b, xs, rfl⟩ := id hG
  refine rz_body (pcs := rpX9_open) (by decide) rfl (by rw [hn]; decide) h ?_
  intro p e R s m args below meth c hC
  obtain ⟨hx, hb, hml, hr, hlk, ho, hts, hKn, hRm⟩ := id hC
  obtain ⟨hK, hA, hSt⟩ := id hKn
  have hw : ∀ {i j : Nat} {ws : List Cond} {w : Cond}, rz_WW[i]? = some ws → ws[j]? = some w → w.before args s = true := fun h1 h2 => hts _ (List.mem_cons_of_mem _ (rz_mem h1 h2))
  refine rz_All_c (i := 0) (fun k J hk hJ => rz_aload_n_ok (pc := 0) hx hb dX9_open_0 rfl hk) ?_
  refine rz_All_c (i := 1) (fun k J hk hJ => rz_iconst_ok (pc := 1) hx hb dX9_open_1 rfl hk) ?_
  refine rz_All_c (i := 2) (fun k J hk hJ => rz_putf_ok (pc := 2) (own := RX9) (ref := "ThreadJudge$Reader") (C := RX9) (T := TX9) (N := 19) (ci := 11) (index := 86) (f := 17) (t := 0) (Ts := Cond.code yX9_open cX9_open 3 none :: rz_TB) hx hb hts rz_in11 tyX9 tyX9_ok nmX9 ho hK hA rfl (by decide) rfl (rz_UnI _) rfl (tyX9_ok 17 (by decide)) (hw (i := 1) (j := 23) rfl rfl) (fun _ z => z) dX9_open_2 hk) ?_
  refine rz_All_c (i := 3) (fun k J hk hJ => rz_aload_n_ok (pc := 5) hx hb dX9_open_5 rfl hk) ?_
  refine rz_All_c (i := 4) (fun k J hk hJ => rz_iconst_ok (pc := 6) hx hb dX9_open_6 rfl hk) ?_
  refine rz_All_c (i := 5) (fun k J hk hJ => rz_putf_ok (pc := 7) (own := RX9) (ref := "ThreadJudge$Reader") (C := RX9) (T := TX9) (N := 19) (ci := 11) (index := 90) (f := 18) (t := 0) (Ts := Cond.code yX9_open cX9_open 3 none :: rz_TB) hx hb hts rz_in11 tyX9 tyX9_ok nmX9 ho hK hA rfl (by decide) rfl (rz_UnI _) rfl (tyX9_ok 18 (by decide)) (hw (i := 2) (j := 0) rfl rfl) (fun _ z => z) dX9_open_7 hk) ?_
  refine rz_All_c (i := 6) (fun k J hk hJ => rz_aload_n_ok (pc := 10) hx hb dX9_open_10 rfl hk) ?_
  refine rz_All_c (i := 7) (fun k J hk hJ => rz_iconst_ok (pc := 11) hx hb dX9_open_11 rfl hk) ?_
  refine rz_All_c (i := 8) (fun k J hk hJ => rz_putf_ok (pc := 12) (own := RX9) (ref := "ThreadJudge$Reader") (C := RX9) (T := TX9) (N := 19) (ci := 11) (index := 93) (f := 8) (t := 0) (Ts := Cond.code yX9_open cX9_open 3 none :: rz_TB) hx hb hts rz_in11 tyX9 tyX9_ok nmX9 ho hK hA rfl (by decide) rfl (rz_UnI _) rfl (tyX9_ok 8 (by decide)) (hw (i := 2) (j := 1) rfl rfl) (fun _ z => z) dX9_open_12 hk) ?_
  refine rz_All_c (i := 9) (fun k J hk hJ => rz_aload_n_ok (pc := 15) hx hb dX9_open_15 rfl hk) ?_
  refine rz_All_c (i := 10) (fun k J hk hJ => rz_getf_ok (pc := 16) (own := RX9) (ref := "ThreadJudge$Reader") (C := RX9) (T := TX9) (N := 19) (ci := 11) (index := 25) (f := 7) (t := 2) (Ts := Cond.code yX9_open cX9_open 3 none :: rz_TB) hx hb hts rz_in11 ho hK rfl (by decide) rfl (fun _ => rfl) (hw (i := 2) (j := 2) rfl rfl) (fun _ z => z) dX9_open_16 hk) ?_
  refine rz_All_c (i := 11) (fun k J hk hJ => rz_iconst_ok (pc := 19) hx hb dX9_open_19 rfl hk) ?_
  refine rz_All_c (i := 12) (fun k J hk hJ => rz_callSv_ok (pc := 20) (own := RX9) hC rfl (rmoJ7_fill_53178 l hG) (rz_cwX 2 hC rz_good (rz_mem (i := 2) (j := 4) rfl rfl) (rz_mem (i := 2) (j := 5) rfl rfl) (rz_mem (i := 2) (j := 6) rfl rfl) (rz_mem (i := 2) (j := 7) rfl rfl) ⟨by decide, by decide, by decide +kernel⟩ rfl rfl ⟨by decide, by decide⟩) dX9_open_20 hk) ?_
  refine rz_All_c (i := 13) (fun k J hk hJ => rz_iconst_ok (pc := 23) hx hb dX9_open_23 rfl hk) ?_
  refine rz_All_c (i := 14) (fun k J hk hJ => rz_istore_n_ok (pc := 24) hx hb dX9_open_24 rfl hk) ?_
  refine rz_All_c (i := 15) (fun k J hk hJ => rz_iconst_ok (pc := 25) hx hb dX9_open_25 rfl hk) ?_
  refine rz_All_c (i := 16) (fun k J hk hJ => rz_istore_n_ok (pc := 26) hx hb dX9_open_26 rfl hk) ?_
  refine rz_All_c (i := 17) (fun k J hk hJ => rz_iload_n_ok (pc := 27) hx hb dX9_open_27 rfl hk) ?_
  refine rz_All_c (i := 18) (fun k J hk hJ => rz_aload_n_ok (pc := 28) hx hb dX9_open_28 rfl hk) ?_
  refine rz_All_c (i := 19) (fun k J hk hJ => rz_getf_ok (pc := 29) (own := RX9) (ref := "ThreadJudge$Reader") (C := RX9) (T := TX9) (N := 19) (ci := 11) (index := 67) (f := 1) (t := 2) (Ts := Cond.code yX9_open cX9_open 3 none :: rz_TB) hx hb hts rz_in11 ho hK rfl (by decide) rfl (fun _ => rfl) (hw (i := 2) (j := 3) rfl rfl) (fun _ z => z) dX9_open_29 hk) ?_
  refine rz_All_c (i := 20) (fun k J hk hJ => rz_alen_ok (pc := 32) hx hb hK dX9_open_32 hk) ?_
  refine rz_All_c (i := 21) (fun k J hk hJ => rz_icmpge_ok (pc := 33) hx hb dX9_open_33 rfl hk (hJ 41)) ?_
  refine rz_All_c (i := 22) (fun k J hk hJ => rz_aload_n_ok (pc := 36) hx hb dX9_open_36 rfl hk) ?_
  refine rz_All_c (i := 23) (fun k J hk hJ => rz_getf_ok (pc := 37) (own := RX9) (ref := "ThreadJudge$Reader") (C := RX9) (T := TX9) (N := 19) (ci := 11) (index := 67) (f := 1) (t := 2) (Ts := Cond.code yX9_open cX9_open 3 none :: rz_TB) hx hb hts rz_in11 ho hK rfl (by decide) rfl (fun _ => rfl) (hw (i := 2) (j := 3) rfl rfl) (fun _ z => z) dX9_open_37 hk) ?_
  refine rz_All_c (i := 24) (fun k J hk hJ => rz_iload_n_ok (pc := 40) hx hb dX9_open_40 rfl hk) ?_
  refine rz_All_c (i := 25) (fun k J hk hJ => rz_cald_ok (pc := 41) hx hb hK dX9_open_41 hk) ?_
  refine rz_All_c (i := 26) (fun k J hk hJ => rz_bipush_ok (pc := 42) hx hb dX9_open_42 (by decide) hk) ?_
  refine rz_All_c (i := 27) (fun k J hk hJ => rz_icmpne_ok (pc := 44) hx hb dX9_open_44 rfl hk (hJ 39)) ?_
  refine rz_All_c (i := 28) (fun k J hk hJ => rz_aload_n_ok (pc := 47) hx hb dX9_open_47 rfl hk) ?_
  refine rz_All_c (i := 29) (fun k J hk hJ => rz_aload_n_ok (pc := 48) hx hb dX9_open_48 rfl hk) ?_
  refine rz_All_c (i := 30) (fun k J hk hJ => rz_getf_ok (pc := 49) (own := RX9) (ref := "ThreadJudge$Reader") (C := RX9) (T := TX9) (N := 19) (ci := 11) (index := 67) (f := 1) (t := 2) (Ts := Cond.code yX9_open cX9_open 3 none :: rz_TB) hx hb hts rz_in11 ho hK rfl (by decide) rfl (fun _ => rfl) (hw (i := 2) (j := 3) rfl rfl) (fun _ z => z) dX9_open_49 hk) ?_
  refine rz_All_c (i := 31) (fun k J hk hJ => rz_iload_n_ok (pc := 52) hx hb dX9_open_52 rfl hk) ?_
  refine rz_All_c (i := 32) (fun k J hk hJ => rz_iload_n_ok (pc := 53) hx hb dX9_open_53 rfl hk) ?_
  refine rz_All_c (i := 33) (fun k J hk hJ => rz_callV_ok (pc := 54) (own := RX9) (C := RX9) (T0 := TX9) (N0 := 19) hC rfl (rmX9_intern l hG) (rz_cwV 3 hC rz_good (rz_mem (i := 2) (j := 8) rfl rfl) (rz_mem (i := 2) (j := 9) rfl rfl) (rz_mem (i := 2) (j := 10) rfl rfl) (rz_mem (i := 1) (j := 21) rfl rfl) (rz_mem (i := 2) (j := 11) rfl rfl) ⟨rfl, by decide, by decide, by decide +kernel⟩ rfl rfl ⟨by decide, by decide⟩) rfl dX9_open_54 hk) ?_
  refine rz_All_c (i := 34) (fun k J hk hJ => rz_pop_ok (pc := 57) hx hb dX9_open_57 hk) ?_
  refine rz_All_c (i := 35) (fun k J hk hJ => rz_iload_n_ok (pc := 58) hx hb dX9_open_58 rfl hk) ?_
  refine rz_All_c (i := 36) (fun k J hk hJ => rz_iconst_ok (pc := 59) hx hb dX9_open_59 rfl hk) ?_
  refine rz_All_c (i := 37) (fun k J hk hJ => rz_iadd_ok (pc := 60) hx hb dX9_open_60 hk) ?_
  refine rz_All_c (i := 38) (fun k J hk hJ => rz_istore_n_ok (pc := 61) hx hb dX9_open_61 rfl hk) ?_
  refine rz_All_c (i := 39) (fun k J hk hJ => rz_iinc_ok (pc := 62) hx hb dX9_open_62 (by decide) hk) ?_
  refine rz_All_c (i := 40) (fun k J hk hJ => rz_goto_ok (pc := 65) hx hb dX9_open_65 rfl (hJ 17)) ?_
  refine rz_All_c (i := 41) (fun k J hk hJ => rz_vret_ok (pc := 68) hC dX9_open_68) ?_
  exact trivial
theorem rmX9_cut_c (l : Launch) {G : rz_G} (hG : rz_Gd G) (vs : rz_L) (M : rz_M) (Z : rz_Z) (hn : vs.length = 3) (hck : rz_ck vs true = true) (h : rz_Rn rcX9_cut Z 0 (rz_pad 5 vs) [] M) : Met l yX9_cut (Cond.code yX9_cut cX9_cut 5 none :: rz_TB) rrX9_cut (rz_Pre G vs M) (rz_Qv G M.2 Z) 0 0 (fun q => rz_b G ≤ q) := by
  obtain ⟨D, tc, ad, b, xs, rfl⟩ := id hG
  refine rz_bodyC (pcs := rpX9_cut) (by decide) rfl (by rw [hn]; decide) hck h ?_
  intro p e R s m args below meth c hC
  obtain ⟨hx, hb, hml, hr, hlk, ho, hts, hKn, hRm⟩ := id hC
  obtain ⟨hK, hA, hSt⟩ := id hKn
  have hw : ∀ {i j : Nat} {ws : List Cond} {w : Cond}, rz_WW[i]? = some ws → ws[j]? = some w → w.before args s = true := fun h1 h2 => hts _ (List.mem_cons_of_mem _ (rz_mem h1 h2))
  refine rz_All_c (i := 0) (fun k J hk hJ => rz_aload_n_ok (pc := 0) hx hb dX9_cut_0 rfl hk) ?_
  refine rz_All_c (i := 1) (fun k J hk hJ => rz_aload_n_ok (pc := 1) hx hb dX9_cut_1 rfl hk) ?_
  refine rz_All_c (i := 2) (fun k J hk hJ => rz_putf_ok (pc := 2) (own := RX9) (ref := "ThreadJudge$Reader") (C := RX9) (T := TX9) (N := 19) (ci := 11) (index := 83) (f := 9) (t := 2) (Ts := Cond.code yX9_cut cX9_cut 5 none :: rz_TB) hx hb hts rz_in11 tyX9 tyX9_ok nmX9 ho hK hA rfl (by decide) rfl (rz_UnR _ (Or.inr ⟨_, rfl⟩)) rfl (tyX9_ok 9 (by decide)) (hw (i := 3) (j := 20) rfl rfl) (fun _ z => z) dX9_cut_2 hk) ?_
  refine rz_All_c (i := 3) (fun k J hk hJ => rz_aload_n_ok (pc := 5) hx hb dX9_cut_5 rfl hk) ?_
  refine rz_All_c (i := 4) (fun k J hk hJ => rz_iload_n_ok (pc := 6) hx hb dX9_cut_6 rfl hk) ?_
  refine rz_All_c (i := 5) (fun k J hk hJ => rz_putf_ok (pc := 7) (own := RX9) (ref := "ThreadJudge$Reader") (C := RX9) (T := TX9) (N := 19) (ci := 11) (index := 132) (f := 10) (t := 0) (Ts := Cond.code yX9_cut cX9_cut 5 none :: rz_TB) hx hb hts rz_in11 tyX9 tyX9_ok nmX9 ho hK hA rfl (by decide) rfl (rz_UnI _) rfl (tyX9_ok 10 (by decide)) (hw (i := 3) (j := 21) rfl rfl) (fun _ z => z) dX9_cut_7 hk) ?_
  refine rz_All_c (i := 6) (fun k J hk hJ => rz_aload_n_ok (pc := 10) hx hb dX9_cut_10 rfl hk) ?_
  refine rz_All_c (i := 7) (fun k J hk hJ => rz_iconst_ok (pc := 11) hx hb dX9_cut_11 rfl hk) ?_
  refine rz_All_c (i := 8) (fun k J hk hJ => rz_putf_ok (pc := 12) (own := RX9) (ref := "ThreadJudge$Reader") (C := RX9) (T := TX9) (N := 19) (ci := 11) (index := 129) (f := 14) (t := 0) (Ts := Cond.code yX9_cut cX9_cut 5 none :: rz_TB) hx hb hts rz_in11 tyX9 tyX9_ok nmX9 ho hK hA rfl (by decide) rfl (rz_UnI _) rfl (tyX9_ok 14 (by decide)) (hw (i := 3) (j := 13) rfl rfl) (fun _ z => z) dX9_cut_12 hk) ?_
  refine rz_All_c (i := 9) (fun k J hk hJ => rz_aload_n_ok (pc := 15) hx hb dX9_cut_15 rfl hk) ?_
  refine rz_All_c (i := 10) (fun k J hk hJ => rz_iconst_ok (pc := 16) hx hb dX9_cut_16 rfl hk) ?_
  refine rz_All_c (i := 11) (fun k J hk hJ => rz_callV_ok (pc := 17) (own := RX9) (C := RX9) (T0 := TX9) (N0 := 19) hC rfl (rmX9_pastBlanks l hG) (rz_cwV 1 hC rz_good (rz_mem (i := 3) (j := 22) rfl rfl) (rz_mem (i := 3) (j := 23) rfl rfl) (rz_mem (i := 4) (j := 0) rfl rfl) (rz_mem (i := 1) (j := 21) rfl rfl) (rz_mem (i := 4) (j := 1) rfl rfl) ⟨rfl, by decide, by decide, by decide +kernel⟩ rfl rfl ⟨by decide, by decide⟩) rfl dX9_cut_17 hk) ?_
  refine rz_All_c (i := 12) (fun k J hk hJ => rz_istore_n_ok (pc := 20) hx hb dX9_cut_20 rfl hk) ?_
  refine rz_All_c (i := 13) (fun k J hk hJ => rz_iconst_ok (pc := 21) hx hb dX9_cut_21 rfl hk) ?_
  refine rz_All_c (i := 14) (fun k J hk hJ => rz_istore_ok (pc := 22) hx hb dX9_cut_22 hk) ?_
  refine rz_All_c (i := 15) (fun k J hk hJ => rz_iload_ok (pc := 24) hx hb dX9_cut_24 hk) ?_
  refine rz_All_c (i := 16) (fun k J hk hJ => rz_iload_n_ok (pc := 26) hx hb dX9_cut_26 rfl hk) ?_
  refine rz_All_c (i := 17) (fun k J hk hJ => rz_icmpge_ok (pc := 27) hx hb dX9_cut_27 rfl hk (hJ 36)) ?_
  refine rz_All_c (i := 18) (fun k J hk hJ => rz_iload_n_ok (pc := 30) hx hb dX9_cut_30 rfl hk) ?_
  refine rz_All_c (i := 19) (fun k J hk hJ => rz_iflt_ok (pc := 31) hx hb dX9_cut_31 rfl hk (hJ 36)) ?_
  refine rz_All_c (i := 20) (fun k J hk hJ => rz_iload_n_ok (pc := 34) hx hb dX9_cut_34 rfl hk) ?_
  refine rz_All_c (i := 21) (fun k J hk hJ => rz_aload_n_ok (pc := 35) hx hb dX9_cut_35 rfl hk) ?_
  refine rz_All_c (i := 22) (fun k J hk hJ => rz_getf_ok (pc := 36) (own := RX9) (ref := "ThreadJudge$Reader") (C := RX9) (T := TX9) (N := 19) (ci := 11) (index := 132) (f := 10) (t := 0) (Ts := Cond.code yX9_cut cX9_cut 5 none :: rz_TB) hx hb hts rz_in11 ho hK rfl (by decide) rfl (fun _ => rfl) (hw (i := 3) (j := 21) rfl rfl) (fun _ z => z) dX9_cut_36 hk) ?_
  refine rz_All_c (i := 23) (fun k J hk hJ => rz_icmpge_ok (pc := 39) hx hb dX9_cut_39 rfl hk (hJ 36)) ?_
  refine rz_All_c (i := 24) (fun k J hk hJ => rz_aload_n_ok (pc := 42) hx hb dX9_cut_42 rfl hk) ?_
  refine rz_All_c (i := 25) (fun k J hk hJ => rz_iload_n_ok (pc := 43) hx hb dX9_cut_43 rfl hk) ?_
  refine rz_All_c (i := 26) (fun k J hk hJ => rz_callV_ok (pc := 44) (own := RX9) (C := RX9) (T0 := TX9) (N0 := 19) hC rfl (rmX9_cutOne l hG) (rz_cwV 1 hC rz_good (rz_mem (i := 4) (j := 5) rfl rfl) (rz_mem (i := 4) (j := 6) rfl rfl) (rz_mem (i := 4) (j := 7) rfl rfl) (rz_mem (i := 1) (j := 21) rfl rfl) (rz_mem (i := 4) (j := 8) rfl rfl) ⟨rfl, by decide, by decide, by decide +kernel⟩ rfl rfl ⟨by decide, by decide⟩) rfl dX9_cut_44 hk) ?_
  refine rz_All_c (i := 27) (fun k J hk hJ => rz_istore_n_ok (pc := 47) hx hb dX9_cut_47 rfl hk) ?_
  refine rz_All_c (i := 28) (fun k J hk hJ => rz_iload_n_ok (pc := 48) hx hb dX9_cut_48 rfl hk) ?_
  refine rz_All_c (i := 29) (fun k J hk hJ => rz_iflt_ok (pc := 49) hx hb dX9_cut_49 rfl hk (hJ 34)) ?_
  refine rz_All_c (i := 30) (fun k J hk hJ => rz_aload_n_ok (pc := 52) hx hb dX9_cut_52 rfl hk) ?_
  refine rz_All_c (i := 31) (fun k J hk hJ => rz_iload_n_ok (pc := 53) hx hb dX9_cut_53 rfl hk) ?_
  refine rz_All_c (i := 32) (fun k J hk hJ => rz_callV_ok (pc := 54) (own := RX9) (C := RX9) (T0 := TX9) (N0 := 19) hC rfl (rmX9_pastBlanks l hG) (rz_cwV 1 hC rz_good (rz_mem (i := 3) (j := 22) rfl rfl) (rz_mem (i := 3) (j := 23) rfl rfl) (rz_mem (i := 4) (j := 0) rfl rfl) (rz_mem (i := 1) (j := 21) rfl rfl) (rz_mem (i := 4) (j := 1) rfl rfl) ⟨rfl, by decide, by decide, by decide +kernel⟩ rfl rfl ⟨by decide, by decide⟩) rfl dX9_cut_54 hk) ?_
  refine rz_All_c (i := 33) (fun k J hk hJ => rz_istore_n_ok (pc := 57) hx hb dX9_cut_57 rfl hk) ?_
  refine rz_All_c (i := 34) (fun k J hk hJ => rz_iinc_ok (pc := 58) hx hb dX9_cut_58 (by decide) hk) ?_
  refine rz_All_c (i := 35) (fun k J hk hJ => rz_goto_ok (pc := 61) hx hb dX9_cut_61 rfl (hJ 15)) ?_
  refine rz_All_c (i := 36) (fun k J hk hJ => rz_aload_n_ok (pc := 64) hx hb dX9_cut_64 rfl hk) ?_
  refine rz_All_c (i := 37) (fun k J hk hJ => rz_iconst_ok (pc := 65) hx hb dX9_cut_65 rfl hk) ?_
  refine rz_All_c (i := 38) (fun k J hk hJ => rz_aload_n_ok (pc := 66) hx hb dX9_cut_66 rfl hk) ?_
  refine rz_All_c (i := 39) (fun k J hk hJ => rz_getf_ok (pc := 67) (own := RX9) (ref := "ThreadJudge$Reader") (C := RX9) (T := TX9) (N := 19) (ci := 11) (index := 132) (f := 10) (t := 0) (Ts := Cond.code yX9_cut cX9_cut 5 none :: rz_TB) hx hb hts rz_in11 ho hK rfl (by decide) rfl (fun _ => rfl) (hw (i := 3) (j := 21) rfl rfl) (fun _ z => z) dX9_cut_67 hk) ?_
  refine rz_All_c (i := 40) (fun k J hk hJ => rz_iconst_ok (pc := 70) hx hb dX9_cut_70 rfl hk) ?_
  refine rz_All_c (i := 41) (fun k J hk hJ => rz_callVv_ok (pc := 71) (own := RX9) (C := RX9) (T0 := TX9) (N0 := 19) hC rfl (rmX9_token l hG) (rz_cwV 3 hC rz_good (rz_mem (i := 4) (j := 22) rfl rfl) (rz_mem (i := 4) (j := 23) rfl rfl) (rz_mem (i := 5) (j := 0) rfl rfl) (rz_mem (i := 1) (j := 21) rfl rfl) (rz_mem (i := 5) (j := 1) rfl rfl) ⟨rfl, by decide, by decide, by decide +kernel⟩ rfl rfl ⟨by decide, by decide⟩) rfl dX9_cut_71 hk) ?_
  refine rz_All_c (i := 42) (fun k J hk hJ => rz_vret_ok (pc := 74) hC dX9_cut_74) ?_
  exact trivial
