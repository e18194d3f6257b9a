/-! Runs of load(). -/
theorem rk_X9_cut_0_m (l : Launch) {G : rz_G} (hG : rz_Gd G) : Met l yX9_cut (Cond.code yX9_cut cX9_cut 5 none :: rz_TB) rrX9_cut (rz_Pre G [rz_r 66, rz_r 90, rz_i 1192] (rs_27, 398, 0)) (rz_Qv G (rs_27, 398, 0).2 (rz_tst (rz_o) (rs_28, 398, 0))) 0 0 (fun q => rz_b G ≤ q) := rmX9_cut_c l hG _ _ _ rfl rfl (rz_Rn_cut rk_X9_cut_0_s0 (rz_Rn_last rk_X9_cut_0_e))
noncomputable def roX9_cut : rz_L → rz_M → rz_Z → Bool := (rz_ora [rz_r 66, rz_r 90, rz_i 1192] (rs_27, 398, 0) (rz_o) (rs_28, 398, 0) rgX9_cut)
theorem rmoX9_cut (l : Launch) {G : rz_G} (hG : rz_Gd G) (vs : rz_L) (M : rz_M) (Z : rz_Z) (hn : vs.length = 3) (h : roX9_cut vs M Z = true) : Met l yX9_cut (Cond.code yX9_cut cX9_cut 5 none :: rz_TB) rrX9_cut (rz_Pre G vs M) (rz_Qv G M.2 Z) 0 0 (fun q => rz_b G ≤ q) := (fun vs M Z hn h => rz_orb_v (rk_X9_cut_0_m l hG) (fun vs M Z hn h => rmX9_cut l hG vs M Z hn h) vs M Z hn h) vs M Z hn h
noncomputable def rcX9_read_o : List rz_B := [rz_aload 0, rz_aload 1, rz_iload 2, rz_callVv 2 (Nat.add (Nat.mul 256 11) 1) roX9_cut, rz_aload 0, rz_cst 0, rz_putf (Nat.add (Nat.mul 256 11) 1) 15 rz_unI, rz_aload 0, rz_cst 0, rz_putf (Nat.add (Nat.mul 256 11) 1) 16 rz_unI, rz_cst 0, rz_istore 3, rz_iload 3, rz_aload 0, rz_getf (Nat.add (Nat.mul 256 11) 1) 14 rz_i, rz_icmpgt 33, rz_aload 0, rz_getf (Nat.add (Nat.mul 256 11) 1) 16 rz_i, rz_ifne 27, rz_aload 0, rz_getf (Nat.add (Nat.mul 256 11) 1) 11 rz_r, rz_aload 0, rz_getf (Nat.add (Nat.mul 256 11) 1) 15 rz_i, rz_iald, rz_ifne 27, rz_cst 1, rz_zret, rz_aload 0, rz_callV 0 (Nat.add (Nat.mul 256 11) 1) rgX9_readOn, rz_ifne 31, rz_no, rz_iinc 3 1, rz_goto 12, rz_no]
noncomputable def rgX9_read_o : rz_L → rz_M → rz_Z → Bool := rz_go rcX9_read_o 4 1000000
theorem rmX9_read_o (l : Launch) {G : rz_G} (hG : rz_Gd G) (vs : rz_L) (M : rz_M) (Z : rz_Z) (hn : vs.length = 3) (h : rgX9_read_o vs M Z = true) : Met l yX9_read (Cond.code yX9_read cX9_read 4 (some .boolean) :: rz_TB) rrX9_read (rz_Pre G vs M) (rz_Qi G M.2 Z) 0 0 (fun q => rz_b G ≤ q) := by
  obtain ⟨D, tc, ad, b, xs, rfl⟩ := id hG
  refine rz_body (pcs := rpX9_read) (by decide) rfl (by rw [hn]; decide) h ?_
  intro p e R s m args below meth c hC
  obtain ⟨hx, hb, hml, hr, hlk, ho, hts, hKn, hRm⟩ := id hC
  obtain ⟨hK, hA, hSt⟩ := id hKn
  have hw : ∀ {i j : Nat} {ws : List Cond} {w : Cond}, rz_WW[i]? = some ws → ws[j]? = some w → w.before args s = true := fun h1 h2 => hts _ (List.mem_cons_of_mem _ (rz_mem h1 h2))
  refine rz_All_c (i := 0) (fun k J hk hJ => rz_aload_n_ok (pc := 0) hx hb dX9_read_0 rfl hk) ?_
  refine rz_All_c (i := 1) (fun k J hk hJ => rz_aload_n_ok (pc := 1) hx hb dX9_read_1 rfl hk) ?_
  refine rz_All_c (i := 2) (fun k J hk hJ => rz_iload_n_ok (pc := 2) hx hb dX9_read_2 rfl hk) ?_
  refine rz_All_c (i := 3) (fun k J hk hJ => rz_callVv_ok (pc := 3) (own := RX9) (C := RX9) (T0 := TX9) (N0 := 19) hC rfl (rmoX9_cut l hG) (rz_cwV 2 hC rz_good (rz_mem (i := 3) (j := 16) rfl rfl) (rz_mem (i := 3) (j := 17) rfl rfl) (rz_mem (i := 3) (j := 18) rfl rfl) (rz_mem (i := 1) (j := 21) rfl rfl) (rz_mem (i := 3) (j := 19) rfl rfl) ⟨rfl, by decide, by decide, by decide +kernel⟩ rfl rfl ⟨by decide, by decide⟩) rfl dX9_read_3 hk) ?_
  refine rz_All_c (i := 4) (fun k J hk hJ => rz_aload_n_ok (pc := 6) hx hb dX9_read_6 rfl hk) ?_
  refine rz_All_c (i := 5) (fun k J hk hJ => rz_iconst_ok (pc := 7) hx hb dX9_read_7 rfl hk) ?_
  refine rz_All_c (i := 6) (fun k J hk hJ => rz_putf_ok (pc := 8) (own := RX9) (ref := "ThreadJudge$Reader") (C := RX9) (T := TX9) (N := 19) (ci := 11) (index := 187) (f := 15) (t := 0) (Ts := Cond.code yX9_read cX9_read 4 (some .boolean) :: rz_TB) hx hb hts rz_in11 tyX9 tyX9_ok nmX9 ho hK hA rfl (by decide) rfl (rz_UnI _) rfl (tyX9_ok 15 (by decide)) (hw (i := 3) (j := 11) rfl rfl) (fun _ z => z) dX9_read_8 hk) ?_
  refine rz_All_c (i := 7) (fun k J hk hJ => rz_aload_n_ok (pc := 11) hx hb dX9_read_11 rfl hk) ?_
  refine rz_All_c (i := 8) (fun k J hk hJ => rz_iconst_ok (pc := 12) hx hb dX9_read_12 rfl hk) ?_
  refine rz_All_c (i := 9) (fun k J hk hJ => rz_putf_ok (pc := 13) (own := RX9) (ref := "ThreadJudge$Reader") (C := RX9) (T := TX9) (N := 19) (ci := 11) (index := 190) (f := 16) (t := 0) (Ts := Cond.code yX9_read cX9_read 4 (some .boolean) :: rz_TB) hx hb hts rz_in11 tyX9 tyX9_ok nmX9 ho hK hA rfl (by decide) rfl (rz_UnI _) rfl (tyX9_ok 16 (by decide)) (hw (i := 3) (j := 12) rfl rfl) (fun _ z => z) dX9_read_13 hk) ?_
  refine rz_All_c (i := 10) (fun k J hk hJ => rz_iconst_ok (pc := 16) hx hb dX9_read_16 rfl hk) ?_
  refine rz_All_c (i := 11) (fun k J hk hJ => rz_istore_n_ok (pc := 17) hx hb dX9_read_17 rfl hk) ?_
  refine rz_All_c (i := 12) (fun k J hk hJ => rz_iload_n_ok (pc := 18) hx hb dX9_read_18 rfl hk) ?_
  refine rz_All_c (i := 13) (fun k J hk hJ => rz_aload_n_ok (pc := 19) hx hb dX9_read_19 rfl hk) ?_
  refine rz_All_c (i := 14) (fun k J hk hJ => rz_getf_ok (pc := 20) (own := RX9) (ref := "ThreadJudge$Reader") (C := RX9) (T := TX9) (N := 19) (ci := 11) (index := 129) (f := 14) (t := 0) (Ts := Cond.code yX9_read cX9_read 4 (some .boolean) :: rz_TB) hx hb hts rz_in11 ho hK rfl (by decide) rfl (fun _ => rfl) (hw (i := 3) (j := 13) rfl rfl) (fun _ z => z) dX9_read_20 hk) ?_
  refine rz_All_c (i := 15) (fun k J hk hJ => rz_icmpgt_ok (pc := 23) hx hb dX9_read_23 rfl hk (hJ 33)) ?_
  refine rz_All_c (i := 16) (fun k J hk hJ => rz_aload_n_ok (pc := 26) hx hb dX9_read_26 rfl hk) ?_
  refine rz_All_c (i := 17) (fun k J hk hJ => rz_getf_ok (pc := 27) (own := RX9) (ref := "ThreadJudge$Reader") (C := RX9) (T := TX9) (N := 19) (ci := 11) (index := 190) (f := 16) (t := 0) (Ts := Cond.code yX9_read cX9_read 4 (some .boolean) :: rz_TB) hx hb hts rz_in11 ho hK rfl (by decide) rfl (fun _ => rfl) (hw (i := 3) (j := 12) rfl rfl) (fun _ z => z) dX9_read_27 hk) ?_
  refine rz_All_c (i := 18) (fun k J hk hJ => rz_ifne_ok (pc := 30) hx hb dX9_read_30 rfl hk (hJ 27)) ?_
  refine rz_All_c (i := 19) (fun k J hk hJ => rz_aload_n_ok (pc := 33) hx hb dX9_read_33 rfl hk) ?_
  refine rz_All_c (i := 20) (fun k J hk hJ => rz_getf_ok (pc := 34) (own := RX9) (ref := "ThreadJudge$Reader") (C := RX9) (T := TX9) (N := 19) (ci := 11) (index := 28) (f := 11) (t := 2) (Ts := Cond.code yX9_read cX9_read 4 (some .boolean) :: rz_TB) hx hb hts rz_in11 ho hK rfl (by decide) rfl (fun _ => rfl) (hw (i := 3) (j := 14) rfl rfl) (fun _ z => z) dX9_read_34 hk) ?_
  refine rz_All_c (i := 21) (fun k J hk hJ => rz_aload_n_ok (pc := 37) hx hb dX9_read_37 rfl hk) ?_
  refine rz_All_c (i := 22) (fun k J hk hJ => rz_getf_ok (pc := 38) (own := RX9) (ref := "ThreadJudge$Reader") (C := RX9) (T := TX9) (N := 19) (ci := 11) (index := 187) (f := 15) (t := 0) (Ts := Cond.code yX9_read cX9_read 4 (some .boolean) :: rz_TB) hx hb hts rz_in11 ho hK rfl (by decide) rfl (fun _ => rfl) (hw (i := 3) (j := 11) rfl rfl) (fun _ z => z) dX9_read_38 hk) ?_
  refine rz_All_c (i := 23) (fun k J hk hJ => rz_iald_ok (pc := 41) hx hb hK dX9_read_41 hk) ?_
  refine rz_All_c (i := 24) (fun k J hk hJ => rz_ifne_ok (pc := 42) hx hb dX9_read_42 rfl hk (hJ 27)) ?_
  refine rz_All_c (i := 25) (fun k J hk hJ => rz_iconst_ok (pc := 45) hx hb dX9_read_45 rfl hk) ?_
  refine rz_All_c (i := 26) (fun k J hk hJ => rz_zret_ok (pc := 46) hC dX9_read_46) ?_
  refine rz_All_c (i := 27) (fun k J hk hJ => rz_aload_n_ok (pc := 47) hx hb dX9_read_47 rfl hk) ?_
  refine rz_All_c (i := 28) (fun k J hk hJ => rz_callV_ok (pc := 48) (own := RX9) (C := RX9) (T0 := TX9) (N0 := 19) hC rfl (rmX9_readOn l hG) (rz_cwV 0 hC rz_good (rz_mem (i := 9) (j := 12) rfl rfl) (rz_mem (i := 9) (j := 13) rfl rfl) (rz_mem (i := 9) (j := 14) rfl rfl) (rz_mem (i := 1) (j := 21) rfl rfl) (rz_mem (i := 9) (j := 15) rfl rfl) ⟨rfl, by decide, by decide, by decide +kernel⟩ rfl rfl ⟨by decide, by decide⟩) rfl dX9_read_48 hk) ?_
  refine rz_All_c (i := 29) (fun k J hk hJ => rz_ifne_ok (pc := 51) hx hb dX9_read_51 rfl hk (hJ 31)) ?_
  refine rz_All_c (i := 30) (fun k J hk hJ => rz_no_ok) ?_
  refine rz_All_c (i := 31) (fun k J hk hJ => rz_iinc_ok (pc := 57) hx hb dX9_read_57 (by decide) hk) ?_
  refine rz_All_c (i := 32) (fun k J hk hJ => rz_goto_ok (pc := 60) hx hb dX9_read_60 rfl (hJ 12)) ?_
  refine rz_All_c (i := 33) (fun k J hk hJ => rz_no_ok) ?_
  exact trivial
