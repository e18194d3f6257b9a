/-! Runs of load(). -/
theorem rk_X12_readAll_0_m (l : Launch) {G : rz_G} (hG : rz_Gd G) : Met l yX12_readAll (Cond.code yX12_readAll cX12_readAll 2 (some .boolean) :: rz_TB) rrX12_readAll (rz_Pre G [rz_r 215] (rs_32, 398, 0)) (rz_Qi G (rs_32, 398, 0).2 (rz_tst (rz_i 1) (rs_33, 398, 0))) 0 0 (fun q => rz_b G ≤ q) := rmX12_readAll_c l hG _ _ _ rfl rfl (rz_Rn_cut rk_X12_readAll_0_s0 (rz_Rn_cut rk_X12_readAll_0_s1 (rz_Rn_cut rk_X12_readAll_0_s2 (rz_Rn_cut rk_X12_readAll_0_s3 (rz_Rn_cut rk_X12_readAll_0_s4 (rz_Rn_cut rk_X12_readAll_0_s5 (rz_Rn_cut rk_X12_readAll_0_s6 (rz_Rn_cut rk_X12_readAll_0_s7 (rz_Rn_last rk_X12_readAll_0_e)))))))))
noncomputable def roX12_readAll : rz_L → rz_M → rz_Z → Bool := (rz_ora [rz_r 215] (rs_32, 398, 0) (rz_i 1) (rs_33, 398, 0) rgX12_readAll_o)
theorem rmoX12_readAll (l : Launch) {G : rz_G} (hG : rz_Gd G) (vs : rz_L) (M : rz_M) (Z : rz_Z) (hn : vs.length = 1) (h : roX12_readAll vs M Z = true) : Met l yX12_readAll (Cond.code yX12_readAll cX12_readAll 2 (some .boolean) :: rz_TB) rrX12_readAll (rz_Pre G vs M) (rz_Qi G M.2 Z) 0 0 (fun q => rz_b G ≤ q) := (fun vs M Z hn h => rz_orb_i (rk_X12_readAll_0_m l hG) (fun vs M Z hn h => rmX12_readAll_o l hG vs M Z hn h) vs M Z hn h) vs M Z hn h
noncomputable def rcX12_load_o : List rz_B := [rz_aload 0, rz_cst 0, rz_putf (Nat.add (Nat.mul 256 14) 1) 99 rz_unZ, rz_aload 0, rz_cst 0, rz_putf (Nat.add (Nat.mul 256 14) 1) 103 rz_unZ, rz_aload 0, rz_cst 0, rz_putf (Nat.add (Nat.mul 256 14) 1) 189 rz_unZ, rz_aload 0, rz_cst 4294967295, rz_putf (Nat.add (Nat.mul 256 14) 1) 173 rz_unI, rz_aload 0, rz_callV 0 (Nat.add (Nat.mul 256 14) 1) roX12_readAll, rz_ifeq 19, rz_aload 0, rz_callV 0 (Nat.add (Nat.mul 256 14) 1) roX12_link, rz_ifeq 19, rz_no, rz_aload 0, rz_getf (Nat.add (Nat.mul 256 14) 1) 10 rz_i, rz_iret]
noncomputable def rgX12_load_o : rz_L → rz_M → rz_Z → Bool := rz_go rcX12_load_o 1 1000000
theorem rmX12_load_o (l : Launch) {G : rz_G} (hG : rz_Gd G) (vs : rz_L) (M : rz_M) (Z : rz_Z) (hn : vs.length = 1) (h : rgX12_load_o vs M Z = true) : Met l yX12_load (Cond.code yX12_load cX12_load 1 (some .int) :: rz_TB) rrX12_load (rz_Pre G vs M) (rz_Qi G M.2 Z) 0 0 (fun q => rz_b G ≤ q) := by
  obtain ⟨D, tc, ad, b, xs, rfl⟩ := id hG
  refine rz_body (pcs := rpX12_load) (by decide) rfl (by rw [hn]; decide) h ?_
  intro p e R s m args below meth c hC
  obtain ⟨hx, hb, hml, hr, hlk, ho, hts, hKn, hRm⟩ := id hC
  obtain ⟨hK, hA, hSt⟩ := id hKn
  have hw : ∀ {i j : Nat} {ws : List Cond} {w : Cond}, rz_WW[i]? = some ws → ws[j]? = some w → w.before args s = true := fun h1 h2 => hts _ (List.mem_cons_of_mem _ (rz_mem h1 h2))
  refine rz_All_c (i := 0) (fun k J hk hJ => rz_aload_n_ok (pc := 0) hx hb dX12_load_0 rfl hk) ?_
  refine rz_All_c (i := 1) (fun k J hk hJ => rz_iconst_ok (pc := 1) hx hb dX12_load_1 rfl hk) ?_
  refine rz_All_c (i := 2) (fun k J hk hJ => rz_putf_ok (pc := 2) (own := RX12) (ref := "ThreadJudgeModel") (C := RX12) (T := TX12) (N := 257) (ci := 14) (index := 1001) (f := 99) (t := 0) (Ts := Cond.code yX12_load cX12_load 1 (some .int) :: rz_TB) hx hb hts rz_in14 tyX12 tyX12_ok nmX12 ho hK hA rfl (by decide) rfl (rz_UnZ _) rfl (tyX12_ok 99 (by decide)) (hw (i := 32) (j := 0) rfl rfl) (fun _ z => z) dX12_load_2 hk) ?_
  refine rz_All_c (i := 3) (fun k J hk hJ => rz_aload_n_ok (pc := 5) hx hb dX12_load_5 rfl hk) ?_
  refine rz_All_c (i := 4) (fun k J hk hJ => rz_iconst_ok (pc := 6) hx hb dX12_load_6 rfl hk) ?_
  refine rz_All_c (i := 5) (fun k J hk hJ => rz_putf_ok (pc := 7) (own := RX12) (ref := "ThreadJudgeModel") (C := RX12) (T := TX12) (N := 257) (ci := 14) (index := 1004) (f := 103) (t := 0) (Ts := Cond.code yX12_load cX12_load 1 (some .int) :: rz_TB) hx hb hts rz_in14 tyX12 tyX12_ok nmX12 ho hK hA rfl (by decide) rfl (rz_UnZ _) rfl (tyX12_ok 103 (by decide)) (hw (i := 32) (j := 1) rfl rfl) (fun _ z => z) dX12_load_7 hk) ?_
  refine rz_All_c (i := 6) (fun k J hk hJ => rz_aload_n_ok (pc := 10) hx hb dX12_load_10 rfl hk) ?_
  refine rz_All_c (i := 7) (fun k J hk hJ => rz_iconst_ok (pc := 11) hx hb dX12_load_11 rfl hk) ?_
  refine rz_All_c (i := 8) (fun k J hk hJ => rz_putf_ok (pc := 12) (own := RX12) (ref := "ThreadJudgeModel") (C := RX12) (T := TX12) (N := 257) (ci := 14) (index := 1007) (f := 189) (t := 0) (Ts := Cond.code yX12_load cX12_load 1 (some .int) :: rz_TB) hx hb hts rz_in14 tyX12 tyX12_ok nmX12 ho hK hA rfl (by decide) rfl (rz_UnZ _) rfl (tyX12_ok 189 (by decide)) (hw (i := 32) (j := 2) rfl rfl) (fun _ z => z) dX12_load_12 hk) ?_
  refine rz_All_c (i := 9) (fun k J hk hJ => rz_aload_n_ok (pc := 15) hx hb dX12_load_15 rfl hk) ?_
  refine rz_All_c (i := 10) (fun k J hk hJ => rz_iconst_ok (pc := 16) hx hb dX12_load_16 rfl hk) ?_
  refine rz_All_c (i := 11) (fun k J hk hJ => rz_putf_ok (pc := 17) (own := RX12) (ref := "ThreadJudgeModel") (C := RX12) (T := TX12) (N := 257) (ci := 14) (index := 387) (f := 173) (t := 0) (Ts := Cond.code yX12_load cX12_load 1 (some .int) :: rz_TB) hx hb hts rz_in14 tyX12 tyX12_ok nmX12 ho hK hA rfl (by decide) rfl (rz_UnI _) rfl (tyX12_ok 173 (by decide)) (hw (i := 32) (j := 3) rfl rfl) (fun _ z => z) dX12_load_17 hk) ?_
  refine rz_All_c (i := 12) (fun k J hk hJ => rz_aload_n_ok (pc := 20) hx hb dX12_load_20 rfl hk) ?_
  refine rz_All_c (i := 13) (fun k J hk hJ => rz_callV_ok (pc := 21) (own := RX12) (C := RX12) (T0 := TX12) (N0 := 257) hC rfl (rmoX12_readAll l hG) (rz_cwV 0 hC rz_good (rz_mem (i := 32) (j := 5) rfl rfl) (rz_mem (i := 32) (j := 6) rfl rfl) (rz_mem (i := 32) (j := 7) rfl rfl) (rz_mem (i := 32) (j := 8) rfl rfl) (rz_mem (i := 32) (j := 9) rfl rfl) ⟨rfl, by decide, by decide, by decide +kernel⟩ rfl rfl ⟨by decide, by decide⟩) rfl dX12_load_21 hk) ?_
  refine rz_All_c (i := 14) (fun k J hk hJ => rz_ifeq_ok (pc := 24) hx hb dX12_load_24 rfl hk (hJ 19)) ?_
  refine rz_All_c (i := 15) (fun k J hk hJ => rz_aload_n_ok (pc := 27) hx hb dX12_load_27 rfl hk) ?_
  refine rz_All_c (i := 16) (fun k J hk hJ => rz_callV_ok (pc := 28) (own := RX12) (C := RX12) (T0 := TX12) (N0 := 257) hC rfl (rmoX12_link l hG) (rz_cwV 0 hC rz_good (rz_mem (i := 42) (j := 9) rfl rfl) (rz_mem (i := 42) (j := 10) rfl rfl) (rz_mem (i := 42) (j := 11) rfl rfl) (rz_mem (i := 32) (j := 8) rfl rfl) (rz_mem (i := 42) (j := 12) rfl rfl) ⟨rfl, by decide, by decide, by decide +kernel⟩ rfl rfl ⟨by decide, by decide⟩) rfl dX12_load_28 hk) ?_
  refine rz_All_c (i := 17) (fun k J hk hJ => rz_ifeq_ok (pc := 31) hx hb dX12_load_31 rfl hk (hJ 19)) ?_
  refine rz_All_c (i := 18) (fun k J hk hJ => rz_no_ok) ?_
  refine rz_All_c (i := 19) (fun k J hk hJ => rz_aload_n_ok (pc := 48) hx hb dX12_load_48 rfl hk) ?_
  refine rz_All_c (i := 20) (fun k J hk hJ => rz_getf_ok (pc := 49) (own := RX12) (ref := "ThreadJudgeModel") (C := RX12) (T := TX12) (N := 257) (ci := 14) (index := 635) (f := 10) (t := 0) (Ts := Cond.code yX12_load cX12_load 1 (some .int) :: rz_TB) hx hb hts rz_in14 ho hK rfl (by decide) rfl (fun _ => rfl) (hw (i := 32) (j := 4) rfl rfl) (fun _ z => z) dX12_load_49 hk) ?_
  refine rz_All_c (i := 21) (fun k J hk hJ => rz_iret_ok (pc := 52) hC dX12_load_52) ?_
  exact trivial
