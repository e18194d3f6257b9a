/-! Runs of load(). -/
theorem rk_X12_load_0_m (l : Launch) {G : rz_G} (hG : rz_Gd G) : Met l yX12_load (Cond.code yX12_load cX12_load 1 (some .int) :: rz_TB) rrX12_load (rz_Pre G [rz_r 215] (rs_32, 398, 0)) (rz_Qi G (rs_32, 398, 0).2 (rz_tst (rz_i 13) (rs_34, 398, 0))) 0 0 (fun q => rz_b G ≤ q) := rmX12_load_o l hG _ _ _ rfl rk_X12_load_0
noncomputable def roX12_load : rz_L → rz_M → rz_Z → Bool := (rz_ora [rz_r 215] (rs_32, 398, 0) (rz_i 13) (rs_34, 398, 0) rgX12_load_o)
theorem rmoX12_load (l : Launch) {G : rz_G} (hG : rz_Gd G) (vs : rz_L) (M : rz_M) (Z : rz_Z) (hn : vs.length = 1) (h : roX12_load vs M Z = true) : Met l yX12_load (Cond.code yX12_load cX12_load 1 (some .int) :: rz_TB) rrX12_load (rz_Pre G vs M) (rz_Qi G M.2 Z) 0 0 (fun q => rz_b G ≤ q) := (fun vs M Z hn h => rz_orb_i (rk_X12_load_0_m l hG) (fun vs M Z hn h => rmX12_load_o l hG vs M Z hn h) vs M Z hn h) vs M Z hn h
noncomputable def rcX2_init_o : List rz_B := [rz_aload 0, rz_obj, rz_aload 0, rz_cst 4, rz_cst 300, rz_mna 4 300, rz_putf (Nat.add (Nat.mul 256 4) 1) 7 rz_unR, rz_aload 0, rz_cst 6160, rz_newa 4 6160, rz_putf (Nat.add (Nat.mul 256 4) 1) 8 rz_unR, rz_aload 0, rz_cst 3, rz_cst 4000, rz_mna 3 4000, rz_putf (Nat.add (Nat.mul 256 4) 1) 10 rz_unR, rz_aload 0, rz_cst 4, rz_cst 480, rz_mna 4 480, rz_putf (Nat.add (Nat.mul 256 4) 1) 12 rz_unR, rz_aload 0, rz_cst 576000, rz_newa 2 576000, rz_putf (Nat.add (Nat.mul 256 4) 1) 13 rz_unR, rz_aload 0, rz_cst 153920, rz_newa 2 153920, rz_putf (Nat.add (Nat.mul 256 4) 1) 14 rz_unR, rz_aload 0, rz_cst 4800, rz_newa 2 4800, rz_putf (Nat.add (Nat.mul 256 4) 1) 15 rz_unR, rz_aload 0, rz_cst 40000, rz_newa 2 40000, rz_putf (Nat.add (Nat.mul 256 4) 1) 16 rz_unR, rz_aload 0, rz_cst 4001, rz_newa 2 4001, rz_putf (Nat.add (Nat.mul 256 4) 1) 17 rz_unR, rz_aload 0, rz_cst 1014, rz_newa 4 1014, rz_putf (Nat.add (Nat.mul 256 4) 1) 18 rz_unR, rz_aload 0, rz_cst 2408, rz_newa 2 2408, rz_putf (Nat.add (Nat.mul 256 4) 1) 19 rz_unR, rz_aload 0, rz_cst 16, rz_newa 2 16, rz_putf (Nat.add (Nat.mul 256 4) 1) 20 rz_unR, rz_aload 0, rz_cst 18, rz_newa 4 18, rz_putf (Nat.add (Nat.mul 256 4) 1) 21 rz_unR, rz_aload 0, rz_aload 1, rz_putf (Nat.add (Nat.mul 256 4) 1) 0 rz_unR, rz_aload 0, rz_getf (Nat.add (Nat.mul 256 4) 1) 8 rz_r, rz_cst 4294967295, rz_callSv 2 roJ7_fill_53178, rz_vret]
noncomputable def rgX2_init_o : rz_L → rz_M → rz_Z → Bool := rz_go rcX2_init_o 2 1000000
theorem rmX2_init_o (l : Launch) {G : rz_G} (hG : rz_Gd G) (vs : rz_L) (M : rz_M) (Z : rz_Z) (hn : vs.length = 2) (h : rgX2_init_o vs M Z = true) : Met l yX2_init (Cond.code yX2_init cX2_init 2 none :: rz_TB) rrX2_init (rz_Pre G vs M) (rz_Qv G M.2 Z) 24 803468 (fun q => rz_b G ≤ q) := by
  obtain ⟨D, tc, ad, b, xs, rfl⟩ := id hG
  refine rz_bodyM (pcs := rpX2_init) (cz := rzX2_init) (by decide) rfl rfl (by rw [hn]; decide) h ?_
  intro p e R s m args below meth c hC hmn
  obtain ⟨hx, hb, hml, hr, hlk, ho, hts, hKn, hRm⟩ := id hC
  obtain ⟨hK, hA, hSt⟩ := id hKn
  have hw : ∀ {i j : Nat} {ws : List Cond} {w : Cond}, rz_WW[i]? = some ws → ws[j]? = some w → w.before args s = true := fun h1 h2 => hts _ (List.mem_cons_of_mem _ (rz_mem h1 h2))
  refine rz_All_c (i := 0) (fun k J hk hJ => rz_aload_n_ok (pc := 0) hx hb dX2_init_0 rfl hk) ?_
  refine rz_All_c (i := 1) (fun k J hk hJ => rz_obj_ok (pc := 1) (own := RX2) hx hb hml ho (hw (i := 69) (j := 22) rfl rfl) (hw (i := 55) (j := 1) rfl rfl) (hw (i := 55) (j := 2) rfl rfl) (by rw [hRm]; decide) (by rw [hRm]; decide) dX2_init_1 hk) ?_
  refine rz_All_c (i := 2) (fun k J hk hJ => rz_aload_n_ok (pc := 4) hx hb dX2_init_4 rfl hk) ?_
  refine rz_All_c (i := 3) (fun k J hk hJ => rz_iconst_ok (pc := 5) hx hb dX2_init_5 rfl hk) ?_
  refine rz_All_c (i := 4) (fun k J hk hJ => rz_sipush_ok (pc := 6) hx hb dX2_init_6 (by decide) hk) ?_
  refine rz_All_c (i := 5) (fun k J hk hJ => rz_mna_ok (pc := 9) (nz0 := (0, 0)) (own := RX2) (index := 9) (mn := 4) (mk := 300) hx hb hK hA ho (hw (i := 69) (j := 23) rfl rfl) (over_moved (Vm.Alike.refl _) hSt.2.2.2.2.2.1) (hw (i := 57) (j := 7) rfl rfl) (by decide) (by decide) (by rw [hRm]; decide) dX2_init_9 (rz_wid (by decide) hk)) ?_
  refine rz_All_c (i := 6) (fun k J hk hJ => rz_putfF_ok (pc := 13) (own := RX2) (ref := "ThreadJudge$Flow") (C := RX2) (T := TX2) (N := 22) (ci := 4) (index := 11) (f := 7) (t := 2) (Ts := Cond.code yX2_init cX2_init 2 none :: rz_TB) hx hb hts rz_in4 tyX2 tyX2_ok nmX2 ho hK hA rfl (by decide) rfl (rz_UnR _ (Or.inr ⟨_, rfl⟩)) rfl (hmn.trans rfl) rfl (tyX2_ok 7 (by decide)) (hw (i := 70) (j := 0) rfl rfl) (fun _ z => z) dX2_init_13 hk) ?_
  refine rz_All_c (i := 7) (fun k J hk hJ => rz_aload_n_ok (pc := 16) hx hb dX2_init_16 rfl hk) ?_
  refine rz_All_c (i := 8) (fun k J hk hJ => rz_sipush_ok (pc := 17) hx hb dX2_init_17 (by decide) hk) ?_
  refine rz_All_c (i := 9) (fun k J hk hJ => rz_newa_int_ok (pc := 20) (nz0 := (5, 1204)) (mx := 6160) hx hb hK hA (hw (i := 57) (j := 7) rfl rfl) (by decide) (by rw [hRm]; decide) dX2_init_20 (rz_wid (by decide) hk)) ?_
  refine rz_All_c (i := 10) (fun k J hk hJ => rz_putfF_ok (pc := 22) (own := RX2) (ref := "ThreadJudge$Flow") (C := RX2) (T := TX2) (N := 22) (ci := 4) (index := 16) (f := 8) (t := 2) (Ts := Cond.code yX2_init cX2_init 2 none :: rz_TB) hx hb hts rz_in4 tyX2 tyX2_ok nmX2 ho hK hA rfl (by decide) rfl (rz_UnR _ (Or.inr ⟨_, rfl⟩)) rfl (hmn.trans rfl) rfl (tyX2_ok 8 (by decide)) (hw (i := 70) (j := 1) rfl rfl) (fun _ z => z) dX2_init_22 hk) ?_
  refine rz_All_c (i := 11) (fun k J hk hJ => rz_aload_n_ok (pc := 25) hx hb dX2_init_25 rfl hk) ?_
  refine rz_All_c (i := 12) (fun k J hk hJ => rz_iconst_ok (pc := 26) hx hb dX2_init_26 rfl hk) ?_
  refine rz_All_c (i := 13) (fun k J hk hJ => rz_sipush_ok (pc := 27) hx hb dX2_init_27 (by decide) hk) ?_
  refine rz_All_c (i := 14) (fun k J hk hJ => rz_mna_ok (pc := 30) (nz0 := (6, 7364)) (own := RX2) (index := 9) (mn := 3) (mk := 4000) hx hb hK hA ho (hw (i := 69) (j := 23) rfl rfl) (over_moved (Vm.Alike.refl _) hSt.2.2.2.2.2.1) (hw (i := 57) (j := 7) rfl rfl) (by decide) (by decide) (by rw [hRm]; decide) dX2_init_30 (rz_wid (by decide) hk)) ?_
  refine rz_All_c (i := 15) (fun k J hk hJ => rz_putfF_ok (pc := 34) (own := RX2) (ref := "ThreadJudge$Flow") (C := RX2) (T := TX2) (N := 22) (ci := 4) (index := 20) (f := 10) (t := 2) (Ts := Cond.code yX2_init cX2_init 2 none :: rz_TB) hx hb hts rz_in4 tyX2 tyX2_ok nmX2 ho hK hA rfl (by decide) rfl (rz_UnR _ (Or.inr ⟨_, rfl⟩)) rfl (hmn.trans rfl) rfl (tyX2_ok 10 (by decide)) (hw (i := 70) (j := 2) rfl rfl) (fun _ z => z) dX2_init_34 hk) ?_
  refine rz_All_c (i := 16) (fun k J hk hJ => rz_aload_n_ok (pc := 37) hx hb dX2_init_37 rfl hk) ?_
  refine rz_All_c (i := 17) (fun k J hk hJ => rz_iconst_ok (pc := 38) hx hb dX2_init_38 rfl hk) ?_
  refine rz_All_c (i := 18) (fun k J hk hJ => rz_sipush_ok (pc := 39) hx hb dX2_init_39 (by decide) hk) ?_
  refine rz_All_c (i := 19) (fun k J hk hJ => rz_mna_ok (pc := 42) (nz0 := (10, 19367)) (own := RX2) (index := 9) (mn := 4) (mk := 480) hx hb hK hA ho (hw (i := 69) (j := 23) rfl rfl) (over_moved (Vm.Alike.refl _) hSt.2.2.2.2.2.1) (hw (i := 57) (j := 7) rfl rfl) (by decide) (by decide) (by rw [hRm]; decide) dX2_init_42 (rz_wid (by decide) hk)) ?_
  refine rz_All_c (i := 20) (fun k J hk hJ => rz_putfF_ok (pc := 46) (own := RX2) (ref := "ThreadJudge$Flow") (C := RX2) (T := TX2) (N := 22) (ci := 4) (index := 23) (f := 12) (t := 2) (Ts := Cond.code yX2_init cX2_init 2 none :: rz_TB) hx hb hts rz_in4 tyX2 tyX2_ok nmX2 ho hK hA rfl (by decide) rfl (rz_UnR _ (Or.inr ⟨_, rfl⟩)) rfl (hmn.trans rfl) rfl (tyX2_ok 12 (by decide)) (hw (i := 70) (j := 3) rfl rfl) (fun _ z => z) dX2_init_46 hk) ?_
  refine rz_All_c (i := 21) (fun k J hk hJ => rz_aload_n_ok (pc := 49) hx hb dX2_init_49 rfl hk) ?_
  refine rz_All_c (i := 22) (fun k J hk hJ => rz_ldc_ok (pc := 50) hx hb (own := RX2) ho (hw (i := 70) (j := 4) rfl rfl) dX2_init_50 hk) ?_
  refine rz_All_c (i := 23) (fun k J hk hJ => rz_newa_long_ok (pc := 52) (nz0 := (15, 21291)) (mx := 576000) hx hb hK hA (hw (i := 57) (j := 10) rfl rfl) (by decide) (by rw [hRm]; decide) dX2_init_52 (rz_wid (by decide) hk)) ?_
  refine rz_All_c (i := 24) (fun k J hk hJ => rz_putfF_ok (pc := 54) (own := RX2) (ref := "ThreadJudge$Flow") (C := RX2) (T := TX2) (N := 22) (ci := 4) (index := 27) (f := 13) (t := 2) (Ts := Cond.code yX2_init cX2_init 2 none :: rz_TB) hx hb hts rz_in4 tyX2 tyX2_ok nmX2 ho hK hA rfl (by decide) rfl (rz_UnR _ (Or.inr ⟨_, rfl⟩)) rfl (hmn.trans rfl) rfl (tyX2_ok 13 (by decide)) (hw (i := 70) (j := 5) rfl rfl) (fun _ z => z) dX2_init_54 hk) ?_
  refine rz_All_c (i := 25) (fun k J hk hJ => rz_aload_n_ok (pc := 57) hx hb dX2_init_57 rfl hk) ?_
  refine rz_All_c (i := 26) (fun k J hk hJ => rz_ldc_ok (pc := 58) hx hb (own := RX2) ho (hw (i := 70) (j := 6) rfl rfl) dX2_init_58 hk) ?_
  refine rz_All_c (i := 27) (fun k J hk hJ => rz_newa_long_ok (pc := 60) (nz0 := (16, 597291)) (mx := 153920) hx hb hK hA (hw (i := 57) (j := 10) rfl rfl) (by decide) (by rw [hRm]; decide) dX2_init_60 (rz_wid (by decide) hk)) ?_
  refine rz_All_c (i := 28) (fun k J hk hJ => rz_putfF_ok (pc := 62) (own := RX2) (ref := "ThreadJudge$Flow") (C := RX2) (T := TX2) (N := 22) (ci := 4) (index := 32) (f := 14) (t := 2) (Ts := Cond.code yX2_init cX2_init 2 none :: rz_TB) hx hb hts rz_in4 tyX2 tyX2_ok nmX2 ho hK hA rfl (by decide) rfl (rz_UnR _ (Or.inr ⟨_, rfl⟩)) rfl (hmn.trans rfl) rfl (tyX2_ok 14 (by decide)) (hw (i := 70) (j := 7) rfl rfl) (fun _ z => z) dX2_init_62 hk) ?_
  refine rz_All_c (i := 29) (fun k J hk hJ => rz_aload_n_ok (pc := 65) hx hb dX2_init_65 rfl hk) ?_
  refine rz_All_c (i := 30) (fun k J hk hJ => rz_sipush_ok (pc := 66) hx hb dX2_init_66 (by decide) hk) ?_
  refine rz_All_c (i := 31) (fun k J hk hJ => rz_newa_long_ok (pc := 69) (nz0 := (17, 751211)) (mx := 4800) hx hb hK hA (hw (i := 57) (j := 10) rfl rfl) (by decide) (by rw [hRm]; decide) dX2_init_69 (rz_wid (by decide) hk)) ?_
  refine rz_All_c (i := 32) (fun k J hk hJ => rz_putfF_ok (pc := 71) (own := RX2) (ref := "ThreadJudge$Flow") (C := RX2) (T := TX2) (N := 22) (ci := 4) (index := 35) (f := 15) (t := 2) (Ts := Cond.code yX2_init cX2_init 2 none :: rz_TB) hx hb hts rz_in4 tyX2 tyX2_ok nmX2 ho hK hA rfl (by decide) rfl (rz_UnR _ (Or.inr ⟨_, rfl⟩)) rfl (hmn.trans rfl) rfl (tyX2_ok 15 (by decide)) (hw (i := 70) (j := 8) rfl rfl) (fun _ z => z) dX2_init_71 hk) ?_
  refine rz_All_c (i := 33) (fun k J hk hJ => rz_aload_n_ok (pc := 74) hx hb dX2_init_74 rfl hk) ?_
  refine rz_All_c (i := 34) (fun k J hk hJ => rz_ldc_ok (pc := 75) hx hb (own := RX2) ho (hw (i := 70) (j := 9) rfl rfl) dX2_init_75 hk) ?_
  refine rz_All_c (i := 35) (fun k J hk hJ => rz_newa_long_ok (pc := 77) (nz0 := (18, 756011)) (mx := 40000) hx hb hK hA (hw (i := 57) (j := 10) rfl rfl) (by decide) (by rw [hRm]; decide) dX2_init_77 (rz_wid (by decide) hk)) ?_
  refine rz_All_c (i := 36) (fun k J hk hJ => rz_putfF_ok (pc := 79) (own := RX2) (ref := "ThreadJudge$Flow") (C := RX2) (T := TX2) (N := 22) (ci := 4) (index := 39) (f := 16) (t := 2) (Ts := Cond.code yX2_init cX2_init 2 none :: rz_TB) hx hb hts rz_in4 tyX2 tyX2_ok nmX2 ho hK hA rfl (by decide) rfl (rz_UnR _ (Or.inr ⟨_, rfl⟩)) rfl (hmn.trans rfl) rfl (tyX2_ok 16 (by decide)) (hw (i := 70) (j := 10) rfl rfl) (fun _ z => z) dX2_init_79 hk) ?_
  refine rz_All_c (i := 37) (fun k J hk hJ => rz_aload_n_ok (pc := 82) hx hb dX2_init_82 rfl hk) ?_
  refine rz_All_c (i := 38) (fun k J hk hJ => rz_sipush_ok (pc := 83) hx hb dX2_init_83 (by decide) hk) ?_
  refine rz_All_c (i := 39) (fun k J hk hJ => rz_newa_long_ok (pc := 86) (nz0 := (19, 796011)) (mx := 4001) hx hb hK hA (hw (i := 57) (j := 10) rfl rfl) (by decide) (by rw [hRm]; decide) dX2_init_86 (rz_wid (by decide) hk)) ?_
  refine rz_All_c (i := 40) (fun k J hk hJ => rz_putfF_ok (pc := 88) (own := RX2) (ref := "ThreadJudge$Flow") (C := RX2) (T := TX2) (N := 22) (ci := 4) (index := 42) (f := 17) (t := 2) (Ts := Cond.code yX2_init cX2_init 2 none :: rz_TB) hx hb hts rz_in4 tyX2 tyX2_ok nmX2 ho hK hA rfl (by decide) rfl (rz_UnR _ (Or.inr ⟨_, rfl⟩)) rfl (hmn.trans rfl) rfl (tyX2_ok 17 (by decide)) (hw (i := 70) (j := 11) rfl rfl) (fun _ z => z) dX2_init_88 hk) ?_
  refine rz_All_c (i := 41) (fun k J hk hJ => rz_aload_n_ok (pc := 91) hx hb dX2_init_91 rfl hk) ?_
  refine rz_All_c (i := 42) (fun k J hk hJ => rz_sipush_ok (pc := 92) hx hb dX2_init_92 (by decide) hk) ?_
  refine rz_All_c (i := 43) (fun k J hk hJ => rz_newa_int_ok (pc := 95) (nz0 := (20, 800012)) (mx := 1014) hx hb hK hA (hw (i := 57) (j := 7) rfl rfl) (by decide) (by rw [hRm]; decide) dX2_init_95 (rz_wid (by decide) hk)) ?_
  refine rz_All_c (i := 44) (fun k J hk hJ => rz_putfF_ok (pc := 97) (own := RX2) (ref := "ThreadJudge$Flow") (C := RX2) (T := TX2) (N := 22) (ci := 4) (index := 45) (f := 18) (t := 2) (Ts := Cond.code yX2_init cX2_init 2 none :: rz_TB) hx hb hts rz_in4 tyX2 tyX2_ok nmX2 ho hK hA rfl (by decide) rfl (rz_UnR _ (Or.inr ⟨_, rfl⟩)) rfl (hmn.trans rfl) rfl (tyX2_ok 18 (by decide)) (hw (i := 70) (j := 12) rfl rfl) (fun _ z => z) dX2_init_97 hk) ?_
  refine rz_All_c (i := 45) (fun k J hk hJ => rz_aload_n_ok (pc := 100) hx hb dX2_init_100 rfl hk) ?_
  refine rz_All_c (i := 46) (fun k J hk hJ => rz_sipush_ok (pc := 101) hx hb dX2_init_101 (by decide) hk) ?_
  refine rz_All_c (i := 47) (fun k J hk hJ => rz_newa_long_ok (pc := 104) (nz0 := (21, 801026)) (mx := 2408) hx hb hK hA (hw (i := 57) (j := 10) rfl rfl) (by decide) (by rw [hRm]; decide) dX2_init_104 (rz_wid (by decide) hk)) ?_
  refine rz_All_c (i := 48) (fun k J hk hJ => rz_putfF_ok (pc := 106) (own := RX2) (ref := "ThreadJudge$Flow") (C := RX2) (T := TX2) (N := 22) (ci := 4) (index := 48) (f := 19) (t := 2) (Ts := Cond.code yX2_init cX2_init 2 none :: rz_TB) hx hb hts rz_in4 tyX2 tyX2_ok nmX2 ho hK hA rfl (by decide) rfl (rz_UnR _ (Or.inr ⟨_, rfl⟩)) rfl (hmn.trans rfl) rfl (tyX2_ok 19 (by decide)) (hw (i := 70) (j := 13) rfl rfl) (fun _ z => z) dX2_init_106 hk) ?_
  refine rz_All_c (i := 49) (fun k J hk hJ => rz_aload_n_ok (pc := 109) hx hb dX2_init_109 rfl hk) ?_
  refine rz_All_c (i := 50) (fun k J hk hJ => rz_bipush_ok (pc := 110) hx hb dX2_init_110 (by decide) hk) ?_
  refine rz_All_c (i := 51) (fun k J hk hJ => rz_newa_long_ok (pc := 112) (nz0 := (22, 803434)) (mx := 16) hx hb hK hA (hw (i := 57) (j := 10) rfl rfl) (by decide) (by rw [hRm]; decide) dX2_init_112 (rz_wid (by decide) hk)) ?_
  refine rz_All_c (i := 52) (fun k J hk hJ => rz_putfF_ok (pc := 114) (own := RX2) (ref := "ThreadJudge$Flow") (C := RX2) (T := TX2) (N := 22) (ci := 4) (index := 51) (f := 20) (t := 2) (Ts := Cond.code yX2_init cX2_init 2 none :: rz_TB) hx hb hts rz_in4 tyX2 tyX2_ok nmX2 ho hK hA rfl (by decide) rfl (rz_UnR _ (Or.inr ⟨_, rfl⟩)) rfl (hmn.trans rfl) rfl (tyX2_ok 20 (by decide)) (hw (i := 70) (j := 14) rfl rfl) (fun _ z => z) dX2_init_114 hk) ?_
  refine rz_All_c (i := 53) (fun k J hk hJ => rz_aload_n_ok (pc := 117) hx hb dX2_init_117 rfl hk) ?_
  refine rz_All_c (i := 54) (fun k J hk hJ => rz_bipush_ok (pc := 118) hx hb dX2_init_118 (by decide) hk) ?_
  refine rz_All_c (i := 55) (fun k J hk hJ => rz_newa_int_ok (pc := 120) (nz0 := (23, 803450)) (mx := 18) hx hb hK hA (hw (i := 57) (j := 7) rfl rfl) (by decide) (by rw [hRm]; decide) dX2_init_120 (rz_wid (by decide) hk)) ?_
  refine rz_All_c (i := 56) (fun k J hk hJ => rz_putfF_ok (pc := 122) (own := RX2) (ref := "ThreadJudge$Flow") (C := RX2) (T := TX2) (N := 22) (ci := 4) (index := 54) (f := 21) (t := 2) (Ts := Cond.code yX2_init cX2_init 2 none :: rz_TB) hx hb hts rz_in4 tyX2 tyX2_ok nmX2 ho hK hA rfl (by decide) rfl (rz_UnR _ (Or.inr ⟨_, rfl⟩)) rfl (hmn.trans rfl) rfl (tyX2_ok 21 (by decide)) (hw (i := 70) (j := 15) rfl rfl) (fun _ z => z) dX2_init_122 hk) ?_
  refine rz_All_c (i := 57) (fun k J hk hJ => rz_aload_n_ok (pc := 125) hx hb dX2_init_125 rfl hk) ?_
  refine rz_All_c (i := 58) (fun k J hk hJ => rz_aload_n_ok (pc := 126) hx hb dX2_init_126 rfl hk) ?_
  refine rz_All_c (i := 59) (fun k J hk hJ => rz_putfF_ok (pc := 127) (own := RX2) (ref := "ThreadJudge$Flow") (C := RX2) (T := TX2) (N := 22) (ci := 4) (index := 57) (f := 0) (t := 2) (Ts := Cond.code yX2_init cX2_init 2 none :: rz_TB) hx hb hts rz_in4 tyX2 tyX2_ok nmX2 ho hK hA rfl (by decide) rfl (rz_UnR _ (Or.inl ⟨_, rfl⟩)) rfl (hmn.trans rfl) rfl (tyX2_ok 0 (by decide)) (hw (i := 70) (j := 16) rfl rfl) (fun _ z => z) dX2_init_127 hk) ?_
  refine rz_All_c (i := 60) (fun k J hk hJ => rz_aload_n_ok (pc := 130) hx hb dX2_init_130 rfl hk) ?_
  refine rz_All_c (i := 61) (fun k J hk hJ => rz_getf_ok (pc := 131) (own := RX2) (ref := "ThreadJudge$Flow") (C := RX2) (T := TX2) (N := 22) (ci := 4) (index := 16) (f := 8) (t := 2) (Ts := Cond.code yX2_init cX2_init 2 none :: rz_TB) hx hb hts rz_in4 ho hK rfl (by decide) rfl (fun _ => rfl) (hw (i := 70) (j := 1) rfl rfl) (fun _ z => z) dX2_init_131 hk) ?_
  refine rz_All_c (i := 62) (fun k J hk hJ => rz_iconst_ok (pc := 134) hx hb dX2_init_134 rfl hk) ?_
  refine rz_All_c (i := 63) (fun k J hk hJ => rz_callSv_ok (pc := 135) (nz0 := (24, 803468)) (nz1 := (24, 803468)) (own := RX2) hC rfl (rmoJ7_fill_53178 l hG) (rz_cwX 2 hC rz_good (rz_mem (i := 70) (j := 17) rfl rfl) (rz_mem (i := 2) (j := 5) rfl rfl) (rz_mem (i := 2) (j := 6) rfl rfl) (rz_mem (i := 2) (j := 7) rfl rfl) ⟨by decide, by decide, by decide +kernel⟩ rfl rfl ⟨by decide, by decide⟩) dX2_init_135 hk (by decide) (by rw [hRm]; decide)) ?_
  refine rz_All_c (i := 64) (fun k J hk hJ => rz_vret_ok (pc := 138) (nz0 := (24, 803468)) hC dX2_init_138 (by decide)) ?_
  exact trivial
theorem rmJ1_inflate_03870_c (l : Launch) {G : rz_G} (hG : rz_Gd G) (vs : rz_L) (M : rz_M) (Z : rz_Z) (hn : vs.length = 5) (hck : rz_ck vs true = true) (h : rz_Rn rcJ1_inflate_03870 Z 0 (rz_pad 6 vs) [] M) : Met l yJ1_inflate_03870 (Cond.code yJ1_inflate_03870 cJ1_inflate_03870 6 none :: rz_TB) rrJ1_inflate_03870 (rz_Pre G vs M) (rz_Qv G M.2 Z) 0 0 (fun q => rz_b G ≤ q) := by
  obtain ⟨D, tc, ad, b, xs, rfl⟩ := id hG
  refine rz_bodyCM (pcs := rpJ1_inflate_03870) (cz := rzJ1_inflate_03870) (by decide) rfl rfl (by rw [hn]; decide) hck h ?_
  intro p e R s m args below meth c hC hmn
  obtain ⟨hx, hb, hml, hr, hlk, ho, hts, hKn, hRm⟩ := id hC
  obtain ⟨hK, hA, hSt⟩ := id hKn
  have hw : ∀ {i j : Nat} {ws : List Cond} {w : Cond}, rz_WW[i]? = some ws → ws[j]? = some w → w.before args s = true := fun h1 h2 => hts _ (List.mem_cons_of_mem _ (rz_mem h1 h2))
  refine rz_All_c (i := 0) (fun k J hk hJ => rz_iconst_ok (pc := 0) hx hb dJ1_inflate_03870_0 rfl hk) ?_
  refine rz_All_c (i := 1) (fun k J hk hJ => rz_istore_ok (pc := 1) hx hb dJ1_inflate_03870_1 hk) ?_
  refine rz_All_c (i := 2) (fun k J hk hJ => rz_iload_ok (pc := 3) hx hb dJ1_inflate_03870_3 hk) ?_
  refine rz_All_c (i := 3) (fun k J hk hJ => rz_iload_ok (pc := 5) hx hb dJ1_inflate_03870_5 hk) ?_
  refine rz_All_c (i := 4) (fun k J hk hJ => rz_icmpge_ok (pc := 7) hx hb dJ1_inflate_03870_7 rfl hk (hJ 18)) ?_
  refine rz_All_c (i := 5) (fun k J hk hJ => rz_aload_n_ok (pc := 10) hx hb dJ1_inflate_03870_10 rfl hk) ?_
  refine rz_All_c (i := 6) (fun k J hk hJ => rz_iload_n_ok (pc := 11) hx hb dJ1_inflate_03870_11 rfl hk) ?_
  refine rz_All_c (i := 7) (fun k J hk hJ => rz_iinc_ok (pc := 12) hx hb dJ1_inflate_03870_12 (by decide) hk) ?_
  refine rz_All_c (i := 8) (fun k J hk hJ => rz_aload_n_ok (pc := 15) hx hb dJ1_inflate_03870_15 rfl hk) ?_
  refine rz_All_c (i := 9) (fun k J hk hJ => rz_iload_n_ok (pc := 16) hx hb dJ1_inflate_03870_16 rfl hk) ?_
  refine rz_All_c (i := 10) (fun k J hk hJ => rz_iinc_ok (pc := 17) hx hb dJ1_inflate_03870_17 (by decide) hk) ?_
  refine rz_All_c (i := 11) (fun k J hk hJ => rz_bald_ok (pc := 20) hx hb hK dJ1_inflate_03870_20 hk) ?_
  refine rz_All_c (i := 12) (fun k J hk hJ => rz_sipush_ok (pc := 21) hx hb dJ1_inflate_03870_21 (by decide) hk) ?_
  refine rz_All_c (i := 13) (fun k J hk hJ => rz_iand_ok (pc := 24) hx hb dJ1_inflate_03870_24 hk) ?_
  refine rz_All_c (i := 14) (fun k J hk hJ => rz_i2c_ok (pc := 25) hx hb dJ1_inflate_03870_25 hk) ?_
  refine rz_All_c (i := 15) (fun k J hk hJ => rz_cast_ok (pc := 26) hx hb hK hA dJ1_inflate_03870_26 hk) ?_
  refine rz_All_c (i := 16) (fun k J hk hJ => rz_iinc_ok (pc := 27) hx hb dJ1_inflate_03870_27 (by decide) hk) ?_
  refine rz_All_c (i := 17) (fun k J hk hJ => rz_goto_ok (pc := 30) hx hb dJ1_inflate_03870_30 rfl (hJ 2)) ?_
  refine rz_All_c (i := 18) (fun k J hk hJ => rz_vret_ok (pc := 33) hC dJ1_inflate_03870_33) ?_
  exact trivial
