/-! Runs of load(). -/
theorem rmX4_chooseAll_c (l : Launch) {G : rz_G} (hG : rz_Gd G) (vs : rz_L) (M : rz_M) (Z : rz_Z) (hn : vs.length = 1) (hck : rz_ck vs true = true) (h : rz_Rn rcX4_chooseAll Z 0 (rz_pad 3 vs) [] M) : Met l yX4_chooseAll (Cond.code yX4_chooseAll cX4_chooseAll 3 none :: rz_TB) rrX4_chooseAll (rz_Pre G vs M) (rz_Qv G M.2 Z) 0 0 (fun q => rz_b G ≤ q) := by
  obtain ⟨D, tc, ad, b, xs, rfl⟩ := id hG
  refine rz_bodyC (pcs := rpX4_chooseAll) (by decide) rfl (by rw [hn]; decide) hck h ?_
  intro p e R s m args below meth c hC
  obtain ⟨hx, hb, hml, hr, hlk, ho, hts, hKn, hRm⟩ := id hC
  obtain ⟨hK, hA, hSt⟩ := id hKn
  have hw : ∀ {i j : Nat} {ws : List Cond} {w : Cond}, rz_WW[i]? = some ws → ws[j]? = some w → w.before args s = true := fun h1 h2 => hts _ (List.mem_cons_of_mem _ (rz_mem h1 h2))
  refine rz_All_c (i := 0) (fun k J hk hJ => rz_iconst_ok (pc := 0) hx hb dX4_chooseAll_0 rfl hk) ?_
  refine rz_All_c (i := 1) (fun k J hk hJ => rz_istore_n_ok (pc := 1) hx hb dX4_chooseAll_1 rfl hk) ?_
  refine rz_All_c (i := 2) (fun k J hk hJ => rz_iload_n_ok (pc := 2) hx hb dX4_chooseAll_2 rfl hk) ?_
  refine rz_All_c (i := 3) (fun k J hk hJ => rz_aload_n_ok (pc := 3) hx hb dX4_chooseAll_3 rfl hk) ?_
  refine rz_All_c (i := 4) (fun k J hk hJ => rz_getf_ok (pc := 4) (own := RX4) (ref := "ThreadJudge$Linker") (C := RX4) (T := TX4) (N := 4) (ci := 6) (index := 9) (f := 0) (t := 2) (Ts := Cond.code yX4_chooseAll cX4_chooseAll 3 none :: rz_TB) hx hb hts rz_in6 ho hK rfl (by decide) rfl (fun _ => rfl) (hw (i := 16) (j := 3) rfl rfl) (fun _ z => z) dX4_chooseAll_4 hk) ?_
  refine rz_All_c (i := 5) (fun k J hk hJ => rz_getf_ok (pc := 7) (own := RX4) (ref := "ThreadJudge$Program") (C := RX7) (T := TX7) (N := 22) (ci := 9) (index := 45) (f := 2) (t := 0) (Ts := Cond.code yX4_chooseAll cX4_chooseAll 3 none :: rz_TB) hx hb hts rz_in9 ho hK rfl (by decide) rfl (fun _ => rfl) (hw (i := 16) (j := 4) rfl rfl) (fun _ z => z) dX4_chooseAll_7 hk) ?_
  refine rz_All_c (i := 6) (fun k J hk hJ => rz_icmpge_ok (pc := 10) hx hb dX4_chooseAll_10 rfl hk (hJ 42)) ?_
  refine rz_All_c (i := 7) (fun k J hk hJ => rz_iconst_ok (pc := 13) hx hb dX4_chooseAll_13 rfl hk) ?_
  refine rz_All_c (i := 8) (fun k J hk hJ => rz_istore_n_ok (pc := 14) hx hb dX4_chooseAll_14 rfl hk) ?_
  refine rz_All_c (i := 9) (fun k J hk hJ => rz_iload_n_ok (pc := 15) hx hb dX4_chooseAll_15 rfl hk) ?_
  refine rz_All_c (i := 10) (fun k J hk hJ => rz_aload_n_ok (pc := 16) hx hb dX4_chooseAll_16 rfl hk) ?_
  refine rz_All_c (i := 11) (fun k J hk hJ => rz_getf_ok (pc := 17) (own := RX4) (ref := "ThreadJudge$Linker") (C := RX4) (T := TX4) (N := 4) (ci := 6) (index := 9) (f := 0) (t := 2) (Ts := Cond.code yX4_chooseAll cX4_chooseAll 3 none :: rz_TB) hx hb hts rz_in6 ho hK rfl (by decide) rfl (fun _ => rfl) (hw (i := 16) (j := 3) rfl rfl) (fun _ z => z) dX4_chooseAll_17 hk) ?_
  refine rz_All_c (i := 12) (fun k J hk hJ => rz_getf_ok (pc := 20) (own := RX4) (ref := "ThreadJudge$Program") (C := RX7) (T := TX7) (N := 22) (ci := 9) (index := 92) (f := 9) (t := 0) (Ts := Cond.code yX4_chooseAll cX4_chooseAll 3 none :: rz_TB) hx hb hts rz_in9 ho hK rfl (by decide) rfl (fun _ => rfl) (hw (i := 17) (j := 12) rfl rfl) (fun _ z => z) dX4_chooseAll_20 hk) ?_
  refine rz_All_c (i := 13) (fun k J hk hJ => rz_icmpge_ok (pc := 23) hx hb dX4_chooseAll_23 rfl hk (hJ 40)) ?_
  refine rz_All_c (i := 14) (fun k J hk hJ => rz_aload_n_ok (pc := 26) hx hb dX4_chooseAll_26 rfl hk) ?_
  refine rz_All_c (i := 15) (fun k J hk hJ => rz_getf_ok (pc := 27) (own := RX4) (ref := "ThreadJudge$Linker") (C := RX4) (T := TX4) (N := 4) (ci := 6) (index := 9) (f := 0) (t := 2) (Ts := Cond.code yX4_chooseAll cX4_chooseAll 3 none :: rz_TB) hx hb hts rz_in6 ho hK rfl (by decide) rfl (fun _ => rfl) (hw (i := 16) (j := 3) rfl rfl) (fun _ z => z) dX4_chooseAll_27 hk) ?_
  refine rz_All_c (i := 16) (fun k J hk hJ => rz_getf_ok (pc := 30) (own := RX4) (ref := "ThreadJudge$Program") (C := RX7) (T := TX7) (N := 22) (ci := 9) (index := 147) (f := 12) (t := 2) (Ts := Cond.code yX4_chooseAll cX4_chooseAll 3 none :: rz_TB) hx hb hts rz_in9 ho hK rfl (by decide) rfl (fun _ => rfl) (hw (i := 20) (j := 13) rfl rfl) (fun _ z => z) dX4_chooseAll_30 hk) ?_
  refine rz_All_c (i := 17) (fun k J hk hJ => rz_iload_n_ok (pc := 33) hx hb dX4_chooseAll_33 rfl hk) ?_
  refine rz_All_c (i := 18) (fun k J hk hJ => rz_bipush_ok (pc := 34) hx hb dX4_chooseAll_34 (by decide) hk) ?_
  refine rz_All_c (i := 19) (fun k J hk hJ => rz_imul_ok (pc := 36) hx hb dX4_chooseAll_36 hk) ?_
  refine rz_All_c (i := 20) (fun k J hk hJ => rz_iload_n_ok (pc := 37) hx hb dX4_chooseAll_37 rfl hk) ?_
  refine rz_All_c (i := 21) (fun k J hk hJ => rz_iadd_ok (pc := 38) hx hb dX4_chooseAll_38 hk) ?_
  refine rz_All_c (i := 22) (fun k J hk hJ => rz_aload_n_ok (pc := 39) hx hb dX4_chooseAll_39 rfl hk) ?_
  refine rz_All_c (i := 23) (fun k J hk hJ => rz_getf_ok (pc := 40) (own := RX4) (ref := "ThreadJudge$Linker") (C := RX4) (T := TX4) (N := 4) (ci := 6) (index := 9) (f := 0) (t := 2) (Ts := Cond.code yX4_chooseAll cX4_chooseAll 3 none :: rz_TB) hx hb hts rz_in6 ho hK rfl (by decide) rfl (fun _ => rfl) (hw (i := 16) (j := 3) rfl rfl) (fun _ z => z) dX4_chooseAll_40 hk) ?_
  refine rz_All_c (i := 24) (fun k J hk hJ => rz_getf_ok (pc := 43) (own := RX4) (ref := "ThreadJudge$Program") (C := RX7) (T := TX7) (N := 22) (ci := 9) (index := 95) (f := 10) (t := 2) (Ts := Cond.code yX4_chooseAll cX4_chooseAll 3 none :: rz_TB) hx hb hts rz_in9 ho hK rfl (by decide) rfl (fun _ => rfl) (hw (i := 17) (j := 13) rfl rfl) (fun _ z => z) dX4_chooseAll_43 hk) ?_
  refine rz_All_c (i := 25) (fun k J hk hJ => rz_bipush_ok (pc := 46) hx hb dX4_chooseAll_46 (by decide) hk) ?_
  refine rz_All_c (i := 26) (fun k J hk hJ => rz_aald_ok (pc := 48) hx hb hK dX4_chooseAll_48 hk) ?_
  refine rz_All_c (i := 27) (fun k J hk hJ => rz_iload_n_ok (pc := 49) hx hb dX4_chooseAll_49 rfl hk) ?_
  refine rz_All_c (i := 28) (fun k J hk hJ => rz_iald_ok (pc := 50) hx hb hK dX4_chooseAll_50 hk) ?_
  refine rz_All_c (i := 29) (fun k J hk hJ => rz_iload_n_ok (pc := 51) hx hb dX4_chooseAll_51 rfl hk) ?_
  refine rz_All_c (i := 30) (fun k J hk hJ => rz_icmpne_ok (pc := 52) hx hb dX4_chooseAll_52 rfl hk (hJ 36)) ?_
  refine rz_All_c (i := 31) (fun k J hk hJ => rz_aload_n_ok (pc := 55) hx hb dX4_chooseAll_55 rfl hk) ?_
  refine rz_All_c (i := 32) (fun k J hk hJ => rz_iload_n_ok (pc := 56) hx hb dX4_chooseAll_56 rfl hk) ?_
  refine rz_All_c (i := 33) (fun k J hk hJ => rz_iload_n_ok (pc := 57) hx hb dX4_chooseAll_57 rfl hk) ?_
  refine rz_All_c (i := 34) (fun k J hk hJ => rz_callV_ok (pc := 58) (own := RX4) (C := RX4) (T0 := TX4) (N0 := 4) hC rfl (rmX4_choose l hG) (rz_cwV 2 hC rz_good (rz_mem (i := 20) (j := 14) rfl rfl) (rz_mem (i := 20) (j := 15) rfl rfl) (rz_mem (i := 20) (j := 16) rfl rfl) (rz_mem (i := 15) (j := 19) rfl rfl) (rz_mem (i := 20) (j := 17) rfl rfl) ⟨rfl, by decide, by decide, by decide +kernel⟩ rfl rfl ⟨by decide, by decide⟩) rfl dX4_chooseAll_58 hk) ?_
  refine rz_All_c (i := 35) (fun k J hk hJ => rz_goto_ok (pc := 61) hx hb dX4_chooseAll_61 rfl (hJ 37)) ?_
  refine rz_All_c (i := 36) (fun k J hk hJ => rz_iconst_ok (pc := 64) hx hb dX4_chooseAll_64 rfl hk) ?_
  refine rz_All_c (i := 37) (fun k J hk hJ => rz_iast_ok (pc := 65) hx hb hK hA dX4_chooseAll_65 hk) ?_
  refine rz_All_c (i := 38) (fun k J hk hJ => rz_iinc_ok (pc := 66) hx hb dX4_chooseAll_66 (by decide) hk) ?_
  refine rz_All_c (i := 39) (fun k J hk hJ => rz_goto_ok (pc := 69) hx hb dX4_chooseAll_69 rfl (hJ 9)) ?_
  refine rz_All_c (i := 40) (fun k J hk hJ => rz_iinc_ok (pc := 72) hx hb dX4_chooseAll_72 (by decide) hk) ?_
  refine rz_All_c (i := 41) (fun k J hk hJ => rz_goto_ok (pc := 75) hx hb dX4_chooseAll_75 rfl (hJ 2)) ?_
  refine rz_All_c (i := 42) (fun k J hk hJ => rz_vret_ok (pc := 78) hC dX4_chooseAll_78) ?_
  exact trivial
