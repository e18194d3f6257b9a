/-! Runs of load(). -/
theorem rk_X4_link_0_m (l : Launch) {G : rz_G} (hG : rz_Gd G) : Met l yX4_link (Cond.code yX4_link cX4_link 2 (some .boolean) :: rz_TB) rrX4_link (rz_Pre G [rz_r 91, rz_i 0] (rs_5, 398, 0)) (rz_Qi G (rs_5, 398, 0).2 (rz_tst (rz_i 0) (rs_6, 398, 0))) 0 0 (fun q => rz_b G ≤ q) := rmX4_link_o l hG _ _ _ rfl rk_X4_link_0
noncomputable def roX4_link : rz_L → rz_M → rz_Z → Bool := (rz_ora [rz_r 91, rz_i 0] (rs_5, 398, 0) (rz_i 0) (rs_6, 398, 0) rgX4_link_o)
theorem rmoX4_link (l : Launch) {G : rz_G} (hG : rz_Gd G) (vs : rz_L) (M : rz_M) (Z : rz_Z) (hn : vs.length = 2) (h : roX4_link vs M Z = true) : Met l yX4_link (Cond.code yX4_link cX4_link 2 (some .boolean) :: rz_TB) rrX4_link (rz_Pre G vs M) (rz_Qi G M.2 Z) 0 0 (fun q => rz_b G ≤ q) := (fun vs M Z hn h => rz_orb_i (rk_X4_link_0_m l hG) (fun vs M Z hn h => rmX4_link_o l hG vs M Z hn h) vs M Z hn h) vs M Z hn h
theorem rmJ7_fill_53178_c (l : Launch) {G : rz_G} (hG : rz_Gd G) (vs : rz_L) (M : rz_M) (Z : rz_Z) (hn : vs.length = 2) (hck : rz_ck vs true = true) (h : rz_Rn rcJ7_fill_53178 Z 0 (rz_pad 4 vs) [] M) : Met l yJ7_fill_53178 (Cond.code yJ7_fill_53178 cJ7_fill_53178 4 none :: rz_TB) rrJ7_fill_53178 (rz_Pre G vs M) (rz_Qv G M.2 Z) 0 0 (fun q => rz_b G ≤ q) := by
  obtain ⟨D, tc, ad, b, xs, rfl⟩ := id hG
  refine rz_bodyC (pcs := rpJ7_fill_53178) (by decide) rfl (by rw [hn]; decide) hck h ?_
  intro p e R s m args below meth c hC
  obtain ⟨hx, hb, hml, hr, hlk, ho, hts, hKn, hRm⟩ := id hC
  obtain ⟨hK, hA, hSt⟩ := id hKn
  have hw : ∀ {i j : Nat} {ws : List Cond} {w : Cond}, rz_WW[i]? = some ws → ws[j]? = some w → w.before args s = true := fun h1 h2 => hts _ (List.mem_cons_of_mem _ (rz_mem h1 h2))
  refine rz_All_c (i := 0) (fun k J hk hJ => rz_iconst_ok (pc := 0) hx hb dJ7_fill_53178_0 rfl hk) ?_
  refine rz_All_c (i := 1) (fun k J hk hJ => rz_istore_n_ok (pc := 1) hx hb dJ7_fill_53178_1 rfl hk) ?_
  refine rz_All_c (i := 2) (fun k J hk hJ => rz_aload_n_ok (pc := 2) hx hb dJ7_fill_53178_2 rfl hk) ?_
  refine rz_All_c (i := 3) (fun k J hk hJ => rz_alen_ok (pc := 3) hx hb hK dJ7_fill_53178_3 hk) ?_
  refine rz_All_c (i := 4) (fun k J hk hJ => rz_istore_n_ok (pc := 4) hx hb dJ7_fill_53178_4 rfl hk) ?_
  refine rz_All_c (i := 5) (fun k J hk hJ => rz_iload_n_ok (pc := 5) hx hb dJ7_fill_53178_5 rfl hk) ?_
  refine rz_All_c (i := 6) (fun k J hk hJ => rz_iload_n_ok (pc := 6) hx hb dJ7_fill_53178_6 rfl hk) ?_
  refine rz_All_c (i := 7) (fun k J hk hJ => rz_icmpge_ok (pc := 7) hx hb dJ7_fill_53178_7 rfl hk (hJ 14)) ?_
  refine rz_All_c (i := 8) (fun k J hk hJ => rz_aload_n_ok (pc := 10) hx hb dJ7_fill_53178_10 rfl hk) ?_
  refine rz_All_c (i := 9) (fun k J hk hJ => rz_iload_n_ok (pc := 11) hx hb dJ7_fill_53178_11 rfl hk) ?_
  refine rz_All_c (i := 10) (fun k J hk hJ => rz_iload_n_ok (pc := 12) hx hb dJ7_fill_53178_12 rfl hk) ?_
  refine rz_All_c (i := 11) (fun k J hk hJ => rz_iast_ok (pc := 13) hx hb hK hA dJ7_fill_53178_13 hk) ?_
  refine rz_All_c (i := 12) (fun k J hk hJ => rz_iinc_ok (pc := 14) hx hb dJ7_fill_53178_14 (by decide) hk) ?_
  refine rz_All_c (i := 13) (fun k J hk hJ => rz_goto_ok (pc := 17) hx hb dJ7_fill_53178_17 rfl (hJ 5)) ?_
  refine rz_All_c (i := 14) (fun k J hk hJ => rz_vret_ok (pc := 20) hC dJ7_fill_53178_20) ?_
  exact trivial
