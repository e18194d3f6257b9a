/-! Methods: handlers, facts, contracts. -/
theorem dJ1_indexOfChar_4cfef_0 : decode cJ1_indexOfChar_4cfef 0 = .ok (.iload_n 1, 1) := by decide +kernel
theorem dJ1_indexOfChar_4cfef_1 : decode cJ1_indexOfChar_4cfef 1 = .ok (.i2b, 1) := by decide +kernel
theorem dJ1_indexOfChar_4cfef_2 : decode cJ1_indexOfChar_4cfef 2 = .ok (.istore 4, 2) := by decide +kernel
theorem dJ1_indexOfChar_4cfef_4 : decode cJ1_indexOfChar_4cfef 4 = .ok (.iload_n 2, 1) := by decide +kernel
theorem dJ1_indexOfChar_4cfef_5 : decode cJ1_indexOfChar_4cfef 5 = .ok (.istore 5, 2) := by decide +kernel
theorem dJ1_indexOfChar_4cfef_7 : decode cJ1_indexOfChar_4cfef 7 = .ok (.iload 5, 2) := by decide +kernel
theorem dJ1_indexOfChar_4cfef_9 : decode cJ1_indexOfChar_4cfef 9 = .ok (.iload_n 3, 1) := by decide +kernel
theorem dJ1_indexOfChar_4cfef_10 : decode cJ1_indexOfChar_4cfef 10 = .ok (.if_icmp .ge 21, 3) := by decide +kernel
theorem dJ1_indexOfChar_4cfef_13 : decode cJ1_indexOfChar_4cfef 13 = .ok (.aload_n 0, 1) := by decide +kernel
theorem dJ1_indexOfChar_4cfef_14 : decode cJ1_indexOfChar_4cfef 14 = .ok (.iload 5, 2) := by decide +kernel
theorem dJ1_indexOfChar_4cfef_16 : decode cJ1_indexOfChar_4cfef 16 = .ok (.baload, 1) := by decide +kernel
theorem dJ1_indexOfChar_4cfef_17 : decode cJ1_indexOfChar_4cfef 17 = .ok (.iload 4, 2) := by decide +kernel
theorem dJ1_indexOfChar_4cfef_19 : decode cJ1_indexOfChar_4cfef 19 = .ok (.if_icmp .ne 6, 3) := by decide +kernel
theorem dJ1_indexOfChar_4cfef_22 : decode cJ1_indexOfChar_4cfef 22 = .ok (.iload 5, 2) := by decide +kernel
theorem dJ1_indexOfChar_4cfef_24 : decode cJ1_indexOfChar_4cfef 24 = .ok (.ireturn, 1) := by decide +kernel
theorem dJ1_indexOfChar_4cfef_25 : decode cJ1_indexOfChar_4cfef 25 = .ok (.iinc 5 1, 3) := by decide +kernel
theorem dJ1_indexOfChar_4cfef_28 : decode cJ1_indexOfChar_4cfef 28 = .ok (.goto (-21), 3) := by decide +kernel
def rpJ1_indexOfChar_4cfef : List Nat := [0, 1, 2, 4, 5, 7, 9, 10, 13, 14, 16, 17, 19, 22, 24, 25, 28, 31]
noncomputable def rcJ1_indexOfChar_4cfef : List rz_B := [rz_iload 1, rz_i2b, rz_istore 4, rz_iload 2, rz_istore 5, rz_iload 5, rz_iload 3, rz_icmpge 17, rz_aload 0, rz_iload 5, rz_tbld, rz_iload 4, rz_icmpne 15, rz_iload 5, rz_iret, rz_iinc 5 1, rz_goto 5, rz_no]
noncomputable def rgJ1_indexOfChar_4cfef : rz_L → rz_M → rz_Z → Bool := rz_go rcJ1_indexOfChar_4cfef 6 1000000
def rrJ1_indexOfChar_4cfef : Room := { frames := 0, cells := 0, slots := 0, locals := 0 }
theorem rmJ1_indexOfChar_4cfef (l : Launch) {G : rz_G} (hG : rz_Gd G) (vs : rz_L) (M : rz_M) (Z : rz_Z) (hn : vs.length = 4) (h : rgJ1_indexOfChar_4cfef vs M Z = true) : Met l yJ1_indexOfChar_4cfef (Cond.code yJ1_indexOfChar_4cfef cJ1_indexOfChar_4cfef 6 (some .int) :: rz_TB) rrJ1_indexOfChar_4cfef (rz_Pre G vs M) (rz_Qi G M.2 Z) 0 0 (fun q => rz_b G ≤ q) := by
  obtain ⟨D, tc, ad, b, xs, rfl⟩ := id hG
  refine rz_body (pcs := rpJ1_indexOfChar_4cfef) (by decide) rfl (by rw [hn]; decide) h ?_
  intro p e R s m args below meth c hC
  obtain ⟨hx, hb, hml, hr, hlk, ho, hts, hKn, hRm⟩ := id hC
  obtain ⟨hK, hA, hSt⟩ := id hKn
  have hw : ∀ {i j : Nat} {ws : List Cond} {w : Cond}, rz_WW[i]? = some ws → ws[j]? = some w → w.before args s = true := fun h1 h2 => hts _ (List.mem_cons_of_mem _ (rz_mem h1 h2))
  refine rz_All_c (i := 0) (fun k J hk hJ => rz_iload_n_ok (pc := 0) hx hb dJ1_indexOfChar_4cfef_0 rfl hk) ?_
  refine rz_All_c (i := 1) (fun k J hk hJ => rz_i2b_ok (pc := 1) hx hb dJ1_indexOfChar_4cfef_1 hk) ?_
  refine rz_All_c (i := 2) (fun k J hk hJ => rz_istore_ok (pc := 2) hx hb dJ1_indexOfChar_4cfef_2 hk) ?_
  refine rz_All_c (i := 3) (fun k J hk hJ => rz_iload_n_ok (pc := 4) hx hb dJ1_indexOfChar_4cfef_4 rfl hk) ?_
  refine rz_All_c (i := 4) (fun k J hk hJ => rz_istore_ok (pc := 5) hx hb dJ1_indexOfChar_4cfef_5 hk) ?_
  refine rz_All_c (i := 5) (fun k J hk hJ => rz_iload_ok (pc := 7) hx hb dJ1_indexOfChar_4cfef_7 hk) ?_
  refine rz_All_c (i := 6) (fun k J hk hJ => rz_iload_n_ok (pc := 9) hx hb dJ1_indexOfChar_4cfef_9 rfl hk) ?_
  refine rz_All_c (i := 7) (fun k J hk hJ => rz_icmpge_ok (pc := 10) hx hb dJ1_indexOfChar_4cfef_10 rfl hk (hJ 17)) ?_
  refine rz_All_c (i := 8) (fun k J hk hJ => rz_aload_n_ok (pc := 13) hx hb dJ1_indexOfChar_4cfef_13 rfl hk) ?_
  refine rz_All_c (i := 9) (fun k J hk hJ => rz_iload_ok (pc := 14) hx hb dJ1_indexOfChar_4cfef_14 hk) ?_
  refine rz_All_c (i := 10) (fun k J hk hJ => rz_tbld_ok (pc := 16) hx hb hSt dJ1_indexOfChar_4cfef_16 hk) ?_
  refine rz_All_c (i := 11) (fun k J hk hJ => rz_iload_ok (pc := 17) hx hb dJ1_indexOfChar_4cfef_17 hk) ?_
  refine rz_All_c (i := 12) (fun k J hk hJ => rz_icmpne_ok (pc := 19) hx hb dJ1_indexOfChar_4cfef_19 rfl hk (hJ 15)) ?_
  refine rz_All_c (i := 13) (fun k J hk hJ => rz_iload_ok (pc := 22) hx hb dJ1_indexOfChar_4cfef_22 hk) ?_
  refine rz_All_c (i := 14) (fun k J hk hJ => rz_iret_ok (pc := 24) hC dJ1_indexOfChar_4cfef_24) ?_
  refine rz_All_c (i := 15) (fun k J hk hJ => rz_iinc_ok (pc := 25) hx hb dJ1_indexOfChar_4cfef_25 (by decide) hk) ?_
  refine rz_All_c (i := 16) (fun k J hk hJ => rz_goto_ok (pc := 28) hx hb dJ1_indexOfChar_4cfef_28 rfl (hJ 5)) ?_
  refine rz_All_c (i := 17) (fun k J hk hJ => rz_no_ok) ?_
  exact trivial
theorem dJ1_indexOf_4cfef_0 : decode cJ1_indexOf_4cfef 0 = .ok (.iload_n 1, 1) := by decide +kernel
theorem dJ1_indexOf_4cfef_1 : decode cJ1_indexOf_4cfef 1 = .ok (.invokestatic 88, 3) := by decide +kernel
theorem dJ1_indexOf_4cfef_4 : decode cJ1_indexOf_4cfef 4 = .ok (.ifCond .ne 5, 3) := by decide +kernel
theorem dJ1_indexOf_4cfef_9 : decode cJ1_indexOf_4cfef 9 = .ok (.iload_n 2, 1) := by decide +kernel
theorem dJ1_indexOf_4cfef_10 : decode cJ1_indexOf_4cfef 10 = .ok (.iconst 0, 1) := by decide +kernel
theorem dJ1_indexOf_4cfef_11 : decode cJ1_indexOf_4cfef 11 = .ok (.invokestatic 92, 3) := by decide +kernel
theorem dJ1_indexOf_4cfef_14 : decode cJ1_indexOf_4cfef 14 = .ok (.istore_n 2, 1) := by decide +kernel
theorem dJ1_indexOf_4cfef_15 : decode cJ1_indexOf_4cfef 15 = .ok (.iload_n 3, 1) := by decide +kernel
theorem dJ1_indexOf_4cfef_16 : decode cJ1_indexOf_4cfef 16 = .ok (.aload_n 0, 1) := by decide +kernel
theorem dJ1_indexOf_4cfef_17 : decode cJ1_indexOf_4cfef 17 = .ok (.arraylength, 1) := by decide +kernel
theorem dJ1_indexOf_4cfef_18 : decode cJ1_indexOf_4cfef 18 = .ok (.invokestatic 38, 3) := by decide +kernel
theorem dJ1_indexOf_4cfef_21 : decode cJ1_indexOf_4cfef 21 = .ok (.istore_n 3, 1) := by decide +kernel
theorem dJ1_indexOf_4cfef_22 : decode cJ1_indexOf_4cfef 22 = .ok (.iload_n 2, 1) := by decide +kernel
theorem dJ1_indexOf_4cfef_23 : decode cJ1_indexOf_4cfef 23 = .ok (.iload_n 3, 1) := by decide +kernel
theorem dJ1_indexOf_4cfef_24 : decode cJ1_indexOf_4cfef 24 = .ok (.if_icmp .lt 5, 3) := by decide +kernel
theorem dJ1_indexOf_4cfef_29 : decode cJ1_indexOf_4cfef 29 = .ok (.aload_n 0, 1) := by decide +kernel
theorem dJ1_indexOf_4cfef_30 : decode cJ1_indexOf_4cfef 30 = .ok (.iload_n 1, 1) := by decide +kernel
theorem dJ1_indexOf_4cfef_31 : decode cJ1_indexOf_4cfef 31 = .ok (.iload_n 2, 1) := by decide +kernel
theorem dJ1_indexOf_4cfef_32 : decode cJ1_indexOf_4cfef 32 = .ok (.iload_n 3, 1) := by decide +kernel
theorem dJ1_indexOf_4cfef_33 : decode cJ1_indexOf_4cfef 33 = .ok (.invokestatic 95, 3) := by decide +kernel
theorem dJ1_indexOf_4cfef_36 : decode cJ1_indexOf_4cfef 36 = .ok (.ireturn, 1) := by decide +kernel
def rpJ1_indexOf_4cfef : List Nat := [0, 1, 4, 7, 9, 10, 11, 14, 15, 16, 17, 18, 21, 22, 23, 24, 27, 29, 30, 31, 32, 33, 36]
noncomputable def rcJ1_indexOf_4cfef : List rz_B := [rz_iload 1, rz_callS 1 rgJ1_canEncode_9a6ad, rz_ifne 4, rz_no, rz_iload 2, rz_cst 0, rz_imax, rz_istore 2, rz_iload 3, rz_aload 0, rz_tlen, rz_imin, rz_istore 3, rz_iload 2, rz_iload 3, rz_icmplt 17, rz_no, rz_aload 0, rz_iload 1, rz_iload 2, rz_iload 3, rz_callS 4 rgJ1_indexOfChar_4cfef, rz_iret]
noncomputable def rgJ1_indexOf_4cfef : rz_L → rz_M → rz_Z → Bool := rz_go rcJ1_indexOf_4cfef 4 1000000
def rrJ1_indexOf_4cfef : Room := { frames := 1, cells := 0, slots := 0, locals := 60 }
theorem rmJ1_indexOf_4cfef (l : Launch) {G : rz_G} (hG : rz_Gd G) (vs : rz_L) (M : rz_M) (Z : rz_Z) (hn : vs.length = 4) (h : rgJ1_indexOf_4cfef vs M Z = true) : Met l yJ1_indexOf_4cfef (Cond.code yJ1_indexOf_4cfef cJ1_indexOf_4cfef 4 (some .int) :: rz_TB) rrJ1_indexOf_4cfef (rz_Pre G vs M) (rz_Qi G M.2 Z) 0 0 (fun q => rz_b G ≤ q) := by
  obtain ⟨D, tc, ad, b, xs, rfl⟩ := id hG
  refine rz_body (pcs := rpJ1_indexOf_4cfef) (by decide) rfl (by rw [hn]; decide) h ?_
  intro p e R s m args below meth c hC
  obtain ⟨hx, hb, hml, hr, hlk, ho, hts, hKn, hRm⟩ := id hC
  obtain ⟨hK, hA, hSt⟩ := id hKn
  have hw : ∀ {i j : Nat} {ws : List Cond} {w : Cond}, rz_WW[i]? = some ws → ws[j]? = some w → w.before args s = true := fun h1 h2 => hts _ (List.mem_cons_of_mem _ (rz_mem h1 h2))
  refine rz_All_c (i := 0) (fun k J hk hJ => rz_iload_n_ok (pc := 0) hx hb dJ1_indexOf_4cfef_0 rfl hk) ?_
  refine rz_All_c (i := 1) (fun k J hk hJ => rz_callS_ok (pc := 1) (own := RJ1) hC rfl (rmJ1_canEncode_9a6ad l hG) (rz_cwS 1 hC rz_good (rz_mem (i := 7) (j := 6) rfl rfl) (rz_mem (i := 7) (j := 7) rfl rfl) (rz_mem (i := 6) (j := 22) rfl rfl) (rz_mem (i := 7) (j := 8) rfl rfl) ⟨rfl, by decide, by decide, by decide +kernel⟩ rfl rfl ⟨by decide, by decide⟩) dJ1_indexOf_4cfef_1 hk) ?_
  refine rz_All_c (i := 2) (fun k J hk hJ => rz_ifne_ok (pc := 4) hx hb dJ1_indexOf_4cfef_4 rfl hk (hJ 4)) ?_
  refine rz_All_c (i := 3) (fun k J hk hJ => rz_no_ok) ?_
  refine rz_All_c (i := 4) (fun k J hk hJ => rz_iload_n_ok (pc := 9) hx hb dJ1_indexOf_4cfef_9 rfl hk) ?_
  refine rz_All_c (i := 5) (fun k J hk hJ => rz_iconst_ok (pc := 10) hx hb dJ1_indexOf_4cfef_10 rfl hk) ?_
  refine rz_All_c (i := 6) (fun k J hk hJ => rz_imax_ok (pc := 11) (own := RJ1) hx hb hml ho (hw (i := 7) (j := 0) rfl rfl) (hw (i := 7) (j := 1) rfl rfl) (hw (i := 5) (j := 16) rfl rfl) (hw (i := 7) (j := 2) rfl rfl) (by rw [hRm]; decide) (by rw [hRm]; decide) dJ1_indexOf_4cfef_11 hk) ?_
  refine rz_All_c (i := 7) (fun k J hk hJ => rz_istore_n_ok (pc := 14) hx hb dJ1_indexOf_4cfef_14 rfl hk) ?_
  refine rz_All_c (i := 8) (fun k J hk hJ => rz_iload_n_ok (pc := 15) hx hb dJ1_indexOf_4cfef_15 rfl hk) ?_
  refine rz_All_c (i := 9) (fun k J hk hJ => rz_aload_n_ok (pc := 16) hx hb dJ1_indexOf_4cfef_16 rfl hk) ?_
  refine rz_All_c (i := 10) (fun k J hk hJ => rz_tlen_ok (pc := 17) hx hb hSt dJ1_indexOf_4cfef_17 hk) ?_
  refine rz_All_c (i := 11) (fun k J hk hJ => rz_imin_ok (pc := 18) (own := RJ1) hx hb hml ho (hw (i := 7) (j := 3) rfl rfl) (hw (i := 7) (j := 4) rfl rfl) (hw (i := 5) (j := 16) rfl rfl) (hw (i := 7) (j := 5) rfl rfl) (by rw [hRm]; decide) (by rw [hRm]; decide) dJ1_indexOf_4cfef_18 hk) ?_
  refine rz_All_c (i := 12) (fun k J hk hJ => rz_istore_n_ok (pc := 21) hx hb dJ1_indexOf_4cfef_21 rfl hk) ?_
  refine rz_All_c (i := 13) (fun k J hk hJ => rz_iload_n_ok (pc := 22) hx hb dJ1_indexOf_4cfef_22 rfl hk) ?_
  refine rz_All_c (i := 14) (fun k J hk hJ => rz_iload_n_ok (pc := 23) hx hb dJ1_indexOf_4cfef_23 rfl hk) ?_
  refine rz_All_c (i := 15) (fun k J hk hJ => rz_icmplt_ok (pc := 24) hx hb dJ1_indexOf_4cfef_24 rfl hk (hJ 17)) ?_
  refine rz_All_c (i := 16) (fun k J hk hJ => rz_no_ok) ?_
  refine rz_All_c (i := 17) (fun k J hk hJ => rz_aload_n_ok (pc := 29) hx hb dJ1_indexOf_4cfef_29 rfl hk) ?_
  refine rz_All_c (i := 18) (fun k J hk hJ => rz_iload_n_ok (pc := 30) hx hb dJ1_indexOf_4cfef_30 rfl hk) ?_
  refine rz_All_c (i := 19) (fun k J hk hJ => rz_iload_n_ok (pc := 31) hx hb dJ1_indexOf_4cfef_31 rfl hk) ?_
  refine rz_All_c (i := 20) (fun k J hk hJ => rz_iload_n_ok (pc := 32) hx hb dJ1_indexOf_4cfef_32 rfl hk) ?_
  refine rz_All_c (i := 21) (fun k J hk hJ => rz_callS_ok (pc := 33) (own := RJ1) hC rfl (rmJ1_indexOfChar_4cfef l hG) (rz_cwS 4 hC rz_good (rz_mem (i := 7) (j := 9) rfl rfl) (rz_mem (i := 7) (j := 10) rfl rfl) (rz_mem (i := 6) (j := 22) rfl rfl) (rz_mem (i := 7) (j := 11) rfl rfl) ⟨rfl, by decide, by decide, by decide +kernel⟩ rfl rfl ⟨by decide, by decide⟩) dJ1_indexOf_4cfef_33 hk) ?_
  refine rz_All_c (i := 22) (fun k J hk hJ => rz_iret_ok (pc := 36) hC dJ1_indexOf_4cfef_36) ?_
  exact trivial
theorem dJ0_indexOf_7cf53_0 : decode cJ0_indexOf_7cf53 0 = .ok (.aload_n 0, 1) := by decide +kernel
theorem dJ0_indexOf_7cf53_1 : decode cJ0_indexOf_7cf53 1 = .ok (.invokevirtual 492, 3) := by decide +kernel
theorem dJ0_indexOf_7cf53_4 : decode cJ0_indexOf_7cf53 4 = .ok (.ifCond .eq 19, 3) := by decide +kernel
theorem dJ0_indexOf_7cf53_7 : decode cJ0_indexOf_7cf53 7 = .ok (.aload_n 0, 1) := by decide +kernel
theorem dJ0_indexOf_7cf53_8 : decode cJ0_indexOf_7cf53 8 = .ok (.getfield 9, 3) := by decide +kernel
theorem dJ0_indexOf_7cf53_11 : decode cJ0_indexOf_7cf53 11 = .ok (.iload_n 1, 1) := by decide +kernel
theorem dJ0_indexOf_7cf53_12 : decode cJ0_indexOf_7cf53 12 = .ok (.iload_n 2, 1) := by decide +kernel
theorem dJ0_indexOf_7cf53_13 : decode cJ0_indexOf_7cf53 13 = .ok (.aload_n 0, 1) := by decide +kernel
theorem dJ0_indexOf_7cf53_14 : decode cJ0_indexOf_7cf53 14 = .ok (.invokevirtual 505, 3) := by decide +kernel
theorem dJ0_indexOf_7cf53_17 : decode cJ0_indexOf_7cf53 17 = .ok (.invokestatic 637, 3) := by decide +kernel
theorem dJ0_indexOf_7cf53_20 : decode cJ0_indexOf_7cf53 20 = .ok (.goto 16, 3) := by decide +kernel
theorem dJ0_indexOf_7cf53_36 : decode cJ0_indexOf_7cf53 36 = .ok (.ireturn, 1) := by decide +kernel
def rpJ0_indexOf_7cf53 : List Nat := [0, 1, 4, 7, 8, 11, 12, 13, 14, 17, 20, 23, 36]
noncomputable def rcJ0_indexOf_7cf53 : List rz_B := [rz_aload 0, rz_callT 0 rgJ0_isLatin1_aae02, rz_ifeq 11, rz_aload 0, rz_tval, rz_iload 1, rz_iload 2, rz_aload 0, rz_callT 0 rgJ0_length_8abf5_f, rz_callS 4 rgJ1_indexOf_4cfef, rz_goto 12, rz_no, rz_iret]
noncomputable def rgJ0_indexOf_7cf53 : rz_L → rz_M → rz_Z → Bool := rz_go rcJ0_indexOf_7cf53 3 1000000
def rrJ0_indexOf_7cf53 : Room := { frames := 2, cells := 0, slots := 0, locals := 83 }
theorem rmJ0_indexOf_7cf53 (l : Launch) {G : rz_G} (hG : rz_Gd G) (vs : rz_L) (M : rz_M) (Z : rz_Z) (hn : vs.length = 3) (h : rgJ0_indexOf_7cf53 vs M Z = true) : Met l yJ0_indexOf_7cf53 (Cond.code yJ0_indexOf_7cf53 cJ0_indexOf_7cf53 3 (some .int) :: rz_TB) rrJ0_indexOf_7cf53 (rz_Pre G vs M) (rz_Qi G M.2 Z) 0 0 (fun q => rz_b G ≤ q) := by
  obtain ⟨D, tc, ad, b, xs, rfl⟩ := id hG
  refine rz_body (pcs := rpJ0_indexOf_7cf53) (by decide) rfl (by rw [hn]; decide) h ?_
  intro p e R s m args below meth c hC
  obtain ⟨hx, hb, hml, hr, hlk, ho, hts, hKn, hRm⟩ := id hC
  obtain ⟨hK, hA, hSt⟩ := id hKn
  have hw : ∀ {i j : Nat} {ws : List Cond} {w : Cond}, rz_WW[i]? = some ws → ws[j]? = some w → w.before args s = true := fun h1 h2 => hts _ (List.mem_cons_of_mem _ (rz_mem h1 h2))
  refine rz_All_c (i := 0) (fun k J hk hJ => rz_aload_n_ok (pc := 0) hx hb dJ0_indexOf_7cf53_0 rfl hk) ?_
  refine rz_All_c (i := 1) (fun k J hk hJ => rz_callT_ok (pc := 1) (own := RJ0) hC rfl (rmJ0_isLatin1_aae02 l hG) (rz_cwV 0 hC rz_good (rz_mem (i := 6) (j := 6) rfl rfl) (rz_mem (i := 6) (j := 7) rfl rfl) (rz_mem (i := 6) (j := 8) rfl rfl) (rz_mem (i := 5) (j := 23) rfl rfl) (rz_mem (i := 6) (j := 9) rfl rfl) ⟨rfl, by decide, by decide, by decide +kernel⟩ rfl rfl ⟨by decide, by decide⟩) dJ0_indexOf_7cf53_1 hk) ?_
  refine rz_All_c (i := 2) (fun k J hk hJ => rz_ifeq_ok (pc := 4) hx hb dJ0_indexOf_7cf53_4 rfl hk (hJ 11)) ?_
  refine rz_All_c (i := 3) (fun k J hk hJ => rz_aload_n_ok (pc := 7) hx hb dJ0_indexOf_7cf53_7 rfl hk) ?_
  refine rz_All_c (i := 4) (fun k J hk hJ => rz_tval_ok (pc := 8) (own := RJ0) (ref := "java/lang/String") (index := 9) hx hb hSt ho (hw (i := 6) (j := 5) rfl rfl) (fun _ z => z) dJ0_indexOf_7cf53_8 hk) ?_
  refine rz_All_c (i := 5) (fun k J hk hJ => rz_iload_n_ok (pc := 11) hx hb dJ0_indexOf_7cf53_11 rfl hk) ?_
  refine rz_All_c (i := 6) (fun k J hk hJ => rz_iload_n_ok (pc := 12) hx hb dJ0_indexOf_7cf53_12 rfl hk) ?_
  refine rz_All_c (i := 7) (fun k J hk hJ => rz_aload_n_ok (pc := 13) hx hb dJ0_indexOf_7cf53_13 rfl hk) ?_
  refine rz_All_c (i := 8) (fun k J hk hJ => rz_callT_ok (pc := 14) (own := RJ0) hC rfl (rmJ0_length_8abf5_f l hG) (rz_cwV 0 hC rz_good (rz_mem (i := 6) (j := 12) rfl rfl) (rz_mem (i := 6) (j := 13) rfl rfl) (rz_mem (i := 6) (j := 14) rfl rfl) (rz_mem (i := 5) (j := 23) rfl rfl) (rz_mem (i := 6) (j := 15) rfl rfl) ⟨rfl, by decide, by decide, by decide +kernel⟩ rfl rfl ⟨by decide, by decide⟩) dJ0_indexOf_7cf53_14 hk) ?_
  refine rz_All_c (i := 9) (fun k J hk hJ => rz_callS_ok (pc := 17) (own := RJ0) hC rfl (rmJ1_indexOf_4cfef l hG) (rz_cwX 4 hC rz_good (rz_mem (i := 6) (j := 20) rfl rfl) (rz_mem (i := 6) (j := 21) rfl rfl) (rz_mem (i := 6) (j := 22) rfl rfl) (rz_mem (i := 6) (j := 23) rfl rfl) ⟨by decide, by decide, by decide +kernel⟩ rfl rfl ⟨by decide, by decide⟩) dJ0_indexOf_7cf53_17 hk) ?_
  refine rz_All_c (i := 10) (fun k J hk hJ => rz_goto_ok (pc := 20) hx hb dJ0_indexOf_7cf53_20 rfl (hJ 12)) ?_
  refine rz_All_c (i := 11) (fun k J hk hJ => rz_no_ok) ?_
  refine rz_All_c (i := 12) (fun k J hk hJ => rz_iret_ok (pc := 36) hC dJ0_indexOf_7cf53_36) ?_
  exact trivial
theorem dJ0_indexOf_0f7a4_0 : decode cJ0_indexOf_0f7a4 0 = .ok (.aload_n 0, 1) := by decide +kernel
theorem dJ0_indexOf_0f7a4_1 : decode cJ0_indexOf_0f7a4 1 = .ok (.iload_n 1, 1) := by decide +kernel
theorem dJ0_indexOf_0f7a4_2 : decode cJ0_indexOf_0f7a4 2 = .ok (.iconst 0, 1) := by decide +kernel
theorem dJ0_indexOf_0f7a4_3 : decode cJ0_indexOf_0f7a4 3 = .ok (.invokevirtual 633, 3) := by decide +kernel
theorem dJ0_indexOf_0f7a4_6 : decode cJ0_indexOf_0f7a4 6 = .ok (.ireturn, 1) := by decide +kernel
def rpJ0_indexOf_0f7a4 : List Nat := [0, 1, 2, 3, 6]
noncomputable def rcJ0_indexOf_0f7a4 : List rz_B := [rz_aload 0, rz_iload 1, rz_cst 0, rz_callT 2 rgJ0_indexOf_7cf53, rz_iret]
noncomputable def rgJ0_indexOf_0f7a4 : rz_L → rz_M → rz_Z → Bool := rz_go rcJ0_indexOf_0f7a4 2 1000000
def rrJ0_indexOf_0f7a4 : Room := { frames := 3, cells := 0, slots := 0, locals := 105 }
theorem rmJ0_indexOf_0f7a4 (l : Launch) {G : rz_G} (hG : rz_Gd G) (vs : rz_L) (M : rz_M) (Z : rz_Z) (hn : vs.length = 2) (h : rgJ0_indexOf_0f7a4 vs M Z = true) : Met l yJ0_indexOf_0f7a4 (Cond.code yJ0_indexOf_0f7a4 cJ0_indexOf_0f7a4 2 (some .int) :: rz_TB) rrJ0_indexOf_0f7a4 (rz_Pre G vs M) (rz_Qi G M.2 Z) 0 0 (fun q => rz_b G ≤ q) := by
  obtain ⟨D, tc, ad, b, xs, rfl⟩ := id hG
  refine rz_body (pcs := rpJ0_indexOf_0f7a4) (by decide) rfl (by rw [hn]; decide) h ?_
  intro p e R s m args below meth c hC
  obtain ⟨hx, hb, hml, hr, hlk, ho, hts, hKn, hRm⟩ := id hC
  obtain ⟨hK, hA, hSt⟩ := id hKn
  have hw : ∀ {i j : Nat} {ws : List Cond} {w : Cond}, rz_WW[i]? = some ws → ws[j]? = some w → w.before args s = true := fun h1 h2 => hts _ (List.mem_cons_of_mem _ (rz_mem h1 h2))
  refine rz_All_c (i := 0) (fun k J hk hJ => rz_aload_n_ok (pc := 0) hx hb dJ0_indexOf_0f7a4_0 rfl hk) ?_
  refine rz_All_c (i := 1) (fun k J hk hJ => rz_iload_n_ok (pc := 1) hx hb dJ0_indexOf_0f7a4_1 rfl hk) ?_
  refine rz_All_c (i := 2) (fun k J hk hJ => rz_iconst_ok (pc := 2) hx hb dJ0_indexOf_0f7a4_2 rfl hk) ?_
  refine rz_All_c (i := 3) (fun k J hk hJ => rz_callT_ok (pc := 3) (own := RJ0) hC rfl (rmJ0_indexOf_7cf53 l hG) (rz_cwV 2 hC rz_good (rz_mem (i := 6) (j := 1) rfl rfl) (rz_mem (i := 6) (j := 2) rfl rfl) (rz_mem (i := 6) (j := 3) rfl rfl) (rz_mem (i := 5) (j := 23) rfl rfl) (rz_mem (i := 6) (j := 4) rfl rfl) ⟨rfl, by decide, by decide, by decide +kernel⟩ rfl rfl ⟨by decide, by decide⟩) dJ0_indexOf_0f7a4_3 hk) ?_
  refine rz_All_c (i := 4) (fun k J hk hJ => rz_iret_ok (pc := 6) hC dJ0_indexOf_0f7a4_6) ?_
  exact trivial
theorem dX9_cutOne_0 : decode cX9_cutOne 0 = .ok (.aload_n 0, 1) := by decide +kernel
theorem dX9_cutOne_1 : decode cX9_cutOne 1 = .ok (.getfield 83, 3) := by decide +kernel
theorem dX9_cutOne_4 : decode cX9_cutOne 4 = .ok (.iload_n 1, 1) := by decide +kernel
theorem dX9_cutOne_5 : decode cX9_cutOne 5 = .ok (.caload, 1) := by decide +kernel
theorem dX9_cutOne_6 : decode cX9_cutOne 6 = .ok (.istore_n 2, 1) := by decide +kernel
theorem dX9_cutOne_7 : decode cX9_cutOne 7 = .ok (.iload_n 2, 1) := by decide +kernel
theorem dX9_cutOne_8 : decode cX9_cutOne 8 = .ok (.invokestatic 122, 3) := by decide +kernel
theorem dX9_cutOne_11 : decode cX9_cutOne 11 = .ok (.ifCond .eq 67, 3) := by decide +kernel
theorem dX9_cutOne_14 : decode cX9_cutOne 14 = .ok (.iload_n 1, 1) := by decide +kernel
theorem dX9_cutOne_15 : decode cX9_cutOne 15 = .ok (.iconst 1, 1) := by decide +kernel
theorem dX9_cutOne_16 : decode cX9_cutOne 16 = .ok (.iadd, 1) := by decide +kernel
theorem dX9_cutOne_17 : decode cX9_cutOne 17 = .ok (.istore_n 3, 1) := by decide +kernel
theorem dX9_cutOne_18 : decode cX9_cutOne 18 = .ok (.iload_n 3, 1) := by decide +kernel
theorem dX9_cutOne_19 : decode cX9_cutOne 19 = .ok (.aload_n 0, 1) := by decide +kernel
theorem dX9_cutOne_20 : decode cX9_cutOne 20 = .ok (.getfield 132, 3) := by decide +kernel
theorem dX9_cutOne_23 : decode cX9_cutOne 23 = .ok (.if_icmp .ge 21, 3) := by decide +kernel
theorem dX9_cutOne_26 : decode cX9_cutOne 26 = .ok (.aload_n 0, 1) := by decide +kernel
theorem dX9_cutOne_27 : decode cX9_cutOne 27 = .ok (.getfield 83, 3) := by decide +kernel
theorem dX9_cutOne_30 : decode cX9_cutOne 30 = .ok (.iload_n 3, 1) := by decide +kernel
theorem dX9_cutOne_31 : decode cX9_cutOne 31 = .ok (.caload, 1) := by decide +kernel
theorem dX9_cutOne_32 : decode cX9_cutOne 32 = .ok (.invokestatic 149, 3) := by decide +kernel
theorem dX9_cutOne_35 : decode cX9_cutOne 35 = .ok (.ifCond .eq 9, 3) := by decide +kernel
theorem dX9_cutOne_38 : decode cX9_cutOne 38 = .ok (.iinc 3 1, 3) := by decide +kernel
theorem dX9_cutOne_41 : decode cX9_cutOne 41 = .ok (.goto (-23), 3) := by decide +kernel
theorem dX9_cutOne_44 : decode cX9_cutOne 44 = .ok (.iload_n 3, 1) := by decide +kernel
theorem dX9_cutOne_45 : decode cX9_cutOne 45 = .ok (.iload_n 1, 1) := by decide +kernel
theorem dX9_cutOne_46 : decode cX9_cutOne 46 = .ok (.isub, 1) := by decide +kernel
theorem dX9_cutOne_47 : decode cX9_cutOne 47 = .ok (.bipush 24, 2) := by decide +kernel
theorem dX9_cutOne_49 : decode cX9_cutOne 49 = .ok (.if_icmp .le 11, 3) := by decide +kernel
theorem dX9_cutOne_60 : decode cX9_cutOne 60 = .ok (.aload_n 0, 1) := by decide +kernel
theorem dX9_cutOne_61 : decode cX9_cutOne 61 = .ok (.iconst 1, 1) := by decide +kernel
theorem dX9_cutOne_62 : decode cX9_cutOne 62 = .ok (.iload_n 1, 1) := by decide +kernel
theorem dX9_cutOne_63 : decode cX9_cutOne 63 = .ok (.iload_n 3, 1) := by decide +kernel
theorem dX9_cutOne_64 : decode cX9_cutOne 64 = .ok (.aload_n 0, 1) := by decide +kernel
theorem dX9_cutOne_65 : decode cX9_cutOne 65 = .ok (.aload_n 0, 1) := by decide +kernel
theorem dX9_cutOne_66 : decode cX9_cutOne 66 = .ok (.getfield 83, 3) := by decide +kernel
theorem dX9_cutOne_69 : decode cX9_cutOne 69 = .ok (.iload_n 1, 1) := by decide +kernel
theorem dX9_cutOne_70 : decode cX9_cutOne 70 = .ok (.iload_n 3, 1) := by decide +kernel
theorem dX9_cutOne_71 : decode cX9_cutOne 71 = .ok (.invokevirtual 102, 3) := by decide +kernel
theorem dX9_cutOne_74 : decode cX9_cutOne 74 = .ok (.invokevirtual 155, 3) := by decide +kernel
theorem dX9_cutOne_77 : decode cX9_cutOne 77 = .ok (.ireturn, 1) := by decide +kernel
theorem dX9_cutOne_78 : decode cX9_cutOne 78 = .ok (.iload_n 2, 1) := by decide +kernel
theorem dX9_cutOne_79 : decode cX9_cutOne 79 = .ok (.bipush 34, 2) := by decide +kernel
theorem dX9_cutOne_81 : decode cX9_cutOne 81 = .ok (.if_icmp .ne 125, 3) := by decide +kernel
theorem dX9_cutOne_206 : decode cX9_cutOne 206 = .ok (.iload_n 2, 1) := by decide +kernel
theorem dX9_cutOne_207 : decode cX9_cutOne 207 = .ok (.invokestatic 126, 3) := by decide +kernel
theorem dX9_cutOne_210 : decode cX9_cutOne 210 = .ok (.ifCond .ne 9, 3) := by decide +kernel
theorem dX9_cutOne_213 : decode cX9_cutOne 213 = .ok (.iload_n 2, 1) := by decide +kernel
theorem dX9_cutOne_214 : decode cX9_cutOne 214 = .ok (.bipush 45, 2) := by decide +kernel
theorem dX9_cutOne_216 : decode cX9_cutOne 216 = .ok (.if_icmp .ne 9, 3) := by decide +kernel
theorem dX9_cutOne_219 : decode cX9_cutOne 219 = .ok (.aload_n 0, 1) := by decide +kernel
theorem dX9_cutOne_220 : decode cX9_cutOne 220 = .ok (.iload_n 1, 1) := by decide +kernel
theorem dX9_cutOne_221 : decode cX9_cutOne 221 = .ok (.invokevirtual 159, 3) := by decide +kernel
theorem dX9_cutOne_224 : decode cX9_cutOne 224 = .ok (.ireturn, 1) := by decide +kernel
theorem dX9_cutOne_225 : decode cX9_cutOne 225 = .ok (.ldc 162, 2) := by decide +kernel
theorem dX9_cutOne_227 : decode cX9_cutOne 227 = .ok (.iload_n 2, 1) := by decide +kernel
theorem dX9_cutOne_228 : decode cX9_cutOne 228 = .ok (.invokevirtual 164, 3) := by decide +kernel
theorem dX9_cutOne_231 : decode cX9_cutOne 231 = .ok (.ifCond .lt 16, 3) := by decide +kernel
theorem dX9_cutOne_234 : decode cX9_cutOne 234 = .ok (.aload_n 0, 1) := by decide +kernel
theorem dX9_cutOne_235 : decode cX9_cutOne 235 = .ok (.iconst 4, 1) := by decide +kernel
theorem dX9_cutOne_236 : decode cX9_cutOne 236 = .ok (.iload_n 1, 1) := by decide +kernel
theorem dX9_cutOne_237 : decode cX9_cutOne 237 = .ok (.iload_n 1, 1) := by decide +kernel
theorem dX9_cutOne_238 : decode cX9_cutOne 238 = .ok (.iconst 1, 1) := by decide +kernel
theorem dX9_cutOne_239 : decode cX9_cutOne 239 = .ok (.iadd, 1) := by decide +kernel
theorem dX9_cutOne_240 : decode cX9_cutOne 240 = .ok (.iload_n 2, 1) := by decide +kernel
theorem dX9_cutOne_241 : decode cX9_cutOne 241 = .ok (.invokevirtual 155, 3) := by decide +kernel
theorem dX9_cutOne_244 : decode cX9_cutOne 244 = .ok (.goto 8, 3) := by decide +kernel
theorem dX9_cutOne_252 : decode cX9_cutOne 252 = .ok (.ireturn, 1) := by decide +kernel
def rpX9_cutOne : List Nat := [0, 1, 4, 5, 6, 7, 8, 11, 14, 15, 16, 17, 18, 19, 20, 23, 26, 27, 30, 31, 32, 35, 38, 41, 44, 45, 46, 47, 49, 52, 60, 61, 62, 63, 64, 65, 66, 69, 70, 71, 74, 77, 78, 79, 81, 84, 206, 207, 210, 213, 214, 216, 219, 220, 221, 224, 225, 227, 228, 231, 234, 235, 236, 237, 238, 239, 240, 241, 244, 247, 252]
noncomputable def rcX9_cutOne : List rz_B := [rz_aload 0, rz_getf (Nat.add (Nat.mul 256 11) 1) 9 rz_r, rz_iload 1, rz_cald, rz_istore 2, rz_iload 2, rz_callS 1 rgX9_opensWord, rz_ifeq 42, rz_iload 1, rz_cst 1, rz_iadd, rz_istore 3, rz_iload 3, rz_aload 0, rz_getf (Nat.add (Nat.mul 256 11) 1) 10 rz_i, rz_icmpge 24, rz_aload 0, rz_getf (Nat.add (Nat.mul 256 11) 1) 9 rz_r, rz_iload 3, rz_cald, rz_callS 1 rgX9_isInWord, rz_ifeq 24, rz_iinc 3 1, rz_goto 12, rz_iload 3, rz_iload 1, rz_isub, rz_cst 24, rz_icmple 30, rz_no, rz_aload 0, rz_cst 1, rz_iload 1, rz_iload 3, rz_aload 0, rz_aload 0, rz_getf (Nat.add (Nat.mul 256 11) 1) 9 rz_r, rz_iload 1, rz_iload 3, rz_callV 3 (Nat.add (Nat.mul 256 11) 1) rgX9_intern, rz_callV 4 (Nat.add (Nat.mul 256 11) 1) rgX9_take, rz_iret, rz_iload 2, rz_cst 34, rz_icmpne 46, rz_no, rz_iload 2, rz_callS 1 rgX9_isDigit, rz_ifne 52, rz_iload 2, rz_cst 45, rz_icmpne 56, rz_aload 0, rz_iload 1, rz_callV 1 (Nat.add (Nat.mul 256 11) 1) rgX9_cutNumber, rz_iret, rz_txt 1000009, rz_iload 2, rz_callT 1 rgJ0_indexOf_0f7a4, rz_iflt 69, rz_aload 0, rz_cst 4, rz_iload 1, rz_iload 1, rz_cst 1, rz_iadd, rz_iload 2, rz_callV 4 (Nat.add (Nat.mul 256 11) 1) rgX9_take, rz_goto 70, rz_no, rz_iret]
noncomputable def rgX9_cutOne : rz_L → rz_M → rz_Z → Bool := rz_go rcX9_cutOne 5 1000000
def rrX9_cutOne : Room := { frames := 4, cells := 0, slots := 0, locals := 126 }
theorem rmX9_cutOne (l : Launch) {G : rz_G} (hG : rz_Gd G) (vs : rz_L) (M : rz_M) (Z : rz_Z) (hn : vs.length = 2) (h : rgX9_cutOne vs M Z = true) : Met l yX9_cutOne (Cond.code yX9_cutOne cX9_cutOne 5 (some .int) :: rz_TB) rrX9_cutOne (rz_Pre G vs M) (rz_Qi G M.2 Z) 0 0 (fun q => rz_b G ≤ q) := by
  obtain ⟨D, tc, ad, b, xs, rfl⟩ := id hG
  refine rz_body (pcs := rpX9_cutOne) (by decide) rfl (by rw [hn]; decide) h ?_
  intro p e R s m args below meth c hC
  obtain ⟨hx, hb, hml, hr, hlk, ho, hts, hKn, hRm⟩ := id hC
  obtain ⟨hK, hA, hSt⟩ := id hKn
  have hw : ∀ {i j : Nat} {ws : List Cond} {w : Cond}, rz_WW[i]? = some ws → ws[j]? = some w → w.before args s = true := fun h1 h2 => hts _ (List.mem_cons_of_mem _ (rz_mem h1 h2))
  refine rz_All_c (i := 0) (fun k J hk hJ => rz_aload_n_ok (pc := 0) hx hb dX9_cutOne_0 rfl hk) ?_
  refine rz_All_c (i := 1) (fun k J hk hJ => rz_getf_ok (pc := 1) (own := RX9) (ref := "ThreadJudge$Reader") (C := RX9) (T := TX9) (N := 19) (ci := 11) (index := 83) (f := 9) (t := 2) (Ts := Cond.code yX9_cutOne cX9_cutOne 5 (some .int) :: rz_TB) hx hb hts rz_in11 ho hK rfl (by decide) rfl (fun _ => rfl) (hw (i := 3) (j := 20) rfl rfl) (fun _ z => z) dX9_cutOne_1 hk) ?_
  refine rz_All_c (i := 2) (fun k J hk hJ => rz_iload_n_ok (pc := 4) hx hb dX9_cutOne_4 rfl hk) ?_
  refine rz_All_c (i := 3) (fun k J hk hJ => rz_cald_ok (pc := 5) hx hb hK dX9_cutOne_5 hk) ?_
  refine rz_All_c (i := 4) (fun k J hk hJ => rz_istore_n_ok (pc := 6) hx hb dX9_cutOne_6 rfl hk) ?_
  refine rz_All_c (i := 5) (fun k J hk hJ => rz_iload_n_ok (pc := 7) hx hb dX9_cutOne_7 rfl hk) ?_
  refine rz_All_c (i := 6) (fun k J hk hJ => rz_callS_ok (pc := 8) (own := RX9) hC rfl (rmX9_opensWord l hG) (rz_cwS 1 hC rz_good (rz_mem (i := 4) (j := 9) rfl rfl) (rz_mem (i := 4) (j := 10) rfl rfl) (rz_mem (i := 1) (j := 21) rfl rfl) (rz_mem (i := 4) (j := 11) rfl rfl) ⟨rfl, by decide, by decide, by decide +kernel⟩ rfl rfl ⟨by decide, by decide⟩) dX9_cutOne_8 hk) ?_
  refine rz_All_c (i := 7) (fun k J hk hJ => rz_ifeq_ok (pc := 11) hx hb dX9_cutOne_11 rfl hk (hJ 42)) ?_
  refine rz_All_c (i := 8) (fun k J hk hJ => rz_iload_n_ok (pc := 14) hx hb dX9_cutOne_14 rfl hk) ?_
  refine rz_All_c (i := 9) (fun k J hk hJ => rz_iconst_ok (pc := 15) hx hb dX9_cutOne_15 rfl hk) ?_
  refine rz_All_c (i := 10) (fun k J hk hJ => rz_iadd_ok (pc := 16) hx hb dX9_cutOne_16 hk) ?_
  refine rz_All_c (i := 11) (fun k J hk hJ => rz_istore_n_ok (pc := 17) hx hb dX9_cutOne_17 rfl hk) ?_
  refine rz_All_c (i := 12) (fun k J hk hJ => rz_iload_n_ok (pc := 18) hx hb dX9_cutOne_18 rfl hk) ?_
  refine rz_All_c (i := 13) (fun k J hk hJ => rz_aload_n_ok (pc := 19) hx hb dX9_cutOne_19 rfl hk) ?_
  refine rz_All_c (i := 14) (fun k J hk hJ => rz_getf_ok (pc := 20) (own := RX9) (ref := "ThreadJudge$Reader") (C := RX9) (T := TX9) (N := 19) (ci := 11) (index := 132) (f := 10) (t := 0) (Ts := Cond.code yX9_cutOne cX9_cutOne 5 (some .int) :: rz_TB) hx hb hts rz_in11 ho hK rfl (by decide) rfl (fun _ => rfl) (hw (i := 3) (j := 21) rfl rfl) (fun _ z => z) dX9_cutOne_20 hk) ?_
  refine rz_All_c (i := 15) (fun k J hk hJ => rz_icmpge_ok (pc := 23) hx hb dX9_cutOne_23 rfl hk (hJ 24)) ?_
  refine rz_All_c (i := 16) (fun k J hk hJ => rz_aload_n_ok (pc := 26) hx hb dX9_cutOne_26 rfl hk) ?_
  refine rz_All_c (i := 17) (fun k J hk hJ => rz_getf_ok (pc := 27) (own := RX9) (ref := "ThreadJudge$Reader") (C := RX9) (T := TX9) (N := 19) (ci := 11) (index := 83) (f := 9) (t := 2) (Ts := Cond.code yX9_cutOne cX9_cutOne 5 (some .int) :: rz_TB) hx hb hts rz_in11 ho hK rfl (by decide) rfl (fun _ => rfl) (hw (i := 3) (j := 20) rfl rfl) (fun _ z => z) dX9_cutOne_27 hk) ?_
  refine rz_All_c (i := 18) (fun k J hk hJ => rz_iload_n_ok (pc := 30) hx hb dX9_cutOne_30 rfl hk) ?_
  refine rz_All_c (i := 19) (fun k J hk hJ => rz_cald_ok (pc := 31) hx hb hK dX9_cutOne_31 hk) ?_
  refine rz_All_c (i := 20) (fun k J hk hJ => rz_callS_ok (pc := 32) (own := RX9) hC rfl (rmX9_isInWord l hG) (rz_cwS 1 hC rz_good (rz_mem (i := 4) (j := 12) rfl rfl) (rz_mem (i := 4) (j := 13) rfl rfl) (rz_mem (i := 1) (j := 21) rfl rfl) (rz_mem (i := 4) (j := 14) rfl rfl) ⟨rfl, by decide, by decide, by decide +kernel⟩ rfl rfl ⟨by decide, by decide⟩) dX9_cutOne_32 hk) ?_
  refine rz_All_c (i := 21) (fun k J hk hJ => rz_ifeq_ok (pc := 35) hx hb dX9_cutOne_35 rfl hk (hJ 24)) ?_
  refine rz_All_c (i := 22) (fun k J hk hJ => rz_iinc_ok (pc := 38) hx hb dX9_cutOne_38 (by decide) hk) ?_
  refine rz_All_c (i := 23) (fun k J hk hJ => rz_goto_ok (pc := 41) hx hb dX9_cutOne_41 rfl (hJ 12)) ?_
  refine rz_All_c (i := 24) (fun k J hk hJ => rz_iload_n_ok (pc := 44) hx hb dX9_cutOne_44 rfl hk) ?_
  refine rz_All_c (i := 25) (fun k J hk hJ => rz_iload_n_ok (pc := 45) hx hb dX9_cutOne_45 rfl hk) ?_
  refine rz_All_c (i := 26) (fun k J hk hJ => rz_isub_ok (pc := 46) hx hb dX9_cutOne_46 hk) ?_
  refine rz_All_c (i := 27) (fun k J hk hJ => rz_bipush_ok (pc := 47) hx hb dX9_cutOne_47 (by decide) hk) ?_
  refine rz_All_c (i := 28) (fun k J hk hJ => rz_icmple_ok (pc := 49) hx hb dX9_cutOne_49 rfl hk (hJ 30)) ?_
  refine rz_All_c (i := 29) (fun k J hk hJ => rz_no_ok) ?_
  refine rz_All_c (i := 30) (fun k J hk hJ => rz_aload_n_ok (pc := 60) hx hb dX9_cutOne_60 rfl hk) ?_
  refine rz_All_c (i := 31) (fun k J hk hJ => rz_iconst_ok (pc := 61) hx hb dX9_cutOne_61 rfl hk) ?_
  refine rz_All_c (i := 32) (fun k J hk hJ => rz_iload_n_ok (pc := 62) hx hb dX9_cutOne_62 rfl hk) ?_
  refine rz_All_c (i := 33) (fun k J hk hJ => rz_iload_n_ok (pc := 63) hx hb dX9_cutOne_63 rfl hk) ?_
  refine rz_All_c (i := 34) (fun k J hk hJ => rz_aload_n_ok (pc := 64) hx hb dX9_cutOne_64 rfl hk) ?_
  refine rz_All_c (i := 35) (fun k J hk hJ => rz_aload_n_ok (pc := 65) hx hb dX9_cutOne_65 rfl hk) ?_
  refine rz_All_c (i := 36) (fun k J hk hJ => rz_getf_ok (pc := 66) (own := RX9) (ref := "ThreadJudge$Reader") (C := RX9) (T := TX9) (N := 19) (ci := 11) (index := 83) (f := 9) (t := 2) (Ts := Cond.code yX9_cutOne cX9_cutOne 5 (some .int) :: rz_TB) hx hb hts rz_in11 ho hK rfl (by decide) rfl (fun _ => rfl) (hw (i := 3) (j := 20) rfl rfl) (fun _ z => z) dX9_cutOne_66 hk) ?_
  refine rz_All_c (i := 37) (fun k J hk hJ => rz_iload_n_ok (pc := 69) hx hb dX9_cutOne_69 rfl hk) ?_
  refine rz_All_c (i := 38) (fun k J hk hJ => rz_iload_n_ok (pc := 70) hx hb dX9_cutOne_70 rfl hk) ?_
  refine rz_All_c (i := 39) (fun k J hk hJ => rz_callV_ok (pc := 71) (own := RX9) (C := RX9) (T0 := TX9) (N0 := 19) hC rfl (rmX9_intern l hG) (rz_cwV 3 hC rz_good (rz_mem (i := 2) (j := 8) rfl rfl) (rz_mem (i := 2) (j := 9) rfl rfl) (rz_mem (i := 2) (j := 10) rfl rfl) (rz_mem (i := 1) (j := 21) rfl rfl) (rz_mem (i := 2) (j := 11) rfl rfl) ⟨rfl, by decide, by decide, by decide +kernel⟩ rfl rfl ⟨by decide, by decide⟩) rfl dX9_cutOne_71 hk) ?_
  refine rz_All_c (i := 40) (fun k J hk hJ => rz_callV_ok (pc := 74) (own := RX9) (C := RX9) (T0 := TX9) (N0 := 19) hC rfl (rmX9_take l hG) (rz_cwV 4 hC rz_good (rz_mem (i := 5) (j := 3) rfl rfl) (rz_mem (i := 5) (j := 4) rfl rfl) (rz_mem (i := 5) (j := 5) rfl rfl) (rz_mem (i := 1) (j := 21) rfl rfl) (rz_mem (i := 5) (j := 6) rfl rfl) ⟨rfl, by decide, by decide, by decide +kernel⟩ rfl rfl ⟨by decide, by decide⟩) rfl dX9_cutOne_74 hk) ?_
  refine rz_All_c (i := 41) (fun k J hk hJ => rz_iret_ok (pc := 77) hC dX9_cutOne_77) ?_
  refine rz_All_c (i := 42) (fun k J hk hJ => rz_iload_n_ok (pc := 78) hx hb dX9_cutOne_78 rfl hk) ?_
  refine rz_All_c (i := 43) (fun k J hk hJ => rz_bipush_ok (pc := 79) hx hb dX9_cutOne_79 (by decide) hk) ?_
  refine rz_All_c (i := 44) (fun k J hk hJ => rz_icmpne_ok (pc := 81) hx hb dX9_cutOne_81 rfl hk (hJ 46)) ?_
  refine rz_All_c (i := 45) (fun k J hk hJ => rz_no_ok) ?_
  refine rz_All_c (i := 46) (fun k J hk hJ => rz_iload_n_ok (pc := 206) hx hb dX9_cutOne_206 rfl hk) ?_
  refine rz_All_c (i := 47) (fun k J hk hJ => rz_callS_ok (pc := 207) (own := RX9) hC rfl (rmX9_isDigit l hG) (rz_cwS 1 hC rz_good (rz_mem (i := 4) (j := 15) rfl rfl) (rz_mem (i := 4) (j := 16) rfl rfl) (rz_mem (i := 1) (j := 21) rfl rfl) (rz_mem (i := 4) (j := 17) rfl rfl) ⟨rfl, by decide, by decide, by decide +kernel⟩ rfl rfl ⟨by decide, by decide⟩) dX9_cutOne_207 hk) ?_
  refine rz_All_c (i := 48) (fun k J hk hJ => rz_ifne_ok (pc := 210) hx hb dX9_cutOne_210 rfl hk (hJ 52)) ?_
  refine rz_All_c (i := 49) (fun k J hk hJ => rz_iload_n_ok (pc := 213) hx hb dX9_cutOne_213 rfl hk) ?_
  refine rz_All_c (i := 50) (fun k J hk hJ => rz_bipush_ok (pc := 214) hx hb dX9_cutOne_214 (by decide) hk) ?_
  refine rz_All_c (i := 51) (fun k J hk hJ => rz_icmpne_ok (pc := 216) hx hb dX9_cutOne_216 rfl hk (hJ 56)) ?_
  refine rz_All_c (i := 52) (fun k J hk hJ => rz_aload_n_ok (pc := 219) hx hb dX9_cutOne_219 rfl hk) ?_
  refine rz_All_c (i := 53) (fun k J hk hJ => rz_iload_n_ok (pc := 220) hx hb dX9_cutOne_220 rfl hk) ?_
  refine rz_All_c (i := 54) (fun k J hk hJ => rz_callV_ok (pc := 221) (own := RX9) (C := RX9) (T0 := TX9) (N0 := 19) hC rfl (rmX9_cutNumber l hG) (rz_cwV 1 hC rz_good (rz_mem (i := 5) (j := 7) rfl rfl) (rz_mem (i := 5) (j := 8) rfl rfl) (rz_mem (i := 5) (j := 9) rfl rfl) (rz_mem (i := 1) (j := 21) rfl rfl) (rz_mem (i := 5) (j := 10) rfl rfl) ⟨rfl, by decide, by decide, by decide +kernel⟩ rfl rfl ⟨by decide, by decide⟩) rfl dX9_cutOne_221 hk) ?_
  refine rz_All_c (i := 55) (fun k J hk hJ => rz_iret_ok (pc := 224) hC dX9_cutOne_224) ?_
  refine rz_All_c (i := 56) (fun k J hk hJ => rz_ldcS_ok (pc := 225) (i := 8) hx hb (hSt.2.1 ("ThreadJudge$Reader", 162, "{}()[];:,.", 8) (List.mem_of_getElem? (i := 8) rfl)) ho dX9_cutOne_225 hk) ?_
  refine rz_All_c (i := 57) (fun k J hk hJ => rz_iload_n_ok (pc := 227) hx hb dX9_cutOne_227 rfl hk) ?_
  refine rz_All_c (i := 58) (fun k J hk hJ => rz_callT_ok (pc := 228) (own := RX9) hC rfl (rmJ0_indexOf_0f7a4 l hG) (rz_cwV 1 hC rz_good (rz_mem (i := 5) (j := 20) rfl rfl) (rz_mem (i := 5) (j := 21) rfl rfl) (rz_mem (i := 5) (j := 22) rfl rfl) (rz_mem (i := 5) (j := 23) rfl rfl) (rz_mem (i := 6) (j := 0) rfl rfl) ⟨rfl, by decide, by decide, by decide +kernel⟩ rfl rfl ⟨by decide, by decide⟩) dX9_cutOne_228 hk) ?_
  refine rz_All_c (i := 59) (fun k J hk hJ => rz_iflt_ok (pc := 231) hx hb dX9_cutOne_231 rfl hk (hJ 69)) ?_
  refine rz_All_c (i := 60) (fun k J hk hJ => rz_aload_n_ok (pc := 234) hx hb dX9_cutOne_234 rfl hk) ?_
  refine rz_All_c (i := 61) (fun k J hk hJ => rz_iconst_ok (pc := 235) hx hb dX9_cutOne_235 rfl hk) ?_
  refine rz_All_c (i := 62) (fun k J hk hJ => rz_iload_n_ok (pc := 236) hx hb dX9_cutOne_236 rfl hk) ?_
  refine rz_All_c (i := 63) (fun k J hk hJ => rz_iload_n_ok (pc := 237) hx hb dX9_cutOne_237 rfl hk) ?_
  refine rz_All_c (i := 64) (fun k J hk hJ => rz_iconst_ok (pc := 238) hx hb dX9_cutOne_238 rfl hk) ?_
  refine rz_All_c (i := 65) (fun k J hk hJ => rz_iadd_ok (pc := 239) hx hb dX9_cutOne_239 hk) ?_
  refine rz_All_c (i := 66) (fun k J hk hJ => rz_iload_n_ok (pc := 240) hx hb dX9_cutOne_240 rfl hk) ?_
  refine rz_All_c (i := 67) (fun k J hk hJ => rz_callV_ok (pc := 241) (own := RX9) (C := RX9) (T0 := TX9) (N0 := 19) hC rfl (rmX9_take l hG) (rz_cwV 4 hC rz_good (rz_mem (i := 5) (j := 3) rfl rfl) (rz_mem (i := 5) (j := 4) rfl rfl) (rz_mem (i := 5) (j := 5) rfl rfl) (rz_mem (i := 1) (j := 21) rfl rfl) (rz_mem (i := 5) (j := 6) rfl rfl) ⟨rfl, by decide, by decide, by decide +kernel⟩ rfl rfl ⟨by decide, by decide⟩) rfl dX9_cutOne_241 hk) ?_
  refine rz_All_c (i := 68) (fun k J hk hJ => rz_goto_ok (pc := 244) hx hb dX9_cutOne_244 rfl (hJ 70)) ?_
  refine rz_All_c (i := 69) (fun k J hk hJ => rz_no_ok) ?_
  refine rz_All_c (i := 70) (fun k J hk hJ => rz_iret_ok (pc := 252) hC dX9_cutOne_252) ?_
  exact trivial
theorem dX9_isBlank_0 : decode cX9_isBlank 0 = .ok (.iload_n 0, 1) := by decide +kernel
theorem dX9_isBlank_1 : decode cX9_isBlank 1 = .ok (.bipush 9, 2) := by decide +kernel
theorem dX9_isBlank_3 : decode cX9_isBlank 3 = .ok (.if_icmp .eq 21, 3) := by decide +kernel
theorem dX9_isBlank_6 : decode cX9_isBlank 6 = .ok (.iload_n 0, 1) := by decide +kernel
theorem dX9_isBlank_7 : decode cX9_isBlank 7 = .ok (.bipush 10, 2) := by decide +kernel
theorem dX9_isBlank_9 : decode cX9_isBlank 9 = .ok (.if_icmp .eq 15, 3) := by decide +kernel
theorem dX9_isBlank_12 : decode cX9_isBlank 12 = .ok (.iload_n 0, 1) := by decide +kernel
theorem dX9_isBlank_13 : decode cX9_isBlank 13 = .ok (.bipush 13, 2) := by decide +kernel
theorem dX9_isBlank_15 : decode cX9_isBlank 15 = .ok (.if_icmp .eq 9, 3) := by decide +kernel
theorem dX9_isBlank_18 : decode cX9_isBlank 18 = .ok (.iload_n 0, 1) := by decide +kernel
theorem dX9_isBlank_19 : decode cX9_isBlank 19 = .ok (.bipush 32, 2) := by decide +kernel
theorem dX9_isBlank_21 : decode cX9_isBlank 21 = .ok (.if_icmp .ne 7, 3) := by decide +kernel
theorem dX9_isBlank_24 : decode cX9_isBlank 24 = .ok (.iconst 1, 1) := by decide +kernel
theorem dX9_isBlank_25 : decode cX9_isBlank 25 = .ok (.goto 4, 3) := by decide +kernel
theorem dX9_isBlank_28 : decode cX9_isBlank 28 = .ok (.iconst 0, 1) := by decide +kernel
theorem dX9_isBlank_29 : decode cX9_isBlank 29 = .ok (.ireturn, 1) := by decide +kernel
def rpX9_isBlank : List Nat := [0, 1, 3, 6, 7, 9, 12, 13, 15, 18, 19, 21, 24, 25, 28, 29]
noncomputable def rcX9_isBlank : List rz_B := [rz_iload 0, rz_cst 9, rz_icmpeq 12, rz_iload 0, rz_cst 10, rz_icmpeq 12, rz_iload 0, rz_cst 13, rz_icmpeq 12, rz_iload 0, rz_cst 32, rz_icmpne 14, rz_cst 1, rz_goto 15, rz_cst 0, rz_zret]
noncomputable def rgX9_isBlank : rz_L → rz_M → rz_Z → Bool := rz_go rcX9_isBlank 1 1000000
def rrX9_isBlank : Room := { frames := 0, cells := 0, slots := 0, locals := 0 }
theorem rmX9_isBlank (l : Launch) {G : rz_G} (hG : rz_Gd G) (vs : rz_L) (M : rz_M) (Z : rz_Z) (hn : vs.length = 1) (h : rgX9_isBlank vs M Z = true) : Met l yX9_isBlank (Cond.code yX9_isBlank cX9_isBlank 1 (some .boolean) :: rz_TB) rrX9_isBlank (rz_Pre G vs M) (rz_Qi G M.2 Z) 0 0 (fun q => rz_b G ≤ q) := by
  obtain ⟨D, tc, ad, b, xs, rfl⟩ := id hG
  refine rz_body (pcs := rpX9_isBlank) (by decide) rfl (by rw [hn]; decide) h ?_
  intro p e R s m args below meth c hC
  obtain ⟨hx, hb, hml, hr, hlk, ho, hts, hKn, hRm⟩ := id hC
  obtain ⟨hK, hA, hSt⟩ := id hKn
  have hw : ∀ {i j : Nat} {ws : List Cond} {w : Cond}, rz_WW[i]? = some ws → ws[j]? = some w → w.before args s = true := fun h1 h2 => hts _ (List.mem_cons_of_mem _ (rz_mem h1 h2))
  refine rz_All_c (i := 0) (fun k J hk hJ => rz_iload_n_ok (pc := 0) hx hb dX9_isBlank_0 rfl hk) ?_
  refine rz_All_c (i := 1) (fun k J hk hJ => rz_bipush_ok (pc := 1) hx hb dX9_isBlank_1 (by decide) hk) ?_
  refine rz_All_c (i := 2) (fun k J hk hJ => rz_icmpeq_ok (pc := 3) hx hb dX9_isBlank_3 rfl hk (hJ 12)) ?_
  refine rz_All_c (i := 3) (fun k J hk hJ => rz_iload_n_ok (pc := 6) hx hb dX9_isBlank_6 rfl hk) ?_
  refine rz_All_c (i := 4) (fun k J hk hJ => rz_bipush_ok (pc := 7) hx hb dX9_isBlank_7 (by decide) hk) ?_
  refine rz_All_c (i := 5) (fun k J hk hJ => rz_icmpeq_ok (pc := 9) hx hb dX9_isBlank_9 rfl hk (hJ 12)) ?_
  refine rz_All_c (i := 6) (fun k J hk hJ => rz_iload_n_ok (pc := 12) hx hb dX9_isBlank_12 rfl hk) ?_
  refine rz_All_c (i := 7) (fun k J hk hJ => rz_bipush_ok (pc := 13) hx hb dX9_isBlank_13 (by decide) hk) ?_
  refine rz_All_c (i := 8) (fun k J hk hJ => rz_icmpeq_ok (pc := 15) hx hb dX9_isBlank_15 rfl hk (hJ 12)) ?_
  refine rz_All_c (i := 9) (fun k J hk hJ => rz_iload_n_ok (pc := 18) hx hb dX9_isBlank_18 rfl hk) ?_
  refine rz_All_c (i := 10) (fun k J hk hJ => rz_bipush_ok (pc := 19) hx hb dX9_isBlank_19 (by decide) hk) ?_
  refine rz_All_c (i := 11) (fun k J hk hJ => rz_icmpne_ok (pc := 21) hx hb dX9_isBlank_21 rfl hk (hJ 14)) ?_
  refine rz_All_c (i := 12) (fun k J hk hJ => rz_iconst_ok (pc := 24) hx hb dX9_isBlank_24 rfl hk) ?_
  refine rz_All_c (i := 13) (fun k J hk hJ => rz_goto_ok (pc := 25) hx hb dX9_isBlank_25 rfl (hJ 15)) ?_
  refine rz_All_c (i := 14) (fun k J hk hJ => rz_iconst_ok (pc := 28) hx hb dX9_isBlank_28 rfl hk) ?_
  refine rz_All_c (i := 15) (fun k J hk hJ => rz_zret_ok (pc := 29) hC dX9_isBlank_29) ?_
  exact trivial
theorem dX9_pastBlanks_0 : decode cX9_pastBlanks 0 = .ok (.iload_n 1, 1) := by decide +kernel
theorem dX9_pastBlanks_1 : decode cX9_pastBlanks 1 = .ok (.istore_n 2, 1) := by decide +kernel
theorem dX9_pastBlanks_2 : decode cX9_pastBlanks 2 = .ok (.iconst 0, 1) := by decide +kernel
theorem dX9_pastBlanks_3 : decode cX9_pastBlanks 3 = .ok (.istore_n 3, 1) := by decide +kernel
theorem dX9_pastBlanks_4 : decode cX9_pastBlanks 4 = .ok (.iload_n 2, 1) := by decide +kernel
theorem dX9_pastBlanks_5 : decode cX9_pastBlanks 5 = .ok (.aload_n 0, 1) := by decide +kernel
theorem dX9_pastBlanks_6 : decode cX9_pastBlanks 6 = .ok (.getfield 132, 3) := by decide +kernel
theorem dX9_pastBlanks_9 : decode cX9_pastBlanks 9 = .ok (.if_icmp .ge 68, 3) := by decide +kernel
theorem dX9_pastBlanks_12 : decode cX9_pastBlanks 12 = .ok (.iload_n 3, 1) := by decide +kernel
theorem dX9_pastBlanks_13 : decode cX9_pastBlanks 13 = .ok (.ifCond .ne 26, 3) := by decide +kernel
theorem dX9_pastBlanks_16 : decode cX9_pastBlanks 16 = .ok (.aload_n 0, 1) := by decide +kernel
theorem dX9_pastBlanks_17 : decode cX9_pastBlanks 17 = .ok (.getfield 83, 3) := by decide +kernel
theorem dX9_pastBlanks_20 : decode cX9_pastBlanks 20 = .ok (.iload_n 2, 1) := by decide +kernel
theorem dX9_pastBlanks_21 : decode cX9_pastBlanks 21 = .ok (.caload, 1) := by decide +kernel
theorem dX9_pastBlanks_22 : decode cX9_pastBlanks 22 = .ok (.bipush 35, 2) := by decide +kernel
theorem dX9_pastBlanks_24 : decode cX9_pastBlanks 24 = .ok (.if_icmp .eq 15, 3) := by decide +kernel
theorem dX9_pastBlanks_27 : decode cX9_pastBlanks 27 = .ok (.aload_n 0, 1) := by decide +kernel
theorem dX9_pastBlanks_28 : decode cX9_pastBlanks 28 = .ok (.getfield 83, 3) := by decide +kernel
theorem dX9_pastBlanks_31 : decode cX9_pastBlanks 31 = .ok (.iload_n 2, 1) := by decide +kernel
theorem dX9_pastBlanks_32 : decode cX9_pastBlanks 32 = .ok (.caload, 1) := by decide +kernel
theorem dX9_pastBlanks_33 : decode cX9_pastBlanks 33 = .ok (.invokestatic 146, 3) := by decide +kernel
theorem dX9_pastBlanks_36 : decode cX9_pastBlanks 36 = .ok (.ifCond .eq 41, 3) := by decide +kernel
theorem dX9_pastBlanks_39 : decode cX9_pastBlanks 39 = .ok (.aload_n 0, 1) := by decide +kernel
theorem dX9_pastBlanks_40 : decode cX9_pastBlanks 40 = .ok (.getfield 83, 3) := by decide +kernel
theorem dX9_pastBlanks_43 : decode cX9_pastBlanks 43 = .ok (.iload_n 2, 1) := by decide +kernel
theorem dX9_pastBlanks_44 : decode cX9_pastBlanks 44 = .ok (.caload, 1) := by decide +kernel
theorem dX9_pastBlanks_45 : decode cX9_pastBlanks 45 = .ok (.bipush 35, 2) := by decide +kernel
theorem dX9_pastBlanks_47 : decode cX9_pastBlanks 47 = .ok (.if_icmp .eq 18, 3) := by decide +kernel
theorem dX9_pastBlanks_50 : decode cX9_pastBlanks 50 = .ok (.iload_n 3, 1) := by decide +kernel
theorem dX9_pastBlanks_51 : decode cX9_pastBlanks 51 = .ok (.ifCond .eq 18, 3) := by decide +kernel
theorem dX9_pastBlanks_69 : decode cX9_pastBlanks 69 = .ok (.iconst 0, 1) := by decide +kernel
theorem dX9_pastBlanks_70 : decode cX9_pastBlanks 70 = .ok (.istore_n 3, 1) := by decide +kernel
theorem dX9_pastBlanks_71 : decode cX9_pastBlanks 71 = .ok (.iinc 2 1, 3) := by decide +kernel
theorem dX9_pastBlanks_74 : decode cX9_pastBlanks 74 = .ok (.goto (-70), 3) := by decide +kernel
theorem dX9_pastBlanks_77 : decode cX9_pastBlanks 77 = .ok (.iload_n 2, 1) := by decide +kernel
theorem dX9_pastBlanks_78 : decode cX9_pastBlanks 78 = .ok (.ireturn, 1) := by decide +kernel
def rpX9_pastBlanks : List Nat := [0, 1, 2, 3, 4, 5, 6, 9, 12, 13, 16, 17, 20, 21, 22, 24, 27, 28, 31, 32, 33, 36, 39, 40, 43, 44, 45, 47, 50, 51, 54, 65, 69, 70, 71, 74, 77, 78]
noncomputable def rcX9_pastBlanks : List rz_B := [rz_iload 1, rz_istore 2, rz_cst 0, rz_istore 3, rz_iload 2, rz_aload 0, rz_getf (Nat.add (Nat.mul 256 11) 1) 10 rz_i, rz_icmpge 36, rz_iload 3, rz_ifne 22, rz_aload 0, rz_getf (Nat.add (Nat.mul 256 11) 1) 9 rz_r, rz_iload 2, rz_cald, rz_cst 35, rz_icmpeq 22, rz_aload 0, rz_getf (Nat.add (Nat.mul 256 11) 1) 9 rz_r, rz_iload 2, rz_cald, rz_callS 1 rgX9_isBlank, rz_ifeq 36, rz_aload 0, rz_getf (Nat.add (Nat.mul 256 11) 1) 9 rz_r, rz_iload 2, rz_cald, rz_cst 35, rz_icmpeq 31, rz_iload 3, rz_ifeq 32, rz_no, rz_no, rz_cst 0, rz_istore 3, rz_iinc 2 1, rz_goto 4, rz_iload 2, rz_iret]
noncomputable def rgX9_pastBlanks : rz_L → rz_M → rz_Z → Bool := rz_go rcX9_pastBlanks 4 1000000
def rrX9_pastBlanks : Room := { frames := 1, cells := 0, slots := 0, locals := 20 }
theorem rmX9_pastBlanks (l : Launch) {G : rz_G} (hG : rz_Gd G) (vs : rz_L) (M : rz_M) (Z : rz_Z) (hn : vs.length = 2) (h : rgX9_pastBlanks vs M Z = true) : Met l yX9_pastBlanks (Cond.code yX9_pastBlanks cX9_pastBlanks 4 (some .int) :: rz_TB) rrX9_pastBlanks (rz_Pre G vs M) (rz_Qi G M.2 Z) 0 0 (fun q => rz_b G ≤ q) := by
  obtain ⟨D, tc, ad, b, xs, rfl⟩ := id hG
  refine rz_body (pcs := rpX9_pastBlanks) (by decide) rfl (by rw [hn]; decide) h ?_
  intro p e R s m args below meth c hC
  obtain ⟨hx, hb, hml, hr, hlk, ho, hts, hKn, hRm⟩ := id hC
  obtain ⟨hK, hA, hSt⟩ := id hKn
  have hw : ∀ {i j : Nat} {ws : List Cond} {w : Cond}, rz_WW[i]? = some ws → ws[j]? = some w → w.before args s = true := fun h1 h2 => hts _ (List.mem_cons_of_mem _ (rz_mem h1 h2))
  refine rz_All_c (i := 0) (fun k J hk hJ => rz_iload_n_ok (pc := 0) hx hb dX9_pastBlanks_0 rfl hk) ?_
  refine rz_All_c (i := 1) (fun k J hk hJ => rz_istore_n_ok (pc := 1) hx hb dX9_pastBlanks_1 rfl hk) ?_
  refine rz_All_c (i := 2) (fun k J hk hJ => rz_iconst_ok (pc := 2) hx hb dX9_pastBlanks_2 rfl hk) ?_
  refine rz_All_c (i := 3) (fun k J hk hJ => rz_istore_n_ok (pc := 3) hx hb dX9_pastBlanks_3 rfl hk) ?_
  refine rz_All_c (i := 4) (fun k J hk hJ => rz_iload_n_ok (pc := 4) hx hb dX9_pastBlanks_4 rfl hk) ?_
  refine rz_All_c (i := 5) (fun k J hk hJ => rz_aload_n_ok (pc := 5) hx hb dX9_pastBlanks_5 rfl hk) ?_
  refine rz_All_c (i := 6) (fun k J hk hJ => rz_getf_ok (pc := 6) (own := RX9) (ref := "ThreadJudge$Reader") (C := RX9) (T := TX9) (N := 19) (ci := 11) (index := 132) (f := 10) (t := 0) (Ts := Cond.code yX9_pastBlanks cX9_pastBlanks 4 (some .int) :: rz_TB) hx hb hts rz_in11 ho hK rfl (by decide) rfl (fun _ => rfl) (hw (i := 3) (j := 21) rfl rfl) (fun _ z => z) dX9_pastBlanks_6 hk) ?_
  refine rz_All_c (i := 7) (fun k J hk hJ => rz_icmpge_ok (pc := 9) hx hb dX9_pastBlanks_9 rfl hk (hJ 36)) ?_
  refine rz_All_c (i := 8) (fun k J hk hJ => rz_iload_n_ok (pc := 12) hx hb dX9_pastBlanks_12 rfl hk) ?_
  refine rz_All_c (i := 9) (fun k J hk hJ => rz_ifne_ok (pc := 13) hx hb dX9_pastBlanks_13 rfl hk (hJ 22)) ?_
  refine rz_All_c (i := 10) (fun k J hk hJ => rz_aload_n_ok (pc := 16) hx hb dX9_pastBlanks_16 rfl hk) ?_
  refine rz_All_c (i := 11) (fun k J hk hJ => rz_getf_ok (pc := 17) (own := RX9) (ref := "ThreadJudge$Reader") (C := RX9) (T := TX9) (N := 19) (ci := 11) (index := 83) (f := 9) (t := 2) (Ts := Cond.code yX9_pastBlanks cX9_pastBlanks 4 (some .int) :: rz_TB) hx hb hts rz_in11 ho hK rfl (by decide) rfl (fun _ => rfl) (hw (i := 3) (j := 20) rfl rfl) (fun _ z => z) dX9_pastBlanks_17 hk) ?_
  refine rz_All_c (i := 12) (fun k J hk hJ => rz_iload_n_ok (pc := 20) hx hb dX9_pastBlanks_20 rfl hk) ?_
  refine rz_All_c (i := 13) (fun k J hk hJ => rz_cald_ok (pc := 21) hx hb hK dX9_pastBlanks_21 hk) ?_
  refine rz_All_c (i := 14) (fun k J hk hJ => rz_bipush_ok (pc := 22) hx hb dX9_pastBlanks_22 (by decide) hk) ?_
  refine rz_All_c (i := 15) (fun k J hk hJ => rz_icmpeq_ok (pc := 24) hx hb dX9_pastBlanks_24 rfl hk (hJ 22)) ?_
  refine rz_All_c (i := 16) (fun k J hk hJ => rz_aload_n_ok (pc := 27) hx hb dX9_pastBlanks_27 rfl hk) ?_
  refine rz_All_c (i := 17) (fun k J hk hJ => rz_getf_ok (pc := 28) (own := RX9) (ref := "ThreadJudge$Reader") (C := RX9) (T := TX9) (N := 19) (ci := 11) (index := 83) (f := 9) (t := 2) (Ts := Cond.code yX9_pastBlanks cX9_pastBlanks 4 (some .int) :: rz_TB) hx hb hts rz_in11 ho hK rfl (by decide) rfl (fun _ => rfl) (hw (i := 3) (j := 20) rfl rfl) (fun _ z => z) dX9_pastBlanks_28 hk) ?_
  refine rz_All_c (i := 18) (fun k J hk hJ => rz_iload_n_ok (pc := 31) hx hb dX9_pastBlanks_31 rfl hk) ?_
  refine rz_All_c (i := 19) (fun k J hk hJ => rz_cald_ok (pc := 32) hx hb hK dX9_pastBlanks_32 hk) ?_
  refine rz_All_c (i := 20) (fun k J hk hJ => rz_callS_ok (pc := 33) (own := RX9) hC rfl (rmX9_isBlank l hG) (rz_cwS 1 hC rz_good (rz_mem (i := 4) (j := 2) rfl rfl) (rz_mem (i := 4) (j := 3) rfl rfl) (rz_mem (i := 1) (j := 21) rfl rfl) (rz_mem (i := 4) (j := 4) rfl rfl) ⟨rfl, by decide, by decide, by decide +kernel⟩ rfl rfl ⟨by decide, by decide⟩) dX9_pastBlanks_33 hk) ?_
  refine rz_All_c (i := 21) (fun k J hk hJ => rz_ifeq_ok (pc := 36) hx hb dX9_pastBlanks_36 rfl hk (hJ 36)) ?_
  refine rz_All_c (i := 22) (fun k J hk hJ => rz_aload_n_ok (pc := 39) hx hb dX9_pastBlanks_39 rfl hk) ?_
  refine rz_All_c (i := 23) (fun k J hk hJ => rz_getf_ok (pc := 40) (own := RX9) (ref := "ThreadJudge$Reader") (C := RX9) (T := TX9) (N := 19) (ci := 11) (index := 83) (f := 9) (t := 2) (Ts := Cond.code yX9_pastBlanks cX9_pastBlanks 4 (some .int) :: rz_TB) hx hb hts rz_in11 ho hK rfl (by decide) rfl (fun _ => rfl) (hw (i := 3) (j := 20) rfl rfl) (fun _ z => z) dX9_pastBlanks_40 hk) ?_
  refine rz_All_c (i := 24) (fun k J hk hJ => rz_iload_n_ok (pc := 43) hx hb dX9_pastBlanks_43 rfl hk) ?_
  refine rz_All_c (i := 25) (fun k J hk hJ => rz_cald_ok (pc := 44) hx hb hK dX9_pastBlanks_44 hk) ?_
  refine rz_All_c (i := 26) (fun k J hk hJ => rz_bipush_ok (pc := 45) hx hb dX9_pastBlanks_45 (by decide) hk) ?_
  refine rz_All_c (i := 27) (fun k J hk hJ => rz_icmpeq_ok (pc := 47) hx hb dX9_pastBlanks_47 rfl hk (hJ 31)) ?_
  refine rz_All_c (i := 28) (fun k J hk hJ => rz_iload_n_ok (pc := 50) hx hb dX9_pastBlanks_50 rfl hk) ?_
  refine rz_All_c (i := 29) (fun k J hk hJ => rz_ifeq_ok (pc := 51) hx hb dX9_pastBlanks_51 rfl hk (hJ 32)) ?_
  refine rz_All_c (i := 30) (fun k J hk hJ => rz_no_ok) ?_
  refine rz_All_c (i := 31) (fun k J hk hJ => rz_no_ok) ?_
  refine rz_All_c (i := 32) (fun k J hk hJ => rz_iconst_ok (pc := 69) hx hb dX9_pastBlanks_69 rfl hk) ?_
  refine rz_All_c (i := 33) (fun k J hk hJ => rz_istore_n_ok (pc := 70) hx hb dX9_pastBlanks_70 rfl hk) ?_
  refine rz_All_c (i := 34) (fun k J hk hJ => rz_iinc_ok (pc := 71) hx hb dX9_pastBlanks_71 (by decide) hk) ?_
  refine rz_All_c (i := 35) (fun k J hk hJ => rz_goto_ok (pc := 74) hx hb dX9_pastBlanks_74 rfl (hJ 4)) ?_
  refine rz_All_c (i := 36) (fun k J hk hJ => rz_iload_n_ok (pc := 77) hx hb dX9_pastBlanks_77 rfl hk) ?_
  refine rz_All_c (i := 37) (fun k J hk hJ => rz_iret_ok (pc := 78) hC dX9_pastBlanks_78) ?_
  exact trivial
theorem dX9_cut_0 : decode cX9_cut 0 = .ok (.aload_n 0, 1) := by decide +kernel
theorem dX9_cut_1 : decode cX9_cut 1 = .ok (.aload_n 1, 1) := by decide +kernel
theorem dX9_cut_2 : decode cX9_cut 2 = .ok (.putfield 83, 3) := by decide +kernel
theorem dX9_cut_5 : decode cX9_cut 5 = .ok (.aload_n 0, 1) := by decide +kernel
theorem dX9_cut_6 : decode cX9_cut 6 = .ok (.iload_n 2, 1) := by decide +kernel
theorem dX9_cut_7 : decode cX9_cut 7 = .ok (.putfield 132, 3) := by decide +kernel
theorem dX9_cut_10 : decode cX9_cut 10 = .ok (.aload_n 0, 1) := by decide +kernel
theorem dX9_cut_11 : decode cX9_cut 11 = .ok (.iconst 0, 1) := by decide +kernel
theorem dX9_cut_12 : decode cX9_cut 12 = .ok (.putfield 129, 3) := by decide +kernel
theorem dX9_cut_15 : decode cX9_cut 15 = .ok (.aload_n 0, 1) := by decide +kernel
theorem dX9_cut_16 : decode cX9_cut 16 = .ok (.iconst 0, 1) := by decide +kernel
theorem dX9_cut_17 : decode cX9_cut 17 = .ok (.invokevirtual 135, 3) := by decide +kernel
theorem dX9_cut_20 : decode cX9_cut 20 = .ok (.istore_n 3, 1) := by decide +kernel
theorem dX9_cut_21 : decode cX9_cut 21 = .ok (.iconst 0, 1) := by decide +kernel
theorem dX9_cut_22 : decode cX9_cut 22 = .ok (.istore 4, 2) := by decide +kernel
theorem dX9_cut_24 : decode cX9_cut 24 = .ok (.iload 4, 2) := by decide +kernel
theorem dX9_cut_26 : decode cX9_cut 26 = .ok (.iload_n 2, 1) := by decide +kernel
theorem dX9_cut_27 : decode cX9_cut 27 = .ok (.if_icmp .ge 37, 3) := by decide +kernel
theorem dX9_cut_30 : decode cX9_cut 30 = .ok (.iload_n 3, 1) := by decide +kernel
theorem dX9_cut_31 : decode cX9_cut 31 = .ok (.ifCond .lt 33, 3) := by decide +kernel
theorem dX9_cut_34 : decode cX9_cut 34 = .ok (.iload_n 3, 1) := by decide +kernel
theorem dX9_cut_35 : decode cX9_cut 35 = .ok (.aload_n 0, 1) := by decide +kernel
theorem dX9_cut_36 : decode cX9_cut 36 = .ok (.getfield 132, 3) := by decide +kernel
theorem dX9_cut_39 : decode cX9_cut 39 = .ok (.if_icmp .ge 25, 3) := by decide +kernel
theorem dX9_cut_42 : decode cX9_cut 42 = .ok (.aload_n 0, 1) := by decide +kernel
theorem dX9_cut_43 : decode cX9_cut 43 = .ok (.iload_n 3, 1) := by decide +kernel
theorem dX9_cut_44 : decode cX9_cut 44 = .ok (.invokevirtual 139, 3) := by decide +kernel
theorem dX9_cut_47 : decode cX9_cut 47 = .ok (.istore_n 3, 1) := by decide +kernel
theorem dX9_cut_48 : decode cX9_cut 48 = .ok (.iload_n 3, 1) := by decide +kernel
theorem dX9_cut_49 : decode cX9_cut 49 = .ok (.ifCond .lt 9, 3) := by decide +kernel
theorem dX9_cut_52 : decode cX9_cut 52 = .ok (.aload_n 0, 1) := by decide +kernel
theorem dX9_cut_53 : decode cX9_cut 53 = .ok (.iload_n 3, 1) := by decide +kernel
theorem dX9_cut_54 : decode cX9_cut 54 = .ok (.invokevirtual 135, 3) := by decide +kernel
theorem dX9_cut_57 : decode cX9_cut 57 = .ok (.istore_n 3, 1) := by decide +kernel
theorem dX9_cut_58 : decode cX9_cut 58 = .ok (.iinc 4 1, 3) := by decide +kernel
theorem dX9_cut_61 : decode cX9_cut 61 = .ok (.goto (-37), 3) := by decide +kernel
theorem dX9_cut_64 : decode cX9_cut 64 = .ok (.aload_n 0, 1) := by decide +kernel
theorem dX9_cut_65 : decode cX9_cut 65 = .ok (.iconst 0, 1) := by decide +kernel
theorem dX9_cut_66 : decode cX9_cut 66 = .ok (.aload_n 0, 1) := by decide +kernel
theorem dX9_cut_67 : decode cX9_cut 67 = .ok (.getfield 132, 3) := by decide +kernel
theorem dX9_cut_70 : decode cX9_cut 70 = .ok (.iconst 0, 1) := by decide +kernel
theorem dX9_cut_71 : decode cX9_cut 71 = .ok (.invokevirtual 142, 3) := by decide +kernel
theorem dX9_cut_74 : decode cX9_cut 74 = .ok (.return_, 1) := by decide +kernel
def rpX9_cut : List Nat := [0, 1, 2, 5, 6, 7, 10, 11, 12, 15, 16, 17, 20, 21, 22, 24, 26, 27, 30, 31, 34, 35, 36, 39, 42, 43, 44, 47, 48, 49, 52, 53, 54, 57, 58, 61, 64, 65, 66, 67, 70, 71, 74]
noncomputable def rcX9_cut : List rz_B := [rz_aload 0, rz_aload 1, rz_putf (Nat.add (Nat.mul 256 11) 1) 9 rz_unR, rz_aload 0, rz_iload 2, rz_putf (Nat.add (Nat.mul 256 11) 1) 10 rz_unI, rz_aload 0, rz_cst 0, rz_putf (Nat.add (Nat.mul 256 11) 1) 14 rz_unI, rz_aload 0, rz_cst 0, rz_callV 1 (Nat.add (Nat.mul 256 11) 1) rgX9_pastBlanks, rz_istore 3, rz_cst 0, rz_istore 4, rz_iload 4, rz_iload 2, rz_icmpge 36, rz_iload 3, rz_iflt 36, rz_iload 3, rz_aload 0, rz_getf (Nat.add (Nat.mul 256 11) 1) 10 rz_i, rz_icmpge 36, rz_aload 0, rz_iload 3, rz_callV 1 (Nat.add (Nat.mul 256 11) 1) rgX9_cutOne, rz_istore 3, rz_iload 3, rz_iflt 34, rz_aload 0, rz_iload 3, rz_callV 1 (Nat.add (Nat.mul 256 11) 1) rgX9_pastBlanks, rz_istore 3, rz_iinc 4 1, rz_goto 15, rz_aload 0, rz_cst 0, rz_aload 0, rz_getf (Nat.add (Nat.mul 256 11) 1) 10 rz_i, rz_cst 0, rz_callVv 3 (Nat.add (Nat.mul 256 11) 1) rgX9_token, rz_vret]
noncomputable def rgX9_cut : rz_L → rz_M → rz_Z → Bool := rz_go rcX9_cut 5 1000000
def rrX9_cut : Room := { frames := 5, cells := 0, slots := 0, locals := 150 }
theorem rmX9_cut (l : Launch) {G : rz_G} (hG : rz_Gd G) (vs : rz_L) (M : rz_M) (Z : rz_Z) (hn : vs.length = 3) (h : rgX9_cut vs M Z = true) : Met l yX9_cut (Cond.code yX9_cut cX9_cut 5 none :: rz_TB) rrX9_cut (rz_Pre G vs M) (rz_Qv G M.2 Z) 0 0 (fun q => rz_b G ≤ q) := by
  obtain ⟨D, tc, ad, b, xs, rfl⟩ := id hG
  refine rz_body (pcs := rpX9_cut) (by decide) rfl (by rw [hn]; decide) h ?_
  intro p e R s m args below meth c hC
  obtain ⟨hx, hb, hml, hr, hlk, ho, hts, hKn, hRm⟩ := id hC
  obtain ⟨hK, hA, hSt⟩ := id hKn
  have hw : ∀ {i j : Nat} {ws : List Cond} {w : Cond}, rz_WW[i]? = some ws → ws[j]? = some w → w.before args s = true := fun h1 h2 => hts _ (List.mem_cons_of_mem _ (rz_mem h1 h2))
  refine rz_All_c (i := 0) (fun k J hk hJ => rz_aload_n_ok (pc := 0) hx hb dX9_cut_0 rfl hk) ?_
  refine rz_All_c (i := 1) (fun k J hk hJ => rz_aload_n_ok (pc := 1) hx hb dX9_cut_1 rfl hk) ?_
  refine rz_All_c (i := 2) (fun k J hk hJ => rz_putf_ok (pc := 2) (own := RX9) (ref := "ThreadJudge$Reader") (C := RX9) (T := TX9) (N := 19) (ci := 11) (index := 83) (f := 9) (t := 2) (Ts := Cond.code yX9_cut cX9_cut 5 none :: rz_TB) hx hb hts rz_in11 tyX9 tyX9_ok nmX9 ho hK hA rfl (by decide) rfl (rz_UnR _ (Or.inr ⟨_, rfl⟩)) rfl (tyX9_ok 9 (by decide)) (hw (i := 3) (j := 20) rfl rfl) (fun _ z => z) dX9_cut_2 hk) ?_
  refine rz_All_c (i := 3) (fun k J hk hJ => rz_aload_n_ok (pc := 5) hx hb dX9_cut_5 rfl hk) ?_
  refine rz_All_c (i := 4) (fun k J hk hJ => rz_iload_n_ok (pc := 6) hx hb dX9_cut_6 rfl hk) ?_
  refine rz_All_c (i := 5) (fun k J hk hJ => rz_putf_ok (pc := 7) (own := RX9) (ref := "ThreadJudge$Reader") (C := RX9) (T := TX9) (N := 19) (ci := 11) (index := 132) (f := 10) (t := 0) (Ts := Cond.code yX9_cut cX9_cut 5 none :: rz_TB) hx hb hts rz_in11 tyX9 tyX9_ok nmX9 ho hK hA rfl (by decide) rfl (rz_UnI _) rfl (tyX9_ok 10 (by decide)) (hw (i := 3) (j := 21) rfl rfl) (fun _ z => z) dX9_cut_7 hk) ?_
  refine rz_All_c (i := 6) (fun k J hk hJ => rz_aload_n_ok (pc := 10) hx hb dX9_cut_10 rfl hk) ?_
  refine rz_All_c (i := 7) (fun k J hk hJ => rz_iconst_ok (pc := 11) hx hb dX9_cut_11 rfl hk) ?_
  refine rz_All_c (i := 8) (fun k J hk hJ => rz_putf_ok (pc := 12) (own := RX9) (ref := "ThreadJudge$Reader") (C := RX9) (T := TX9) (N := 19) (ci := 11) (index := 129) (f := 14) (t := 0) (Ts := Cond.code yX9_cut cX9_cut 5 none :: rz_TB) hx hb hts rz_in11 tyX9 tyX9_ok nmX9 ho hK hA rfl (by decide) rfl (rz_UnI _) rfl (tyX9_ok 14 (by decide)) (hw (i := 3) (j := 13) rfl rfl) (fun _ z => z) dX9_cut_12 hk) ?_
  refine rz_All_c (i := 9) (fun k J hk hJ => rz_aload_n_ok (pc := 15) hx hb dX9_cut_15 rfl hk) ?_
  refine rz_All_c (i := 10) (fun k J hk hJ => rz_iconst_ok (pc := 16) hx hb dX9_cut_16 rfl hk) ?_
  refine rz_All_c (i := 11) (fun k J hk hJ => rz_callV_ok (pc := 17) (own := RX9) (C := RX9) (T0 := TX9) (N0 := 19) hC rfl (rmX9_pastBlanks l hG) (rz_cwV 1 hC rz_good (rz_mem (i := 3) (j := 22) rfl rfl) (rz_mem (i := 3) (j := 23) rfl rfl) (rz_mem (i := 4) (j := 0) rfl rfl) (rz_mem (i := 1) (j := 21) rfl rfl) (rz_mem (i := 4) (j := 1) rfl rfl) ⟨rfl, by decide, by decide, by decide +kernel⟩ rfl rfl ⟨by decide, by decide⟩) rfl dX9_cut_17 hk) ?_
  refine rz_All_c (i := 12) (fun k J hk hJ => rz_istore_n_ok (pc := 20) hx hb dX9_cut_20 rfl hk) ?_
  refine rz_All_c (i := 13) (fun k J hk hJ => rz_iconst_ok (pc := 21) hx hb dX9_cut_21 rfl hk) ?_
  refine rz_All_c (i := 14) (fun k J hk hJ => rz_istore_ok (pc := 22) hx hb dX9_cut_22 hk) ?_
  refine rz_All_c (i := 15) (fun k J hk hJ => rz_iload_ok (pc := 24) hx hb dX9_cut_24 hk) ?_
  refine rz_All_c (i := 16) (fun k J hk hJ => rz_iload_n_ok (pc := 26) hx hb dX9_cut_26 rfl hk) ?_
  refine rz_All_c (i := 17) (fun k J hk hJ => rz_icmpge_ok (pc := 27) hx hb dX9_cut_27 rfl hk (hJ 36)) ?_
  refine rz_All_c (i := 18) (fun k J hk hJ => rz_iload_n_ok (pc := 30) hx hb dX9_cut_30 rfl hk) ?_
  refine rz_All_c (i := 19) (fun k J hk hJ => rz_iflt_ok (pc := 31) hx hb dX9_cut_31 rfl hk (hJ 36)) ?_
  refine rz_All_c (i := 20) (fun k J hk hJ => rz_iload_n_ok (pc := 34) hx hb dX9_cut_34 rfl hk) ?_
  refine rz_All_c (i := 21) (fun k J hk hJ => rz_aload_n_ok (pc := 35) hx hb dX9_cut_35 rfl hk) ?_
  refine rz_All_c (i := 22) (fun k J hk hJ => rz_getf_ok (pc := 36) (own := RX9) (ref := "ThreadJudge$Reader") (C := RX9) (T := TX9) (N := 19) (ci := 11) (index := 132) (f := 10) (t := 0) (Ts := Cond.code yX9_cut cX9_cut 5 none :: rz_TB) hx hb hts rz_in11 ho hK rfl (by decide) rfl (fun _ => rfl) (hw (i := 3) (j := 21) rfl rfl) (fun _ z => z) dX9_cut_36 hk) ?_
  refine rz_All_c (i := 23) (fun k J hk hJ => rz_icmpge_ok (pc := 39) hx hb dX9_cut_39 rfl hk (hJ 36)) ?_
  refine rz_All_c (i := 24) (fun k J hk hJ => rz_aload_n_ok (pc := 42) hx hb dX9_cut_42 rfl hk) ?_
  refine rz_All_c (i := 25) (fun k J hk hJ => rz_iload_n_ok (pc := 43) hx hb dX9_cut_43 rfl hk) ?_
  refine rz_All_c (i := 26) (fun k J hk hJ => rz_callV_ok (pc := 44) (own := RX9) (C := RX9) (T0 := TX9) (N0 := 19) hC rfl (rmX9_cutOne l hG) (rz_cwV 1 hC rz_good (rz_mem (i := 4) (j := 5) rfl rfl) (rz_mem (i := 4) (j := 6) rfl rfl) (rz_mem (i := 4) (j := 7) rfl rfl) (rz_mem (i := 1) (j := 21) rfl rfl) (rz_mem (i := 4) (j := 8) rfl rfl) ⟨rfl, by decide, by decide, by decide +kernel⟩ rfl rfl ⟨by decide, by decide⟩) rfl dX9_cut_44 hk) ?_
  refine rz_All_c (i := 27) (fun k J hk hJ => rz_istore_n_ok (pc := 47) hx hb dX9_cut_47 rfl hk) ?_
  refine rz_All_c (i := 28) (fun k J hk hJ => rz_iload_n_ok (pc := 48) hx hb dX9_cut_48 rfl hk) ?_
  refine rz_All_c (i := 29) (fun k J hk hJ => rz_iflt_ok (pc := 49) hx hb dX9_cut_49 rfl hk (hJ 34)) ?_
  refine rz_All_c (i := 30) (fun k J hk hJ => rz_aload_n_ok (pc := 52) hx hb dX9_cut_52 rfl hk) ?_
  refine rz_All_c (i := 31) (fun k J hk hJ => rz_iload_n_ok (pc := 53) hx hb dX9_cut_53 rfl hk) ?_
  refine rz_All_c (i := 32) (fun k J hk hJ => rz_callV_ok (pc := 54) (own := RX9) (C := RX9) (T0 := TX9) (N0 := 19) hC rfl (rmX9_pastBlanks l hG) (rz_cwV 1 hC rz_good (rz_mem (i := 3) (j := 22) rfl rfl) (rz_mem (i := 3) (j := 23) rfl rfl) (rz_mem (i := 4) (j := 0) rfl rfl) (rz_mem (i := 1) (j := 21) rfl rfl) (rz_mem (i := 4) (j := 1) rfl rfl) ⟨rfl, by decide, by decide, by decide +kernel⟩ rfl rfl ⟨by decide, by decide⟩) rfl dX9_cut_54 hk) ?_
  refine rz_All_c (i := 33) (fun k J hk hJ => rz_istore_n_ok (pc := 57) hx hb dX9_cut_57 rfl hk) ?_
  refine rz_All_c (i := 34) (fun k J hk hJ => rz_iinc_ok (pc := 58) hx hb dX9_cut_58 (by decide) hk) ?_
  refine rz_All_c (i := 35) (fun k J hk hJ => rz_goto_ok (pc := 61) hx hb dX9_cut_61 rfl (hJ 15)) ?_
  refine rz_All_c (i := 36) (fun k J hk hJ => rz_aload_n_ok (pc := 64) hx hb dX9_cut_64 rfl hk) ?_
  refine rz_All_c (i := 37) (fun k J hk hJ => rz_iconst_ok (pc := 65) hx hb dX9_cut_65 rfl hk) ?_
  refine rz_All_c (i := 38) (fun k J hk hJ => rz_aload_n_ok (pc := 66) hx hb dX9_cut_66 rfl hk) ?_
  refine rz_All_c (i := 39) (fun k J hk hJ => rz_getf_ok (pc := 67) (own := RX9) (ref := "ThreadJudge$Reader") (C := RX9) (T := TX9) (N := 19) (ci := 11) (index := 132) (f := 10) (t := 0) (Ts := Cond.code yX9_cut cX9_cut 5 none :: rz_TB) hx hb hts rz_in11 ho hK rfl (by decide) rfl (fun _ => rfl) (hw (i := 3) (j := 21) rfl rfl) (fun _ z => z) dX9_cut_67 hk) ?_
  refine rz_All_c (i := 40) (fun k J hk hJ => rz_iconst_ok (pc := 70) hx hb dX9_cut_70 rfl hk) ?_
  refine rz_All_c (i := 41) (fun k J hk hJ => rz_callVv_ok (pc := 71) (own := RX9) (C := RX9) (T0 := TX9) (N0 := 19) hC rfl (rmX9_token l hG) (rz_cwV 3 hC rz_good (rz_mem (i := 4) (j := 22) rfl rfl) (rz_mem (i := 4) (j := 23) rfl rfl) (rz_mem (i := 5) (j := 0) rfl rfl) (rz_mem (i := 1) (j := 21) rfl rfl) (rz_mem (i := 5) (j := 1) rfl rfl) ⟨rfl, by decide, by decide, by decide +kernel⟩ rfl rfl ⟨by decide, by decide⟩) rfl dX9_cut_71 hk) ?_
  refine rz_All_c (i := 42) (fun k J hk hJ => rz_vret_ok (pc := 74) hC dX9_cut_74) ?_
  exact trivial
theorem dX9_isName_0 : decode cX9_isName 0 = .ok (.aload_n 0, 1) := by decide +kernel
theorem dX9_isName_1 : decode cX9_isName 1 = .ok (.getfield 28, 3) := by decide +kernel
theorem dX9_isName_4 : decode cX9_isName 4 = .ok (.aload_n 0, 1) := by decide +kernel
theorem dX9_isName_5 : decode cX9_isName 5 = .ok (.getfield 187, 3) := by decide +kernel
theorem dX9_isName_8 : decode cX9_isName 8 = .ok (.iaload, 1) := by decide +kernel
theorem dX9_isName_9 : decode cX9_isName 9 = .ok (.iconst 1, 1) := by decide +kernel
theorem dX9_isName_10 : decode cX9_isName 10 = .ok (.if_icmp .ne 21, 3) := by decide +kernel
theorem dX9_isName_13 : decode cX9_isName 13 = .ok (.aload_n 0, 1) := by decide +kernel
theorem dX9_isName_14 : decode cX9_isName 14 = .ok (.getfield 34, 3) := by decide +kernel
theorem dX9_isName_17 : decode cX9_isName 17 = .ok (.aload_n 0, 1) := by decide +kernel
theorem dX9_isName_18 : decode cX9_isName 18 = .ok (.getfield 187, 3) := by decide +kernel
theorem dX9_isName_21 : decode cX9_isName 21 = .ok (.iaload, 1) := by decide +kernel
theorem dX9_isName_22 : decode cX9_isName 22 = .ok (.bipush 73, 2) := by decide +kernel
theorem dX9_isName_24 : decode cX9_isName 24 = .ok (.if_icmp .lt 7, 3) := by decide +kernel
theorem dX9_isName_27 : decode cX9_isName 27 = .ok (.iconst 1, 1) := by decide +kernel
theorem dX9_isName_28 : decode cX9_isName 28 = .ok (.goto 4, 3) := by decide +kernel
theorem dX9_isName_31 : decode cX9_isName 31 = .ok (.iconst 0, 1) := by decide +kernel
theorem dX9_isName_32 : decode cX9_isName 32 = .ok (.ireturn, 1) := by decide +kernel
def rpX9_isName : List Nat := [0, 1, 4, 5, 8, 9, 10, 13, 14, 17, 18, 21, 22, 24, 27, 28, 31, 32]
noncomputable def rcX9_isName : List rz_B := [rz_aload 0, rz_getf (Nat.add (Nat.mul 256 11) 1) 11 rz_r, rz_aload 0, rz_getf (Nat.add (Nat.mul 256 11) 1) 15 rz_i, rz_iald, rz_cst 1, rz_icmpne 16, rz_aload 0, rz_getf (Nat.add (Nat.mul 256 11) 1) 13 rz_r, rz_aload 0, rz_getf (Nat.add (Nat.mul 256 11) 1) 15 rz_i, rz_iald, rz_cst 73, rz_icmplt 16, rz_cst 1, rz_goto 17, rz_cst 0, rz_zret]
noncomputable def rgX9_isName : rz_L → rz_M → rz_Z → Bool := rz_go rcX9_isName 1 1000000
def rrX9_isName : Room := { frames := 0, cells := 0, slots := 0, locals := 0 }
theorem rmX9_isName (l : Launch) {G : rz_G} (hG : rz_Gd G) (vs : rz_L) (M : rz_M) (Z : rz_Z) (hn : vs.length = 1) (h : rgX9_isName vs M Z = true) : Met l yX9_isName (Cond.code yX9_isName cX9_isName 1 (some .boolean) :: rz_TB) rrX9_isName (rz_Pre G vs M) (rz_Qi G M.2 Z) 0 0 (fun q => rz_b G ≤ q) := by
  obtain ⟨D, tc, ad, b, xs, rfl⟩ := id hG
  refine rz_body (pcs := rpX9_isName) (by decide) rfl (by rw [hn]; decide) h ?_
  intro p e R s m args below meth c hC
  obtain ⟨hx, hb, hml, hr, hlk, ho, hts, hKn, hRm⟩ := id hC
  obtain ⟨hK, hA, hSt⟩ := id hKn
  have hw : ∀ {i j : Nat} {ws : List Cond} {w : Cond}, rz_WW[i]? = some ws → ws[j]? = some w → w.before args s = true := fun h1 h2 => hts _ (List.mem_cons_of_mem _ (rz_mem h1 h2))
  refine rz_All_c (i := 0) (fun k J hk hJ => rz_aload_n_ok (pc := 0) hx hb dX9_isName_0 rfl hk) ?_
  refine rz_All_c (i := 1) (fun k J hk hJ => rz_getf_ok (pc := 1) (own := RX9) (ref := "ThreadJudge$Reader") (C := RX9) (T := TX9) (N := 19) (ci := 11) (index := 28) (f := 11) (t := 2) (Ts := Cond.code yX9_isName cX9_isName 1 (some .boolean) :: rz_TB) hx hb hts rz_in11 ho hK rfl (by decide) rfl (fun _ => rfl) (hw (i := 3) (j := 14) rfl rfl) (fun _ z => z) dX9_isName_1 hk) ?_
  refine rz_All_c (i := 2) (fun k J hk hJ => rz_aload_n_ok (pc := 4) hx hb dX9_isName_4 rfl hk) ?_
  refine rz_All_c (i := 3) (fun k J hk hJ => rz_getf_ok (pc := 5) (own := RX9) (ref := "ThreadJudge$Reader") (C := RX9) (T := TX9) (N := 19) (ci := 11) (index := 187) (f := 15) (t := 0) (Ts := Cond.code yX9_isName cX9_isName 1 (some .boolean) :: rz_TB) hx hb hts rz_in11 ho hK rfl (by decide) rfl (fun _ => rfl) (hw (i := 3) (j := 11) rfl rfl) (fun _ z => z) dX9_isName_5 hk) ?_
  refine rz_All_c (i := 4) (fun k J hk hJ => rz_iald_ok (pc := 8) hx hb hK dX9_isName_8 hk) ?_
  refine rz_All_c (i := 5) (fun k J hk hJ => rz_iconst_ok (pc := 9) hx hb dX9_isName_9 rfl hk) ?_
  refine rz_All_c (i := 6) (fun k J hk hJ => rz_icmpne_ok (pc := 10) hx hb dX9_isName_10 rfl hk (hJ 16)) ?_
  refine rz_All_c (i := 7) (fun k J hk hJ => rz_aload_n_ok (pc := 13) hx hb dX9_isName_13 rfl hk) ?_
  refine rz_All_c (i := 8) (fun k J hk hJ => rz_getf_ok (pc := 14) (own := RX9) (ref := "ThreadJudge$Reader") (C := RX9) (T := TX9) (N := 19) (ci := 11) (index := 34) (f := 13) (t := 2) (Ts := Cond.code yX9_isName cX9_isName 1 (some .boolean) :: rz_TB) hx hb hts rz_in11 ho hK rfl (by decide) rfl (fun _ => rfl) (hw (i := 5) (j := 2) rfl rfl) (fun _ z => z) dX9_isName_14 hk) ?_
  refine rz_All_c (i := 9) (fun k J hk hJ => rz_aload_n_ok (pc := 17) hx hb dX9_isName_17 rfl hk) ?_
  refine rz_All_c (i := 10) (fun k J hk hJ => rz_getf_ok (pc := 18) (own := RX9) (ref := "ThreadJudge$Reader") (C := RX9) (T := TX9) (N := 19) (ci := 11) (index := 187) (f := 15) (t := 0) (Ts := Cond.code yX9_isName cX9_isName 1 (some .boolean) :: rz_TB) hx hb hts rz_in11 ho hK rfl (by decide) rfl (fun _ => rfl) (hw (i := 3) (j := 11) rfl rfl) (fun _ z => z) dX9_isName_18 hk) ?_
  refine rz_All_c (i := 11) (fun k J hk hJ => rz_iald_ok (pc := 21) hx hb hK dX9_isName_21 hk) ?_
  refine rz_All_c (i := 12) (fun k J hk hJ => rz_bipush_ok (pc := 22) hx hb dX9_isName_22 (by decide) hk) ?_
  refine rz_All_c (i := 13) (fun k J hk hJ => rz_icmplt_ok (pc := 24) hx hb dX9_isName_24 rfl hk (hJ 16)) ?_
  refine rz_All_c (i := 14) (fun k J hk hJ => rz_iconst_ok (pc := 27) hx hb dX9_isName_27 rfl hk) ?_
  refine rz_All_c (i := 15) (fun k J hk hJ => rz_goto_ok (pc := 28) hx hb dX9_isName_28 rfl (hJ 17)) ?_
  refine rz_All_c (i := 16) (fun k J hk hJ => rz_iconst_ok (pc := 31) hx hb dX9_isName_31 rfl hk) ?_
  refine rz_All_c (i := 17) (fun k J hk hJ => rz_zret_ok (pc := 32) hC dX9_isName_32) ?_
  exact trivial
theorem dX9_isSign_0 : decode cX9_isSign 0 = .ok (.aload_n 0, 1) := by decide +kernel
theorem dX9_isSign_1 : decode cX9_isSign 1 = .ok (.getfield 28, 3) := by decide +kernel
theorem dX9_isSign_4 : decode cX9_isSign 4 = .ok (.aload_n 0, 1) := by decide +kernel
theorem dX9_isSign_5 : decode cX9_isSign 5 = .ok (.getfield 187, 3) := by decide +kernel
theorem dX9_isSign_8 : decode cX9_isSign 8 = .ok (.iaload, 1) := by decide +kernel
theorem dX9_isSign_9 : decode cX9_isSign 9 = .ok (.iconst 4, 1) := by decide +kernel
theorem dX9_isSign_10 : decode cX9_isSign 10 = .ok (.if_icmp .ne 20, 3) := by decide +kernel
theorem dX9_isSign_13 : decode cX9_isSign 13 = .ok (.aload_n 0, 1) := by decide +kernel
theorem dX9_isSign_14 : decode cX9_isSign 14 = .ok (.getfield 34, 3) := by decide +kernel
theorem dX9_isSign_17 : decode cX9_isSign 17 = .ok (.aload_n 0, 1) := by decide +kernel
theorem dX9_isSign_18 : decode cX9_isSign 18 = .ok (.getfield 187, 3) := by decide +kernel
theorem dX9_isSign_21 : decode cX9_isSign 21 = .ok (.iaload, 1) := by decide +kernel
theorem dX9_isSign_22 : decode cX9_isSign 22 = .ok (.iload_n 1, 1) := by decide +kernel
theorem dX9_isSign_23 : decode cX9_isSign 23 = .ok (.if_icmp .ne 7, 3) := by decide +kernel
theorem dX9_isSign_26 : decode cX9_isSign 26 = .ok (.iconst 1, 1) := by decide +kernel
theorem dX9_isSign_27 : decode cX9_isSign 27 = .ok (.goto 4, 3) := by decide +kernel
theorem dX9_isSign_30 : decode cX9_isSign 30 = .ok (.iconst 0, 1) := by decide +kernel
theorem dX9_isSign_31 : decode cX9_isSign 31 = .ok (.ireturn, 1) := by decide +kernel
def rpX9_isSign : List Nat := [0, 1, 4, 5, 8, 9, 10, 13, 14, 17, 18, 21, 22, 23, 26, 27, 30, 31]
noncomputable def rcX9_isSign : List rz_B := [rz_aload 0, rz_getf (Nat.add (Nat.mul 256 11) 1) 11 rz_r, rz_aload 0, rz_getf (Nat.add (Nat.mul 256 11) 1) 15 rz_i, rz_iald, rz_cst 4, rz_icmpne 16, rz_aload 0, rz_getf (Nat.add (Nat.mul 256 11) 1) 13 rz_r, rz_aload 0, rz_getf (Nat.add (Nat.mul 256 11) 1) 15 rz_i, rz_iald, rz_iload 1, rz_icmpne 16, rz_cst 1, rz_goto 17, rz_cst 0, rz_zret]
noncomputable def rgX9_isSign : rz_L → rz_M → rz_Z → Bool := rz_go rcX9_isSign 2 1000000
def rrX9_isSign : Room := { frames := 0, cells := 0, slots := 0, locals := 0 }
theorem rmX9_isSign (l : Launch) {G : rz_G} (hG : rz_Gd G) (vs : rz_L) (M : rz_M) (Z : rz_Z) (hn : vs.length = 2) (h : rgX9_isSign vs M Z = true) : Met l yX9_isSign (Cond.code yX9_isSign cX9_isSign 2 (some .boolean) :: rz_TB) rrX9_isSign (rz_Pre G vs M) (rz_Qi G M.2 Z) 0 0 (fun q => rz_b G ≤ q) := by
  obtain ⟨D, tc, ad, b, xs, rfl⟩ := id hG
  refine rz_body (pcs := rpX9_isSign) (by decide) rfl (by rw [hn]; decide) h ?_
  intro p e R s m args below meth c hC
  obtain ⟨hx, hb, hml, hr, hlk, ho, hts, hKn, hRm⟩ := id hC
  obtain ⟨hK, hA, hSt⟩ := id hKn
  have hw : ∀ {i j : Nat} {ws : List Cond} {w : Cond}, rz_WW[i]? = some ws → ws[j]? = some w → w.before args s = true := fun h1 h2 => hts _ (List.mem_cons_of_mem _ (rz_mem h1 h2))
  refine rz_All_c (i := 0) (fun k J hk hJ => rz_aload_n_ok (pc := 0) hx hb dX9_isSign_0 rfl hk) ?_
  refine rz_All_c (i := 1) (fun k J hk hJ => rz_getf_ok (pc := 1) (own := RX9) (ref := "ThreadJudge$Reader") (C := RX9) (T := TX9) (N := 19) (ci := 11) (index := 28) (f := 11) (t := 2) (Ts := Cond.code yX9_isSign cX9_isSign 2 (some .boolean) :: rz_TB) hx hb hts rz_in11 ho hK rfl (by decide) rfl (fun _ => rfl) (hw (i := 3) (j := 14) rfl rfl) (fun _ z => z) dX9_isSign_1 hk) ?_
  refine rz_All_c (i := 2) (fun k J hk hJ => rz_aload_n_ok (pc := 4) hx hb dX9_isSign_4 rfl hk) ?_
  refine rz_All_c (i := 3) (fun k J hk hJ => rz_getf_ok (pc := 5) (own := RX9) (ref := "ThreadJudge$Reader") (C := RX9) (T := TX9) (N := 19) (ci := 11) (index := 187) (f := 15) (t := 0) (Ts := Cond.code yX9_isSign cX9_isSign 2 (some .boolean) :: rz_TB) hx hb hts rz_in11 ho hK rfl (by decide) rfl (fun _ => rfl) (hw (i := 3) (j := 11) rfl rfl) (fun _ z => z) dX9_isSign_5 hk) ?_
  refine rz_All_c (i := 4) (fun k J hk hJ => rz_iald_ok (pc := 8) hx hb hK dX9_isSign_8 hk) ?_
  refine rz_All_c (i := 5) (fun k J hk hJ => rz_iconst_ok (pc := 9) hx hb dX9_isSign_9 rfl hk) ?_
  refine rz_All_c (i := 6) (fun k J hk hJ => rz_icmpne_ok (pc := 10) hx hb dX9_isSign_10 rfl hk (hJ 16)) ?_
  refine rz_All_c (i := 7) (fun k J hk hJ => rz_aload_n_ok (pc := 13) hx hb dX9_isSign_13 rfl hk) ?_
  refine rz_All_c (i := 8) (fun k J hk hJ => rz_getf_ok (pc := 14) (own := RX9) (ref := "ThreadJudge$Reader") (C := RX9) (T := TX9) (N := 19) (ci := 11) (index := 34) (f := 13) (t := 2) (Ts := Cond.code yX9_isSign cX9_isSign 2 (some .boolean) :: rz_TB) hx hb hts rz_in11 ho hK rfl (by decide) rfl (fun _ => rfl) (hw (i := 5) (j := 2) rfl rfl) (fun _ z => z) dX9_isSign_14 hk) ?_
  refine rz_All_c (i := 9) (fun k J hk hJ => rz_aload_n_ok (pc := 17) hx hb dX9_isSign_17 rfl hk) ?_
  refine rz_All_c (i := 10) (fun k J hk hJ => rz_getf_ok (pc := 18) (own := RX9) (ref := "ThreadJudge$Reader") (C := RX9) (T := TX9) (N := 19) (ci := 11) (index := 187) (f := 15) (t := 0) (Ts := Cond.code yX9_isSign cX9_isSign 2 (some .boolean) :: rz_TB) hx hb hts rz_in11 ho hK rfl (by decide) rfl (fun _ => rfl) (hw (i := 3) (j := 11) rfl rfl) (fun _ z => z) dX9_isSign_18 hk) ?_
  refine rz_All_c (i := 11) (fun k J hk hJ => rz_iald_ok (pc := 21) hx hb hK dX9_isSign_21 hk) ?_
  refine rz_All_c (i := 12) (fun k J hk hJ => rz_iload_n_ok (pc := 22) hx hb dX9_isSign_22 rfl hk) ?_
  refine rz_All_c (i := 13) (fun k J hk hJ => rz_icmpne_ok (pc := 23) hx hb dX9_isSign_23 rfl hk (hJ 16)) ?_
  refine rz_All_c (i := 14) (fun k J hk hJ => rz_iconst_ok (pc := 26) hx hb dX9_isSign_26 rfl hk) ?_
  refine rz_All_c (i := 15) (fun k J hk hJ => rz_goto_ok (pc := 27) hx hb dX9_isSign_27 rfl (hJ 17)) ?_
  refine rz_All_c (i := 16) (fun k J hk hJ => rz_iconst_ok (pc := 30) hx hb dX9_isSign_30 rfl hk) ?_
  refine rz_All_c (i := 17) (fun k J hk hJ => rz_zret_ok (pc := 31) hC dX9_isSign_31) ?_
  exact trivial
theorem dX9_isWord_0 : decode cX9_isWord 0 = .ok (.aload_n 0, 1) := by decide +kernel
theorem dX9_isWord_1 : decode cX9_isWord 1 = .ok (.getfield 28, 3) := by decide +kernel
theorem dX9_isWord_4 : decode cX9_isWord 4 = .ok (.aload_n 0, 1) := by decide +kernel
theorem dX9_isWord_5 : decode cX9_isWord 5 = .ok (.getfield 187, 3) := by decide +kernel
theorem dX9_isWord_8 : decode cX9_isWord 8 = .ok (.iaload, 1) := by decide +kernel
theorem dX9_isWord_9 : decode cX9_isWord 9 = .ok (.iconst 1, 1) := by decide +kernel
theorem dX9_isWord_10 : decode cX9_isWord 10 = .ok (.if_icmp .ne 20, 3) := by decide +kernel
theorem dX9_isWord_13 : decode cX9_isWord 13 = .ok (.aload_n 0, 1) := by decide +kernel
theorem dX9_isWord_14 : decode cX9_isWord 14 = .ok (.getfield 34, 3) := by decide +kernel
theorem dX9_isWord_17 : decode cX9_isWord 17 = .ok (.aload_n 0, 1) := by decide +kernel
theorem dX9_isWord_18 : decode cX9_isWord 18 = .ok (.getfield 187, 3) := by decide +kernel
theorem dX9_isWord_21 : decode cX9_isWord 21 = .ok (.iaload, 1) := by decide +kernel
theorem dX9_isWord_22 : decode cX9_isWord 22 = .ok (.iload_n 1, 1) := by decide +kernel
theorem dX9_isWord_23 : decode cX9_isWord 23 = .ok (.if_icmp .ne 7, 3) := by decide +kernel
theorem dX9_isWord_26 : decode cX9_isWord 26 = .ok (.iconst 1, 1) := by decide +kernel
theorem dX9_isWord_27 : decode cX9_isWord 27 = .ok (.goto 4, 3) := by decide +kernel
theorem dX9_isWord_30 : decode cX9_isWord 30 = .ok (.iconst 0, 1) := by decide +kernel
theorem dX9_isWord_31 : decode cX9_isWord 31 = .ok (.ireturn, 1) := by decide +kernel
def rpX9_isWord : List Nat := [0, 1, 4, 5, 8, 9, 10, 13, 14, 17, 18, 21, 22, 23, 26, 27, 30, 31]
noncomputable def rcX9_isWord : List rz_B := [rz_aload 0, rz_getf (Nat.add (Nat.mul 256 11) 1) 11 rz_r, rz_aload 0, rz_getf (Nat.add (Nat.mul 256 11) 1) 15 rz_i, rz_iald, rz_cst 1, rz_icmpne 16, rz_aload 0, rz_getf (Nat.add (Nat.mul 256 11) 1) 13 rz_r, rz_aload 0, rz_getf (Nat.add (Nat.mul 256 11) 1) 15 rz_i, rz_iald, rz_iload 1, rz_icmpne 16, rz_cst 1, rz_goto 17, rz_cst 0, rz_zret]
noncomputable def rgX9_isWord : rz_L → rz_M → rz_Z → Bool := rz_go rcX9_isWord 2 1000000
def rrX9_isWord : Room := { frames := 0, cells := 0, slots := 0, locals := 0 }
theorem rmX9_isWord (l : Launch) {G : rz_G} (hG : rz_Gd G) (vs : rz_L) (M : rz_M) (Z : rz_Z) (hn : vs.length = 2) (h : rgX9_isWord vs M Z = true) : Met l yX9_isWord (Cond.code yX9_isWord cX9_isWord 2 (some .boolean) :: rz_TB) rrX9_isWord (rz_Pre G vs M) (rz_Qi G M.2 Z) 0 0 (fun q => rz_b G ≤ q) := by
  obtain ⟨D, tc, ad, b, xs, rfl⟩ := id hG
  refine rz_body (pcs := rpX9_isWord) (by decide) rfl (by rw [hn]; decide) h ?_
  intro p e R s m args below meth c hC
  obtain ⟨hx, hb, hml, hr, hlk, ho, hts, hKn, hRm⟩ := id hC
  obtain ⟨hK, hA, hSt⟩ := id hKn
  have hw : ∀ {i j : Nat} {ws : List Cond} {w : Cond}, rz_WW[i]? = some ws → ws[j]? = some w → w.before args s = true := fun h1 h2 => hts _ (List.mem_cons_of_mem _ (rz_mem h1 h2))
  refine rz_All_c (i := 0) (fun k J hk hJ => rz_aload_n_ok (pc := 0) hx hb dX9_isWord_0 rfl hk) ?_
  refine rz_All_c (i := 1) (fun k J hk hJ => rz_getf_ok (pc := 1) (own := RX9) (ref := "ThreadJudge$Reader") (C := RX9) (T := TX9) (N := 19) (ci := 11) (index := 28) (f := 11) (t := 2) (Ts := Cond.code yX9_isWord cX9_isWord 2 (some .boolean) :: rz_TB) hx hb hts rz_in11 ho hK rfl (by decide) rfl (fun _ => rfl) (hw (i := 3) (j := 14) rfl rfl) (fun _ z => z) dX9_isWord_1 hk) ?_
  refine rz_All_c (i := 2) (fun k J hk hJ => rz_aload_n_ok (pc := 4) hx hb dX9_isWord_4 rfl hk) ?_
  refine rz_All_c (i := 3) (fun k J hk hJ => rz_getf_ok (pc := 5) (own := RX9) (ref := "ThreadJudge$Reader") (C := RX9) (T := TX9) (N := 19) (ci := 11) (index := 187) (f := 15) (t := 0) (Ts := Cond.code yX9_isWord cX9_isWord 2 (some .boolean) :: rz_TB) hx hb hts rz_in11 ho hK rfl (by decide) rfl (fun _ => rfl) (hw (i := 3) (j := 11) rfl rfl) (fun _ z => z) dX9_isWord_5 hk) ?_
  refine rz_All_c (i := 4) (fun k J hk hJ => rz_iald_ok (pc := 8) hx hb hK dX9_isWord_8 hk) ?_
  refine rz_All_c (i := 5) (fun k J hk hJ => rz_iconst_ok (pc := 9) hx hb dX9_isWord_9 rfl hk) ?_
  refine rz_All_c (i := 6) (fun k J hk hJ => rz_icmpne_ok (pc := 10) hx hb dX9_isWord_10 rfl hk (hJ 16)) ?_
  refine rz_All_c (i := 7) (fun k J hk hJ => rz_aload_n_ok (pc := 13) hx hb dX9_isWord_13 rfl hk) ?_
  refine rz_All_c (i := 8) (fun k J hk hJ => rz_getf_ok (pc := 14) (own := RX9) (ref := "ThreadJudge$Reader") (C := RX9) (T := TX9) (N := 19) (ci := 11) (index := 34) (f := 13) (t := 2) (Ts := Cond.code yX9_isWord cX9_isWord 2 (some .boolean) :: rz_TB) hx hb hts rz_in11 ho hK rfl (by decide) rfl (fun _ => rfl) (hw (i := 5) (j := 2) rfl rfl) (fun _ z => z) dX9_isWord_14 hk) ?_
  refine rz_All_c (i := 9) (fun k J hk hJ => rz_aload_n_ok (pc := 17) hx hb dX9_isWord_17 rfl hk) ?_
  refine rz_All_c (i := 10) (fun k J hk hJ => rz_getf_ok (pc := 18) (own := RX9) (ref := "ThreadJudge$Reader") (C := RX9) (T := TX9) (N := 19) (ci := 11) (index := 187) (f := 15) (t := 0) (Ts := Cond.code yX9_isWord cX9_isWord 2 (some .boolean) :: rz_TB) hx hb hts rz_in11 ho hK rfl (by decide) rfl (fun _ => rfl) (hw (i := 3) (j := 11) rfl rfl) (fun _ z => z) dX9_isWord_18 hk) ?_
  refine rz_All_c (i := 11) (fun k J hk hJ => rz_iald_ok (pc := 21) hx hb hK dX9_isWord_21 hk) ?_
  refine rz_All_c (i := 12) (fun k J hk hJ => rz_iload_n_ok (pc := 22) hx hb dX9_isWord_22 rfl hk) ?_
  refine rz_All_c (i := 13) (fun k J hk hJ => rz_icmpne_ok (pc := 23) hx hb dX9_isWord_23 rfl hk (hJ 16)) ?_
  refine rz_All_c (i := 14) (fun k J hk hJ => rz_iconst_ok (pc := 26) hx hb dX9_isWord_26 rfl hk) ?_
  refine rz_All_c (i := 15) (fun k J hk hJ => rz_goto_ok (pc := 27) hx hb dX9_isWord_27 rfl (hJ 17)) ?_
  refine rz_All_c (i := 16) (fun k J hk hJ => rz_iconst_ok (pc := 30) hx hb dX9_isWord_30 rfl hk) ?_
  refine rz_All_c (i := 17) (fun k J hk hJ => rz_zret_ok (pc := 31) hC dX9_isWord_31) ?_
  exact trivial
theorem dX9_spot_0 : decode cX9_spot 0 = .ok (.aload_n 0, 1) := by decide +kernel
theorem dX9_spot_1 : decode cX9_spot 1 = .ok (.getfield 83, 3) := by decide +kernel
theorem dX9_spot_4 : decode cX9_spot 4 = .ok (.aload_n 0, 1) := by decide +kernel
theorem dX9_spot_5 : decode cX9_spot 5 = .ok (.getfield 80, 3) := by decide +kernel
theorem dX9_spot_8 : decode cX9_spot 8 = .ok (.if_acmp .ne 7, 3) := by decide +kernel
theorem dX9_spot_11 : decode cX9_spot 11 = .ok (.iconst (-1), 1) := by decide +kernel
theorem dX9_spot_12 : decode cX9_spot 12 = .ok (.goto 12, 3) := by decide +kernel
theorem dX9_spot_24 : decode cX9_spot 24 = .ok (.ireturn, 1) := by decide +kernel
def rpX9_spot : List Nat := [0, 1, 4, 5, 8, 11, 12, 15, 24]
noncomputable def rcX9_spot : List rz_B := [rz_aload 0, rz_getf (Nat.add (Nat.mul 256 11) 1) 9 rz_r, rz_aload 0, rz_getf (Nat.add (Nat.mul 256 11) 1) 2 rz_r, rz_acmpne 7, rz_cst 4294967295, rz_goto 8, rz_no, rz_iret]
noncomputable def rgX9_spot : rz_L → rz_M → rz_Z → Bool := rz_go rcX9_spot 1 1000000
def rrX9_spot : Room := { frames := 0, cells := 0, slots := 0, locals := 0 }
theorem rmX9_spot (l : Launch) {G : rz_G} (hG : rz_Gd G) (vs : rz_L) (M : rz_M) (Z : rz_Z) (hn : vs.length = 1) (h : rgX9_spot vs M Z = true) : Met l yX9_spot (Cond.code yX9_spot cX9_spot 1 (some .int) :: rz_TB) rrX9_spot (rz_Pre G vs M) (rz_Qi G M.2 Z) 0 0 (fun q => rz_b G ≤ q) := by
  obtain ⟨D, tc, ad, b, xs, rfl⟩ := id hG
  refine rz_body (pcs := rpX9_spot) (by decide) rfl (by rw [hn]; decide) h ?_
  intro p e R s m args below meth c hC
  obtain ⟨hx, hb, hml, hr, hlk, ho, hts, hKn, hRm⟩ := id hC
  obtain ⟨hK, hA, hSt⟩ := id hKn
  have hw : ∀ {i j : Nat} {ws : List Cond} {w : Cond}, rz_WW[i]? = some ws → ws[j]? = some w → w.before args s = true := fun h1 h2 => hts _ (List.mem_cons_of_mem _ (rz_mem h1 h2))
  refine rz_All_c (i := 0) (fun k J hk hJ => rz_aload_n_ok (pc := 0) hx hb dX9_spot_0 rfl hk) ?_
  refine rz_All_c (i := 1) (fun k J hk hJ => rz_getf_ok (pc := 1) (own := RX9) (ref := "ThreadJudge$Reader") (C := RX9) (T := TX9) (N := 19) (ci := 11) (index := 83) (f := 9) (t := 2) (Ts := Cond.code yX9_spot cX9_spot 1 (some .int) :: rz_TB) hx hb hts rz_in11 ho hK rfl (by decide) rfl (fun _ => rfl) (hw (i := 3) (j := 20) rfl rfl) (fun _ z => z) dX9_spot_1 hk) ?_
  refine rz_All_c (i := 2) (fun k J hk hJ => rz_aload_n_ok (pc := 4) hx hb dX9_spot_4 rfl hk) ?_
  refine rz_All_c (i := 3) (fun k J hk hJ => rz_getf_ok (pc := 5) (own := RX9) (ref := "ThreadJudge$Reader") (C := RX9) (T := TX9) (N := 19) (ci := 11) (index := 80) (f := 2) (t := 2) (Ts := Cond.code yX9_spot cX9_spot 1 (some .int) :: rz_TB) hx hb hts rz_in11 ho hK rfl (by decide) rfl (fun _ => rfl) (hw (i := 10) (j := 18) rfl rfl) (fun _ z => z) dX9_spot_5 hk) ?_
  refine rz_All_c (i := 4) (fun k J hk hJ => rz_acmpne_ok (pc := 8) hx hb hA dX9_spot_8 rfl hk (hJ 7)) ?_
  refine rz_All_c (i := 5) (fun k J hk hJ => rz_iconst_ok (pc := 11) hx hb dX9_spot_11 rfl hk) ?_
  refine rz_All_c (i := 6) (fun k J hk hJ => rz_goto_ok (pc := 12) hx hb dX9_spot_12 rfl (hJ 8)) ?_
  refine rz_All_c (i := 7) (fun k J hk hJ => rz_no_ok) ?_
  refine rz_All_c (i := 8) (fun k J hk hJ => rz_iret_ok (pc := 24) hC dX9_spot_24) ?_
  exact trivial
theorem dX9_takeName_0 : decode cX9_takeName 0 = .ok (.aload_n 0, 1) := by decide +kernel
theorem dX9_takeName_1 : decode cX9_takeName 1 = .ok (.getfield 28, 3) := by decide +kernel
theorem dX9_takeName_4 : decode cX9_takeName 4 = .ok (.aload_n 0, 1) := by decide +kernel
theorem dX9_takeName_5 : decode cX9_takeName 5 = .ok (.getfield 187, 3) := by decide +kernel
theorem dX9_takeName_8 : decode cX9_takeName 8 = .ok (.iaload, 1) := by decide +kernel
theorem dX9_takeName_9 : decode cX9_takeName 9 = .ok (.iconst 1, 1) := by decide +kernel
theorem dX9_takeName_10 : decode cX9_takeName 10 = .ok (.if_icmp .ne 17, 3) := by decide +kernel
theorem dX9_takeName_13 : decode cX9_takeName 13 = .ok (.aload_n 0, 1) := by decide +kernel
theorem dX9_takeName_14 : decode cX9_takeName 14 = .ok (.getfield 34, 3) := by decide +kernel
theorem dX9_takeName_17 : decode cX9_takeName 17 = .ok (.aload_n 0, 1) := by decide +kernel
theorem dX9_takeName_18 : decode cX9_takeName 18 = .ok (.getfield 187, 3) := by decide +kernel
theorem dX9_takeName_21 : decode cX9_takeName 21 = .ok (.iaload, 1) := by decide +kernel
theorem dX9_takeName_22 : decode cX9_takeName 22 = .ok (.bipush 73, 2) := by decide +kernel
theorem dX9_takeName_24 : decode cX9_takeName 24 = .ok (.if_icmp .ge 5, 3) := by decide +kernel
theorem dX9_takeName_29 : decode cX9_takeName 29 = .ok (.aload_n 0, 1) := by decide +kernel
theorem dX9_takeName_30 : decode cX9_takeName 30 = .ok (.getfield 34, 3) := by decide +kernel
theorem dX9_takeName_33 : decode cX9_takeName 33 = .ok (.aload_n 0, 1) := by decide +kernel
theorem dX9_takeName_34 : decode cX9_takeName 34 = .ok (.dup, 1) := by decide +kernel
theorem dX9_takeName_35 : decode cX9_takeName 35 = .ok (.getfield 187, 3) := by decide +kernel
theorem dX9_takeName_38 : decode cX9_takeName 38 = .ok (.dup_x1, 1) := by decide +kernel
theorem dX9_takeName_39 : decode cX9_takeName 39 = .ok (.iconst 1, 1) := by decide +kernel
theorem dX9_takeName_40 : decode cX9_takeName 40 = .ok (.iadd, 1) := by decide +kernel
theorem dX9_takeName_41 : decode cX9_takeName 41 = .ok (.putfield 187, 3) := by decide +kernel
theorem dX9_takeName_44 : decode cX9_takeName 44 = .ok (.iaload, 1) := by decide +kernel
theorem dX9_takeName_45 : decode cX9_takeName 45 = .ok (.ireturn, 1) := by decide +kernel
def rpX9_takeName : List Nat := [0, 1, 4, 5, 8, 9, 10, 13, 14, 17, 18, 21, 22, 24, 27, 29, 30, 33, 34, 35, 38, 39, 40, 41, 44, 45]
noncomputable def rcX9_takeName : List rz_B := [rz_aload 0, rz_getf (Nat.add (Nat.mul 256 11) 1) 11 rz_r, rz_aload 0, rz_getf (Nat.add (Nat.mul 256 11) 1) 15 rz_i, rz_iald, rz_cst 1, rz_icmpne 14, rz_aload 0, rz_getf (Nat.add (Nat.mul 256 11) 1) 13 rz_r, rz_aload 0, rz_getf (Nat.add (Nat.mul 256 11) 1) 15 rz_i, rz_iald, rz_cst 73, rz_icmpge 15, rz_no, rz_aload 0, rz_getf (Nat.add (Nat.mul 256 11) 1) 13 rz_r, rz_aload 0, rz_dup, rz_getf (Nat.add (Nat.mul 256 11) 1) 15 rz_i, rz_dup_x1, rz_cst 1, rz_iadd, rz_putf (Nat.add (Nat.mul 256 11) 1) 15 rz_unI, rz_iald, rz_iret]
noncomputable def rgX9_takeName : rz_L → rz_M → rz_Z → Bool := rz_go rcX9_takeName 1 1000000
def rrX9_takeName : Room := { frames := 0, cells := 0, slots := 0, locals := 0 }
theorem rmX9_takeName (l : Launch) {G : rz_G} (hG : rz_Gd G) (vs : rz_L) (M : rz_M) (Z : rz_Z) (hn : vs.length = 1) (h : rgX9_takeName vs M Z = true) : Met l yX9_takeName (Cond.code yX9_takeName cX9_takeName 1 (some .int) :: rz_TB) rrX9_takeName (rz_Pre G vs M) (rz_Qi G M.2 Z) 0 0 (fun q => rz_b G ≤ q) := by
  obtain ⟨D, tc, ad, b, xs, rfl⟩ := id hG
  refine rz_body (pcs := rpX9_takeName) (by decide) rfl (by rw [hn]; decide) h ?_
  intro p e R s m args below meth c hC
  obtain ⟨hx, hb, hml, hr, hlk, ho, hts, hKn, hRm⟩ := id hC
  obtain ⟨hK, hA, hSt⟩ := id hKn
  have hw : ∀ {i j : Nat} {ws : List Cond} {w : Cond}, rz_WW[i]? = some ws → ws[j]? = some w → w.before args s = true := fun h1 h2 => hts _ (List.mem_cons_of_mem _ (rz_mem h1 h2))
  refine rz_All_c (i := 0) (fun k J hk hJ => rz_aload_n_ok (pc := 0) hx hb dX9_takeName_0 rfl hk) ?_
  refine rz_All_c (i := 1) (fun k J hk hJ => rz_getf_ok (pc := 1) (own := RX9) (ref := "ThreadJudge$Reader") (C := RX9) (T := TX9) (N := 19) (ci := 11) (index := 28) (f := 11) (t := 2) (Ts := Cond.code yX9_takeName cX9_takeName 1 (some .int) :: rz_TB) hx hb hts rz_in11 ho hK rfl (by decide) rfl (fun _ => rfl) (hw (i := 3) (j := 14) rfl rfl) (fun _ z => z) dX9_takeName_1 hk) ?_
  refine rz_All_c (i := 2) (fun k J hk hJ => rz_aload_n_ok (pc := 4) hx hb dX9_takeName_4 rfl hk) ?_
  refine rz_All_c (i := 3) (fun k J hk hJ => rz_getf_ok (pc := 5) (own := RX9) (ref := "ThreadJudge$Reader") (C := RX9) (T := TX9) (N := 19) (ci := 11) (index := 187) (f := 15) (t := 0) (Ts := Cond.code yX9_takeName cX9_takeName 1 (some .int) :: rz_TB) hx hb hts rz_in11 ho hK rfl (by decide) rfl (fun _ => rfl) (hw (i := 3) (j := 11) rfl rfl) (fun _ z => z) dX9_takeName_5 hk) ?_
  refine rz_All_c (i := 4) (fun k J hk hJ => rz_iald_ok (pc := 8) hx hb hK dX9_takeName_8 hk) ?_
  refine rz_All_c (i := 5) (fun k J hk hJ => rz_iconst_ok (pc := 9) hx hb dX9_takeName_9 rfl hk) ?_
  refine rz_All_c (i := 6) (fun k J hk hJ => rz_icmpne_ok (pc := 10) hx hb dX9_takeName_10 rfl hk (hJ 14)) ?_
  refine rz_All_c (i := 7) (fun k J hk hJ => rz_aload_n_ok (pc := 13) hx hb dX9_takeName_13 rfl hk) ?_
  refine rz_All_c (i := 8) (fun k J hk hJ => rz_getf_ok (pc := 14) (own := RX9) (ref := "ThreadJudge$Reader") (C := RX9) (T := TX9) (N := 19) (ci := 11) (index := 34) (f := 13) (t := 2) (Ts := Cond.code yX9_takeName cX9_takeName 1 (some .int) :: rz_TB) hx hb hts rz_in11 ho hK rfl (by decide) rfl (fun _ => rfl) (hw (i := 5) (j := 2) rfl rfl) (fun _ z => z) dX9_takeName_14 hk) ?_
  refine rz_All_c (i := 9) (fun k J hk hJ => rz_aload_n_ok (pc := 17) hx hb dX9_takeName_17 rfl hk) ?_
  refine rz_All_c (i := 10) (fun k J hk hJ => rz_getf_ok (pc := 18) (own := RX9) (ref := "ThreadJudge$Reader") (C := RX9) (T := TX9) (N := 19) (ci := 11) (index := 187) (f := 15) (t := 0) (Ts := Cond.code yX9_takeName cX9_takeName 1 (some .int) :: rz_TB) hx hb hts rz_in11 ho hK rfl (by decide) rfl (fun _ => rfl) (hw (i := 3) (j := 11) rfl rfl) (fun _ z => z) dX9_takeName_18 hk) ?_
  refine rz_All_c (i := 11) (fun k J hk hJ => rz_iald_ok (pc := 21) hx hb hK dX9_takeName_21 hk) ?_
  refine rz_All_c (i := 12) (fun k J hk hJ => rz_bipush_ok (pc := 22) hx hb dX9_takeName_22 (by decide) hk) ?_
  refine rz_All_c (i := 13) (fun k J hk hJ => rz_icmpge_ok (pc := 24) hx hb dX9_takeName_24 rfl hk (hJ 15)) ?_
  refine rz_All_c (i := 14) (fun k J hk hJ => rz_no_ok) ?_
  refine rz_All_c (i := 15) (fun k J hk hJ => rz_aload_n_ok (pc := 29) hx hb dX9_takeName_29 rfl hk) ?_
  refine rz_All_c (i := 16) (fun k J hk hJ => rz_getf_ok (pc := 30) (own := RX9) (ref := "ThreadJudge$Reader") (C := RX9) (T := TX9) (N := 19) (ci := 11) (index := 34) (f := 13) (t := 2) (Ts := Cond.code yX9_takeName cX9_takeName 1 (some .int) :: rz_TB) hx hb hts rz_in11 ho hK rfl (by decide) rfl (fun _ => rfl) (hw (i := 5) (j := 2) rfl rfl) (fun _ z => z) dX9_takeName_30 hk) ?_
  refine rz_All_c (i := 17) (fun k J hk hJ => rz_aload_n_ok (pc := 33) hx hb dX9_takeName_33 rfl hk) ?_
  refine rz_All_c (i := 18) (fun k J hk hJ => rz_dup_ok (pc := 34) hx hb dX9_takeName_34 hk) ?_
  refine rz_All_c (i := 19) (fun k J hk hJ => rz_getf_ok (pc := 35) (own := RX9) (ref := "ThreadJudge$Reader") (C := RX9) (T := TX9) (N := 19) (ci := 11) (index := 187) (f := 15) (t := 0) (Ts := Cond.code yX9_takeName cX9_takeName 1 (some .int) :: rz_TB) hx hb hts rz_in11 ho hK rfl (by decide) rfl (fun _ => rfl) (hw (i := 3) (j := 11) rfl rfl) (fun _ z => z) dX9_takeName_35 hk) ?_
  refine rz_All_c (i := 20) (fun k J hk hJ => rz_dup_x1_ok (pc := 38) hx hb dX9_takeName_38 hk) ?_
  refine rz_All_c (i := 21) (fun k J hk hJ => rz_iconst_ok (pc := 39) hx hb dX9_takeName_39 rfl hk) ?_
  refine rz_All_c (i := 22) (fun k J hk hJ => rz_iadd_ok (pc := 40) hx hb dX9_takeName_40 hk) ?_
  refine rz_All_c (i := 23) (fun k J hk hJ => rz_putf_ok (pc := 41) (own := RX9) (ref := "ThreadJudge$Reader") (C := RX9) (T := TX9) (N := 19) (ci := 11) (index := 187) (f := 15) (t := 0) (Ts := Cond.code yX9_takeName cX9_takeName 1 (some .int) :: rz_TB) hx hb hts rz_in11 tyX9 tyX9_ok nmX9 ho hK hA rfl (by decide) rfl (rz_UnI _) rfl (tyX9_ok 15 (by decide)) (hw (i := 3) (j := 11) rfl rfl) (fun _ z => z) dX9_takeName_41 hk) ?_
  refine rz_All_c (i := 24) (fun k J hk hJ => rz_iald_ok (pc := 44) hx hb hK dX9_takeName_44 hk) ?_
  refine rz_All_c (i := 25) (fun k J hk hJ => rz_iret_ok (pc := 45) hC dX9_takeName_45) ?_
  exact trivial
theorem dX9_takeSign_0 : decode cX9_takeSign 0 = .ok (.aload_n 0, 1) := by decide +kernel
theorem dX9_takeSign_1 : decode cX9_takeSign 1 = .ok (.getfield 28, 3) := by decide +kernel
theorem dX9_takeSign_4 : decode cX9_takeSign 4 = .ok (.aload_n 0, 1) := by decide +kernel
theorem dX9_takeSign_5 : decode cX9_takeSign 5 = .ok (.getfield 187, 3) := by decide +kernel
theorem dX9_takeSign_8 : decode cX9_takeSign 8 = .ok (.iaload, 1) := by decide +kernel
theorem dX9_takeSign_9 : decode cX9_takeSign 9 = .ok (.iconst 4, 1) := by decide +kernel
theorem dX9_takeSign_10 : decode cX9_takeSign 10 = .ok (.if_icmp .ne 16, 3) := by decide +kernel
theorem dX9_takeSign_13 : decode cX9_takeSign 13 = .ok (.aload_n 0, 1) := by decide +kernel
theorem dX9_takeSign_14 : decode cX9_takeSign 14 = .ok (.getfield 34, 3) := by decide +kernel
theorem dX9_takeSign_17 : decode cX9_takeSign 17 = .ok (.aload_n 0, 1) := by decide +kernel
theorem dX9_takeSign_18 : decode cX9_takeSign 18 = .ok (.getfield 187, 3) := by decide +kernel
theorem dX9_takeSign_21 : decode cX9_takeSign 21 = .ok (.iaload, 1) := by decide +kernel
theorem dX9_takeSign_22 : decode cX9_takeSign 22 = .ok (.iload_n 1, 1) := by decide +kernel
theorem dX9_takeSign_23 : decode cX9_takeSign 23 = .ok (.if_icmp .eq 5, 3) := by decide +kernel
theorem dX9_takeSign_26 : decode cX9_takeSign 26 = .ok (.iconst 0, 1) := by decide +kernel
theorem dX9_takeSign_27 : decode cX9_takeSign 27 = .ok (.ireturn, 1) := by decide +kernel
theorem dX9_takeSign_28 : decode cX9_takeSign 28 = .ok (.aload_n 0, 1) := by decide +kernel
theorem dX9_takeSign_29 : decode cX9_takeSign 29 = .ok (.dup, 1) := by decide +kernel
theorem dX9_takeSign_30 : decode cX9_takeSign 30 = .ok (.getfield 187, 3) := by decide +kernel
theorem dX9_takeSign_33 : decode cX9_takeSign 33 = .ok (.iconst 1, 1) := by decide +kernel
theorem dX9_takeSign_34 : decode cX9_takeSign 34 = .ok (.iadd, 1) := by decide +kernel
theorem dX9_takeSign_35 : decode cX9_takeSign 35 = .ok (.putfield 187, 3) := by decide +kernel
theorem dX9_takeSign_38 : decode cX9_takeSign 38 = .ok (.iconst 1, 1) := by decide +kernel
theorem dX9_takeSign_39 : decode cX9_takeSign 39 = .ok (.ireturn, 1) := by decide +kernel
def rpX9_takeSign : List Nat := [0, 1, 4, 5, 8, 9, 10, 13, 14, 17, 18, 21, 22, 23, 26, 27, 28, 29, 30, 33, 34, 35, 38, 39]
noncomputable def rcX9_takeSign : List rz_B := [rz_aload 0, rz_getf (Nat.add (Nat.mul 256 11) 1) 11 rz_r, rz_aload 0, rz_getf (Nat.add (Nat.mul 256 11) 1) 15 rz_i, rz_iald, rz_cst 4, rz_icmpne 14, rz_aload 0, rz_getf (Nat.add (Nat.mul 256 11) 1) 13 rz_r, rz_aload 0, rz_getf (Nat.add (Nat.mul 256 11) 1) 15 rz_i, rz_iald, rz_iload 1, rz_icmpeq 16, rz_cst 0, rz_zret, rz_aload 0, rz_dup, rz_getf (Nat.add (Nat.mul 256 11) 1) 15 rz_i, rz_cst 1, rz_iadd, rz_putf (Nat.add (Nat.mul 256 11) 1) 15 rz_unI, rz_cst 1, rz_zret]
noncomputable def rgX9_takeSign : rz_L → rz_M → rz_Z → Bool := rz_go rcX9_takeSign 2 1000000
def rrX9_takeSign : Room := { frames := 0, cells := 0, slots := 0, locals := 0 }
theorem rmX9_takeSign (l : Launch) {G : rz_G} (hG : rz_Gd G) (vs : rz_L) (M : rz_M) (Z : rz_Z) (hn : vs.length = 2) (h : rgX9_takeSign vs M Z = true) : Met l yX9_takeSign (Cond.code yX9_takeSign cX9_takeSign 2 (some .boolean) :: rz_TB) rrX9_takeSign (rz_Pre G vs M) (rz_Qi G M.2 Z) 0 0 (fun q => rz_b G ≤ q) := by
  obtain ⟨D, tc, ad, b, xs, rfl⟩ := id hG
  refine rz_body (pcs := rpX9_takeSign) (by decide) rfl (by rw [hn]; decide) h ?_
  intro p e R s m args below meth c hC
  obtain ⟨hx, hb, hml, hr, hlk, ho, hts, hKn, hRm⟩ := id hC
  obtain ⟨hK, hA, hSt⟩ := id hKn
  have hw : ∀ {i j : Nat} {ws : List Cond} {w : Cond}, rz_WW[i]? = some ws → ws[j]? = some w → w.before args s = true := fun h1 h2 => hts _ (List.mem_cons_of_mem _ (rz_mem h1 h2))
  refine rz_All_c (i := 0) (fun k J hk hJ => rz_aload_n_ok (pc := 0) hx hb dX9_takeSign_0 rfl hk) ?_
  refine rz_All_c (i := 1) (fun k J hk hJ => rz_getf_ok (pc := 1) (own := RX9) (ref := "ThreadJudge$Reader") (C := RX9) (T := TX9) (N := 19) (ci := 11) (index := 28) (f := 11) (t := 2) (Ts := Cond.code yX9_takeSign cX9_takeSign 2 (some .boolean) :: rz_TB) hx hb hts rz_in11 ho hK rfl (by decide) rfl (fun _ => rfl) (hw (i := 3) (j := 14) rfl rfl) (fun _ z => z) dX9_takeSign_1 hk) ?_
  refine rz_All_c (i := 2) (fun k J hk hJ => rz_aload_n_ok (pc := 4) hx hb dX9_takeSign_4 rfl hk) ?_
  refine rz_All_c (i := 3) (fun k J hk hJ => rz_getf_ok (pc := 5) (own := RX9) (ref := "ThreadJudge$Reader") (C := RX9) (T := TX9) (N := 19) (ci := 11) (index := 187) (f := 15) (t := 0) (Ts := Cond.code yX9_takeSign cX9_takeSign 2 (some .boolean) :: rz_TB) hx hb hts rz_in11 ho hK rfl (by decide) rfl (fun _ => rfl) (hw (i := 3) (j := 11) rfl rfl) (fun _ z => z) dX9_takeSign_5 hk) ?_
  refine rz_All_c (i := 4) (fun k J hk hJ => rz_iald_ok (pc := 8) hx hb hK dX9_takeSign_8 hk) ?_
  refine rz_All_c (i := 5) (fun k J hk hJ => rz_iconst_ok (pc := 9) hx hb dX9_takeSign_9 rfl hk) ?_
  refine rz_All_c (i := 6) (fun k J hk hJ => rz_icmpne_ok (pc := 10) hx hb dX9_takeSign_10 rfl hk (hJ 14)) ?_
  refine rz_All_c (i := 7) (fun k J hk hJ => rz_aload_n_ok (pc := 13) hx hb dX9_takeSign_13 rfl hk) ?_
  refine rz_All_c (i := 8) (fun k J hk hJ => rz_getf_ok (pc := 14) (own := RX9) (ref := "ThreadJudge$Reader") (C := RX9) (T := TX9) (N := 19) (ci := 11) (index := 34) (f := 13) (t := 2) (Ts := Cond.code yX9_takeSign cX9_takeSign 2 (some .boolean) :: rz_TB) hx hb hts rz_in11 ho hK rfl (by decide) rfl (fun _ => rfl) (hw (i := 5) (j := 2) rfl rfl) (fun _ z => z) dX9_takeSign_14 hk) ?_
  refine rz_All_c (i := 9) (fun k J hk hJ => rz_aload_n_ok (pc := 17) hx hb dX9_takeSign_17 rfl hk) ?_
  refine rz_All_c (i := 10) (fun k J hk hJ => rz_getf_ok (pc := 18) (own := RX9) (ref := "ThreadJudge$Reader") (C := RX9) (T := TX9) (N := 19) (ci := 11) (index := 187) (f := 15) (t := 0) (Ts := Cond.code yX9_takeSign cX9_takeSign 2 (some .boolean) :: rz_TB) hx hb hts rz_in11 ho hK rfl (by decide) rfl (fun _ => rfl) (hw (i := 3) (j := 11) rfl rfl) (fun _ z => z) dX9_takeSign_18 hk) ?_
  refine rz_All_c (i := 11) (fun k J hk hJ => rz_iald_ok (pc := 21) hx hb hK dX9_takeSign_21 hk) ?_
  refine rz_All_c (i := 12) (fun k J hk hJ => rz_iload_n_ok (pc := 22) hx hb dX9_takeSign_22 rfl hk) ?_
  refine rz_All_c (i := 13) (fun k J hk hJ => rz_icmpeq_ok (pc := 23) hx hb dX9_takeSign_23 rfl hk (hJ 16)) ?_
  refine rz_All_c (i := 14) (fun k J hk hJ => rz_iconst_ok (pc := 26) hx hb dX9_takeSign_26 rfl hk) ?_
  refine rz_All_c (i := 15) (fun k J hk hJ => rz_zret_ok (pc := 27) hC dX9_takeSign_27) ?_
  refine rz_All_c (i := 16) (fun k J hk hJ => rz_aload_n_ok (pc := 28) hx hb dX9_takeSign_28 rfl hk) ?_
  refine rz_All_c (i := 17) (fun k J hk hJ => rz_dup_ok (pc := 29) hx hb dX9_takeSign_29 hk) ?_
  refine rz_All_c (i := 18) (fun k J hk hJ => rz_getf_ok (pc := 30) (own := RX9) (ref := "ThreadJudge$Reader") (C := RX9) (T := TX9) (N := 19) (ci := 11) (index := 187) (f := 15) (t := 0) (Ts := Cond.code yX9_takeSign cX9_takeSign 2 (some .boolean) :: rz_TB) hx hb hts rz_in11 ho hK rfl (by decide) rfl (fun _ => rfl) (hw (i := 3) (j := 11) rfl rfl) (fun _ z => z) dX9_takeSign_30 hk) ?_
  refine rz_All_c (i := 19) (fun k J hk hJ => rz_iconst_ok (pc := 33) hx hb dX9_takeSign_33 rfl hk) ?_
  refine rz_All_c (i := 20) (fun k J hk hJ => rz_iadd_ok (pc := 34) hx hb dX9_takeSign_34 hk) ?_
  refine rz_All_c (i := 21) (fun k J hk hJ => rz_putf_ok (pc := 35) (own := RX9) (ref := "ThreadJudge$Reader") (C := RX9) (T := TX9) (N := 19) (ci := 11) (index := 187) (f := 15) (t := 0) (Ts := Cond.code yX9_takeSign cX9_takeSign 2 (some .boolean) :: rz_TB) hx hb hts rz_in11 tyX9 tyX9_ok nmX9 ho hK hA rfl (by decide) rfl (rz_UnI _) rfl (tyX9_ok 15 (by decide)) (hw (i := 3) (j := 11) rfl rfl) (fun _ z => z) dX9_takeSign_35 hk) ?_
  refine rz_All_c (i := 22) (fun k J hk hJ => rz_iconst_ok (pc := 38) hx hb dX9_takeSign_38 rfl hk) ?_
  refine rz_All_c (i := 23) (fun k J hk hJ => rz_zret_ok (pc := 39) hC dX9_takeSign_39) ?_
  exact trivial
theorem dX9_heritage_0 : decode cX9_heritage 0 = .ok (.aload_n 0, 1) := by decide +kernel
theorem dX9_heritage_1 : decode cX9_heritage 1 = .ok (.getfield 37, 3) := by decide +kernel
theorem dX9_heritage_4 : decode cX9_heritage 4 = .ok (.getfield 239, 3) := by decide +kernel
theorem dX9_heritage_7 : decode cX9_heritage 7 = .ok (.bipush 6, 2) := by decide +kernel
theorem dX9_heritage_9 : decode cX9_heritage 9 = .ok (.aaload, 1) := by decide +kernel
theorem dX9_heritage_10 : decode cX9_heritage 10 = .ok (.iload_n 1, 1) := by decide +kernel
theorem dX9_heritage_11 : decode cX9_heritage 11 = .ok (.iconst (-1), 1) := by decide +kernel
theorem dX9_heritage_12 : decode cX9_heritage 12 = .ok (.iastore, 1) := by decide +kernel
theorem dX9_heritage_13 : decode cX9_heritage 13 = .ok (.aload_n 0, 1) := by decide +kernel
theorem dX9_heritage_14 : decode cX9_heritage 14 = .ok (.getfield 37, 3) := by decide +kernel
theorem dX9_heritage_17 : decode cX9_heritage 17 = .ok (.getfield 239, 3) := by decide +kernel
theorem dX9_heritage_20 : decode cX9_heritage 20 = .ok (.bipush 8, 2) := by decide +kernel
theorem dX9_heritage_22 : decode cX9_heritage 22 = .ok (.aaload, 1) := by decide +kernel
theorem dX9_heritage_23 : decode cX9_heritage 23 = .ok (.iload_n 1, 1) := by decide +kernel
theorem dX9_heritage_24 : decode cX9_heritage 24 = .ok (.iconst 0, 1) := by decide +kernel
theorem dX9_heritage_25 : decode cX9_heritage 25 = .ok (.iastore, 1) := by decide +kernel
theorem dX9_heritage_26 : decode cX9_heritage 26 = .ok (.aload_n 0, 1) := by decide +kernel
theorem dX9_heritage_27 : decode cX9_heritage 27 = .ok (.bipush 64, 2) := by decide +kernel
theorem dX9_heritage_29 : decode cX9_heritage 29 = .ok (.invokevirtual 226, 3) := by decide +kernel
theorem dX9_heritage_32 : decode cX9_heritage 32 = .ok (.ifCond .eq 62, 3) := by decide +kernel
theorem dX9_heritage_35 : decode cX9_heritage 35 = .ok (.aload_n 0, 1) := by decide +kernel
theorem dX9_heritage_36 : decode cX9_heritage 36 = .ok (.dup, 1) := by decide +kernel
theorem dX9_heritage_37 : decode cX9_heritage 37 = .ok (.getfield 187, 3) := by decide +kernel
theorem dX9_heritage_40 : decode cX9_heritage 40 = .ok (.iconst 1, 1) := by decide +kernel
theorem dX9_heritage_41 : decode cX9_heritage 41 = .ok (.iadd, 1) := by decide +kernel
theorem dX9_heritage_42 : decode cX9_heritage 42 = .ok (.putfield 187, 3) := by decide +kernel
theorem dX9_heritage_45 : decode cX9_heritage 45 = .ok (.aload_n 0, 1) := by decide +kernel
theorem dX9_heritage_46 : decode cX9_heritage 46 = .ok (.getfield 37, 3) := by decide +kernel
theorem dX9_heritage_49 : decode cX9_heritage 49 = .ok (.getfield 239, 3) := by decide +kernel
theorem dX9_heritage_52 : decode cX9_heritage 52 = .ok (.bipush 7, 2) := by decide +kernel
theorem dX9_heritage_54 : decode cX9_heritage 54 = .ok (.aaload, 1) := by decide +kernel
theorem dX9_heritage_55 : decode cX9_heritage 55 = .ok (.iload_n 1, 1) := by decide +kernel
theorem dX9_heritage_56 : decode cX9_heritage 56 = .ok (.aload_n 0, 1) := by decide +kernel
theorem dX9_heritage_57 : decode cX9_heritage 57 = .ok (.invokevirtual 242, 3) := by decide +kernel
theorem dX9_heritage_60 : decode cX9_heritage 60 = .ok (.iastore, 1) := by decide +kernel
theorem dX9_heritage_61 : decode cX9_heritage 61 = .ok (.aload_n 0, 1) := by decide +kernel
theorem dX9_heritage_62 : decode cX9_heritage 62 = .ok (.getfield 37, 3) := by decide +kernel
theorem dX9_heritage_65 : decode cX9_heritage 65 = .ok (.getfield 239, 3) := by decide +kernel
theorem dX9_heritage_68 : decode cX9_heritage 68 = .ok (.bipush 6, 2) := by decide +kernel
theorem dX9_heritage_70 : decode cX9_heritage 70 = .ok (.aaload, 1) := by decide +kernel
theorem dX9_heritage_71 : decode cX9_heritage 71 = .ok (.iload_n 1, 1) := by decide +kernel
theorem dX9_heritage_72 : decode cX9_heritage 72 = .ok (.aload_n 0, 1) := by decide +kernel
theorem dX9_heritage_73 : decode cX9_heritage 73 = .ok (.invokevirtual 252, 3) := by decide +kernel
theorem dX9_heritage_76 : decode cX9_heritage 76 = .ok (.iastore, 1) := by decide +kernel
theorem dX9_heritage_77 : decode cX9_heritage 77 = .ok (.aload_n 0, 1) := by decide +kernel
theorem dX9_heritage_78 : decode cX9_heritage 78 = .ok (.getfield 37, 3) := by decide +kernel
theorem dX9_heritage_81 : decode cX9_heritage 81 = .ok (.getfield 239, 3) := by decide +kernel
theorem dX9_heritage_84 : decode cX9_heritage 84 = .ok (.bipush 6, 2) := by decide +kernel
theorem dX9_heritage_86 : decode cX9_heritage 86 = .ok (.aaload, 1) := by decide +kernel
theorem dX9_heritage_87 : decode cX9_heritage 87 = .ok (.iload_n 1, 1) := by decide +kernel
theorem dX9_heritage_88 : decode cX9_heritage 88 = .ok (.iaload, 1) := by decide +kernel
theorem dX9_heritage_89 : decode cX9_heritage 89 = .ok (.ifCond .ge 5, 3) := by decide +kernel
theorem dX9_heritage_94 : decode cX9_heritage 94 = .ok (.aload_n 0, 1) := by decide +kernel
theorem dX9_heritage_95 : decode cX9_heritage 95 = .ok (.bipush 65, 2) := by decide +kernel
theorem dX9_heritage_97 : decode cX9_heritage 97 = .ok (.invokevirtual 226, 3) := by decide +kernel
theorem dX9_heritage_100 : decode cX9_heritage 100 = .ok (.istore_n 2, 1) := by decide +kernel
theorem dX9_heritage_101 : decode cX9_heritage 101 = .ok (.iconst 0, 1) := by decide +kernel
theorem dX9_heritage_102 : decode cX9_heritage 102 = .ok (.istore_n 3, 1) := by decide +kernel
theorem dX9_heritage_103 : decode cX9_heritage 103 = .ok (.iload_n 2, 1) := by decide +kernel
theorem dX9_heritage_104 : decode cX9_heritage 104 = .ok (.ifCond .eq 125, 3) := by decide +kernel
theorem dX9_heritage_107 : decode cX9_heritage 107 = .ok (.iload_n 3, 1) := by decide +kernel
theorem dX9_heritage_108 : decode cX9_heritage 108 = .ok (.bipush 6, 2) := by decide +kernel
theorem dX9_heritage_110 : decode cX9_heritage 110 = .ok (.if_icmp .gt 119, 3) := by decide +kernel
theorem dX9_heritage_113 : decode cX9_heritage 113 = .ok (.aload_n 0, 1) := by decide +kernel
theorem dX9_heritage_114 : decode cX9_heritage 114 = .ok (.dup, 1) := by decide +kernel
theorem dX9_heritage_115 : decode cX9_heritage 115 = .ok (.getfield 187, 3) := by decide +kernel
theorem dX9_heritage_118 : decode cX9_heritage 118 = .ok (.iconst 1, 1) := by decide +kernel
theorem dX9_heritage_119 : decode cX9_heritage 119 = .ok (.iadd, 1) := by decide +kernel
theorem dX9_heritage_120 : decode cX9_heritage 120 = .ok (.putfield 187, 3) := by decide +kernel
theorem dX9_heritage_123 : decode cX9_heritage 123 = .ok (.aload_n 0, 1) := by decide +kernel
theorem dX9_heritage_124 : decode cX9_heritage 124 = .ok (.invokevirtual 230, 3) := by decide +kernel
theorem dX9_heritage_127 : decode cX9_heritage 127 = .ok (.ifCond .ne 5, 3) := by decide +kernel
theorem dX9_heritage_132 : decode cX9_heritage 132 = .ok (.iload_n 3, 1) := by decide +kernel
theorem dX9_heritage_133 : decode cX9_heritage 133 = .ok (.bipush 6, 2) := by decide +kernel
theorem dX9_heritage_135 : decode cX9_heritage 135 = .ok (.if_icmp .ne 8, 3) := by decide +kernel
theorem dX9_heritage_143 : decode cX9_heritage 143 = .ok (.aload_n 0, 1) := by decide +kernel
theorem dX9_heritage_144 : decode cX9_heritage 144 = .ok (.getfield 37, 3) := by decide +kernel
theorem dX9_heritage_147 : decode cX9_heritage 147 = .ok (.getfield 255, 3) := by decide +kernel
theorem dX9_heritage_150 : decode cX9_heritage 150 = .ok (.iload_n 1, 1) := by decide +kernel
theorem dX9_heritage_151 : decode cX9_heritage 151 = .ok (.bipush 12, 2) := by decide +kernel
theorem dX9_heritage_153 : decode cX9_heritage 153 = .ok (.imul, 1) := by decide +kernel
theorem dX9_heritage_154 : decode cX9_heritage 154 = .ok (.iload_n 3, 1) := by decide +kernel
theorem dX9_heritage_155 : decode cX9_heritage 155 = .ok (.iconst 2, 1) := by decide +kernel
theorem dX9_heritage_156 : decode cX9_heritage 156 = .ok (.imul, 1) := by decide +kernel
theorem dX9_heritage_157 : decode cX9_heritage 157 = .ok (.iadd, 1) := by decide +kernel
theorem dX9_heritage_158 : decode cX9_heritage 158 = .ok (.aload_n 0, 1) := by decide +kernel
theorem dX9_heritage_159 : decode cX9_heritage 159 = .ok (.getfield 34, 3) := by decide +kernel
theorem dX9_heritage_162 : decode cX9_heritage 162 = .ok (.aload_n 0, 1) := by decide +kernel
theorem dX9_heritage_163 : decode cX9_heritage 163 = .ok (.getfield 187, 3) := by decide +kernel
theorem dX9_heritage_166 : decode cX9_heritage 166 = .ok (.iaload, 1) := by decide +kernel
theorem dX9_heritage_167 : decode cX9_heritage 167 = .ok (.iastore, 1) := by decide +kernel
theorem dX9_heritage_168 : decode cX9_heritage 168 = .ok (.aload_n 0, 1) := by decide +kernel
theorem dX9_heritage_169 : decode cX9_heritage 169 = .ok (.getfield 37, 3) := by decide +kernel
theorem dX9_heritage_172 : decode cX9_heritage 172 = .ok (.getfield 255, 3) := by decide +kernel
theorem dX9_heritage_175 : decode cX9_heritage 175 = .ok (.iload_n 1, 1) := by decide +kernel
theorem dX9_heritage_176 : decode cX9_heritage 176 = .ok (.bipush 12, 2) := by decide +kernel
theorem dX9_heritage_178 : decode cX9_heritage 178 = .ok (.imul, 1) := by decide +kernel
theorem dX9_heritage_179 : decode cX9_heritage 179 = .ok (.iload_n 3, 1) := by decide +kernel
theorem dX9_heritage_180 : decode cX9_heritage 180 = .ok (.iconst 2, 1) := by decide +kernel
theorem dX9_heritage_181 : decode cX9_heritage 181 = .ok (.imul, 1) := by decide +kernel
theorem dX9_heritage_182 : decode cX9_heritage 182 = .ok (.iadd, 1) := by decide +kernel
theorem dX9_heritage_183 : decode cX9_heritage 183 = .ok (.iconst 1, 1) := by decide +kernel
theorem dX9_heritage_184 : decode cX9_heritage 184 = .ok (.iadd, 1) := by decide +kernel
theorem dX9_heritage_185 : decode cX9_heritage 185 = .ok (.aload_n 0, 1) := by decide +kernel
theorem dX9_heritage_186 : decode cX9_heritage 186 = .ok (.invokevirtual 242, 3) := by decide +kernel
theorem dX9_heritage_189 : decode cX9_heritage 189 = .ok (.iastore, 1) := by decide +kernel
theorem dX9_heritage_190 : decode cX9_heritage 190 = .ok (.aload_n 0, 1) := by decide +kernel
theorem dX9_heritage_191 : decode cX9_heritage 191 = .ok (.getfield 37, 3) := by decide +kernel
theorem dX9_heritage_194 : decode cX9_heritage 194 = .ok (.getfield 239, 3) := by decide +kernel
theorem dX9_heritage_197 : decode cX9_heritage 197 = .ok (.bipush 8, 2) := by decide +kernel
theorem dX9_heritage_199 : decode cX9_heritage 199 = .ok (.aaload, 1) := by decide +kernel
theorem dX9_heritage_200 : decode cX9_heritage 200 = .ok (.iload_n 1, 1) := by decide +kernel
theorem dX9_heritage_201 : decode cX9_heritage 201 = .ok (.dup2, 1) := by decide +kernel
theorem dX9_heritage_202 : decode cX9_heritage 202 = .ok (.iaload, 1) := by decide +kernel
theorem dX9_heritage_203 : decode cX9_heritage 203 = .ok (.iconst 1, 1) := by decide +kernel
theorem dX9_heritage_204 : decode cX9_heritage 204 = .ok (.iadd, 1) := by decide +kernel
theorem dX9_heritage_205 : decode cX9_heritage 205 = .ok (.iastore, 1) := by decide +kernel
theorem dX9_heritage_206 : decode cX9_heritage 206 = .ok (.aload_n 0, 1) := by decide +kernel
theorem dX9_heritage_207 : decode cX9_heritage 207 = .ok (.dup, 1) := by decide +kernel
theorem dX9_heritage_208 : decode cX9_heritage 208 = .ok (.getfield 187, 3) := by decide +kernel
theorem dX9_heritage_211 : decode cX9_heritage 211 = .ok (.iconst 1, 1) := by decide +kernel
theorem dX9_heritage_212 : decode cX9_heritage 212 = .ok (.iadd, 1) := by decide +kernel
theorem dX9_heritage_213 : decode cX9_heritage 213 = .ok (.putfield 187, 3) := by decide +kernel
theorem dX9_heritage_216 : decode cX9_heritage 216 = .ok (.aload_n 0, 1) := by decide +kernel
theorem dX9_heritage_217 : decode cX9_heritage 217 = .ok (.bipush 44, 2) := by decide +kernel
theorem dX9_heritage_219 : decode cX9_heritage 219 = .ok (.invokevirtual 258, 3) := by decide +kernel
theorem dX9_heritage_222 : decode cX9_heritage 222 = .ok (.istore_n 2, 1) := by decide +kernel
theorem dX9_heritage_223 : decode cX9_heritage 223 = .ok (.iinc 3 1, 3) := by decide +kernel
theorem dX9_heritage_226 : decode cX9_heritage 226 = .ok (.goto (-123), 3) := by decide +kernel
theorem dX9_heritage_229 : decode cX9_heritage 229 = .ok (.aload_n 0, 1) := by decide +kernel
theorem dX9_heritage_230 : decode cX9_heritage 230 = .ok (.iconst 1, 1) := by decide +kernel
theorem dX9_heritage_231 : decode cX9_heritage 231 = .ok (.putfield 190, 3) := by decide +kernel
theorem dX9_heritage_234 : decode cX9_heritage 234 = .ok (.aload_n 0, 1) := by decide +kernel
theorem dX9_heritage_235 : decode cX9_heritage 235 = .ok (.bipush 123, 2) := by decide +kernel
theorem dX9_heritage_237 : decode cX9_heritage 237 = .ok (.invokevirtual 223, 3) := by decide +kernel
theorem dX9_heritage_240 : decode cX9_heritage 240 = .ok (.ireturn, 1) := by decide +kernel
def rpX9_heritage : List Nat := [0, 1, 4, 7, 9, 10, 11, 12, 13, 14, 17, 20, 22, 23, 24, 25, 26, 27, 29, 32, 35, 36, 37, 40, 41, 42, 45, 46, 49, 52, 54, 55, 56, 57, 60, 61, 62, 65, 68, 70, 71, 72, 73, 76, 77, 78, 81, 84, 86, 87, 88, 89, 92, 94, 95, 97, 100, 101, 102, 103, 104, 107, 108, 110, 113, 114, 115, 118, 119, 120, 123, 124, 127, 130, 132, 133, 135, 138, 143, 144, 147, 150, 151, 153, 154, 155, 156, 157, 158, 159, 162, 163, 166, 167, 168, 169, 172, 175, 176, 178, 179, 180, 181, 182, 183, 184, 185, 186, 189, 190, 191, 194, 197, 199, 200, 201, 202, 203, 204, 205, 206, 207, 208, 211, 212, 213, 216, 217, 219, 222, 223, 226, 229, 230, 231, 234, 235, 237, 240]
noncomputable def rcX9_heritage : List rz_B := [rz_aload 0, rz_getf (Nat.add (Nat.mul 256 11) 1) 0 rz_r, rz_getf (Nat.add (Nat.mul 256 9) 1) 3 rz_r, rz_cst 6, rz_aald, rz_iload 1, rz_cst 4294967295, rz_iast, rz_aload 0, rz_getf (Nat.add (Nat.mul 256 11) 1) 0 rz_r, rz_getf (Nat.add (Nat.mul 256 9) 1) 3 rz_r, rz_cst 8, rz_aald, rz_iload 1, rz_cst 0, rz_iast, rz_aload 0, rz_cst 64, rz_callV 1 (Nat.add (Nat.mul 256 11) 1) rgX9_isWord, rz_ifeq 53, rz_aload 0, rz_dup, rz_getf (Nat.add (Nat.mul 256 11) 1) 15 rz_i, rz_cst 1, rz_iadd, rz_putf (Nat.add (Nat.mul 256 11) 1) 15 rz_unI, rz_aload 0, rz_getf (Nat.add (Nat.mul 256 11) 1) 0 rz_r, rz_getf (Nat.add (Nat.mul 256 9) 1) 3 rz_r, rz_cst 7, rz_aald, rz_iload 1, rz_aload 0, rz_callV 0 (Nat.add (Nat.mul 256 11) 1) rgX9_spot, rz_iast, rz_aload 0, rz_getf (Nat.add (Nat.mul 256 11) 1) 0 rz_r, rz_getf (Nat.add (Nat.mul 256 9) 1) 3 rz_r, rz_cst 6, rz_aald, rz_iload 1, rz_aload 0, rz_callV 0 (Nat.add (Nat.mul 256 11) 1) rgX9_takeName, rz_iast, rz_aload 0, rz_getf (Nat.add (Nat.mul 256 11) 1) 0 rz_r, rz_getf (Nat.add (Nat.mul 256 9) 1) 3 rz_r, rz_cst 6, rz_aald, rz_iload 1, rz_iald, rz_ifge 53, rz_no, rz_aload 0, rz_cst 65, rz_callV 1 (Nat.add (Nat.mul 256 11) 1) rgX9_isWord, rz_istore 2, rz_cst 0, rz_istore 3, rz_iload 2, rz_ifeq 132, rz_iload 3, rz_cst 6, rz_icmpgt 132, rz_aload 0, rz_dup, rz_getf (Nat.add (Nat.mul 256 11) 1) 15 rz_i, rz_cst 1, rz_iadd, rz_putf (Nat.add (Nat.mul 256 11) 1) 15 rz_unI, rz_aload 0, rz_callV 0 (Nat.add (Nat.mul 256 11) 1) rgX9_isName, rz_ifne 74, rz_no, rz_iload 3, rz_cst 6, rz_icmpne 78, rz_no, rz_aload 0, rz_getf (Nat.add (Nat.mul 256 11) 1) 0 rz_r, rz_getf (Nat.add (Nat.mul 256 9) 1) 4 rz_r, rz_iload 1, rz_cst 12, rz_imul, rz_iload 3, rz_cst 2, rz_imul, rz_iadd, rz_aload 0, rz_getf (Nat.add (Nat.mul 256 11) 1) 13 rz_r, rz_aload 0, rz_getf (Nat.add (Nat.mul 256 11) 1) 15 rz_i, rz_iald, rz_iast, rz_aload 0, rz_getf (Nat.add (Nat.mul 256 11) 1) 0 rz_r, rz_getf (Nat.add (Nat.mul 256 9) 1) 4 rz_r, rz_iload 1, rz_cst 12, rz_imul, rz_iload 3, rz_cst 2, rz_imul, rz_iadd, rz_cst 1, rz_iadd, rz_aload 0, rz_callV 0 (Nat.add (Nat.mul 256 11) 1) rgX9_spot, rz_iast, rz_aload 0, rz_getf (Nat.add (Nat.mul 256 11) 1) 0 rz_r, rz_getf (Nat.add (Nat.mul 256 9) 1) 3 rz_r, rz_cst 8, rz_aald, rz_iload 1, rz_dup2, rz_iald, rz_cst 1, rz_iadd, rz_iast, rz_aload 0, rz_dup, rz_getf (Nat.add (Nat.mul 256 11) 1) 15 rz_i, rz_cst 1, rz_iadd, rz_putf (Nat.add (Nat.mul 256 11) 1) 15 rz_unI, rz_aload 0, rz_cst 44, rz_callV 1 (Nat.add (Nat.mul 256 11) 1) rgX9_isSign, rz_istore 2, rz_iinc 3 1, rz_goto 59, rz_aload 0, rz_cst 1, rz_putf (Nat.add (Nat.mul 256 11) 1) 16 rz_unI, rz_aload 0, rz_cst 123, rz_callV 1 (Nat.add (Nat.mul 256 11) 1) rgX9_takeSign, rz_zret]
noncomputable def rgX9_heritage : rz_L → rz_M → rz_Z → Bool := rz_go rcX9_heritage 4 1000000
def rrX9_heritage : Room := { frames := 1, cells := 0, slots := 0, locals := 21 }
theorem rmX9_heritage (l : Launch) {G : rz_G} (hG : rz_Gd G) (vs : rz_L) (M : rz_M) (Z : rz_Z) (hn : vs.length = 2) (h : rgX9_heritage vs M Z = true) : Met l yX9_heritage (Cond.code yX9_heritage cX9_heritage 4 (some .boolean) :: rz_TB) rrX9_heritage (rz_Pre G vs M) (rz_Qi G M.2 Z) 0 0 (fun q => rz_b G ≤ q) := by
  obtain ⟨D, tc, ad, b, xs, rfl⟩ := id hG
  refine rz_body (pcs := rpX9_heritage) (by decide) rfl (by rw [hn]; decide) h ?_
  intro p e R s m args below meth c hC
  obtain ⟨hx, hb, hml, hr, hlk, ho, hts, hKn, hRm⟩ := id hC
  obtain ⟨hK, hA, hSt⟩ := id hKn
  have hw : ∀ {i j : Nat} {ws : List Cond} {w : Cond}, rz_WW[i]? = some ws → ws[j]? = some w → w.before args s = true := fun h1 h2 => hts _ (List.mem_cons_of_mem _ (rz_mem h1 h2))
  refine rz_All_c (i := 0) (fun k J hk hJ => rz_aload_n_ok (pc := 0) hx hb dX9_heritage_0 rfl hk) ?_
  refine rz_All_c (i := 1) (fun k J hk hJ => rz_getf_ok (pc := 1) (own := RX9) (ref := "ThreadJudge$Reader") (C := RX9) (T := TX9) (N := 19) (ci := 11) (index := 37) (f := 0) (t := 2) (Ts := Cond.code yX9_heritage cX9_heritage 4 (some .boolean) :: rz_TB) hx hb hts rz_in11 ho hK rfl (by decide) rfl (fun _ => rfl) (hw (i := 9) (j := 16) rfl rfl) (fun _ z => z) dX9_heritage_1 hk) ?_
  refine rz_All_c (i := 2) (fun k J hk hJ => rz_getf_ok (pc := 4) (own := RX9) (ref := "ThreadJudge$Program") (C := RX7) (T := TX7) (N := 22) (ci := 9) (index := 239) (f := 3) (t := 2) (Ts := Cond.code yX9_heritage cX9_heritage 4 (some .boolean) :: rz_TB) hx hb hts rz_in9 ho hK rfl (by decide) rfl (fun _ => rfl) (hw (i := 10) (j := 0) rfl rfl) (fun _ z => z) dX9_heritage_4 hk) ?_
  refine rz_All_c (i := 3) (fun k J hk hJ => rz_bipush_ok (pc := 7) hx hb dX9_heritage_7 (by decide) hk) ?_
  refine rz_All_c (i := 4) (fun k J hk hJ => rz_aald_ok (pc := 9) hx hb hK dX9_heritage_9 hk) ?_
  refine rz_All_c (i := 5) (fun k J hk hJ => rz_iload_n_ok (pc := 10) hx hb dX9_heritage_10 rfl hk) ?_
  refine rz_All_c (i := 6) (fun k J hk hJ => rz_iconst_ok (pc := 11) hx hb dX9_heritage_11 rfl hk) ?_
  refine rz_All_c (i := 7) (fun k J hk hJ => rz_iast_ok (pc := 12) hx hb hK hA dX9_heritage_12 hk) ?_
  refine rz_All_c (i := 8) (fun k J hk hJ => rz_aload_n_ok (pc := 13) hx hb dX9_heritage_13 rfl hk) ?_
  refine rz_All_c (i := 9) (fun k J hk hJ => rz_getf_ok (pc := 14) (own := RX9) (ref := "ThreadJudge$Reader") (C := RX9) (T := TX9) (N := 19) (ci := 11) (index := 37) (f := 0) (t := 2) (Ts := Cond.code yX9_heritage cX9_heritage 4 (some .boolean) :: rz_TB) hx hb hts rz_in11 ho hK rfl (by decide) rfl (fun _ => rfl) (hw (i := 9) (j := 16) rfl rfl) (fun _ z => z) dX9_heritage_14 hk) ?_
  refine rz_All_c (i := 10) (fun k J hk hJ => rz_getf_ok (pc := 17) (own := RX9) (ref := "ThreadJudge$Program") (C := RX7) (T := TX7) (N := 22) (ci := 9) (index := 239) (f := 3) (t := 2) (Ts := Cond.code yX9_heritage cX9_heritage 4 (some .boolean) :: rz_TB) hx hb hts rz_in9 ho hK rfl (by decide) rfl (fun _ => rfl) (hw (i := 10) (j := 0) rfl rfl) (fun _ z => z) dX9_heritage_17 hk) ?_
  refine rz_All_c (i := 11) (fun k J hk hJ => rz_bipush_ok (pc := 20) hx hb dX9_heritage_20 (by decide) hk) ?_
  refine rz_All_c (i := 12) (fun k J hk hJ => rz_aald_ok (pc := 22) hx hb hK dX9_heritage_22 hk) ?_
  refine rz_All_c (i := 13) (fun k J hk hJ => rz_iload_n_ok (pc := 23) hx hb dX9_heritage_23 rfl hk) ?_
  refine rz_All_c (i := 14) (fun k J hk hJ => rz_iconst_ok (pc := 24) hx hb dX9_heritage_24 rfl hk) ?_
  refine rz_All_c (i := 15) (fun k J hk hJ => rz_iast_ok (pc := 25) hx hb hK hA dX9_heritage_25 hk) ?_
  refine rz_All_c (i := 16) (fun k J hk hJ => rz_aload_n_ok (pc := 26) hx hb dX9_heritage_26 rfl hk) ?_
  refine rz_All_c (i := 17) (fun k J hk hJ => rz_bipush_ok (pc := 27) hx hb dX9_heritage_27 (by decide) hk) ?_
  refine rz_All_c (i := 18) (fun k J hk hJ => rz_callV_ok (pc := 29) (own := RX9) (C := RX9) (T0 := TX9) (N0 := 19) hC rfl (rmX9_isWord l hG) (rz_cwV 1 hC rz_good (rz_mem (i := 10) (j := 2) rfl rfl) (rz_mem (i := 10) (j := 3) rfl rfl) (rz_mem (i := 10) (j := 4) rfl rfl) (rz_mem (i := 1) (j := 21) rfl rfl) (rz_mem (i := 10) (j := 5) rfl rfl) ⟨rfl, by decide, by decide, by decide +kernel⟩ rfl rfl ⟨by decide, by decide⟩) rfl dX9_heritage_29 hk) ?_
  refine rz_All_c (i := 19) (fun k J hk hJ => rz_ifeq_ok (pc := 32) hx hb dX9_heritage_32 rfl hk (hJ 53)) ?_
  refine rz_All_c (i := 20) (fun k J hk hJ => rz_aload_n_ok (pc := 35) hx hb dX9_heritage_35 rfl hk) ?_
  refine rz_All_c (i := 21) (fun k J hk hJ => rz_dup_ok (pc := 36) hx hb dX9_heritage_36 hk) ?_
  refine rz_All_c (i := 22) (fun k J hk hJ => rz_getf_ok (pc := 37) (own := RX9) (ref := "ThreadJudge$Reader") (C := RX9) (T := TX9) (N := 19) (ci := 11) (index := 187) (f := 15) (t := 0) (Ts := Cond.code yX9_heritage cX9_heritage 4 (some .boolean) :: rz_TB) hx hb hts rz_in11 ho hK rfl (by decide) rfl (fun _ => rfl) (hw (i := 3) (j := 11) rfl rfl) (fun _ z => z) dX9_heritage_37 hk) ?_
  refine rz_All_c (i := 23) (fun k J hk hJ => rz_iconst_ok (pc := 40) hx hb dX9_heritage_40 rfl hk) ?_
  refine rz_All_c (i := 24) (fun k J hk hJ => rz_iadd_ok (pc := 41) hx hb dX9_heritage_41 hk) ?_
  refine rz_All_c (i := 25) (fun k J hk hJ => rz_putf_ok (pc := 42) (own := RX9) (ref := "ThreadJudge$Reader") (C := RX9) (T := TX9) (N := 19) (ci := 11) (index := 187) (f := 15) (t := 0) (Ts := Cond.code yX9_heritage cX9_heritage 4 (some .boolean) :: rz_TB) hx hb hts rz_in11 tyX9 tyX9_ok nmX9 ho hK hA rfl (by decide) rfl (rz_UnI _) rfl (tyX9_ok 15 (by decide)) (hw (i := 3) (j := 11) rfl rfl) (fun _ z => z) dX9_heritage_42 hk) ?_
  refine rz_All_c (i := 26) (fun k J hk hJ => rz_aload_n_ok (pc := 45) hx hb dX9_heritage_45 rfl hk) ?_
  refine rz_All_c (i := 27) (fun k J hk hJ => rz_getf_ok (pc := 46) (own := RX9) (ref := "ThreadJudge$Reader") (C := RX9) (T := TX9) (N := 19) (ci := 11) (index := 37) (f := 0) (t := 2) (Ts := Cond.code yX9_heritage cX9_heritage 4 (some .boolean) :: rz_TB) hx hb hts rz_in11 ho hK rfl (by decide) rfl (fun _ => rfl) (hw (i := 9) (j := 16) rfl rfl) (fun _ z => z) dX9_heritage_46 hk) ?_
  refine rz_All_c (i := 28) (fun k J hk hJ => rz_getf_ok (pc := 49) (own := RX9) (ref := "ThreadJudge$Program") (C := RX7) (T := TX7) (N := 22) (ci := 9) (index := 239) (f := 3) (t := 2) (Ts := Cond.code yX9_heritage cX9_heritage 4 (some .boolean) :: rz_TB) hx hb hts rz_in9 ho hK rfl (by decide) rfl (fun _ => rfl) (hw (i := 10) (j := 0) rfl rfl) (fun _ z => z) dX9_heritage_49 hk) ?_
  refine rz_All_c (i := 29) (fun k J hk hJ => rz_bipush_ok (pc := 52) hx hb dX9_heritage_52 (by decide) hk) ?_
  refine rz_All_c (i := 30) (fun k J hk hJ => rz_aald_ok (pc := 54) hx hb hK dX9_heritage_54 hk) ?_
  refine rz_All_c (i := 31) (fun k J hk hJ => rz_iload_n_ok (pc := 55) hx hb dX9_heritage_55 rfl hk) ?_
  refine rz_All_c (i := 32) (fun k J hk hJ => rz_aload_n_ok (pc := 56) hx hb dX9_heritage_56 rfl hk) ?_
  refine rz_All_c (i := 33) (fun k J hk hJ => rz_callV_ok (pc := 57) (own := RX9) (C := RX9) (T0 := TX9) (N0 := 19) hC rfl (rmX9_spot l hG) (rz_cwV 0 hC rz_good (rz_mem (i := 10) (j := 14) rfl rfl) (rz_mem (i := 10) (j := 15) rfl rfl) (rz_mem (i := 10) (j := 16) rfl rfl) (rz_mem (i := 1) (j := 21) rfl rfl) (rz_mem (i := 10) (j := 17) rfl rfl) ⟨rfl, by decide, by decide, by decide +kernel⟩ rfl rfl ⟨by decide, by decide⟩) rfl dX9_heritage_57 hk) ?_
  refine rz_All_c (i := 34) (fun k J hk hJ => rz_iast_ok (pc := 60) hx hb hK hA dX9_heritage_60 hk) ?_
  refine rz_All_c (i := 35) (fun k J hk hJ => rz_aload_n_ok (pc := 61) hx hb dX9_heritage_61 rfl hk) ?_
  refine rz_All_c (i := 36) (fun k J hk hJ => rz_getf_ok (pc := 62) (own := RX9) (ref := "ThreadJudge$Reader") (C := RX9) (T := TX9) (N := 19) (ci := 11) (index := 37) (f := 0) (t := 2) (Ts := Cond.code yX9_heritage cX9_heritage 4 (some .boolean) :: rz_TB) hx hb hts rz_in11 ho hK rfl (by decide) rfl (fun _ => rfl) (hw (i := 9) (j := 16) rfl rfl) (fun _ z => z) dX9_heritage_62 hk) ?_
  refine rz_All_c (i := 37) (fun k J hk hJ => rz_getf_ok (pc := 65) (own := RX9) (ref := "ThreadJudge$Program") (C := RX7) (T := TX7) (N := 22) (ci := 9) (index := 239) (f := 3) (t := 2) (Ts := Cond.code yX9_heritage cX9_heritage 4 (some .boolean) :: rz_TB) hx hb hts rz_in9 ho hK rfl (by decide) rfl (fun _ => rfl) (hw (i := 10) (j := 0) rfl rfl) (fun _ z => z) dX9_heritage_65 hk) ?_
  refine rz_All_c (i := 38) (fun k J hk hJ => rz_bipush_ok (pc := 68) hx hb dX9_heritage_68 (by decide) hk) ?_
  refine rz_All_c (i := 39) (fun k J hk hJ => rz_aald_ok (pc := 70) hx hb hK dX9_heritage_70 hk) ?_
  refine rz_All_c (i := 40) (fun k J hk hJ => rz_iload_n_ok (pc := 71) hx hb dX9_heritage_71 rfl hk) ?_
  refine rz_All_c (i := 41) (fun k J hk hJ => rz_aload_n_ok (pc := 72) hx hb dX9_heritage_72 rfl hk) ?_
  refine rz_All_c (i := 42) (fun k J hk hJ => rz_callV_ok (pc := 73) (own := RX9) (C := RX9) (T0 := TX9) (N0 := 19) hC rfl (rmX9_takeName l hG) (rz_cwV 0 hC rz_good (rz_mem (i := 11) (j := 0) rfl rfl) (rz_mem (i := 11) (j := 1) rfl rfl) (rz_mem (i := 11) (j := 2) rfl rfl) (rz_mem (i := 1) (j := 21) rfl rfl) (rz_mem (i := 11) (j := 3) rfl rfl) ⟨rfl, by decide, by decide, by decide +kernel⟩ rfl rfl ⟨by decide, by decide⟩) rfl dX9_heritage_73 hk) ?_
  refine rz_All_c (i := 43) (fun k J hk hJ => rz_iast_ok (pc := 76) hx hb hK hA dX9_heritage_76 hk) ?_
  refine rz_All_c (i := 44) (fun k J hk hJ => rz_aload_n_ok (pc := 77) hx hb dX9_heritage_77 rfl hk) ?_
  refine rz_All_c (i := 45) (fun k J hk hJ => rz_getf_ok (pc := 78) (own := RX9) (ref := "ThreadJudge$Reader") (C := RX9) (T := TX9) (N := 19) (ci := 11) (index := 37) (f := 0) (t := 2) (Ts := Cond.code yX9_heritage cX9_heritage 4 (some .boolean) :: rz_TB) hx hb hts rz_in11 ho hK rfl (by decide) rfl (fun _ => rfl) (hw (i := 9) (j := 16) rfl rfl) (fun _ z => z) dX9_heritage_78 hk) ?_
  refine rz_All_c (i := 46) (fun k J hk hJ => rz_getf_ok (pc := 81) (own := RX9) (ref := "ThreadJudge$Program") (C := RX7) (T := TX7) (N := 22) (ci := 9) (index := 239) (f := 3) (t := 2) (Ts := Cond.code yX9_heritage cX9_heritage 4 (some .boolean) :: rz_TB) hx hb hts rz_in9 ho hK rfl (by decide) rfl (fun _ => rfl) (hw (i := 10) (j := 0) rfl rfl) (fun _ z => z) dX9_heritage_81 hk) ?_
  refine rz_All_c (i := 47) (fun k J hk hJ => rz_bipush_ok (pc := 84) hx hb dX9_heritage_84 (by decide) hk) ?_
  refine rz_All_c (i := 48) (fun k J hk hJ => rz_aald_ok (pc := 86) hx hb hK dX9_heritage_86 hk) ?_
  refine rz_All_c (i := 49) (fun k J hk hJ => rz_iload_n_ok (pc := 87) hx hb dX9_heritage_87 rfl hk) ?_
  refine rz_All_c (i := 50) (fun k J hk hJ => rz_iald_ok (pc := 88) hx hb hK dX9_heritage_88 hk) ?_
  refine rz_All_c (i := 51) (fun k J hk hJ => rz_ifge_ok (pc := 89) hx hb dX9_heritage_89 rfl hk (hJ 53)) ?_
  refine rz_All_c (i := 52) (fun k J hk hJ => rz_no_ok) ?_
  refine rz_All_c (i := 53) (fun k J hk hJ => rz_aload_n_ok (pc := 94) hx hb dX9_heritage_94 rfl hk) ?_
  refine rz_All_c (i := 54) (fun k J hk hJ => rz_bipush_ok (pc := 95) hx hb dX9_heritage_95 (by decide) hk) ?_
  refine rz_All_c (i := 55) (fun k J hk hJ => rz_callV_ok (pc := 97) (own := RX9) (C := RX9) (T0 := TX9) (N0 := 19) hC rfl (rmX9_isWord l hG) (rz_cwV 1 hC rz_good (rz_mem (i := 10) (j := 2) rfl rfl) (rz_mem (i := 10) (j := 3) rfl rfl) (rz_mem (i := 10) (j := 4) rfl rfl) (rz_mem (i := 1) (j := 21) rfl rfl) (rz_mem (i := 10) (j := 5) rfl rfl) ⟨rfl, by decide, by decide, by decide +kernel⟩ rfl rfl ⟨by decide, by decide⟩) rfl dX9_heritage_97 hk) ?_
  refine rz_All_c (i := 56) (fun k J hk hJ => rz_istore_n_ok (pc := 100) hx hb dX9_heritage_100 rfl hk) ?_
  refine rz_All_c (i := 57) (fun k J hk hJ => rz_iconst_ok (pc := 101) hx hb dX9_heritage_101 rfl hk) ?_
  refine rz_All_c (i := 58) (fun k J hk hJ => rz_istore_n_ok (pc := 102) hx hb dX9_heritage_102 rfl hk) ?_
  refine rz_All_c (i := 59) (fun k J hk hJ => rz_iload_n_ok (pc := 103) hx hb dX9_heritage_103 rfl hk) ?_
  refine rz_All_c (i := 60) (fun k J hk hJ => rz_ifeq_ok (pc := 104) hx hb dX9_heritage_104 rfl hk (hJ 132)) ?_
  refine rz_All_c (i := 61) (fun k J hk hJ => rz_iload_n_ok (pc := 107) hx hb dX9_heritage_107 rfl hk) ?_
  refine rz_All_c (i := 62) (fun k J hk hJ => rz_bipush_ok (pc := 108) hx hb dX9_heritage_108 (by decide) hk) ?_
  refine rz_All_c (i := 63) (fun k J hk hJ => rz_icmpgt_ok (pc := 110) hx hb dX9_heritage_110 rfl hk (hJ 132)) ?_
  refine rz_All_c (i := 64) (fun k J hk hJ => rz_aload_n_ok (pc := 113) hx hb dX9_heritage_113 rfl hk) ?_
  refine rz_All_c (i := 65) (fun k J hk hJ => rz_dup_ok (pc := 114) hx hb dX9_heritage_114 hk) ?_
  refine rz_All_c (i := 66) (fun k J hk hJ => rz_getf_ok (pc := 115) (own := RX9) (ref := "ThreadJudge$Reader") (C := RX9) (T := TX9) (N := 19) (ci := 11) (index := 187) (f := 15) (t := 0) (Ts := Cond.code yX9_heritage cX9_heritage 4 (some .boolean) :: rz_TB) hx hb hts rz_in11 ho hK rfl (by decide) rfl (fun _ => rfl) (hw (i := 3) (j := 11) rfl rfl) (fun _ z => z) dX9_heritage_115 hk) ?_
  refine rz_All_c (i := 67) (fun k J hk hJ => rz_iconst_ok (pc := 118) hx hb dX9_heritage_118 rfl hk) ?_
  refine rz_All_c (i := 68) (fun k J hk hJ => rz_iadd_ok (pc := 119) hx hb dX9_heritage_119 hk) ?_
  refine rz_All_c (i := 69) (fun k J hk hJ => rz_putf_ok (pc := 120) (own := RX9) (ref := "ThreadJudge$Reader") (C := RX9) (T := TX9) (N := 19) (ci := 11) (index := 187) (f := 15) (t := 0) (Ts := Cond.code yX9_heritage cX9_heritage 4 (some .boolean) :: rz_TB) hx hb hts rz_in11 tyX9 tyX9_ok nmX9 ho hK hA rfl (by decide) rfl (rz_UnI _) rfl (tyX9_ok 15 (by decide)) (hw (i := 3) (j := 11) rfl rfl) (fun _ z => z) dX9_heritage_120 hk) ?_
  refine rz_All_c (i := 70) (fun k J hk hJ => rz_aload_n_ok (pc := 123) hx hb dX9_heritage_123 rfl hk) ?_
  refine rz_All_c (i := 71) (fun k J hk hJ => rz_callV_ok (pc := 124) (own := RX9) (C := RX9) (T0 := TX9) (N0 := 19) hC rfl (rmX9_isName l hG) (rz_cwV 0 hC rz_good (rz_mem (i := 10) (j := 6) rfl rfl) (rz_mem (i := 10) (j := 7) rfl rfl) (rz_mem (i := 10) (j := 8) rfl rfl) (rz_mem (i := 1) (j := 21) rfl rfl) (rz_mem (i := 10) (j := 9) rfl rfl) ⟨rfl, by decide, by decide, by decide +kernel⟩ rfl rfl ⟨by decide, by decide⟩) rfl dX9_heritage_124 hk) ?_
  refine rz_All_c (i := 72) (fun k J hk hJ => rz_ifne_ok (pc := 127) hx hb dX9_heritage_127 rfl hk (hJ 74)) ?_
  refine rz_All_c (i := 73) (fun k J hk hJ => rz_no_ok) ?_
  refine rz_All_c (i := 74) (fun k J hk hJ => rz_iload_n_ok (pc := 132) hx hb dX9_heritage_132 rfl hk) ?_
  refine rz_All_c (i := 75) (fun k J hk hJ => rz_bipush_ok (pc := 133) hx hb dX9_heritage_133 (by decide) hk) ?_
  refine rz_All_c (i := 76) (fun k J hk hJ => rz_icmpne_ok (pc := 135) hx hb dX9_heritage_135 rfl hk (hJ 78)) ?_
  refine rz_All_c (i := 77) (fun k J hk hJ => rz_no_ok) ?_
  refine rz_All_c (i := 78) (fun k J hk hJ => rz_aload_n_ok (pc := 143) hx hb dX9_heritage_143 rfl hk) ?_
  refine rz_All_c (i := 79) (fun k J hk hJ => rz_getf_ok (pc := 144) (own := RX9) (ref := "ThreadJudge$Reader") (C := RX9) (T := TX9) (N := 19) (ci := 11) (index := 37) (f := 0) (t := 2) (Ts := Cond.code yX9_heritage cX9_heritage 4 (some .boolean) :: rz_TB) hx hb hts rz_in11 ho hK rfl (by decide) rfl (fun _ => rfl) (hw (i := 9) (j := 16) rfl rfl) (fun _ z => z) dX9_heritage_144 hk) ?_
  refine rz_All_c (i := 80) (fun k J hk hJ => rz_getf_ok (pc := 147) (own := RX9) (ref := "ThreadJudge$Program") (C := RX7) (T := TX7) (N := 22) (ci := 9) (index := 255) (f := 4) (t := 2) (Ts := Cond.code yX9_heritage cX9_heritage 4 (some .boolean) :: rz_TB) hx hb hts rz_in9 ho hK rfl (by decide) rfl (fun _ => rfl) (hw (i := 10) (j := 23) rfl rfl) (fun _ z => z) dX9_heritage_147 hk) ?_
  refine rz_All_c (i := 81) (fun k J hk hJ => rz_iload_n_ok (pc := 150) hx hb dX9_heritage_150 rfl hk) ?_
  refine rz_All_c (i := 82) (fun k J hk hJ => rz_bipush_ok (pc := 151) hx hb dX9_heritage_151 (by decide) hk) ?_
  refine rz_All_c (i := 83) (fun k J hk hJ => rz_imul_ok (pc := 153) hx hb dX9_heritage_153 hk) ?_
  refine rz_All_c (i := 84) (fun k J hk hJ => rz_iload_n_ok (pc := 154) hx hb dX9_heritage_154 rfl hk) ?_
  refine rz_All_c (i := 85) (fun k J hk hJ => rz_iconst_ok (pc := 155) hx hb dX9_heritage_155 rfl hk) ?_
  refine rz_All_c (i := 86) (fun k J hk hJ => rz_imul_ok (pc := 156) hx hb dX9_heritage_156 hk) ?_
  refine rz_All_c (i := 87) (fun k J hk hJ => rz_iadd_ok (pc := 157) hx hb dX9_heritage_157 hk) ?_
  refine rz_All_c (i := 88) (fun k J hk hJ => rz_aload_n_ok (pc := 158) hx hb dX9_heritage_158 rfl hk) ?_
  refine rz_All_c (i := 89) (fun k J hk hJ => rz_getf_ok (pc := 159) (own := RX9) (ref := "ThreadJudge$Reader") (C := RX9) (T := TX9) (N := 19) (ci := 11) (index := 34) (f := 13) (t := 2) (Ts := Cond.code yX9_heritage cX9_heritage 4 (some .boolean) :: rz_TB) hx hb hts rz_in11 ho hK rfl (by decide) rfl (fun _ => rfl) (hw (i := 5) (j := 2) rfl rfl) (fun _ z => z) dX9_heritage_159 hk) ?_
  refine rz_All_c (i := 90) (fun k J hk hJ => rz_aload_n_ok (pc := 162) hx hb dX9_heritage_162 rfl hk) ?_
  refine rz_All_c (i := 91) (fun k J hk hJ => rz_getf_ok (pc := 163) (own := RX9) (ref := "ThreadJudge$Reader") (C := RX9) (T := TX9) (N := 19) (ci := 11) (index := 187) (f := 15) (t := 0) (Ts := Cond.code yX9_heritage cX9_heritage 4 (some .boolean) :: rz_TB) hx hb hts rz_in11 ho hK rfl (by decide) rfl (fun _ => rfl) (hw (i := 3) (j := 11) rfl rfl) (fun _ z => z) dX9_heritage_163 hk) ?_
  refine rz_All_c (i := 92) (fun k J hk hJ => rz_iald_ok (pc := 166) hx hb hK dX9_heritage_166 hk) ?_
  refine rz_All_c (i := 93) (fun k J hk hJ => rz_iast_ok (pc := 167) hx hb hK hA dX9_heritage_167 hk) ?_
  refine rz_All_c (i := 94) (fun k J hk hJ => rz_aload_n_ok (pc := 168) hx hb dX9_heritage_168 rfl hk) ?_
  refine rz_All_c (i := 95) (fun k J hk hJ => rz_getf_ok (pc := 169) (own := RX9) (ref := "ThreadJudge$Reader") (C := RX9) (T := TX9) (N := 19) (ci := 11) (index := 37) (f := 0) (t := 2) (Ts := Cond.code yX9_heritage cX9_heritage 4 (some .boolean) :: rz_TB) hx hb hts rz_in11 ho hK rfl (by decide) rfl (fun _ => rfl) (hw (i := 9) (j := 16) rfl rfl) (fun _ z => z) dX9_heritage_169 hk) ?_
  refine rz_All_c (i := 96) (fun k J hk hJ => rz_getf_ok (pc := 172) (own := RX9) (ref := "ThreadJudge$Program") (C := RX7) (T := TX7) (N := 22) (ci := 9) (index := 255) (f := 4) (t := 2) (Ts := Cond.code yX9_heritage cX9_heritage 4 (some .boolean) :: rz_TB) hx hb hts rz_in9 ho hK rfl (by decide) rfl (fun _ => rfl) (hw (i := 10) (j := 23) rfl rfl) (fun _ z => z) dX9_heritage_172 hk) ?_
  refine rz_All_c (i := 97) (fun k J hk hJ => rz_iload_n_ok (pc := 175) hx hb dX9_heritage_175 rfl hk) ?_
  refine rz_All_c (i := 98) (fun k J hk hJ => rz_bipush_ok (pc := 176) hx hb dX9_heritage_176 (by decide) hk) ?_
  refine rz_All_c (i := 99) (fun k J hk hJ => rz_imul_ok (pc := 178) hx hb dX9_heritage_178 hk) ?_
  refine rz_All_c (i := 100) (fun k J hk hJ => rz_iload_n_ok (pc := 179) hx hb dX9_heritage_179 rfl hk) ?_
  refine rz_All_c (i := 101) (fun k J hk hJ => rz_iconst_ok (pc := 180) hx hb dX9_heritage_180 rfl hk) ?_
  refine rz_All_c (i := 102) (fun k J hk hJ => rz_imul_ok (pc := 181) hx hb dX9_heritage_181 hk) ?_
  refine rz_All_c (i := 103) (fun k J hk hJ => rz_iadd_ok (pc := 182) hx hb dX9_heritage_182 hk) ?_
  refine rz_All_c (i := 104) (fun k J hk hJ => rz_iconst_ok (pc := 183) hx hb dX9_heritage_183 rfl hk) ?_
  refine rz_All_c (i := 105) (fun k J hk hJ => rz_iadd_ok (pc := 184) hx hb dX9_heritage_184 hk) ?_
  refine rz_All_c (i := 106) (fun k J hk hJ => rz_aload_n_ok (pc := 185) hx hb dX9_heritage_185 rfl hk) ?_
  refine rz_All_c (i := 107) (fun k J hk hJ => rz_callV_ok (pc := 186) (own := RX9) (C := RX9) (T0 := TX9) (N0 := 19) hC rfl (rmX9_spot l hG) (rz_cwV 0 hC rz_good (rz_mem (i := 10) (j := 14) rfl rfl) (rz_mem (i := 10) (j := 15) rfl rfl) (rz_mem (i := 10) (j := 16) rfl rfl) (rz_mem (i := 1) (j := 21) rfl rfl) (rz_mem (i := 10) (j := 17) rfl rfl) ⟨rfl, by decide, by decide, by decide +kernel⟩ rfl rfl ⟨by decide, by decide⟩) rfl dX9_heritage_186 hk) ?_
  refine rz_All_c (i := 108) (fun k J hk hJ => rz_iast_ok (pc := 189) hx hb hK hA dX9_heritage_189 hk) ?_
  refine rz_All_c (i := 109) (fun k J hk hJ => rz_aload_n_ok (pc := 190) hx hb dX9_heritage_190 rfl hk) ?_
  refine rz_All_c (i := 110) (fun k J hk hJ => rz_getf_ok (pc := 191) (own := RX9) (ref := "ThreadJudge$Reader") (C := RX9) (T := TX9) (N := 19) (ci := 11) (index := 37) (f := 0) (t := 2) (Ts := Cond.code yX9_heritage cX9_heritage 4 (some .boolean) :: rz_TB) hx hb hts rz_in11 ho hK rfl (by decide) rfl (fun _ => rfl) (hw (i := 9) (j := 16) rfl rfl) (fun _ z => z) dX9_heritage_191 hk) ?_
  refine rz_All_c (i := 111) (fun k J hk hJ => rz_getf_ok (pc := 194) (own := RX9) (ref := "ThreadJudge$Program") (C := RX7) (T := TX7) (N := 22) (ci := 9) (index := 239) (f := 3) (t := 2) (Ts := Cond.code yX9_heritage cX9_heritage 4 (some .boolean) :: rz_TB) hx hb hts rz_in9 ho hK rfl (by decide) rfl (fun _ => rfl) (hw (i := 10) (j := 0) rfl rfl) (fun _ z => z) dX9_heritage_194 hk) ?_
  refine rz_All_c (i := 112) (fun k J hk hJ => rz_bipush_ok (pc := 197) hx hb dX9_heritage_197 (by decide) hk) ?_
  refine rz_All_c (i := 113) (fun k J hk hJ => rz_aald_ok (pc := 199) hx hb hK dX9_heritage_199 hk) ?_
  refine rz_All_c (i := 114) (fun k J hk hJ => rz_iload_n_ok (pc := 200) hx hb dX9_heritage_200 rfl hk) ?_
  refine rz_All_c (i := 115) (fun k J hk hJ => rz_dup2_ok (pc := 201) hx hb dX9_heritage_201 hk) ?_
  refine rz_All_c (i := 116) (fun k J hk hJ => rz_iald_ok (pc := 202) hx hb hK dX9_heritage_202 hk) ?_
  refine rz_All_c (i := 117) (fun k J hk hJ => rz_iconst_ok (pc := 203) hx hb dX9_heritage_203 rfl hk) ?_
  refine rz_All_c (i := 118) (fun k J hk hJ => rz_iadd_ok (pc := 204) hx hb dX9_heritage_204 hk) ?_
  refine rz_All_c (i := 119) (fun k J hk hJ => rz_iast_ok (pc := 205) hx hb hK hA dX9_heritage_205 hk) ?_
  refine rz_All_c (i := 120) (fun k J hk hJ => rz_aload_n_ok (pc := 206) hx hb dX9_heritage_206 rfl hk) ?_
  refine rz_All_c (i := 121) (fun k J hk hJ => rz_dup_ok (pc := 207) hx hb dX9_heritage_207 hk) ?_
  refine rz_All_c (i := 122) (fun k J hk hJ => rz_getf_ok (pc := 208) (own := RX9) (ref := "ThreadJudge$Reader") (C := RX9) (T := TX9) (N := 19) (ci := 11) (index := 187) (f := 15) (t := 0) (Ts := Cond.code yX9_heritage cX9_heritage 4 (some .boolean) :: rz_TB) hx hb hts rz_in11 ho hK rfl (by decide) rfl (fun _ => rfl) (hw (i := 3) (j := 11) rfl rfl) (fun _ z => z) dX9_heritage_208 hk) ?_
  refine rz_All_c (i := 123) (fun k J hk hJ => rz_iconst_ok (pc := 211) hx hb dX9_heritage_211 rfl hk) ?_
  refine rz_All_c (i := 124) (fun k J hk hJ => rz_iadd_ok (pc := 212) hx hb dX9_heritage_212 hk) ?_
  refine rz_All_c (i := 125) (fun k J hk hJ => rz_putf_ok (pc := 213) (own := RX9) (ref := "ThreadJudge$Reader") (C := RX9) (T := TX9) (N := 19) (ci := 11) (index := 187) (f := 15) (t := 0) (Ts := Cond.code yX9_heritage cX9_heritage 4 (some .boolean) :: rz_TB) hx hb hts rz_in11 tyX9 tyX9_ok nmX9 ho hK hA rfl (by decide) rfl (rz_UnI _) rfl (tyX9_ok 15 (by decide)) (hw (i := 3) (j := 11) rfl rfl) (fun _ z => z) dX9_heritage_213 hk) ?_
  refine rz_All_c (i := 126) (fun k J hk hJ => rz_aload_n_ok (pc := 216) hx hb dX9_heritage_216 rfl hk) ?_
  refine rz_All_c (i := 127) (fun k J hk hJ => rz_bipush_ok (pc := 217) hx hb dX9_heritage_217 (by decide) hk) ?_
  refine rz_All_c (i := 128) (fun k J hk hJ => rz_callV_ok (pc := 219) (own := RX9) (C := RX9) (T0 := TX9) (N0 := 19) hC rfl (rmX9_isSign l hG) (rz_cwV 1 hC rz_good (rz_mem (i := 11) (j := 4) rfl rfl) (rz_mem (i := 11) (j := 5) rfl rfl) (rz_mem (i := 11) (j := 6) rfl rfl) (rz_mem (i := 1) (j := 21) rfl rfl) (rz_mem (i := 11) (j := 7) rfl rfl) ⟨rfl, by decide, by decide, by decide +kernel⟩ rfl rfl ⟨by decide, by decide⟩) rfl dX9_heritage_219 hk) ?_
  refine rz_All_c (i := 129) (fun k J hk hJ => rz_istore_n_ok (pc := 222) hx hb dX9_heritage_222 rfl hk) ?_
  refine rz_All_c (i := 130) (fun k J hk hJ => rz_iinc_ok (pc := 223) hx hb dX9_heritage_223 (by decide) hk) ?_
  refine rz_All_c (i := 131) (fun k J hk hJ => rz_goto_ok (pc := 226) hx hb dX9_heritage_226 rfl (hJ 59)) ?_
  refine rz_All_c (i := 132) (fun k J hk hJ => rz_aload_n_ok (pc := 229) hx hb dX9_heritage_229 rfl hk) ?_
  refine rz_All_c (i := 133) (fun k J hk hJ => rz_iconst_ok (pc := 230) hx hb dX9_heritage_230 rfl hk) ?_
  refine rz_All_c (i := 134) (fun k J hk hJ => rz_putf_ok (pc := 231) (own := RX9) (ref := "ThreadJudge$Reader") (C := RX9) (T := TX9) (N := 19) (ci := 11) (index := 190) (f := 16) (t := 0) (Ts := Cond.code yX9_heritage cX9_heritage 4 (some .boolean) :: rz_TB) hx hb hts rz_in11 tyX9 tyX9_ok nmX9 ho hK hA rfl (by decide) rfl (rz_UnI _) rfl (tyX9_ok 16 (by decide)) (hw (i := 3) (j := 12) rfl rfl) (fun _ z => z) dX9_heritage_231 hk) ?_
  refine rz_All_c (i := 135) (fun k J hk hJ => rz_aload_n_ok (pc := 234) hx hb dX9_heritage_234 rfl hk) ?_
  refine rz_All_c (i := 136) (fun k J hk hJ => rz_bipush_ok (pc := 235) hx hb dX9_heritage_235 (by decide) hk) ?_
  refine rz_All_c (i := 137) (fun k J hk hJ => rz_callV_ok (pc := 237) (own := RX9) (C := RX9) (T0 := TX9) (N0 := 19) hC rfl (rmX9_takeSign l hG) (rz_cwV 1 hC rz_good (rz_mem (i := 11) (j := 8) rfl rfl) (rz_mem (i := 11) (j := 9) rfl rfl) (rz_mem (i := 11) (j := 10) rfl rfl) (rz_mem (i := 1) (j := 21) rfl rfl) (rz_mem (i := 11) (j := 11) rfl rfl) ⟨rfl, by decide, by decide, by decide +kernel⟩ rfl rfl ⟨by decide, by decide⟩) rfl dX9_heritage_237 hk) ?_
  refine rz_All_c (i := 138) (fun k J hk hJ => rz_zret_ok (pc := 240) hC dX9_heritage_240) ?_
  exact trivial
