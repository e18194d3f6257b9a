/-! Methods: handlers, facts, contracts. -/
theorem dX12_methodOf_0 : decode cX12_methodOf 0 = .ok (.aload_n 0, 1) := by decide +kernel
theorem dX12_methodOf_1 : decode cX12_methodOf 1 = .ok (.sipush 1100, 3) := by decide +kernel
theorem dX12_methodOf_4 : decode cX12_methodOf 4 = .ok (.bipush 8, 2) := by decide +kernel
theorem dX12_methodOf_6 : decode cX12_methodOf 6 = .ok (.iload_n 1, 1) := by decide +kernel
theorem dX12_methodOf_7 : decode cX12_methodOf 7 = .ok (.imul, 1) := by decide +kernel
theorem dX12_methodOf_8 : decode cX12_methodOf 8 = .ok (.iadd, 1) := by decide +kernel
theorem dX12_methodOf_9 : decode cX12_methodOf 9 = .ok (.invokevirtual 681, 3) := by decide +kernel
theorem dX12_methodOf_12 : decode cX12_methodOf 12 = .ok (.ifCond .eq 45, 3) := by decide +kernel
theorem dX12_methodOf_15 : decode cX12_methodOf 15 = .ok (.aload_n 0, 1) := by decide +kernel
theorem dX12_methodOf_16 : decode cX12_methodOf 16 = .ok (.iload_n 1, 1) := by decide +kernel
theorem dX12_methodOf_17 : decode cX12_methodOf 17 = .ok (.iconst 0, 1) := by decide +kernel
theorem dX12_methodOf_18 : decode cX12_methodOf 18 = .ok (.invokevirtual 738, 3) := by decide +kernel
theorem dX12_methodOf_21 : decode cX12_methodOf 21 = .ok (.ifCond .eq 36, 3) := by decide +kernel
theorem dX12_methodOf_24 : decode cX12_methodOf 24 = .ok (.aload_n 0, 1) := by decide +kernel
theorem dX12_methodOf_25 : decode cX12_methodOf 25 = .ok (.bipush 46, 2) := by decide +kernel
theorem dX12_methodOf_27 : decode cX12_methodOf 27 = .ok (.invokevirtual 666, 3) := by decide +kernel
theorem dX12_methodOf_30 : decode cX12_methodOf 30 = .ok (.ifCond .eq 27, 3) := by decide +kernel
theorem dX12_methodOf_33 : decode cX12_methodOf 33 = .ok (.aload_n 0, 1) := by decide +kernel
theorem dX12_methodOf_34 : decode cX12_methodOf 34 = .ok (.iload_n 1, 1) := by decide +kernel
theorem dX12_methodOf_35 : decode cX12_methodOf 35 = .ok (.iconst 1, 1) := by decide +kernel
theorem dX12_methodOf_36 : decode cX12_methodOf 36 = .ok (.invokevirtual 738, 3) := by decide +kernel
theorem dX12_methodOf_39 : decode cX12_methodOf 39 = .ok (.ifCond .eq 18, 3) := by decide +kernel
theorem dX12_methodOf_42 : decode cX12_methodOf 42 = .ok (.aload_n 0, 1) := by decide +kernel
theorem dX12_methodOf_43 : decode cX12_methodOf 43 = .ok (.sipush 1101, 3) := by decide +kernel
theorem dX12_methodOf_46 : decode cX12_methodOf 46 = .ok (.bipush 8, 2) := by decide +kernel
theorem dX12_methodOf_48 : decode cX12_methodOf 48 = .ok (.iload_n 1, 1) := by decide +kernel
theorem dX12_methodOf_49 : decode cX12_methodOf 49 = .ok (.imul, 1) := by decide +kernel
theorem dX12_methodOf_50 : decode cX12_methodOf 50 = .ok (.iadd, 1) := by decide +kernel
theorem dX12_methodOf_51 : decode cX12_methodOf 51 = .ok (.invokevirtual 709, 3) := by decide +kernel
theorem dX12_methodOf_54 : decode cX12_methodOf 54 = .ok (.ifCond .ne 5, 3) := by decide +kernel
theorem dX12_methodOf_59 : decode cX12_methodOf 59 = .ok (.aload_n 0, 1) := by decide +kernel
theorem dX12_methodOf_60 : decode cX12_methodOf 60 = .ok (.getfield 129, 3) := by decide +kernel
theorem dX12_methodOf_63 : decode cX12_methodOf 63 = .ok (.iload_n 1, 1) := by decide +kernel
theorem dX12_methodOf_64 : decode cX12_methodOf 64 = .ok (.aload_n 0, 1) := by decide +kernel
theorem dX12_methodOf_65 : decode cX12_methodOf 65 = .ok (.getfield 675, 3) := by decide +kernel
theorem dX12_methodOf_68 : decode cX12_methodOf 68 = .ok (.iastore, 1) := by decide +kernel
theorem dX12_methodOf_69 : decode cX12_methodOf 69 = .ok (.iconst 1, 1) := by decide +kernel
theorem dX12_methodOf_70 : decode cX12_methodOf 70 = .ok (.ireturn, 1) := by decide +kernel
def rpX12_methodOf : List Nat := [0, 1, 4, 6, 7, 8, 9, 12, 15, 16, 17, 18, 21, 24, 25, 27, 30, 33, 34, 35, 36, 39, 42, 43, 46, 48, 49, 50, 51, 54, 57, 59, 60, 63, 64, 65, 68, 69, 70]
noncomputable def rcX12_methodOf : List rz_B := [rz_aload 0, rz_cst 1100, rz_cst 8, rz_iload 1, rz_imul, rz_iadd, rz_callV 1 (Nat.add (Nat.mul 256 14) 1) rgX12_type, rz_ifeq 30, rz_aload 0, rz_iload 1, rz_cst 0, rz_callV 2 (Nat.add (Nat.mul 256 14) 1) rgX12_nameOf, rz_ifeq 30, rz_aload 0, rz_cst 46, rz_callV 1 (Nat.add (Nat.mul 256 14) 1) rgX12_sign, rz_ifeq 30, rz_aload 0, rz_iload 1, rz_cst 1, rz_callV 2 (Nat.add (Nat.mul 256 14) 1) rgX12_nameOf, rz_ifeq 30, rz_aload 0, rz_cst 1101, rz_cst 8, rz_iload 1, rz_imul, rz_iadd, rz_callV 1 (Nat.add (Nat.mul 256 14) 1) rgX12_types, rz_ifne 31, rz_no, rz_aload 0, rz_getf (Nat.add (Nat.mul 256 14) 1) 53 rz_r, rz_iload 1, rz_aload 0, rz_getf (Nat.add (Nat.mul 256 14) 1) 68 rz_i, rz_iast, rz_cst 1, rz_zret]
noncomputable def rgX12_methodOf : rz_L → rz_M → rz_Z → Bool := rz_go rcX12_methodOf 2 1000000
def rrX12_methodOf : Room := { frames := 8, cells := 0, slots := 0, locals := 216 }
theorem rmX12_methodOf (l : Launch) {G : rz_G} (hG : rz_Gd G) (vs : rz_L) (M : rz_M) (Z : rz_Z) (hn : vs.length = 2) (h : rgX12_methodOf vs M Z = true) : Met l yX12_methodOf (Cond.code yX12_methodOf cX12_methodOf 2 (some .boolean) :: rz_TB) rrX12_methodOf (rz_Pre G vs M) (rz_Qi G M.2 Z) 0 0 (fun q => rz_b G ≤ q) := by
  obtain ⟨D, tc, ad, b, xs, rfl⟩ := id hG
  refine rz_body (pcs := rpX12_methodOf) (by decide) rfl (by rw [hn]; decide) h ?_
  intro p e R s m args below meth c hC
  obtain ⟨hx, hb, hml, hr, hlk, ho, hts, hKn, hRm⟩ := id hC
  obtain ⟨hK, hA, hSt⟩ := id hKn
  have hw : ∀ {i j : Nat} {ws : List Cond} {w : Cond}, rz_WW[i]? = some ws → ws[j]? = some w → w.before args s = true := fun h1 h2 => hts _ (List.mem_cons_of_mem _ (rz_mem h1 h2))
  refine rz_All_c (i := 0) (fun k J hk hJ => rz_aload_n_ok (pc := 0) hx hb dX12_methodOf_0 rfl hk) ?_
  refine rz_All_c (i := 1) (fun k J hk hJ => rz_sipush_ok (pc := 1) hx hb dX12_methodOf_1 (by decide) hk) ?_
  refine rz_All_c (i := 2) (fun k J hk hJ => rz_bipush_ok (pc := 4) hx hb dX12_methodOf_4 (by decide) hk) ?_
  refine rz_All_c (i := 3) (fun k J hk hJ => rz_iload_n_ok (pc := 6) hx hb dX12_methodOf_6 rfl hk) ?_
  refine rz_All_c (i := 4) (fun k J hk hJ => rz_imul_ok (pc := 7) hx hb dX12_methodOf_7 hk) ?_
  refine rz_All_c (i := 5) (fun k J hk hJ => rz_iadd_ok (pc := 8) hx hb dX12_methodOf_8 hk) ?_
  refine rz_All_c (i := 6) (fun k J hk hJ => rz_callV_ok (pc := 9) (own := RX12) (C := RX12) (T0 := TX12) (N0 := 257) hC rfl (rmX12_type l hG) (rz_cwV 1 hC rz_good (rz_mem (i := 39) (j := 4) rfl rfl) (rz_mem (i := 39) (j := 5) rfl rfl) (rz_mem (i := 39) (j := 6) rfl rfl) (rz_mem (i := 32) (j := 8) rfl rfl) (rz_mem (i := 39) (j := 7) rfl rfl) ⟨rfl, by decide, by decide, by decide +kernel⟩ rfl rfl ⟨by decide, by decide⟩) rfl dX12_methodOf_9 hk) ?_
  refine rz_All_c (i := 7) (fun k J hk hJ => rz_ifeq_ok (pc := 12) hx hb dX12_methodOf_12 rfl hk (hJ 30)) ?_
  refine rz_All_c (i := 8) (fun k J hk hJ => rz_aload_n_ok (pc := 15) hx hb dX12_methodOf_15 rfl hk) ?_
  refine rz_All_c (i := 9) (fun k J hk hJ => rz_iload_n_ok (pc := 16) hx hb dX12_methodOf_16 rfl hk) ?_
  refine rz_All_c (i := 10) (fun k J hk hJ => rz_iconst_ok (pc := 17) hx hb dX12_methodOf_17 rfl hk) ?_
  refine rz_All_c (i := 11) (fun k J hk hJ => rz_callV_ok (pc := 18) (own := RX12) (C := RX12) (T0 := TX12) (N0 := 257) hC rfl (rmX12_nameOf l hG) (rz_cwV 2 hC rz_good (rz_mem (i := 41) (j := 20) rfl rfl) (rz_mem (i := 41) (j := 21) rfl rfl) (rz_mem (i := 41) (j := 22) rfl rfl) (rz_mem (i := 32) (j := 8) rfl rfl) (rz_mem (i := 41) (j := 23) rfl rfl) ⟨rfl, by decide, by decide, by decide +kernel⟩ rfl rfl ⟨by decide, by decide⟩) rfl dX12_methodOf_18 hk) ?_
  refine rz_All_c (i := 12) (fun k J hk hJ => rz_ifeq_ok (pc := 21) hx hb dX12_methodOf_21 rfl hk (hJ 30)) ?_
  refine rz_All_c (i := 13) (fun k J hk hJ => rz_aload_n_ok (pc := 24) hx hb dX12_methodOf_24 rfl hk) ?_
  refine rz_All_c (i := 14) (fun k J hk hJ => rz_bipush_ok (pc := 25) hx hb dX12_methodOf_25 (by decide) hk) ?_
  refine rz_All_c (i := 15) (fun k J hk hJ => rz_callV_ok (pc := 27) (own := RX12) (C := RX12) (T0 := TX12) (N0 := 257) hC rfl (rmX12_sign l hG) (rz_cwV 1 hC rz_good (rz_mem (i := 38) (j := 12) rfl rfl) (rz_mem (i := 38) (j := 13) rfl rfl) (rz_mem (i := 38) (j := 14) rfl rfl) (rz_mem (i := 32) (j := 8) rfl rfl) (rz_mem (i := 38) (j := 15) rfl rfl) ⟨rfl, by decide, by decide, by decide +kernel⟩ rfl rfl ⟨by decide, by decide⟩) rfl dX12_methodOf_27 hk) ?_
  refine rz_All_c (i := 16) (fun k J hk hJ => rz_ifeq_ok (pc := 30) hx hb dX12_methodOf_30 rfl hk (hJ 30)) ?_
  refine rz_All_c (i := 17) (fun k J hk hJ => rz_aload_n_ok (pc := 33) hx hb dX12_methodOf_33 rfl hk) ?_
  refine rz_All_c (i := 18) (fun k J hk hJ => rz_iload_n_ok (pc := 34) hx hb dX12_methodOf_34 rfl hk) ?_
  refine rz_All_c (i := 19) (fun k J hk hJ => rz_iconst_ok (pc := 35) hx hb dX12_methodOf_35 rfl hk) ?_
  refine rz_All_c (i := 20) (fun k J hk hJ => rz_callV_ok (pc := 36) (own := RX12) (C := RX12) (T0 := TX12) (N0 := 257) hC rfl (rmX12_nameOf l hG) (rz_cwV 2 hC rz_good (rz_mem (i := 41) (j := 20) rfl rfl) (rz_mem (i := 41) (j := 21) rfl rfl) (rz_mem (i := 41) (j := 22) rfl rfl) (rz_mem (i := 32) (j := 8) rfl rfl) (rz_mem (i := 41) (j := 23) rfl rfl) ⟨rfl, by decide, by decide, by decide +kernel⟩ rfl rfl ⟨by decide, by decide⟩) rfl dX12_methodOf_36 hk) ?_
  refine rz_All_c (i := 21) (fun k J hk hJ => rz_ifeq_ok (pc := 39) hx hb dX12_methodOf_39 rfl hk (hJ 30)) ?_
  refine rz_All_c (i := 22) (fun k J hk hJ => rz_aload_n_ok (pc := 42) hx hb dX12_methodOf_42 rfl hk) ?_
  refine rz_All_c (i := 23) (fun k J hk hJ => rz_sipush_ok (pc := 43) hx hb dX12_methodOf_43 (by decide) hk) ?_
  refine rz_All_c (i := 24) (fun k J hk hJ => rz_bipush_ok (pc := 46) hx hb dX12_methodOf_46 (by decide) hk) ?_
  refine rz_All_c (i := 25) (fun k J hk hJ => rz_iload_n_ok (pc := 48) hx hb dX12_methodOf_48 rfl hk) ?_
  refine rz_All_c (i := 26) (fun k J hk hJ => rz_imul_ok (pc := 49) hx hb dX12_methodOf_49 hk) ?_
  refine rz_All_c (i := 27) (fun k J hk hJ => rz_iadd_ok (pc := 50) hx hb dX12_methodOf_50 hk) ?_
  refine rz_All_c (i := 28) (fun k J hk hJ => rz_callV_ok (pc := 51) (own := RX12) (C := RX12) (T0 := TX12) (N0 := 257) hC rfl (rmX12_types l hG) (rz_cwV 1 hC rz_good (rz_mem (i := 40) (j := 0) rfl rfl) (rz_mem (i := 40) (j := 1) rfl rfl) (rz_mem (i := 40) (j := 2) rfl rfl) (rz_mem (i := 32) (j := 8) rfl rfl) (rz_mem (i := 40) (j := 3) rfl rfl) ⟨rfl, by decide, by decide, by decide +kernel⟩ rfl rfl ⟨by decide, by decide⟩) rfl dX12_methodOf_51 hk) ?_
  refine rz_All_c (i := 29) (fun k J hk hJ => rz_ifne_ok (pc := 54) hx hb dX12_methodOf_54 rfl hk (hJ 31)) ?_
  refine rz_All_c (i := 30) (fun k J hk hJ => rz_no_ok) ?_
  refine rz_All_c (i := 31) (fun k J hk hJ => rz_aload_n_ok (pc := 59) hx hb dX12_methodOf_59 rfl hk) ?_
  refine rz_All_c (i := 32) (fun k J hk hJ => rz_getf_ok (pc := 60) (own := RX12) (ref := "ThreadJudgeModel") (C := RX12) (T := TX12) (N := 257) (ci := 14) (index := 129) (f := 53) (t := 2) (Ts := Cond.code yX12_methodOf cX12_methodOf 2 (some .boolean) :: rz_TB) hx hb hts rz_in14 ho hK rfl (by decide) rfl (fun _ => rfl) (hw (i := 42) (j := 8) rfl rfl) (fun _ z => z) dX12_methodOf_60 hk) ?_
  refine rz_All_c (i := 33) (fun k J hk hJ => rz_iload_n_ok (pc := 63) hx hb dX12_methodOf_63 rfl hk) ?_
  refine rz_All_c (i := 34) (fun k J hk hJ => rz_aload_n_ok (pc := 64) hx hb dX12_methodOf_64 rfl hk) ?_
  refine rz_All_c (i := 35) (fun k J hk hJ => rz_getf_ok (pc := 65) (own := RX12) (ref := "ThreadJudgeModel") (C := RX12) (T := TX12) (N := 257) (ci := 14) (index := 675) (f := 68) (t := 0) (Ts := Cond.code yX12_methodOf cX12_methodOf 2 (some .boolean) :: rz_TB) hx hb hts rz_in14 ho hK rfl (by decide) rfl (fun _ => rfl) (hw (i := 39) (j := 23) rfl rfl) (fun _ z => z) dX12_methodOf_65 hk) ?_
  refine rz_All_c (i := 36) (fun k J hk hJ => rz_iast_ok (pc := 68) hx hb hK hA dX12_methodOf_68 hk) ?_
  refine rz_All_c (i := 37) (fun k J hk hJ => rz_iconst_ok (pc := 69) hx hb dX12_methodOf_69 rfl hk) ?_
  refine rz_All_c (i := 38) (fun k J hk hJ => rz_zret_ok (pc := 70) hC dX12_methodOf_70) ?_
  exact trivial
theorem dX12_readNumberOf_0 : decode cX12_readNumberOf 0 = .ok (.aload_n 0, 1) := by decide +kernel
theorem dX12_readNumberOf_1 : decode cX12_readNumberOf 1 = .ok (.aload_n 0, 1) := by decide +kernel
theorem dX12_readNumberOf_2 : decode cX12_readNumberOf 2 = .ok (.getfield 588, 3) := by decide +kernel
theorem dX12_readNumberOf_5 : decode cX12_readNumberOf 5 = .ok (.iconst 2, 1) := by decide +kernel
theorem dX12_readNumberOf_6 : decode cX12_readNumberOf 6 = .ok (.if_icmp .ne 7, 3) := by decide +kernel
theorem dX12_readNumberOf_9 : decode cX12_readNumberOf 9 = .ok (.iconst 1, 1) := by decide +kernel
theorem dX12_readNumberOf_10 : decode cX12_readNumberOf 10 = .ok (.goto 4, 3) := by decide +kernel
theorem dX12_readNumberOf_14 : decode cX12_readNumberOf 14 = .ok (.invokevirtual 644, 3) := by decide +kernel
theorem dX12_readNumberOf_17 : decode cX12_readNumberOf 17 = .ok (.ifCond .ne 5, 3) := by decide +kernel
theorem dX12_readNumberOf_22 : decode cX12_readNumberOf 22 = .ok (.iload_n 2, 1) := by decide +kernel
theorem dX12_readNumberOf_23 : decode cX12_readNumberOf 23 = .ok (.ifCond .eq 16, 3) := by decide +kernel
theorem dX12_readNumberOf_39 : decode cX12_readNumberOf 39 = .ok (.aload_n 0, 1) := by decide +kernel
theorem dX12_readNumberOf_40 : decode cX12_readNumberOf 40 = .ok (.getfield 111, 3) := by decide +kernel
theorem dX12_readNumberOf_43 : decode cX12_readNumberOf 43 = .ok (.iload_n 1, 1) := by decide +kernel
theorem dX12_readNumberOf_44 : decode cX12_readNumberOf 44 = .ok (.aload_n 0, 1) := by decide +kernel
theorem dX12_readNumberOf_45 : decode cX12_readNumberOf 45 = .ok (.getfield 611, 3) := by decide +kernel
theorem dX12_readNumberOf_48 : decode cX12_readNumberOf 48 = .ok (.iastore, 1) := by decide +kernel
theorem dX12_readNumberOf_49 : decode cX12_readNumberOf 49 = .ok (.aload_n 0, 1) := by decide +kernel
theorem dX12_readNumberOf_50 : decode cX12_readNumberOf 50 = .ok (.invokevirtual 648, 3) := by decide +kernel
theorem dX12_readNumberOf_53 : decode cX12_readNumberOf 53 = .ok (.iconst 1, 1) := by decide +kernel
theorem dX12_readNumberOf_54 : decode cX12_readNumberOf 54 = .ok (.ireturn, 1) := by decide +kernel
def rpX12_readNumberOf : List Nat := [0, 1, 2, 5, 6, 9, 10, 13, 14, 17, 20, 22, 23, 26, 39, 40, 43, 44, 45, 48, 49, 50, 53, 54]
noncomputable def rcX12_readNumberOf : List rz_B := [rz_aload 0, rz_aload 0, rz_getf (Nat.add (Nat.mul 256 14) 1) 5 rz_i, rz_cst 2, rz_icmpne 7, rz_cst 1, rz_goto 8, rz_no, rz_callV 1 (Nat.add (Nat.mul 256 14) 1) rgX12_can, rz_ifne 11, rz_no, rz_iload 2, rz_ifeq 14, rz_no, rz_aload 0, rz_getf (Nat.add (Nat.mul 256 14) 1) 47 rz_r, rz_iload 1, rz_aload 0, rz_getf (Nat.add (Nat.mul 256 14) 1) 8 rz_i, rz_iast, rz_aload 0, rz_callVv 0 (Nat.add (Nat.mul 256 14) 1) rgX12_next, rz_cst 1, rz_zret]
noncomputable def rgX12_readNumberOf : rz_L → rz_M → rz_Z → Bool := rz_go rcX12_readNumberOf 3 1000000
def rrX12_readNumberOf : Room := { frames := 3, cells := 0, slots := 0, locals := 66 }
theorem rmX12_readNumberOf (l : Launch) {G : rz_G} (hG : rz_Gd G) (vs : rz_L) (M : rz_M) (Z : rz_Z) (hn : vs.length = 3) (h : rgX12_readNumberOf vs M Z = true) : Met l yX12_readNumberOf (Cond.code yX12_readNumberOf cX12_readNumberOf 3 (some .boolean) :: rz_TB) rrX12_readNumberOf (rz_Pre G vs M) (rz_Qi G M.2 Z) 0 0 (fun q => rz_b G ≤ q) := by
  obtain ⟨D, tc, ad, b, xs, rfl⟩ := id hG
  refine rz_body (pcs := rpX12_readNumberOf) (by decide) rfl (by rw [hn]; decide) h ?_
  intro p e R s m args below meth c hC
  obtain ⟨hx, hb, hml, hr, hlk, ho, hts, hKn, hRm⟩ := id hC
  obtain ⟨hK, hA, hSt⟩ := id hKn
  have hw : ∀ {i j : Nat} {ws : List Cond} {w : Cond}, rz_WW[i]? = some ws → ws[j]? = some w → w.before args s = true := fun h1 h2 => hts _ (List.mem_cons_of_mem _ (rz_mem h1 h2))
  refine rz_All_c (i := 0) (fun k J hk hJ => rz_aload_n_ok (pc := 0) hx hb dX12_readNumberOf_0 rfl hk) ?_
  refine rz_All_c (i := 1) (fun k J hk hJ => rz_aload_n_ok (pc := 1) hx hb dX12_readNumberOf_1 rfl hk) ?_
  refine rz_All_c (i := 2) (fun k J hk hJ => rz_getf_ok (pc := 2) (own := RX12) (ref := "ThreadJudgeModel") (C := RX12) (T := TX12) (N := 257) (ci := 14) (index := 588) (f := 5) (t := 0) (Ts := Cond.code yX12_readNumberOf cX12_readNumberOf 3 (some .boolean) :: rz_TB) hx hb hts rz_in14 ho hK rfl (by decide) rfl (fun _ => rfl) (hw (i := 33) (j := 2) rfl rfl) (fun _ z => z) dX12_readNumberOf_2 hk) ?_
  refine rz_All_c (i := 3) (fun k J hk hJ => rz_iconst_ok (pc := 5) hx hb dX12_readNumberOf_5 rfl hk) ?_
  refine rz_All_c (i := 4) (fun k J hk hJ => rz_icmpne_ok (pc := 6) hx hb dX12_readNumberOf_6 rfl hk (hJ 7)) ?_
  refine rz_All_c (i := 5) (fun k J hk hJ => rz_iconst_ok (pc := 9) hx hb dX12_readNumberOf_9 rfl hk) ?_
  refine rz_All_c (i := 6) (fun k J hk hJ => rz_goto_ok (pc := 10) hx hb dX12_readNumberOf_10 rfl (hJ 8)) ?_
  refine rz_All_c (i := 7) (fun k J hk hJ => rz_no_ok) ?_
  refine rz_All_c (i := 8) (fun k J hk hJ => rz_callV_ok (pc := 14) (own := RX12) (C := RX12) (T0 := TX12) (N0 := 257) hC rfl (rmX12_can l hG) (rz_cwV 1 hC rz_good (rz_mem (i := 37) (j := 16) rfl rfl) (rz_mem (i := 37) (j := 17) rfl rfl) (rz_mem (i := 37) (j := 18) rfl rfl) (rz_mem (i := 32) (j := 8) rfl rfl) (rz_mem (i := 37) (j := 19) rfl rfl) ⟨rfl, by decide, by decide, by decide +kernel⟩ rfl rfl ⟨by decide, by decide⟩) rfl dX12_readNumberOf_14 hk) ?_
  refine rz_All_c (i := 9) (fun k J hk hJ => rz_ifne_ok (pc := 17) hx hb dX12_readNumberOf_17 rfl hk (hJ 11)) ?_
  refine rz_All_c (i := 10) (fun k J hk hJ => rz_no_ok) ?_
  refine rz_All_c (i := 11) (fun k J hk hJ => rz_iload_n_ok (pc := 22) hx hb dX12_readNumberOf_22 rfl hk) ?_
  refine rz_All_c (i := 12) (fun k J hk hJ => rz_ifeq_ok (pc := 23) hx hb dX12_readNumberOf_23 rfl hk (hJ 14)) ?_
  refine rz_All_c (i := 13) (fun k J hk hJ => rz_no_ok) ?_
  refine rz_All_c (i := 14) (fun k J hk hJ => rz_aload_n_ok (pc := 39) hx hb dX12_readNumberOf_39 rfl hk) ?_
  refine rz_All_c (i := 15) (fun k J hk hJ => rz_getf_ok (pc := 40) (own := RX12) (ref := "ThreadJudgeModel") (C := RX12) (T := TX12) (N := 257) (ci := 14) (index := 111) (f := 47) (t := 2) (Ts := Cond.code yX12_readNumberOf cX12_readNumberOf 3 (some .boolean) :: rz_TB) hx hb hts rz_in14 ho hK rfl (by decide) rfl (fun _ => rfl) (hw (i := 41) (j := 9) rfl rfl) (fun _ z => z) dX12_readNumberOf_40 hk) ?_
  refine rz_All_c (i := 16) (fun k J hk hJ => rz_iload_n_ok (pc := 43) hx hb dX12_readNumberOf_43 rfl hk) ?_
  refine rz_All_c (i := 17) (fun k J hk hJ => rz_aload_n_ok (pc := 44) hx hb dX12_readNumberOf_44 rfl hk) ?_
  refine rz_All_c (i := 18) (fun k J hk hJ => rz_getf_ok (pc := 45) (own := RX12) (ref := "ThreadJudgeModel") (C := RX12) (T := TX12) (N := 257) (ci := 14) (index := 611) (f := 8) (t := 0) (Ts := Cond.code yX12_readNumberOf cX12_readNumberOf 3 (some .boolean) :: rz_TB) hx hb hts rz_in14 ho hK rfl (by decide) rfl (fun _ => rfl) (hw (i := 35) (j := 2) rfl rfl) (fun _ z => z) dX12_readNumberOf_45 hk) ?_
  refine rz_All_c (i := 19) (fun k J hk hJ => rz_iast_ok (pc := 48) hx hb hK hA dX12_readNumberOf_48 hk) ?_
  refine rz_All_c (i := 20) (fun k J hk hJ => rz_aload_n_ok (pc := 49) hx hb dX12_readNumberOf_49 rfl hk) ?_
  refine rz_All_c (i := 21) (fun k J hk hJ => rz_callVv_ok (pc := 50) (own := RX12) (C := RX12) (T0 := TX12) (N0 := 257) hC rfl (rmX12_next l hG) (rz_cwV 0 hC rz_good (rz_mem (i := 34) (j := 21) rfl rfl) (rz_mem (i := 34) (j := 22) rfl rfl) (rz_mem (i := 34) (j := 23) rfl rfl) (rz_mem (i := 32) (j := 8) rfl rfl) (rz_mem (i := 35) (j := 0) rfl rfl) ⟨rfl, by decide, by decide, by decide +kernel⟩ rfl rfl ⟨by decide, by decide⟩) rfl dX12_readNumberOf_50 hk) ?_
  refine rz_All_c (i := 22) (fun k J hk hJ => rz_iconst_ok (pc := 53) hx hb dX12_readNumberOf_53 rfl hk) ?_
  refine rz_All_c (i := 23) (fun k J hk hJ => rz_zret_ok (pc := 54) hC dX12_readNumberOf_54) ?_
  exact trivial
theorem dX12_readWanted_0 : decode cX12_readWanted 0 = .ok (.ldc_w 742, 3) := by decide +kernel
theorem dX12_readWanted_3 : decode cX12_readWanted 3 = .ok (.aload_n 0, 1) := by decide +kernel
theorem dX12_readWanted_4 : decode cX12_readWanted 4 = .ok (.getfield 102, 3) := by decide +kernel
theorem dX12_readWanted_7 : decode cX12_readWanted 7 = .ok (.iload_n 1, 1) := by decide +kernel
theorem dX12_readWanted_8 : decode cX12_readWanted 8 = .ok (.iaload, 1) := by decide +kernel
theorem dX12_readWanted_9 : decode cX12_readWanted 9 = .ok (.invokevirtual 631, 3) := by decide +kernel
theorem dX12_readWanted_12 : decode cX12_readWanted 12 = .ok (.tableswitch 235 99 120 #[141, 235, 235, 148, 235, 235, 111, 235, 235, 141, 194, 104, 235, 235, 235, 235, 135, 181, 235, 235, 235, 200], 104) := by decide +kernel
theorem dX12_readWanted_116 : decode cX12_readWanted 116 = .ok (.aload_n 0, 1) := by decide +kernel
theorem dX12_readWanted_117 : decode cX12_readWanted 117 = .ok (.iload_n 1, 1) := by decide +kernel
theorem dX12_readWanted_118 : decode cX12_readWanted 118 = .ok (.iconst 0, 1) := by decide +kernel
theorem dX12_readWanted_119 : decode cX12_readWanted 119 = .ok (.invokevirtual 744, 3) := by decide +kernel
theorem dX12_readWanted_122 : decode cX12_readWanted 122 = .ok (.ireturn, 1) := by decide +kernel
theorem dX12_readWanted_153 : decode cX12_readWanted 153 = .ok (.aload_n 0, 1) := by decide +kernel
theorem dX12_readWanted_154 : decode cX12_readWanted 154 = .ok (.iload_n 1, 1) := by decide +kernel
theorem dX12_readWanted_155 : decode cX12_readWanted 155 = .ok (.iconst 0, 1) := by decide +kernel
theorem dX12_readWanted_156 : decode cX12_readWanted 156 = .ok (.invokevirtual 738, 3) := by decide +kernel
theorem dX12_readWanted_159 : decode cX12_readWanted 159 = .ok (.ireturn, 1) := by decide +kernel
theorem dX12_readWanted_160 : decode cX12_readWanted 160 = .ok (.aload_n 0, 1) := by decide +kernel
theorem dX12_readWanted_161 : decode cX12_readWanted 161 = .ok (.iload_n 1, 1) := by decide +kernel
theorem dX12_readWanted_162 : decode cX12_readWanted 162 = .ok (.iconst 0, 1) := by decide +kernel
theorem dX12_readWanted_163 : decode cX12_readWanted 163 = .ok (.invokevirtual 738, 3) := by decide +kernel
theorem dX12_readWanted_166 : decode cX12_readWanted 166 = .ok (.ifCond .eq 25, 3) := by decide +kernel
theorem dX12_readWanted_169 : decode cX12_readWanted 169 = .ok (.aload_n 0, 1) := by decide +kernel
theorem dX12_readWanted_170 : decode cX12_readWanted 170 = .ok (.bipush 46, 2) := by decide +kernel
theorem dX12_readWanted_172 : decode cX12_readWanted 172 = .ok (.invokevirtual 666, 3) := by decide +kernel
theorem dX12_readWanted_175 : decode cX12_readWanted 175 = .ok (.ifCond .eq 16, 3) := by decide +kernel
theorem dX12_readWanted_178 : decode cX12_readWanted 178 = .ok (.aload_n 0, 1) := by decide +kernel
theorem dX12_readWanted_179 : decode cX12_readWanted 179 = .ok (.iload_n 1, 1) := by decide +kernel
theorem dX12_readWanted_180 : decode cX12_readWanted 180 = .ok (.iconst 1, 1) := by decide +kernel
theorem dX12_readWanted_181 : decode cX12_readWanted 181 = .ok (.invokevirtual 738, 3) := by decide +kernel
theorem dX12_readWanted_184 : decode cX12_readWanted 184 = .ok (.ifCond .eq 7, 3) := by decide +kernel
theorem dX12_readWanted_187 : decode cX12_readWanted 187 = .ok (.iconst 1, 1) := by decide +kernel
theorem dX12_readWanted_188 : decode cX12_readWanted 188 = .ok (.goto 4, 3) := by decide +kernel
theorem dX12_readWanted_192 : decode cX12_readWanted 192 = .ok (.ireturn, 1) := by decide +kernel
theorem dX12_readWanted_206 : decode cX12_readWanted 206 = .ok (.aload_n 0, 1) := by decide +kernel
theorem dX12_readWanted_207 : decode cX12_readWanted 207 = .ok (.iload_n 1, 1) := by decide +kernel
theorem dX12_readWanted_208 : decode cX12_readWanted 208 = .ok (.invokevirtual 750, 3) := by decide +kernel
theorem dX12_readWanted_211 : decode cX12_readWanted 211 = .ok (.ireturn, 1) := by decide +kernel
theorem dX12_readWanted_247 : decode cX12_readWanted 247 = .ok (.iconst 1, 1) := by decide +kernel
theorem dX12_readWanted_248 : decode cX12_readWanted 248 = .ok (.ireturn, 1) := by decide +kernel
def rpX12_readWanted : List Nat := [0, 3, 4, 7, 8, 9, 12, 116, 117, 118, 119, 122, 123, 147, 153, 154, 155, 156, 159, 160, 161, 162, 163, 166, 169, 170, 172, 175, 178, 179, 180, 181, 184, 187, 188, 191, 192, 193, 206, 207, 208, 211, 212, 247, 248]
noncomputable def rcX12_readWanted : List rz_B := [rz_txt 1000014, rz_aload 0, rz_getf (Nat.add (Nat.mul 256 14) 1) 44 rz_r, rz_iload 1, rz_iald, rz_callT 1 rgJ0_charAt_5068e_f, rz_tsw 99 [14, 43, 43, 19, 43, 43, 12, 43, 43, 14, 38, 7, 43, 43, 43, 43, 13, 37, 43, 43, 43, 42] 43, rz_aload 0, rz_iload 1, rz_cst 0, rz_callV 2 (Nat.add (Nat.mul 256 14) 1) rgX12_readNumberOf, rz_zret, rz_no, rz_no, rz_aload 0, rz_iload 1, rz_cst 0, rz_callV 2 (Nat.add (Nat.mul 256 14) 1) rgX12_nameOf, rz_zret, rz_aload 0, rz_iload 1, rz_cst 0, rz_callV 2 (Nat.add (Nat.mul 256 14) 1) rgX12_nameOf, rz_ifeq 35, rz_aload 0, rz_cst 46, rz_callV 1 (Nat.add (Nat.mul 256 14) 1) rgX12_sign, rz_ifeq 35, rz_aload 0, rz_iload 1, rz_cst 1, rz_callV 2 (Nat.add (Nat.mul 256 14) 1) rgX12_nameOf, rz_ifeq 35, rz_cst 1, rz_goto 36, rz_no, rz_zret, rz_no, rz_aload 0, rz_iload 1, rz_callV 1 (Nat.add (Nat.mul 256 14) 1) rgX12_methodOf, rz_zret, rz_no, rz_cst 1, rz_zret]
noncomputable def rgX12_readWanted : rz_L → rz_M → rz_Z → Bool := rz_go rcX12_readWanted 2 1000000
def rrX12_readWanted : Room := { frames := 9, cells := 0, slots := 0, locals := 237 }
theorem rmX12_readWanted (l : Launch) {G : rz_G} (hG : rz_Gd G) (vs : rz_L) (M : rz_M) (Z : rz_Z) (hn : vs.length = 2) (h : rgX12_readWanted vs M Z = true) : Met l yX12_readWanted (Cond.code yX12_readWanted cX12_readWanted 2 (some .boolean) :: rz_TB) rrX12_readWanted (rz_Pre G vs M) (rz_Qi G M.2 Z) 0 0 (fun q => rz_b G ≤ q) := by
  obtain ⟨D, tc, ad, b, xs, rfl⟩ := id hG
  refine rz_body (pcs := rpX12_readWanted) (by decide) rfl (by rw [hn]; decide) h ?_
  intro p e R s m args below meth c hC
  obtain ⟨hx, hb, hml, hr, hlk, ho, hts, hKn, hRm⟩ := id hC
  obtain ⟨hK, hA, hSt⟩ := id hKn
  have hw : ∀ {i j : Nat} {ws : List Cond} {w : Cond}, rz_WW[i]? = some ws → ws[j]? = some w → w.before args s = true := fun h1 h2 => hts _ (List.mem_cons_of_mem _ (rz_mem h1 h2))
  refine rz_All_c (i := 0) (fun k J hk hJ => rz_ldcwS_ok (pc := 0) (i := 13) hx hb (hSt.2.1 ("ThreadJudgeModel", 742, "ns-nni---------------lllllllllllllllllffffct---ttmmmx-----", 13) (List.mem_of_getElem? (i := 14) rfl)) ho dX12_readWanted_0 hk) ?_
  refine rz_All_c (i := 1) (fun k J hk hJ => rz_aload_n_ok (pc := 3) hx hb dX12_readWanted_3 rfl hk) ?_
  refine rz_All_c (i := 2) (fun k J hk hJ => rz_getf_ok (pc := 4) (own := RX12) (ref := "ThreadJudgeModel") (C := RX12) (T := TX12) (N := 257) (ci := 14) (index := 102) (f := 44) (t := 2) (Ts := Cond.code yX12_readWanted cX12_readWanted 2 (some .boolean) :: rz_TB) hx hb hts rz_in14 ho hK rfl (by decide) rfl (fun _ => rfl) (hw (i := 40) (j := 12) rfl rfl) (fun _ z => z) dX12_readWanted_4 hk) ?_
  refine rz_All_c (i := 3) (fun k J hk hJ => rz_iload_n_ok (pc := 7) hx hb dX12_readWanted_7 rfl hk) ?_
  refine rz_All_c (i := 4) (fun k J hk hJ => rz_iald_ok (pc := 8) hx hb hK dX12_readWanted_8 hk) ?_
  refine rz_All_c (i := 5) (fun k J hk hJ => rz_callT_ok (pc := 9) (own := RX12) hC rfl (rmJ0_charAt_5068e_f l hG) (rz_cwV 1 hC rz_good (rz_mem (i := 33) (j := 4) rfl rfl) (rz_mem (i := 13) (j := 21) rfl rfl) (rz_mem (i := 13) (j := 22) rfl rfl) (rz_mem (i := 5) (j := 23) rfl rfl) (rz_mem (i := 13) (j := 23) rfl rfl) ⟨rfl, by decide, by decide, by decide +kernel⟩ rfl rfl ⟨by decide, by decide⟩) dX12_readWanted_9 hk) ?_
  refine rz_All_c (i := 6) (fun k J hk hJ => rz_tsw_ok (pc := 12) (pcs := rpX12_readWanted) (js := [14, 43, 43, 19, 43, 43, 12, 43, 43, 14, 38, 7, 43, 43, 43, 43, 13, 37, 43, 43, 43, 42]) (d := 43) (lo := 99) hx hb dX12_readWanted_12 (by decide +kernel) hJ) ?_
  refine rz_All_c (i := 7) (fun k J hk hJ => rz_aload_n_ok (pc := 116) hx hb dX12_readWanted_116 rfl hk) ?_
  refine rz_All_c (i := 8) (fun k J hk hJ => rz_iload_n_ok (pc := 117) hx hb dX12_readWanted_117 rfl hk) ?_
  refine rz_All_c (i := 9) (fun k J hk hJ => rz_iconst_ok (pc := 118) hx hb dX12_readWanted_118 rfl hk) ?_
  refine rz_All_c (i := 10) (fun k J hk hJ => rz_callV_ok (pc := 119) (own := RX12) (C := RX12) (T0 := TX12) (N0 := 257) hC rfl (rmX12_readNumberOf l hG) (rz_cwV 2 hC rz_good (rz_mem (i := 41) (j := 4) rfl rfl) (rz_mem (i := 41) (j := 5) rfl rfl) (rz_mem (i := 41) (j := 6) rfl rfl) (rz_mem (i := 32) (j := 8) rfl rfl) (rz_mem (i := 41) (j := 7) rfl rfl) ⟨rfl, by decide, by decide, by decide +kernel⟩ rfl rfl ⟨by decide, by decide⟩) rfl dX12_readWanted_119 hk) ?_
  refine rz_All_c (i := 11) (fun k J hk hJ => rz_zret_ok (pc := 122) hC dX12_readWanted_122) ?_
  refine rz_All_c (i := 12) (fun k J hk hJ => rz_no_ok) ?_
  refine rz_All_c (i := 13) (fun k J hk hJ => rz_no_ok) ?_
  refine rz_All_c (i := 14) (fun k J hk hJ => rz_aload_n_ok (pc := 153) hx hb dX12_readWanted_153 rfl hk) ?_
  refine rz_All_c (i := 15) (fun k J hk hJ => rz_iload_n_ok (pc := 154) hx hb dX12_readWanted_154 rfl hk) ?_
  refine rz_All_c (i := 16) (fun k J hk hJ => rz_iconst_ok (pc := 155) hx hb dX12_readWanted_155 rfl hk) ?_
  refine rz_All_c (i := 17) (fun k J hk hJ => rz_callV_ok (pc := 156) (own := RX12) (C := RX12) (T0 := TX12) (N0 := 257) hC rfl (rmX12_nameOf l hG) (rz_cwV 2 hC rz_good (rz_mem (i := 41) (j := 20) rfl rfl) (rz_mem (i := 41) (j := 21) rfl rfl) (rz_mem (i := 41) (j := 22) rfl rfl) (rz_mem (i := 32) (j := 8) rfl rfl) (rz_mem (i := 41) (j := 23) rfl rfl) ⟨rfl, by decide, by decide, by decide +kernel⟩ rfl rfl ⟨by decide, by decide⟩) rfl dX12_readWanted_156 hk) ?_
  refine rz_All_c (i := 18) (fun k J hk hJ => rz_zret_ok (pc := 159) hC dX12_readWanted_159) ?_
  refine rz_All_c (i := 19) (fun k J hk hJ => rz_aload_n_ok (pc := 160) hx hb dX12_readWanted_160 rfl hk) ?_
  refine rz_All_c (i := 20) (fun k J hk hJ => rz_iload_n_ok (pc := 161) hx hb dX12_readWanted_161 rfl hk) ?_
  refine rz_All_c (i := 21) (fun k J hk hJ => rz_iconst_ok (pc := 162) hx hb dX12_readWanted_162 rfl hk) ?_
  refine rz_All_c (i := 22) (fun k J hk hJ => rz_callV_ok (pc := 163) (own := RX12) (C := RX12) (T0 := TX12) (N0 := 257) hC rfl (rmX12_nameOf l hG) (rz_cwV 2 hC rz_good (rz_mem (i := 41) (j := 20) rfl rfl) (rz_mem (i := 41) (j := 21) rfl rfl) (rz_mem (i := 41) (j := 22) rfl rfl) (rz_mem (i := 32) (j := 8) rfl rfl) (rz_mem (i := 41) (j := 23) rfl rfl) ⟨rfl, by decide, by decide, by decide +kernel⟩ rfl rfl ⟨by decide, by decide⟩) rfl dX12_readWanted_163 hk) ?_
  refine rz_All_c (i := 23) (fun k J hk hJ => rz_ifeq_ok (pc := 166) hx hb dX12_readWanted_166 rfl hk (hJ 35)) ?_
  refine rz_All_c (i := 24) (fun k J hk hJ => rz_aload_n_ok (pc := 169) hx hb dX12_readWanted_169 rfl hk) ?_
  refine rz_All_c (i := 25) (fun k J hk hJ => rz_bipush_ok (pc := 170) hx hb dX12_readWanted_170 (by decide) hk) ?_
  refine rz_All_c (i := 26) (fun k J hk hJ => rz_callV_ok (pc := 172) (own := RX12) (C := RX12) (T0 := TX12) (N0 := 257) hC rfl (rmX12_sign l hG) (rz_cwV 1 hC rz_good (rz_mem (i := 38) (j := 12) rfl rfl) (rz_mem (i := 38) (j := 13) rfl rfl) (rz_mem (i := 38) (j := 14) rfl rfl) (rz_mem (i := 32) (j := 8) rfl rfl) (rz_mem (i := 38) (j := 15) rfl rfl) ⟨rfl, by decide, by decide, by decide +kernel⟩ rfl rfl ⟨by decide, by decide⟩) rfl dX12_readWanted_172 hk) ?_
  refine rz_All_c (i := 27) (fun k J hk hJ => rz_ifeq_ok (pc := 175) hx hb dX12_readWanted_175 rfl hk (hJ 35)) ?_
  refine rz_All_c (i := 28) (fun k J hk hJ => rz_aload_n_ok (pc := 178) hx hb dX12_readWanted_178 rfl hk) ?_
  refine rz_All_c (i := 29) (fun k J hk hJ => rz_iload_n_ok (pc := 179) hx hb dX12_readWanted_179 rfl hk) ?_
  refine rz_All_c (i := 30) (fun k J hk hJ => rz_iconst_ok (pc := 180) hx hb dX12_readWanted_180 rfl hk) ?_
  refine rz_All_c (i := 31) (fun k J hk hJ => rz_callV_ok (pc := 181) (own := RX12) (C := RX12) (T0 := TX12) (N0 := 257) hC rfl (rmX12_nameOf l hG) (rz_cwV 2 hC rz_good (rz_mem (i := 41) (j := 20) rfl rfl) (rz_mem (i := 41) (j := 21) rfl rfl) (rz_mem (i := 41) (j := 22) rfl rfl) (rz_mem (i := 32) (j := 8) rfl rfl) (rz_mem (i := 41) (j := 23) rfl rfl) ⟨rfl, by decide, by decide, by decide +kernel⟩ rfl rfl ⟨by decide, by decide⟩) rfl dX12_readWanted_181 hk) ?_
  refine rz_All_c (i := 32) (fun k J hk hJ => rz_ifeq_ok (pc := 184) hx hb dX12_readWanted_184 rfl hk (hJ 35)) ?_
  refine rz_All_c (i := 33) (fun k J hk hJ => rz_iconst_ok (pc := 187) hx hb dX12_readWanted_187 rfl hk) ?_
  refine rz_All_c (i := 34) (fun k J hk hJ => rz_goto_ok (pc := 188) hx hb dX12_readWanted_188 rfl (hJ 36)) ?_
  refine rz_All_c (i := 35) (fun k J hk hJ => rz_no_ok) ?_
  refine rz_All_c (i := 36) (fun k J hk hJ => rz_zret_ok (pc := 192) hC dX12_readWanted_192) ?_
  refine rz_All_c (i := 37) (fun k J hk hJ => rz_no_ok) ?_
  refine rz_All_c (i := 38) (fun k J hk hJ => rz_aload_n_ok (pc := 206) hx hb dX12_readWanted_206 rfl hk) ?_
  refine rz_All_c (i := 39) (fun k J hk hJ => rz_iload_n_ok (pc := 207) hx hb dX12_readWanted_207 rfl hk) ?_
  refine rz_All_c (i := 40) (fun k J hk hJ => rz_callV_ok (pc := 208) (own := RX12) (C := RX12) (T0 := TX12) (N0 := 257) hC rfl (rmX12_methodOf l hG) (rz_cwV 1 hC rz_good (rz_mem (i := 42) (j := 4) rfl rfl) (rz_mem (i := 42) (j := 5) rfl rfl) (rz_mem (i := 42) (j := 6) rfl rfl) (rz_mem (i := 32) (j := 8) rfl rfl) (rz_mem (i := 42) (j := 7) rfl rfl) ⟨rfl, by decide, by decide, by decide +kernel⟩ rfl rfl ⟨by decide, by decide⟩) rfl dX12_readWanted_208 hk) ?_
  refine rz_All_c (i := 41) (fun k J hk hJ => rz_zret_ok (pc := 211) hC dX12_readWanted_211) ?_
  refine rz_All_c (i := 42) (fun k J hk hJ => rz_no_ok) ?_
  refine rz_All_c (i := 43) (fun k J hk hJ => rz_iconst_ok (pc := 247) hx hb dX12_readWanted_247 rfl hk) ?_
  refine rz_All_c (i := 44) (fun k J hk hJ => rz_zret_ok (pc := 248) hC dX12_readWanted_248) ?_
  exact trivial
theorem dX12_readLine_0 : decode cX12_readLine 0 = .ok (.aload_n 0, 1) := by decide +kernel
theorem dX12_readLine_1 : decode cX12_readLine 1 = .ok (.bipush 12, 2) := by decide +kernel
theorem dX12_readLine_3 : decode cX12_readLine 3 = .ok (.invokevirtual 663, 3) := by decide +kernel
theorem dX12_readLine_6 : decode cX12_readLine 6 = .ok (.ifCond .eq 9, 3) := by decide +kernel
theorem dX12_readLine_15 : decode cX12_readLine 15 = .ok (.aload_n 0, 1) := by decide +kernel
theorem dX12_readLine_16 : decode cX12_readLine 16 = .ok (.invokevirtual 659, 3) := by decide +kernel
theorem dX12_readLine_19 : decode cX12_readLine 19 = .ok (.ifCond .eq 73, 3) := by decide +kernel
theorem dX12_readLine_22 : decode cX12_readLine 22 = .ok (.aload_n 0, 1) := by decide +kernel
theorem dX12_readLine_23 : decode cX12_readLine 23 = .ok (.getfield 132, 3) := by decide +kernel
theorem dX12_readLine_26 : decode cX12_readLine 26 = .ok (.aload_n 0, 1) := by decide +kernel
theorem dX12_readLine_27 : decode cX12_readLine 27 = .ok (.getfield 718, 3) := by decide +kernel
theorem dX12_readLine_30 : decode cX12_readLine 30 = .ok (.aload_n 0, 1) := by decide +kernel
theorem dX12_readLine_31 : decode cX12_readLine 31 = .ok (.getfield 591, 3) := by decide +kernel
theorem dX12_readLine_34 : decode cX12_readLine 34 = .ok (.iastore, 1) := by decide +kernel
theorem dX12_readLine_35 : decode cX12_readLine 35 = .ok (.aload_n 0, 1) := by decide +kernel
theorem dX12_readLine_36 : decode cX12_readLine 36 = .ok (.getfield 135, 3) := by decide +kernel
theorem dX12_readLine_39 : decode cX12_readLine 39 = .ok (.aload_n 0, 1) := by decide +kernel
theorem dX12_readLine_40 : decode cX12_readLine 40 = .ok (.getfield 718, 3) := by decide +kernel
theorem dX12_readLine_43 : decode cX12_readLine 43 = .ok (.aload_n 0, 1) := by decide +kernel
theorem dX12_readLine_44 : decode cX12_readLine 44 = .ok (.getfield 620, 3) := by decide +kernel
theorem dX12_readLine_47 : decode cX12_readLine 47 = .ok (.iastore, 1) := by decide +kernel
theorem dX12_readLine_48 : decode cX12_readLine 48 = .ok (.aload_n 0, 1) := by decide +kernel
theorem dX12_readLine_49 : decode cX12_readLine 49 = .ok (.getfield 138, 3) := by decide +kernel
theorem dX12_readLine_52 : decode cX12_readLine 52 = .ok (.aload_n 0, 1) := by decide +kernel
theorem dX12_readLine_53 : decode cX12_readLine 53 = .ok (.getfield 718, 3) := by decide +kernel
theorem dX12_readLine_56 : decode cX12_readLine 56 = .ok (.aload_n 0, 1) := by decide +kernel
theorem dX12_readLine_57 : decode cX12_readLine 57 = .ok (.getfield 706, 3) := by decide +kernel
theorem dX12_readLine_60 : decode cX12_readLine 60 = .ok (.iastore, 1) := by decide +kernel
theorem dX12_readLine_61 : decode cX12_readLine 61 = .ok (.aload_n 0, 1) := by decide +kernel
theorem dX12_readLine_62 : decode cX12_readLine 62 = .ok (.getfield 141, 3) := by decide +kernel
theorem dX12_readLine_65 : decode cX12_readLine 65 = .ok (.aload_n 0, 1) := by decide +kernel
theorem dX12_readLine_66 : decode cX12_readLine 66 = .ok (.getfield 718, 3) := by decide +kernel
theorem dX12_readLine_69 : decode cX12_readLine 69 = .ok (.iload_n 1, 1) := by decide +kernel
theorem dX12_readLine_70 : decode cX12_readLine 70 = .ok (.iastore, 1) := by decide +kernel
theorem dX12_readLine_71 : decode cX12_readLine 71 = .ok (.aload_n 0, 1) := by decide +kernel
theorem dX12_readLine_72 : decode cX12_readLine 72 = .ok (.dup, 1) := by decide +kernel
theorem dX12_readLine_73 : decode cX12_readLine 73 = .ok (.getfield 718, 3) := by decide +kernel
theorem dX12_readLine_76 : decode cX12_readLine 76 = .ok (.iconst 1, 1) := by decide +kernel
theorem dX12_readLine_77 : decode cX12_readLine 77 = .ok (.iadd, 1) := by decide +kernel
theorem dX12_readLine_78 : decode cX12_readLine 78 = .ok (.putfield 718, 3) := by decide +kernel
theorem dX12_readLine_81 : decode cX12_readLine 81 = .ok (.aload_n 0, 1) := by decide +kernel
theorem dX12_readLine_82 : decode cX12_readLine 82 = .ok (.invokevirtual 648, 3) := by decide +kernel
theorem dX12_readLine_85 : decode cX12_readLine 85 = .ok (.aload_n 0, 1) := by decide +kernel
theorem dX12_readLine_86 : decode cX12_readLine 86 = .ok (.bipush 58, 2) := by decide +kernel
theorem dX12_readLine_88 : decode cX12_readLine 88 = .ok (.invokevirtual 666, 3) := by decide +kernel
theorem dX12_readLine_91 : decode cX12_readLine 91 = .ok (.ireturn, 1) := by decide +kernel
theorem dX12_readLine_92 : decode cX12_readLine 92 = .ok (.aload_n 0, 1) := by decide +kernel
theorem dX12_readLine_93 : decode cX12_readLine 93 = .ok (.getfield 588, 3) := by decide +kernel
theorem dX12_readLine_96 : decode cX12_readLine 96 = .ok (.iconst 1, 1) := by decide +kernel
theorem dX12_readLine_97 : decode cX12_readLine 97 = .ok (.if_icmp .ne 21, 3) := by decide +kernel
theorem dX12_readLine_100 : decode cX12_readLine 100 = .ok (.aload_n 0, 1) := by decide +kernel
theorem dX12_readLine_101 : decode cX12_readLine 101 = .ok (.ldc_w 657, 3) := by decide +kernel
theorem dX12_readLine_104 : decode cX12_readLine 104 = .ok (.aload_n 0, 1) := by decide +kernel
theorem dX12_readLine_105 : decode cX12_readLine 105 = .ok (.getfield 591, 3) := by decide +kernel
theorem dX12_readLine_108 : decode cX12_readLine 108 = .ok (.aload_n 0, 1) := by decide +kernel
theorem dX12_readLine_109 : decode cX12_readLine 109 = .ok (.getfield 620, 3) := by decide +kernel
theorem dX12_readLine_112 : decode cX12_readLine 112 = .ok (.invokevirtual 653, 3) := by decide +kernel
theorem dX12_readLine_115 : decode cX12_readLine 115 = .ok (.goto 4, 3) := by decide +kernel
theorem dX12_readLine_119 : decode cX12_readLine 119 = .ok (.istore_n 2, 1) := by decide +kernel
theorem dX12_readLine_120 : decode cX12_readLine 120 = .ok (.aload_n 0, 1) := by decide +kernel
theorem dX12_readLine_121 : decode cX12_readLine 121 = .ok (.iload_n 2, 1) := by decide +kernel
theorem dX12_readLine_122 : decode cX12_readLine 122 = .ok (.iconst (-1), 1) := by decide +kernel
theorem dX12_readLine_123 : decode cX12_readLine 123 = .ok (.if_icmp .eq 7, 3) := by decide +kernel
theorem dX12_readLine_126 : decode cX12_readLine 126 = .ok (.iconst 1, 1) := by decide +kernel
theorem dX12_readLine_127 : decode cX12_readLine 127 = .ok (.goto 4, 3) := by decide +kernel
theorem dX12_readLine_131 : decode cX12_readLine 131 = .ok (.invokevirtual 644, 3) := by decide +kernel
theorem dX12_readLine_134 : decode cX12_readLine 134 = .ok (.ifCond .ne 5, 3) := by decide +kernel
theorem dX12_readLine_139 : decode cX12_readLine 139 = .ok (.iload_n 2, 1) := by decide +kernel
theorem dX12_readLine_140 : decode cX12_readLine 140 = .ok (.bipush 42, 2) := by decide +kernel
theorem dX12_readLine_142 : decode cX12_readLine 142 = .ok (.if_icmp .eq 15, 3) := by decide +kernel
theorem dX12_readLine_145 : decode cX12_readLine 145 = .ok (.iload_n 2, 1) := by decide +kernel
theorem dX12_readLine_146 : decode cX12_readLine 146 = .ok (.bipush 43, 2) := by decide +kernel
theorem dX12_readLine_148 : decode cX12_readLine 148 = .ok (.if_icmp .eq 9, 3) := by decide +kernel
theorem dX12_readLine_151 : decode cX12_readLine 151 = .ok (.iload_n 2, 1) := by decide +kernel
theorem dX12_readLine_152 : decode cX12_readLine 152 = .ok (.bipush 52, 2) := by decide +kernel
theorem dX12_readLine_154 : decode cX12_readLine 154 = .ok (.if_icmp .ne 7, 3) := by decide +kernel
theorem dX12_readLine_161 : decode cX12_readLine 161 = .ok (.iconst 0, 1) := by decide +kernel
theorem dX12_readLine_162 : decode cX12_readLine 162 = .ok (.istore_n 3, 1) := by decide +kernel
theorem dX12_readLine_163 : decode cX12_readLine 163 = .ok (.aload_n 0, 1) := by decide +kernel
theorem dX12_readLine_164 : decode cX12_readLine 164 = .ok (.getfield 706, 3) := by decide +kernel
theorem dX12_readLine_167 : decode cX12_readLine 167 = .ok (.sipush 1014, 3) := by decide +kernel
theorem dX12_readLine_170 : decode cX12_readLine 170 = .ok (.if_icmp .eq 32, 3) := by decide +kernel
theorem dX12_readLine_173 : decode cX12_readLine 173 = .ok (.aload_n 0, 1) := by decide +kernel
theorem dX12_readLine_174 : decode cX12_readLine 174 = .ok (.getfield 706, 3) := by decide +kernel
theorem dX12_readLine_177 : decode cX12_readLine 177 = .ok (.aload_n 0, 1) := by decide +kernel
theorem dX12_readLine_178 : decode cX12_readLine 178 = .ok (.getfield 87, 3) := by decide +kernel
theorem dX12_readLine_181 : decode cX12_readLine 181 = .ok (.iload_n 1, 1) := by decide +kernel
theorem dX12_readLine_182 : decode cX12_readLine 182 = .ok (.iaload, 1) := by decide +kernel
theorem dX12_readLine_183 : decode cX12_readLine 183 = .ok (.isub, 1) := by decide +kernel
theorem dX12_readLine_184 : decode cX12_readLine 184 = .ok (.bipush 120, 2) := by decide +kernel
theorem dX12_readLine_186 : decode cX12_readLine 186 = .ok (.if_icmp .eq 16, 3) := by decide +kernel
theorem dX12_readLine_189 : decode cX12_readLine 189 = .ok (.iload_n 3, 1) := by decide +kernel
theorem dX12_readLine_190 : decode cX12_readLine 190 = .ok (.ifCond .eq 17, 3) := by decide +kernel
theorem dX12_readLine_207 : decode cX12_readLine 207 = .ok (.aload_n 0, 1) := by decide +kernel
theorem dX12_readLine_208 : decode cX12_readLine 208 = .ok (.iload_n 3, 1) := by decide +kernel
theorem dX12_readLine_209 : decode cX12_readLine 209 = .ok (.ifCond .eq 19, 3) := by decide +kernel
theorem dX12_readLine_228 : decode cX12_readLine 228 = .ok (.aload_n 0, 1) := by decide +kernel
theorem dX12_readLine_229 : decode cX12_readLine 229 = .ok (.getfield 721, 3) := by decide +kernel
theorem dX12_readLine_232 : decode cX12_readLine 232 = .ok (.putfield 721, 3) := by decide +kernel
theorem dX12_readLine_235 : decode cX12_readLine 235 = .ok (.aload_n 0, 1) := by decide +kernel
theorem dX12_readLine_236 : decode cX12_readLine 236 = .ok (.getfield 102, 3) := by decide +kernel
theorem dX12_readLine_239 : decode cX12_readLine 239 = .ok (.aload_n 0, 1) := by decide +kernel
theorem dX12_readLine_240 : decode cX12_readLine 240 = .ok (.getfield 706, 3) := by decide +kernel
theorem dX12_readLine_243 : decode cX12_readLine 243 = .ok (.iload_n 2, 1) := by decide +kernel
theorem dX12_readLine_244 : decode cX12_readLine 244 = .ok (.iastore, 1) := by decide +kernel
theorem dX12_readLine_245 : decode cX12_readLine 245 = .ok (.aload_n 0, 1) := by decide +kernel
theorem dX12_readLine_246 : decode cX12_readLine 246 = .ok (.getfield 105, 3) := by decide +kernel
theorem dX12_readLine_249 : decode cX12_readLine 249 = .ok (.aload_n 0, 1) := by decide +kernel
theorem dX12_readLine_250 : decode cX12_readLine 250 = .ok (.getfield 706, 3) := by decide +kernel
theorem dX12_readLine_253 : decode cX12_readLine 253 = .ok (.aload_n 0, 1) := by decide +kernel
theorem dX12_readLine_254 : decode cX12_readLine 254 = .ok (.getfield 591, 3) := by decide +kernel
theorem dX12_readLine_257 : decode cX12_readLine 257 = .ok (.iastore, 1) := by decide +kernel
theorem dX12_readLine_258 : decode cX12_readLine 258 = .ok (.aload_n 0, 1) := by decide +kernel
theorem dX12_readLine_259 : decode cX12_readLine 259 = .ok (.getfield 108, 3) := by decide +kernel
theorem dX12_readLine_262 : decode cX12_readLine 262 = .ok (.aload_n 0, 1) := by decide +kernel
theorem dX12_readLine_263 : decode cX12_readLine 263 = .ok (.getfield 706, 3) := by decide +kernel
theorem dX12_readLine_266 : decode cX12_readLine 266 = .ok (.iload_n 1, 1) := by decide +kernel
theorem dX12_readLine_267 : decode cX12_readLine 267 = .ok (.iastore, 1) := by decide +kernel
theorem dX12_readLine_268 : decode cX12_readLine 268 = .ok (.aload_n 0, 1) := by decide +kernel
theorem dX12_readLine_269 : decode cX12_readLine 269 = .ok (.invokevirtual 648, 3) := by decide +kernel
theorem dX12_readLine_272 : decode cX12_readLine 272 = .ok (.aload_n 0, 1) := by decide +kernel
theorem dX12_readLine_273 : decode cX12_readLine 273 = .ok (.dup, 1) := by decide +kernel
theorem dX12_readLine_274 : decode cX12_readLine 274 = .ok (.getfield 706, 3) := by decide +kernel
theorem dX12_readLine_277 : decode cX12_readLine 277 = .ok (.iconst 1, 1) := by decide +kernel
theorem dX12_readLine_278 : decode cX12_readLine 278 = .ok (.iadd, 1) := by decide +kernel
theorem dX12_readLine_279 : decode cX12_readLine 279 = .ok (.putfield 706, 3) := by decide +kernel
theorem dX12_readLine_282 : decode cX12_readLine 282 = .ok (.aload_n 0, 1) := by decide +kernel
theorem dX12_readLine_283 : decode cX12_readLine 283 = .ok (.aload_n 0, 1) := by decide +kernel
theorem dX12_readLine_284 : decode cX12_readLine 284 = .ok (.getfield 706, 3) := by decide +kernel
theorem dX12_readLine_287 : decode cX12_readLine 287 = .ok (.iconst 1, 1) := by decide +kernel
theorem dX12_readLine_288 : decode cX12_readLine 288 = .ok (.isub, 1) := by decide +kernel
theorem dX12_readLine_289 : decode cX12_readLine 289 = .ok (.invokevirtual 728, 3) := by decide +kernel
theorem dX12_readLine_292 : decode cX12_readLine 292 = .ok (.ifCond .eq 16, 3) := by decide +kernel
theorem dX12_readLine_295 : decode cX12_readLine 295 = .ok (.aload_n 0, 1) := by decide +kernel
theorem dX12_readLine_296 : decode cX12_readLine 296 = .ok (.bipush 59, 2) := by decide +kernel
theorem dX12_readLine_298 : decode cX12_readLine 298 = .ok (.invokevirtual 666, 3) := by decide +kernel
theorem dX12_readLine_301 : decode cX12_readLine 301 = .ok (.ifCond .eq 7, 3) := by decide +kernel
theorem dX12_readLine_304 : decode cX12_readLine 304 = .ok (.iconst 1, 1) := by decide +kernel
theorem dX12_readLine_305 : decode cX12_readLine 305 = .ok (.goto 4, 3) := by decide +kernel
theorem dX12_readLine_309 : decode cX12_readLine 309 = .ok (.ireturn, 1) := by decide +kernel
def rpX12_readLine : List Nat := [0, 1, 3, 6, 9, 15, 16, 19, 22, 23, 26, 27, 30, 31, 34, 35, 36, 39, 40, 43, 44, 47, 48, 49, 52, 53, 56, 57, 60, 61, 62, 65, 66, 69, 70, 71, 72, 73, 76, 77, 78, 81, 82, 85, 86, 88, 91, 92, 93, 96, 97, 100, 101, 104, 105, 108, 109, 112, 115, 118, 119, 120, 121, 122, 123, 126, 127, 130, 131, 134, 137, 139, 140, 142, 145, 146, 148, 151, 152, 154, 157, 161, 162, 163, 164, 167, 170, 173, 174, 177, 178, 181, 182, 183, 184, 186, 189, 190, 193, 202, 207, 208, 209, 212, 228, 229, 232, 235, 236, 239, 240, 243, 244, 245, 246, 249, 250, 253, 254, 257, 258, 259, 262, 263, 266, 267, 268, 269, 272, 273, 274, 277, 278, 279, 282, 283, 284, 287, 288, 289, 292, 295, 296, 298, 301, 304, 305, 308, 309]
noncomputable def rcX12_readLine : List rz_B := [rz_aload 0, rz_cst 12, rz_callV 1 (Nat.add (Nat.mul 256 14) 1) rgX12_isWord, rz_ifeq 5, rz_no, rz_aload 0, rz_callV 0 (Nat.add (Nat.mul 256 14) 1) rgX12_isName, rz_ifeq 47, rz_aload 0, rz_getf (Nat.add (Nat.mul 256 14) 1) 55 rz_r, rz_aload 0, rz_getf (Nat.add (Nat.mul 256 14) 1) 54 rz_i, rz_aload 0, rz_getf (Nat.add (Nat.mul 256 14) 1) 6 rz_i, rz_iast, rz_aload 0, rz_getf (Nat.add (Nat.mul 256 14) 1) 56 rz_r, rz_aload 0, rz_getf (Nat.add (Nat.mul 256 14) 1) 54 rz_i, rz_aload 0, rz_getf (Nat.add (Nat.mul 256 14) 1) 7 rz_i, rz_iast, rz_aload 0, rz_getf (Nat.add (Nat.mul 256 14) 1) 57 rz_r, rz_aload 0, rz_getf (Nat.add (Nat.mul 256 14) 1) 54 rz_i, rz_aload 0, rz_getf (Nat.add (Nat.mul 256 14) 1) 43 rz_i, rz_iast, rz_aload 0, rz_getf (Nat.add (Nat.mul 256 14) 1) 58 rz_r, rz_aload 0, rz_getf (Nat.add (Nat.mul 256 14) 1) 54 rz_i, rz_iload 1, rz_iast, rz_aload 0, rz_dup, rz_getf (Nat.add (Nat.mul 256 14) 1) 54 rz_i, rz_cst 1, rz_iadd, rz_putf (Nat.add (Nat.mul 256 14) 1) 54 rz_unI, rz_aload 0, rz_callVv 0 (Nat.add (Nat.mul 256 14) 1) rgX12_next, rz_aload 0, rz_cst 58, rz_callV 1 (Nat.add (Nat.mul 256 14) 1) rgX12_sign, rz_zret, rz_aload 0, rz_getf (Nat.add (Nat.mul 256 14) 1) 5 rz_i, rz_cst 1, rz_icmpne 59, rz_aload 0, rz_txt 1000013, rz_aload 0, rz_getf (Nat.add (Nat.mul 256 14) 1) 6 rz_i, rz_aload 0, rz_getf (Nat.add (Nat.mul 256 14) 1) 7 rz_i, rz_callV 3 (Nat.add (Nat.mul 256 14) 1) rgX12_wordOf, rz_goto 60, rz_no, rz_istore 2, rz_aload 0, rz_iload 2, rz_cst 4294967295, rz_icmpeq 67, rz_cst 1, rz_goto 68, rz_no, rz_callV 1 (Nat.add (Nat.mul 256 14) 1) rgX12_can, rz_ifne 71, rz_no, rz_iload 2, rz_cst 42, rz_icmpeq 80, rz_iload 2, rz_cst 43, rz_icmpeq 80, rz_iload 2, rz_cst 52, rz_icmpne 81, rz_no, rz_cst 0, rz_istore 3, rz_aload 0, rz_getf (Nat.add (Nat.mul 256 14) 1) 43 rz_i, rz_cst 1014, rz_icmpeq 99, rz_aload 0, rz_getf (Nat.add (Nat.mul 256 14) 1) 43 rz_i, rz_aload 0, rz_getf (Nat.add (Nat.mul 256 14) 1) 38 rz_r, rz_iload 1, rz_iald, rz_isub, rz_cst 120, rz_icmpeq 99, rz_iload 3, rz_ifeq 100, rz_no, rz_no, rz_aload 0, rz_iload 3, rz_ifeq 104, rz_no, rz_aload 0, rz_getf (Nat.add (Nat.mul 256 14) 1) 65 rz_i, rz_putf (Nat.add (Nat.mul 256 14) 1) 65 rz_unI, rz_aload 0, rz_getf (Nat.add (Nat.mul 256 14) 1) 44 rz_r, rz_aload 0, rz_getf (Nat.add (Nat.mul 256 14) 1) 43 rz_i, rz_iload 2, rz_iast, rz_aload 0, rz_getf (Nat.add (Nat.mul 256 14) 1) 45 rz_r, rz_aload 0, rz_getf (Nat.add (Nat.mul 256 14) 1) 43 rz_i, rz_aload 0, rz_getf (Nat.add (Nat.mul 256 14) 1) 6 rz_i, rz_iast, rz_aload 0, rz_getf (Nat.add (Nat.mul 256 14) 1) 46 rz_r, rz_aload 0, rz_getf (Nat.add (Nat.mul 256 14) 1) 43 rz_i, rz_iload 1, rz_iast, rz_aload 0, rz_callVv 0 (Nat.add (Nat.mul 256 14) 1) rgX12_next, rz_aload 0, rz_dup, rz_getf (Nat.add (Nat.mul 256 14) 1) 43 rz_i, rz_cst 1, rz_iadd, rz_putf (Nat.add (Nat.mul 256 14) 1) 43 rz_unI, rz_aload 0, rz_aload 0, rz_getf (Nat.add (Nat.mul 256 14) 1) 43 rz_i, rz_cst 1, rz_isub, rz_callV 1 (Nat.add (Nat.mul 256 14) 1) rgX12_readWanted, rz_ifeq 147, rz_aload 0, rz_cst 59, rz_callV 1 (Nat.add (Nat.mul 256 14) 1) rgX12_sign, rz_ifeq 147, rz_cst 1, rz_goto 148, rz_no, rz_zret]
noncomputable def rgX12_readLine : rz_L → rz_M → rz_Z → Bool := rz_go rcX12_readLine 4 1000000
def rrX12_readLine : Room := { frames := 10, cells := 0, slots := 0, locals := 258 }
theorem rmX12_readLine (l : Launch) {G : rz_G} (hG : rz_Gd G) (vs : rz_L) (M : rz_M) (Z : rz_Z) (hn : vs.length = 2) (h : rgX12_readLine vs M Z = true) : Met l yX12_readLine (Cond.code yX12_readLine cX12_readLine 4 (some .boolean) :: rz_TB) rrX12_readLine (rz_Pre G vs M) (rz_Qi G M.2 Z) 0 0 (fun q => rz_b G ≤ q) := by
  obtain ⟨D, tc, ad, b, xs, rfl⟩ := id hG
  refine rz_body (pcs := rpX12_readLine) (by decide) rfl (by rw [hn]; decide) h ?_
  intro p e R s m args below meth c hC
  obtain ⟨hx, hb, hml, hr, hlk, ho, hts, hKn, hRm⟩ := id hC
  obtain ⟨hK, hA, hSt⟩ := id hKn
  have hw : ∀ {i j : Nat} {ws : List Cond} {w : Cond}, rz_WW[i]? = some ws → ws[j]? = some w → w.before args s = true := fun h1 h2 => hts _ (List.mem_cons_of_mem _ (rz_mem h1 h2))
  refine rz_All_c (i := 0) (fun k J hk hJ => rz_aload_n_ok (pc := 0) hx hb dX12_readLine_0 rfl hk) ?_
  refine rz_All_c (i := 1) (fun k J hk hJ => rz_bipush_ok (pc := 1) hx hb dX12_readLine_1 (by decide) hk) ?_
  refine rz_All_c (i := 2) (fun k J hk hJ => rz_callV_ok (pc := 3) (own := RX12) (C := RX12) (T0 := TX12) (N0 := 257) hC rfl (rmX12_isWord l hG) (rz_cwV 1 hC rz_good (rz_mem (i := 37) (j := 0) rfl rfl) (rz_mem (i := 37) (j := 1) rfl rfl) (rz_mem (i := 37) (j := 2) rfl rfl) (rz_mem (i := 32) (j := 8) rfl rfl) (rz_mem (i := 37) (j := 3) rfl rfl) ⟨rfl, by decide, by decide, by decide +kernel⟩ rfl rfl ⟨by decide, by decide⟩) rfl dX12_readLine_3 hk) ?_
  refine rz_All_c (i := 3) (fun k J hk hJ => rz_ifeq_ok (pc := 6) hx hb dX12_readLine_6 rfl hk (hJ 5)) ?_
  refine rz_All_c (i := 4) (fun k J hk hJ => rz_no_ok) ?_
  refine rz_All_c (i := 5) (fun k J hk hJ => rz_aload_n_ok (pc := 15) hx hb dX12_readLine_15 rfl hk) ?_
  refine rz_All_c (i := 6) (fun k J hk hJ => rz_callV_ok (pc := 16) (own := RX12) (C := RX12) (T0 := TX12) (N0 := 257) hC rfl (rmX12_isName l hG) (rz_cwV 0 hC rz_good (rz_mem (i := 37) (j := 20) rfl rfl) (rz_mem (i := 37) (j := 21) rfl rfl) (rz_mem (i := 37) (j := 22) rfl rfl) (rz_mem (i := 32) (j := 8) rfl rfl) (rz_mem (i := 37) (j := 23) rfl rfl) ⟨rfl, by decide, by decide, by decide +kernel⟩ rfl rfl ⟨by decide, by decide⟩) rfl dX12_readLine_16 hk) ?_
  refine rz_All_c (i := 7) (fun k J hk hJ => rz_ifeq_ok (pc := 19) hx hb dX12_readLine_19 rfl hk (hJ 47)) ?_
  refine rz_All_c (i := 8) (fun k J hk hJ => rz_aload_n_ok (pc := 22) hx hb dX12_readLine_22 rfl hk) ?_
  refine rz_All_c (i := 9) (fun k J hk hJ => rz_getf_ok (pc := 23) (own := RX12) (ref := "ThreadJudgeModel") (C := RX12) (T := TX12) (N := 257) (ci := 14) (index := 132) (f := 55) (t := 2) (Ts := Cond.code yX12_readLine cX12_readLine 4 (some .boolean) :: rz_TB) hx hb hts rz_in14 ho hK rfl (by decide) rfl (fun _ => rfl) (hw (i := 40) (j := 8) rfl rfl) (fun _ z => z) dX12_readLine_23 hk) ?_
  refine rz_All_c (i := 10) (fun k J hk hJ => rz_aload_n_ok (pc := 26) hx hb dX12_readLine_26 rfl hk) ?_
  refine rz_All_c (i := 11) (fun k J hk hJ => rz_getf_ok (pc := 27) (own := RX12) (ref := "ThreadJudgeModel") (C := RX12) (T := TX12) (N := 257) (ci := 14) (index := 718) (f := 54) (t := 0) (Ts := Cond.code yX12_readLine cX12_readLine 4 (some .boolean) :: rz_TB) hx hb hts rz_in14 ho hK rfl (by decide) rfl (fun _ => rfl) (hw (i := 32) (j := 21) rfl rfl) (fun _ z => z) dX12_readLine_27 hk) ?_
  refine rz_All_c (i := 12) (fun k J hk hJ => rz_aload_n_ok (pc := 30) hx hb dX12_readLine_30 rfl hk) ?_
  refine rz_All_c (i := 13) (fun k J hk hJ => rz_getf_ok (pc := 31) (own := RX12) (ref := "ThreadJudgeModel") (C := RX12) (T := TX12) (N := 257) (ci := 14) (index := 591) (f := 6) (t := 0) (Ts := Cond.code yX12_readLine cX12_readLine 4 (some .boolean) :: rz_TB) hx hb hts rz_in14 ho hK rfl (by decide) rfl (fun _ => rfl) (hw (i := 33) (j := 3) rfl rfl) (fun _ z => z) dX12_readLine_31 hk) ?_
  refine rz_All_c (i := 14) (fun k J hk hJ => rz_iast_ok (pc := 34) hx hb hK hA dX12_readLine_34 hk) ?_
  refine rz_All_c (i := 15) (fun k J hk hJ => rz_aload_n_ok (pc := 35) hx hb dX12_readLine_35 rfl hk) ?_
  refine rz_All_c (i := 16) (fun k J hk hJ => rz_getf_ok (pc := 36) (own := RX12) (ref := "ThreadJudgeModel") (C := RX12) (T := TX12) (N := 257) (ci := 14) (index := 135) (f := 56) (t := 2) (Ts := Cond.code yX12_readLine cX12_readLine 4 (some .boolean) :: rz_TB) hx hb hts rz_in14 ho hK rfl (by decide) rfl (fun _ => rfl) (hw (i := 40) (j := 9) rfl rfl) (fun _ z => z) dX12_readLine_36 hk) ?_
  refine rz_All_c (i := 17) (fun k J hk hJ => rz_aload_n_ok (pc := 39) hx hb dX12_readLine_39 rfl hk) ?_
  refine rz_All_c (i := 18) (fun k J hk hJ => rz_getf_ok (pc := 40) (own := RX12) (ref := "ThreadJudgeModel") (C := RX12) (T := TX12) (N := 257) (ci := 14) (index := 718) (f := 54) (t := 0) (Ts := Cond.code yX12_readLine cX12_readLine 4 (some .boolean) :: rz_TB) hx hb hts rz_in14 ho hK rfl (by decide) rfl (fun _ => rfl) (hw (i := 32) (j := 21) rfl rfl) (fun _ z => z) dX12_readLine_40 hk) ?_
  refine rz_All_c (i := 19) (fun k J hk hJ => rz_aload_n_ok (pc := 43) hx hb dX12_readLine_43 rfl hk) ?_
  refine rz_All_c (i := 20) (fun k J hk hJ => rz_getf_ok (pc := 44) (own := RX12) (ref := "ThreadJudgeModel") (C := RX12) (T := TX12) (N := 257) (ci := 14) (index := 620) (f := 7) (t := 0) (Ts := Cond.code yX12_readLine cX12_readLine 4 (some .boolean) :: rz_TB) hx hb hts rz_in14 ho hK rfl (by decide) rfl (fun _ => rfl) (hw (i := 35) (j := 1) rfl rfl) (fun _ z => z) dX12_readLine_44 hk) ?_
  refine rz_All_c (i := 21) (fun k J hk hJ => rz_iast_ok (pc := 47) hx hb hK hA dX12_readLine_47 hk) ?_
  refine rz_All_c (i := 22) (fun k J hk hJ => rz_aload_n_ok (pc := 48) hx hb dX12_readLine_48 rfl hk) ?_
  refine rz_All_c (i := 23) (fun k J hk hJ => rz_getf_ok (pc := 49) (own := RX12) (ref := "ThreadJudgeModel") (C := RX12) (T := TX12) (N := 257) (ci := 14) (index := 138) (f := 57) (t := 2) (Ts := Cond.code yX12_readLine cX12_readLine 4 (some .boolean) :: rz_TB) hx hb hts rz_in14 ho hK rfl (by decide) rfl (fun _ => rfl) (hw (i := 40) (j := 10) rfl rfl) (fun _ z => z) dX12_readLine_49 hk) ?_
  refine rz_All_c (i := 24) (fun k J hk hJ => rz_aload_n_ok (pc := 52) hx hb dX12_readLine_52 rfl hk) ?_
  refine rz_All_c (i := 25) (fun k J hk hJ => rz_getf_ok (pc := 53) (own := RX12) (ref := "ThreadJudgeModel") (C := RX12) (T := TX12) (N := 257) (ci := 14) (index := 718) (f := 54) (t := 0) (Ts := Cond.code yX12_readLine cX12_readLine 4 (some .boolean) :: rz_TB) hx hb hts rz_in14 ho hK rfl (by decide) rfl (fun _ => rfl) (hw (i := 32) (j := 21) rfl rfl) (fun _ z => z) dX12_readLine_53 hk) ?_
  refine rz_All_c (i := 26) (fun k J hk hJ => rz_aload_n_ok (pc := 56) hx hb dX12_readLine_56 rfl hk) ?_
  refine rz_All_c (i := 27) (fun k J hk hJ => rz_getf_ok (pc := 57) (own := RX12) (ref := "ThreadJudgeModel") (C := RX12) (T := TX12) (N := 257) (ci := 14) (index := 706) (f := 43) (t := 0) (Ts := Cond.code yX12_readLine cX12_readLine 4 (some .boolean) :: rz_TB) hx hb hts rz_in14 ho hK rfl (by decide) rfl (fun _ => rfl) (hw (i := 32) (j := 20) rfl rfl) (fun _ z => z) dX12_readLine_57 hk) ?_
  refine rz_All_c (i := 28) (fun k J hk hJ => rz_iast_ok (pc := 60) hx hb hK hA dX12_readLine_60 hk) ?_
  refine rz_All_c (i := 29) (fun k J hk hJ => rz_aload_n_ok (pc := 61) hx hb dX12_readLine_61 rfl hk) ?_
  refine rz_All_c (i := 30) (fun k J hk hJ => rz_getf_ok (pc := 62) (own := RX12) (ref := "ThreadJudgeModel") (C := RX12) (T := TX12) (N := 257) (ci := 14) (index := 141) (f := 58) (t := 2) (Ts := Cond.code yX12_readLine cX12_readLine 4 (some .boolean) :: rz_TB) hx hb hts rz_in14 ho hK rfl (by decide) rfl (fun _ => rfl) (hw (i := 40) (j := 11) rfl rfl) (fun _ z => z) dX12_readLine_62 hk) ?_
  refine rz_All_c (i := 31) (fun k J hk hJ => rz_aload_n_ok (pc := 65) hx hb dX12_readLine_65 rfl hk) ?_
  refine rz_All_c (i := 32) (fun k J hk hJ => rz_getf_ok (pc := 66) (own := RX12) (ref := "ThreadJudgeModel") (C := RX12) (T := TX12) (N := 257) (ci := 14) (index := 718) (f := 54) (t := 0) (Ts := Cond.code yX12_readLine cX12_readLine 4 (some .boolean) :: rz_TB) hx hb hts rz_in14 ho hK rfl (by decide) rfl (fun _ => rfl) (hw (i := 32) (j := 21) rfl rfl) (fun _ z => z) dX12_readLine_66 hk) ?_
  refine rz_All_c (i := 33) (fun k J hk hJ => rz_iload_n_ok (pc := 69) hx hb dX12_readLine_69 rfl hk) ?_
  refine rz_All_c (i := 34) (fun k J hk hJ => rz_iast_ok (pc := 70) hx hb hK hA dX12_readLine_70 hk) ?_
  refine rz_All_c (i := 35) (fun k J hk hJ => rz_aload_n_ok (pc := 71) hx hb dX12_readLine_71 rfl hk) ?_
  refine rz_All_c (i := 36) (fun k J hk hJ => rz_dup_ok (pc := 72) hx hb dX12_readLine_72 hk) ?_
  refine rz_All_c (i := 37) (fun k J hk hJ => rz_getf_ok (pc := 73) (own := RX12) (ref := "ThreadJudgeModel") (C := RX12) (T := TX12) (N := 257) (ci := 14) (index := 718) (f := 54) (t := 0) (Ts := Cond.code yX12_readLine cX12_readLine 4 (some .boolean) :: rz_TB) hx hb hts rz_in14 ho hK rfl (by decide) rfl (fun _ => rfl) (hw (i := 32) (j := 21) rfl rfl) (fun _ z => z) dX12_readLine_73 hk) ?_
  refine rz_All_c (i := 38) (fun k J hk hJ => rz_iconst_ok (pc := 76) hx hb dX12_readLine_76 rfl hk) ?_
  refine rz_All_c (i := 39) (fun k J hk hJ => rz_iadd_ok (pc := 77) hx hb dX12_readLine_77 hk) ?_
  refine rz_All_c (i := 40) (fun k J hk hJ => rz_putf_ok (pc := 78) (own := RX12) (ref := "ThreadJudgeModel") (C := RX12) (T := TX12) (N := 257) (ci := 14) (index := 718) (f := 54) (t := 0) (Ts := Cond.code yX12_readLine cX12_readLine 4 (some .boolean) :: rz_TB) hx hb hts rz_in14 tyX12 tyX12_ok nmX12 ho hK hA rfl (by decide) rfl (rz_UnI _) rfl (tyX12_ok 54 (by decide)) (hw (i := 32) (j := 21) rfl rfl) (fun _ z => z) dX12_readLine_78 hk) ?_
  refine rz_All_c (i := 41) (fun k J hk hJ => rz_aload_n_ok (pc := 81) hx hb dX12_readLine_81 rfl hk) ?_
  refine rz_All_c (i := 42) (fun k J hk hJ => rz_callVv_ok (pc := 82) (own := RX12) (C := RX12) (T0 := TX12) (N0 := 257) hC rfl (rmX12_next l hG) (rz_cwV 0 hC rz_good (rz_mem (i := 34) (j := 21) rfl rfl) (rz_mem (i := 34) (j := 22) rfl rfl) (rz_mem (i := 34) (j := 23) rfl rfl) (rz_mem (i := 32) (j := 8) rfl rfl) (rz_mem (i := 35) (j := 0) rfl rfl) ⟨rfl, by decide, by decide, by decide +kernel⟩ rfl rfl ⟨by decide, by decide⟩) rfl dX12_readLine_82 hk) ?_
  refine rz_All_c (i := 43) (fun k J hk hJ => rz_aload_n_ok (pc := 85) hx hb dX12_readLine_85 rfl hk) ?_
  refine rz_All_c (i := 44) (fun k J hk hJ => rz_bipush_ok (pc := 86) hx hb dX12_readLine_86 (by decide) hk) ?_
  refine rz_All_c (i := 45) (fun k J hk hJ => rz_callV_ok (pc := 88) (own := RX12) (C := RX12) (T0 := TX12) (N0 := 257) hC rfl (rmX12_sign l hG) (rz_cwV 1 hC rz_good (rz_mem (i := 38) (j := 12) rfl rfl) (rz_mem (i := 38) (j := 13) rfl rfl) (rz_mem (i := 38) (j := 14) rfl rfl) (rz_mem (i := 32) (j := 8) rfl rfl) (rz_mem (i := 38) (j := 15) rfl rfl) ⟨rfl, by decide, by decide, by decide +kernel⟩ rfl rfl ⟨by decide, by decide⟩) rfl dX12_readLine_88 hk) ?_
  refine rz_All_c (i := 46) (fun k J hk hJ => rz_zret_ok (pc := 91) hC dX12_readLine_91) ?_
  refine rz_All_c (i := 47) (fun k J hk hJ => rz_aload_n_ok (pc := 92) hx hb dX12_readLine_92 rfl hk) ?_
  refine rz_All_c (i := 48) (fun k J hk hJ => rz_getf_ok (pc := 93) (own := RX12) (ref := "ThreadJudgeModel") (C := RX12) (T := TX12) (N := 257) (ci := 14) (index := 588) (f := 5) (t := 0) (Ts := Cond.code yX12_readLine cX12_readLine 4 (some .boolean) :: rz_TB) hx hb hts rz_in14 ho hK rfl (by decide) rfl (fun _ => rfl) (hw (i := 33) (j := 2) rfl rfl) (fun _ z => z) dX12_readLine_93 hk) ?_
  refine rz_All_c (i := 49) (fun k J hk hJ => rz_iconst_ok (pc := 96) hx hb dX12_readLine_96 rfl hk) ?_
  refine rz_All_c (i := 50) (fun k J hk hJ => rz_icmpne_ok (pc := 97) hx hb dX12_readLine_97 rfl hk (hJ 59)) ?_
  refine rz_All_c (i := 51) (fun k J hk hJ => rz_aload_n_ok (pc := 100) hx hb dX12_readLine_100 rfl hk) ?_
  refine rz_All_c (i := 52) (fun k J hk hJ => rz_ldcwS_ok (pc := 101) (i := 12) hx hb (hSt.2.1 ("ThreadJudgeModel", 657, "push string null load store inc add sub mul div rem neg and or xor shl shr pop dup under swap goto ifeq ifne iflt ifge ifgt ifle cmpeq cmpne cmplt cmpge cmpgt cmple same other ifnull ifsome get put getstatic putstatic new array element setelement length cast is virtual special call lambda enter exit throw return give ", 12) (List.mem_of_getElem? (i := 13) rfl)) ho dX12_readLine_101 hk) ?_
  refine rz_All_c (i := 53) (fun k J hk hJ => rz_aload_n_ok (pc := 104) hx hb dX12_readLine_104 rfl hk) ?_
  refine rz_All_c (i := 54) (fun k J hk hJ => rz_getf_ok (pc := 105) (own := RX12) (ref := "ThreadJudgeModel") (C := RX12) (T := TX12) (N := 257) (ci := 14) (index := 591) (f := 6) (t := 0) (Ts := Cond.code yX12_readLine cX12_readLine 4 (some .boolean) :: rz_TB) hx hb hts rz_in14 ho hK rfl (by decide) rfl (fun _ => rfl) (hw (i := 33) (j := 3) rfl rfl) (fun _ z => z) dX12_readLine_105 hk) ?_
  refine rz_All_c (i := 55) (fun k J hk hJ => rz_aload_n_ok (pc := 108) hx hb dX12_readLine_108 rfl hk) ?_
  refine rz_All_c (i := 56) (fun k J hk hJ => rz_getf_ok (pc := 109) (own := RX12) (ref := "ThreadJudgeModel") (C := RX12) (T := TX12) (N := 257) (ci := 14) (index := 620) (f := 7) (t := 0) (Ts := Cond.code yX12_readLine cX12_readLine 4 (some .boolean) :: rz_TB) hx hb hts rz_in14 ho hK rfl (by decide) rfl (fun _ => rfl) (hw (i := 35) (j := 1) rfl rfl) (fun _ z => z) dX12_readLine_109 hk) ?_
  refine rz_All_c (i := 57) (fun k J hk hJ => rz_callV_ok (pc := 112) (own := RX12) (C := RX12) (T0 := TX12) (N0 := 257) hC rfl (rmX12_wordOf l hG) (rz_cwV 3 hC rz_good (rz_mem (i := 37) (j := 4) rfl rfl) (rz_mem (i := 37) (j := 5) rfl rfl) (rz_mem (i := 37) (j := 6) rfl rfl) (rz_mem (i := 32) (j := 8) rfl rfl) (rz_mem (i := 37) (j := 7) rfl rfl) ⟨rfl, by decide, by decide, by decide +kernel⟩ rfl rfl ⟨by decide, by decide⟩) rfl dX12_readLine_112 hk) ?_
  refine rz_All_c (i := 58) (fun k J hk hJ => rz_goto_ok (pc := 115) hx hb dX12_readLine_115 rfl (hJ 60)) ?_
  refine rz_All_c (i := 59) (fun k J hk hJ => rz_no_ok) ?_
  refine rz_All_c (i := 60) (fun k J hk hJ => rz_istore_n_ok (pc := 119) hx hb dX12_readLine_119 rfl hk) ?_
  refine rz_All_c (i := 61) (fun k J hk hJ => rz_aload_n_ok (pc := 120) hx hb dX12_readLine_120 rfl hk) ?_
  refine rz_All_c (i := 62) (fun k J hk hJ => rz_iload_n_ok (pc := 121) hx hb dX12_readLine_121 rfl hk) ?_
  refine rz_All_c (i := 63) (fun k J hk hJ => rz_iconst_ok (pc := 122) hx hb dX12_readLine_122 rfl hk) ?_
  refine rz_All_c (i := 64) (fun k J hk hJ => rz_icmpeq_ok (pc := 123) hx hb dX12_readLine_123 rfl hk (hJ 67)) ?_
  refine rz_All_c (i := 65) (fun k J hk hJ => rz_iconst_ok (pc := 126) hx hb dX12_readLine_126 rfl hk) ?_
  refine rz_All_c (i := 66) (fun k J hk hJ => rz_goto_ok (pc := 127) hx hb dX12_readLine_127 rfl (hJ 68)) ?_
  refine rz_All_c (i := 67) (fun k J hk hJ => rz_no_ok) ?_
  refine rz_All_c (i := 68) (fun k J hk hJ => rz_callV_ok (pc := 131) (own := RX12) (C := RX12) (T0 := TX12) (N0 := 257) hC rfl (rmX12_can l hG) (rz_cwV 1 hC rz_good (rz_mem (i := 37) (j := 16) rfl rfl) (rz_mem (i := 37) (j := 17) rfl rfl) (rz_mem (i := 37) (j := 18) rfl rfl) (rz_mem (i := 32) (j := 8) rfl rfl) (rz_mem (i := 37) (j := 19) rfl rfl) ⟨rfl, by decide, by decide, by decide +kernel⟩ rfl rfl ⟨by decide, by decide⟩) rfl dX12_readLine_131 hk) ?_
  refine rz_All_c (i := 69) (fun k J hk hJ => rz_ifne_ok (pc := 134) hx hb dX12_readLine_134 rfl hk (hJ 71)) ?_
  refine rz_All_c (i := 70) (fun k J hk hJ => rz_no_ok) ?_
  refine rz_All_c (i := 71) (fun k J hk hJ => rz_iload_n_ok (pc := 139) hx hb dX12_readLine_139 rfl hk) ?_
  refine rz_All_c (i := 72) (fun k J hk hJ => rz_bipush_ok (pc := 140) hx hb dX12_readLine_140 (by decide) hk) ?_
  refine rz_All_c (i := 73) (fun k J hk hJ => rz_icmpeq_ok (pc := 142) hx hb dX12_readLine_142 rfl hk (hJ 80)) ?_
  refine rz_All_c (i := 74) (fun k J hk hJ => rz_iload_n_ok (pc := 145) hx hb dX12_readLine_145 rfl hk) ?_
  refine rz_All_c (i := 75) (fun k J hk hJ => rz_bipush_ok (pc := 146) hx hb dX12_readLine_146 (by decide) hk) ?_
  refine rz_All_c (i := 76) (fun k J hk hJ => rz_icmpeq_ok (pc := 148) hx hb dX12_readLine_148 rfl hk (hJ 80)) ?_
  refine rz_All_c (i := 77) (fun k J hk hJ => rz_iload_n_ok (pc := 151) hx hb dX12_readLine_151 rfl hk) ?_
  refine rz_All_c (i := 78) (fun k J hk hJ => rz_bipush_ok (pc := 152) hx hb dX12_readLine_152 (by decide) hk) ?_
  refine rz_All_c (i := 79) (fun k J hk hJ => rz_icmpne_ok (pc := 154) hx hb dX12_readLine_154 rfl hk (hJ 81)) ?_
  refine rz_All_c (i := 80) (fun k J hk hJ => rz_no_ok) ?_
  refine rz_All_c (i := 81) (fun k J hk hJ => rz_iconst_ok (pc := 161) hx hb dX12_readLine_161 rfl hk) ?_
  refine rz_All_c (i := 82) (fun k J hk hJ => rz_istore_n_ok (pc := 162) hx hb dX12_readLine_162 rfl hk) ?_
  refine rz_All_c (i := 83) (fun k J hk hJ => rz_aload_n_ok (pc := 163) hx hb dX12_readLine_163 rfl hk) ?_
  refine rz_All_c (i := 84) (fun k J hk hJ => rz_getf_ok (pc := 164) (own := RX12) (ref := "ThreadJudgeModel") (C := RX12) (T := TX12) (N := 257) (ci := 14) (index := 706) (f := 43) (t := 0) (Ts := Cond.code yX12_readLine cX12_readLine 4 (some .boolean) :: rz_TB) hx hb hts rz_in14 ho hK rfl (by decide) rfl (fun _ => rfl) (hw (i := 32) (j := 20) rfl rfl) (fun _ z => z) dX12_readLine_164 hk) ?_
  refine rz_All_c (i := 85) (fun k J hk hJ => rz_sipush_ok (pc := 167) hx hb dX12_readLine_167 (by decide) hk) ?_
  refine rz_All_c (i := 86) (fun k J hk hJ => rz_icmpeq_ok (pc := 170) hx hb dX12_readLine_170 rfl hk (hJ 99)) ?_
  refine rz_All_c (i := 87) (fun k J hk hJ => rz_aload_n_ok (pc := 173) hx hb dX12_readLine_173 rfl hk) ?_
  refine rz_All_c (i := 88) (fun k J hk hJ => rz_getf_ok (pc := 174) (own := RX12) (ref := "ThreadJudgeModel") (C := RX12) (T := TX12) (N := 257) (ci := 14) (index := 706) (f := 43) (t := 0) (Ts := Cond.code yX12_readLine cX12_readLine 4 (some .boolean) :: rz_TB) hx hb hts rz_in14 ho hK rfl (by decide) rfl (fun _ => rfl) (hw (i := 32) (j := 20) rfl rfl) (fun _ z => z) dX12_readLine_174 hk) ?_
  refine rz_All_c (i := 89) (fun k J hk hJ => rz_aload_n_ok (pc := 177) hx hb dX12_readLine_177 rfl hk) ?_
  refine rz_All_c (i := 90) (fun k J hk hJ => rz_getf_ok (pc := 178) (own := RX12) (ref := "ThreadJudgeModel") (C := RX12) (T := TX12) (N := 257) (ci := 14) (index := 87) (f := 38) (t := 2) (Ts := Cond.code yX12_readLine cX12_readLine 4 (some .boolean) :: rz_TB) hx hb hts rz_in14 ho hK rfl (by decide) rfl (fun _ => rfl) (hw (i := 39) (j := 20) rfl rfl) (fun _ z => z) dX12_readLine_178 hk) ?_
  refine rz_All_c (i := 91) (fun k J hk hJ => rz_iload_n_ok (pc := 181) hx hb dX12_readLine_181 rfl hk) ?_
  refine rz_All_c (i := 92) (fun k J hk hJ => rz_iald_ok (pc := 182) hx hb hK dX12_readLine_182 hk) ?_
  refine rz_All_c (i := 93) (fun k J hk hJ => rz_isub_ok (pc := 183) hx hb dX12_readLine_183 hk) ?_
  refine rz_All_c (i := 94) (fun k J hk hJ => rz_bipush_ok (pc := 184) hx hb dX12_readLine_184 (by decide) hk) ?_
  refine rz_All_c (i := 95) (fun k J hk hJ => rz_icmpeq_ok (pc := 186) hx hb dX12_readLine_186 rfl hk (hJ 99)) ?_
  refine rz_All_c (i := 96) (fun k J hk hJ => rz_iload_n_ok (pc := 189) hx hb dX12_readLine_189 rfl hk) ?_
  refine rz_All_c (i := 97) (fun k J hk hJ => rz_ifeq_ok (pc := 190) hx hb dX12_readLine_190 rfl hk (hJ 100)) ?_
  refine rz_All_c (i := 98) (fun k J hk hJ => rz_no_ok) ?_
  refine rz_All_c (i := 99) (fun k J hk hJ => rz_no_ok) ?_
  refine rz_All_c (i := 100) (fun k J hk hJ => rz_aload_n_ok (pc := 207) hx hb dX12_readLine_207 rfl hk) ?_
  refine rz_All_c (i := 101) (fun k J hk hJ => rz_iload_n_ok (pc := 208) hx hb dX12_readLine_208 rfl hk) ?_
  refine rz_All_c (i := 102) (fun k J hk hJ => rz_ifeq_ok (pc := 209) hx hb dX12_readLine_209 rfl hk (hJ 104)) ?_
  refine rz_All_c (i := 103) (fun k J hk hJ => rz_no_ok) ?_
  refine rz_All_c (i := 104) (fun k J hk hJ => rz_aload_n_ok (pc := 228) hx hb dX12_readLine_228 rfl hk) ?_
  refine rz_All_c (i := 105) (fun k J hk hJ => rz_getf_ok (pc := 229) (own := RX12) (ref := "ThreadJudgeModel") (C := RX12) (T := TX12) (N := 257) (ci := 14) (index := 721) (f := 65) (t := 0) (Ts := Cond.code yX12_readLine cX12_readLine 4 (some .boolean) :: rz_TB) hx hb hts rz_in14 ho hK rfl (by decide) rfl (fun _ => rfl) (hw (i := 32) (j := 23) rfl rfl) (fun _ z => z) dX12_readLine_229 hk) ?_
  refine rz_All_c (i := 106) (fun k J hk hJ => rz_putf_ok (pc := 232) (own := RX12) (ref := "ThreadJudgeModel") (C := RX12) (T := TX12) (N := 257) (ci := 14) (index := 721) (f := 65) (t := 0) (Ts := Cond.code yX12_readLine cX12_readLine 4 (some .boolean) :: rz_TB) hx hb hts rz_in14 tyX12 tyX12_ok nmX12 ho hK hA rfl (by decide) rfl (rz_UnI _) rfl (tyX12_ok 65 (by decide)) (hw (i := 32) (j := 23) rfl rfl) (fun _ z => z) dX12_readLine_232 hk) ?_
  refine rz_All_c (i := 107) (fun k J hk hJ => rz_aload_n_ok (pc := 235) hx hb dX12_readLine_235 rfl hk) ?_
  refine rz_All_c (i := 108) (fun k J hk hJ => rz_getf_ok (pc := 236) (own := RX12) (ref := "ThreadJudgeModel") (C := RX12) (T := TX12) (N := 257) (ci := 14) (index := 102) (f := 44) (t := 2) (Ts := Cond.code yX12_readLine cX12_readLine 4 (some .boolean) :: rz_TB) hx hb hts rz_in14 ho hK rfl (by decide) rfl (fun _ => rfl) (hw (i := 40) (j := 12) rfl rfl) (fun _ z => z) dX12_readLine_236 hk) ?_
  refine rz_All_c (i := 109) (fun k J hk hJ => rz_aload_n_ok (pc := 239) hx hb dX12_readLine_239 rfl hk) ?_
  refine rz_All_c (i := 110) (fun k J hk hJ => rz_getf_ok (pc := 240) (own := RX12) (ref := "ThreadJudgeModel") (C := RX12) (T := TX12) (N := 257) (ci := 14) (index := 706) (f := 43) (t := 0) (Ts := Cond.code yX12_readLine cX12_readLine 4 (some .boolean) :: rz_TB) hx hb hts rz_in14 ho hK rfl (by decide) rfl (fun _ => rfl) (hw (i := 32) (j := 20) rfl rfl) (fun _ z => z) dX12_readLine_240 hk) ?_
  refine rz_All_c (i := 111) (fun k J hk hJ => rz_iload_n_ok (pc := 243) hx hb dX12_readLine_243 rfl hk) ?_
  refine rz_All_c (i := 112) (fun k J hk hJ => rz_iast_ok (pc := 244) hx hb hK hA dX12_readLine_244 hk) ?_
  refine rz_All_c (i := 113) (fun k J hk hJ => rz_aload_n_ok (pc := 245) hx hb dX12_readLine_245 rfl hk) ?_
  refine rz_All_c (i := 114) (fun k J hk hJ => rz_getf_ok (pc := 246) (own := RX12) (ref := "ThreadJudgeModel") (C := RX12) (T := TX12) (N := 257) (ci := 14) (index := 105) (f := 45) (t := 2) (Ts := Cond.code yX12_readLine cX12_readLine 4 (some .boolean) :: rz_TB) hx hb hts rz_in14 ho hK rfl (by decide) rfl (fun _ => rfl) (hw (i := 40) (j := 13) rfl rfl) (fun _ z => z) dX12_readLine_246 hk) ?_
  refine rz_All_c (i := 115) (fun k J hk hJ => rz_aload_n_ok (pc := 249) hx hb dX12_readLine_249 rfl hk) ?_
  refine rz_All_c (i := 116) (fun k J hk hJ => rz_getf_ok (pc := 250) (own := RX12) (ref := "ThreadJudgeModel") (C := RX12) (T := TX12) (N := 257) (ci := 14) (index := 706) (f := 43) (t := 0) (Ts := Cond.code yX12_readLine cX12_readLine 4 (some .boolean) :: rz_TB) hx hb hts rz_in14 ho hK rfl (by decide) rfl (fun _ => rfl) (hw (i := 32) (j := 20) rfl rfl) (fun _ z => z) dX12_readLine_250 hk) ?_
  refine rz_All_c (i := 117) (fun k J hk hJ => rz_aload_n_ok (pc := 253) hx hb dX12_readLine_253 rfl hk) ?_
  refine rz_All_c (i := 118) (fun k J hk hJ => rz_getf_ok (pc := 254) (own := RX12) (ref := "ThreadJudgeModel") (C := RX12) (T := TX12) (N := 257) (ci := 14) (index := 591) (f := 6) (t := 0) (Ts := Cond.code yX12_readLine cX12_readLine 4 (some .boolean) :: rz_TB) hx hb hts rz_in14 ho hK rfl (by decide) rfl (fun _ => rfl) (hw (i := 33) (j := 3) rfl rfl) (fun _ z => z) dX12_readLine_254 hk) ?_
  refine rz_All_c (i := 119) (fun k J hk hJ => rz_iast_ok (pc := 257) hx hb hK hA dX12_readLine_257 hk) ?_
  refine rz_All_c (i := 120) (fun k J hk hJ => rz_aload_n_ok (pc := 258) hx hb dX12_readLine_258 rfl hk) ?_
  refine rz_All_c (i := 121) (fun k J hk hJ => rz_getf_ok (pc := 259) (own := RX12) (ref := "ThreadJudgeModel") (C := RX12) (T := TX12) (N := 257) (ci := 14) (index := 108) (f := 46) (t := 2) (Ts := Cond.code yX12_readLine cX12_readLine 4 (some .boolean) :: rz_TB) hx hb hts rz_in14 ho hK rfl (by decide) rfl (fun _ => rfl) (hw (i := 40) (j := 14) rfl rfl) (fun _ z => z) dX12_readLine_259 hk) ?_
  refine rz_All_c (i := 122) (fun k J hk hJ => rz_aload_n_ok (pc := 262) hx hb dX12_readLine_262 rfl hk) ?_
  refine rz_All_c (i := 123) (fun k J hk hJ => rz_getf_ok (pc := 263) (own := RX12) (ref := "ThreadJudgeModel") (C := RX12) (T := TX12) (N := 257) (ci := 14) (index := 706) (f := 43) (t := 0) (Ts := Cond.code yX12_readLine cX12_readLine 4 (some .boolean) :: rz_TB) hx hb hts rz_in14 ho hK rfl (by decide) rfl (fun _ => rfl) (hw (i := 32) (j := 20) rfl rfl) (fun _ z => z) dX12_readLine_263 hk) ?_
  refine rz_All_c (i := 124) (fun k J hk hJ => rz_iload_n_ok (pc := 266) hx hb dX12_readLine_266 rfl hk) ?_
  refine rz_All_c (i := 125) (fun k J hk hJ => rz_iast_ok (pc := 267) hx hb hK hA dX12_readLine_267 hk) ?_
  refine rz_All_c (i := 126) (fun k J hk hJ => rz_aload_n_ok (pc := 268) hx hb dX12_readLine_268 rfl hk) ?_
  refine rz_All_c (i := 127) (fun k J hk hJ => rz_callVv_ok (pc := 269) (own := RX12) (C := RX12) (T0 := TX12) (N0 := 257) hC rfl (rmX12_next l hG) (rz_cwV 0 hC rz_good (rz_mem (i := 34) (j := 21) rfl rfl) (rz_mem (i := 34) (j := 22) rfl rfl) (rz_mem (i := 34) (j := 23) rfl rfl) (rz_mem (i := 32) (j := 8) rfl rfl) (rz_mem (i := 35) (j := 0) rfl rfl) ⟨rfl, by decide, by decide, by decide +kernel⟩ rfl rfl ⟨by decide, by decide⟩) rfl dX12_readLine_269 hk) ?_
  refine rz_All_c (i := 128) (fun k J hk hJ => rz_aload_n_ok (pc := 272) hx hb dX12_readLine_272 rfl hk) ?_
  refine rz_All_c (i := 129) (fun k J hk hJ => rz_dup_ok (pc := 273) hx hb dX12_readLine_273 hk) ?_
  refine rz_All_c (i := 130) (fun k J hk hJ => rz_getf_ok (pc := 274) (own := RX12) (ref := "ThreadJudgeModel") (C := RX12) (T := TX12) (N := 257) (ci := 14) (index := 706) (f := 43) (t := 0) (Ts := Cond.code yX12_readLine cX12_readLine 4 (some .boolean) :: rz_TB) hx hb hts rz_in14 ho hK rfl (by decide) rfl (fun _ => rfl) (hw (i := 32) (j := 20) rfl rfl) (fun _ z => z) dX12_readLine_274 hk) ?_
  refine rz_All_c (i := 131) (fun k J hk hJ => rz_iconst_ok (pc := 277) hx hb dX12_readLine_277 rfl hk) ?_
  refine rz_All_c (i := 132) (fun k J hk hJ => rz_iadd_ok (pc := 278) hx hb dX12_readLine_278 hk) ?_
  refine rz_All_c (i := 133) (fun k J hk hJ => rz_putf_ok (pc := 279) (own := RX12) (ref := "ThreadJudgeModel") (C := RX12) (T := TX12) (N := 257) (ci := 14) (index := 706) (f := 43) (t := 0) (Ts := Cond.code yX12_readLine cX12_readLine 4 (some .boolean) :: rz_TB) hx hb hts rz_in14 tyX12 tyX12_ok nmX12 ho hK hA rfl (by decide) rfl (rz_UnI _) rfl (tyX12_ok 43 (by decide)) (hw (i := 32) (j := 20) rfl rfl) (fun _ z => z) dX12_readLine_279 hk) ?_
  refine rz_All_c (i := 134) (fun k J hk hJ => rz_aload_n_ok (pc := 282) hx hb dX12_readLine_282 rfl hk) ?_
  refine rz_All_c (i := 135) (fun k J hk hJ => rz_aload_n_ok (pc := 283) hx hb dX12_readLine_283 rfl hk) ?_
  refine rz_All_c (i := 136) (fun k J hk hJ => rz_getf_ok (pc := 284) (own := RX12) (ref := "ThreadJudgeModel") (C := RX12) (T := TX12) (N := 257) (ci := 14) (index := 706) (f := 43) (t := 0) (Ts := Cond.code yX12_readLine cX12_readLine 4 (some .boolean) :: rz_TB) hx hb hts rz_in14 ho hK rfl (by decide) rfl (fun _ => rfl) (hw (i := 32) (j := 20) rfl rfl) (fun _ z => z) dX12_readLine_284 hk) ?_
  refine rz_All_c (i := 137) (fun k J hk hJ => rz_iconst_ok (pc := 287) hx hb dX12_readLine_287 rfl hk) ?_
  refine rz_All_c (i := 138) (fun k J hk hJ => rz_isub_ok (pc := 288) hx hb dX12_readLine_288 hk) ?_
  refine rz_All_c (i := 139) (fun k J hk hJ => rz_callV_ok (pc := 289) (own := RX12) (C := RX12) (T0 := TX12) (N0 := 257) hC rfl (rmX12_readWanted l hG) (rz_cwV 1 hC rz_good (rz_mem (i := 40) (j := 22) rfl rfl) (rz_mem (i := 40) (j := 23) rfl rfl) (rz_mem (i := 41) (j := 0) rfl rfl) (rz_mem (i := 32) (j := 8) rfl rfl) (rz_mem (i := 41) (j := 1) rfl rfl) ⟨rfl, by decide, by decide, by decide +kernel⟩ rfl rfl ⟨by decide, by decide⟩) rfl dX12_readLine_289 hk) ?_
  refine rz_All_c (i := 140) (fun k J hk hJ => rz_ifeq_ok (pc := 292) hx hb dX12_readLine_292 rfl hk (hJ 147)) ?_
  refine rz_All_c (i := 141) (fun k J hk hJ => rz_aload_n_ok (pc := 295) hx hb dX12_readLine_295 rfl hk) ?_
  refine rz_All_c (i := 142) (fun k J hk hJ => rz_bipush_ok (pc := 296) hx hb dX12_readLine_296 (by decide) hk) ?_
  refine rz_All_c (i := 143) (fun k J hk hJ => rz_callV_ok (pc := 298) (own := RX12) (C := RX12) (T0 := TX12) (N0 := 257) hC rfl (rmX12_sign l hG) (rz_cwV 1 hC rz_good (rz_mem (i := 38) (j := 12) rfl rfl) (rz_mem (i := 38) (j := 13) rfl rfl) (rz_mem (i := 38) (j := 14) rfl rfl) (rz_mem (i := 32) (j := 8) rfl rfl) (rz_mem (i := 38) (j := 15) rfl rfl) ⟨rfl, by decide, by decide, by decide +kernel⟩ rfl rfl ⟨by decide, by decide⟩) rfl dX12_readLine_298 hk) ?_
  refine rz_All_c (i := 144) (fun k J hk hJ => rz_ifeq_ok (pc := 301) hx hb dX12_readLine_301 rfl hk (hJ 147)) ?_
  refine rz_All_c (i := 145) (fun k J hk hJ => rz_iconst_ok (pc := 304) hx hb dX12_readLine_304 rfl hk) ?_
  refine rz_All_c (i := 146) (fun k J hk hJ => rz_goto_ok (pc := 305) hx hb dX12_readLine_305 rfl (hJ 148)) ?_
  refine rz_All_c (i := 147) (fun k J hk hJ => rz_no_ok) ?_
  refine rz_All_c (i := 148) (fun k J hk hJ => rz_zret_ok (pc := 309) hC dX12_readLine_309) ?_
  exact trivial
theorem dX12_readMethod_0 : decode cX12_readMethod 0 = .ok (.aload_n 0, 1) := by decide +kernel
theorem dX12_readMethod_1 : decode cX12_readMethod 1 = .ok (.aload_n 0, 1) := by decide +kernel
theorem dX12_readMethod_2 : decode cX12_readMethod 2 = .ok (.getfield 693, 3) := by decide +kernel
theorem dX12_readMethod_5 : decode cX12_readMethod 5 = .ok (.bipush 117, 2) := by decide +kernel
theorem dX12_readMethod_7 : decode cX12_readMethod 7 = .ok (.if_icmp .ne 8, 3) := by decide +kernel
theorem dX12_readMethod_15 : decode cX12_readMethod 15 = .ok (.bipush 100, 2) := by decide +kernel
theorem dX12_readMethod_17 : decode cX12_readMethod 17 = .ok (.aload_n 0, 1) := by decide +kernel
theorem dX12_readMethod_18 : decode cX12_readMethod 18 = .ok (.getfield 693, 3) := by decide +kernel
theorem dX12_readMethod_21 : decode cX12_readMethod 21 = .ok (.iadd, 1) := by decide +kernel
theorem dX12_readMethod_22 : decode cX12_readMethod 22 = .ok (.invokevirtual 681, 3) := by decide +kernel
theorem dX12_readMethod_25 : decode cX12_readMethod 25 = .ok (.ifCond .ne 5, 3) := by decide +kernel
theorem dX12_readMethod_30 : decode cX12_readMethod 30 = .ok (.aload_n 0, 1) := by decide +kernel
theorem dX12_readMethod_31 : decode cX12_readMethod 31 = .ok (.invokevirtual 659, 3) := by decide +kernel
theorem dX12_readMethod_34 : decode cX12_readMethod 34 = .ok (.ifCond .eq 17, 3) := by decide +kernel
theorem dX12_readMethod_37 : decode cX12_readMethod 37 = .ok (.aload_n 0, 1) := by decide +kernel
theorem dX12_readMethod_38 : decode cX12_readMethod 38 = .ok (.getfield 693, 3) := by decide +kernel
theorem dX12_readMethod_41 : decode cX12_readMethod 41 = .ok (.bipush 117, 2) := by decide +kernel
theorem dX12_readMethod_43 : decode cX12_readMethod 43 = .ok (.if_icmp .ne 8, 3) := by decide +kernel
theorem dX12_readMethod_51 : decode cX12_readMethod 51 = .ok (.aload_n 0, 1) := by decide +kernel
theorem dX12_readMethod_52 : decode cX12_readMethod 52 = .ok (.invokevirtual 687, 3) := by decide +kernel
theorem dX12_readMethod_55 : decode cX12_readMethod 55 = .ok (.ifCond .ne 5, 3) := by decide +kernel
theorem dX12_readMethod_60 : decode cX12_readMethod 60 = .ok (.aload_n 0, 1) := by decide +kernel
theorem dX12_readMethod_61 : decode cX12_readMethod 61 = .ok (.getfield 693, 3) := by decide +kernel
theorem dX12_readMethod_64 : decode cX12_readMethod 64 = .ok (.istore_n 3, 1) := by decide +kernel
theorem dX12_readMethod_65 : decode cX12_readMethod 65 = .ok (.aload_n 0, 1) := by decide +kernel
theorem dX12_readMethod_66 : decode cX12_readMethod 66 = .ok (.getfield 69, 3) := by decide +kernel
theorem dX12_readMethod_69 : decode cX12_readMethod 69 = .ok (.iload_n 3, 1) := by decide +kernel
theorem dX12_readMethod_70 : decode cX12_readMethod 70 = .ok (.aload_n 0, 1) := by decide +kernel
theorem dX12_readMethod_71 : decode cX12_readMethod 71 = .ok (.getfield 669, 3) := by decide +kernel
theorem dX12_readMethod_74 : decode cX12_readMethod 74 = .ok (.iastore, 1) := by decide +kernel
theorem dX12_readMethod_75 : decode cX12_readMethod 75 = .ok (.aload_n 0, 1) := by decide +kernel
theorem dX12_readMethod_76 : decode cX12_readMethod 76 = .ok (.getfield 72, 3) := by decide +kernel
theorem dX12_readMethod_79 : decode cX12_readMethod 79 = .ok (.iload_n 3, 1) := by decide +kernel
theorem dX12_readMethod_80 : decode cX12_readMethod 80 = .ok (.aload_n 0, 1) := by decide +kernel
theorem dX12_readMethod_81 : decode cX12_readMethod 81 = .ok (.getfield 672, 3) := by decide +kernel
theorem dX12_readMethod_84 : decode cX12_readMethod 84 = .ok (.iastore, 1) := by decide +kernel
theorem dX12_readMethod_85 : decode cX12_readMethod 85 = .ok (.aload_n 0, 1) := by decide +kernel
theorem dX12_readMethod_86 : decode cX12_readMethod 86 = .ok (.getfield 75, 3) := by decide +kernel
theorem dX12_readMethod_89 : decode cX12_readMethod 89 = .ok (.iload_n 3, 1) := by decide +kernel
theorem dX12_readMethod_90 : decode cX12_readMethod 90 = .ok (.iload_n 2, 1) := by decide +kernel
theorem dX12_readMethod_91 : decode cX12_readMethod 91 = .ok (.iastore, 1) := by decide +kernel
theorem dX12_readMethod_92 : decode cX12_readMethod 92 = .ok (.aload_n 0, 1) := by decide +kernel
theorem dX12_readMethod_93 : decode cX12_readMethod 93 = .ok (.getfield 78, 3) := by decide +kernel
theorem dX12_readMethod_96 : decode cX12_readMethod 96 = .ok (.iload_n 3, 1) := by decide +kernel
theorem dX12_readMethod_97 : decode cX12_readMethod 97 = .ok (.iload_n 1, 1) := by decide +kernel
theorem dX12_readMethod_98 : decode cX12_readMethod 98 = .ok (.iastore, 1) := by decide +kernel
theorem dX12_readMethod_99 : decode cX12_readMethod 99 = .ok (.aload_n 0, 1) := by decide +kernel
theorem dX12_readMethod_100 : decode cX12_readMethod 100 = .ok (.getfield 84, 3) := by decide +kernel
theorem dX12_readMethod_103 : decode cX12_readMethod 103 = .ok (.iload_n 3, 1) := by decide +kernel
theorem dX12_readMethod_104 : decode cX12_readMethod 104 = .ok (.iconst 0, 1) := by decide +kernel
theorem dX12_readMethod_105 : decode cX12_readMethod 105 = .ok (.bastore, 1) := by decide +kernel
theorem dX12_readMethod_106 : decode cX12_readMethod 106 = .ok (.aload_n 0, 1) := by decide +kernel
theorem dX12_readMethod_107 : decode cX12_readMethod 107 = .ok (.getfield 87, 3) := by decide +kernel
theorem dX12_readMethod_110 : decode cX12_readMethod 110 = .ok (.iload_n 3, 1) := by decide +kernel
theorem dX12_readMethod_111 : decode cX12_readMethod 111 = .ok (.aload_n 0, 1) := by decide +kernel
theorem dX12_readMethod_112 : decode cX12_readMethod 112 = .ok (.getfield 706, 3) := by decide +kernel
theorem dX12_readMethod_115 : decode cX12_readMethod 115 = .ok (.iastore, 1) := by decide +kernel
theorem dX12_readMethod_116 : decode cX12_readMethod 116 = .ok (.aload_n 0, 1) := by decide +kernel
theorem dX12_readMethod_117 : decode cX12_readMethod 117 = .ok (.getfield 90, 3) := by decide +kernel
theorem dX12_readMethod_120 : decode cX12_readMethod 120 = .ok (.iload_n 3, 1) := by decide +kernel
theorem dX12_readMethod_121 : decode cX12_readMethod 121 = .ok (.iconst 0, 1) := by decide +kernel
theorem dX12_readMethod_122 : decode cX12_readMethod 122 = .ok (.iastore, 1) := by decide +kernel
theorem dX12_readMethod_123 : decode cX12_readMethod 123 = .ok (.aload_n 0, 1) := by decide +kernel
theorem dX12_readMethod_124 : decode cX12_readMethod 124 = .ok (.dup, 1) := by decide +kernel
theorem dX12_readMethod_125 : decode cX12_readMethod 125 = .ok (.getfield 693, 3) := by decide +kernel
theorem dX12_readMethod_128 : decode cX12_readMethod 128 = .ok (.iconst 1, 1) := by decide +kernel
theorem dX12_readMethod_129 : decode cX12_readMethod 129 = .ok (.iadd, 1) := by decide +kernel
theorem dX12_readMethod_130 : decode cX12_readMethod 130 = .ok (.putfield 693, 3) := by decide +kernel
theorem dX12_readMethod_133 : decode cX12_readMethod 133 = .ok (.aload_n 0, 1) := by decide +kernel
theorem dX12_readMethod_134 : decode cX12_readMethod 134 = .ok (.sipush 300, 3) := by decide +kernel
theorem dX12_readMethod_137 : decode cX12_readMethod 137 = .ok (.bipush 6, 2) := by decide +kernel
theorem dX12_readMethod_139 : decode cX12_readMethod 139 = .ok (.iload_n 3, 1) := by decide +kernel
theorem dX12_readMethod_140 : decode cX12_readMethod 140 = .ok (.imul, 1) := by decide +kernel
theorem dX12_readMethod_141 : decode cX12_readMethod 141 = .ok (.iadd, 1) := by decide +kernel
theorem dX12_readMethod_142 : decode cX12_readMethod 142 = .ok (.invokevirtual 709, 3) := by decide +kernel
theorem dX12_readMethod_145 : decode cX12_readMethod 145 = .ok (.ifCond .ne 5, 3) := by decide +kernel
theorem dX12_readMethod_150 : decode cX12_readMethod 150 = .ok (.aload_n 0, 1) := by decide +kernel
theorem dX12_readMethod_151 : decode cX12_readMethod 151 = .ok (.getfield 81, 3) := by decide +kernel
theorem dX12_readMethod_154 : decode cX12_readMethod 154 = .ok (.iload_n 3, 1) := by decide +kernel
theorem dX12_readMethod_155 : decode cX12_readMethod 155 = .ok (.aload_n 0, 1) := by decide +kernel
theorem dX12_readMethod_156 : decode cX12_readMethod 156 = .ok (.getfield 675, 3) := by decide +kernel
theorem dX12_readMethod_159 : decode cX12_readMethod 159 = .ok (.iastore, 1) := by decide +kernel
theorem dX12_readMethod_160 : decode cX12_readMethod 160 = .ok (.aload_n 0, 1) := by decide +kernel
theorem dX12_readMethod_161 : decode cX12_readMethod 161 = .ok (.bipush 59, 2) := by decide +kernel
theorem dX12_readMethod_163 : decode cX12_readMethod 163 = .ok (.invokevirtual 641, 3) := by decide +kernel
theorem dX12_readMethod_166 : decode cX12_readMethod 166 = .ok (.ifCond .eq 22, 3) := by decide +kernel
theorem dX12_readMethod_169 : decode cX12_readMethod 169 = .ok (.aload_n 0, 1) := by decide +kernel
theorem dX12_readMethod_170 : decode cX12_readMethod 170 = .ok (.invokevirtual 648, 3) := by decide +kernel
theorem dX12_readMethod_173 : decode cX12_readMethod 173 = .ok (.aload_n 0, 1) := by decide +kernel
theorem dX12_readMethod_174 : decode cX12_readMethod 174 = .ok (.getfield 87, 3) := by decide +kernel
theorem dX12_readMethod_177 : decode cX12_readMethod 177 = .ok (.aload_n 0, 1) := by decide +kernel
theorem dX12_readMethod_178 : decode cX12_readMethod 178 = .ok (.getfield 693, 3) := by decide +kernel
theorem dX12_readMethod_181 : decode cX12_readMethod 181 = .ok (.aload_n 0, 1) := by decide +kernel
theorem dX12_readMethod_182 : decode cX12_readMethod 182 = .ok (.getfield 706, 3) := by decide +kernel
theorem dX12_readMethod_185 : decode cX12_readMethod 185 = .ok (.iastore, 1) := by decide +kernel
theorem dX12_readMethod_186 : decode cX12_readMethod 186 = .ok (.iconst 1, 1) := by decide +kernel
theorem dX12_readMethod_187 : decode cX12_readMethod 187 = .ok (.ireturn, 1) := by decide +kernel
theorem dX12_readMethod_188 : decode cX12_readMethod 188 = .ok (.aload_n 0, 1) := by decide +kernel
theorem dX12_readMethod_189 : decode cX12_readMethod 189 = .ok (.bipush 123, 2) := by decide +kernel
theorem dX12_readMethod_191 : decode cX12_readMethod 191 = .ok (.invokevirtual 666, 3) := by decide +kernel
theorem dX12_readMethod_194 : decode cX12_readMethod 194 = .ok (.ifCond .ne 5, 3) := by decide +kernel
theorem dX12_readMethod_199 : decode cX12_readMethod 199 = .ok (.aload_n 0, 1) := by decide +kernel
theorem dX12_readMethod_200 : decode cX12_readMethod 200 = .ok (.getfield 84, 3) := by decide +kernel
theorem dX12_readMethod_203 : decode cX12_readMethod 203 = .ok (.iload_n 3, 1) := by decide +kernel
theorem dX12_readMethod_204 : decode cX12_readMethod 204 = .ok (.iconst 1, 1) := by decide +kernel
theorem dX12_readMethod_205 : decode cX12_readMethod 205 = .ok (.bastore, 1) := by decide +kernel
theorem dX12_readMethod_206 : decode cX12_readMethod 206 = .ok (.aload_n 0, 1) := by decide +kernel
theorem dX12_readMethod_207 : decode cX12_readMethod 207 = .ok (.bipush 125, 2) := by decide +kernel
theorem dX12_readMethod_209 : decode cX12_readMethod 209 = .ok (.invokevirtual 641, 3) := by decide +kernel
theorem dX12_readMethod_212 : decode cX12_readMethod 212 = .ok (.ifCond .ne 13, 3) := by decide +kernel
theorem dX12_readMethod_215 : decode cX12_readMethod 215 = .ok (.aload_n 0, 1) := by decide +kernel
theorem dX12_readMethod_216 : decode cX12_readMethod 216 = .ok (.iload_n 3, 1) := by decide +kernel
theorem dX12_readMethod_217 : decode cX12_readMethod 217 = .ok (.invokevirtual 712, 3) := by decide +kernel
theorem dX12_readMethod_220 : decode cX12_readMethod 220 = .ok (.ifCond .ne (-14), 3) := by decide +kernel
theorem dX12_readMethod_225 : decode cX12_readMethod 225 = .ok (.aload_n 0, 1) := by decide +kernel
theorem dX12_readMethod_226 : decode cX12_readMethod 226 = .ok (.invokevirtual 648, 3) := by decide +kernel
theorem dX12_readMethod_229 : decode cX12_readMethod 229 = .ok (.aload_n 0, 1) := by decide +kernel
theorem dX12_readMethod_230 : decode cX12_readMethod 230 = .ok (.getfield 87, 3) := by decide +kernel
theorem dX12_readMethod_233 : decode cX12_readMethod 233 = .ok (.aload_n 0, 1) := by decide +kernel
theorem dX12_readMethod_234 : decode cX12_readMethod 234 = .ok (.getfield 693, 3) := by decide +kernel
theorem dX12_readMethod_237 : decode cX12_readMethod 237 = .ok (.aload_n 0, 1) := by decide +kernel
theorem dX12_readMethod_238 : decode cX12_readMethod 238 = .ok (.getfield 706, 3) := by decide +kernel
theorem dX12_readMethod_241 : decode cX12_readMethod 241 = .ok (.iastore, 1) := by decide +kernel
theorem dX12_readMethod_242 : decode cX12_readMethod 242 = .ok (.iconst 1, 1) := by decide +kernel
theorem dX12_readMethod_243 : decode cX12_readMethod 243 = .ok (.ireturn, 1) := by decide +kernel
def rpX12_readMethod : List Nat := [0, 1, 2, 5, 7, 10, 15, 17, 18, 21, 22, 25, 28, 30, 31, 34, 37, 38, 41, 43, 46, 51, 52, 55, 58, 60, 61, 64, 65, 66, 69, 70, 71, 74, 75, 76, 79, 80, 81, 84, 85, 86, 89, 90, 91, 92, 93, 96, 97, 98, 99, 100, 103, 104, 105, 106, 107, 110, 111, 112, 115, 116, 117, 120, 121, 122, 123, 124, 125, 128, 129, 130, 133, 134, 137, 139, 140, 141, 142, 145, 148, 150, 151, 154, 155, 156, 159, 160, 161, 163, 166, 169, 170, 173, 174, 177, 178, 181, 182, 185, 186, 187, 188, 189, 191, 194, 197, 199, 200, 203, 204, 205, 206, 207, 209, 212, 215, 216, 217, 220, 223, 225, 226, 229, 230, 233, 234, 237, 238, 241, 242, 243]
noncomputable def rcX12_readMethod : List rz_B := [rz_aload 0, rz_aload 0, rz_getf (Nat.add (Nat.mul 256 14) 1) 31 rz_i, rz_cst 117, rz_icmpne 6, rz_no, rz_cst 100, rz_aload 0, rz_getf (Nat.add (Nat.mul 256 14) 1) 31 rz_i, rz_iadd, rz_callV 1 (Nat.add (Nat.mul 256 14) 1) rgX12_type, rz_ifne 13, rz_no, rz_aload 0, rz_callV 0 (Nat.add (Nat.mul 256 14) 1) rgX12_isName, rz_ifeq 21, rz_aload 0, rz_getf (Nat.add (Nat.mul 256 14) 1) 31 rz_i, rz_cst 117, rz_icmpne 21, rz_no, rz_aload 0, rz_callV 0 (Nat.add (Nat.mul 256 14) 1) rgX12_name, rz_ifne 25, rz_no, rz_aload 0, rz_getf (Nat.add (Nat.mul 256 14) 1) 31 rz_i, rz_istore 3, rz_aload 0, rz_getf (Nat.add (Nat.mul 256 14) 1) 32 rz_r, rz_iload 3, rz_aload 0, rz_getf (Nat.add (Nat.mul 256 14) 1) 66 rz_i, rz_iast, rz_aload 0, rz_getf (Nat.add (Nat.mul 256 14) 1) 33 rz_r, rz_iload 3, rz_aload 0, rz_getf (Nat.add (Nat.mul 256 14) 1) 67 rz_i, rz_iast, rz_aload 0, rz_getf (Nat.add (Nat.mul 256 14) 1) 34 rz_r, rz_iload 3, rz_iload 2, rz_iast, rz_aload 0, rz_getf (Nat.add (Nat.mul 256 14) 1) 35 rz_r, rz_iload 3, rz_iload 1, rz_iast, rz_aload 0, rz_getf (Nat.add (Nat.mul 256 14) 1) 37 rz_r, rz_iload 3, rz_cst 0, rz_zast, rz_aload 0, rz_getf (Nat.add (Nat.mul 256 14) 1) 38 rz_r, rz_iload 3, rz_aload 0, rz_getf (Nat.add (Nat.mul 256 14) 1) 43 rz_i, rz_iast, rz_aload 0, rz_getf (Nat.add (Nat.mul 256 14) 1) 39 rz_r, rz_iload 3, rz_cst 0, rz_iast, rz_aload 0, rz_dup, rz_getf (Nat.add (Nat.mul 256 14) 1) 31 rz_i, rz_cst 1, rz_iadd, rz_putf (Nat.add (Nat.mul 256 14) 1) 31 rz_unI, rz_aload 0, rz_cst 300, rz_cst 6, rz_iload 3, rz_imul, rz_iadd, rz_callV 1 (Nat.add (Nat.mul 256 14) 1) rgX12_types, rz_ifne 81, rz_no, rz_aload 0, rz_getf (Nat.add (Nat.mul 256 14) 1) 36 rz_r, rz_iload 3, rz_aload 0, rz_getf (Nat.add (Nat.mul 256 14) 1) 68 rz_i, rz_iast, rz_aload 0, rz_cst 59, rz_callV 1 (Nat.add (Nat.mul 256 14) 1) rgX12_isSign, rz_ifeq 102, rz_aload 0, rz_callVv 0 (Nat.add (Nat.mul 256 14) 1) rgX12_next, rz_aload 0, rz_getf (Nat.add (Nat.mul 256 14) 1) 38 rz_r, rz_aload 0, rz_getf (Nat.add (Nat.mul 256 14) 1) 31 rz_i, rz_aload 0, rz_getf (Nat.add (Nat.mul 256 14) 1) 43 rz_i, rz_iast, rz_cst 1, rz_zret, rz_aload 0, rz_cst 123, rz_callV 1 (Nat.add (Nat.mul 256 14) 1) rgX12_sign, rz_ifne 107, rz_no, rz_aload 0, rz_getf (Nat.add (Nat.mul 256 14) 1) 37 rz_r, rz_iload 3, rz_cst 1, rz_zast, rz_aload 0, rz_cst 125, rz_callV 1 (Nat.add (Nat.mul 256 14) 1) rgX12_isSign, rz_ifne 121, rz_aload 0, rz_iload 3, rz_callV 1 (Nat.add (Nat.mul 256 14) 1) rgX12_readLine, rz_ifne 112, rz_no, rz_aload 0, rz_callVv 0 (Nat.add (Nat.mul 256 14) 1) rgX12_next, rz_aload 0, rz_getf (Nat.add (Nat.mul 256 14) 1) 38 rz_r, rz_aload 0, rz_getf (Nat.add (Nat.mul 256 14) 1) 31 rz_i, rz_aload 0, rz_getf (Nat.add (Nat.mul 256 14) 1) 43 rz_i, rz_iast, rz_cst 1, rz_zret]
noncomputable def rgX12_readMethod : rz_L → rz_M → rz_Z → Bool := rz_go rcX12_readMethod 4 1000000
def rrX12_readMethod : Room := { frames := 11, cells := 0, slots := 0, locals := 281 }
theorem rmX12_readMethod (l : Launch) {G : rz_G} (hG : rz_Gd G) (vs : rz_L) (M : rz_M) (Z : rz_Z) (hn : vs.length = 3) (h : rgX12_readMethod vs M Z = true) : Met l yX12_readMethod (Cond.code yX12_readMethod cX12_readMethod 4 (some .boolean) :: rz_TB) rrX12_readMethod (rz_Pre G vs M) (rz_Qi G M.2 Z) 0 0 (fun q => rz_b G ≤ q) := by
  obtain ⟨D, tc, ad, b, xs, rfl⟩ := id hG
  refine rz_body (pcs := rpX12_readMethod) (by decide) rfl (by rw [hn]; decide) h ?_
  intro p e R s m args below meth c hC
  obtain ⟨hx, hb, hml, hr, hlk, ho, hts, hKn, hRm⟩ := id hC
  obtain ⟨hK, hA, hSt⟩ := id hKn
  have hw : ∀ {i j : Nat} {ws : List Cond} {w : Cond}, rz_WW[i]? = some ws → ws[j]? = some w → w.before args s = true := fun h1 h2 => hts _ (List.mem_cons_of_mem _ (rz_mem h1 h2))
  refine rz_All_c (i := 0) (fun k J hk hJ => rz_aload_n_ok (pc := 0) hx hb dX12_readMethod_0 rfl hk) ?_
  refine rz_All_c (i := 1) (fun k J hk hJ => rz_aload_n_ok (pc := 1) hx hb dX12_readMethod_1 rfl hk) ?_
  refine rz_All_c (i := 2) (fun k J hk hJ => rz_getf_ok (pc := 2) (own := RX12) (ref := "ThreadJudgeModel") (C := RX12) (T := TX12) (N := 257) (ci := 14) (index := 693) (f := 31) (t := 0) (Ts := Cond.code yX12_readMethod cX12_readMethod 4 (some .boolean) :: rz_TB) hx hb hts rz_in14 ho hK rfl (by decide) rfl (fun _ => rfl) (hw (i := 32) (j := 19) rfl rfl) (fun _ z => z) dX12_readMethod_2 hk) ?_
  refine rz_All_c (i := 3) (fun k J hk hJ => rz_bipush_ok (pc := 5) hx hb dX12_readMethod_5 (by decide) hk) ?_
  refine rz_All_c (i := 4) (fun k J hk hJ => rz_icmpne_ok (pc := 7) hx hb dX12_readMethod_7 rfl hk (hJ 6)) ?_
  refine rz_All_c (i := 5) (fun k J hk hJ => rz_no_ok) ?_
  refine rz_All_c (i := 6) (fun k J hk hJ => rz_bipush_ok (pc := 15) hx hb dX12_readMethod_15 (by decide) hk) ?_
  refine rz_All_c (i := 7) (fun k J hk hJ => rz_aload_n_ok (pc := 17) hx hb dX12_readMethod_17 rfl hk) ?_
  refine rz_All_c (i := 8) (fun k J hk hJ => rz_getf_ok (pc := 18) (own := RX12) (ref := "ThreadJudgeModel") (C := RX12) (T := TX12) (N := 257) (ci := 14) (index := 693) (f := 31) (t := 0) (Ts := Cond.code yX12_readMethod cX12_readMethod 4 (some .boolean) :: rz_TB) hx hb hts rz_in14 ho hK rfl (by decide) rfl (fun _ => rfl) (hw (i := 32) (j := 19) rfl rfl) (fun _ z => z) dX12_readMethod_18 hk) ?_
  refine rz_All_c (i := 9) (fun k J hk hJ => rz_iadd_ok (pc := 21) hx hb dX12_readMethod_21 hk) ?_
  refine rz_All_c (i := 10) (fun k J hk hJ => rz_callV_ok (pc := 22) (own := RX12) (C := RX12) (T0 := TX12) (N0 := 257) hC rfl (rmX12_type l hG) (rz_cwV 1 hC rz_good (rz_mem (i := 39) (j := 4) rfl rfl) (rz_mem (i := 39) (j := 5) rfl rfl) (rz_mem (i := 39) (j := 6) rfl rfl) (rz_mem (i := 32) (j := 8) rfl rfl) (rz_mem (i := 39) (j := 7) rfl rfl) ⟨rfl, by decide, by decide, by decide +kernel⟩ rfl rfl ⟨by decide, by decide⟩) rfl dX12_readMethod_22 hk) ?_
  refine rz_All_c (i := 11) (fun k J hk hJ => rz_ifne_ok (pc := 25) hx hb dX12_readMethod_25 rfl hk (hJ 13)) ?_
  refine rz_All_c (i := 12) (fun k J hk hJ => rz_no_ok) ?_
  refine rz_All_c (i := 13) (fun k J hk hJ => rz_aload_n_ok (pc := 30) hx hb dX12_readMethod_30 rfl hk) ?_
  refine rz_All_c (i := 14) (fun k J hk hJ => rz_callV_ok (pc := 31) (own := RX12) (C := RX12) (T0 := TX12) (N0 := 257) hC rfl (rmX12_isName l hG) (rz_cwV 0 hC rz_good (rz_mem (i := 37) (j := 20) rfl rfl) (rz_mem (i := 37) (j := 21) rfl rfl) (rz_mem (i := 37) (j := 22) rfl rfl) (rz_mem (i := 32) (j := 8) rfl rfl) (rz_mem (i := 37) (j := 23) rfl rfl) ⟨rfl, by decide, by decide, by decide +kernel⟩ rfl rfl ⟨by decide, by decide⟩) rfl dX12_readMethod_31 hk) ?_
  refine rz_All_c (i := 15) (fun k J hk hJ => rz_ifeq_ok (pc := 34) hx hb dX12_readMethod_34 rfl hk (hJ 21)) ?_
  refine rz_All_c (i := 16) (fun k J hk hJ => rz_aload_n_ok (pc := 37) hx hb dX12_readMethod_37 rfl hk) ?_
  refine rz_All_c (i := 17) (fun k J hk hJ => rz_getf_ok (pc := 38) (own := RX12) (ref := "ThreadJudgeModel") (C := RX12) (T := TX12) (N := 257) (ci := 14) (index := 693) (f := 31) (t := 0) (Ts := Cond.code yX12_readMethod cX12_readMethod 4 (some .boolean) :: rz_TB) hx hb hts rz_in14 ho hK rfl (by decide) rfl (fun _ => rfl) (hw (i := 32) (j := 19) rfl rfl) (fun _ z => z) dX12_readMethod_38 hk) ?_
  refine rz_All_c (i := 18) (fun k J hk hJ => rz_bipush_ok (pc := 41) hx hb dX12_readMethod_41 (by decide) hk) ?_
  refine rz_All_c (i := 19) (fun k J hk hJ => rz_icmpne_ok (pc := 43) hx hb dX12_readMethod_43 rfl hk (hJ 21)) ?_
  refine rz_All_c (i := 20) (fun k J hk hJ => rz_no_ok) ?_
  refine rz_All_c (i := 21) (fun k J hk hJ => rz_aload_n_ok (pc := 51) hx hb dX12_readMethod_51 rfl hk) ?_
  refine rz_All_c (i := 22) (fun k J hk hJ => rz_callV_ok (pc := 52) (own := RX12) (C := RX12) (T0 := TX12) (N0 := 257) hC rfl (rmX12_name l hG) (rz_cwV 0 hC rz_good (rz_mem (i := 38) (j := 4) rfl rfl) (rz_mem (i := 38) (j := 5) rfl rfl) (rz_mem (i := 38) (j := 6) rfl rfl) (rz_mem (i := 32) (j := 8) rfl rfl) (rz_mem (i := 38) (j := 7) rfl rfl) ⟨rfl, by decide, by decide, by decide +kernel⟩ rfl rfl ⟨by decide, by decide⟩) rfl dX12_readMethod_52 hk) ?_
  refine rz_All_c (i := 23) (fun k J hk hJ => rz_ifne_ok (pc := 55) hx hb dX12_readMethod_55 rfl hk (hJ 25)) ?_
  refine rz_All_c (i := 24) (fun k J hk hJ => rz_no_ok) ?_
  refine rz_All_c (i := 25) (fun k J hk hJ => rz_aload_n_ok (pc := 60) hx hb dX12_readMethod_60 rfl hk) ?_
  refine rz_All_c (i := 26) (fun k J hk hJ => rz_getf_ok (pc := 61) (own := RX12) (ref := "ThreadJudgeModel") (C := RX12) (T := TX12) (N := 257) (ci := 14) (index := 693) (f := 31) (t := 0) (Ts := Cond.code yX12_readMethod cX12_readMethod 4 (some .boolean) :: rz_TB) hx hb hts rz_in14 ho hK rfl (by decide) rfl (fun _ => rfl) (hw (i := 32) (j := 19) rfl rfl) (fun _ z => z) dX12_readMethod_61 hk) ?_
  refine rz_All_c (i := 27) (fun k J hk hJ => rz_istore_n_ok (pc := 64) hx hb dX12_readMethod_64 rfl hk) ?_
  refine rz_All_c (i := 28) (fun k J hk hJ => rz_aload_n_ok (pc := 65) hx hb dX12_readMethod_65 rfl hk) ?_
  refine rz_All_c (i := 29) (fun k J hk hJ => rz_getf_ok (pc := 66) (own := RX12) (ref := "ThreadJudgeModel") (C := RX12) (T := TX12) (N := 257) (ci := 14) (index := 69) (f := 32) (t := 2) (Ts := Cond.code yX12_readMethod cX12_readMethod 4 (some .boolean) :: rz_TB) hx hb hts rz_in14 ho hK rfl (by decide) rfl (fun _ => rfl) (hw (i := 39) (j := 15) rfl rfl) (fun _ z => z) dX12_readMethod_66 hk) ?_
  refine rz_All_c (i := 30) (fun k J hk hJ => rz_iload_n_ok (pc := 69) hx hb dX12_readMethod_69 rfl hk) ?_
  refine rz_All_c (i := 31) (fun k J hk hJ => rz_aload_n_ok (pc := 70) hx hb dX12_readMethod_70 rfl hk) ?_
  refine rz_All_c (i := 32) (fun k J hk hJ => rz_getf_ok (pc := 71) (own := RX12) (ref := "ThreadJudgeModel") (C := RX12) (T := TX12) (N := 257) (ci := 14) (index := 669) (f := 66) (t := 0) (Ts := Cond.code yX12_readMethod cX12_readMethod 4 (some .boolean) :: rz_TB) hx hb hts rz_in14 ho hK rfl (by decide) rfl (fun _ => rfl) (hw (i := 36) (j := 11) rfl rfl) (fun _ z => z) dX12_readMethod_71 hk) ?_
  refine rz_All_c (i := 33) (fun k J hk hJ => rz_iast_ok (pc := 74) hx hb hK hA dX12_readMethod_74 hk) ?_
  refine rz_All_c (i := 34) (fun k J hk hJ => rz_aload_n_ok (pc := 75) hx hb dX12_readMethod_75 rfl hk) ?_
  refine rz_All_c (i := 35) (fun k J hk hJ => rz_getf_ok (pc := 76) (own := RX12) (ref := "ThreadJudgeModel") (C := RX12) (T := TX12) (N := 257) (ci := 14) (index := 72) (f := 33) (t := 2) (Ts := Cond.code yX12_readMethod cX12_readMethod 4 (some .boolean) :: rz_TB) hx hb hts rz_in14 ho hK rfl (by decide) rfl (fun _ => rfl) (hw (i := 39) (j := 16) rfl rfl) (fun _ z => z) dX12_readMethod_76 hk) ?_
  refine rz_All_c (i := 36) (fun k J hk hJ => rz_iload_n_ok (pc := 79) hx hb dX12_readMethod_79 rfl hk) ?_
  refine rz_All_c (i := 37) (fun k J hk hJ => rz_aload_n_ok (pc := 80) hx hb dX12_readMethod_80 rfl hk) ?_
  refine rz_All_c (i := 38) (fun k J hk hJ => rz_getf_ok (pc := 81) (own := RX12) (ref := "ThreadJudgeModel") (C := RX12) (T := TX12) (N := 257) (ci := 14) (index := 672) (f := 67) (t := 0) (Ts := Cond.code yX12_readMethod cX12_readMethod 4 (some .boolean) :: rz_TB) hx hb hts rz_in14 ho hK rfl (by decide) rfl (fun _ => rfl) (hw (i := 36) (j := 13) rfl rfl) (fun _ z => z) dX12_readMethod_81 hk) ?_
  refine rz_All_c (i := 39) (fun k J hk hJ => rz_iast_ok (pc := 84) hx hb hK hA dX12_readMethod_84 hk) ?_
  refine rz_All_c (i := 40) (fun k J hk hJ => rz_aload_n_ok (pc := 85) hx hb dX12_readMethod_85 rfl hk) ?_
  refine rz_All_c (i := 41) (fun k J hk hJ => rz_getf_ok (pc := 86) (own := RX12) (ref := "ThreadJudgeModel") (C := RX12) (T := TX12) (N := 257) (ci := 14) (index := 75) (f := 34) (t := 2) (Ts := Cond.code yX12_readMethod cX12_readMethod 4 (some .boolean) :: rz_TB) hx hb hts rz_in14 ho hK rfl (by decide) rfl (fun _ => rfl) (hw (i := 39) (j := 17) rfl rfl) (fun _ z => z) dX12_readMethod_86 hk) ?_
  refine rz_All_c (i := 42) (fun k J hk hJ => rz_iload_n_ok (pc := 89) hx hb dX12_readMethod_89 rfl hk) ?_
  refine rz_All_c (i := 43) (fun k J hk hJ => rz_iload_n_ok (pc := 90) hx hb dX12_readMethod_90 rfl hk) ?_
  refine rz_All_c (i := 44) (fun k J hk hJ => rz_iast_ok (pc := 91) hx hb hK hA dX12_readMethod_91 hk) ?_
  refine rz_All_c (i := 45) (fun k J hk hJ => rz_aload_n_ok (pc := 92) hx hb dX12_readMethod_92 rfl hk) ?_
  refine rz_All_c (i := 46) (fun k J hk hJ => rz_getf_ok (pc := 93) (own := RX12) (ref := "ThreadJudgeModel") (C := RX12) (T := TX12) (N := 257) (ci := 14) (index := 78) (f := 35) (t := 2) (Ts := Cond.code yX12_readMethod cX12_readMethod 4 (some .boolean) :: rz_TB) hx hb hts rz_in14 ho hK rfl (by decide) rfl (fun _ => rfl) (hw (i := 39) (j := 18) rfl rfl) (fun _ z => z) dX12_readMethod_93 hk) ?_
  refine rz_All_c (i := 47) (fun k J hk hJ => rz_iload_n_ok (pc := 96) hx hb dX12_readMethod_96 rfl hk) ?_
  refine rz_All_c (i := 48) (fun k J hk hJ => rz_iload_n_ok (pc := 97) hx hb dX12_readMethod_97 rfl hk) ?_
  refine rz_All_c (i := 49) (fun k J hk hJ => rz_iast_ok (pc := 98) hx hb hK hA dX12_readMethod_98 hk) ?_
  refine rz_All_c (i := 50) (fun k J hk hJ => rz_aload_n_ok (pc := 99) hx hb dX12_readMethod_99 rfl hk) ?_
  refine rz_All_c (i := 51) (fun k J hk hJ => rz_getf_ok (pc := 100) (own := RX12) (ref := "ThreadJudgeModel") (C := RX12) (T := TX12) (N := 257) (ci := 14) (index := 84) (f := 37) (t := 2) (Ts := Cond.code yX12_readMethod cX12_readMethod 4 (some .boolean) :: rz_TB) hx hb hts rz_in14 ho hK rfl (by decide) rfl (fun _ => rfl) (hw (i := 39) (j := 19) rfl rfl) (fun _ z => z) dX12_readMethod_100 hk) ?_
  refine rz_All_c (i := 52) (fun k J hk hJ => rz_iload_n_ok (pc := 103) hx hb dX12_readMethod_103 rfl hk) ?_
  refine rz_All_c (i := 53) (fun k J hk hJ => rz_iconst_ok (pc := 104) hx hb dX12_readMethod_104 rfl hk) ?_
  refine rz_All_c (i := 54) (fun k J hk hJ => rz_zast_ok (pc := 105) hx hb hK hA dX12_readMethod_105 hk) ?_
  refine rz_All_c (i := 55) (fun k J hk hJ => rz_aload_n_ok (pc := 106) hx hb dX12_readMethod_106 rfl hk) ?_
  refine rz_All_c (i := 56) (fun k J hk hJ => rz_getf_ok (pc := 107) (own := RX12) (ref := "ThreadJudgeModel") (C := RX12) (T := TX12) (N := 257) (ci := 14) (index := 87) (f := 38) (t := 2) (Ts := Cond.code yX12_readMethod cX12_readMethod 4 (some .boolean) :: rz_TB) hx hb hts rz_in14 ho hK rfl (by decide) rfl (fun _ => rfl) (hw (i := 39) (j := 20) rfl rfl) (fun _ z => z) dX12_readMethod_107 hk) ?_
  refine rz_All_c (i := 57) (fun k J hk hJ => rz_iload_n_ok (pc := 110) hx hb dX12_readMethod_110 rfl hk) ?_
  refine rz_All_c (i := 58) (fun k J hk hJ => rz_aload_n_ok (pc := 111) hx hb dX12_readMethod_111 rfl hk) ?_
  refine rz_All_c (i := 59) (fun k J hk hJ => rz_getf_ok (pc := 112) (own := RX12) (ref := "ThreadJudgeModel") (C := RX12) (T := TX12) (N := 257) (ci := 14) (index := 706) (f := 43) (t := 0) (Ts := Cond.code yX12_readMethod cX12_readMethod 4 (some .boolean) :: rz_TB) hx hb hts rz_in14 ho hK rfl (by decide) rfl (fun _ => rfl) (hw (i := 32) (j := 20) rfl rfl) (fun _ z => z) dX12_readMethod_112 hk) ?_
  refine rz_All_c (i := 60) (fun k J hk hJ => rz_iast_ok (pc := 115) hx hb hK hA dX12_readMethod_115 hk) ?_
  refine rz_All_c (i := 61) (fun k J hk hJ => rz_aload_n_ok (pc := 116) hx hb dX12_readMethod_116 rfl hk) ?_
  refine rz_All_c (i := 62) (fun k J hk hJ => rz_getf_ok (pc := 117) (own := RX12) (ref := "ThreadJudgeModel") (C := RX12) (T := TX12) (N := 257) (ci := 14) (index := 90) (f := 39) (t := 2) (Ts := Cond.code yX12_readMethod cX12_readMethod 4 (some .boolean) :: rz_TB) hx hb hts rz_in14 ho hK rfl (by decide) rfl (fun _ => rfl) (hw (i := 39) (j := 21) rfl rfl) (fun _ z => z) dX12_readMethod_117 hk) ?_
  refine rz_All_c (i := 63) (fun k J hk hJ => rz_iload_n_ok (pc := 120) hx hb dX12_readMethod_120 rfl hk) ?_
  refine rz_All_c (i := 64) (fun k J hk hJ => rz_iconst_ok (pc := 121) hx hb dX12_readMethod_121 rfl hk) ?_
  refine rz_All_c (i := 65) (fun k J hk hJ => rz_iast_ok (pc := 122) hx hb hK hA dX12_readMethod_122 hk) ?_
  refine rz_All_c (i := 66) (fun k J hk hJ => rz_aload_n_ok (pc := 123) hx hb dX12_readMethod_123 rfl hk) ?_
  refine rz_All_c (i := 67) (fun k J hk hJ => rz_dup_ok (pc := 124) hx hb dX12_readMethod_124 hk) ?_
  refine rz_All_c (i := 68) (fun k J hk hJ => rz_getf_ok (pc := 125) (own := RX12) (ref := "ThreadJudgeModel") (C := RX12) (T := TX12) (N := 257) (ci := 14) (index := 693) (f := 31) (t := 0) (Ts := Cond.code yX12_readMethod cX12_readMethod 4 (some .boolean) :: rz_TB) hx hb hts rz_in14 ho hK rfl (by decide) rfl (fun _ => rfl) (hw (i := 32) (j := 19) rfl rfl) (fun _ z => z) dX12_readMethod_125 hk) ?_
  refine rz_All_c (i := 69) (fun k J hk hJ => rz_iconst_ok (pc := 128) hx hb dX12_readMethod_128 rfl hk) ?_
  refine rz_All_c (i := 70) (fun k J hk hJ => rz_iadd_ok (pc := 129) hx hb dX12_readMethod_129 hk) ?_
  refine rz_All_c (i := 71) (fun k J hk hJ => rz_putf_ok (pc := 130) (own := RX12) (ref := "ThreadJudgeModel") (C := RX12) (T := TX12) (N := 257) (ci := 14) (index := 693) (f := 31) (t := 0) (Ts := Cond.code yX12_readMethod cX12_readMethod 4 (some .boolean) :: rz_TB) hx hb hts rz_in14 tyX12 tyX12_ok nmX12 ho hK hA rfl (by decide) rfl (rz_UnI _) rfl (tyX12_ok 31 (by decide)) (hw (i := 32) (j := 19) rfl rfl) (fun _ z => z) dX12_readMethod_130 hk) ?_
  refine rz_All_c (i := 72) (fun k J hk hJ => rz_aload_n_ok (pc := 133) hx hb dX12_readMethod_133 rfl hk) ?_
  refine rz_All_c (i := 73) (fun k J hk hJ => rz_sipush_ok (pc := 134) hx hb dX12_readMethod_134 (by decide) hk) ?_
  refine rz_All_c (i := 74) (fun k J hk hJ => rz_bipush_ok (pc := 137) hx hb dX12_readMethod_137 (by decide) hk) ?_
  refine rz_All_c (i := 75) (fun k J hk hJ => rz_iload_n_ok (pc := 139) hx hb dX12_readMethod_139 rfl hk) ?_
  refine rz_All_c (i := 76) (fun k J hk hJ => rz_imul_ok (pc := 140) hx hb dX12_readMethod_140 hk) ?_
  refine rz_All_c (i := 77) (fun k J hk hJ => rz_iadd_ok (pc := 141) hx hb dX12_readMethod_141 hk) ?_
  refine rz_All_c (i := 78) (fun k J hk hJ => rz_callV_ok (pc := 142) (own := RX12) (C := RX12) (T0 := TX12) (N0 := 257) hC rfl (rmX12_types l hG) (rz_cwV 1 hC rz_good (rz_mem (i := 40) (j := 0) rfl rfl) (rz_mem (i := 40) (j := 1) rfl rfl) (rz_mem (i := 40) (j := 2) rfl rfl) (rz_mem (i := 32) (j := 8) rfl rfl) (rz_mem (i := 40) (j := 3) rfl rfl) ⟨rfl, by decide, by decide, by decide +kernel⟩ rfl rfl ⟨by decide, by decide⟩) rfl dX12_readMethod_142 hk) ?_
  refine rz_All_c (i := 79) (fun k J hk hJ => rz_ifne_ok (pc := 145) hx hb dX12_readMethod_145 rfl hk (hJ 81)) ?_
  refine rz_All_c (i := 80) (fun k J hk hJ => rz_no_ok) ?_
  refine rz_All_c (i := 81) (fun k J hk hJ => rz_aload_n_ok (pc := 150) hx hb dX12_readMethod_150 rfl hk) ?_
  refine rz_All_c (i := 82) (fun k J hk hJ => rz_getf_ok (pc := 151) (own := RX12) (ref := "ThreadJudgeModel") (C := RX12) (T := TX12) (N := 257) (ci := 14) (index := 81) (f := 36) (t := 2) (Ts := Cond.code yX12_readMethod cX12_readMethod 4 (some .boolean) :: rz_TB) hx hb hts rz_in14 ho hK rfl (by decide) rfl (fun _ => rfl) (hw (i := 39) (j := 22) rfl rfl) (fun _ z => z) dX12_readMethod_151 hk) ?_
  refine rz_All_c (i := 83) (fun k J hk hJ => rz_iload_n_ok (pc := 154) hx hb dX12_readMethod_154 rfl hk) ?_
  refine rz_All_c (i := 84) (fun k J hk hJ => rz_aload_n_ok (pc := 155) hx hb dX12_readMethod_155 rfl hk) ?_
  refine rz_All_c (i := 85) (fun k J hk hJ => rz_getf_ok (pc := 156) (own := RX12) (ref := "ThreadJudgeModel") (C := RX12) (T := TX12) (N := 257) (ci := 14) (index := 675) (f := 68) (t := 0) (Ts := Cond.code yX12_readMethod cX12_readMethod 4 (some .boolean) :: rz_TB) hx hb hts rz_in14 ho hK rfl (by decide) rfl (fun _ => rfl) (hw (i := 39) (j := 23) rfl rfl) (fun _ z => z) dX12_readMethod_156 hk) ?_
  refine rz_All_c (i := 86) (fun k J hk hJ => rz_iast_ok (pc := 159) hx hb hK hA dX12_readMethod_159 hk) ?_
  refine rz_All_c (i := 87) (fun k J hk hJ => rz_aload_n_ok (pc := 160) hx hb dX12_readMethod_160 rfl hk) ?_
  refine rz_All_c (i := 88) (fun k J hk hJ => rz_bipush_ok (pc := 161) hx hb dX12_readMethod_161 (by decide) hk) ?_
  refine rz_All_c (i := 89) (fun k J hk hJ => rz_callV_ok (pc := 163) (own := RX12) (C := RX12) (T0 := TX12) (N0 := 257) hC rfl (rmX12_isSign l hG) (rz_cwV 1 hC rz_good (rz_mem (i := 38) (j := 8) rfl rfl) (rz_mem (i := 38) (j := 9) rfl rfl) (rz_mem (i := 38) (j := 10) rfl rfl) (rz_mem (i := 32) (j := 8) rfl rfl) (rz_mem (i := 38) (j := 11) rfl rfl) ⟨rfl, by decide, by decide, by decide +kernel⟩ rfl rfl ⟨by decide, by decide⟩) rfl dX12_readMethod_163 hk) ?_
  refine rz_All_c (i := 90) (fun k J hk hJ => rz_ifeq_ok (pc := 166) hx hb dX12_readMethod_166 rfl hk (hJ 102)) ?_
  refine rz_All_c (i := 91) (fun k J hk hJ => rz_aload_n_ok (pc := 169) hx hb dX12_readMethod_169 rfl hk) ?_
  refine rz_All_c (i := 92) (fun k J hk hJ => rz_callVv_ok (pc := 170) (own := RX12) (C := RX12) (T0 := TX12) (N0 := 257) hC rfl (rmX12_next l hG) (rz_cwV 0 hC rz_good (rz_mem (i := 34) (j := 21) rfl rfl) (rz_mem (i := 34) (j := 22) rfl rfl) (rz_mem (i := 34) (j := 23) rfl rfl) (rz_mem (i := 32) (j := 8) rfl rfl) (rz_mem (i := 35) (j := 0) rfl rfl) ⟨rfl, by decide, by decide, by decide +kernel⟩ rfl rfl ⟨by decide, by decide⟩) rfl dX12_readMethod_170 hk) ?_
  refine rz_All_c (i := 93) (fun k J hk hJ => rz_aload_n_ok (pc := 173) hx hb dX12_readMethod_173 rfl hk) ?_
  refine rz_All_c (i := 94) (fun k J hk hJ => rz_getf_ok (pc := 174) (own := RX12) (ref := "ThreadJudgeModel") (C := RX12) (T := TX12) (N := 257) (ci := 14) (index := 87) (f := 38) (t := 2) (Ts := Cond.code yX12_readMethod cX12_readMethod 4 (some .boolean) :: rz_TB) hx hb hts rz_in14 ho hK rfl (by decide) rfl (fun _ => rfl) (hw (i := 39) (j := 20) rfl rfl) (fun _ z => z) dX12_readMethod_174 hk) ?_
  refine rz_All_c (i := 95) (fun k J hk hJ => rz_aload_n_ok (pc := 177) hx hb dX12_readMethod_177 rfl hk) ?_
  refine rz_All_c (i := 96) (fun k J hk hJ => rz_getf_ok (pc := 178) (own := RX12) (ref := "ThreadJudgeModel") (C := RX12) (T := TX12) (N := 257) (ci := 14) (index := 693) (f := 31) (t := 0) (Ts := Cond.code yX12_readMethod cX12_readMethod 4 (some .boolean) :: rz_TB) hx hb hts rz_in14 ho hK rfl (by decide) rfl (fun _ => rfl) (hw (i := 32) (j := 19) rfl rfl) (fun _ z => z) dX12_readMethod_178 hk) ?_
  refine rz_All_c (i := 97) (fun k J hk hJ => rz_aload_n_ok (pc := 181) hx hb dX12_readMethod_181 rfl hk) ?_
  refine rz_All_c (i := 98) (fun k J hk hJ => rz_getf_ok (pc := 182) (own := RX12) (ref := "ThreadJudgeModel") (C := RX12) (T := TX12) (N := 257) (ci := 14) (index := 706) (f := 43) (t := 0) (Ts := Cond.code yX12_readMethod cX12_readMethod 4 (some .boolean) :: rz_TB) hx hb hts rz_in14 ho hK rfl (by decide) rfl (fun _ => rfl) (hw (i := 32) (j := 20) rfl rfl) (fun _ z => z) dX12_readMethod_182 hk) ?_
  refine rz_All_c (i := 99) (fun k J hk hJ => rz_iast_ok (pc := 185) hx hb hK hA dX12_readMethod_185 hk) ?_
  refine rz_All_c (i := 100) (fun k J hk hJ => rz_iconst_ok (pc := 186) hx hb dX12_readMethod_186 rfl hk) ?_
  refine rz_All_c (i := 101) (fun k J hk hJ => rz_zret_ok (pc := 187) hC dX12_readMethod_187) ?_
  refine rz_All_c (i := 102) (fun k J hk hJ => rz_aload_n_ok (pc := 188) hx hb dX12_readMethod_188 rfl hk) ?_
  refine rz_All_c (i := 103) (fun k J hk hJ => rz_bipush_ok (pc := 189) hx hb dX12_readMethod_189 (by decide) hk) ?_
  refine rz_All_c (i := 104) (fun k J hk hJ => rz_callV_ok (pc := 191) (own := RX12) (C := RX12) (T0 := TX12) (N0 := 257) hC rfl (rmX12_sign l hG) (rz_cwV 1 hC rz_good (rz_mem (i := 38) (j := 12) rfl rfl) (rz_mem (i := 38) (j := 13) rfl rfl) (rz_mem (i := 38) (j := 14) rfl rfl) (rz_mem (i := 32) (j := 8) rfl rfl) (rz_mem (i := 38) (j := 15) rfl rfl) ⟨rfl, by decide, by decide, by decide +kernel⟩ rfl rfl ⟨by decide, by decide⟩) rfl dX12_readMethod_191 hk) ?_
  refine rz_All_c (i := 105) (fun k J hk hJ => rz_ifne_ok (pc := 194) hx hb dX12_readMethod_194 rfl hk (hJ 107)) ?_
  refine rz_All_c (i := 106) (fun k J hk hJ => rz_no_ok) ?_
  refine rz_All_c (i := 107) (fun k J hk hJ => rz_aload_n_ok (pc := 199) hx hb dX12_readMethod_199 rfl hk) ?_
  refine rz_All_c (i := 108) (fun k J hk hJ => rz_getf_ok (pc := 200) (own := RX12) (ref := "ThreadJudgeModel") (C := RX12) (T := TX12) (N := 257) (ci := 14) (index := 84) (f := 37) (t := 2) (Ts := Cond.code yX12_readMethod cX12_readMethod 4 (some .boolean) :: rz_TB) hx hb hts rz_in14 ho hK rfl (by decide) rfl (fun _ => rfl) (hw (i := 39) (j := 19) rfl rfl) (fun _ z => z) dX12_readMethod_200 hk) ?_
  refine rz_All_c (i := 109) (fun k J hk hJ => rz_iload_n_ok (pc := 203) hx hb dX12_readMethod_203 rfl hk) ?_
  refine rz_All_c (i := 110) (fun k J hk hJ => rz_iconst_ok (pc := 204) hx hb dX12_readMethod_204 rfl hk) ?_
  refine rz_All_c (i := 111) (fun k J hk hJ => rz_zast_ok (pc := 205) hx hb hK hA dX12_readMethod_205 hk) ?_
  refine rz_All_c (i := 112) (fun k J hk hJ => rz_aload_n_ok (pc := 206) hx hb dX12_readMethod_206 rfl hk) ?_
  refine rz_All_c (i := 113) (fun k J hk hJ => rz_bipush_ok (pc := 207) hx hb dX12_readMethod_207 (by decide) hk) ?_
  refine rz_All_c (i := 114) (fun k J hk hJ => rz_callV_ok (pc := 209) (own := RX12) (C := RX12) (T0 := TX12) (N0 := 257) hC rfl (rmX12_isSign l hG) (rz_cwV 1 hC rz_good (rz_mem (i := 38) (j := 8) rfl rfl) (rz_mem (i := 38) (j := 9) rfl rfl) (rz_mem (i := 38) (j := 10) rfl rfl) (rz_mem (i := 32) (j := 8) rfl rfl) (rz_mem (i := 38) (j := 11) rfl rfl) ⟨rfl, by decide, by decide, by decide +kernel⟩ rfl rfl ⟨by decide, by decide⟩) rfl dX12_readMethod_209 hk) ?_
  refine rz_All_c (i := 115) (fun k J hk hJ => rz_ifne_ok (pc := 212) hx hb dX12_readMethod_212 rfl hk (hJ 121)) ?_
  refine rz_All_c (i := 116) (fun k J hk hJ => rz_aload_n_ok (pc := 215) hx hb dX12_readMethod_215 rfl hk) ?_
  refine rz_All_c (i := 117) (fun k J hk hJ => rz_iload_n_ok (pc := 216) hx hb dX12_readMethod_216 rfl hk) ?_
  refine rz_All_c (i := 118) (fun k J hk hJ => rz_callV_ok (pc := 217) (own := RX12) (C := RX12) (T0 := TX12) (N0 := 257) hC rfl (rmX12_readLine l hG) (rz_cwV 1 hC rz_good (rz_mem (i := 40) (j := 4) rfl rfl) (rz_mem (i := 40) (j := 5) rfl rfl) (rz_mem (i := 40) (j := 6) rfl rfl) (rz_mem (i := 32) (j := 8) rfl rfl) (rz_mem (i := 40) (j := 7) rfl rfl) ⟨rfl, by decide, by decide, by decide +kernel⟩ rfl rfl ⟨by decide, by decide⟩) rfl dX12_readMethod_217 hk) ?_
  refine rz_All_c (i := 119) (fun k J hk hJ => rz_ifne_ok (pc := 220) hx hb dX12_readMethod_220 rfl hk (hJ 112)) ?_
  refine rz_All_c (i := 120) (fun k J hk hJ => rz_no_ok) ?_
  refine rz_All_c (i := 121) (fun k J hk hJ => rz_aload_n_ok (pc := 225) hx hb dX12_readMethod_225 rfl hk) ?_
  refine rz_All_c (i := 122) (fun k J hk hJ => rz_callVv_ok (pc := 226) (own := RX12) (C := RX12) (T0 := TX12) (N0 := 257) hC rfl (rmX12_next l hG) (rz_cwV 0 hC rz_good (rz_mem (i := 34) (j := 21) rfl rfl) (rz_mem (i := 34) (j := 22) rfl rfl) (rz_mem (i := 34) (j := 23) rfl rfl) (rz_mem (i := 32) (j := 8) rfl rfl) (rz_mem (i := 35) (j := 0) rfl rfl) ⟨rfl, by decide, by decide, by decide +kernel⟩ rfl rfl ⟨by decide, by decide⟩) rfl dX12_readMethod_226 hk) ?_
  refine rz_All_c (i := 123) (fun k J hk hJ => rz_aload_n_ok (pc := 229) hx hb dX12_readMethod_229 rfl hk) ?_
  refine rz_All_c (i := 124) (fun k J hk hJ => rz_getf_ok (pc := 230) (own := RX12) (ref := "ThreadJudgeModel") (C := RX12) (T := TX12) (N := 257) (ci := 14) (index := 87) (f := 38) (t := 2) (Ts := Cond.code yX12_readMethod cX12_readMethod 4 (some .boolean) :: rz_TB) hx hb hts rz_in14 ho hK rfl (by decide) rfl (fun _ => rfl) (hw (i := 39) (j := 20) rfl rfl) (fun _ z => z) dX12_readMethod_230 hk) ?_
  refine rz_All_c (i := 125) (fun k J hk hJ => rz_aload_n_ok (pc := 233) hx hb dX12_readMethod_233 rfl hk) ?_
  refine rz_All_c (i := 126) (fun k J hk hJ => rz_getf_ok (pc := 234) (own := RX12) (ref := "ThreadJudgeModel") (C := RX12) (T := TX12) (N := 257) (ci := 14) (index := 693) (f := 31) (t := 0) (Ts := Cond.code yX12_readMethod cX12_readMethod 4 (some .boolean) :: rz_TB) hx hb hts rz_in14 ho hK rfl (by decide) rfl (fun _ => rfl) (hw (i := 32) (j := 19) rfl rfl) (fun _ z => z) dX12_readMethod_234 hk) ?_
  refine rz_All_c (i := 127) (fun k J hk hJ => rz_aload_n_ok (pc := 237) hx hb dX12_readMethod_237 rfl hk) ?_
  refine rz_All_c (i := 128) (fun k J hk hJ => rz_getf_ok (pc := 238) (own := RX12) (ref := "ThreadJudgeModel") (C := RX12) (T := TX12) (N := 257) (ci := 14) (index := 706) (f := 43) (t := 0) (Ts := Cond.code yX12_readMethod cX12_readMethod 4 (some .boolean) :: rz_TB) hx hb hts rz_in14 ho hK rfl (by decide) rfl (fun _ => rfl) (hw (i := 32) (j := 20) rfl rfl) (fun _ z => z) dX12_readMethod_238 hk) ?_
  refine rz_All_c (i := 129) (fun k J hk hJ => rz_iast_ok (pc := 241) hx hb hK hA dX12_readMethod_241 hk) ?_
  refine rz_All_c (i := 130) (fun k J hk hJ => rz_iconst_ok (pc := 242) hx hb dX12_readMethod_242 rfl hk) ?_
  refine rz_All_c (i := 131) (fun k J hk hJ => rz_zret_ok (pc := 243) hC dX12_readMethod_243) ?_
  exact trivial
theorem dX12_readMember_0 : decode cX12_readMember 0 = .ok (.iconst 0, 1) := by decide +kernel
theorem dX12_readMember_1 : decode cX12_readMember 1 = .ok (.istore_n 2, 1) := by decide +kernel
theorem dX12_readMember_2 : decode cX12_readMember 2 = .ok (.iconst 1, 1) := by decide +kernel
theorem dX12_readMember_3 : decode cX12_readMember 3 = .ok (.istore_n 3, 1) := by decide +kernel
theorem dX12_readMember_4 : decode cX12_readMember 4 = .ok (.iload_n 3, 1) := by decide +kernel
theorem dX12_readMember_5 : decode cX12_readMember 5 = .ok (.ifCond .eq 117, 3) := by decide +kernel
theorem dX12_readMember_8 : decode cX12_readMember 8 = .ok (.aload_n 0, 1) := by decide +kernel
theorem dX12_readMember_9 : decode cX12_readMember 9 = .ok (.getfield 588, 3) := by decide +kernel
theorem dX12_readMember_12 : decode cX12_readMember 12 = .ok (.iconst 1, 1) := by decide +kernel
theorem dX12_readMember_13 : decode cX12_readMember 13 = .ok (.if_icmp .ne 21, 3) := by decide +kernel
theorem dX12_readMember_16 : decode cX12_readMember 16 = .ok (.aload_n 0, 1) := by decide +kernel
theorem dX12_readMember_17 : decode cX12_readMember 17 = .ok (.ldc_w 651, 3) := by decide +kernel
theorem dX12_readMember_20 : decode cX12_readMember 20 = .ok (.aload_n 0, 1) := by decide +kernel
theorem dX12_readMember_21 : decode cX12_readMember 21 = .ok (.getfield 591, 3) := by decide +kernel
theorem dX12_readMember_24 : decode cX12_readMember 24 = .ok (.aload_n 0, 1) := by decide +kernel
theorem dX12_readMember_25 : decode cX12_readMember 25 = .ok (.getfield 620, 3) := by decide +kernel
theorem dX12_readMember_28 : decode cX12_readMember 28 = .ok (.invokevirtual 653, 3) := by decide +kernel
theorem dX12_readMember_31 : decode cX12_readMember 31 = .ok (.goto 4, 3) := by decide +kernel
theorem dX12_readMember_35 : decode cX12_readMember 35 = .ok (.istore 4, 2) := by decide +kernel
theorem dX12_readMember_37 : decode cX12_readMember 37 = .ok (.iload 4, 2) := by decide +kernel
theorem dX12_readMember_39 : decode cX12_readMember 39 = .ok (.bipush 6, 2) := by decide +kernel
theorem dX12_readMember_41 : decode cX12_readMember 41 = .ok (.if_icmp .ne 7, 3) := by decide +kernel
theorem dX12_readMember_44 : decode cX12_readMember 44 = .ok (.iconst 1, 1) := by decide +kernel
theorem dX12_readMember_45 : decode cX12_readMember 45 = .ok (.goto 48, 3) := by decide +kernel
theorem dX12_readMember_48 : decode cX12_readMember 48 = .ok (.iload 4, 2) := by decide +kernel
theorem dX12_readMember_50 : decode cX12_readMember 50 = .ok (.bipush 7, 2) := by decide +kernel
theorem dX12_readMember_52 : decode cX12_readMember 52 = .ok (.if_icmp .ne 7, 3) := by decide +kernel
theorem dX12_readMember_59 : decode cX12_readMember 59 = .ok (.iload 4, 2) := by decide +kernel
theorem dX12_readMember_61 : decode cX12_readMember 61 = .ok (.bipush 8, 2) := by decide +kernel
theorem dX12_readMember_63 : decode cX12_readMember 63 = .ok (.if_icmp .ne 7, 3) := by decide +kernel
theorem dX12_readMember_70 : decode cX12_readMember 70 = .ok (.iload 4, 2) := by decide +kernel
theorem dX12_readMember_72 : decode cX12_readMember 72 = .ok (.ifCond .ne 8, 3) := by decide +kernel
theorem dX12_readMember_75 : decode cX12_readMember 75 = .ok (.bipush 8, 2) := by decide +kernel
theorem dX12_readMember_77 : decode cX12_readMember 77 = .ok (.goto 16, 3) := by decide +kernel
theorem dX12_readMember_80 : decode cX12_readMember 80 = .ok (.iload 4, 2) := by decide +kernel
theorem dX12_readMember_82 : decode cX12_readMember 82 = .ok (.bipush 9, 2) := by decide +kernel
theorem dX12_readMember_84 : decode cX12_readMember 84 = .ok (.if_icmp .ne 8, 3) := by decide +kernel
theorem dX12_readMember_92 : decode cX12_readMember 92 = .ok (.iconst 0, 1) := by decide +kernel
theorem dX12_readMember_93 : decode cX12_readMember 93 = .ok (.istore 5, 2) := by decide +kernel
theorem dX12_readMember_95 : decode cX12_readMember 95 = .ok (.iload_n 2, 1) := by decide +kernel
theorem dX12_readMember_96 : decode cX12_readMember 96 = .ok (.iload 5, 2) := by decide +kernel
theorem dX12_readMember_98 : decode cX12_readMember 98 = .ok (.ior, 1) := by decide +kernel
theorem dX12_readMember_99 : decode cX12_readMember 99 = .ok (.istore_n 2, 1) := by decide +kernel
theorem dX12_readMember_100 : decode cX12_readMember 100 = .ok (.iload 5, 2) := by decide +kernel
theorem dX12_readMember_102 : decode cX12_readMember 102 = .ok (.ifCond .le 7, 3) := by decide +kernel
theorem dX12_readMember_105 : decode cX12_readMember 105 = .ok (.iconst 1, 1) := by decide +kernel
theorem dX12_readMember_106 : decode cX12_readMember 106 = .ok (.goto 4, 3) := by decide +kernel
theorem dX12_readMember_109 : decode cX12_readMember 109 = .ok (.iconst 0, 1) := by decide +kernel
theorem dX12_readMember_110 : decode cX12_readMember 110 = .ok (.istore_n 3, 1) := by decide +kernel
theorem dX12_readMember_111 : decode cX12_readMember 111 = .ok (.iload_n 3, 1) := by decide +kernel
theorem dX12_readMember_112 : decode cX12_readMember 112 = .ok (.ifCond .eq 7, 3) := by decide +kernel
theorem dX12_readMember_115 : decode cX12_readMember 115 = .ok (.aload_n 0, 1) := by decide +kernel
theorem dX12_readMember_116 : decode cX12_readMember 116 = .ok (.invokevirtual 648, 3) := by decide +kernel
theorem dX12_readMember_119 : decode cX12_readMember 119 = .ok (.goto (-115), 3) := by decide +kernel
theorem dX12_readMember_122 : decode cX12_readMember 122 = .ok (.aload_n 0, 1) := by decide +kernel
theorem dX12_readMember_123 : decode cX12_readMember 123 = .ok (.bipush 10, 2) := by decide +kernel
theorem dX12_readMember_125 : decode cX12_readMember 125 = .ok (.invokevirtual 663, 3) := by decide +kernel
theorem dX12_readMember_128 : decode cX12_readMember 128 = .ok (.ifCond .eq 14, 3) := by decide +kernel
theorem dX12_readMember_131 : decode cX12_readMember 131 = .ok (.aload_n 0, 1) := by decide +kernel
theorem dX12_readMember_132 : decode cX12_readMember 132 = .ok (.invokevirtual 648, 3) := by decide +kernel
theorem dX12_readMember_135 : decode cX12_readMember 135 = .ok (.aload_n 0, 1) := by decide +kernel
theorem dX12_readMember_136 : decode cX12_readMember 136 = .ok (.iload_n 1, 1) := by decide +kernel
theorem dX12_readMember_137 : decode cX12_readMember 137 = .ok (.iload_n 2, 1) := by decide +kernel
theorem dX12_readMember_138 : decode cX12_readMember 138 = .ok (.invokevirtual 699, 3) := by decide +kernel
theorem dX12_readMember_141 : decode cX12_readMember 141 = .ok (.ireturn, 1) := by decide +kernel
theorem dX12_readMember_142 : decode cX12_readMember 142 = .ok (.aload_n 0, 1) := by decide +kernel
theorem dX12_readMember_143 : decode cX12_readMember 143 = .ok (.aload_n 0, 1) := by decide +kernel
theorem dX12_readMember_144 : decode cX12_readMember 144 = .ok (.bipush 11, 2) := by decide +kernel
theorem dX12_readMember_146 : decode cX12_readMember 146 = .ok (.invokevirtual 663, 3) := by decide +kernel
theorem dX12_readMember_149 : decode cX12_readMember 149 = .ok (.invokevirtual 644, 3) := by decide +kernel
theorem dX12_readMember_152 : decode cX12_readMember 152 = .ok (.ifCond .ne 5, 3) := by decide +kernel
theorem dX12_readMember_157 : decode cX12_readMember 157 = .ok (.aload_n 0, 1) := by decide +kernel
theorem dX12_readMember_158 : decode cX12_readMember 158 = .ok (.invokevirtual 648, 3) := by decide +kernel
theorem dX12_readMember_161 : decode cX12_readMember 161 = .ok (.aload_n 0, 1) := by decide +kernel
theorem dX12_readMember_162 : decode cX12_readMember 162 = .ok (.iload_n 1, 1) := by decide +kernel
theorem dX12_readMember_163 : decode cX12_readMember 163 = .ok (.iload_n 2, 1) := by decide +kernel
theorem dX12_readMember_164 : decode cX12_readMember 164 = .ok (.invokevirtual 703, 3) := by decide +kernel
theorem dX12_readMember_167 : decode cX12_readMember 167 = .ok (.ireturn, 1) := by decide +kernel
def rpX12_readMember : List Nat := [0, 1, 2, 3, 4, 5, 8, 9, 12, 13, 16, 17, 20, 21, 24, 25, 28, 31, 34, 35, 37, 39, 41, 44, 45, 48, 50, 52, 55, 59, 61, 63, 66, 70, 72, 75, 77, 80, 82, 84, 87, 92, 93, 95, 96, 98, 99, 100, 102, 105, 106, 109, 110, 111, 112, 115, 116, 119, 122, 123, 125, 128, 131, 132, 135, 136, 137, 138, 141, 142, 143, 144, 146, 149, 152, 155, 157, 158, 161, 162, 163, 164, 167]
noncomputable def rcX12_readMember : List rz_B := [rz_cst 0, rz_istore 2, rz_cst 1, rz_istore 3, rz_iload 3, rz_ifeq 58, rz_aload 0, rz_getf (Nat.add (Nat.mul 256 14) 1) 5 rz_i, rz_cst 1, rz_icmpne 18, rz_aload 0, rz_txt 1000012, rz_aload 0, rz_getf (Nat.add (Nat.mul 256 14) 1) 6 rz_i, rz_aload 0, rz_getf (Nat.add (Nat.mul 256 14) 1) 7 rz_i, rz_callV 3 (Nat.add (Nat.mul 256 14) 1) rgX12_wordOf, rz_goto 19, rz_no, rz_istore 4, rz_iload 4, rz_cst 6, rz_icmpne 25, rz_cst 1, rz_goto 42, rz_iload 4, rz_cst 7, rz_icmpne 29, rz_no, rz_iload 4, rz_cst 8, rz_icmpne 33, rz_no, rz_iload 4, rz_ifne 37, rz_cst 8, rz_goto 42, rz_iload 4, rz_cst 9, rz_icmpne 41, rz_no, rz_cst 0, rz_istore 5, rz_iload 2, rz_iload 5, rz_ior, rz_istore 2, rz_iload 5, rz_ifle 51, rz_cst 1, rz_goto 52, rz_cst 0, rz_istore 3, rz_iload 3, rz_ifeq 57, rz_aload 0, rz_callVv 0 (Nat.add (Nat.mul 256 14) 1) rgX12_next, rz_goto 4, rz_aload 0, rz_cst 10, rz_callV 1 (Nat.add (Nat.mul 256 14) 1) rgX12_isWord, rz_ifeq 69, rz_aload 0, rz_callVv 0 (Nat.add (Nat.mul 256 14) 1) rgX12_next, rz_aload 0, rz_iload 1, rz_iload 2, rz_callV 2 (Nat.add (Nat.mul 256 14) 1) rgX12_readField, rz_zret, rz_aload 0, rz_aload 0, rz_cst 11, rz_callV 1 (Nat.add (Nat.mul 256 14) 1) rgX12_isWord, rz_callV 1 (Nat.add (Nat.mul 256 14) 1) rgX12_can, rz_ifne 76, rz_no, rz_aload 0, rz_callVv 0 (Nat.add (Nat.mul 256 14) 1) rgX12_next, rz_aload 0, rz_iload 1, rz_iload 2, rz_callV 2 (Nat.add (Nat.mul 256 14) 1) rgX12_readMethod, rz_zret]
noncomputable def rgX12_readMember : rz_L → rz_M → rz_Z → Bool := rz_go rcX12_readMember 6 1000000
def rrX12_readMember : Room := { frames := 12, cells := 0, slots := 0, locals := 304 }
theorem rmX12_readMember (l : Launch) {G : rz_G} (hG : rz_Gd G) (vs : rz_L) (M : rz_M) (Z : rz_Z) (hn : vs.length = 2) (h : rgX12_readMember vs M Z = true) : Met l yX12_readMember (Cond.code yX12_readMember cX12_readMember 6 (some .boolean) :: rz_TB) rrX12_readMember (rz_Pre G vs M) (rz_Qi G M.2 Z) 0 0 (fun q => rz_b G ≤ q) := by
  obtain ⟨D, tc, ad, b, xs, rfl⟩ := id hG
  refine rz_body (pcs := rpX12_readMember) (by decide) rfl (by rw [hn]; decide) h ?_
  intro p e R s m args below meth c hC
  obtain ⟨hx, hb, hml, hr, hlk, ho, hts, hKn, hRm⟩ := id hC
  obtain ⟨hK, hA, hSt⟩ := id hKn
  have hw : ∀ {i j : Nat} {ws : List Cond} {w : Cond}, rz_WW[i]? = some ws → ws[j]? = some w → w.before args s = true := fun h1 h2 => hts _ (List.mem_cons_of_mem _ (rz_mem h1 h2))
  refine rz_All_c (i := 0) (fun k J hk hJ => rz_iconst_ok (pc := 0) hx hb dX12_readMember_0 rfl hk) ?_
  refine rz_All_c (i := 1) (fun k J hk hJ => rz_istore_n_ok (pc := 1) hx hb dX12_readMember_1 rfl hk) ?_
  refine rz_All_c (i := 2) (fun k J hk hJ => rz_iconst_ok (pc := 2) hx hb dX12_readMember_2 rfl hk) ?_
  refine rz_All_c (i := 3) (fun k J hk hJ => rz_istore_n_ok (pc := 3) hx hb dX12_readMember_3 rfl hk) ?_
  refine rz_All_c (i := 4) (fun k J hk hJ => rz_iload_n_ok (pc := 4) hx hb dX12_readMember_4 rfl hk) ?_
  refine rz_All_c (i := 5) (fun k J hk hJ => rz_ifeq_ok (pc := 5) hx hb dX12_readMember_5 rfl hk (hJ 58)) ?_
  refine rz_All_c (i := 6) (fun k J hk hJ => rz_aload_n_ok (pc := 8) hx hb dX12_readMember_8 rfl hk) ?_
  refine rz_All_c (i := 7) (fun k J hk hJ => rz_getf_ok (pc := 9) (own := RX12) (ref := "ThreadJudgeModel") (C := RX12) (T := TX12) (N := 257) (ci := 14) (index := 588) (f := 5) (t := 0) (Ts := Cond.code yX12_readMember cX12_readMember 6 (some .boolean) :: rz_TB) hx hb hts rz_in14 ho hK rfl (by decide) rfl (fun _ => rfl) (hw (i := 33) (j := 2) rfl rfl) (fun _ z => z) dX12_readMember_9 hk) ?_
  refine rz_All_c (i := 8) (fun k J hk hJ => rz_iconst_ok (pc := 12) hx hb dX12_readMember_12 rfl hk) ?_
  refine rz_All_c (i := 9) (fun k J hk hJ => rz_icmpne_ok (pc := 13) hx hb dX12_readMember_13 rfl hk (hJ 18)) ?_
  refine rz_All_c (i := 10) (fun k J hk hJ => rz_aload_n_ok (pc := 16) hx hb dX12_readMember_16 rfl hk) ?_
  refine rz_All_c (i := 11) (fun k J hk hJ => rz_ldcwS_ok (pc := 17) (i := 11) hx hb (hSt.2.1 ("ThreadJudgeModel", 651, "abstract excluded class interface extends implements static volatile final synchronized field method catch int void ", 11) (List.mem_of_getElem? (i := 12) rfl)) ho dX12_readMember_17 hk) ?_
  refine rz_All_c (i := 12) (fun k J hk hJ => rz_aload_n_ok (pc := 20) hx hb dX12_readMember_20 rfl hk) ?_
  refine rz_All_c (i := 13) (fun k J hk hJ => rz_getf_ok (pc := 21) (own := RX12) (ref := "ThreadJudgeModel") (C := RX12) (T := TX12) (N := 257) (ci := 14) (index := 591) (f := 6) (t := 0) (Ts := Cond.code yX12_readMember cX12_readMember 6 (some .boolean) :: rz_TB) hx hb hts rz_in14 ho hK rfl (by decide) rfl (fun _ => rfl) (hw (i := 33) (j := 3) rfl rfl) (fun _ z => z) dX12_readMember_21 hk) ?_
  refine rz_All_c (i := 14) (fun k J hk hJ => rz_aload_n_ok (pc := 24) hx hb dX12_readMember_24 rfl hk) ?_
  refine rz_All_c (i := 15) (fun k J hk hJ => rz_getf_ok (pc := 25) (own := RX12) (ref := "ThreadJudgeModel") (C := RX12) (T := TX12) (N := 257) (ci := 14) (index := 620) (f := 7) (t := 0) (Ts := Cond.code yX12_readMember cX12_readMember 6 (some .boolean) :: rz_TB) hx hb hts rz_in14 ho hK rfl (by decide) rfl (fun _ => rfl) (hw (i := 35) (j := 1) rfl rfl) (fun _ z => z) dX12_readMember_25 hk) ?_
  refine rz_All_c (i := 16) (fun k J hk hJ => rz_callV_ok (pc := 28) (own := RX12) (C := RX12) (T0 := TX12) (N0 := 257) hC rfl (rmX12_wordOf l hG) (rz_cwV 3 hC rz_good (rz_mem (i := 37) (j := 4) rfl rfl) (rz_mem (i := 37) (j := 5) rfl rfl) (rz_mem (i := 37) (j := 6) rfl rfl) (rz_mem (i := 32) (j := 8) rfl rfl) (rz_mem (i := 37) (j := 7) rfl rfl) ⟨rfl, by decide, by decide, by decide +kernel⟩ rfl rfl ⟨by decide, by decide⟩) rfl dX12_readMember_28 hk) ?_
  refine rz_All_c (i := 17) (fun k J hk hJ => rz_goto_ok (pc := 31) hx hb dX12_readMember_31 rfl (hJ 19)) ?_
  refine rz_All_c (i := 18) (fun k J hk hJ => rz_no_ok) ?_
  refine rz_All_c (i := 19) (fun k J hk hJ => rz_istore_ok (pc := 35) hx hb dX12_readMember_35 hk) ?_
  refine rz_All_c (i := 20) (fun k J hk hJ => rz_iload_ok (pc := 37) hx hb dX12_readMember_37 hk) ?_
  refine rz_All_c (i := 21) (fun k J hk hJ => rz_bipush_ok (pc := 39) hx hb dX12_readMember_39 (by decide) hk) ?_
  refine rz_All_c (i := 22) (fun k J hk hJ => rz_icmpne_ok (pc := 41) hx hb dX12_readMember_41 rfl hk (hJ 25)) ?_
  refine rz_All_c (i := 23) (fun k J hk hJ => rz_iconst_ok (pc := 44) hx hb dX12_readMember_44 rfl hk) ?_
  refine rz_All_c (i := 24) (fun k J hk hJ => rz_goto_ok (pc := 45) hx hb dX12_readMember_45 rfl (hJ 42)) ?_
  refine rz_All_c (i := 25) (fun k J hk hJ => rz_iload_ok (pc := 48) hx hb dX12_readMember_48 hk) ?_
  refine rz_All_c (i := 26) (fun k J hk hJ => rz_bipush_ok (pc := 50) hx hb dX12_readMember_50 (by decide) hk) ?_
  refine rz_All_c (i := 27) (fun k J hk hJ => rz_icmpne_ok (pc := 52) hx hb dX12_readMember_52 rfl hk (hJ 29)) ?_
  refine rz_All_c (i := 28) (fun k J hk hJ => rz_no_ok) ?_
  refine rz_All_c (i := 29) (fun k J hk hJ => rz_iload_ok (pc := 59) hx hb dX12_readMember_59 hk) ?_
  refine rz_All_c (i := 30) (fun k J hk hJ => rz_bipush_ok (pc := 61) hx hb dX12_readMember_61 (by decide) hk) ?_
  refine rz_All_c (i := 31) (fun k J hk hJ => rz_icmpne_ok (pc := 63) hx hb dX12_readMember_63 rfl hk (hJ 33)) ?_
  refine rz_All_c (i := 32) (fun k J hk hJ => rz_no_ok) ?_
  refine rz_All_c (i := 33) (fun k J hk hJ => rz_iload_ok (pc := 70) hx hb dX12_readMember_70 hk) ?_
  refine rz_All_c (i := 34) (fun k J hk hJ => rz_ifne_ok (pc := 72) hx hb dX12_readMember_72 rfl hk (hJ 37)) ?_
  refine rz_All_c (i := 35) (fun k J hk hJ => rz_bipush_ok (pc := 75) hx hb dX12_readMember_75 (by decide) hk) ?_
  refine rz_All_c (i := 36) (fun k J hk hJ => rz_goto_ok (pc := 77) hx hb dX12_readMember_77 rfl (hJ 42)) ?_
  refine rz_All_c (i := 37) (fun k J hk hJ => rz_iload_ok (pc := 80) hx hb dX12_readMember_80 hk) ?_
  refine rz_All_c (i := 38) (fun k J hk hJ => rz_bipush_ok (pc := 82) hx hb dX12_readMember_82 (by decide) hk) ?_
  refine rz_All_c (i := 39) (fun k J hk hJ => rz_icmpne_ok (pc := 84) hx hb dX12_readMember_84 rfl hk (hJ 41)) ?_
  refine rz_All_c (i := 40) (fun k J hk hJ => rz_no_ok) ?_
  refine rz_All_c (i := 41) (fun k J hk hJ => rz_iconst_ok (pc := 92) hx hb dX12_readMember_92 rfl hk) ?_
  refine rz_All_c (i := 42) (fun k J hk hJ => rz_istore_ok (pc := 93) hx hb dX12_readMember_93 hk) ?_
  refine rz_All_c (i := 43) (fun k J hk hJ => rz_iload_n_ok (pc := 95) hx hb dX12_readMember_95 rfl hk) ?_
  refine rz_All_c (i := 44) (fun k J hk hJ => rz_iload_ok (pc := 96) hx hb dX12_readMember_96 hk) ?_
  refine rz_All_c (i := 45) (fun k J hk hJ => rz_ior_ok (pc := 98) hx hb dX12_readMember_98 hk) ?_
  refine rz_All_c (i := 46) (fun k J hk hJ => rz_istore_n_ok (pc := 99) hx hb dX12_readMember_99 rfl hk) ?_
  refine rz_All_c (i := 47) (fun k J hk hJ => rz_iload_ok (pc := 100) hx hb dX12_readMember_100 hk) ?_
  refine rz_All_c (i := 48) (fun k J hk hJ => rz_ifle_ok (pc := 102) hx hb dX12_readMember_102 rfl hk (hJ 51)) ?_
  refine rz_All_c (i := 49) (fun k J hk hJ => rz_iconst_ok (pc := 105) hx hb dX12_readMember_105 rfl hk) ?_
  refine rz_All_c (i := 50) (fun k J hk hJ => rz_goto_ok (pc := 106) hx hb dX12_readMember_106 rfl (hJ 52)) ?_
  refine rz_All_c (i := 51) (fun k J hk hJ => rz_iconst_ok (pc := 109) hx hb dX12_readMember_109 rfl hk) ?_
  refine rz_All_c (i := 52) (fun k J hk hJ => rz_istore_n_ok (pc := 110) hx hb dX12_readMember_110 rfl hk) ?_
  refine rz_All_c (i := 53) (fun k J hk hJ => rz_iload_n_ok (pc := 111) hx hb dX12_readMember_111 rfl hk) ?_
  refine rz_All_c (i := 54) (fun k J hk hJ => rz_ifeq_ok (pc := 112) hx hb dX12_readMember_112 rfl hk (hJ 57)) ?_
  refine rz_All_c (i := 55) (fun k J hk hJ => rz_aload_n_ok (pc := 115) hx hb dX12_readMember_115 rfl hk) ?_
  refine rz_All_c (i := 56) (fun k J hk hJ => rz_callVv_ok (pc := 116) (own := RX12) (C := RX12) (T0 := TX12) (N0 := 257) hC rfl (rmX12_next l hG) (rz_cwV 0 hC rz_good (rz_mem (i := 34) (j := 21) rfl rfl) (rz_mem (i := 34) (j := 22) rfl rfl) (rz_mem (i := 34) (j := 23) rfl rfl) (rz_mem (i := 32) (j := 8) rfl rfl) (rz_mem (i := 35) (j := 0) rfl rfl) ⟨rfl, by decide, by decide, by decide +kernel⟩ rfl rfl ⟨by decide, by decide⟩) rfl dX12_readMember_116 hk) ?_
  refine rz_All_c (i := 57) (fun k J hk hJ => rz_goto_ok (pc := 119) hx hb dX12_readMember_119 rfl (hJ 4)) ?_
  refine rz_All_c (i := 58) (fun k J hk hJ => rz_aload_n_ok (pc := 122) hx hb dX12_readMember_122 rfl hk) ?_
  refine rz_All_c (i := 59) (fun k J hk hJ => rz_bipush_ok (pc := 123) hx hb dX12_readMember_123 (by decide) hk) ?_
  refine rz_All_c (i := 60) (fun k J hk hJ => rz_callV_ok (pc := 125) (own := RX12) (C := RX12) (T0 := TX12) (N0 := 257) hC rfl (rmX12_isWord l hG) (rz_cwV 1 hC rz_good (rz_mem (i := 37) (j := 0) rfl rfl) (rz_mem (i := 37) (j := 1) rfl rfl) (rz_mem (i := 37) (j := 2) rfl rfl) (rz_mem (i := 32) (j := 8) rfl rfl) (rz_mem (i := 37) (j := 3) rfl rfl) ⟨rfl, by decide, by decide, by decide +kernel⟩ rfl rfl ⟨by decide, by decide⟩) rfl dX12_readMember_125 hk) ?_
  refine rz_All_c (i := 61) (fun k J hk hJ => rz_ifeq_ok (pc := 128) hx hb dX12_readMember_128 rfl hk (hJ 69)) ?_
  refine rz_All_c (i := 62) (fun k J hk hJ => rz_aload_n_ok (pc := 131) hx hb dX12_readMember_131 rfl hk) ?_
  refine rz_All_c (i := 63) (fun k J hk hJ => rz_callVv_ok (pc := 132) (own := RX12) (C := RX12) (T0 := TX12) (N0 := 257) hC rfl (rmX12_next l hG) (rz_cwV 0 hC rz_good (rz_mem (i := 34) (j := 21) rfl rfl) (rz_mem (i := 34) (j := 22) rfl rfl) (rz_mem (i := 34) (j := 23) rfl rfl) (rz_mem (i := 32) (j := 8) rfl rfl) (rz_mem (i := 35) (j := 0) rfl rfl) ⟨rfl, by decide, by decide, by decide +kernel⟩ rfl rfl ⟨by decide, by decide⟩) rfl dX12_readMember_132 hk) ?_
  refine rz_All_c (i := 64) (fun k J hk hJ => rz_aload_n_ok (pc := 135) hx hb dX12_readMember_135 rfl hk) ?_
  refine rz_All_c (i := 65) (fun k J hk hJ => rz_iload_n_ok (pc := 136) hx hb dX12_readMember_136 rfl hk) ?_
  refine rz_All_c (i := 66) (fun k J hk hJ => rz_iload_n_ok (pc := 137) hx hb dX12_readMember_137 rfl hk) ?_
  refine rz_All_c (i := 67) (fun k J hk hJ => rz_callV_ok (pc := 138) (own := RX12) (C := RX12) (T0 := TX12) (N0 := 257) hC rfl (rmX12_readField l hG) (rz_cwV 2 hC rz_good (rz_mem (i := 38) (j := 20) rfl rfl) (rz_mem (i := 38) (j := 21) rfl rfl) (rz_mem (i := 38) (j := 22) rfl rfl) (rz_mem (i := 32) (j := 8) rfl rfl) (rz_mem (i := 38) (j := 23) rfl rfl) ⟨rfl, by decide, by decide, by decide +kernel⟩ rfl rfl ⟨by decide, by decide⟩) rfl dX12_readMember_138 hk) ?_
  refine rz_All_c (i := 68) (fun k J hk hJ => rz_zret_ok (pc := 141) hC dX12_readMember_141) ?_
  refine rz_All_c (i := 69) (fun k J hk hJ => rz_aload_n_ok (pc := 142) hx hb dX12_readMember_142 rfl hk) ?_
  refine rz_All_c (i := 70) (fun k J hk hJ => rz_aload_n_ok (pc := 143) hx hb dX12_readMember_143 rfl hk) ?_
  refine rz_All_c (i := 71) (fun k J hk hJ => rz_bipush_ok (pc := 144) hx hb dX12_readMember_144 (by decide) hk) ?_
  refine rz_All_c (i := 72) (fun k J hk hJ => rz_callV_ok (pc := 146) (own := RX12) (C := RX12) (T0 := TX12) (N0 := 257) hC rfl (rmX12_isWord l hG) (rz_cwV 1 hC rz_good (rz_mem (i := 37) (j := 0) rfl rfl) (rz_mem (i := 37) (j := 1) rfl rfl) (rz_mem (i := 37) (j := 2) rfl rfl) (rz_mem (i := 32) (j := 8) rfl rfl) (rz_mem (i := 37) (j := 3) rfl rfl) ⟨rfl, by decide, by decide, by decide +kernel⟩ rfl rfl ⟨by decide, by decide⟩) rfl dX12_readMember_146 hk) ?_
  refine rz_All_c (i := 73) (fun k J hk hJ => rz_callV_ok (pc := 149) (own := RX12) (C := RX12) (T0 := TX12) (N0 := 257) hC rfl (rmX12_can l hG) (rz_cwV 1 hC rz_good (rz_mem (i := 37) (j := 16) rfl rfl) (rz_mem (i := 37) (j := 17) rfl rfl) (rz_mem (i := 37) (j := 18) rfl rfl) (rz_mem (i := 32) (j := 8) rfl rfl) (rz_mem (i := 37) (j := 19) rfl rfl) ⟨rfl, by decide, by decide, by decide +kernel⟩ rfl rfl ⟨by decide, by decide⟩) rfl dX12_readMember_149 hk) ?_
  refine rz_All_c (i := 74) (fun k J hk hJ => rz_ifne_ok (pc := 152) hx hb dX12_readMember_152 rfl hk (hJ 76)) ?_
  refine rz_All_c (i := 75) (fun k J hk hJ => rz_no_ok) ?_
  refine rz_All_c (i := 76) (fun k J hk hJ => rz_aload_n_ok (pc := 157) hx hb dX12_readMember_157 rfl hk) ?_
  refine rz_All_c (i := 77) (fun k J hk hJ => rz_callVv_ok (pc := 158) (own := RX12) (C := RX12) (T0 := TX12) (N0 := 257) hC rfl (rmX12_next l hG) (rz_cwV 0 hC rz_good (rz_mem (i := 34) (j := 21) rfl rfl) (rz_mem (i := 34) (j := 22) rfl rfl) (rz_mem (i := 34) (j := 23) rfl rfl) (rz_mem (i := 32) (j := 8) rfl rfl) (rz_mem (i := 35) (j := 0) rfl rfl) ⟨rfl, by decide, by decide, by decide +kernel⟩ rfl rfl ⟨by decide, by decide⟩) rfl dX12_readMember_158 hk) ?_
  refine rz_All_c (i := 78) (fun k J hk hJ => rz_aload_n_ok (pc := 161) hx hb dX12_readMember_161 rfl hk) ?_
  refine rz_All_c (i := 79) (fun k J hk hJ => rz_iload_n_ok (pc := 162) hx hb dX12_readMember_162 rfl hk) ?_
  refine rz_All_c (i := 80) (fun k J hk hJ => rz_iload_n_ok (pc := 163) hx hb dX12_readMember_163 rfl hk) ?_
  refine rz_All_c (i := 81) (fun k J hk hJ => rz_callV_ok (pc := 164) (own := RX12) (C := RX12) (T0 := TX12) (N0 := 257) hC rfl (rmX12_readMethod l hG) (rz_cwV 2 hC rz_good (rz_mem (i := 39) (j := 11) rfl rfl) (rz_mem (i := 39) (j := 12) rfl rfl) (rz_mem (i := 39) (j := 13) rfl rfl) (rz_mem (i := 32) (j := 8) rfl rfl) (rz_mem (i := 39) (j := 14) rfl rfl) ⟨rfl, by decide, by decide, by decide +kernel⟩ rfl rfl ⟨by decide, by decide⟩) rfl dX12_readMember_164 hk) ?_
  refine rz_All_c (i := 82) (fun k J hk hJ => rz_zret_ok (pc := 167) hC dX12_readMember_167) ?_
  exact trivial
