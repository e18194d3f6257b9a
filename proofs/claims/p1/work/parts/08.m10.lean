/-! Methods: handlers, facts, contracts. -/
theorem dX12_isBadCall_0 : decode cX12_isBadCall 0 = .ok (.aload_n 0, 1) := by decide +kernel
theorem dX12_isBadCall_1 : decode cX12_isBadCall 1 = .ok (.iload_n 1, 1) := by decide +kernel
theorem dX12_isBadCall_2 : decode cX12_isBadCall 2 = .ok (.invokevirtual 840, 3) := by decide +kernel
theorem dX12_isBadCall_5 : decode cX12_isBadCall 5 = .ok (.istore_n 2, 1) := by decide +kernel
theorem dX12_isBadCall_6 : decode cX12_isBadCall 6 = .ok (.aload_n 0, 1) := by decide +kernel
theorem dX12_isBadCall_7 : decode cX12_isBadCall 7 = .ok (.getfield 183, 3) := by decide +kernel
theorem dX12_isBadCall_10 : decode cX12_isBadCall 10 = .ok (.iload_n 1, 1) := by decide +kernel
theorem dX12_isBadCall_11 : decode cX12_isBadCall 11 = .ok (.iload_n 2, 1) := by decide +kernel
theorem dX12_isBadCall_12 : decode cX12_isBadCall 12 = .ok (.iastore, 1) := by decide +kernel
theorem dX12_isBadCall_13 : decode cX12_isBadCall 13 = .ok (.iload_n 2, 1) := by decide +kernel
theorem dX12_isBadCall_14 : decode cX12_isBadCall 14 = .ok (.iconst (-1), 1) := by decide +kernel
theorem dX12_isBadCall_15 : decode cX12_isBadCall 15 = .ok (.if_icmp .ne 5, 3) := by decide +kernel
theorem dX12_isBadCall_20 : decode cX12_isBadCall 20 = .ok (.aload_n 0, 1) := by decide +kernel
theorem dX12_isBadCall_21 : decode cX12_isBadCall 21 = .ok (.getfield 13, 3) := by decide +kernel
theorem dX12_isBadCall_24 : decode cX12_isBadCall 24 = .ok (.aload_n 0, 1) := by decide +kernel
theorem dX12_isBadCall_25 : decode cX12_isBadCall 25 = .ok (.getfield 123, 3) := by decide +kernel
theorem dX12_isBadCall_28 : decode cX12_isBadCall 28 = .ok (.iload_n 1, 1) := by decide +kernel
theorem dX12_isBadCall_29 : decode cX12_isBadCall 29 = .ok (.iaload, 1) := by decide +kernel
theorem dX12_isBadCall_30 : decode cX12_isBadCall 30 = .ok (.iaload, 1) := by decide +kernel
theorem dX12_isBadCall_31 : decode cX12_isBadCall 31 = .ok (.bipush 60, 2) := by decide +kernel
theorem dX12_isBadCall_33 : decode cX12_isBadCall 33 = .ok (.if_icmp .ne 7, 3) := by decide +kernel
theorem dX12_isBadCall_40 : decode cX12_isBadCall 40 = .ok (.iconst 0, 1) := by decide +kernel
theorem dX12_isBadCall_41 : decode cX12_isBadCall 41 = .ok (.istore_n 3, 1) := by decide +kernel
theorem dX12_isBadCall_42 : decode cX12_isBadCall 42 = .ok (.aload_n 0, 1) := by decide +kernel
theorem dX12_isBadCall_43 : decode cX12_isBadCall 43 = .ok (.getfield 102, 3) := by decide +kernel
theorem dX12_isBadCall_46 : decode cX12_isBadCall 46 = .ok (.iload_n 1, 1) := by decide +kernel
theorem dX12_isBadCall_47 : decode cX12_isBadCall 47 = .ok (.iaload, 1) := by decide +kernel
theorem dX12_isBadCall_48 : decode cX12_isBadCall 48 = .ok (.tableswitch 109 49 51 #[28, 46, 91], 28) := by decide +kernel
theorem dX12_isBadCall_76 : decode cX12_isBadCall 76 = .ok (.aload_n 0, 1) := by decide +kernel
theorem dX12_isBadCall_77 : decode cX12_isBadCall 77 = .ok (.iload_n 2, 1) := by decide +kernel
theorem dX12_isBadCall_78 : decode cX12_isBadCall 78 = .ok (.invokevirtual 799, 3) := by decide +kernel
theorem dX12_isBadCall_81 : decode cX12_isBadCall 81 = .ok (.ifCond .ne 7, 3) := by decide +kernel
theorem dX12_isBadCall_84 : decode cX12_isBadCall 84 = .ok (.iload_n 3, 1) := by decide +kernel
theorem dX12_isBadCall_85 : decode cX12_isBadCall 85 = .ok (.ifCond .eq 7, 3) := by decide +kernel
theorem dX12_isBadCall_92 : decode cX12_isBadCall 92 = .ok (.iconst 0, 1) := by decide +kernel
theorem dX12_isBadCall_93 : decode cX12_isBadCall 93 = .ok (.ireturn, 1) := by decide +kernel
def rpX12_isBadCall : List Nat := [0, 1, 2, 5, 6, 7, 10, 11, 12, 13, 14, 15, 18, 20, 21, 24, 25, 28, 29, 30, 31, 33, 36, 40, 41, 42, 43, 46, 47, 48, 76, 77, 78, 81, 84, 85, 88, 92, 93, 94, 139, 157]
noncomputable def rcX12_isBadCall : List rz_B := [rz_aload 0, rz_iload 1, rz_callV 1 (Nat.add (Nat.mul 256 14) 1) rgX12_methodOfCode, rz_istore 2, rz_aload 0, rz_getf (Nat.add (Nat.mul 256 14) 1) 78 rz_r, rz_iload 1, rz_iload 2, rz_iast, rz_iload 2, rz_cst 4294967295, rz_icmpne 13, rz_no, rz_aload 0, rz_getf (Nat.add (Nat.mul 256 14) 1) 2 rz_r, rz_aload 0, rz_getf (Nat.add (Nat.mul 256 14) 1) 51 rz_r, rz_iload 1, rz_iald, rz_iald, rz_cst 60, rz_icmpne 23, rz_no, rz_cst 0, rz_istore 3, rz_aload 0, rz_getf (Nat.add (Nat.mul 256 14) 1) 44 rz_r, rz_iload 1, rz_iald, rz_tsw 49 [30, 39, 40] 41, rz_aload 0, rz_iload 2, rz_callV 1 (Nat.add (Nat.mul 256 14) 1) rgX12_isStatic, rz_ifne 36, rz_iload 3, rz_ifeq 37, rz_no, rz_cst 0, rz_zret, rz_no, rz_no, rz_no]
noncomputable def rgX12_isBadCall : rz_L → rz_M → rz_Z → Bool := rz_go rcX12_isBadCall 4 1000000
def rrX12_isBadCall : Room := { frames := 7, cells := 0, slots := 0, locals := 197 }
theorem rmX12_isBadCall (l : Launch) {G : rz_G} (hG : rz_Gd G) (vs : rz_L) (M : rz_M) (Z : rz_Z) (hn : vs.length = 2) (h : rgX12_isBadCall vs M Z = true) : Met l yX12_isBadCall (Cond.code yX12_isBadCall cX12_isBadCall 4 (some .boolean) :: rz_TB) rrX12_isBadCall (rz_Pre G vs M) (rz_Qi G M.2 Z) 0 0 (fun q => rz_b G ≤ q) := by
  obtain ⟨D, tc, ad, b, xs, rfl⟩ := id hG
  refine rz_body (pcs := rpX12_isBadCall) (by decide) rfl (by rw [hn]; decide) h ?_
  intro p e R s m args below meth c hC
  obtain ⟨hx, hb, hml, hr, hlk, ho, hts, hKn, hRm⟩ := id hC
  obtain ⟨hK, hA, hSt⟩ := id hKn
  have hw : ∀ {i j : Nat} {ws : List Cond} {w : Cond}, rz_WW[i]? = some ws → ws[j]? = some w → w.before args s = true := fun h1 h2 => hts _ (List.mem_cons_of_mem _ (rz_mem h1 h2))
  refine rz_All_c (i := 0) (fun k J hk hJ => rz_aload_n_ok (pc := 0) hx hb dX12_isBadCall_0 rfl hk) ?_
  refine rz_All_c (i := 1) (fun k J hk hJ => rz_iload_n_ok (pc := 1) hx hb dX12_isBadCall_1 rfl hk) ?_
  refine rz_All_c (i := 2) (fun k J hk hJ => rz_callV_ok (pc := 2) (own := RX12) (C := RX12) (T0 := TX12) (N0 := 257) hC rfl (rmX12_methodOfCode l hG) (rz_cwV 1 hC rz_good (rz_mem (i := 47) (j := 1) rfl rfl) (rz_mem (i := 47) (j := 2) rfl rfl) (rz_mem (i := 47) (j := 3) rfl rfl) (rz_mem (i := 32) (j := 8) rfl rfl) (rz_mem (i := 47) (j := 4) rfl rfl) ⟨rfl, by decide, by decide, by decide +kernel⟩ rfl rfl ⟨by decide, by decide⟩) rfl dX12_isBadCall_2 hk) ?_
  refine rz_All_c (i := 3) (fun k J hk hJ => rz_istore_n_ok (pc := 5) hx hb dX12_isBadCall_5 rfl hk) ?_
  refine rz_All_c (i := 4) (fun k J hk hJ => rz_aload_n_ok (pc := 6) hx hb dX12_isBadCall_6 rfl hk) ?_
  refine rz_All_c (i := 5) (fun k J hk hJ => rz_getf_ok (pc := 7) (own := RX12) (ref := "ThreadJudgeModel") (C := RX12) (T := TX12) (N := 257) (ci := 14) (index := 183) (f := 78) (t := 2) (Ts := Cond.code yX12_isBadCall cX12_isBadCall 4 (some .boolean) :: rz_TB) hx hb hts rz_in14 ho hK rfl (by decide) rfl (fun _ => rfl) (hw (i := 46) (j := 8) rfl rfl) (fun _ z => z) dX12_isBadCall_7 hk) ?_
  refine rz_All_c (i := 6) (fun k J hk hJ => rz_iload_n_ok (pc := 10) hx hb dX12_isBadCall_10 rfl hk) ?_
  refine rz_All_c (i := 7) (fun k J hk hJ => rz_iload_n_ok (pc := 11) hx hb dX12_isBadCall_11 rfl hk) ?_
  refine rz_All_c (i := 8) (fun k J hk hJ => rz_iast_ok (pc := 12) hx hb hK hA dX12_isBadCall_12 hk) ?_
  refine rz_All_c (i := 9) (fun k J hk hJ => rz_iload_n_ok (pc := 13) hx hb dX12_isBadCall_13 rfl hk) ?_
  refine rz_All_c (i := 10) (fun k J hk hJ => rz_iconst_ok (pc := 14) hx hb dX12_isBadCall_14 rfl hk) ?_
  refine rz_All_c (i := 11) (fun k J hk hJ => rz_icmpne_ok (pc := 15) hx hb dX12_isBadCall_15 rfl hk (hJ 13)) ?_
  refine rz_All_c (i := 12) (fun k J hk hJ => rz_no_ok) ?_
  refine rz_All_c (i := 13) (fun k J hk hJ => rz_aload_n_ok (pc := 20) hx hb dX12_isBadCall_20 rfl hk) ?_
  refine rz_All_c (i := 14) (fun k J hk hJ => rz_getf_ok (pc := 21) (own := RX12) (ref := "ThreadJudgeModel") (C := RX12) (T := TX12) (N := 257) (ci := 14) (index := 13) (f := 2) (t := 2) (Ts := Cond.code yX12_isBadCall cX12_isBadCall 4 (some .boolean) :: rz_TB) hx hb hts rz_in14 ho hK rfl (by decide) rfl (fun _ => rfl) (hw (i := 32) (j := 13) rfl rfl) (fun _ z => z) dX12_isBadCall_21 hk) ?_
  refine rz_All_c (i := 15) (fun k J hk hJ => rz_aload_n_ok (pc := 24) hx hb dX12_isBadCall_24 rfl hk) ?_
  refine rz_All_c (i := 16) (fun k J hk hJ => rz_getf_ok (pc := 25) (own := RX12) (ref := "ThreadJudgeModel") (C := RX12) (T := TX12) (N := 257) (ci := 14) (index := 123) (f := 51) (t := 2) (Ts := Cond.code yX12_isBadCall cX12_isBadCall 4 (some .boolean) :: rz_TB) hx hb hts rz_in14 ho hK rfl (by decide) rfl (fun _ => rfl) (hw (i := 42) (j := 0) rfl rfl) (fun _ z => z) dX12_isBadCall_25 hk) ?_
  refine rz_All_c (i := 17) (fun k J hk hJ => rz_iload_n_ok (pc := 28) hx hb dX12_isBadCall_28 rfl hk) ?_
  refine rz_All_c (i := 18) (fun k J hk hJ => rz_iald_ok (pc := 29) hx hb hK dX12_isBadCall_29 hk) ?_
  refine rz_All_c (i := 19) (fun k J hk hJ => rz_iald_ok (pc := 30) hx hb hK dX12_isBadCall_30 hk) ?_
  refine rz_All_c (i := 20) (fun k J hk hJ => rz_bipush_ok (pc := 31) hx hb dX12_isBadCall_31 (by decide) hk) ?_
  refine rz_All_c (i := 21) (fun k J hk hJ => rz_icmpne_ok (pc := 33) hx hb dX12_isBadCall_33 rfl hk (hJ 23)) ?_
  refine rz_All_c (i := 22) (fun k J hk hJ => rz_no_ok) ?_
  refine rz_All_c (i := 23) (fun k J hk hJ => rz_iconst_ok (pc := 40) hx hb dX12_isBadCall_40 rfl hk) ?_
  refine rz_All_c (i := 24) (fun k J hk hJ => rz_istore_n_ok (pc := 41) hx hb dX12_isBadCall_41 rfl hk) ?_
  refine rz_All_c (i := 25) (fun k J hk hJ => rz_aload_n_ok (pc := 42) hx hb dX12_isBadCall_42 rfl hk) ?_
  refine rz_All_c (i := 26) (fun k J hk hJ => rz_getf_ok (pc := 43) (own := RX12) (ref := "ThreadJudgeModel") (C := RX12) (T := TX12) (N := 257) (ci := 14) (index := 102) (f := 44) (t := 2) (Ts := Cond.code yX12_isBadCall cX12_isBadCall 4 (some .boolean) :: rz_TB) hx hb hts rz_in14 ho hK rfl (by decide) rfl (fun _ => rfl) (hw (i := 40) (j := 12) rfl rfl) (fun _ z => z) dX12_isBadCall_43 hk) ?_
  refine rz_All_c (i := 27) (fun k J hk hJ => rz_iload_n_ok (pc := 46) hx hb dX12_isBadCall_46 rfl hk) ?_
  refine rz_All_c (i := 28) (fun k J hk hJ => rz_iald_ok (pc := 47) hx hb hK dX12_isBadCall_47 hk) ?_
  refine rz_All_c (i := 29) (fun k J hk hJ => rz_tsw_ok (pc := 48) (pcs := rpX12_isBadCall) (js := [30, 39, 40]) (d := 41) (lo := 49) hx hb dX12_isBadCall_48 (by decide +kernel) hJ) ?_
  refine rz_All_c (i := 30) (fun k J hk hJ => rz_aload_n_ok (pc := 76) hx hb dX12_isBadCall_76 rfl hk) ?_
  refine rz_All_c (i := 31) (fun k J hk hJ => rz_iload_n_ok (pc := 77) hx hb dX12_isBadCall_77 rfl hk) ?_
  refine rz_All_c (i := 32) (fun k J hk hJ => rz_callV_ok (pc := 78) (own := RX12) (C := RX12) (T0 := TX12) (N0 := 257) hC rfl (rmX12_isStatic l hG) (rz_cwV 1 hC rz_good (rz_mem (i := 45) (j := 0) rfl rfl) (rz_mem (i := 45) (j := 1) rfl rfl) (rz_mem (i := 45) (j := 2) rfl rfl) (rz_mem (i := 32) (j := 8) rfl rfl) (rz_mem (i := 45) (j := 3) rfl rfl) ⟨rfl, by decide, by decide, by decide +kernel⟩ rfl rfl ⟨by decide, by decide⟩) rfl dX12_isBadCall_78 hk) ?_
  refine rz_All_c (i := 33) (fun k J hk hJ => rz_ifne_ok (pc := 81) hx hb dX12_isBadCall_81 rfl hk (hJ 36)) ?_
  refine rz_All_c (i := 34) (fun k J hk hJ => rz_iload_n_ok (pc := 84) hx hb dX12_isBadCall_84 rfl hk) ?_
  refine rz_All_c (i := 35) (fun k J hk hJ => rz_ifeq_ok (pc := 85) hx hb dX12_isBadCall_85 rfl hk (hJ 37)) ?_
  refine rz_All_c (i := 36) (fun k J hk hJ => rz_no_ok) ?_
  refine rz_All_c (i := 37) (fun k J hk hJ => rz_iconst_ok (pc := 92) hx hb dX12_isBadCall_92 rfl hk) ?_
  refine rz_All_c (i := 38) (fun k J hk hJ => rz_zret_ok (pc := 93) hC dX12_isBadCall_93) ?_
  refine rz_All_c (i := 39) (fun k J hk hJ => rz_no_ok) ?_
  refine rz_All_c (i := 40) (fun k J hk hJ => rz_no_ok) ?_
  refine rz_All_c (i := 41) (fun k J hk hJ => rz_no_ok) ?_
  exact trivial
theorem dX12_fieldFound_0 : decode cX12_fieldFound 0 = .ok (.iload_n 1, 1) := by decide +kernel
theorem dX12_fieldFound_1 : decode cX12_fieldFound 1 = .ok (.istore 4, 2) := by decide +kernel
theorem dX12_fieldFound_3 : decode cX12_fieldFound 3 = .ok (.iload 4, 2) := by decide +kernel
theorem dX12_fieldFound_5 : decode cX12_fieldFound 5 = .ok (.ifCond .lt 70, 3) := by decide +kernel
theorem dX12_fieldFound_8 : decode cX12_fieldFound 8 = .ok (.aload_n 0, 1) := by decide +kernel
theorem dX12_fieldFound_9 : decode cX12_fieldFound 9 = .ok (.getfield 51, 3) := by decide +kernel
theorem dX12_fieldFound_12 : decode cX12_fieldFound 12 = .ok (.iload 4, 2) := by decide +kernel
theorem dX12_fieldFound_14 : decode cX12_fieldFound 14 = .ok (.iaload, 1) := by decide +kernel
theorem dX12_fieldFound_15 : decode cX12_fieldFound 15 = .ok (.istore 5, 2) := by decide +kernel
theorem dX12_fieldFound_17 : decode cX12_fieldFound 17 = .ok (.iload 5, 2) := by decide +kernel
theorem dX12_fieldFound_19 : decode cX12_fieldFound 19 = .ok (.aload_n 0, 1) := by decide +kernel
theorem dX12_fieldFound_20 : decode cX12_fieldFound 20 = .ok (.getfield 51, 3) := by decide +kernel
theorem dX12_fieldFound_23 : decode cX12_fieldFound 23 = .ok (.iload 4, 2) := by decide +kernel
theorem dX12_fieldFound_25 : decode cX12_fieldFound 25 = .ok (.iconst 1, 1) := by decide +kernel
theorem dX12_fieldFound_26 : decode cX12_fieldFound 26 = .ok (.iadd, 1) := by decide +kernel
theorem dX12_fieldFound_27 : decode cX12_fieldFound 27 = .ok (.iaload, 1) := by decide +kernel
theorem dX12_fieldFound_28 : decode cX12_fieldFound 28 = .ok (.if_icmp .ge 35, 3) := by decide +kernel
theorem dX12_fieldFound_31 : decode cX12_fieldFound 31 = .ok (.aload_n 0, 1) := by decide +kernel
theorem dX12_fieldFound_32 : decode cX12_fieldFound 32 = .ok (.aload_n 0, 1) := by decide +kernel
theorem dX12_fieldFound_33 : decode cX12_fieldFound 33 = .ok (.getfield 57, 3) := by decide +kernel
theorem dX12_fieldFound_36 : decode cX12_fieldFound 36 = .ok (.iload 5, 2) := by decide +kernel
theorem dX12_fieldFound_38 : decode cX12_fieldFound 38 = .ok (.iaload, 1) := by decide +kernel
theorem dX12_fieldFound_39 : decode cX12_fieldFound 39 = .ok (.aload_n 0, 1) := by decide +kernel
theorem dX12_fieldFound_40 : decode cX12_fieldFound 40 = .ok (.getfield 60, 3) := by decide +kernel
theorem dX12_fieldFound_43 : decode cX12_fieldFound 43 = .ok (.iload 5, 2) := by decide +kernel
theorem dX12_fieldFound_45 : decode cX12_fieldFound 45 = .ok (.iaload, 1) := by decide +kernel
theorem dX12_fieldFound_46 : decode cX12_fieldFound 46 = .ok (.iload_n 2, 1) := by decide +kernel
theorem dX12_fieldFound_47 : decode cX12_fieldFound 47 = .ok (.iload_n 3, 1) := by decide +kernel
theorem dX12_fieldFound_48 : decode cX12_fieldFound 48 = .ok (.invokevirtual 734, 3) := by decide +kernel
theorem dX12_fieldFound_51 : decode cX12_fieldFound 51 = .ok (.ifCond .eq 6, 3) := by decide +kernel
theorem dX12_fieldFound_54 : decode cX12_fieldFound 54 = .ok (.iload 5, 2) := by decide +kernel
theorem dX12_fieldFound_56 : decode cX12_fieldFound 56 = .ok (.ireturn, 1) := by decide +kernel
def rpX12_fieldFound : List Nat := [0, 1, 3, 5, 8, 9, 12, 14, 15, 17, 19, 20, 23, 25, 26, 27, 28, 31, 32, 33, 36, 38, 39, 40, 43, 45, 46, 47, 48, 51, 54, 56, 57, 63, 75]
noncomputable def rcX12_fieldFound : List rz_B := [rz_iload 1, rz_istore 4, rz_iload 4, rz_iflt 34, rz_aload 0, rz_getf (Nat.add (Nat.mul 256 14) 1) 24 rz_r, rz_iload 4, rz_iald, rz_istore 5, rz_iload 5, rz_aload 0, rz_getf (Nat.add (Nat.mul 256 14) 1) 24 rz_r, rz_iload 4, rz_cst 1, rz_iadd, rz_iald, rz_icmpge 33, rz_aload 0, rz_aload 0, rz_getf (Nat.add (Nat.mul 256 14) 1) 27 rz_r, rz_iload 5, rz_iald, rz_aload 0, rz_getf (Nat.add (Nat.mul 256 14) 1) 28 rz_r, rz_iload 5, rz_iald, rz_iload 2, rz_iload 3, rz_callV 4 (Nat.add (Nat.mul 256 14) 1) rgX12_isSame, rz_ifeq 32, rz_iload 5, rz_iret, rz_no, rz_no, rz_no]
noncomputable def rgX12_fieldFound : rz_L → rz_M → rz_Z → Bool := rz_go rcX12_fieldFound 6 1000000
def rrX12_fieldFound : Room := { frames := 1, cells := 0, slots := 0, locals := 26 }
theorem rmX12_fieldFound (l : Launch) {G : rz_G} (hG : rz_Gd G) (vs : rz_L) (M : rz_M) (Z : rz_Z) (hn : vs.length = 4) (h : rgX12_fieldFound vs M Z = true) : Met l yX12_fieldFound (Cond.code yX12_fieldFound cX12_fieldFound 6 (some .int) :: rz_TB) rrX12_fieldFound (rz_Pre G vs M) (rz_Qi G M.2 Z) 0 0 (fun q => rz_b G ≤ q) := by
  obtain ⟨D, tc, ad, b, xs, rfl⟩ := id hG
  refine rz_body (pcs := rpX12_fieldFound) (by decide) rfl (by rw [hn]; decide) h ?_
  intro p e R s m args below meth c hC
  obtain ⟨hx, hb, hml, hr, hlk, ho, hts, hKn, hRm⟩ := id hC
  obtain ⟨hK, hA, hSt⟩ := id hKn
  have hw : ∀ {i j : Nat} {ws : List Cond} {w : Cond}, rz_WW[i]? = some ws → ws[j]? = some w → w.before args s = true := fun h1 h2 => hts _ (List.mem_cons_of_mem _ (rz_mem h1 h2))
  refine rz_All_c (i := 0) (fun k J hk hJ => rz_iload_n_ok (pc := 0) hx hb dX12_fieldFound_0 rfl hk) ?_
  refine rz_All_c (i := 1) (fun k J hk hJ => rz_istore_ok (pc := 1) hx hb dX12_fieldFound_1 hk) ?_
  refine rz_All_c (i := 2) (fun k J hk hJ => rz_iload_ok (pc := 3) hx hb dX12_fieldFound_3 hk) ?_
  refine rz_All_c (i := 3) (fun k J hk hJ => rz_iflt_ok (pc := 5) hx hb dX12_fieldFound_5 rfl hk (hJ 34)) ?_
  refine rz_All_c (i := 4) (fun k J hk hJ => rz_aload_n_ok (pc := 8) hx hb dX12_fieldFound_8 rfl hk) ?_
  refine rz_All_c (i := 5) (fun k J hk hJ => rz_getf_ok (pc := 9) (own := RX12) (ref := "ThreadJudgeModel") (C := RX12) (T := TX12) (N := 257) (ci := 14) (index := 51) (f := 24) (t := 2) (Ts := Cond.code yX12_fieldFound cX12_fieldFound 6 (some .int) :: rz_TB) hx hb hts rz_in14 ho hK rfl (by decide) rfl (fun _ => rfl) (hw (i := 36) (j := 19) rfl rfl) (fun _ z => z) dX12_fieldFound_9 hk) ?_
  refine rz_All_c (i := 6) (fun k J hk hJ => rz_iload_ok (pc := 12) hx hb dX12_fieldFound_12 hk) ?_
  refine rz_All_c (i := 7) (fun k J hk hJ => rz_iald_ok (pc := 14) hx hb hK dX12_fieldFound_14 hk) ?_
  refine rz_All_c (i := 8) (fun k J hk hJ => rz_istore_ok (pc := 15) hx hb dX12_fieldFound_15 hk) ?_
  refine rz_All_c (i := 9) (fun k J hk hJ => rz_iload_ok (pc := 17) hx hb dX12_fieldFound_17 hk) ?_
  refine rz_All_c (i := 10) (fun k J hk hJ => rz_aload_n_ok (pc := 19) hx hb dX12_fieldFound_19 rfl hk) ?_
  refine rz_All_c (i := 11) (fun k J hk hJ => rz_getf_ok (pc := 20) (own := RX12) (ref := "ThreadJudgeModel") (C := RX12) (T := TX12) (N := 257) (ci := 14) (index := 51) (f := 24) (t := 2) (Ts := Cond.code yX12_fieldFound cX12_fieldFound 6 (some .int) :: rz_TB) hx hb hts rz_in14 ho hK rfl (by decide) rfl (fun _ => rfl) (hw (i := 36) (j := 19) rfl rfl) (fun _ z => z) dX12_fieldFound_20 hk) ?_
  refine rz_All_c (i := 12) (fun k J hk hJ => rz_iload_ok (pc := 23) hx hb dX12_fieldFound_23 hk) ?_
  refine rz_All_c (i := 13) (fun k J hk hJ => rz_iconst_ok (pc := 25) hx hb dX12_fieldFound_25 rfl hk) ?_
  refine rz_All_c (i := 14) (fun k J hk hJ => rz_iadd_ok (pc := 26) hx hb dX12_fieldFound_26 hk) ?_
  refine rz_All_c (i := 15) (fun k J hk hJ => rz_iald_ok (pc := 27) hx hb hK dX12_fieldFound_27 hk) ?_
  refine rz_All_c (i := 16) (fun k J hk hJ => rz_icmpge_ok (pc := 28) hx hb dX12_fieldFound_28 rfl hk (hJ 33)) ?_
  refine rz_All_c (i := 17) (fun k J hk hJ => rz_aload_n_ok (pc := 31) hx hb dX12_fieldFound_31 rfl hk) ?_
  refine rz_All_c (i := 18) (fun k J hk hJ => rz_aload_n_ok (pc := 32) hx hb dX12_fieldFound_32 rfl hk) ?_
  refine rz_All_c (i := 19) (fun k J hk hJ => rz_getf_ok (pc := 33) (own := RX12) (ref := "ThreadJudgeModel") (C := RX12) (T := TX12) (N := 257) (ci := 14) (index := 57) (f := 27) (t := 2) (Ts := Cond.code yX12_fieldFound cX12_fieldFound 6 (some .int) :: rz_TB) hx hb hts rz_in14 ho hK rfl (by decide) rfl (fun _ => rfl) (hw (i := 39) (j := 0) rfl rfl) (fun _ z => z) dX12_fieldFound_33 hk) ?_
  refine rz_All_c (i := 20) (fun k J hk hJ => rz_iload_ok (pc := 36) hx hb dX12_fieldFound_36 hk) ?_
  refine rz_All_c (i := 21) (fun k J hk hJ => rz_iald_ok (pc := 38) hx hb hK dX12_fieldFound_38 hk) ?_
  refine rz_All_c (i := 22) (fun k J hk hJ => rz_aload_n_ok (pc := 39) hx hb dX12_fieldFound_39 rfl hk) ?_
  refine rz_All_c (i := 23) (fun k J hk hJ => rz_getf_ok (pc := 40) (own := RX12) (ref := "ThreadJudgeModel") (C := RX12) (T := TX12) (N := 257) (ci := 14) (index := 60) (f := 28) (t := 2) (Ts := Cond.code yX12_fieldFound cX12_fieldFound 6 (some .int) :: rz_TB) hx hb hts rz_in14 ho hK rfl (by decide) rfl (fun _ => rfl) (hw (i := 39) (j := 1) rfl rfl) (fun _ z => z) dX12_fieldFound_40 hk) ?_
  refine rz_All_c (i := 24) (fun k J hk hJ => rz_iload_ok (pc := 43) hx hb dX12_fieldFound_43 hk) ?_
  refine rz_All_c (i := 25) (fun k J hk hJ => rz_iald_ok (pc := 45) hx hb hK dX12_fieldFound_45 hk) ?_
  refine rz_All_c (i := 26) (fun k J hk hJ => rz_iload_n_ok (pc := 46) hx hb dX12_fieldFound_46 rfl hk) ?_
  refine rz_All_c (i := 27) (fun k J hk hJ => rz_iload_n_ok (pc := 47) hx hb dX12_fieldFound_47 rfl hk) ?_
  refine rz_All_c (i := 28) (fun k J hk hJ => rz_callV_ok (pc := 48) (own := RX12) (C := RX12) (T0 := TX12) (N0 := 257) hC rfl (rmX12_isSame l hG) (rz_cwV 4 hC rz_good (rz_mem (i := 41) (j := 16) rfl rfl) (rz_mem (i := 41) (j := 17) rfl rfl) (rz_mem (i := 41) (j := 18) rfl rfl) (rz_mem (i := 32) (j := 8) rfl rfl) (rz_mem (i := 41) (j := 19) rfl rfl) ⟨rfl, by decide, by decide, by decide +kernel⟩ rfl rfl ⟨by decide, by decide⟩) rfl dX12_fieldFound_48 hk) ?_
  refine rz_All_c (i := 29) (fun k J hk hJ => rz_ifeq_ok (pc := 51) hx hb dX12_fieldFound_51 rfl hk (hJ 32)) ?_
  refine rz_All_c (i := 30) (fun k J hk hJ => rz_iload_ok (pc := 54) hx hb dX12_fieldFound_54 hk) ?_
  refine rz_All_c (i := 31) (fun k J hk hJ => rz_iret_ok (pc := 56) hC dX12_fieldFound_56) ?_
  refine rz_All_c (i := 32) (fun k J hk hJ => rz_no_ok) ?_
  refine rz_All_c (i := 33) (fun k J hk hJ => rz_no_ok) ?_
  refine rz_All_c (i := 34) (fun k J hk hJ => rz_no_ok) ?_
  exact trivial
theorem dX12_isNamed_0 : decode cX12_isNamed 0 = .ok (.iload_n 2, 1) := by decide +kernel
theorem dX12_isNamed_1 : decode cX12_isNamed 1 = .ok (.aload_n 3, 1) := by decide +kernel
theorem dX12_isNamed_2 : decode cX12_isNamed 2 = .ok (.invokevirtual 626, 3) := by decide +kernel
theorem dX12_isNamed_5 : decode cX12_isNamed 5 = .ok (.if_icmp .ne 7, 3) := by decide +kernel
theorem dX12_isNamed_8 : decode cX12_isNamed 8 = .ok (.iconst 1, 1) := by decide +kernel
theorem dX12_isNamed_9 : decode cX12_isNamed 9 = .ok (.goto 4, 3) := by decide +kernel
theorem dX12_isNamed_12 : decode cX12_isNamed 12 = .ok (.iconst 0, 1) := by decide +kernel
theorem dX12_isNamed_13 : decode cX12_isNamed 13 = .ok (.istore 4, 2) := by decide +kernel
theorem dX12_isNamed_15 : decode cX12_isNamed 15 = .ok (.iconst 0, 1) := by decide +kernel
theorem dX12_isNamed_16 : decode cX12_isNamed 16 = .ok (.istore 5, 2) := by decide +kernel
theorem dX12_isNamed_18 : decode cX12_isNamed 18 = .ok (.iload 5, 2) := by decide +kernel
theorem dX12_isNamed_20 : decode cX12_isNamed 20 = .ok (.iload_n 2, 1) := by decide +kernel
theorem dX12_isNamed_21 : decode cX12_isNamed 21 = .ok (.if_icmp .ge 39, 3) := by decide +kernel
theorem dX12_isNamed_24 : decode cX12_isNamed 24 = .ok (.iload 4, 2) := by decide +kernel
theorem dX12_isNamed_26 : decode cX12_isNamed 26 = .ok (.ifCond .eq 34, 3) := by decide +kernel
theorem dX12_isNamed_29 : decode cX12_isNamed 29 = .ok (.aload_n 0, 1) := by decide +kernel
theorem dX12_isNamed_30 : decode cX12_isNamed 30 = .ok (.getfield 13, 3) := by decide +kernel
theorem dX12_isNamed_33 : decode cX12_isNamed 33 = .ok (.iload_n 1, 1) := by decide +kernel
theorem dX12_isNamed_34 : decode cX12_isNamed 34 = .ok (.iload 5, 2) := by decide +kernel
theorem dX12_isNamed_36 : decode cX12_isNamed 36 = .ok (.iadd, 1) := by decide +kernel
theorem dX12_isNamed_37 : decode cX12_isNamed 37 = .ok (.iaload, 1) := by decide +kernel
theorem dX12_isNamed_38 : decode cX12_isNamed 38 = .ok (.aload_n 3, 1) := by decide +kernel
theorem dX12_isNamed_39 : decode cX12_isNamed 39 = .ok (.iload 5, 2) := by decide +kernel
theorem dX12_isNamed_41 : decode cX12_isNamed 41 = .ok (.invokevirtual 631, 3) := by decide +kernel
theorem dX12_isNamed_44 : decode cX12_isNamed 44 = .ok (.if_icmp .ne 7, 3) := by decide +kernel
theorem dX12_isNamed_47 : decode cX12_isNamed 47 = .ok (.iconst 1, 1) := by decide +kernel
theorem dX12_isNamed_48 : decode cX12_isNamed 48 = .ok (.goto 4, 3) := by decide +kernel
theorem dX12_isNamed_52 : decode cX12_isNamed 52 = .ok (.istore 4, 2) := by decide +kernel
theorem dX12_isNamed_54 : decode cX12_isNamed 54 = .ok (.iinc 5 1, 3) := by decide +kernel
theorem dX12_isNamed_57 : decode cX12_isNamed 57 = .ok (.goto (-39), 3) := by decide +kernel
theorem dX12_isNamed_60 : decode cX12_isNamed 60 = .ok (.iload 4, 2) := by decide +kernel
theorem dX12_isNamed_62 : decode cX12_isNamed 62 = .ok (.ireturn, 1) := by decide +kernel
def rpX12_isNamed : List Nat := [0, 1, 2, 5, 8, 9, 12, 13, 15, 16, 18, 20, 21, 24, 26, 29, 30, 33, 34, 36, 37, 38, 39, 41, 44, 47, 48, 51, 52, 54, 57, 60, 62]
noncomputable def rcX12_isNamed : List rz_B := [rz_iload 2, rz_aload 3, rz_callT 0 rgJ0_length_8abf5_f, rz_icmpne 6, rz_cst 1, rz_goto 7, rz_cst 0, rz_istore 4, rz_cst 0, rz_istore 5, rz_iload 5, rz_iload 2, rz_icmpge 31, rz_iload 4, rz_ifeq 31, rz_aload 0, rz_getf (Nat.add (Nat.mul 256 14) 1) 2 rz_r, rz_iload 1, rz_iload 5, rz_iadd, rz_iald, rz_aload 3, rz_iload 5, rz_callT 1 rgJ0_charAt_5068e_f, rz_icmpne 27, rz_cst 1, rz_goto 28, rz_no, rz_istore 4, rz_iinc 5 1, rz_goto 10, rz_iload 4, rz_zret]
noncomputable def rgX12_isNamed : rz_L → rz_M → rz_Z → Bool := rz_go rcX12_isNamed 6 1000000
def rrX12_isNamed : Room := { frames := 4, cells := 0, slots := 0, locals := 123 }
theorem rmX12_isNamed (l : Launch) {G : rz_G} (hG : rz_Gd G) (vs : rz_L) (M : rz_M) (Z : rz_Z) (hn : vs.length = 4) (h : rgX12_isNamed vs M Z = true) : Met l yX12_isNamed (Cond.code yX12_isNamed cX12_isNamed 6 (some .boolean) :: rz_TB) rrX12_isNamed (rz_Pre G vs M) (rz_Qi G M.2 Z) 0 0 (fun q => rz_b G ≤ q) := by
  obtain ⟨D, tc, ad, b, xs, rfl⟩ := id hG
  refine rz_body (pcs := rpX12_isNamed) (by decide) rfl (by rw [hn]; decide) h ?_
  intro p e R s m args below meth c hC
  obtain ⟨hx, hb, hml, hr, hlk, ho, hts, hKn, hRm⟩ := id hC
  obtain ⟨hK, hA, hSt⟩ := id hKn
  have hw : ∀ {i j : Nat} {ws : List Cond} {w : Cond}, rz_WW[i]? = some ws → ws[j]? = some w → w.before args s = true := fun h1 h2 => hts _ (List.mem_cons_of_mem _ (rz_mem h1 h2))
  refine rz_All_c (i := 0) (fun k J hk hJ => rz_iload_n_ok (pc := 0) hx hb dX12_isNamed_0 rfl hk) ?_
  refine rz_All_c (i := 1) (fun k J hk hJ => rz_aload_n_ok (pc := 1) hx hb dX12_isNamed_1 rfl hk) ?_
  refine rz_All_c (i := 2) (fun k J hk hJ => rz_callT_ok (pc := 2) (own := RX12) hC rfl (rmJ0_length_8abf5_f l hG) (rz_cwV 0 hC rz_good (rz_mem (i := 37) (j := 8) rfl rfl) (rz_mem (i := 6) (j := 13) rfl rfl) (rz_mem (i := 6) (j := 14) rfl rfl) (rz_mem (i := 5) (j := 23) rfl rfl) (rz_mem (i := 6) (j := 15) rfl rfl) ⟨rfl, by decide, by decide, by decide +kernel⟩ rfl rfl ⟨by decide, by decide⟩) dX12_isNamed_2 hk) ?_
  refine rz_All_c (i := 3) (fun k J hk hJ => rz_icmpne_ok (pc := 5) hx hb dX12_isNamed_5 rfl hk (hJ 6)) ?_
  refine rz_All_c (i := 4) (fun k J hk hJ => rz_iconst_ok (pc := 8) hx hb dX12_isNamed_8 rfl hk) ?_
  refine rz_All_c (i := 5) (fun k J hk hJ => rz_goto_ok (pc := 9) hx hb dX12_isNamed_9 rfl (hJ 7)) ?_
  refine rz_All_c (i := 6) (fun k J hk hJ => rz_iconst_ok (pc := 12) hx hb dX12_isNamed_12 rfl hk) ?_
  refine rz_All_c (i := 7) (fun k J hk hJ => rz_istore_ok (pc := 13) hx hb dX12_isNamed_13 hk) ?_
  refine rz_All_c (i := 8) (fun k J hk hJ => rz_iconst_ok (pc := 15) hx hb dX12_isNamed_15 rfl hk) ?_
  refine rz_All_c (i := 9) (fun k J hk hJ => rz_istore_ok (pc := 16) hx hb dX12_isNamed_16 hk) ?_
  refine rz_All_c (i := 10) (fun k J hk hJ => rz_iload_ok (pc := 18) hx hb dX12_isNamed_18 hk) ?_
  refine rz_All_c (i := 11) (fun k J hk hJ => rz_iload_n_ok (pc := 20) hx hb dX12_isNamed_20 rfl hk) ?_
  refine rz_All_c (i := 12) (fun k J hk hJ => rz_icmpge_ok (pc := 21) hx hb dX12_isNamed_21 rfl hk (hJ 31)) ?_
  refine rz_All_c (i := 13) (fun k J hk hJ => rz_iload_ok (pc := 24) hx hb dX12_isNamed_24 hk) ?_
  refine rz_All_c (i := 14) (fun k J hk hJ => rz_ifeq_ok (pc := 26) hx hb dX12_isNamed_26 rfl hk (hJ 31)) ?_
  refine rz_All_c (i := 15) (fun k J hk hJ => rz_aload_n_ok (pc := 29) hx hb dX12_isNamed_29 rfl hk) ?_
  refine rz_All_c (i := 16) (fun k J hk hJ => rz_getf_ok (pc := 30) (own := RX12) (ref := "ThreadJudgeModel") (C := RX12) (T := TX12) (N := 257) (ci := 14) (index := 13) (f := 2) (t := 2) (Ts := Cond.code yX12_isNamed cX12_isNamed 6 (some .boolean) :: rz_TB) hx hb hts rz_in14 ho hK rfl (by decide) rfl (fun _ => rfl) (hw (i := 32) (j := 13) rfl rfl) (fun _ z => z) dX12_isNamed_30 hk) ?_
  refine rz_All_c (i := 17) (fun k J hk hJ => rz_iload_n_ok (pc := 33) hx hb dX12_isNamed_33 rfl hk) ?_
  refine rz_All_c (i := 18) (fun k J hk hJ => rz_iload_ok (pc := 34) hx hb dX12_isNamed_34 hk) ?_
  refine rz_All_c (i := 19) (fun k J hk hJ => rz_iadd_ok (pc := 36) hx hb dX12_isNamed_36 hk) ?_
  refine rz_All_c (i := 20) (fun k J hk hJ => rz_iald_ok (pc := 37) hx hb hK dX12_isNamed_37 hk) ?_
  refine rz_All_c (i := 21) (fun k J hk hJ => rz_aload_n_ok (pc := 38) hx hb dX12_isNamed_38 rfl hk) ?_
  refine rz_All_c (i := 22) (fun k J hk hJ => rz_iload_ok (pc := 39) hx hb dX12_isNamed_39 hk) ?_
  refine rz_All_c (i := 23) (fun k J hk hJ => rz_callT_ok (pc := 41) (own := RX12) hC rfl (rmJ0_charAt_5068e_f l hG) (rz_cwV 1 hC rz_good (rz_mem (i := 33) (j := 4) rfl rfl) (rz_mem (i := 13) (j := 21) rfl rfl) (rz_mem (i := 13) (j := 22) rfl rfl) (rz_mem (i := 5) (j := 23) rfl rfl) (rz_mem (i := 13) (j := 23) rfl rfl) ⟨rfl, by decide, by decide, by decide +kernel⟩ rfl rfl ⟨by decide, by decide⟩) dX12_isNamed_41 hk) ?_
  refine rz_All_c (i := 24) (fun k J hk hJ => rz_icmpne_ok (pc := 44) hx hb dX12_isNamed_44 rfl hk (hJ 27)) ?_
  refine rz_All_c (i := 25) (fun k J hk hJ => rz_iconst_ok (pc := 47) hx hb dX12_isNamed_47 rfl hk) ?_
  refine rz_All_c (i := 26) (fun k J hk hJ => rz_goto_ok (pc := 48) hx hb dX12_isNamed_48 rfl (hJ 28)) ?_
  refine rz_All_c (i := 27) (fun k J hk hJ => rz_no_ok) ?_
  refine rz_All_c (i := 28) (fun k J hk hJ => rz_istore_ok (pc := 52) hx hb dX12_isNamed_52 hk) ?_
  refine rz_All_c (i := 29) (fun k J hk hJ => rz_iinc_ok (pc := 54) hx hb dX12_isNamed_54 (by decide) hk) ?_
  refine rz_All_c (i := 30) (fun k J hk hJ => rz_goto_ok (pc := 57) hx hb dX12_isNamed_57 rfl (hJ 10)) ?_
  refine rz_All_c (i := 31) (fun k J hk hJ => rz_iload_ok (pc := 60) hx hb dX12_isNamed_60 hk) ?_
  refine rz_All_c (i := 32) (fun k J hk hJ => rz_zret_ok (pc := 62) hC dX12_isNamed_62) ?_
  exact trivial
theorem dX12_isClinit_0 : decode cX12_isClinit 0 = .ok (.aload_n 0, 1) := by decide +kernel
theorem dX12_isClinit_1 : decode cX12_isClinit 1 = .ok (.aload_n 0, 1) := by decide +kernel
theorem dX12_isClinit_2 : decode cX12_isClinit 2 = .ok (.getfield 69, 3) := by decide +kernel
theorem dX12_isClinit_5 : decode cX12_isClinit 5 = .ok (.iload_n 1, 1) := by decide +kernel
theorem dX12_isClinit_6 : decode cX12_isClinit 6 = .ok (.iaload, 1) := by decide +kernel
theorem dX12_isClinit_7 : decode cX12_isClinit 7 = .ok (.aload_n 0, 1) := by decide +kernel
theorem dX12_isClinit_8 : decode cX12_isClinit 8 = .ok (.getfield 72, 3) := by decide +kernel
theorem dX12_isClinit_11 : decode cX12_isClinit 11 = .ok (.iload_n 1, 1) := by decide +kernel
theorem dX12_isClinit_12 : decode cX12_isClinit 12 = .ok (.iaload, 1) := by decide +kernel
theorem dX12_isClinit_13 : decode cX12_isClinit 13 = .ok (.ldc_w 779, 3) := by decide +kernel
theorem dX12_isClinit_16 : decode cX12_isClinit 16 = .ok (.invokevirtual 775, 3) := by decide +kernel
theorem dX12_isClinit_19 : decode cX12_isClinit 19 = .ok (.ireturn, 1) := by decide +kernel
def rpX12_isClinit : List Nat := [0, 1, 2, 5, 6, 7, 8, 11, 12, 13, 16, 19]
noncomputable def rcX12_isClinit : List rz_B := [rz_aload 0, rz_aload 0, rz_getf (Nat.add (Nat.mul 256 14) 1) 32 rz_r, rz_iload 1, rz_iald, rz_aload 0, rz_getf (Nat.add (Nat.mul 256 14) 1) 33 rz_r, rz_iload 1, rz_iald, rz_txt 1000016, rz_callV 3 (Nat.add (Nat.mul 256 14) 1) rgX12_isNamed, rz_zret]
noncomputable def rgX12_isClinit : rz_L → rz_M → rz_Z → Bool := rz_go rcX12_isClinit 2 1000000
def rrX12_isClinit : Room := { frames := 5, cells := 0, slots := 0, locals := 148 }
theorem rmX12_isClinit (l : Launch) {G : rz_G} (hG : rz_Gd G) (vs : rz_L) (M : rz_M) (Z : rz_Z) (hn : vs.length = 2) (h : rgX12_isClinit vs M Z = true) : Met l yX12_isClinit (Cond.code yX12_isClinit cX12_isClinit 2 (some .boolean) :: rz_TB) rrX12_isClinit (rz_Pre G vs M) (rz_Qi G M.2 Z) 0 0 (fun q => rz_b G ≤ q) := by
  obtain ⟨D, tc, ad, b, xs, rfl⟩ := id hG
  refine rz_body (pcs := rpX12_isClinit) (by decide) rfl (by rw [hn]; decide) h ?_
  intro p e R s m args below meth c hC
  obtain ⟨hx, hb, hml, hr, hlk, ho, hts, hKn, hRm⟩ := id hC
  obtain ⟨hK, hA, hSt⟩ := id hKn
  have hw : ∀ {i j : Nat} {ws : List Cond} {w : Cond}, rz_WW[i]? = some ws → ws[j]? = some w → w.before args s = true := fun h1 h2 => hts _ (List.mem_cons_of_mem _ (rz_mem h1 h2))
  refine rz_All_c (i := 0) (fun k J hk hJ => rz_aload_n_ok (pc := 0) hx hb dX12_isClinit_0 rfl hk) ?_
  refine rz_All_c (i := 1) (fun k J hk hJ => rz_aload_n_ok (pc := 1) hx hb dX12_isClinit_1 rfl hk) ?_
  refine rz_All_c (i := 2) (fun k J hk hJ => rz_getf_ok (pc := 2) (own := RX12) (ref := "ThreadJudgeModel") (C := RX12) (T := TX12) (N := 257) (ci := 14) (index := 69) (f := 32) (t := 2) (Ts := Cond.code yX12_isClinit cX12_isClinit 2 (some .boolean) :: rz_TB) hx hb hts rz_in14 ho hK rfl (by decide) rfl (fun _ => rfl) (hw (i := 39) (j := 15) rfl rfl) (fun _ z => z) dX12_isClinit_2 hk) ?_
  refine rz_All_c (i := 3) (fun k J hk hJ => rz_iload_n_ok (pc := 5) hx hb dX12_isClinit_5 rfl hk) ?_
  refine rz_All_c (i := 4) (fun k J hk hJ => rz_iald_ok (pc := 6) hx hb hK dX12_isClinit_6 hk) ?_
  refine rz_All_c (i := 5) (fun k J hk hJ => rz_aload_n_ok (pc := 7) hx hb dX12_isClinit_7 rfl hk) ?_
  refine rz_All_c (i := 6) (fun k J hk hJ => rz_getf_ok (pc := 8) (own := RX12) (ref := "ThreadJudgeModel") (C := RX12) (T := TX12) (N := 257) (ci := 14) (index := 72) (f := 33) (t := 2) (Ts := Cond.code yX12_isClinit cX12_isClinit 2 (some .boolean) :: rz_TB) hx hb hts rz_in14 ho hK rfl (by decide) rfl (fun _ => rfl) (hw (i := 39) (j := 16) rfl rfl) (fun _ z => z) dX12_isClinit_8 hk) ?_
  refine rz_All_c (i := 7) (fun k J hk hJ => rz_iload_n_ok (pc := 11) hx hb dX12_isClinit_11 rfl hk) ?_
  refine rz_All_c (i := 8) (fun k J hk hJ => rz_iald_ok (pc := 12) hx hb hK dX12_isClinit_12 hk) ?_
  refine rz_All_c (i := 9) (fun k J hk hJ => rz_ldcwS_ok (pc := 13) (i := 15) hx hb (hSt.2.1 ("ThreadJudgeModel", 779, "<clinit>", 15) (List.mem_of_getElem? (i := 16) rfl)) ho dX12_isClinit_13 hk) ?_
  refine rz_All_c (i := 10) (fun k J hk hJ => rz_callV_ok (pc := 16) (own := RX12) (C := RX12) (T0 := TX12) (N0 := 257) hC rfl (rmX12_isNamed l hG) (rz_cwV 3 hC rz_good (rz_mem (i := 44) (j := 16) rfl rfl) (rz_mem (i := 44) (j := 17) rfl rfl) (rz_mem (i := 44) (j := 18) rfl rfl) (rz_mem (i := 32) (j := 8) rfl rfl) (rz_mem (i := 44) (j := 19) rfl rfl) ⟨rfl, by decide, by decide, by decide +kernel⟩ rfl rfl ⟨by decide, by decide⟩) rfl dX12_isClinit_16 hk) ?_
  refine rz_All_c (i := 11) (fun k J hk hJ => rz_zret_ok (pc := 19) hC dX12_isClinit_19) ?_
  exact trivial
theorem dX12_isInit_0 : decode cX12_isInit 0 = .ok (.aload_n 0, 1) := by decide +kernel
theorem dX12_isInit_1 : decode cX12_isInit 1 = .ok (.aload_n 0, 1) := by decide +kernel
theorem dX12_isInit_2 : decode cX12_isInit 2 = .ok (.getfield 69, 3) := by decide +kernel
theorem dX12_isInit_5 : decode cX12_isInit 5 = .ok (.iload_n 1, 1) := by decide +kernel
theorem dX12_isInit_6 : decode cX12_isInit 6 = .ok (.iaload, 1) := by decide +kernel
theorem dX12_isInit_7 : decode cX12_isInit 7 = .ok (.aload_n 0, 1) := by decide +kernel
theorem dX12_isInit_8 : decode cX12_isInit 8 = .ok (.getfield 72, 3) := by decide +kernel
theorem dX12_isInit_11 : decode cX12_isInit 11 = .ok (.iload_n 1, 1) := by decide +kernel
theorem dX12_isInit_12 : decode cX12_isInit 12 = .ok (.iaload, 1) := by decide +kernel
theorem dX12_isInit_13 : decode cX12_isInit 13 = .ok (.ldc_w 774, 3) := by decide +kernel
theorem dX12_isInit_16 : decode cX12_isInit 16 = .ok (.invokevirtual 775, 3) := by decide +kernel
theorem dX12_isInit_19 : decode cX12_isInit 19 = .ok (.ireturn, 1) := by decide +kernel
def rpX12_isInit : List Nat := [0, 1, 2, 5, 6, 7, 8, 11, 12, 13, 16, 19]
noncomputable def rcX12_isInit : List rz_B := [rz_aload 0, rz_aload 0, rz_getf (Nat.add (Nat.mul 256 14) 1) 32 rz_r, rz_iload 1, rz_iald, rz_aload 0, rz_getf (Nat.add (Nat.mul 256 14) 1) 33 rz_r, rz_iload 1, rz_iald, rz_txt 1000015, rz_callV 3 (Nat.add (Nat.mul 256 14) 1) rgX12_isNamed, rz_zret]
noncomputable def rgX12_isInit : rz_L → rz_M → rz_Z → Bool := rz_go rcX12_isInit 2 1000000
def rrX12_isInit : Room := { frames := 5, cells := 0, slots := 0, locals := 148 }
theorem rmX12_isInit (l : Launch) {G : rz_G} (hG : rz_Gd G) (vs : rz_L) (M : rz_M) (Z : rz_Z) (hn : vs.length = 2) (h : rgX12_isInit vs M Z = true) : Met l yX12_isInit (Cond.code yX12_isInit cX12_isInit 2 (some .boolean) :: rz_TB) rrX12_isInit (rz_Pre G vs M) (rz_Qi G M.2 Z) 0 0 (fun q => rz_b G ≤ q) := by
  obtain ⟨D, tc, ad, b, xs, rfl⟩ := id hG
  refine rz_body (pcs := rpX12_isInit) (by decide) rfl (by rw [hn]; decide) h ?_
  intro p e R s m args below meth c hC
  obtain ⟨hx, hb, hml, hr, hlk, ho, hts, hKn, hRm⟩ := id hC
  obtain ⟨hK, hA, hSt⟩ := id hKn
  have hw : ∀ {i j : Nat} {ws : List Cond} {w : Cond}, rz_WW[i]? = some ws → ws[j]? = some w → w.before args s = true := fun h1 h2 => hts _ (List.mem_cons_of_mem _ (rz_mem h1 h2))
  refine rz_All_c (i := 0) (fun k J hk hJ => rz_aload_n_ok (pc := 0) hx hb dX12_isInit_0 rfl hk) ?_
  refine rz_All_c (i := 1) (fun k J hk hJ => rz_aload_n_ok (pc := 1) hx hb dX12_isInit_1 rfl hk) ?_
  refine rz_All_c (i := 2) (fun k J hk hJ => rz_getf_ok (pc := 2) (own := RX12) (ref := "ThreadJudgeModel") (C := RX12) (T := TX12) (N := 257) (ci := 14) (index := 69) (f := 32) (t := 2) (Ts := Cond.code yX12_isInit cX12_isInit 2 (some .boolean) :: rz_TB) hx hb hts rz_in14 ho hK rfl (by decide) rfl (fun _ => rfl) (hw (i := 39) (j := 15) rfl rfl) (fun _ z => z) dX12_isInit_2 hk) ?_
  refine rz_All_c (i := 3) (fun k J hk hJ => rz_iload_n_ok (pc := 5) hx hb dX12_isInit_5 rfl hk) ?_
  refine rz_All_c (i := 4) (fun k J hk hJ => rz_iald_ok (pc := 6) hx hb hK dX12_isInit_6 hk) ?_
  refine rz_All_c (i := 5) (fun k J hk hJ => rz_aload_n_ok (pc := 7) hx hb dX12_isInit_7 rfl hk) ?_
  refine rz_All_c (i := 6) (fun k J hk hJ => rz_getf_ok (pc := 8) (own := RX12) (ref := "ThreadJudgeModel") (C := RX12) (T := TX12) (N := 257) (ci := 14) (index := 72) (f := 33) (t := 2) (Ts := Cond.code yX12_isInit cX12_isInit 2 (some .boolean) :: rz_TB) hx hb hts rz_in14 ho hK rfl (by decide) rfl (fun _ => rfl) (hw (i := 39) (j := 16) rfl rfl) (fun _ z => z) dX12_isInit_8 hk) ?_
  refine rz_All_c (i := 7) (fun k J hk hJ => rz_iload_n_ok (pc := 11) hx hb dX12_isInit_11 rfl hk) ?_
  refine rz_All_c (i := 8) (fun k J hk hJ => rz_iald_ok (pc := 12) hx hb hK dX12_isInit_12 hk) ?_
  refine rz_All_c (i := 9) (fun k J hk hJ => rz_ldcwS_ok (pc := 13) (i := 14) hx hb (hSt.2.1 ("ThreadJudgeModel", 774, "<init>", 14) (List.mem_of_getElem? (i := 15) rfl)) ho dX12_isInit_13 hk) ?_
  refine rz_All_c (i := 10) (fun k J hk hJ => rz_callV_ok (pc := 16) (own := RX12) (C := RX12) (T0 := TX12) (N0 := 257) hC rfl (rmX12_isNamed l hG) (rz_cwV 3 hC rz_good (rz_mem (i := 44) (j := 16) rfl rfl) (rz_mem (i := 44) (j := 17) rfl rfl) (rz_mem (i := 44) (j := 18) rfl rfl) (rz_mem (i := 32) (j := 8) rfl rfl) (rz_mem (i := 44) (j := 19) rfl rfl) ⟨rfl, by decide, by decide, by decide +kernel⟩ rfl rfl ⟨by decide, by decide⟩) rfl dX12_isInit_16 hk) ?_
  refine rz_All_c (i := 11) (fun k J hk hJ => rz_zret_ok (pc := 19) hC dX12_isInit_19) ?_
  exact trivial
theorem dX12_isBadField_0 : decode cX12_isBadField 0 = .ok (.aload_n 0, 1) := by decide +kernel
theorem dX12_isBadField_1 : decode cX12_isBadField 1 = .ok (.aload_n 0, 1) := by decide +kernel
theorem dX12_isBadField_2 : decode cX12_isBadField 2 = .ok (.getfield 117, 3) := by decide +kernel
theorem dX12_isBadField_5 : decode cX12_isBadField 5 = .ok (.iload_n 1, 1) := by decide +kernel
theorem dX12_isBadField_6 : decode cX12_isBadField 6 = .ok (.iaload, 1) := by decide +kernel
theorem dX12_isBadField_7 : decode cX12_isBadField 7 = .ok (.aload_n 0, 1) := by decide +kernel
theorem dX12_isBadField_8 : decode cX12_isBadField 8 = .ok (.getfield 120, 3) := by decide +kernel
theorem dX12_isBadField_11 : decode cX12_isBadField 11 = .ok (.iload_n 1, 1) := by decide +kernel
theorem dX12_isBadField_12 : decode cX12_isBadField 12 = .ok (.iaload, 1) := by decide +kernel
theorem dX12_isBadField_13 : decode cX12_isBadField 13 = .ok (.invokevirtual 761, 3) := by decide +kernel
theorem dX12_isBadField_16 : decode cX12_isBadField 16 = .ok (.istore_n 2, 1) := by decide +kernel
theorem dX12_isBadField_17 : decode cX12_isBadField 17 = .ok (.iload_n 2, 1) := by decide +kernel
theorem dX12_isBadField_18 : decode cX12_isBadField 18 = .ok (.iconst (-1), 1) := by decide +kernel
theorem dX12_isBadField_19 : decode cX12_isBadField 19 = .ok (.if_icmp .ne 7, 3) := by decide +kernel
theorem dX12_isBadField_26 : decode cX12_isBadField 26 = .ok (.aload_n 0, 1) := by decide +kernel
theorem dX12_isBadField_27 : decode cX12_isBadField 27 = .ok (.iload_n 2, 1) := by decide +kernel
theorem dX12_isBadField_28 : decode cX12_isBadField 28 = .ok (.aload_n 0, 1) := by decide +kernel
theorem dX12_isBadField_29 : decode cX12_isBadField 29 = .ok (.getfield 123, 3) := by decide +kernel
theorem dX12_isBadField_32 : decode cX12_isBadField 32 = .ok (.iload_n 1, 1) := by decide +kernel
theorem dX12_isBadField_33 : decode cX12_isBadField 33 = .ok (.iaload, 1) := by decide +kernel
theorem dX12_isBadField_34 : decode cX12_isBadField 34 = .ok (.aload_n 0, 1) := by decide +kernel
theorem dX12_isBadField_35 : decode cX12_isBadField 35 = .ok (.getfield 126, 3) := by decide +kernel
theorem dX12_isBadField_38 : decode cX12_isBadField 38 = .ok (.iload_n 1, 1) := by decide +kernel
theorem dX12_isBadField_39 : decode cX12_isBadField 39 = .ok (.iaload, 1) := by decide +kernel
theorem dX12_isBadField_40 : decode cX12_isBadField 40 = .ok (.invokevirtual 834, 3) := by decide +kernel
theorem dX12_isBadField_43 : decode cX12_isBadField 43 = .ok (.istore_n 3, 1) := by decide +kernel
theorem dX12_isBadField_44 : decode cX12_isBadField 44 = .ok (.aload_n 0, 1) := by decide +kernel
theorem dX12_isBadField_45 : decode cX12_isBadField 45 = .ok (.getfield 183, 3) := by decide +kernel
theorem dX12_isBadField_48 : decode cX12_isBadField 48 = .ok (.iload_n 1, 1) := by decide +kernel
theorem dX12_isBadField_49 : decode cX12_isBadField 49 = .ok (.iload_n 3, 1) := by decide +kernel
theorem dX12_isBadField_50 : decode cX12_isBadField 50 = .ok (.iastore, 1) := by decide +kernel
theorem dX12_isBadField_51 : decode cX12_isBadField 51 = .ok (.iload_n 3, 1) := by decide +kernel
theorem dX12_isBadField_52 : decode cX12_isBadField 52 = .ok (.iconst (-1), 1) := by decide +kernel
theorem dX12_isBadField_53 : decode cX12_isBadField 53 = .ok (.if_icmp .ne 5, 3) := by decide +kernel
theorem dX12_isBadField_58 : decode cX12_isBadField 58 = .ok (.aload_n 0, 1) := by decide +kernel
theorem dX12_isBadField_59 : decode cX12_isBadField 59 = .ok (.getfield 108, 3) := by decide +kernel
theorem dX12_isBadField_62 : decode cX12_isBadField 62 = .ok (.iload_n 1, 1) := by decide +kernel
theorem dX12_isBadField_63 : decode cX12_isBadField 63 = .ok (.iaload, 1) := by decide +kernel
theorem dX12_isBadField_64 : decode cX12_isBadField 64 = .ok (.istore 4, 2) := by decide +kernel
theorem dX12_isBadField_66 : decode cX12_isBadField 66 = .ok (.aload_n 0, 1) := by decide +kernel
theorem dX12_isBadField_67 : decode cX12_isBadField 67 = .ok (.getfield 102, 3) := by decide +kernel
theorem dX12_isBadField_70 : decode cX12_isBadField 70 = .ok (.iload_n 1, 1) := by decide +kernel
theorem dX12_isBadField_71 : decode cX12_isBadField 71 = .ok (.iaload, 1) := by decide +kernel
theorem dX12_isBadField_72 : decode cX12_isBadField 72 = .ok (.bipush 39, 2) := by decide +kernel
theorem dX12_isBadField_74 : decode cX12_isBadField 74 = .ok (.if_icmp .eq 14, 3) := by decide +kernel
theorem dX12_isBadField_77 : decode cX12_isBadField 77 = .ok (.aload_n 0, 1) := by decide +kernel
theorem dX12_isBadField_78 : decode cX12_isBadField 78 = .ok (.getfield 102, 3) := by decide +kernel
theorem dX12_isBadField_81 : decode cX12_isBadField 81 = .ok (.iload_n 1, 1) := by decide +kernel
theorem dX12_isBadField_82 : decode cX12_isBadField 82 = .ok (.iaload, 1) := by decide +kernel
theorem dX12_isBadField_83 : decode cX12_isBadField 83 = .ok (.bipush 41, 2) := by decide +kernel
theorem dX12_isBadField_85 : decode cX12_isBadField 85 = .ok (.if_icmp .ne 7, 3) := by decide +kernel
theorem dX12_isBadField_88 : decode cX12_isBadField 88 = .ok (.iconst 1, 1) := by decide +kernel
theorem dX12_isBadField_89 : decode cX12_isBadField 89 = .ok (.goto 4, 3) := by decide +kernel
theorem dX12_isBadField_92 : decode cX12_isBadField 92 = .ok (.iconst 0, 1) := by decide +kernel
theorem dX12_isBadField_93 : decode cX12_isBadField 93 = .ok (.istore 5, 2) := by decide +kernel
theorem dX12_isBadField_95 : decode cX12_isBadField 95 = .ok (.aload_n 0, 1) := by decide +kernel
theorem dX12_isBadField_96 : decode cX12_isBadField 96 = .ok (.getfield 78, 3) := by decide +kernel
theorem dX12_isBadField_99 : decode cX12_isBadField 99 = .ok (.iload 4, 2) := by decide +kernel
theorem dX12_isBadField_101 : decode cX12_isBadField 101 = .ok (.iaload, 1) := by decide +kernel
theorem dX12_isBadField_102 : decode cX12_isBadField 102 = .ok (.aload_n 0, 1) := by decide +kernel
theorem dX12_isBadField_103 : decode cX12_isBadField 103 = .ok (.getfield 66, 3) := by decide +kernel
theorem dX12_isBadField_106 : decode cX12_isBadField 106 = .ok (.iload_n 3, 1) := by decide +kernel
theorem dX12_isBadField_107 : decode cX12_isBadField 107 = .ok (.iaload, 1) := by decide +kernel
theorem dX12_isBadField_108 : decode cX12_isBadField 108 = .ok (.if_icmp .ne 39, 3) := by decide +kernel
theorem dX12_isBadField_111 : decode cX12_isBadField 111 = .ok (.aload_n 0, 1) := by decide +kernel
theorem dX12_isBadField_112 : decode cX12_isBadField 112 = .ok (.getfield 102, 3) := by decide +kernel
theorem dX12_isBadField_115 : decode cX12_isBadField 115 = .ok (.iload_n 1, 1) := by decide +kernel
theorem dX12_isBadField_116 : decode cX12_isBadField 116 = .ok (.iaload, 1) := by decide +kernel
theorem dX12_isBadField_117 : decode cX12_isBadField 117 = .ok (.bipush 39, 2) := by decide +kernel
theorem dX12_isBadField_119 : decode cX12_isBadField 119 = .ok (.if_icmp .ne 15, 3) := by decide +kernel
theorem dX12_isBadField_122 : decode cX12_isBadField 122 = .ok (.aload_n 0, 1) := by decide +kernel
theorem dX12_isBadField_123 : decode cX12_isBadField 123 = .ok (.iload 4, 2) := by decide +kernel
theorem dX12_isBadField_125 : decode cX12_isBadField 125 = .ok (.invokevirtual 793, 3) := by decide +kernel
theorem dX12_isBadField_128 : decode cX12_isBadField 128 = .ok (.ifCond .eq 19, 3) := by decide +kernel
theorem dX12_isBadField_131 : decode cX12_isBadField 131 = .ok (.goto 12, 3) := by decide +kernel
theorem dX12_isBadField_134 : decode cX12_isBadField 134 = .ok (.aload_n 0, 1) := by decide +kernel
theorem dX12_isBadField_135 : decode cX12_isBadField 135 = .ok (.iload 4, 2) := by decide +kernel
theorem dX12_isBadField_137 : decode cX12_isBadField 137 = .ok (.invokevirtual 796, 3) := by decide +kernel
theorem dX12_isBadField_140 : decode cX12_isBadField 140 = .ok (.ifCond .eq 7, 3) := by decide +kernel
theorem dX12_isBadField_143 : decode cX12_isBadField 143 = .ok (.iconst 1, 1) := by decide +kernel
theorem dX12_isBadField_144 : decode cX12_isBadField 144 = .ok (.goto 4, 3) := by decide +kernel
theorem dX12_isBadField_147 : decode cX12_isBadField 147 = .ok (.iconst 0, 1) := by decide +kernel
theorem dX12_isBadField_148 : decode cX12_isBadField 148 = .ok (.istore 6, 2) := by decide +kernel
theorem dX12_isBadField_150 : decode cX12_isBadField 150 = .ok (.aload_n 0, 1) := by decide +kernel
theorem dX12_isBadField_151 : decode cX12_isBadField 151 = .ok (.getfield 63, 3) := by decide +kernel
theorem dX12_isBadField_154 : decode cX12_isBadField 154 = .ok (.iload_n 3, 1) := by decide +kernel
theorem dX12_isBadField_155 : decode cX12_isBadField 155 = .ok (.iaload, 1) := by decide +kernel
theorem dX12_isBadField_156 : decode cX12_isBadField 156 = .ok (.iconst 1, 1) := by decide +kernel
theorem dX12_isBadField_157 : decode cX12_isBadField 157 = .ok (.iand, 1) := by decide +kernel
theorem dX12_isBadField_158 : decode cX12_isBadField 158 = .ok (.iconst 1, 1) := by decide +kernel
theorem dX12_isBadField_159 : decode cX12_isBadField 159 = .ok (.if_icmp .ne 7, 3) := by decide +kernel
theorem dX12_isBadField_166 : decode cX12_isBadField 166 = .ok (.iconst 0, 1) := by decide +kernel
theorem dX12_isBadField_167 : decode cX12_isBadField 167 = .ok (.aload_n 0, 1) := by decide +kernel
theorem dX12_isBadField_168 : decode cX12_isBadField 168 = .ok (.getfield 102, 3) := by decide +kernel
theorem dX12_isBadField_171 : decode cX12_isBadField 171 = .ok (.iload_n 1, 1) := by decide +kernel
theorem dX12_isBadField_172 : decode cX12_isBadField 172 = .ok (.iaload, 1) := by decide +kernel
theorem dX12_isBadField_173 : decode cX12_isBadField 173 = .ok (.bipush 39, 2) := by decide +kernel
theorem dX12_isBadField_175 : decode cX12_isBadField 175 = .ok (.if_icmp .le 7, 3) := by decide +kernel
theorem dX12_isBadField_182 : decode cX12_isBadField 182 = .ok (.iconst 0, 1) := by decide +kernel
theorem dX12_isBadField_183 : decode cX12_isBadField 183 = .ok (.if_icmp .ne 24, 3) := by decide +kernel
theorem dX12_isBadField_186 : decode cX12_isBadField 186 = .ok (.iload 5, 2) := by decide +kernel
theorem dX12_isBadField_188 : decode cX12_isBadField 188 = .ok (.ifCond .eq 23, 3) := by decide +kernel
theorem dX12_isBadField_191 : decode cX12_isBadField 191 = .ok (.aload_n 0, 1) := by decide +kernel
theorem dX12_isBadField_192 : decode cX12_isBadField 192 = .ok (.getfield 63, 3) := by decide +kernel
theorem dX12_isBadField_195 : decode cX12_isBadField 195 = .ok (.iload_n 3, 1) := by decide +kernel
theorem dX12_isBadField_196 : decode cX12_isBadField 196 = .ok (.iaload, 1) := by decide +kernel
theorem dX12_isBadField_197 : decode cX12_isBadField 197 = .ok (.iconst 4, 1) := by decide +kernel
theorem dX12_isBadField_198 : decode cX12_isBadField 198 = .ok (.iand, 1) := by decide +kernel
theorem dX12_isBadField_199 : decode cX12_isBadField 199 = .ok (.ifCond .eq 12, 3) := by decide +kernel
theorem dX12_isBadField_211 : decode cX12_isBadField 211 = .ok (.iconst 0, 1) := by decide +kernel
theorem dX12_isBadField_212 : decode cX12_isBadField 212 = .ok (.ireturn, 1) := by decide +kernel
def rpX12_isBadField : List Nat := [0, 1, 2, 5, 6, 7, 8, 11, 12, 13, 16, 17, 18, 19, 22, 26, 27, 28, 29, 32, 33, 34, 35, 38, 39, 40, 43, 44, 45, 48, 49, 50, 51, 52, 53, 56, 58, 59, 62, 63, 64, 66, 67, 70, 71, 72, 74, 77, 78, 81, 82, 83, 85, 88, 89, 92, 93, 95, 96, 99, 101, 102, 103, 106, 107, 108, 111, 112, 115, 116, 117, 119, 122, 123, 125, 128, 131, 134, 135, 137, 140, 143, 144, 147, 148, 150, 151, 154, 155, 156, 157, 158, 159, 162, 166, 167, 168, 171, 172, 173, 175, 178, 182, 183, 186, 188, 191, 192, 195, 196, 197, 198, 199, 202, 207, 211, 212]
noncomputable def rcX12_isBadField : List rz_B := [rz_aload 0, rz_aload 0, rz_getf (Nat.add (Nat.mul 256 14) 1) 49 rz_r, rz_iload 1, rz_iald, rz_aload 0, rz_getf (Nat.add (Nat.mul 256 14) 1) 50 rz_r, rz_iload 1, rz_iald, rz_callV 2 (Nat.add (Nat.mul 256 14) 1) rgX12_classNamed, rz_istore 2, rz_iload 2, rz_cst 4294967295, rz_icmpne 15, rz_no, rz_aload 0, rz_iload 2, rz_aload 0, rz_getf (Nat.add (Nat.mul 256 14) 1) 51 rz_r, rz_iload 1, rz_iald, rz_aload 0, rz_getf (Nat.add (Nat.mul 256 14) 1) 52 rz_r, rz_iload 1, rz_iald, rz_callV 3 (Nat.add (Nat.mul 256 14) 1) rgX12_fieldFound, rz_istore 3, rz_aload 0, rz_getf (Nat.add (Nat.mul 256 14) 1) 78 rz_r, rz_iload 1, rz_iload 3, rz_iast, rz_iload 3, rz_cst 4294967295, rz_icmpne 36, rz_no, rz_aload 0, rz_getf (Nat.add (Nat.mul 256 14) 1) 46 rz_r, rz_iload 1, rz_iald, rz_istore 4, rz_aload 0, rz_getf (Nat.add (Nat.mul 256 14) 1) 44 rz_r, rz_iload 1, rz_iald, rz_cst 39, rz_icmpeq 53, rz_aload 0, rz_getf (Nat.add (Nat.mul 256 14) 1) 44 rz_r, rz_iload 1, rz_iald, rz_cst 41, rz_icmpne 55, rz_cst 1, rz_goto 56, rz_cst 0, rz_istore 5, rz_aload 0, rz_getf (Nat.add (Nat.mul 256 14) 1) 35 rz_r, rz_iload 4, rz_iald, rz_aload 0, rz_getf (Nat.add (Nat.mul 256 14) 1) 30 rz_r, rz_iload 3, rz_iald, rz_icmpne 83, rz_aload 0, rz_getf (Nat.add (Nat.mul 256 14) 1) 44 rz_r, rz_iload 1, rz_iald, rz_cst 39, rz_icmpne 77, rz_aload 0, rz_iload 4, rz_callV 1 (Nat.add (Nat.mul 256 14) 1) rgX12_isInit, rz_ifeq 83, rz_goto 81, rz_aload 0, rz_iload 4, rz_callV 1 (Nat.add (Nat.mul 256 14) 1) rgX12_isClinit, rz_ifeq 83, rz_cst 1, rz_goto 84, rz_cst 0, rz_istore 6, rz_aload 0, rz_getf (Nat.add (Nat.mul 256 14) 1) 29 rz_r, rz_iload 3, rz_iald, rz_cst 1, rz_iand, rz_cst 1, rz_icmpne 94, rz_no, rz_cst 0, rz_aload 0, rz_getf (Nat.add (Nat.mul 256 14) 1) 44 rz_r, rz_iload 1, rz_iald, rz_cst 39, rz_icmple 102, rz_no, rz_cst 0, rz_icmpne 114, rz_iload 5, rz_ifeq 115, rz_aload 0, rz_getf (Nat.add (Nat.mul 256 14) 1) 29 rz_r, rz_iload 3, rz_iald, rz_cst 4, rz_iand, rz_ifeq 115, rz_no, rz_no, rz_cst 0, rz_zret]
noncomputable def rgX12_isBadField : rz_L → rz_M → rz_Z → Bool := rz_go rcX12_isBadField 7 1000000
def rrX12_isBadField : Room := { frames := 6, cells := 0, slots := 0, locals := 169 }
theorem rmX12_isBadField (l : Launch) {G : rz_G} (hG : rz_Gd G) (vs : rz_L) (M : rz_M) (Z : rz_Z) (hn : vs.length = 2) (h : rgX12_isBadField vs M Z = true) : Met l yX12_isBadField (Cond.code yX12_isBadField cX12_isBadField 7 (some .boolean) :: rz_TB) rrX12_isBadField (rz_Pre G vs M) (rz_Qi G M.2 Z) 0 0 (fun q => rz_b G ≤ q) := by
  obtain ⟨D, tc, ad, b, xs, rfl⟩ := id hG
  refine rz_body (pcs := rpX12_isBadField) (by decide) rfl (by rw [hn]; decide) h ?_
  intro p e R s m args below meth c hC
  obtain ⟨hx, hb, hml, hr, hlk, ho, hts, hKn, hRm⟩ := id hC
  obtain ⟨hK, hA, hSt⟩ := id hKn
  have hw : ∀ {i j : Nat} {ws : List Cond} {w : Cond}, rz_WW[i]? = some ws → ws[j]? = some w → w.before args s = true := fun h1 h2 => hts _ (List.mem_cons_of_mem _ (rz_mem h1 h2))
  refine rz_All_c (i := 0) (fun k J hk hJ => rz_aload_n_ok (pc := 0) hx hb dX12_isBadField_0 rfl hk) ?_
  refine rz_All_c (i := 1) (fun k J hk hJ => rz_aload_n_ok (pc := 1) hx hb dX12_isBadField_1 rfl hk) ?_
  refine rz_All_c (i := 2) (fun k J hk hJ => rz_getf_ok (pc := 2) (own := RX12) (ref := "ThreadJudgeModel") (C := RX12) (T := TX12) (N := 257) (ci := 14) (index := 117) (f := 49) (t := 2) (Ts := Cond.code yX12_isBadField cX12_isBadField 7 (some .boolean) :: rz_TB) hx hb hts rz_in14 ho hK rfl (by decide) rfl (fun _ => rfl) (hw (i := 42) (j := 2) rfl rfl) (fun _ z => z) dX12_isBadField_2 hk) ?_
  refine rz_All_c (i := 3) (fun k J hk hJ => rz_iload_n_ok (pc := 5) hx hb dX12_isBadField_5 rfl hk) ?_
  refine rz_All_c (i := 4) (fun k J hk hJ => rz_iald_ok (pc := 6) hx hb hK dX12_isBadField_6 hk) ?_
  refine rz_All_c (i := 5) (fun k J hk hJ => rz_aload_n_ok (pc := 7) hx hb dX12_isBadField_7 rfl hk) ?_
  refine rz_All_c (i := 6) (fun k J hk hJ => rz_getf_ok (pc := 8) (own := RX12) (ref := "ThreadJudgeModel") (C := RX12) (T := TX12) (N := 257) (ci := 14) (index := 120) (f := 50) (t := 2) (Ts := Cond.code yX12_isBadField cX12_isBadField 7 (some .boolean) :: rz_TB) hx hb hts rz_in14 ho hK rfl (by decide) rfl (fun _ => rfl) (hw (i := 42) (j := 3) rfl rfl) (fun _ z => z) dX12_isBadField_8 hk) ?_
  refine rz_All_c (i := 7) (fun k J hk hJ => rz_iload_n_ok (pc := 11) hx hb dX12_isBadField_11 rfl hk) ?_
  refine rz_All_c (i := 8) (fun k J hk hJ => rz_iald_ok (pc := 12) hx hb hK dX12_isBadField_12 hk) ?_
  refine rz_All_c (i := 9) (fun k J hk hJ => rz_callV_ok (pc := 13) (own := RX12) (C := RX12) (T0 := TX12) (N0 := 257) hC rfl (rmX12_classNamed l hG) (rz_cwV 2 hC rz_good (rz_mem (i := 42) (j := 22) rfl rfl) (rz_mem (i := 42) (j := 23) rfl rfl) (rz_mem (i := 43) (j := 0) rfl rfl) (rz_mem (i := 32) (j := 8) rfl rfl) (rz_mem (i := 43) (j := 1) rfl rfl) ⟨rfl, by decide, by decide, by decide +kernel⟩ rfl rfl ⟨by decide, by decide⟩) rfl dX12_isBadField_13 hk) ?_
  refine rz_All_c (i := 10) (fun k J hk hJ => rz_istore_n_ok (pc := 16) hx hb dX12_isBadField_16 rfl hk) ?_
  refine rz_All_c (i := 11) (fun k J hk hJ => rz_iload_n_ok (pc := 17) hx hb dX12_isBadField_17 rfl hk) ?_
  refine rz_All_c (i := 12) (fun k J hk hJ => rz_iconst_ok (pc := 18) hx hb dX12_isBadField_18 rfl hk) ?_
  refine rz_All_c (i := 13) (fun k J hk hJ => rz_icmpne_ok (pc := 19) hx hb dX12_isBadField_19 rfl hk (hJ 15)) ?_
  refine rz_All_c (i := 14) (fun k J hk hJ => rz_no_ok) ?_
  refine rz_All_c (i := 15) (fun k J hk hJ => rz_aload_n_ok (pc := 26) hx hb dX12_isBadField_26 rfl hk) ?_
  refine rz_All_c (i := 16) (fun k J hk hJ => rz_iload_n_ok (pc := 27) hx hb dX12_isBadField_27 rfl hk) ?_
  refine rz_All_c (i := 17) (fun k J hk hJ => rz_aload_n_ok (pc := 28) hx hb dX12_isBadField_28 rfl hk) ?_
  refine rz_All_c (i := 18) (fun k J hk hJ => rz_getf_ok (pc := 29) (own := RX12) (ref := "ThreadJudgeModel") (C := RX12) (T := TX12) (N := 257) (ci := 14) (index := 123) (f := 51) (t := 2) (Ts := Cond.code yX12_isBadField cX12_isBadField 7 (some .boolean) :: rz_TB) hx hb hts rz_in14 ho hK rfl (by decide) rfl (fun _ => rfl) (hw (i := 42) (j := 0) rfl rfl) (fun _ z => z) dX12_isBadField_29 hk) ?_
  refine rz_All_c (i := 19) (fun k J hk hJ => rz_iload_n_ok (pc := 32) hx hb dX12_isBadField_32 rfl hk) ?_
  refine rz_All_c (i := 20) (fun k J hk hJ => rz_iald_ok (pc := 33) hx hb hK dX12_isBadField_33 hk) ?_
  refine rz_All_c (i := 21) (fun k J hk hJ => rz_aload_n_ok (pc := 34) hx hb dX12_isBadField_34 rfl hk) ?_
  refine rz_All_c (i := 22) (fun k J hk hJ => rz_getf_ok (pc := 35) (own := RX12) (ref := "ThreadJudgeModel") (C := RX12) (T := TX12) (N := 257) (ci := 14) (index := 126) (f := 52) (t := 2) (Ts := Cond.code yX12_isBadField cX12_isBadField 7 (some .boolean) :: rz_TB) hx hb hts rz_in14 ho hK rfl (by decide) rfl (fun _ => rfl) (hw (i := 42) (j := 1) rfl rfl) (fun _ z => z) dX12_isBadField_35 hk) ?_
  refine rz_All_c (i := 23) (fun k J hk hJ => rz_iload_n_ok (pc := 38) hx hb dX12_isBadField_38 rfl hk) ?_
  refine rz_All_c (i := 24) (fun k J hk hJ => rz_iald_ok (pc := 39) hx hb hK dX12_isBadField_39 hk) ?_
  refine rz_All_c (i := 25) (fun k J hk hJ => rz_callV_ok (pc := 40) (own := RX12) (C := RX12) (T0 := TX12) (N0 := 257) hC rfl (rmX12_fieldFound l hG) (rz_cwV 3 hC rz_good (rz_mem (i := 46) (j := 17) rfl rfl) (rz_mem (i := 46) (j := 18) rfl rfl) (rz_mem (i := 46) (j := 19) rfl rfl) (rz_mem (i := 32) (j := 8) rfl rfl) (rz_mem (i := 46) (j := 20) rfl rfl) ⟨rfl, by decide, by decide, by decide +kernel⟩ rfl rfl ⟨by decide, by decide⟩) rfl dX12_isBadField_40 hk) ?_
  refine rz_All_c (i := 26) (fun k J hk hJ => rz_istore_n_ok (pc := 43) hx hb dX12_isBadField_43 rfl hk) ?_
  refine rz_All_c (i := 27) (fun k J hk hJ => rz_aload_n_ok (pc := 44) hx hb dX12_isBadField_44 rfl hk) ?_
  refine rz_All_c (i := 28) (fun k J hk hJ => rz_getf_ok (pc := 45) (own := RX12) (ref := "ThreadJudgeModel") (C := RX12) (T := TX12) (N := 257) (ci := 14) (index := 183) (f := 78) (t := 2) (Ts := Cond.code yX12_isBadField cX12_isBadField 7 (some .boolean) :: rz_TB) hx hb hts rz_in14 ho hK rfl (by decide) rfl (fun _ => rfl) (hw (i := 46) (j := 8) rfl rfl) (fun _ z => z) dX12_isBadField_45 hk) ?_
  refine rz_All_c (i := 29) (fun k J hk hJ => rz_iload_n_ok (pc := 48) hx hb dX12_isBadField_48 rfl hk) ?_
  refine rz_All_c (i := 30) (fun k J hk hJ => rz_iload_n_ok (pc := 49) hx hb dX12_isBadField_49 rfl hk) ?_
  refine rz_All_c (i := 31) (fun k J hk hJ => rz_iast_ok (pc := 50) hx hb hK hA dX12_isBadField_50 hk) ?_
  refine rz_All_c (i := 32) (fun k J hk hJ => rz_iload_n_ok (pc := 51) hx hb dX12_isBadField_51 rfl hk) ?_
  refine rz_All_c (i := 33) (fun k J hk hJ => rz_iconst_ok (pc := 52) hx hb dX12_isBadField_52 rfl hk) ?_
  refine rz_All_c (i := 34) (fun k J hk hJ => rz_icmpne_ok (pc := 53) hx hb dX12_isBadField_53 rfl hk (hJ 36)) ?_
  refine rz_All_c (i := 35) (fun k J hk hJ => rz_no_ok) ?_
  refine rz_All_c (i := 36) (fun k J hk hJ => rz_aload_n_ok (pc := 58) hx hb dX12_isBadField_58 rfl hk) ?_
  refine rz_All_c (i := 37) (fun k J hk hJ => rz_getf_ok (pc := 59) (own := RX12) (ref := "ThreadJudgeModel") (C := RX12) (T := TX12) (N := 257) (ci := 14) (index := 108) (f := 46) (t := 2) (Ts := Cond.code yX12_isBadField cX12_isBadField 7 (some .boolean) :: rz_TB) hx hb hts rz_in14 ho hK rfl (by decide) rfl (fun _ => rfl) (hw (i := 40) (j := 14) rfl rfl) (fun _ z => z) dX12_isBadField_59 hk) ?_
  refine rz_All_c (i := 38) (fun k J hk hJ => rz_iload_n_ok (pc := 62) hx hb dX12_isBadField_62 rfl hk) ?_
  refine rz_All_c (i := 39) (fun k J hk hJ => rz_iald_ok (pc := 63) hx hb hK dX12_isBadField_63 hk) ?_
  refine rz_All_c (i := 40) (fun k J hk hJ => rz_istore_ok (pc := 64) hx hb dX12_isBadField_64 hk) ?_
  refine rz_All_c (i := 41) (fun k J hk hJ => rz_aload_n_ok (pc := 66) hx hb dX12_isBadField_66 rfl hk) ?_
  refine rz_All_c (i := 42) (fun k J hk hJ => rz_getf_ok (pc := 67) (own := RX12) (ref := "ThreadJudgeModel") (C := RX12) (T := TX12) (N := 257) (ci := 14) (index := 102) (f := 44) (t := 2) (Ts := Cond.code yX12_isBadField cX12_isBadField 7 (some .boolean) :: rz_TB) hx hb hts rz_in14 ho hK rfl (by decide) rfl (fun _ => rfl) (hw (i := 40) (j := 12) rfl rfl) (fun _ z => z) dX12_isBadField_67 hk) ?_
  refine rz_All_c (i := 43) (fun k J hk hJ => rz_iload_n_ok (pc := 70) hx hb dX12_isBadField_70 rfl hk) ?_
  refine rz_All_c (i := 44) (fun k J hk hJ => rz_iald_ok (pc := 71) hx hb hK dX12_isBadField_71 hk) ?_
  refine rz_All_c (i := 45) (fun k J hk hJ => rz_bipush_ok (pc := 72) hx hb dX12_isBadField_72 (by decide) hk) ?_
  refine rz_All_c (i := 46) (fun k J hk hJ => rz_icmpeq_ok (pc := 74) hx hb dX12_isBadField_74 rfl hk (hJ 53)) ?_
  refine rz_All_c (i := 47) (fun k J hk hJ => rz_aload_n_ok (pc := 77) hx hb dX12_isBadField_77 rfl hk) ?_
  refine rz_All_c (i := 48) (fun k J hk hJ => rz_getf_ok (pc := 78) (own := RX12) (ref := "ThreadJudgeModel") (C := RX12) (T := TX12) (N := 257) (ci := 14) (index := 102) (f := 44) (t := 2) (Ts := Cond.code yX12_isBadField cX12_isBadField 7 (some .boolean) :: rz_TB) hx hb hts rz_in14 ho hK rfl (by decide) rfl (fun _ => rfl) (hw (i := 40) (j := 12) rfl rfl) (fun _ z => z) dX12_isBadField_78 hk) ?_
  refine rz_All_c (i := 49) (fun k J hk hJ => rz_iload_n_ok (pc := 81) hx hb dX12_isBadField_81 rfl hk) ?_
  refine rz_All_c (i := 50) (fun k J hk hJ => rz_iald_ok (pc := 82) hx hb hK dX12_isBadField_82 hk) ?_
  refine rz_All_c (i := 51) (fun k J hk hJ => rz_bipush_ok (pc := 83) hx hb dX12_isBadField_83 (by decide) hk) ?_
  refine rz_All_c (i := 52) (fun k J hk hJ => rz_icmpne_ok (pc := 85) hx hb dX12_isBadField_85 rfl hk (hJ 55)) ?_
  refine rz_All_c (i := 53) (fun k J hk hJ => rz_iconst_ok (pc := 88) hx hb dX12_isBadField_88 rfl hk) ?_
  refine rz_All_c (i := 54) (fun k J hk hJ => rz_goto_ok (pc := 89) hx hb dX12_isBadField_89 rfl (hJ 56)) ?_
  refine rz_All_c (i := 55) (fun k J hk hJ => rz_iconst_ok (pc := 92) hx hb dX12_isBadField_92 rfl hk) ?_
  refine rz_All_c (i := 56) (fun k J hk hJ => rz_istore_ok (pc := 93) hx hb dX12_isBadField_93 hk) ?_
  refine rz_All_c (i := 57) (fun k J hk hJ => rz_aload_n_ok (pc := 95) hx hb dX12_isBadField_95 rfl hk) ?_
  refine rz_All_c (i := 58) (fun k J hk hJ => rz_getf_ok (pc := 96) (own := RX12) (ref := "ThreadJudgeModel") (C := RX12) (T := TX12) (N := 257) (ci := 14) (index := 78) (f := 35) (t := 2) (Ts := Cond.code yX12_isBadField cX12_isBadField 7 (some .boolean) :: rz_TB) hx hb hts rz_in14 ho hK rfl (by decide) rfl (fun _ => rfl) (hw (i := 39) (j := 18) rfl rfl) (fun _ z => z) dX12_isBadField_96 hk) ?_
  refine rz_All_c (i := 59) (fun k J hk hJ => rz_iload_ok (pc := 99) hx hb dX12_isBadField_99 hk) ?_
  refine rz_All_c (i := 60) (fun k J hk hJ => rz_iald_ok (pc := 101) hx hb hK dX12_isBadField_101 hk) ?_
  refine rz_All_c (i := 61) (fun k J hk hJ => rz_aload_n_ok (pc := 102) hx hb dX12_isBadField_102 rfl hk) ?_
  refine rz_All_c (i := 62) (fun k J hk hJ => rz_getf_ok (pc := 103) (own := RX12) (ref := "ThreadJudgeModel") (C := RX12) (T := TX12) (N := 257) (ci := 14) (index := 66) (f := 30) (t := 2) (Ts := Cond.code yX12_isBadField cX12_isBadField 7 (some .boolean) :: rz_TB) hx hb hts rz_in14 ho hK rfl (by decide) rfl (fun _ => rfl) (hw (i := 39) (j := 3) rfl rfl) (fun _ z => z) dX12_isBadField_103 hk) ?_
  refine rz_All_c (i := 63) (fun k J hk hJ => rz_iload_n_ok (pc := 106) hx hb dX12_isBadField_106 rfl hk) ?_
  refine rz_All_c (i := 64) (fun k J hk hJ => rz_iald_ok (pc := 107) hx hb hK dX12_isBadField_107 hk) ?_
  refine rz_All_c (i := 65) (fun k J hk hJ => rz_icmpne_ok (pc := 108) hx hb dX12_isBadField_108 rfl hk (hJ 83)) ?_
  refine rz_All_c (i := 66) (fun k J hk hJ => rz_aload_n_ok (pc := 111) hx hb dX12_isBadField_111 rfl hk) ?_
  refine rz_All_c (i := 67) (fun k J hk hJ => rz_getf_ok (pc := 112) (own := RX12) (ref := "ThreadJudgeModel") (C := RX12) (T := TX12) (N := 257) (ci := 14) (index := 102) (f := 44) (t := 2) (Ts := Cond.code yX12_isBadField cX12_isBadField 7 (some .boolean) :: rz_TB) hx hb hts rz_in14 ho hK rfl (by decide) rfl (fun _ => rfl) (hw (i := 40) (j := 12) rfl rfl) (fun _ z => z) dX12_isBadField_112 hk) ?_
  refine rz_All_c (i := 68) (fun k J hk hJ => rz_iload_n_ok (pc := 115) hx hb dX12_isBadField_115 rfl hk) ?_
  refine rz_All_c (i := 69) (fun k J hk hJ => rz_iald_ok (pc := 116) hx hb hK dX12_isBadField_116 hk) ?_
  refine rz_All_c (i := 70) (fun k J hk hJ => rz_bipush_ok (pc := 117) hx hb dX12_isBadField_117 (by decide) hk) ?_
  refine rz_All_c (i := 71) (fun k J hk hJ => rz_icmpne_ok (pc := 119) hx hb dX12_isBadField_119 rfl hk (hJ 77)) ?_
  refine rz_All_c (i := 72) (fun k J hk hJ => rz_aload_n_ok (pc := 122) hx hb dX12_isBadField_122 rfl hk) ?_
  refine rz_All_c (i := 73) (fun k J hk hJ => rz_iload_ok (pc := 123) hx hb dX12_isBadField_123 hk) ?_
  refine rz_All_c (i := 74) (fun k J hk hJ => rz_callV_ok (pc := 125) (own := RX12) (C := RX12) (T0 := TX12) (N0 := 257) hC rfl (rmX12_isInit l hG) (rz_cwV 1 hC rz_good (rz_mem (i := 44) (j := 12) rfl rfl) (rz_mem (i := 44) (j := 13) rfl rfl) (rz_mem (i := 44) (j := 14) rfl rfl) (rz_mem (i := 32) (j := 8) rfl rfl) (rz_mem (i := 44) (j := 15) rfl rfl) ⟨rfl, by decide, by decide, by decide +kernel⟩ rfl rfl ⟨by decide, by decide⟩) rfl dX12_isBadField_125 hk) ?_
  refine rz_All_c (i := 75) (fun k J hk hJ => rz_ifeq_ok (pc := 128) hx hb dX12_isBadField_128 rfl hk (hJ 83)) ?_
  refine rz_All_c (i := 76) (fun k J hk hJ => rz_goto_ok (pc := 131) hx hb dX12_isBadField_131 rfl (hJ 81)) ?_
  refine rz_All_c (i := 77) (fun k J hk hJ => rz_aload_n_ok (pc := 134) hx hb dX12_isBadField_134 rfl hk) ?_
  refine rz_All_c (i := 78) (fun k J hk hJ => rz_iload_ok (pc := 135) hx hb dX12_isBadField_135 hk) ?_
  refine rz_All_c (i := 79) (fun k J hk hJ => rz_callV_ok (pc := 137) (own := RX12) (C := RX12) (T0 := TX12) (N0 := 257) hC rfl (rmX12_isClinit l hG) (rz_cwV 1 hC rz_good (rz_mem (i := 44) (j := 20) rfl rfl) (rz_mem (i := 44) (j := 21) rfl rfl) (rz_mem (i := 44) (j := 22) rfl rfl) (rz_mem (i := 32) (j := 8) rfl rfl) (rz_mem (i := 44) (j := 23) rfl rfl) ⟨rfl, by decide, by decide, by decide +kernel⟩ rfl rfl ⟨by decide, by decide⟩) rfl dX12_isBadField_137 hk) ?_
  refine rz_All_c (i := 80) (fun k J hk hJ => rz_ifeq_ok (pc := 140) hx hb dX12_isBadField_140 rfl hk (hJ 83)) ?_
  refine rz_All_c (i := 81) (fun k J hk hJ => rz_iconst_ok (pc := 143) hx hb dX12_isBadField_143 rfl hk) ?_
  refine rz_All_c (i := 82) (fun k J hk hJ => rz_goto_ok (pc := 144) hx hb dX12_isBadField_144 rfl (hJ 84)) ?_
  refine rz_All_c (i := 83) (fun k J hk hJ => rz_iconst_ok (pc := 147) hx hb dX12_isBadField_147 rfl hk) ?_
  refine rz_All_c (i := 84) (fun k J hk hJ => rz_istore_ok (pc := 148) hx hb dX12_isBadField_148 hk) ?_
  refine rz_All_c (i := 85) (fun k J hk hJ => rz_aload_n_ok (pc := 150) hx hb dX12_isBadField_150 rfl hk) ?_
  refine rz_All_c (i := 86) (fun k J hk hJ => rz_getf_ok (pc := 151) (own := RX12) (ref := "ThreadJudgeModel") (C := RX12) (T := TX12) (N := 257) (ci := 14) (index := 63) (f := 29) (t := 2) (Ts := Cond.code yX12_isBadField cX12_isBadField 7 (some .boolean) :: rz_TB) hx hb hts rz_in14 ho hK rfl (by decide) rfl (fun _ => rfl) (hw (i := 39) (j := 2) rfl rfl) (fun _ z => z) dX12_isBadField_151 hk) ?_
  refine rz_All_c (i := 87) (fun k J hk hJ => rz_iload_n_ok (pc := 154) hx hb dX12_isBadField_154 rfl hk) ?_
  refine rz_All_c (i := 88) (fun k J hk hJ => rz_iald_ok (pc := 155) hx hb hK dX12_isBadField_155 hk) ?_
  refine rz_All_c (i := 89) (fun k J hk hJ => rz_iconst_ok (pc := 156) hx hb dX12_isBadField_156 rfl hk) ?_
  refine rz_All_c (i := 90) (fun k J hk hJ => rz_iand_ok (pc := 157) hx hb dX12_isBadField_157 hk) ?_
  refine rz_All_c (i := 91) (fun k J hk hJ => rz_iconst_ok (pc := 158) hx hb dX12_isBadField_158 rfl hk) ?_
  refine rz_All_c (i := 92) (fun k J hk hJ => rz_icmpne_ok (pc := 159) hx hb dX12_isBadField_159 rfl hk (hJ 94)) ?_
  refine rz_All_c (i := 93) (fun k J hk hJ => rz_no_ok) ?_
  refine rz_All_c (i := 94) (fun k J hk hJ => rz_iconst_ok (pc := 166) hx hb dX12_isBadField_166 rfl hk) ?_
  refine rz_All_c (i := 95) (fun k J hk hJ => rz_aload_n_ok (pc := 167) hx hb dX12_isBadField_167 rfl hk) ?_
  refine rz_All_c (i := 96) (fun k J hk hJ => rz_getf_ok (pc := 168) (own := RX12) (ref := "ThreadJudgeModel") (C := RX12) (T := TX12) (N := 257) (ci := 14) (index := 102) (f := 44) (t := 2) (Ts := Cond.code yX12_isBadField cX12_isBadField 7 (some .boolean) :: rz_TB) hx hb hts rz_in14 ho hK rfl (by decide) rfl (fun _ => rfl) (hw (i := 40) (j := 12) rfl rfl) (fun _ z => z) dX12_isBadField_168 hk) ?_
  refine rz_All_c (i := 97) (fun k J hk hJ => rz_iload_n_ok (pc := 171) hx hb dX12_isBadField_171 rfl hk) ?_
  refine rz_All_c (i := 98) (fun k J hk hJ => rz_iald_ok (pc := 172) hx hb hK dX12_isBadField_172 hk) ?_
  refine rz_All_c (i := 99) (fun k J hk hJ => rz_bipush_ok (pc := 173) hx hb dX12_isBadField_173 (by decide) hk) ?_
  refine rz_All_c (i := 100) (fun k J hk hJ => rz_icmple_ok (pc := 175) hx hb dX12_isBadField_175 rfl hk (hJ 102)) ?_
  refine rz_All_c (i := 101) (fun k J hk hJ => rz_no_ok) ?_
  refine rz_All_c (i := 102) (fun k J hk hJ => rz_iconst_ok (pc := 182) hx hb dX12_isBadField_182 rfl hk) ?_
  refine rz_All_c (i := 103) (fun k J hk hJ => rz_icmpne_ok (pc := 183) hx hb dX12_isBadField_183 rfl hk (hJ 114)) ?_
  refine rz_All_c (i := 104) (fun k J hk hJ => rz_iload_ok (pc := 186) hx hb dX12_isBadField_186 hk) ?_
  refine rz_All_c (i := 105) (fun k J hk hJ => rz_ifeq_ok (pc := 188) hx hb dX12_isBadField_188 rfl hk (hJ 115)) ?_
  refine rz_All_c (i := 106) (fun k J hk hJ => rz_aload_n_ok (pc := 191) hx hb dX12_isBadField_191 rfl hk) ?_
  refine rz_All_c (i := 107) (fun k J hk hJ => rz_getf_ok (pc := 192) (own := RX12) (ref := "ThreadJudgeModel") (C := RX12) (T := TX12) (N := 257) (ci := 14) (index := 63) (f := 29) (t := 2) (Ts := Cond.code yX12_isBadField cX12_isBadField 7 (some .boolean) :: rz_TB) hx hb hts rz_in14 ho hK rfl (by decide) rfl (fun _ => rfl) (hw (i := 39) (j := 2) rfl rfl) (fun _ z => z) dX12_isBadField_192 hk) ?_
  refine rz_All_c (i := 108) (fun k J hk hJ => rz_iload_n_ok (pc := 195) hx hb dX12_isBadField_195 rfl hk) ?_
  refine rz_All_c (i := 109) (fun k J hk hJ => rz_iald_ok (pc := 196) hx hb hK dX12_isBadField_196 hk) ?_
  refine rz_All_c (i := 110) (fun k J hk hJ => rz_iconst_ok (pc := 197) hx hb dX12_isBadField_197 rfl hk) ?_
  refine rz_All_c (i := 111) (fun k J hk hJ => rz_iand_ok (pc := 198) hx hb dX12_isBadField_198 hk) ?_
  refine rz_All_c (i := 112) (fun k J hk hJ => rz_ifeq_ok (pc := 199) hx hb dX12_isBadField_199 rfl hk (hJ 115)) ?_
  refine rz_All_c (i := 113) (fun k J hk hJ => rz_no_ok) ?_
  refine rz_All_c (i := 114) (fun k J hk hJ => rz_no_ok) ?_
  refine rz_All_c (i := 115) (fun k J hk hJ => rz_iconst_ok (pc := 211) hx hb dX12_isBadField_211 rfl hk) ?_
  refine rz_All_c (i := 116) (fun k J hk hJ => rz_zret_ok (pc := 212) hC dX12_isBadField_212) ?_
  exact trivial
theorem dX12_labelled_0 : decode cX12_labelled 0 = .ok (.iconst 0, 1) := by decide +kernel
theorem dX12_labelled_1 : decode cX12_labelled 1 = .ok (.istore 4, 2) := by decide +kernel
theorem dX12_labelled_3 : decode cX12_labelled 3 = .ok (.iload 4, 2) := by decide +kernel
theorem dX12_labelled_5 : decode cX12_labelled 5 = .ok (.aload_n 0, 1) := by decide +kernel
theorem dX12_labelled_6 : decode cX12_labelled 6 = .ok (.getfield 718, 3) := by decide +kernel
theorem dX12_labelled_9 : decode cX12_labelled 9 = .ok (.if_icmp .ge 51, 3) := by decide +kernel
theorem dX12_labelled_12 : decode cX12_labelled 12 = .ok (.aload_n 0, 1) := by decide +kernel
theorem dX12_labelled_13 : decode cX12_labelled 13 = .ok (.getfield 141, 3) := by decide +kernel
theorem dX12_labelled_16 : decode cX12_labelled 16 = .ok (.iload 4, 2) := by decide +kernel
theorem dX12_labelled_18 : decode cX12_labelled 18 = .ok (.iaload, 1) := by decide +kernel
theorem dX12_labelled_19 : decode cX12_labelled 19 = .ok (.iload_n 1, 1) := by decide +kernel
theorem dX12_labelled_20 : decode cX12_labelled 20 = .ok (.if_icmp .ne 34, 3) := by decide +kernel
theorem dX12_labelled_23 : decode cX12_labelled 23 = .ok (.aload_n 0, 1) := by decide +kernel
theorem dX12_labelled_24 : decode cX12_labelled 24 = .ok (.aload_n 0, 1) := by decide +kernel
theorem dX12_labelled_25 : decode cX12_labelled 25 = .ok (.getfield 132, 3) := by decide +kernel
theorem dX12_labelled_28 : decode cX12_labelled 28 = .ok (.iload 4, 2) := by decide +kernel
theorem dX12_labelled_30 : decode cX12_labelled 30 = .ok (.iaload, 1) := by decide +kernel
theorem dX12_labelled_31 : decode cX12_labelled 31 = .ok (.aload_n 0, 1) := by decide +kernel
theorem dX12_labelled_32 : decode cX12_labelled 32 = .ok (.getfield 135, 3) := by decide +kernel
theorem dX12_labelled_35 : decode cX12_labelled 35 = .ok (.iload 4, 2) := by decide +kernel
theorem dX12_labelled_37 : decode cX12_labelled 37 = .ok (.iaload, 1) := by decide +kernel
theorem dX12_labelled_38 : decode cX12_labelled 38 = .ok (.iload_n 2, 1) := by decide +kernel
theorem dX12_labelled_39 : decode cX12_labelled 39 = .ok (.iload_n 3, 1) := by decide +kernel
theorem dX12_labelled_40 : decode cX12_labelled 40 = .ok (.invokevirtual 734, 3) := by decide +kernel
theorem dX12_labelled_43 : decode cX12_labelled 43 = .ok (.ifCond .eq 11, 3) := by decide +kernel
theorem dX12_labelled_46 : decode cX12_labelled 46 = .ok (.aload_n 0, 1) := by decide +kernel
theorem dX12_labelled_47 : decode cX12_labelled 47 = .ok (.getfield 138, 3) := by decide +kernel
theorem dX12_labelled_50 : decode cX12_labelled 50 = .ok (.iload 4, 2) := by decide +kernel
theorem dX12_labelled_52 : decode cX12_labelled 52 = .ok (.iaload, 1) := by decide +kernel
theorem dX12_labelled_53 : decode cX12_labelled 53 = .ok (.ireturn, 1) := by decide +kernel
def rpX12_labelled : List Nat := [0, 1, 3, 5, 6, 9, 12, 13, 16, 18, 19, 20, 23, 24, 25, 28, 30, 31, 32, 35, 37, 38, 39, 40, 43, 46, 47, 50, 52, 53, 54, 60]
noncomputable def rcX12_labelled : List rz_B := [rz_cst 0, rz_istore 4, rz_iload 4, rz_aload 0, rz_getf (Nat.add (Nat.mul 256 14) 1) 54 rz_i, rz_icmpge 31, rz_aload 0, rz_getf (Nat.add (Nat.mul 256 14) 1) 58 rz_r, rz_iload 4, rz_iald, rz_iload 1, rz_icmpne 30, rz_aload 0, rz_aload 0, rz_getf (Nat.add (Nat.mul 256 14) 1) 55 rz_r, rz_iload 4, rz_iald, rz_aload 0, rz_getf (Nat.add (Nat.mul 256 14) 1) 56 rz_r, rz_iload 4, rz_iald, rz_iload 2, rz_iload 3, rz_callV 4 (Nat.add (Nat.mul 256 14) 1) rgX12_isSame, rz_ifeq 30, rz_aload 0, rz_getf (Nat.add (Nat.mul 256 14) 1) 57 rz_r, rz_iload 4, rz_iald, rz_iret, rz_no, rz_no]
noncomputable def rgX12_labelled : rz_L → rz_M → rz_Z → Bool := rz_go rcX12_labelled 5 1000000
def rrX12_labelled : Room := { frames := 1, cells := 0, slots := 0, locals := 26 }
theorem rmX12_labelled (l : Launch) {G : rz_G} (hG : rz_Gd G) (vs : rz_L) (M : rz_M) (Z : rz_Z) (hn : vs.length = 4) (h : rgX12_labelled vs M Z = true) : Met l yX12_labelled (Cond.code yX12_labelled cX12_labelled 5 (some .int) :: rz_TB) rrX12_labelled (rz_Pre G vs M) (rz_Qi G M.2 Z) 0 0 (fun q => rz_b G ≤ q) := by
  obtain ⟨D, tc, ad, b, xs, rfl⟩ := id hG
  refine rz_body (pcs := rpX12_labelled) (by decide) rfl (by rw [hn]; decide) h ?_
  intro p e R s m args below meth c hC
  obtain ⟨hx, hb, hml, hr, hlk, ho, hts, hKn, hRm⟩ := id hC
  obtain ⟨hK, hA, hSt⟩ := id hKn
  have hw : ∀ {i j : Nat} {ws : List Cond} {w : Cond}, rz_WW[i]? = some ws → ws[j]? = some w → w.before args s = true := fun h1 h2 => hts _ (List.mem_cons_of_mem _ (rz_mem h1 h2))
  refine rz_All_c (i := 0) (fun k J hk hJ => rz_iconst_ok (pc := 0) hx hb dX12_labelled_0 rfl hk) ?_
  refine rz_All_c (i := 1) (fun k J hk hJ => rz_istore_ok (pc := 1) hx hb dX12_labelled_1 hk) ?_
  refine rz_All_c (i := 2) (fun k J hk hJ => rz_iload_ok (pc := 3) hx hb dX12_labelled_3 hk) ?_
  refine rz_All_c (i := 3) (fun k J hk hJ => rz_aload_n_ok (pc := 5) hx hb dX12_labelled_5 rfl hk) ?_
  refine rz_All_c (i := 4) (fun k J hk hJ => rz_getf_ok (pc := 6) (own := RX12) (ref := "ThreadJudgeModel") (C := RX12) (T := TX12) (N := 257) (ci := 14) (index := 718) (f := 54) (t := 0) (Ts := Cond.code yX12_labelled cX12_labelled 5 (some .int) :: rz_TB) hx hb hts rz_in14 ho hK rfl (by decide) rfl (fun _ => rfl) (hw (i := 32) (j := 21) rfl rfl) (fun _ z => z) dX12_labelled_6 hk) ?_
  refine rz_All_c (i := 5) (fun k J hk hJ => rz_icmpge_ok (pc := 9) hx hb dX12_labelled_9 rfl hk (hJ 31)) ?_
  refine rz_All_c (i := 6) (fun k J hk hJ => rz_aload_n_ok (pc := 12) hx hb dX12_labelled_12 rfl hk) ?_
  refine rz_All_c (i := 7) (fun k J hk hJ => rz_getf_ok (pc := 13) (own := RX12) (ref := "ThreadJudgeModel") (C := RX12) (T := TX12) (N := 257) (ci := 14) (index := 141) (f := 58) (t := 2) (Ts := Cond.code yX12_labelled cX12_labelled 5 (some .int) :: rz_TB) hx hb hts rz_in14 ho hK rfl (by decide) rfl (fun _ => rfl) (hw (i := 40) (j := 11) rfl rfl) (fun _ z => z) dX12_labelled_13 hk) ?_
  refine rz_All_c (i := 8) (fun k J hk hJ => rz_iload_ok (pc := 16) hx hb dX12_labelled_16 hk) ?_
  refine rz_All_c (i := 9) (fun k J hk hJ => rz_iald_ok (pc := 18) hx hb hK dX12_labelled_18 hk) ?_
  refine rz_All_c (i := 10) (fun k J hk hJ => rz_iload_n_ok (pc := 19) hx hb dX12_labelled_19 rfl hk) ?_
  refine rz_All_c (i := 11) (fun k J hk hJ => rz_icmpne_ok (pc := 20) hx hb dX12_labelled_20 rfl hk (hJ 30)) ?_
  refine rz_All_c (i := 12) (fun k J hk hJ => rz_aload_n_ok (pc := 23) hx hb dX12_labelled_23 rfl hk) ?_
  refine rz_All_c (i := 13) (fun k J hk hJ => rz_aload_n_ok (pc := 24) hx hb dX12_labelled_24 rfl hk) ?_
  refine rz_All_c (i := 14) (fun k J hk hJ => rz_getf_ok (pc := 25) (own := RX12) (ref := "ThreadJudgeModel") (C := RX12) (T := TX12) (N := 257) (ci := 14) (index := 132) (f := 55) (t := 2) (Ts := Cond.code yX12_labelled cX12_labelled 5 (some .int) :: rz_TB) hx hb hts rz_in14 ho hK rfl (by decide) rfl (fun _ => rfl) (hw (i := 40) (j := 8) rfl rfl) (fun _ z => z) dX12_labelled_25 hk) ?_
  refine rz_All_c (i := 15) (fun k J hk hJ => rz_iload_ok (pc := 28) hx hb dX12_labelled_28 hk) ?_
  refine rz_All_c (i := 16) (fun k J hk hJ => rz_iald_ok (pc := 30) hx hb hK dX12_labelled_30 hk) ?_
  refine rz_All_c (i := 17) (fun k J hk hJ => rz_aload_n_ok (pc := 31) hx hb dX12_labelled_31 rfl hk) ?_
  refine rz_All_c (i := 18) (fun k J hk hJ => rz_getf_ok (pc := 32) (own := RX12) (ref := "ThreadJudgeModel") (C := RX12) (T := TX12) (N := 257) (ci := 14) (index := 135) (f := 56) (t := 2) (Ts := Cond.code yX12_labelled cX12_labelled 5 (some .int) :: rz_TB) hx hb hts rz_in14 ho hK rfl (by decide) rfl (fun _ => rfl) (hw (i := 40) (j := 9) rfl rfl) (fun _ z => z) dX12_labelled_32 hk) ?_
  refine rz_All_c (i := 19) (fun k J hk hJ => rz_iload_ok (pc := 35) hx hb dX12_labelled_35 hk) ?_
  refine rz_All_c (i := 20) (fun k J hk hJ => rz_iald_ok (pc := 37) hx hb hK dX12_labelled_37 hk) ?_
  refine rz_All_c (i := 21) (fun k J hk hJ => rz_iload_n_ok (pc := 38) hx hb dX12_labelled_38 rfl hk) ?_
  refine rz_All_c (i := 22) (fun k J hk hJ => rz_iload_n_ok (pc := 39) hx hb dX12_labelled_39 rfl hk) ?_
  refine rz_All_c (i := 23) (fun k J hk hJ => rz_callV_ok (pc := 40) (own := RX12) (C := RX12) (T0 := TX12) (N0 := 257) hC rfl (rmX12_isSame l hG) (rz_cwV 4 hC rz_good (rz_mem (i := 41) (j := 16) rfl rfl) (rz_mem (i := 41) (j := 17) rfl rfl) (rz_mem (i := 41) (j := 18) rfl rfl) (rz_mem (i := 32) (j := 8) rfl rfl) (rz_mem (i := 41) (j := 19) rfl rfl) ⟨rfl, by decide, by decide, by decide +kernel⟩ rfl rfl ⟨by decide, by decide⟩) rfl dX12_labelled_40 hk) ?_
  refine rz_All_c (i := 24) (fun k J hk hJ => rz_ifeq_ok (pc := 43) hx hb dX12_labelled_43 rfl hk (hJ 30)) ?_
  refine rz_All_c (i := 25) (fun k J hk hJ => rz_aload_n_ok (pc := 46) hx hb dX12_labelled_46 rfl hk) ?_
  refine rz_All_c (i := 26) (fun k J hk hJ => rz_getf_ok (pc := 47) (own := RX12) (ref := "ThreadJudgeModel") (C := RX12) (T := TX12) (N := 257) (ci := 14) (index := 138) (f := 57) (t := 2) (Ts := Cond.code yX12_labelled cX12_labelled 5 (some .int) :: rz_TB) hx hb hts rz_in14 ho hK rfl (by decide) rfl (fun _ => rfl) (hw (i := 40) (j := 10) rfl rfl) (fun _ z => z) dX12_labelled_47 hk) ?_
  refine rz_All_c (i := 27) (fun k J hk hJ => rz_iload_ok (pc := 50) hx hb dX12_labelled_50 hk) ?_
  refine rz_All_c (i := 28) (fun k J hk hJ => rz_iald_ok (pc := 52) hx hb hK dX12_labelled_52 hk) ?_
  refine rz_All_c (i := 29) (fun k J hk hJ => rz_iret_ok (pc := 53) hC dX12_labelled_53) ?_
  refine rz_All_c (i := 30) (fun k J hk hJ => rz_no_ok) ?_
  refine rz_All_c (i := 31) (fun k J hk hJ => rz_no_ok) ?_
  exact trivial
theorem dX12_isBadCode_0 : decode cX12_isBadCode 0 = .ok (.ldc_w 742, 3) := by decide +kernel
theorem dX12_isBadCode_3 : decode cX12_isBadCode 3 = .ok (.aload_n 0, 1) := by decide +kernel
theorem dX12_isBadCode_4 : decode cX12_isBadCode 4 = .ok (.getfield 102, 3) := by decide +kernel
theorem dX12_isBadCode_7 : decode cX12_isBadCode 7 = .ok (.iload_n 1, 1) := by decide +kernel
theorem dX12_isBadCode_8 : decode cX12_isBadCode 8 = .ok (.iaload, 1) := by decide +kernel
theorem dX12_isBadCode_9 : decode cX12_isBadCode 9 = .ok (.invokevirtual 631, 3) := by decide +kernel
theorem dX12_isBadCode_12 : decode cX12_isBadCode 12 = .ok (.tableswitch 398 99 120 #[253, 398, 398, 247, 398, 398, 151, 398, 398, 203, 392, 104, 398, 398, 398, 398, 189, 319, 398, 398, 398, 392], 104) := by decide +kernel
theorem dX12_isBadCode_116 : decode cX12_isBadCode 116 = .ok (.aload_n 0, 1) := by decide +kernel
theorem dX12_isBadCode_117 : decode cX12_isBadCode 117 = .ok (.getfield 183, 3) := by decide +kernel
theorem dX12_isBadCode_120 : decode cX12_isBadCode 120 = .ok (.iload_n 1, 1) := by decide +kernel
theorem dX12_isBadCode_121 : decode cX12_isBadCode 121 = .ok (.aload_n 0, 1) := by decide +kernel
theorem dX12_isBadCode_122 : decode cX12_isBadCode 122 = .ok (.getfield 111, 3) := by decide +kernel
theorem dX12_isBadCode_125 : decode cX12_isBadCode 125 = .ok (.iload_n 1, 1) := by decide +kernel
theorem dX12_isBadCode_126 : decode cX12_isBadCode 126 = .ok (.iaload, 1) := by decide +kernel
theorem dX12_isBadCode_127 : decode cX12_isBadCode 127 = .ok (.iastore, 1) := by decide +kernel
theorem dX12_isBadCode_128 : decode cX12_isBadCode 128 = .ok (.aload_n 0, 1) := by decide +kernel
theorem dX12_isBadCode_129 : decode cX12_isBadCode 129 = .ok (.getfield 102, 3) := by decide +kernel
theorem dX12_isBadCode_132 : decode cX12_isBadCode 132 = .ok (.iload_n 1, 1) := by decide +kernel
theorem dX12_isBadCode_133 : decode cX12_isBadCode 133 = .ok (.iaload, 1) := by decide +kernel
theorem dX12_isBadCode_134 : decode cX12_isBadCode 134 = .ok (.ifCond .eq 27, 3) := by decide +kernel
theorem dX12_isBadCode_137 : decode cX12_isBadCode 137 = .ok (.aload_n 0, 1) := by decide +kernel
theorem dX12_isBadCode_138 : decode cX12_isBadCode 138 = .ok (.getfield 111, 3) := by decide +kernel
theorem dX12_isBadCode_141 : decode cX12_isBadCode 141 = .ok (.iload_n 1, 1) := by decide +kernel
theorem dX12_isBadCode_142 : decode cX12_isBadCode 142 = .ok (.iaload, 1) := by decide +kernel
theorem dX12_isBadCode_143 : decode cX12_isBadCode 143 = .ok (.ifCond .lt 14, 3) := by decide +kernel
theorem dX12_isBadCode_146 : decode cX12_isBadCode 146 = .ok (.aload_n 0, 1) := by decide +kernel
theorem dX12_isBadCode_147 : decode cX12_isBadCode 147 = .ok (.getfield 111, 3) := by decide +kernel
theorem dX12_isBadCode_150 : decode cX12_isBadCode 150 = .ok (.iload_n 1, 1) := by decide +kernel
theorem dX12_isBadCode_151 : decode cX12_isBadCode 151 = .ok (.iaload, 1) := by decide +kernel
theorem dX12_isBadCode_152 : decode cX12_isBadCode 152 = .ok (.bipush 9, 2) := by decide +kernel
theorem dX12_isBadCode_154 : decode cX12_isBadCode 154 = .ok (.if_icmp .le 7, 3) := by decide +kernel
theorem dX12_isBadCode_161 : decode cX12_isBadCode 161 = .ok (.iconst 0, 1) := by decide +kernel
theorem dX12_isBadCode_162 : decode cX12_isBadCode 162 = .ok (.ireturn, 1) := by decide +kernel
theorem dX12_isBadCode_215 : decode cX12_isBadCode 215 = .ok (.aload_n 0, 1) := by decide +kernel
theorem dX12_isBadCode_216 : decode cX12_isBadCode 216 = .ok (.getfield 183, 3) := by decide +kernel
theorem dX12_isBadCode_219 : decode cX12_isBadCode 219 = .ok (.iload_n 1, 1) := by decide +kernel
theorem dX12_isBadCode_220 : decode cX12_isBadCode 220 = .ok (.aload_n 0, 1) := by decide +kernel
theorem dX12_isBadCode_221 : decode cX12_isBadCode 221 = .ok (.aload_n 0, 1) := by decide +kernel
theorem dX12_isBadCode_222 : decode cX12_isBadCode 222 = .ok (.getfield 108, 3) := by decide +kernel
theorem dX12_isBadCode_225 : decode cX12_isBadCode 225 = .ok (.iload_n 1, 1) := by decide +kernel
theorem dX12_isBadCode_226 : decode cX12_isBadCode 226 = .ok (.iaload, 1) := by decide +kernel
theorem dX12_isBadCode_227 : decode cX12_isBadCode 227 = .ok (.aload_n 0, 1) := by decide +kernel
theorem dX12_isBadCode_228 : decode cX12_isBadCode 228 = .ok (.getfield 117, 3) := by decide +kernel
theorem dX12_isBadCode_231 : decode cX12_isBadCode 231 = .ok (.iload_n 1, 1) := by decide +kernel
theorem dX12_isBadCode_232 : decode cX12_isBadCode 232 = .ok (.iaload, 1) := by decide +kernel
theorem dX12_isBadCode_233 : decode cX12_isBadCode 233 = .ok (.aload_n 0, 1) := by decide +kernel
theorem dX12_isBadCode_234 : decode cX12_isBadCode 234 = .ok (.getfield 120, 3) := by decide +kernel
theorem dX12_isBadCode_237 : decode cX12_isBadCode 237 = .ok (.iload_n 1, 1) := by decide +kernel
theorem dX12_isBadCode_238 : decode cX12_isBadCode 238 = .ok (.iaload, 1) := by decide +kernel
theorem dX12_isBadCode_239 : decode cX12_isBadCode 239 = .ok (.invokevirtual 852, 3) := by decide +kernel
theorem dX12_isBadCode_242 : decode cX12_isBadCode 242 = .ok (.iastore, 1) := by decide +kernel
theorem dX12_isBadCode_243 : decode cX12_isBadCode 243 = .ok (.aload_n 0, 1) := by decide +kernel
theorem dX12_isBadCode_244 : decode cX12_isBadCode 244 = .ok (.getfield 183, 3) := by decide +kernel
theorem dX12_isBadCode_247 : decode cX12_isBadCode 247 = .ok (.iload_n 1, 1) := by decide +kernel
theorem dX12_isBadCode_248 : decode cX12_isBadCode 248 = .ok (.iaload, 1) := by decide +kernel
theorem dX12_isBadCode_249 : decode cX12_isBadCode 249 = .ok (.iconst (-1), 1) := by decide +kernel
theorem dX12_isBadCode_250 : decode cX12_isBadCode 250 = .ok (.if_icmp .ne 7, 3) := by decide +kernel
theorem dX12_isBadCode_257 : decode cX12_isBadCode 257 = .ok (.iconst 0, 1) := by decide +kernel
theorem dX12_isBadCode_258 : decode cX12_isBadCode 258 = .ok (.ireturn, 1) := by decide +kernel
theorem dX12_isBadCode_259 : decode cX12_isBadCode 259 = .ok (.aload_n 0, 1) := by decide +kernel
theorem dX12_isBadCode_260 : decode cX12_isBadCode 260 = .ok (.iload_n 1, 1) := by decide +kernel
theorem dX12_isBadCode_261 : decode cX12_isBadCode 261 = .ok (.invokevirtual 855, 3) := by decide +kernel
theorem dX12_isBadCode_264 : decode cX12_isBadCode 264 = .ok (.ireturn, 1) := by decide +kernel
theorem dX12_isBadCode_404 : decode cX12_isBadCode 404 = .ok (.aload_n 0, 1) := by decide +kernel
theorem dX12_isBadCode_405 : decode cX12_isBadCode 405 = .ok (.iload_n 1, 1) := by decide +kernel
theorem dX12_isBadCode_406 : decode cX12_isBadCode 406 = .ok (.invokevirtual 858, 3) := by decide +kernel
theorem dX12_isBadCode_409 : decode cX12_isBadCode 409 = .ok (.ireturn, 1) := by decide +kernel
theorem dX12_isBadCode_410 : decode cX12_isBadCode 410 = .ok (.aload_n 0, 1) := by decide +kernel
theorem dX12_isBadCode_411 : decode cX12_isBadCode 411 = .ok (.getfield 183, 3) := by decide +kernel
theorem dX12_isBadCode_414 : decode cX12_isBadCode 414 = .ok (.iload_n 1, 1) := by decide +kernel
theorem dX12_isBadCode_415 : decode cX12_isBadCode 415 = .ok (.iconst 0, 1) := by decide +kernel
theorem dX12_isBadCode_416 : decode cX12_isBadCode 416 = .ok (.iastore, 1) := by decide +kernel
theorem dX12_isBadCode_417 : decode cX12_isBadCode 417 = .ok (.iconst 0, 1) := by decide +kernel
theorem dX12_isBadCode_418 : decode cX12_isBadCode 418 = .ok (.ireturn, 1) := by decide +kernel
def rpX12_isBadCode : List Nat := [0, 3, 4, 7, 8, 9, 12, 116, 117, 120, 121, 122, 125, 126, 127, 128, 129, 132, 133, 134, 137, 138, 141, 142, 143, 146, 147, 150, 151, 152, 154, 157, 161, 162, 163, 201, 215, 216, 219, 220, 221, 222, 225, 226, 227, 228, 231, 232, 233, 234, 237, 238, 239, 242, 243, 244, 247, 248, 249, 250, 253, 257, 258, 259, 260, 261, 264, 265, 331, 404, 405, 406, 409, 410, 411, 414, 415, 416, 417, 418]
noncomputable def rcX12_isBadCode : List rz_B := [rz_txt 1000014, rz_aload 0, rz_getf (Nat.add (Nat.mul 256 14) 1) 44 rz_r, rz_iload 1, rz_iald, rz_callT 1 rgJ0_charAt_5068e_f, rz_tsw 99 [67, 73, 73, 63, 73, 73, 34, 73, 73, 36, 69, 7, 73, 73, 73, 73, 35, 68, 73, 73, 73, 69] 73, rz_aload 0, rz_getf (Nat.add (Nat.mul 256 14) 1) 78 rz_r, rz_iload 1, rz_aload 0, rz_getf (Nat.add (Nat.mul 256 14) 1) 47 rz_r, rz_iload 1, rz_iald, rz_iast, rz_aload 0, rz_getf (Nat.add (Nat.mul 256 14) 1) 44 rz_r, rz_iload 1, rz_iald, rz_ifeq 32, rz_aload 0, rz_getf (Nat.add (Nat.mul 256 14) 1) 47 rz_r, rz_iload 1, rz_iald, rz_iflt 31, rz_aload 0, rz_getf (Nat.add (Nat.mul 256 14) 1) 47 rz_r, rz_iload 1, rz_iald, rz_cst 9, rz_icmple 32, rz_no, rz_cst 0, rz_zret, rz_no, rz_no, rz_aload 0, rz_getf (Nat.add (Nat.mul 256 14) 1) 78 rz_r, rz_iload 1, rz_aload 0, rz_aload 0, rz_getf (Nat.add (Nat.mul 256 14) 1) 46 rz_r, rz_iload 1, rz_iald, rz_aload 0, rz_getf (Nat.add (Nat.mul 256 14) 1) 49 rz_r, rz_iload 1, rz_iald, rz_aload 0, rz_getf (Nat.add (Nat.mul 256 14) 1) 50 rz_r, rz_iload 1, rz_iald, rz_callV 3 (Nat.add (Nat.mul 256 14) 1) rgX12_labelled, rz_iast, rz_aload 0, rz_getf (Nat.add (Nat.mul 256 14) 1) 78 rz_r, rz_iload 1, rz_iald, rz_cst 4294967295, rz_icmpne 61, rz_no, rz_cst 0, rz_zret, rz_aload 0, rz_iload 1, rz_callV 1 (Nat.add (Nat.mul 256 14) 1) rgX12_isBadField, rz_zret, rz_no, rz_no, rz_aload 0, rz_iload 1, rz_callV 1 (Nat.add (Nat.mul 256 14) 1) rgX12_isBadCall, rz_zret, rz_aload 0, rz_getf (Nat.add (Nat.mul 256 14) 1) 78 rz_r, rz_iload 1, rz_cst 0, rz_iast, rz_cst 0, rz_zret]
noncomputable def rgX12_isBadCode : rz_L → rz_M → rz_Z → Bool := rz_go rcX12_isBadCode 2 1000000
def rrX12_isBadCode : Room := { frames := 8, cells := 0, slots := 0, locals := 220 }
theorem rmX12_isBadCode (l : Launch) {G : rz_G} (hG : rz_Gd G) (vs : rz_L) (M : rz_M) (Z : rz_Z) (hn : vs.length = 2) (h : rgX12_isBadCode vs M Z = true) : Met l yX12_isBadCode (Cond.code yX12_isBadCode cX12_isBadCode 2 (some .boolean) :: rz_TB) rrX12_isBadCode (rz_Pre G vs M) (rz_Qi G M.2 Z) 0 0 (fun q => rz_b G ≤ q) := by
  obtain ⟨D, tc, ad, b, xs, rfl⟩ := id hG
  refine rz_body (pcs := rpX12_isBadCode) (by decide) rfl (by rw [hn]; decide) h ?_
  intro p e R s m args below meth c hC
  obtain ⟨hx, hb, hml, hr, hlk, ho, hts, hKn, hRm⟩ := id hC
  obtain ⟨hK, hA, hSt⟩ := id hKn
  have hw : ∀ {i j : Nat} {ws : List Cond} {w : Cond}, rz_WW[i]? = some ws → ws[j]? = some w → w.before args s = true := fun h1 h2 => hts _ (List.mem_cons_of_mem _ (rz_mem h1 h2))
  refine rz_All_c (i := 0) (fun k J hk hJ => rz_ldcwS_ok (pc := 0) (i := 13) hx hb (hSt.2.1 ("ThreadJudgeModel", 742, "ns-nni---------------lllllllllllllllllffffct---ttmmmx-----", 13) (List.mem_of_getElem? (i := 14) rfl)) ho dX12_isBadCode_0 hk) ?_
  refine rz_All_c (i := 1) (fun k J hk hJ => rz_aload_n_ok (pc := 3) hx hb dX12_isBadCode_3 rfl hk) ?_
  refine rz_All_c (i := 2) (fun k J hk hJ => rz_getf_ok (pc := 4) (own := RX12) (ref := "ThreadJudgeModel") (C := RX12) (T := TX12) (N := 257) (ci := 14) (index := 102) (f := 44) (t := 2) (Ts := Cond.code yX12_isBadCode cX12_isBadCode 2 (some .boolean) :: rz_TB) hx hb hts rz_in14 ho hK rfl (by decide) rfl (fun _ => rfl) (hw (i := 40) (j := 12) rfl rfl) (fun _ z => z) dX12_isBadCode_4 hk) ?_
  refine rz_All_c (i := 3) (fun k J hk hJ => rz_iload_n_ok (pc := 7) hx hb dX12_isBadCode_7 rfl hk) ?_
  refine rz_All_c (i := 4) (fun k J hk hJ => rz_iald_ok (pc := 8) hx hb hK dX12_isBadCode_8 hk) ?_
  refine rz_All_c (i := 5) (fun k J hk hJ => rz_callT_ok (pc := 9) (own := RX12) hC rfl (rmJ0_charAt_5068e_f l hG) (rz_cwV 1 hC rz_good (rz_mem (i := 33) (j := 4) rfl rfl) (rz_mem (i := 13) (j := 21) rfl rfl) (rz_mem (i := 13) (j := 22) rfl rfl) (rz_mem (i := 5) (j := 23) rfl rfl) (rz_mem (i := 13) (j := 23) rfl rfl) ⟨rfl, by decide, by decide, by decide +kernel⟩ rfl rfl ⟨by decide, by decide⟩) dX12_isBadCode_9 hk) ?_
  refine rz_All_c (i := 6) (fun k J hk hJ => rz_tsw_ok (pc := 12) (pcs := rpX12_isBadCode) (js := [67, 73, 73, 63, 73, 73, 34, 73, 73, 36, 69, 7, 73, 73, 73, 73, 35, 68, 73, 73, 73, 69]) (d := 73) (lo := 99) hx hb dX12_isBadCode_12 (by decide +kernel) hJ) ?_
  refine rz_All_c (i := 7) (fun k J hk hJ => rz_aload_n_ok (pc := 116) hx hb dX12_isBadCode_116 rfl hk) ?_
  refine rz_All_c (i := 8) (fun k J hk hJ => rz_getf_ok (pc := 117) (own := RX12) (ref := "ThreadJudgeModel") (C := RX12) (T := TX12) (N := 257) (ci := 14) (index := 183) (f := 78) (t := 2) (Ts := Cond.code yX12_isBadCode cX12_isBadCode 2 (some .boolean) :: rz_TB) hx hb hts rz_in14 ho hK rfl (by decide) rfl (fun _ => rfl) (hw (i := 46) (j := 8) rfl rfl) (fun _ z => z) dX12_isBadCode_117 hk) ?_
  refine rz_All_c (i := 9) (fun k J hk hJ => rz_iload_n_ok (pc := 120) hx hb dX12_isBadCode_120 rfl hk) ?_
  refine rz_All_c (i := 10) (fun k J hk hJ => rz_aload_n_ok (pc := 121) hx hb dX12_isBadCode_121 rfl hk) ?_
  refine rz_All_c (i := 11) (fun k J hk hJ => rz_getf_ok (pc := 122) (own := RX12) (ref := "ThreadJudgeModel") (C := RX12) (T := TX12) (N := 257) (ci := 14) (index := 111) (f := 47) (t := 2) (Ts := Cond.code yX12_isBadCode cX12_isBadCode 2 (some .boolean) :: rz_TB) hx hb hts rz_in14 ho hK rfl (by decide) rfl (fun _ => rfl) (hw (i := 41) (j := 9) rfl rfl) (fun _ z => z) dX12_isBadCode_122 hk) ?_
  refine rz_All_c (i := 12) (fun k J hk hJ => rz_iload_n_ok (pc := 125) hx hb dX12_isBadCode_125 rfl hk) ?_
  refine rz_All_c (i := 13) (fun k J hk hJ => rz_iald_ok (pc := 126) hx hb hK dX12_isBadCode_126 hk) ?_
  refine rz_All_c (i := 14) (fun k J hk hJ => rz_iast_ok (pc := 127) hx hb hK hA dX12_isBadCode_127 hk) ?_
  refine rz_All_c (i := 15) (fun k J hk hJ => rz_aload_n_ok (pc := 128) hx hb dX12_isBadCode_128 rfl hk) ?_
  refine rz_All_c (i := 16) (fun k J hk hJ => rz_getf_ok (pc := 129) (own := RX12) (ref := "ThreadJudgeModel") (C := RX12) (T := TX12) (N := 257) (ci := 14) (index := 102) (f := 44) (t := 2) (Ts := Cond.code yX12_isBadCode cX12_isBadCode 2 (some .boolean) :: rz_TB) hx hb hts rz_in14 ho hK rfl (by decide) rfl (fun _ => rfl) (hw (i := 40) (j := 12) rfl rfl) (fun _ z => z) dX12_isBadCode_129 hk) ?_
  refine rz_All_c (i := 17) (fun k J hk hJ => rz_iload_n_ok (pc := 132) hx hb dX12_isBadCode_132 rfl hk) ?_
  refine rz_All_c (i := 18) (fun k J hk hJ => rz_iald_ok (pc := 133) hx hb hK dX12_isBadCode_133 hk) ?_
  refine rz_All_c (i := 19) (fun k J hk hJ => rz_ifeq_ok (pc := 134) hx hb dX12_isBadCode_134 rfl hk (hJ 32)) ?_
  refine rz_All_c (i := 20) (fun k J hk hJ => rz_aload_n_ok (pc := 137) hx hb dX12_isBadCode_137 rfl hk) ?_
  refine rz_All_c (i := 21) (fun k J hk hJ => rz_getf_ok (pc := 138) (own := RX12) (ref := "ThreadJudgeModel") (C := RX12) (T := TX12) (N := 257) (ci := 14) (index := 111) (f := 47) (t := 2) (Ts := Cond.code yX12_isBadCode cX12_isBadCode 2 (some .boolean) :: rz_TB) hx hb hts rz_in14 ho hK rfl (by decide) rfl (fun _ => rfl) (hw (i := 41) (j := 9) rfl rfl) (fun _ z => z) dX12_isBadCode_138 hk) ?_
  refine rz_All_c (i := 22) (fun k J hk hJ => rz_iload_n_ok (pc := 141) hx hb dX12_isBadCode_141 rfl hk) ?_
  refine rz_All_c (i := 23) (fun k J hk hJ => rz_iald_ok (pc := 142) hx hb hK dX12_isBadCode_142 hk) ?_
  refine rz_All_c (i := 24) (fun k J hk hJ => rz_iflt_ok (pc := 143) hx hb dX12_isBadCode_143 rfl hk (hJ 31)) ?_
  refine rz_All_c (i := 25) (fun k J hk hJ => rz_aload_n_ok (pc := 146) hx hb dX12_isBadCode_146 rfl hk) ?_
  refine rz_All_c (i := 26) (fun k J hk hJ => rz_getf_ok (pc := 147) (own := RX12) (ref := "ThreadJudgeModel") (C := RX12) (T := TX12) (N := 257) (ci := 14) (index := 111) (f := 47) (t := 2) (Ts := Cond.code yX12_isBadCode cX12_isBadCode 2 (some .boolean) :: rz_TB) hx hb hts rz_in14 ho hK rfl (by decide) rfl (fun _ => rfl) (hw (i := 41) (j := 9) rfl rfl) (fun _ z => z) dX12_isBadCode_147 hk) ?_
  refine rz_All_c (i := 27) (fun k J hk hJ => rz_iload_n_ok (pc := 150) hx hb dX12_isBadCode_150 rfl hk) ?_
  refine rz_All_c (i := 28) (fun k J hk hJ => rz_iald_ok (pc := 151) hx hb hK dX12_isBadCode_151 hk) ?_
  refine rz_All_c (i := 29) (fun k J hk hJ => rz_bipush_ok (pc := 152) hx hb dX12_isBadCode_152 (by decide) hk) ?_
  refine rz_All_c (i := 30) (fun k J hk hJ => rz_icmple_ok (pc := 154) hx hb dX12_isBadCode_154 rfl hk (hJ 32)) ?_
  refine rz_All_c (i := 31) (fun k J hk hJ => rz_no_ok) ?_
  refine rz_All_c (i := 32) (fun k J hk hJ => rz_iconst_ok (pc := 161) hx hb dX12_isBadCode_161 rfl hk) ?_
  refine rz_All_c (i := 33) (fun k J hk hJ => rz_zret_ok (pc := 162) hC dX12_isBadCode_162) ?_
  refine rz_All_c (i := 34) (fun k J hk hJ => rz_no_ok) ?_
  refine rz_All_c (i := 35) (fun k J hk hJ => rz_no_ok) ?_
  refine rz_All_c (i := 36) (fun k J hk hJ => rz_aload_n_ok (pc := 215) hx hb dX12_isBadCode_215 rfl hk) ?_
  refine rz_All_c (i := 37) (fun k J hk hJ => rz_getf_ok (pc := 216) (own := RX12) (ref := "ThreadJudgeModel") (C := RX12) (T := TX12) (N := 257) (ci := 14) (index := 183) (f := 78) (t := 2) (Ts := Cond.code yX12_isBadCode cX12_isBadCode 2 (some .boolean) :: rz_TB) hx hb hts rz_in14 ho hK rfl (by decide) rfl (fun _ => rfl) (hw (i := 46) (j := 8) rfl rfl) (fun _ z => z) dX12_isBadCode_216 hk) ?_
  refine rz_All_c (i := 38) (fun k J hk hJ => rz_iload_n_ok (pc := 219) hx hb dX12_isBadCode_219 rfl hk) ?_
  refine rz_All_c (i := 39) (fun k J hk hJ => rz_aload_n_ok (pc := 220) hx hb dX12_isBadCode_220 rfl hk) ?_
  refine rz_All_c (i := 40) (fun k J hk hJ => rz_aload_n_ok (pc := 221) hx hb dX12_isBadCode_221 rfl hk) ?_
  refine rz_All_c (i := 41) (fun k J hk hJ => rz_getf_ok (pc := 222) (own := RX12) (ref := "ThreadJudgeModel") (C := RX12) (T := TX12) (N := 257) (ci := 14) (index := 108) (f := 46) (t := 2) (Ts := Cond.code yX12_isBadCode cX12_isBadCode 2 (some .boolean) :: rz_TB) hx hb hts rz_in14 ho hK rfl (by decide) rfl (fun _ => rfl) (hw (i := 40) (j := 14) rfl rfl) (fun _ z => z) dX12_isBadCode_222 hk) ?_
  refine rz_All_c (i := 42) (fun k J hk hJ => rz_iload_n_ok (pc := 225) hx hb dX12_isBadCode_225 rfl hk) ?_
  refine rz_All_c (i := 43) (fun k J hk hJ => rz_iald_ok (pc := 226) hx hb hK dX12_isBadCode_226 hk) ?_
  refine rz_All_c (i := 44) (fun k J hk hJ => rz_aload_n_ok (pc := 227) hx hb dX12_isBadCode_227 rfl hk) ?_
  refine rz_All_c (i := 45) (fun k J hk hJ => rz_getf_ok (pc := 228) (own := RX12) (ref := "ThreadJudgeModel") (C := RX12) (T := TX12) (N := 257) (ci := 14) (index := 117) (f := 49) (t := 2) (Ts := Cond.code yX12_isBadCode cX12_isBadCode 2 (some .boolean) :: rz_TB) hx hb hts rz_in14 ho hK rfl (by decide) rfl (fun _ => rfl) (hw (i := 42) (j := 2) rfl rfl) (fun _ z => z) dX12_isBadCode_228 hk) ?_
  refine rz_All_c (i := 46) (fun k J hk hJ => rz_iload_n_ok (pc := 231) hx hb dX12_isBadCode_231 rfl hk) ?_
  refine rz_All_c (i := 47) (fun k J hk hJ => rz_iald_ok (pc := 232) hx hb hK dX12_isBadCode_232 hk) ?_
  refine rz_All_c (i := 48) (fun k J hk hJ => rz_aload_n_ok (pc := 233) hx hb dX12_isBadCode_233 rfl hk) ?_
  refine rz_All_c (i := 49) (fun k J hk hJ => rz_getf_ok (pc := 234) (own := RX12) (ref := "ThreadJudgeModel") (C := RX12) (T := TX12) (N := 257) (ci := 14) (index := 120) (f := 50) (t := 2) (Ts := Cond.code yX12_isBadCode cX12_isBadCode 2 (some .boolean) :: rz_TB) hx hb hts rz_in14 ho hK rfl (by decide) rfl (fun _ => rfl) (hw (i := 42) (j := 3) rfl rfl) (fun _ z => z) dX12_isBadCode_234 hk) ?_
  refine rz_All_c (i := 50) (fun k J hk hJ => rz_iload_n_ok (pc := 237) hx hb dX12_isBadCode_237 rfl hk) ?_
  refine rz_All_c (i := 51) (fun k J hk hJ => rz_iald_ok (pc := 238) hx hb hK dX12_isBadCode_238 hk) ?_
  refine rz_All_c (i := 52) (fun k J hk hJ => rz_callV_ok (pc := 239) (own := RX12) (C := RX12) (T0 := TX12) (N0 := 257) hC rfl (rmX12_labelled l hG) (rz_cwV 3 hC rz_good (rz_mem (i := 46) (j := 9) rfl rfl) (rz_mem (i := 46) (j := 10) rfl rfl) (rz_mem (i := 46) (j := 11) rfl rfl) (rz_mem (i := 32) (j := 8) rfl rfl) (rz_mem (i := 46) (j := 12) rfl rfl) ⟨rfl, by decide, by decide, by decide +kernel⟩ rfl rfl ⟨by decide, by decide⟩) rfl dX12_isBadCode_239 hk) ?_
  refine rz_All_c (i := 53) (fun k J hk hJ => rz_iast_ok (pc := 242) hx hb hK hA dX12_isBadCode_242 hk) ?_
  refine rz_All_c (i := 54) (fun k J hk hJ => rz_aload_n_ok (pc := 243) hx hb dX12_isBadCode_243 rfl hk) ?_
  refine rz_All_c (i := 55) (fun k J hk hJ => rz_getf_ok (pc := 244) (own := RX12) (ref := "ThreadJudgeModel") (C := RX12) (T := TX12) (N := 257) (ci := 14) (index := 183) (f := 78) (t := 2) (Ts := Cond.code yX12_isBadCode cX12_isBadCode 2 (some .boolean) :: rz_TB) hx hb hts rz_in14 ho hK rfl (by decide) rfl (fun _ => rfl) (hw (i := 46) (j := 8) rfl rfl) (fun _ z => z) dX12_isBadCode_244 hk) ?_
  refine rz_All_c (i := 56) (fun k J hk hJ => rz_iload_n_ok (pc := 247) hx hb dX12_isBadCode_247 rfl hk) ?_
  refine rz_All_c (i := 57) (fun k J hk hJ => rz_iald_ok (pc := 248) hx hb hK dX12_isBadCode_248 hk) ?_
  refine rz_All_c (i := 58) (fun k J hk hJ => rz_iconst_ok (pc := 249) hx hb dX12_isBadCode_249 rfl hk) ?_
  refine rz_All_c (i := 59) (fun k J hk hJ => rz_icmpne_ok (pc := 250) hx hb dX12_isBadCode_250 rfl hk (hJ 61)) ?_
  refine rz_All_c (i := 60) (fun k J hk hJ => rz_no_ok) ?_
  refine rz_All_c (i := 61) (fun k J hk hJ => rz_iconst_ok (pc := 257) hx hb dX12_isBadCode_257 rfl hk) ?_
  refine rz_All_c (i := 62) (fun k J hk hJ => rz_zret_ok (pc := 258) hC dX12_isBadCode_258) ?_
  refine rz_All_c (i := 63) (fun k J hk hJ => rz_aload_n_ok (pc := 259) hx hb dX12_isBadCode_259 rfl hk) ?_
  refine rz_All_c (i := 64) (fun k J hk hJ => rz_iload_n_ok (pc := 260) hx hb dX12_isBadCode_260 rfl hk) ?_
  refine rz_All_c (i := 65) (fun k J hk hJ => rz_callV_ok (pc := 261) (own := RX12) (C := RX12) (T0 := TX12) (N0 := 257) hC rfl (rmX12_isBadField l hG) (rz_cwV 1 hC rz_good (rz_mem (i := 46) (j := 13) rfl rfl) (rz_mem (i := 46) (j := 14) rfl rfl) (rz_mem (i := 46) (j := 15) rfl rfl) (rz_mem (i := 32) (j := 8) rfl rfl) (rz_mem (i := 46) (j := 16) rfl rfl) ⟨rfl, by decide, by decide, by decide +kernel⟩ rfl rfl ⟨by decide, by decide⟩) rfl dX12_isBadCode_261 hk) ?_
  refine rz_All_c (i := 66) (fun k J hk hJ => rz_zret_ok (pc := 264) hC dX12_isBadCode_264) ?_
  refine rz_All_c (i := 67) (fun k J hk hJ => rz_no_ok) ?_
  refine rz_All_c (i := 68) (fun k J hk hJ => rz_no_ok) ?_
  refine rz_All_c (i := 69) (fun k J hk hJ => rz_aload_n_ok (pc := 404) hx hb dX12_isBadCode_404 rfl hk) ?_
  refine rz_All_c (i := 70) (fun k J hk hJ => rz_iload_n_ok (pc := 405) hx hb dX12_isBadCode_405 rfl hk) ?_
  refine rz_All_c (i := 71) (fun k J hk hJ => rz_callV_ok (pc := 406) (own := RX12) (C := RX12) (T0 := TX12) (N0 := 257) hC rfl (rmX12_isBadCall l hG) (rz_cwV 1 hC rz_good (rz_mem (i := 46) (j := 21) rfl rfl) (rz_mem (i := 46) (j := 22) rfl rfl) (rz_mem (i := 46) (j := 23) rfl rfl) (rz_mem (i := 32) (j := 8) rfl rfl) (rz_mem (i := 47) (j := 0) rfl rfl) ⟨rfl, by decide, by decide, by decide +kernel⟩ rfl rfl ⟨by decide, by decide⟩) rfl dX12_isBadCode_406 hk) ?_
  refine rz_All_c (i := 72) (fun k J hk hJ => rz_zret_ok (pc := 409) hC dX12_isBadCode_409) ?_
  refine rz_All_c (i := 73) (fun k J hk hJ => rz_aload_n_ok (pc := 410) hx hb dX12_isBadCode_410 rfl hk) ?_
  refine rz_All_c (i := 74) (fun k J hk hJ => rz_getf_ok (pc := 411) (own := RX12) (ref := "ThreadJudgeModel") (C := RX12) (T := TX12) (N := 257) (ci := 14) (index := 183) (f := 78) (t := 2) (Ts := Cond.code yX12_isBadCode cX12_isBadCode 2 (some .boolean) :: rz_TB) hx hb hts rz_in14 ho hK rfl (by decide) rfl (fun _ => rfl) (hw (i := 46) (j := 8) rfl rfl) (fun _ z => z) dX12_isBadCode_411 hk) ?_
  refine rz_All_c (i := 75) (fun k J hk hJ => rz_iload_n_ok (pc := 414) hx hb dX12_isBadCode_414 rfl hk) ?_
  refine rz_All_c (i := 76) (fun k J hk hJ => rz_iconst_ok (pc := 415) hx hb dX12_isBadCode_415 rfl hk) ?_
  refine rz_All_c (i := 77) (fun k J hk hJ => rz_iast_ok (pc := 416) hx hb hK hA dX12_isBadCode_416 hk) ?_
  refine rz_All_c (i := 78) (fun k J hk hJ => rz_iconst_ok (pc := 417) hx hb dX12_isBadCode_417 rfl hk) ?_
  refine rz_All_c (i := 79) (fun k J hk hJ => rz_zret_ok (pc := 418) hC dX12_isBadCode_418) ?_
  exact trivial
theorem dX12_linkLines_0 : decode cX12_linkLines 0 = .ok (.iconst 0, 1) := by decide +kernel
theorem dX12_linkLines_1 : decode cX12_linkLines 1 = .ok (.istore_n 1, 1) := by decide +kernel
theorem dX12_linkLines_2 : decode cX12_linkLines 2 = .ok (.iload_n 1, 1) := by decide +kernel
theorem dX12_linkLines_3 : decode cX12_linkLines 3 = .ok (.aload_n 0, 1) := by decide +kernel
theorem dX12_linkLines_4 : decode cX12_linkLines 4 = .ok (.getfield 718, 3) := by decide +kernel
theorem dX12_linkLines_7 : decode cX12_linkLines 7 = .ok (.if_icmp .ge 94, 3) := by decide +kernel
theorem dX12_linkLines_10 : decode cX12_linkLines 10 = .ok (.iconst 0, 1) := by decide +kernel
theorem dX12_linkLines_11 : decode cX12_linkLines 11 = .ok (.istore_n 2, 1) := by decide +kernel
theorem dX12_linkLines_12 : decode cX12_linkLines 12 = .ok (.iconst 0, 1) := by decide +kernel
theorem dX12_linkLines_13 : decode cX12_linkLines 13 = .ok (.istore_n 3, 1) := by decide +kernel
theorem dX12_linkLines_14 : decode cX12_linkLines 14 = .ok (.iload_n 3, 1) := by decide +kernel
theorem dX12_linkLines_15 : decode cX12_linkLines 15 = .ok (.iload_n 1, 1) := by decide +kernel
theorem dX12_linkLines_16 : decode cX12_linkLines 16 = .ok (.if_icmp .ge 65, 3) := by decide +kernel
theorem dX12_linkLines_81 : decode cX12_linkLines 81 = .ok (.iload_n 2, 1) := by decide +kernel
theorem dX12_linkLines_82 : decode cX12_linkLines 82 = .ok (.ifCond .eq 13, 3) := by decide +kernel
theorem dX12_linkLines_95 : decode cX12_linkLines 95 = .ok (.iinc 1 1, 3) := by decide +kernel
theorem dX12_linkLines_98 : decode cX12_linkLines 98 = .ok (.goto (-96), 3) := by decide +kernel
theorem dX12_linkLines_101 : decode cX12_linkLines 101 = .ok (.iconst 0, 1) := by decide +kernel
theorem dX12_linkLines_102 : decode cX12_linkLines 102 = .ok (.istore_n 1, 1) := by decide +kernel
theorem dX12_linkLines_103 : decode cX12_linkLines 103 = .ok (.iload_n 1, 1) := by decide +kernel
theorem dX12_linkLines_104 : decode cX12_linkLines 104 = .ok (.aload_n 0, 1) := by decide +kernel
theorem dX12_linkLines_105 : decode cX12_linkLines 105 = .ok (.getfield 706, 3) := by decide +kernel
theorem dX12_linkLines_108 : decode cX12_linkLines 108 = .ok (.if_icmp .ge 27, 3) := by decide +kernel
theorem dX12_linkLines_111 : decode cX12_linkLines 111 = .ok (.aload_n 0, 1) := by decide +kernel
theorem dX12_linkLines_112 : decode cX12_linkLines 112 = .ok (.iload_n 1, 1) := by decide +kernel
theorem dX12_linkLines_113 : decode cX12_linkLines 113 = .ok (.invokevirtual 861, 3) := by decide +kernel
theorem dX12_linkLines_116 : decode cX12_linkLines 116 = .ok (.ifCond .eq 13, 3) := by decide +kernel
theorem dX12_linkLines_129 : decode cX12_linkLines 129 = .ok (.iinc 1 1, 3) := by decide +kernel
theorem dX12_linkLines_132 : decode cX12_linkLines 132 = .ok (.goto (-29), 3) := by decide +kernel
theorem dX12_linkLines_135 : decode cX12_linkLines 135 = .ok (.iconst 0, 1) := by decide +kernel
theorem dX12_linkLines_136 : decode cX12_linkLines 136 = .ok (.istore_n 1, 1) := by decide +kernel
theorem dX12_linkLines_137 : decode cX12_linkLines 137 = .ok (.iload_n 1, 1) := by decide +kernel
theorem dX12_linkLines_138 : decode cX12_linkLines 138 = .ok (.aload_n 0, 1) := by decide +kernel
theorem dX12_linkLines_139 : decode cX12_linkLines 139 = .ok (.getfield 693, 3) := by decide +kernel
theorem dX12_linkLines_142 : decode cX12_linkLines 142 = .ok (.if_icmp .ge 238, 3) := by decide +kernel
theorem dX12_linkLines_145 : decode cX12_linkLines 145 = .ok (.bipush 8, 2) := by decide +kernel
theorem dX12_linkLines_147 : decode cX12_linkLines 147 = .ok (.iload_n 1, 1) := by decide +kernel
theorem dX12_linkLines_148 : decode cX12_linkLines 148 = .ok (.imul, 1) := by decide +kernel
theorem dX12_linkLines_149 : decode cX12_linkLines 149 = .ok (.istore_n 2, 1) := by decide +kernel
theorem dX12_linkLines_150 : decode cX12_linkLines 150 = .ok (.iload_n 2, 1) := by decide +kernel
theorem dX12_linkLines_151 : decode cX12_linkLines 151 = .ok (.bipush 8, 2) := by decide +kernel
theorem dX12_linkLines_153 : decode cX12_linkLines 153 = .ok (.iload_n 1, 1) := by decide +kernel
theorem dX12_linkLines_154 : decode cX12_linkLines 154 = .ok (.imul, 1) := by decide +kernel
theorem dX12_linkLines_155 : decode cX12_linkLines 155 = .ok (.aload_n 0, 1) := by decide +kernel
theorem dX12_linkLines_156 : decode cX12_linkLines 156 = .ok (.getfield 90, 3) := by decide +kernel
theorem dX12_linkLines_159 : decode cX12_linkLines 159 = .ok (.iload_n 1, 1) := by decide +kernel
theorem dX12_linkLines_160 : decode cX12_linkLines 160 = .ok (.iaload, 1) := by decide +kernel
theorem dX12_linkLines_161 : decode cX12_linkLines 161 = .ok (.iadd, 1) := by decide +kernel
theorem dX12_linkLines_162 : decode cX12_linkLines 162 = .ok (.if_icmp .ge 212, 3) := by decide +kernel
theorem dX12_linkLines_374 : decode cX12_linkLines 374 = .ok (.iinc 1 1, 3) := by decide +kernel
theorem dX12_linkLines_377 : decode cX12_linkLines 377 = .ok (.goto (-240), 3) := by decide +kernel
theorem dX12_linkLines_380 : decode cX12_linkLines 380 = .ok (.return_, 1) := by decide +kernel
def rpX12_linkLines : List Nat := [0, 1, 2, 3, 4, 7, 10, 11, 12, 13, 14, 15, 16, 19, 81, 82, 85, 95, 98, 101, 102, 103, 104, 105, 108, 111, 112, 113, 116, 119, 129, 132, 135, 136, 137, 138, 139, 142, 145, 147, 148, 149, 150, 151, 153, 154, 155, 156, 159, 160, 161, 162, 165, 374, 377, 380]
noncomputable def rcX12_linkLines : List rz_B := [rz_cst 0, rz_istore 1, rz_iload 1, rz_aload 0, rz_getf (Nat.add (Nat.mul 256 14) 1) 54 rz_i, rz_icmpge 19, rz_cst 0, rz_istore 2, rz_cst 0, rz_istore 3, rz_iload 3, rz_iload 1, rz_icmpge 14, rz_no, rz_iload 2, rz_ifeq 17, rz_no, rz_iinc 1 1, rz_goto 2, rz_cst 0, rz_istore 1, rz_iload 1, rz_aload 0, rz_getf (Nat.add (Nat.mul 256 14) 1) 43 rz_i, rz_icmpge 32, rz_aload 0, rz_iload 1, rz_callV 1 (Nat.add (Nat.mul 256 14) 1) rgX12_isBadCode, rz_ifeq 30, rz_no, rz_iinc 1 1, rz_goto 21, rz_cst 0, rz_istore 1, rz_iload 1, rz_aload 0, rz_getf (Nat.add (Nat.mul 256 14) 1) 31 rz_i, rz_icmpge 55, rz_cst 8, rz_iload 1, rz_imul, rz_istore 2, rz_iload 2, rz_cst 8, rz_iload 1, rz_imul, rz_aload 0, rz_getf (Nat.add (Nat.mul 256 14) 1) 39 rz_r, rz_iload 1, rz_iald, rz_iadd, rz_icmpge 53, rz_no, rz_iinc 1 1, rz_goto 34, rz_vret]
noncomputable def rgX12_linkLines : rz_L → rz_M → rz_Z → Bool := rz_go rcX12_linkLines 4 1000000
def rrX12_linkLines : Room := { frames := 9, cells := 0, slots := 0, locals := 241 }
theorem rmX12_linkLines (l : Launch) {G : rz_G} (hG : rz_Gd G) (vs : rz_L) (M : rz_M) (Z : rz_Z) (hn : vs.length = 1) (h : rgX12_linkLines vs M Z = true) : Met l yX12_linkLines (Cond.code yX12_linkLines cX12_linkLines 4 none :: rz_TB) rrX12_linkLines (rz_Pre G vs M) (rz_Qv G M.2 Z) 0 0 (fun q => rz_b G ≤ q) := by
  obtain ⟨D, tc, ad, b, xs, rfl⟩ := id hG
  refine rz_body (pcs := rpX12_linkLines) (by decide) rfl (by rw [hn]; decide) h ?_
  intro p e R s m args below meth c hC
  obtain ⟨hx, hb, hml, hr, hlk, ho, hts, hKn, hRm⟩ := id hC
  obtain ⟨hK, hA, hSt⟩ := id hKn
  have hw : ∀ {i j : Nat} {ws : List Cond} {w : Cond}, rz_WW[i]? = some ws → ws[j]? = some w → w.before args s = true := fun h1 h2 => hts _ (List.mem_cons_of_mem _ (rz_mem h1 h2))
  refine rz_All_c (i := 0) (fun k J hk hJ => rz_iconst_ok (pc := 0) hx hb dX12_linkLines_0 rfl hk) ?_
  refine rz_All_c (i := 1) (fun k J hk hJ => rz_istore_n_ok (pc := 1) hx hb dX12_linkLines_1 rfl hk) ?_
  refine rz_All_c (i := 2) (fun k J hk hJ => rz_iload_n_ok (pc := 2) hx hb dX12_linkLines_2 rfl hk) ?_
  refine rz_All_c (i := 3) (fun k J hk hJ => rz_aload_n_ok (pc := 3) hx hb dX12_linkLines_3 rfl hk) ?_
  refine rz_All_c (i := 4) (fun k J hk hJ => rz_getf_ok (pc := 4) (own := RX12) (ref := "ThreadJudgeModel") (C := RX12) (T := TX12) (N := 257) (ci := 14) (index := 718) (f := 54) (t := 0) (Ts := Cond.code yX12_linkLines cX12_linkLines 4 none :: rz_TB) hx hb hts rz_in14 ho hK rfl (by decide) rfl (fun _ => rfl) (hw (i := 32) (j := 21) rfl rfl) (fun _ z => z) dX12_linkLines_4 hk) ?_
  refine rz_All_c (i := 5) (fun k J hk hJ => rz_icmpge_ok (pc := 7) hx hb dX12_linkLines_7 rfl hk (hJ 19)) ?_
  refine rz_All_c (i := 6) (fun k J hk hJ => rz_iconst_ok (pc := 10) hx hb dX12_linkLines_10 rfl hk) ?_
  refine rz_All_c (i := 7) (fun k J hk hJ => rz_istore_n_ok (pc := 11) hx hb dX12_linkLines_11 rfl hk) ?_
  refine rz_All_c (i := 8) (fun k J hk hJ => rz_iconst_ok (pc := 12) hx hb dX12_linkLines_12 rfl hk) ?_
  refine rz_All_c (i := 9) (fun k J hk hJ => rz_istore_n_ok (pc := 13) hx hb dX12_linkLines_13 rfl hk) ?_
  refine rz_All_c (i := 10) (fun k J hk hJ => rz_iload_n_ok (pc := 14) hx hb dX12_linkLines_14 rfl hk) ?_
  refine rz_All_c (i := 11) (fun k J hk hJ => rz_iload_n_ok (pc := 15) hx hb dX12_linkLines_15 rfl hk) ?_
  refine rz_All_c (i := 12) (fun k J hk hJ => rz_icmpge_ok (pc := 16) hx hb dX12_linkLines_16 rfl hk (hJ 14)) ?_
  refine rz_All_c (i := 13) (fun k J hk hJ => rz_no_ok) ?_
  refine rz_All_c (i := 14) (fun k J hk hJ => rz_iload_n_ok (pc := 81) hx hb dX12_linkLines_81 rfl hk) ?_
  refine rz_All_c (i := 15) (fun k J hk hJ => rz_ifeq_ok (pc := 82) hx hb dX12_linkLines_82 rfl hk (hJ 17)) ?_
  refine rz_All_c (i := 16) (fun k J hk hJ => rz_no_ok) ?_
  refine rz_All_c (i := 17) (fun k J hk hJ => rz_iinc_ok (pc := 95) hx hb dX12_linkLines_95 (by decide) hk) ?_
  refine rz_All_c (i := 18) (fun k J hk hJ => rz_goto_ok (pc := 98) hx hb dX12_linkLines_98 rfl (hJ 2)) ?_
  refine rz_All_c (i := 19) (fun k J hk hJ => rz_iconst_ok (pc := 101) hx hb dX12_linkLines_101 rfl hk) ?_
  refine rz_All_c (i := 20) (fun k J hk hJ => rz_istore_n_ok (pc := 102) hx hb dX12_linkLines_102 rfl hk) ?_
  refine rz_All_c (i := 21) (fun k J hk hJ => rz_iload_n_ok (pc := 103) hx hb dX12_linkLines_103 rfl hk) ?_
  refine rz_All_c (i := 22) (fun k J hk hJ => rz_aload_n_ok (pc := 104) hx hb dX12_linkLines_104 rfl hk) ?_
  refine rz_All_c (i := 23) (fun k J hk hJ => rz_getf_ok (pc := 105) (own := RX12) (ref := "ThreadJudgeModel") (C := RX12) (T := TX12) (N := 257) (ci := 14) (index := 706) (f := 43) (t := 0) (Ts := Cond.code yX12_linkLines cX12_linkLines 4 none :: rz_TB) hx hb hts rz_in14 ho hK rfl (by decide) rfl (fun _ => rfl) (hw (i := 32) (j := 20) rfl rfl) (fun _ z => z) dX12_linkLines_105 hk) ?_
  refine rz_All_c (i := 24) (fun k J hk hJ => rz_icmpge_ok (pc := 108) hx hb dX12_linkLines_108 rfl hk (hJ 32)) ?_
  refine rz_All_c (i := 25) (fun k J hk hJ => rz_aload_n_ok (pc := 111) hx hb dX12_linkLines_111 rfl hk) ?_
  refine rz_All_c (i := 26) (fun k J hk hJ => rz_iload_n_ok (pc := 112) hx hb dX12_linkLines_112 rfl hk) ?_
  refine rz_All_c (i := 27) (fun k J hk hJ => rz_callV_ok (pc := 113) (own := RX12) (C := RX12) (T0 := TX12) (N0 := 257) hC rfl (rmX12_isBadCode l hG) (rz_cwV 1 hC rz_good (rz_mem (i := 46) (j := 4) rfl rfl) (rz_mem (i := 46) (j := 5) rfl rfl) (rz_mem (i := 46) (j := 6) rfl rfl) (rz_mem (i := 32) (j := 8) rfl rfl) (rz_mem (i := 46) (j := 7) rfl rfl) ⟨rfl, by decide, by decide, by decide +kernel⟩ rfl rfl ⟨by decide, by decide⟩) rfl dX12_linkLines_113 hk) ?_
  refine rz_All_c (i := 28) (fun k J hk hJ => rz_ifeq_ok (pc := 116) hx hb dX12_linkLines_116 rfl hk (hJ 30)) ?_
  refine rz_All_c (i := 29) (fun k J hk hJ => rz_no_ok) ?_
  refine rz_All_c (i := 30) (fun k J hk hJ => rz_iinc_ok (pc := 129) hx hb dX12_linkLines_129 (by decide) hk) ?_
  refine rz_All_c (i := 31) (fun k J hk hJ => rz_goto_ok (pc := 132) hx hb dX12_linkLines_132 rfl (hJ 21)) ?_
  refine rz_All_c (i := 32) (fun k J hk hJ => rz_iconst_ok (pc := 135) hx hb dX12_linkLines_135 rfl hk) ?_
  refine rz_All_c (i := 33) (fun k J hk hJ => rz_istore_n_ok (pc := 136) hx hb dX12_linkLines_136 rfl hk) ?_
  refine rz_All_c (i := 34) (fun k J hk hJ => rz_iload_n_ok (pc := 137) hx hb dX12_linkLines_137 rfl hk) ?_
  refine rz_All_c (i := 35) (fun k J hk hJ => rz_aload_n_ok (pc := 138) hx hb dX12_linkLines_138 rfl hk) ?_
  refine rz_All_c (i := 36) (fun k J hk hJ => rz_getf_ok (pc := 139) (own := RX12) (ref := "ThreadJudgeModel") (C := RX12) (T := TX12) (N := 257) (ci := 14) (index := 693) (f := 31) (t := 0) (Ts := Cond.code yX12_linkLines cX12_linkLines 4 none :: rz_TB) hx hb hts rz_in14 ho hK rfl (by decide) rfl (fun _ => rfl) (hw (i := 32) (j := 19) rfl rfl) (fun _ z => z) dX12_linkLines_139 hk) ?_
  refine rz_All_c (i := 37) (fun k J hk hJ => rz_icmpge_ok (pc := 142) hx hb dX12_linkLines_142 rfl hk (hJ 55)) ?_
  refine rz_All_c (i := 38) (fun k J hk hJ => rz_bipush_ok (pc := 145) hx hb dX12_linkLines_145 (by decide) hk) ?_
  refine rz_All_c (i := 39) (fun k J hk hJ => rz_iload_n_ok (pc := 147) hx hb dX12_linkLines_147 rfl hk) ?_
  refine rz_All_c (i := 40) (fun k J hk hJ => rz_imul_ok (pc := 148) hx hb dX12_linkLines_148 hk) ?_
  refine rz_All_c (i := 41) (fun k J hk hJ => rz_istore_n_ok (pc := 149) hx hb dX12_linkLines_149 rfl hk) ?_
  refine rz_All_c (i := 42) (fun k J hk hJ => rz_iload_n_ok (pc := 150) hx hb dX12_linkLines_150 rfl hk) ?_
  refine rz_All_c (i := 43) (fun k J hk hJ => rz_bipush_ok (pc := 151) hx hb dX12_linkLines_151 (by decide) hk) ?_
  refine rz_All_c (i := 44) (fun k J hk hJ => rz_iload_n_ok (pc := 153) hx hb dX12_linkLines_153 rfl hk) ?_
  refine rz_All_c (i := 45) (fun k J hk hJ => rz_imul_ok (pc := 154) hx hb dX12_linkLines_154 hk) ?_
  refine rz_All_c (i := 46) (fun k J hk hJ => rz_aload_n_ok (pc := 155) hx hb dX12_linkLines_155 rfl hk) ?_
  refine rz_All_c (i := 47) (fun k J hk hJ => rz_getf_ok (pc := 156) (own := RX12) (ref := "ThreadJudgeModel") (C := RX12) (T := TX12) (N := 257) (ci := 14) (index := 90) (f := 39) (t := 2) (Ts := Cond.code yX12_linkLines cX12_linkLines 4 none :: rz_TB) hx hb hts rz_in14 ho hK rfl (by decide) rfl (fun _ => rfl) (hw (i := 39) (j := 21) rfl rfl) (fun _ z => z) dX12_linkLines_156 hk) ?_
  refine rz_All_c (i := 48) (fun k J hk hJ => rz_iload_n_ok (pc := 159) hx hb dX12_linkLines_159 rfl hk) ?_
  refine rz_All_c (i := 49) (fun k J hk hJ => rz_iald_ok (pc := 160) hx hb hK dX12_linkLines_160 hk) ?_
  refine rz_All_c (i := 50) (fun k J hk hJ => rz_iadd_ok (pc := 161) hx hb dX12_linkLines_161 hk) ?_
  refine rz_All_c (i := 51) (fun k J hk hJ => rz_icmpge_ok (pc := 162) hx hb dX12_linkLines_162 rfl hk (hJ 53)) ?_
  refine rz_All_c (i := 52) (fun k J hk hJ => rz_no_ok) ?_
  refine rz_All_c (i := 53) (fun k J hk hJ => rz_iinc_ok (pc := 374) hx hb dX12_linkLines_374 (by decide) hk) ?_
  refine rz_All_c (i := 54) (fun k J hk hJ => rz_goto_ok (pc := 377) hx hb dX12_linkLines_377 rfl (hJ 34)) ?_
  refine rz_All_c (i := 55) (fun k J hk hJ => rz_vret_ok (pc := 380) hC dX12_linkLines_380) ?_
  exact trivial
