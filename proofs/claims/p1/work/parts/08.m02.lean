/-! Methods: handlers, facts, contracts. -/
theorem dX4_fieldOf_0 : decode cX4_fieldOf 0 = .ok (.iload_n 1, 1) := by decide +kernel
theorem dX4_fieldOf_1 : decode cX4_fieldOf 1 = .ok (.istore_n 3, 1) := by decide +kernel
theorem dX4_fieldOf_2 : decode cX4_fieldOf 2 = .ok (.iconst 0, 1) := by decide +kernel
theorem dX4_fieldOf_3 : decode cX4_fieldOf 3 = .ok (.istore 4, 2) := by decide +kernel
theorem dX4_fieldOf_5 : decode cX4_fieldOf 5 = .ok (.iload_n 3, 1) := by decide +kernel
theorem dX4_fieldOf_6 : decode cX4_fieldOf 6 = .ok (.ifCond .lt 84, 3) := by decide +kernel
theorem dX4_fieldOf_9 : decode cX4_fieldOf 9 = .ok (.iload 4, 2) := by decide +kernel
theorem dX4_fieldOf_11 : decode cX4_fieldOf 11 = .ok (.bipush 43, 2) := by decide +kernel
theorem dX4_fieldOf_13 : decode cX4_fieldOf 13 = .ok (.if_icmp .ge 77, 3) := by decide +kernel
theorem dX4_fieldOf_16 : decode cX4_fieldOf 16 = .ok (.iconst 0, 1) := by decide +kernel
theorem dX4_fieldOf_17 : decode cX4_fieldOf 17 = .ok (.istore 5, 2) := by decide +kernel
theorem dX4_fieldOf_19 : decode cX4_fieldOf 19 = .ok (.iload 5, 2) := by decide +kernel
theorem dX4_fieldOf_21 : decode cX4_fieldOf 21 = .ok (.aload_n 0, 1) := by decide +kernel
theorem dX4_fieldOf_22 : decode cX4_fieldOf 22 = .ok (.getfield 9, 3) := by decide +kernel
theorem dX4_fieldOf_25 : decode cX4_fieldOf 25 = .ok (.getfield 83, 3) := by decide +kernel
theorem dX4_fieldOf_28 : decode cX4_fieldOf 28 = .ok (.if_icmp .ge 44, 3) := by decide +kernel
theorem dX4_fieldOf_31 : decode cX4_fieldOf 31 = .ok (.aload_n 0, 1) := by decide +kernel
theorem dX4_fieldOf_32 : decode cX4_fieldOf 32 = .ok (.getfield 9, 3) := by decide +kernel
theorem dX4_fieldOf_35 : decode cX4_fieldOf 35 = .ok (.getfield 86, 3) := by decide +kernel
theorem dX4_fieldOf_38 : decode cX4_fieldOf 38 = .ok (.iconst 2, 1) := by decide +kernel
theorem dX4_fieldOf_39 : decode cX4_fieldOf 39 = .ok (.aaload, 1) := by decide +kernel
theorem dX4_fieldOf_40 : decode cX4_fieldOf 40 = .ok (.iload 5, 2) := by decide +kernel
theorem dX4_fieldOf_42 : decode cX4_fieldOf 42 = .ok (.iaload, 1) := by decide +kernel
theorem dX4_fieldOf_43 : decode cX4_fieldOf 43 = .ok (.iload_n 3, 1) := by decide +kernel
theorem dX4_fieldOf_44 : decode cX4_fieldOf 44 = .ok (.if_icmp .ne 22, 3) := by decide +kernel
theorem dX4_fieldOf_47 : decode cX4_fieldOf 47 = .ok (.aload_n 0, 1) := by decide +kernel
theorem dX4_fieldOf_48 : decode cX4_fieldOf 48 = .ok (.getfield 9, 3) := by decide +kernel
theorem dX4_fieldOf_51 : decode cX4_fieldOf 51 = .ok (.getfield 86, 3) := by decide +kernel
theorem dX4_fieldOf_54 : decode cX4_fieldOf 54 = .ok (.iconst 0, 1) := by decide +kernel
theorem dX4_fieldOf_55 : decode cX4_fieldOf 55 = .ok (.aaload, 1) := by decide +kernel
theorem dX4_fieldOf_56 : decode cX4_fieldOf 56 = .ok (.iload 5, 2) := by decide +kernel
theorem dX4_fieldOf_58 : decode cX4_fieldOf 58 = .ok (.iaload, 1) := by decide +kernel
theorem dX4_fieldOf_59 : decode cX4_fieldOf 59 = .ok (.iload_n 2, 1) := by decide +kernel
theorem dX4_fieldOf_60 : decode cX4_fieldOf 60 = .ok (.if_icmp .ne 6, 3) := by decide +kernel
theorem dX4_fieldOf_63 : decode cX4_fieldOf 63 = .ok (.iload 5, 2) := by decide +kernel
theorem dX4_fieldOf_65 : decode cX4_fieldOf 65 = .ok (.ireturn, 1) := by decide +kernel
def rpX4_fieldOf : List Nat := [0, 1, 2, 3, 5, 6, 9, 11, 13, 16, 17, 19, 21, 22, 25, 28, 31, 32, 35, 38, 39, 40, 42, 43, 44, 47, 48, 51, 54, 55, 56, 58, 59, 60, 63, 65, 66, 72, 90]
noncomputable def rcX4_fieldOf : List rz_B := [rz_iload 1, rz_istore 3, rz_cst 0, rz_istore 4, rz_iload 3, rz_iflt 38, rz_iload 4, rz_cst 43, rz_icmpge 38, rz_cst 0, rz_istore 5, rz_iload 5, rz_aload 0, rz_getf (Nat.add (Nat.mul 256 6) 1) 0 rz_r, rz_getf (Nat.add (Nat.mul 256 9) 1) 7 rz_i, rz_icmpge 37, rz_aload 0, rz_getf (Nat.add (Nat.mul 256 6) 1) 0 rz_r, rz_getf (Nat.add (Nat.mul 256 9) 1) 8 rz_r, rz_cst 2, rz_aald, rz_iload 5, rz_iald, rz_iload 3, rz_icmpne 36, rz_aload 0, rz_getf (Nat.add (Nat.mul 256 6) 1) 0 rz_r, rz_getf (Nat.add (Nat.mul 256 9) 1) 8 rz_r, rz_cst 0, rz_aald, rz_iload 5, rz_iald, rz_iload 2, rz_icmpne 36, rz_iload 5, rz_iret, rz_no, rz_no, rz_no]
noncomputable def rgX4_fieldOf : rz_L → rz_M → rz_Z → Bool := rz_go rcX4_fieldOf 6 1000000
def rrX4_fieldOf : Room := { frames := 0, cells := 0, slots := 0, locals := 0 }
theorem rmX4_fieldOf (l : Launch) {G : rz_G} (hG : rz_Gd G) (vs : rz_L) (M : rz_M) (Z : rz_Z) (hn : vs.length = 3) (h : rgX4_fieldOf vs M Z = true) : Met l yX4_fieldOf (Cond.code yX4_fieldOf cX4_fieldOf 6 (some .int) :: rz_TB) rrX4_fieldOf (rz_Pre G vs M) (rz_Qi G M.2 Z) 0 0 (fun q => rz_b G ≤ q) := by
  obtain ⟨D, tc, ad, b, xs, rfl⟩ := id hG
  refine rz_body (pcs := rpX4_fieldOf) (by decide) rfl (by rw [hn]; decide) h ?_
  intro p e R s m args below meth c hC
  obtain ⟨hx, hb, hml, hr, hlk, ho, hts, hKn, hRm⟩ := id hC
  obtain ⟨hK, hA, hSt⟩ := id hKn
  have hw : ∀ {i j : Nat} {ws : List Cond} {w : Cond}, rz_WW[i]? = some ws → ws[j]? = some w → w.before args s = true := fun h1 h2 => hts _ (List.mem_cons_of_mem _ (rz_mem h1 h2))
  refine rz_All_c (i := 0) (fun k J hk hJ => rz_iload_n_ok (pc := 0) hx hb dX4_fieldOf_0 rfl hk) ?_
  refine rz_All_c (i := 1) (fun k J hk hJ => rz_istore_n_ok (pc := 1) hx hb dX4_fieldOf_1 rfl hk) ?_
  refine rz_All_c (i := 2) (fun k J hk hJ => rz_iconst_ok (pc := 2) hx hb dX4_fieldOf_2 rfl hk) ?_
  refine rz_All_c (i := 3) (fun k J hk hJ => rz_istore_ok (pc := 3) hx hb dX4_fieldOf_3 hk) ?_
  refine rz_All_c (i := 4) (fun k J hk hJ => rz_iload_n_ok (pc := 5) hx hb dX4_fieldOf_5 rfl hk) ?_
  refine rz_All_c (i := 5) (fun k J hk hJ => rz_iflt_ok (pc := 6) hx hb dX4_fieldOf_6 rfl hk (hJ 38)) ?_
  refine rz_All_c (i := 6) (fun k J hk hJ => rz_iload_ok (pc := 9) hx hb dX4_fieldOf_9 hk) ?_
  refine rz_All_c (i := 7) (fun k J hk hJ => rz_bipush_ok (pc := 11) hx hb dX4_fieldOf_11 (by decide) hk) ?_
  refine rz_All_c (i := 8) (fun k J hk hJ => rz_icmpge_ok (pc := 13) hx hb dX4_fieldOf_13 rfl hk (hJ 38)) ?_
  refine rz_All_c (i := 9) (fun k J hk hJ => rz_iconst_ok (pc := 16) hx hb dX4_fieldOf_16 rfl hk) ?_
  refine rz_All_c (i := 10) (fun k J hk hJ => rz_istore_ok (pc := 17) hx hb dX4_fieldOf_17 hk) ?_
  refine rz_All_c (i := 11) (fun k J hk hJ => rz_iload_ok (pc := 19) hx hb dX4_fieldOf_19 hk) ?_
  refine rz_All_c (i := 12) (fun k J hk hJ => rz_aload_n_ok (pc := 21) hx hb dX4_fieldOf_21 rfl hk) ?_
  refine rz_All_c (i := 13) (fun k J hk hJ => rz_getf_ok (pc := 22) (own := RX4) (ref := "ThreadJudge$Linker") (C := RX4) (T := TX4) (N := 4) (ci := 6) (index := 9) (f := 0) (t := 2) (Ts := Cond.code yX4_fieldOf cX4_fieldOf 6 (some .int) :: rz_TB) hx hb hts rz_in6 ho hK rfl (by decide) rfl (fun _ => rfl) (hw (i := 16) (j := 3) rfl rfl) (fun _ z => z) dX4_fieldOf_22 hk) ?_
  refine rz_All_c (i := 14) (fun k J hk hJ => rz_getf_ok (pc := 25) (own := RX4) (ref := "ThreadJudge$Program") (C := RX7) (T := TX7) (N := 22) (ci := 9) (index := 83) (f := 7) (t := 0) (Ts := Cond.code yX4_fieldOf cX4_fieldOf 6 (some .int) :: rz_TB) hx hb hts rz_in9 ho hK rfl (by decide) rfl (fun _ => rfl) (hw (i := 17) (j := 10) rfl rfl) (fun _ z => z) dX4_fieldOf_25 hk) ?_
  refine rz_All_c (i := 15) (fun k J hk hJ => rz_icmpge_ok (pc := 28) hx hb dX4_fieldOf_28 rfl hk (hJ 37)) ?_
  refine rz_All_c (i := 16) (fun k J hk hJ => rz_aload_n_ok (pc := 31) hx hb dX4_fieldOf_31 rfl hk) ?_
  refine rz_All_c (i := 17) (fun k J hk hJ => rz_getf_ok (pc := 32) (own := RX4) (ref := "ThreadJudge$Linker") (C := RX4) (T := TX4) (N := 4) (ci := 6) (index := 9) (f := 0) (t := 2) (Ts := Cond.code yX4_fieldOf cX4_fieldOf 6 (some .int) :: rz_TB) hx hb hts rz_in6 ho hK rfl (by decide) rfl (fun _ => rfl) (hw (i := 16) (j := 3) rfl rfl) (fun _ z => z) dX4_fieldOf_32 hk) ?_
  refine rz_All_c (i := 18) (fun k J hk hJ => rz_getf_ok (pc := 35) (own := RX4) (ref := "ThreadJudge$Program") (C := RX7) (T := TX7) (N := 22) (ci := 9) (index := 86) (f := 8) (t := 2) (Ts := Cond.code yX4_fieldOf cX4_fieldOf 6 (some .int) :: rz_TB) hx hb hts rz_in9 ho hK rfl (by decide) rfl (fun _ => rfl) (hw (i := 17) (j := 11) rfl rfl) (fun _ z => z) dX4_fieldOf_35 hk) ?_
  refine rz_All_c (i := 19) (fun k J hk hJ => rz_iconst_ok (pc := 38) hx hb dX4_fieldOf_38 rfl hk) ?_
  refine rz_All_c (i := 20) (fun k J hk hJ => rz_aald_ok (pc := 39) hx hb hK dX4_fieldOf_39 hk) ?_
  refine rz_All_c (i := 21) (fun k J hk hJ => rz_iload_ok (pc := 40) hx hb dX4_fieldOf_40 hk) ?_
  refine rz_All_c (i := 22) (fun k J hk hJ => rz_iald_ok (pc := 42) hx hb hK dX4_fieldOf_42 hk) ?_
  refine rz_All_c (i := 23) (fun k J hk hJ => rz_iload_n_ok (pc := 43) hx hb dX4_fieldOf_43 rfl hk) ?_
  refine rz_All_c (i := 24) (fun k J hk hJ => rz_icmpne_ok (pc := 44) hx hb dX4_fieldOf_44 rfl hk (hJ 36)) ?_
  refine rz_All_c (i := 25) (fun k J hk hJ => rz_aload_n_ok (pc := 47) hx hb dX4_fieldOf_47 rfl hk) ?_
  refine rz_All_c (i := 26) (fun k J hk hJ => rz_getf_ok (pc := 48) (own := RX4) (ref := "ThreadJudge$Linker") (C := RX4) (T := TX4) (N := 4) (ci := 6) (index := 9) (f := 0) (t := 2) (Ts := Cond.code yX4_fieldOf cX4_fieldOf 6 (some .int) :: rz_TB) hx hb hts rz_in6 ho hK rfl (by decide) rfl (fun _ => rfl) (hw (i := 16) (j := 3) rfl rfl) (fun _ z => z) dX4_fieldOf_48 hk) ?_
  refine rz_All_c (i := 27) (fun k J hk hJ => rz_getf_ok (pc := 51) (own := RX4) (ref := "ThreadJudge$Program") (C := RX7) (T := TX7) (N := 22) (ci := 9) (index := 86) (f := 8) (t := 2) (Ts := Cond.code yX4_fieldOf cX4_fieldOf 6 (some .int) :: rz_TB) hx hb hts rz_in9 ho hK rfl (by decide) rfl (fun _ => rfl) (hw (i := 17) (j := 11) rfl rfl) (fun _ z => z) dX4_fieldOf_51 hk) ?_
  refine rz_All_c (i := 28) (fun k J hk hJ => rz_iconst_ok (pc := 54) hx hb dX4_fieldOf_54 rfl hk) ?_
  refine rz_All_c (i := 29) (fun k J hk hJ => rz_aald_ok (pc := 55) hx hb hK dX4_fieldOf_55 hk) ?_
  refine rz_All_c (i := 30) (fun k J hk hJ => rz_iload_ok (pc := 56) hx hb dX4_fieldOf_56 hk) ?_
  refine rz_All_c (i := 31) (fun k J hk hJ => rz_iald_ok (pc := 58) hx hb hK dX4_fieldOf_58 hk) ?_
  refine rz_All_c (i := 32) (fun k J hk hJ => rz_iload_n_ok (pc := 59) hx hb dX4_fieldOf_59 rfl hk) ?_
  refine rz_All_c (i := 33) (fun k J hk hJ => rz_icmpne_ok (pc := 60) hx hb dX4_fieldOf_60 rfl hk (hJ 36)) ?_
  refine rz_All_c (i := 34) (fun k J hk hJ => rz_iload_ok (pc := 63) hx hb dX4_fieldOf_63 hk) ?_
  refine rz_All_c (i := 35) (fun k J hk hJ => rz_iret_ok (pc := 65) hC dX4_fieldOf_65) ?_
  refine rz_All_c (i := 36) (fun k J hk hJ => rz_no_ok) ?_
  refine rz_All_c (i := 37) (fun k J hk hJ => rz_no_ok) ?_
  refine rz_All_c (i := 38) (fun k J hk hJ => rz_no_ok) ?_
  exact trivial
theorem dX4_isFieldUseWrong_0 : decode cX4_isFieldUseWrong 0 = .ok (.aload_n 0, 1) := by decide +kernel
theorem dX4_isFieldUseWrong_1 : decode cX4_isFieldUseWrong 1 = .ok (.getfield 9, 3) := by decide +kernel
theorem dX4_isFieldUseWrong_4 : decode cX4_isFieldUseWrong 4 = .ok (.aload_n 0, 1) := by decide +kernel
theorem dX4_isFieldUseWrong_5 : decode cX4_isFieldUseWrong 5 = .ok (.getfield 9, 3) := by decide +kernel
theorem dX4_isFieldUseWrong_8 : decode cX4_isFieldUseWrong 8 = .ok (.getfield 176, 3) := by decide +kernel
theorem dX4_isFieldUseWrong_11 : decode cX4_isFieldUseWrong 11 = .ok (.iconst 4, 1) := by decide +kernel
theorem dX4_isFieldUseWrong_12 : decode cX4_isFieldUseWrong 12 = .ok (.aaload, 1) := by decide +kernel
theorem dX4_isFieldUseWrong_13 : decode cX4_isFieldUseWrong 13 = .ok (.iload_n 1, 1) := by decide +kernel
theorem dX4_isFieldUseWrong_14 : decode cX4_isFieldUseWrong 14 = .ok (.iaload, 1) := by decide +kernel
theorem dX4_isFieldUseWrong_15 : decode cX4_isFieldUseWrong 15 = .ok (.invokevirtual 58, 3) := by decide +kernel
theorem dX4_isFieldUseWrong_18 : decode cX4_isFieldUseWrong 18 = .ok (.istore_n 3, 1) := by decide +kernel
theorem dX4_isFieldUseWrong_19 : decode cX4_isFieldUseWrong 19 = .ok (.iload_n 3, 1) := by decide +kernel
theorem dX4_isFieldUseWrong_20 : decode cX4_isFieldUseWrong 20 = .ok (.ifCond .ge 7, 3) := by decide +kernel
theorem dX4_isFieldUseWrong_27 : decode cX4_isFieldUseWrong 27 = .ok (.aload_n 0, 1) := by decide +kernel
theorem dX4_isFieldUseWrong_28 : decode cX4_isFieldUseWrong 28 = .ok (.iload_n 3, 1) := by decide +kernel
theorem dX4_isFieldUseWrong_29 : decode cX4_isFieldUseWrong 29 = .ok (.aload_n 0, 1) := by decide +kernel
theorem dX4_isFieldUseWrong_30 : decode cX4_isFieldUseWrong 30 = .ok (.getfield 9, 3) := by decide +kernel
theorem dX4_isFieldUseWrong_33 : decode cX4_isFieldUseWrong 33 = .ok (.getfield 176, 3) := by decide +kernel
theorem dX4_isFieldUseWrong_36 : decode cX4_isFieldUseWrong 36 = .ok (.iconst 5, 1) := by decide +kernel
theorem dX4_isFieldUseWrong_37 : decode cX4_isFieldUseWrong 37 = .ok (.aaload, 1) := by decide +kernel
theorem dX4_isFieldUseWrong_38 : decode cX4_isFieldUseWrong 38 = .ok (.iload_n 1, 1) := by decide +kernel
theorem dX4_isFieldUseWrong_39 : decode cX4_isFieldUseWrong 39 = .ok (.iaload, 1) := by decide +kernel
theorem dX4_isFieldUseWrong_40 : decode cX4_isFieldUseWrong 40 = .ok (.invokevirtual 214, 3) := by decide +kernel
theorem dX4_isFieldUseWrong_43 : decode cX4_isFieldUseWrong 43 = .ok (.istore 4, 2) := by decide +kernel
theorem dX4_isFieldUseWrong_45 : decode cX4_isFieldUseWrong 45 = .ok (.aload_n 0, 1) := by decide +kernel
theorem dX4_isFieldUseWrong_46 : decode cX4_isFieldUseWrong 46 = .ok (.getfield 9, 3) := by decide +kernel
theorem dX4_isFieldUseWrong_49 : decode cX4_isFieldUseWrong 49 = .ok (.getfield 176, 3) := by decide +kernel
theorem dX4_isFieldUseWrong_52 : decode cX4_isFieldUseWrong 52 = .ok (.bipush 9, 2) := by decide +kernel
theorem dX4_isFieldUseWrong_54 : decode cX4_isFieldUseWrong 54 = .ok (.aaload, 1) := by decide +kernel
theorem dX4_isFieldUseWrong_55 : decode cX4_isFieldUseWrong 55 = .ok (.iload_n 1, 1) := by decide +kernel
theorem dX4_isFieldUseWrong_56 : decode cX4_isFieldUseWrong 56 = .ok (.iload_n 3, 1) := by decide +kernel
theorem dX4_isFieldUseWrong_57 : decode cX4_isFieldUseWrong 57 = .ok (.iastore, 1) := by decide +kernel
theorem dX4_isFieldUseWrong_58 : decode cX4_isFieldUseWrong 58 = .ok (.aload_n 0, 1) := by decide +kernel
theorem dX4_isFieldUseWrong_59 : decode cX4_isFieldUseWrong 59 = .ok (.getfield 9, 3) := by decide +kernel
theorem dX4_isFieldUseWrong_62 : decode cX4_isFieldUseWrong 62 = .ok (.getfield 176, 3) := by decide +kernel
theorem dX4_isFieldUseWrong_65 : decode cX4_isFieldUseWrong 65 = .ok (.bipush 8, 2) := by decide +kernel
theorem dX4_isFieldUseWrong_67 : decode cX4_isFieldUseWrong 67 = .ok (.aaload, 1) := by decide +kernel
theorem dX4_isFieldUseWrong_68 : decode cX4_isFieldUseWrong 68 = .ok (.iload_n 1, 1) := by decide +kernel
theorem dX4_isFieldUseWrong_69 : decode cX4_isFieldUseWrong 69 = .ok (.iload 4, 2) := by decide +kernel
theorem dX4_isFieldUseWrong_71 : decode cX4_isFieldUseWrong 71 = .ok (.iastore, 1) := by decide +kernel
theorem dX4_isFieldUseWrong_72 : decode cX4_isFieldUseWrong 72 = .ok (.iload 4, 2) := by decide +kernel
theorem dX4_isFieldUseWrong_74 : decode cX4_isFieldUseWrong 74 = .ok (.ifCond .ge 5, 3) := by decide +kernel
theorem dX4_isFieldUseWrong_79 : decode cX4_isFieldUseWrong 79 = .ok (.aload_n 0, 1) := by decide +kernel
theorem dX4_isFieldUseWrong_80 : decode cX4_isFieldUseWrong 80 = .ok (.getfield 9, 3) := by decide +kernel
theorem dX4_isFieldUseWrong_83 : decode cX4_isFieldUseWrong 83 = .ok (.getfield 86, 3) := by decide +kernel
theorem dX4_isFieldUseWrong_86 : decode cX4_isFieldUseWrong 86 = .ok (.iconst 4, 1) := by decide +kernel
theorem dX4_isFieldUseWrong_87 : decode cX4_isFieldUseWrong 87 = .ok (.aaload, 1) := by decide +kernel
theorem dX4_isFieldUseWrong_88 : decode cX4_isFieldUseWrong 88 = .ok (.iload 4, 2) := by decide +kernel
theorem dX4_isFieldUseWrong_90 : decode cX4_isFieldUseWrong 90 = .ok (.iaload, 1) := by decide +kernel
theorem dX4_isFieldUseWrong_91 : decode cX4_isFieldUseWrong 91 = .ok (.iconst 1, 1) := by decide +kernel
theorem dX4_isFieldUseWrong_92 : decode cX4_isFieldUseWrong 92 = .ok (.iand, 1) := by decide +kernel
theorem dX4_isFieldUseWrong_93 : decode cX4_isFieldUseWrong 93 = .ok (.ifCond .eq 7, 3) := by decide +kernel
theorem dX4_isFieldUseWrong_100 : decode cX4_isFieldUseWrong 100 = .ok (.iconst 0, 1) := by decide +kernel
theorem dX4_isFieldUseWrong_101 : decode cX4_isFieldUseWrong 101 = .ok (.istore 5, 2) := by decide +kernel
theorem dX4_isFieldUseWrong_103 : decode cX4_isFieldUseWrong 103 = .ok (.iload 5, 2) := by decide +kernel
theorem dX4_isFieldUseWrong_105 : decode cX4_isFieldUseWrong 105 = .ok (.iload_n 2, 1) := by decide +kernel
theorem dX4_isFieldUseWrong_106 : decode cX4_isFieldUseWrong 106 = .ok (.bipush 40, 2) := by decide +kernel
theorem dX4_isFieldUseWrong_108 : decode cX4_isFieldUseWrong 108 = .ok (.if_icmp .eq 9, 3) := by decide +kernel
theorem dX4_isFieldUseWrong_111 : decode cX4_isFieldUseWrong 111 = .ok (.iload_n 2, 1) := by decide +kernel
theorem dX4_isFieldUseWrong_112 : decode cX4_isFieldUseWrong 112 = .ok (.bipush 41, 2) := by decide +kernel
theorem dX4_isFieldUseWrong_114 : decode cX4_isFieldUseWrong 114 = .ok (.if_icmp .ne 7, 3) := by decide +kernel
theorem dX4_isFieldUseWrong_121 : decode cX4_isFieldUseWrong 121 = .ok (.iconst 0, 1) := by decide +kernel
theorem dX4_isFieldUseWrong_122 : decode cX4_isFieldUseWrong 122 = .ok (.if_icmp .eq 5, 3) := by decide +kernel
theorem dX4_isFieldUseWrong_127 : decode cX4_isFieldUseWrong 127 = .ok (.aload_n 0, 1) := by decide +kernel
theorem dX4_isFieldUseWrong_128 : decode cX4_isFieldUseWrong 128 = .ok (.getfield 9, 3) := by decide +kernel
theorem dX4_isFieldUseWrong_131 : decode cX4_isFieldUseWrong 131 = .ok (.getfield 86, 3) := by decide +kernel
theorem dX4_isFieldUseWrong_134 : decode cX4_isFieldUseWrong 134 = .ok (.iconst 4, 1) := by decide +kernel
theorem dX4_isFieldUseWrong_135 : decode cX4_isFieldUseWrong 135 = .ok (.aaload, 1) := by decide +kernel
theorem dX4_isFieldUseWrong_136 : decode cX4_isFieldUseWrong 136 = .ok (.iload 4, 2) := by decide +kernel
theorem dX4_isFieldUseWrong_138 : decode cX4_isFieldUseWrong 138 = .ok (.iaload, 1) := by decide +kernel
theorem dX4_isFieldUseWrong_139 : decode cX4_isFieldUseWrong 139 = .ok (.iconst 4, 1) := by decide +kernel
theorem dX4_isFieldUseWrong_140 : decode cX4_isFieldUseWrong 140 = .ok (.iand, 1) := by decide +kernel
theorem dX4_isFieldUseWrong_141 : decode cX4_isFieldUseWrong 141 = .ok (.ifCond .eq 15, 3) := by decide +kernel
theorem dX4_isFieldUseWrong_156 : decode cX4_isFieldUseWrong 156 = .ok (.iconst 0, 1) := by decide +kernel
theorem dX4_isFieldUseWrong_157 : decode cX4_isFieldUseWrong 157 = .ok (.ireturn, 1) := by decide +kernel
def rpX4_isFieldUseWrong : List Nat := [0, 1, 4, 5, 8, 11, 12, 13, 14, 15, 18, 19, 20, 23, 27, 28, 29, 30, 33, 36, 37, 38, 39, 40, 43, 45, 46, 49, 52, 54, 55, 56, 57, 58, 59, 62, 65, 67, 68, 69, 71, 72, 74, 77, 79, 80, 83, 86, 87, 88, 90, 91, 92, 93, 96, 100, 101, 103, 105, 106, 108, 111, 112, 114, 117, 121, 122, 125, 127, 128, 131, 134, 135, 136, 138, 139, 140, 141, 144, 156, 157]
noncomputable def rcX4_isFieldUseWrong : List rz_B := [rz_aload 0, rz_getf (Nat.add (Nat.mul 256 6) 1) 0 rz_r, rz_aload 0, rz_getf (Nat.add (Nat.mul 256 6) 1) 0 rz_r, rz_getf (Nat.add (Nat.mul 256 9) 1) 14 rz_r, rz_cst 4, rz_aald, rz_iload 1, rz_iald, rz_callV 1 (Nat.add (Nat.mul 256 9) 1) rgX7_named, rz_istore 3, rz_iload 3, rz_ifge 14, rz_no, rz_aload 0, rz_iload 3, rz_aload 0, rz_getf (Nat.add (Nat.mul 256 6) 1) 0 rz_r, rz_getf (Nat.add (Nat.mul 256 9) 1) 14 rz_r, rz_cst 5, rz_aald, rz_iload 1, rz_iald, rz_callV 2 (Nat.add (Nat.mul 256 6) 1) rgX4_fieldOf, rz_istore 4, rz_aload 0, rz_getf (Nat.add (Nat.mul 256 6) 1) 0 rz_r, rz_getf (Nat.add (Nat.mul 256 9) 1) 14 rz_r, rz_cst 9, rz_aald, rz_iload 1, rz_iload 3, rz_iast, rz_aload 0, rz_getf (Nat.add (Nat.mul 256 6) 1) 0 rz_r, rz_getf (Nat.add (Nat.mul 256 9) 1) 14 rz_r, rz_cst 8, rz_aald, rz_iload 1, rz_iload 4, rz_iast, rz_iload 4, rz_ifge 44, rz_no, rz_aload 0, rz_getf (Nat.add (Nat.mul 256 6) 1) 0 rz_r, rz_getf (Nat.add (Nat.mul 256 9) 1) 8 rz_r, rz_cst 4, rz_aald, rz_iload 4, rz_iald, rz_cst 1, rz_iand, rz_ifeq 55, rz_no, rz_cst 0, rz_istore 5, rz_iload 5, rz_iload 2, rz_cst 40, rz_icmpeq 64, rz_iload 2, rz_cst 41, rz_icmpne 65, rz_no, rz_cst 0, rz_icmpeq 68, rz_no, rz_aload 0, rz_getf (Nat.add (Nat.mul 256 6) 1) 0 rz_r, rz_getf (Nat.add (Nat.mul 256 9) 1) 8 rz_r, rz_cst 4, rz_aald, rz_iload 4, rz_iald, rz_cst 4, rz_iand, rz_ifeq 79, rz_no, rz_cst 0, rz_zret]
noncomputable def rgX4_isFieldUseWrong : rz_L → rz_M → rz_Z → Bool := rz_go rcX4_isFieldUseWrong 7 1000000
def rrX4_isFieldUseWrong : Room := { frames := 1, cells := 0, slots := 0, locals := 25 }
theorem rmX4_isFieldUseWrong (l : Launch) {G : rz_G} (hG : rz_Gd G) (vs : rz_L) (M : rz_M) (Z : rz_Z) (hn : vs.length = 3) (h : rgX4_isFieldUseWrong vs M Z = true) : Met l yX4_isFieldUseWrong (Cond.code yX4_isFieldUseWrong cX4_isFieldUseWrong 7 (some .boolean) :: rz_TB) rrX4_isFieldUseWrong (rz_Pre G vs M) (rz_Qi G M.2 Z) 0 0 (fun q => rz_b G ≤ q) := by
  obtain ⟨D, tc, ad, b, xs, rfl⟩ := id hG
  refine rz_body (pcs := rpX4_isFieldUseWrong) (by decide) rfl (by rw [hn]; decide) h ?_
  intro p e R s m args below meth c hC
  obtain ⟨hx, hb, hml, hr, hlk, ho, hts, hKn, hRm⟩ := id hC
  obtain ⟨hK, hA, hSt⟩ := id hKn
  have hw : ∀ {i j : Nat} {ws : List Cond} {w : Cond}, rz_WW[i]? = some ws → ws[j]? = some w → w.before args s = true := fun h1 h2 => hts _ (List.mem_cons_of_mem _ (rz_mem h1 h2))
  refine rz_All_c (i := 0) (fun k J hk hJ => rz_aload_n_ok (pc := 0) hx hb dX4_isFieldUseWrong_0 rfl hk) ?_
  refine rz_All_c (i := 1) (fun k J hk hJ => rz_getf_ok (pc := 1) (own := RX4) (ref := "ThreadJudge$Linker") (C := RX4) (T := TX4) (N := 4) (ci := 6) (index := 9) (f := 0) (t := 2) (Ts := Cond.code yX4_isFieldUseWrong cX4_isFieldUseWrong 7 (some .boolean) :: rz_TB) hx hb hts rz_in6 ho hK rfl (by decide) rfl (fun _ => rfl) (hw (i := 16) (j := 3) rfl rfl) (fun _ z => z) dX4_isFieldUseWrong_1 hk) ?_
  refine rz_All_c (i := 2) (fun k J hk hJ => rz_aload_n_ok (pc := 4) hx hb dX4_isFieldUseWrong_4 rfl hk) ?_
  refine rz_All_c (i := 3) (fun k J hk hJ => rz_getf_ok (pc := 5) (own := RX4) (ref := "ThreadJudge$Linker") (C := RX4) (T := TX4) (N := 4) (ci := 6) (index := 9) (f := 0) (t := 2) (Ts := Cond.code yX4_isFieldUseWrong cX4_isFieldUseWrong 7 (some .boolean) :: rz_TB) hx hb hts rz_in6 ho hK rfl (by decide) rfl (fun _ => rfl) (hw (i := 16) (j := 3) rfl rfl) (fun _ z => z) dX4_isFieldUseWrong_5 hk) ?_
  refine rz_All_c (i := 4) (fun k J hk hJ => rz_getf_ok (pc := 8) (own := RX4) (ref := "ThreadJudge$Program") (C := RX7) (T := TX7) (N := 22) (ci := 9) (index := 176) (f := 14) (t := 2) (Ts := Cond.code yX4_isFieldUseWrong cX4_isFieldUseWrong 7 (some .boolean) :: rz_TB) hx hb hts rz_in9 ho hK rfl (by decide) rfl (fun _ => rfl) (hw (i := 21) (j := 11) rfl rfl) (fun _ z => z) dX4_isFieldUseWrong_8 hk) ?_
  refine rz_All_c (i := 5) (fun k J hk hJ => rz_iconst_ok (pc := 11) hx hb dX4_isFieldUseWrong_11 rfl hk) ?_
  refine rz_All_c (i := 6) (fun k J hk hJ => rz_aald_ok (pc := 12) hx hb hK dX4_isFieldUseWrong_12 hk) ?_
  refine rz_All_c (i := 7) (fun k J hk hJ => rz_iload_n_ok (pc := 13) hx hb dX4_isFieldUseWrong_13 rfl hk) ?_
  refine rz_All_c (i := 8) (fun k J hk hJ => rz_iald_ok (pc := 14) hx hb hK dX4_isFieldUseWrong_14 hk) ?_
  refine rz_All_c (i := 9) (fun k J hk hJ => rz_callV_ok (pc := 15) (own := RX4) (C := RX7) (T0 := TX7) (N0 := 22) hC rfl (rmX7_named l hG) (rz_cwV 1 hC rz_good (rz_mem (i := 16) (j := 8) rfl rfl) (rz_mem (i := 16) (j := 9) rfl rfl) (rz_mem (i := 16) (j := 10) rfl rfl) (rz_mem (i := 1) (j := 0) rfl rfl) (rz_mem (i := 16) (j := 11) rfl rfl) ⟨rfl, by decide, by decide, by decide +kernel⟩ rfl rfl ⟨by decide, by decide⟩) rfl dX4_isFieldUseWrong_15 hk) ?_
  refine rz_All_c (i := 10) (fun k J hk hJ => rz_istore_n_ok (pc := 18) hx hb dX4_isFieldUseWrong_18 rfl hk) ?_
  refine rz_All_c (i := 11) (fun k J hk hJ => rz_iload_n_ok (pc := 19) hx hb dX4_isFieldUseWrong_19 rfl hk) ?_
  refine rz_All_c (i := 12) (fun k J hk hJ => rz_ifge_ok (pc := 20) hx hb dX4_isFieldUseWrong_20 rfl hk (hJ 14)) ?_
  refine rz_All_c (i := 13) (fun k J hk hJ => rz_no_ok) ?_
  refine rz_All_c (i := 14) (fun k J hk hJ => rz_aload_n_ok (pc := 27) hx hb dX4_isFieldUseWrong_27 rfl hk) ?_
  refine rz_All_c (i := 15) (fun k J hk hJ => rz_iload_n_ok (pc := 28) hx hb dX4_isFieldUseWrong_28 rfl hk) ?_
  refine rz_All_c (i := 16) (fun k J hk hJ => rz_aload_n_ok (pc := 29) hx hb dX4_isFieldUseWrong_29 rfl hk) ?_
  refine rz_All_c (i := 17) (fun k J hk hJ => rz_getf_ok (pc := 30) (own := RX4) (ref := "ThreadJudge$Linker") (C := RX4) (T := TX4) (N := 4) (ci := 6) (index := 9) (f := 0) (t := 2) (Ts := Cond.code yX4_isFieldUseWrong cX4_isFieldUseWrong 7 (some .boolean) :: rz_TB) hx hb hts rz_in6 ho hK rfl (by decide) rfl (fun _ => rfl) (hw (i := 16) (j := 3) rfl rfl) (fun _ z => z) dX4_isFieldUseWrong_30 hk) ?_
  refine rz_All_c (i := 18) (fun k J hk hJ => rz_getf_ok (pc := 33) (own := RX4) (ref := "ThreadJudge$Program") (C := RX7) (T := TX7) (N := 22) (ci := 9) (index := 176) (f := 14) (t := 2) (Ts := Cond.code yX4_isFieldUseWrong cX4_isFieldUseWrong 7 (some .boolean) :: rz_TB) hx hb hts rz_in9 ho hK rfl (by decide) rfl (fun _ => rfl) (hw (i := 21) (j := 11) rfl rfl) (fun _ z => z) dX4_isFieldUseWrong_33 hk) ?_
  refine rz_All_c (i := 19) (fun k J hk hJ => rz_iconst_ok (pc := 36) hx hb dX4_isFieldUseWrong_36 rfl hk) ?_
  refine rz_All_c (i := 20) (fun k J hk hJ => rz_aald_ok (pc := 37) hx hb hK dX4_isFieldUseWrong_37 hk) ?_
  refine rz_All_c (i := 21) (fun k J hk hJ => rz_iload_n_ok (pc := 38) hx hb dX4_isFieldUseWrong_38 rfl hk) ?_
  refine rz_All_c (i := 22) (fun k J hk hJ => rz_iald_ok (pc := 39) hx hb hK dX4_isFieldUseWrong_39 hk) ?_
  refine rz_All_c (i := 23) (fun k J hk hJ => rz_callV_ok (pc := 40) (own := RX4) (C := RX4) (T0 := TX4) (N0 := 4) hC rfl (rmX4_fieldOf l hG) (rz_cwV 2 hC rz_good (rz_mem (i := 22) (j := 15) rfl rfl) (rz_mem (i := 22) (j := 16) rfl rfl) (rz_mem (i := 22) (j := 17) rfl rfl) (rz_mem (i := 15) (j := 19) rfl rfl) (rz_mem (i := 22) (j := 18) rfl rfl) ⟨rfl, by decide, by decide, by decide +kernel⟩ rfl rfl ⟨by decide, by decide⟩) rfl dX4_isFieldUseWrong_40 hk) ?_
  refine rz_All_c (i := 24) (fun k J hk hJ => rz_istore_ok (pc := 43) hx hb dX4_isFieldUseWrong_43 hk) ?_
  refine rz_All_c (i := 25) (fun k J hk hJ => rz_aload_n_ok (pc := 45) hx hb dX4_isFieldUseWrong_45 rfl hk) ?_
  refine rz_All_c (i := 26) (fun k J hk hJ => rz_getf_ok (pc := 46) (own := RX4) (ref := "ThreadJudge$Linker") (C := RX4) (T := TX4) (N := 4) (ci := 6) (index := 9) (f := 0) (t := 2) (Ts := Cond.code yX4_isFieldUseWrong cX4_isFieldUseWrong 7 (some .boolean) :: rz_TB) hx hb hts rz_in6 ho hK rfl (by decide) rfl (fun _ => rfl) (hw (i := 16) (j := 3) rfl rfl) (fun _ z => z) dX4_isFieldUseWrong_46 hk) ?_
  refine rz_All_c (i := 27) (fun k J hk hJ => rz_getf_ok (pc := 49) (own := RX4) (ref := "ThreadJudge$Program") (C := RX7) (T := TX7) (N := 22) (ci := 9) (index := 176) (f := 14) (t := 2) (Ts := Cond.code yX4_isFieldUseWrong cX4_isFieldUseWrong 7 (some .boolean) :: rz_TB) hx hb hts rz_in9 ho hK rfl (by decide) rfl (fun _ => rfl) (hw (i := 21) (j := 11) rfl rfl) (fun _ z => z) dX4_isFieldUseWrong_49 hk) ?_
  refine rz_All_c (i := 28) (fun k J hk hJ => rz_bipush_ok (pc := 52) hx hb dX4_isFieldUseWrong_52 (by decide) hk) ?_
  refine rz_All_c (i := 29) (fun k J hk hJ => rz_aald_ok (pc := 54) hx hb hK dX4_isFieldUseWrong_54 hk) ?_
  refine rz_All_c (i := 30) (fun k J hk hJ => rz_iload_n_ok (pc := 55) hx hb dX4_isFieldUseWrong_55 rfl hk) ?_
  refine rz_All_c (i := 31) (fun k J hk hJ => rz_iload_n_ok (pc := 56) hx hb dX4_isFieldUseWrong_56 rfl hk) ?_
  refine rz_All_c (i := 32) (fun k J hk hJ => rz_iast_ok (pc := 57) hx hb hK hA dX4_isFieldUseWrong_57 hk) ?_
  refine rz_All_c (i := 33) (fun k J hk hJ => rz_aload_n_ok (pc := 58) hx hb dX4_isFieldUseWrong_58 rfl hk) ?_
  refine rz_All_c (i := 34) (fun k J hk hJ => rz_getf_ok (pc := 59) (own := RX4) (ref := "ThreadJudge$Linker") (C := RX4) (T := TX4) (N := 4) (ci := 6) (index := 9) (f := 0) (t := 2) (Ts := Cond.code yX4_isFieldUseWrong cX4_isFieldUseWrong 7 (some .boolean) :: rz_TB) hx hb hts rz_in6 ho hK rfl (by decide) rfl (fun _ => rfl) (hw (i := 16) (j := 3) rfl rfl) (fun _ z => z) dX4_isFieldUseWrong_59 hk) ?_
  refine rz_All_c (i := 35) (fun k J hk hJ => rz_getf_ok (pc := 62) (own := RX4) (ref := "ThreadJudge$Program") (C := RX7) (T := TX7) (N := 22) (ci := 9) (index := 176) (f := 14) (t := 2) (Ts := Cond.code yX4_isFieldUseWrong cX4_isFieldUseWrong 7 (some .boolean) :: rz_TB) hx hb hts rz_in9 ho hK rfl (by decide) rfl (fun _ => rfl) (hw (i := 21) (j := 11) rfl rfl) (fun _ z => z) dX4_isFieldUseWrong_62 hk) ?_
  refine rz_All_c (i := 36) (fun k J hk hJ => rz_bipush_ok (pc := 65) hx hb dX4_isFieldUseWrong_65 (by decide) hk) ?_
  refine rz_All_c (i := 37) (fun k J hk hJ => rz_aald_ok (pc := 67) hx hb hK dX4_isFieldUseWrong_67 hk) ?_
  refine rz_All_c (i := 38) (fun k J hk hJ => rz_iload_n_ok (pc := 68) hx hb dX4_isFieldUseWrong_68 rfl hk) ?_
  refine rz_All_c (i := 39) (fun k J hk hJ => rz_iload_ok (pc := 69) hx hb dX4_isFieldUseWrong_69 hk) ?_
  refine rz_All_c (i := 40) (fun k J hk hJ => rz_iast_ok (pc := 71) hx hb hK hA dX4_isFieldUseWrong_71 hk) ?_
  refine rz_All_c (i := 41) (fun k J hk hJ => rz_iload_ok (pc := 72) hx hb dX4_isFieldUseWrong_72 hk) ?_
  refine rz_All_c (i := 42) (fun k J hk hJ => rz_ifge_ok (pc := 74) hx hb dX4_isFieldUseWrong_74 rfl hk (hJ 44)) ?_
  refine rz_All_c (i := 43) (fun k J hk hJ => rz_no_ok) ?_
  refine rz_All_c (i := 44) (fun k J hk hJ => rz_aload_n_ok (pc := 79) hx hb dX4_isFieldUseWrong_79 rfl hk) ?_
  refine rz_All_c (i := 45) (fun k J hk hJ => rz_getf_ok (pc := 80) (own := RX4) (ref := "ThreadJudge$Linker") (C := RX4) (T := TX4) (N := 4) (ci := 6) (index := 9) (f := 0) (t := 2) (Ts := Cond.code yX4_isFieldUseWrong cX4_isFieldUseWrong 7 (some .boolean) :: rz_TB) hx hb hts rz_in6 ho hK rfl (by decide) rfl (fun _ => rfl) (hw (i := 16) (j := 3) rfl rfl) (fun _ z => z) dX4_isFieldUseWrong_80 hk) ?_
  refine rz_All_c (i := 46) (fun k J hk hJ => rz_getf_ok (pc := 83) (own := RX4) (ref := "ThreadJudge$Program") (C := RX7) (T := TX7) (N := 22) (ci := 9) (index := 86) (f := 8) (t := 2) (Ts := Cond.code yX4_isFieldUseWrong cX4_isFieldUseWrong 7 (some .boolean) :: rz_TB) hx hb hts rz_in9 ho hK rfl (by decide) rfl (fun _ => rfl) (hw (i := 17) (j := 11) rfl rfl) (fun _ z => z) dX4_isFieldUseWrong_83 hk) ?_
  refine rz_All_c (i := 47) (fun k J hk hJ => rz_iconst_ok (pc := 86) hx hb dX4_isFieldUseWrong_86 rfl hk) ?_
  refine rz_All_c (i := 48) (fun k J hk hJ => rz_aald_ok (pc := 87) hx hb hK dX4_isFieldUseWrong_87 hk) ?_
  refine rz_All_c (i := 49) (fun k J hk hJ => rz_iload_ok (pc := 88) hx hb dX4_isFieldUseWrong_88 hk) ?_
  refine rz_All_c (i := 50) (fun k J hk hJ => rz_iald_ok (pc := 90) hx hb hK dX4_isFieldUseWrong_90 hk) ?_
  refine rz_All_c (i := 51) (fun k J hk hJ => rz_iconst_ok (pc := 91) hx hb dX4_isFieldUseWrong_91 rfl hk) ?_
  refine rz_All_c (i := 52) (fun k J hk hJ => rz_iand_ok (pc := 92) hx hb dX4_isFieldUseWrong_92 hk) ?_
  refine rz_All_c (i := 53) (fun k J hk hJ => rz_ifeq_ok (pc := 93) hx hb dX4_isFieldUseWrong_93 rfl hk (hJ 55)) ?_
  refine rz_All_c (i := 54) (fun k J hk hJ => rz_no_ok) ?_
  refine rz_All_c (i := 55) (fun k J hk hJ => rz_iconst_ok (pc := 100) hx hb dX4_isFieldUseWrong_100 rfl hk) ?_
  refine rz_All_c (i := 56) (fun k J hk hJ => rz_istore_ok (pc := 101) hx hb dX4_isFieldUseWrong_101 hk) ?_
  refine rz_All_c (i := 57) (fun k J hk hJ => rz_iload_ok (pc := 103) hx hb dX4_isFieldUseWrong_103 hk) ?_
  refine rz_All_c (i := 58) (fun k J hk hJ => rz_iload_n_ok (pc := 105) hx hb dX4_isFieldUseWrong_105 rfl hk) ?_
  refine rz_All_c (i := 59) (fun k J hk hJ => rz_bipush_ok (pc := 106) hx hb dX4_isFieldUseWrong_106 (by decide) hk) ?_
  refine rz_All_c (i := 60) (fun k J hk hJ => rz_icmpeq_ok (pc := 108) hx hb dX4_isFieldUseWrong_108 rfl hk (hJ 64)) ?_
  refine rz_All_c (i := 61) (fun k J hk hJ => rz_iload_n_ok (pc := 111) hx hb dX4_isFieldUseWrong_111 rfl hk) ?_
  refine rz_All_c (i := 62) (fun k J hk hJ => rz_bipush_ok (pc := 112) hx hb dX4_isFieldUseWrong_112 (by decide) hk) ?_
  refine rz_All_c (i := 63) (fun k J hk hJ => rz_icmpne_ok (pc := 114) hx hb dX4_isFieldUseWrong_114 rfl hk (hJ 65)) ?_
  refine rz_All_c (i := 64) (fun k J hk hJ => rz_no_ok) ?_
  refine rz_All_c (i := 65) (fun k J hk hJ => rz_iconst_ok (pc := 121) hx hb dX4_isFieldUseWrong_121 rfl hk) ?_
  refine rz_All_c (i := 66) (fun k J hk hJ => rz_icmpeq_ok (pc := 122) hx hb dX4_isFieldUseWrong_122 rfl hk (hJ 68)) ?_
  refine rz_All_c (i := 67) (fun k J hk hJ => rz_no_ok) ?_
  refine rz_All_c (i := 68) (fun k J hk hJ => rz_aload_n_ok (pc := 127) hx hb dX4_isFieldUseWrong_127 rfl hk) ?_
  refine rz_All_c (i := 69) (fun k J hk hJ => rz_getf_ok (pc := 128) (own := RX4) (ref := "ThreadJudge$Linker") (C := RX4) (T := TX4) (N := 4) (ci := 6) (index := 9) (f := 0) (t := 2) (Ts := Cond.code yX4_isFieldUseWrong cX4_isFieldUseWrong 7 (some .boolean) :: rz_TB) hx hb hts rz_in6 ho hK rfl (by decide) rfl (fun _ => rfl) (hw (i := 16) (j := 3) rfl rfl) (fun _ z => z) dX4_isFieldUseWrong_128 hk) ?_
  refine rz_All_c (i := 70) (fun k J hk hJ => rz_getf_ok (pc := 131) (own := RX4) (ref := "ThreadJudge$Program") (C := RX7) (T := TX7) (N := 22) (ci := 9) (index := 86) (f := 8) (t := 2) (Ts := Cond.code yX4_isFieldUseWrong cX4_isFieldUseWrong 7 (some .boolean) :: rz_TB) hx hb hts rz_in9 ho hK rfl (by decide) rfl (fun _ => rfl) (hw (i := 17) (j := 11) rfl rfl) (fun _ z => z) dX4_isFieldUseWrong_131 hk) ?_
  refine rz_All_c (i := 71) (fun k J hk hJ => rz_iconst_ok (pc := 134) hx hb dX4_isFieldUseWrong_134 rfl hk) ?_
  refine rz_All_c (i := 72) (fun k J hk hJ => rz_aald_ok (pc := 135) hx hb hK dX4_isFieldUseWrong_135 hk) ?_
  refine rz_All_c (i := 73) (fun k J hk hJ => rz_iload_ok (pc := 136) hx hb dX4_isFieldUseWrong_136 hk) ?_
  refine rz_All_c (i := 74) (fun k J hk hJ => rz_iald_ok (pc := 138) hx hb hK dX4_isFieldUseWrong_138 hk) ?_
  refine rz_All_c (i := 75) (fun k J hk hJ => rz_iconst_ok (pc := 139) hx hb dX4_isFieldUseWrong_139 rfl hk) ?_
  refine rz_All_c (i := 76) (fun k J hk hJ => rz_iand_ok (pc := 140) hx hb dX4_isFieldUseWrong_140 hk) ?_
  refine rz_All_c (i := 77) (fun k J hk hJ => rz_ifeq_ok (pc := 141) hx hb dX4_isFieldUseWrong_141 rfl hk (hJ 79)) ?_
  refine rz_All_c (i := 78) (fun k J hk hJ => rz_no_ok) ?_
  refine rz_All_c (i := 79) (fun k J hk hJ => rz_iconst_ok (pc := 156) hx hb dX4_isFieldUseWrong_156 rfl hk) ?_
  refine rz_All_c (i := 80) (fun k J hk hJ => rz_zret_ok (pc := 157) hC dX4_isFieldUseWrong_157) ?_
  exact trivial
theorem dX4_labelOf_0 : decode cX4_labelOf 0 = .ok (.aload_n 0, 1) := by decide +kernel
theorem dX4_labelOf_1 : decode cX4_labelOf 1 = .ok (.getfield 9, 3) := by decide +kernel
theorem dX4_labelOf_4 : decode cX4_labelOf 4 = .ok (.getfield 95, 3) := by decide +kernel
theorem dX4_labelOf_7 : decode cX4_labelOf 7 = .ok (.bipush 8, 2) := by decide +kernel
theorem dX4_labelOf_9 : decode cX4_labelOf 9 = .ok (.aaload, 1) := by decide +kernel
theorem dX4_labelOf_10 : decode cX4_labelOf 10 = .ok (.iload_n 1, 1) := by decide +kernel
theorem dX4_labelOf_11 : decode cX4_labelOf 11 = .ok (.iaload, 1) := by decide +kernel
theorem dX4_labelOf_12 : decode cX4_labelOf 12 = .ok (.istore_n 3, 1) := by decide +kernel
theorem dX4_labelOf_13 : decode cX4_labelOf 13 = .ok (.iload_n 3, 1) := by decide +kernel
theorem dX4_labelOf_14 : decode cX4_labelOf 14 = .ok (.istore 4, 2) := by decide +kernel
theorem dX4_labelOf_16 : decode cX4_labelOf 16 = .ok (.iload 4, 2) := by decide +kernel
theorem dX4_labelOf_18 : decode cX4_labelOf 18 = .ok (.iload_n 3, 1) := by decide +kernel
theorem dX4_labelOf_19 : decode cX4_labelOf 19 = .ok (.aload_n 0, 1) := by decide +kernel
theorem dX4_labelOf_20 : decode cX4_labelOf 20 = .ok (.getfield 9, 3) := by decide +kernel
theorem dX4_labelOf_23 : decode cX4_labelOf 23 = .ok (.getfield 95, 3) := by decide +kernel
theorem dX4_labelOf_26 : decode cX4_labelOf 26 = .ok (.bipush 9, 2) := by decide +kernel
theorem dX4_labelOf_28 : decode cX4_labelOf 28 = .ok (.aaload, 1) := by decide +kernel
theorem dX4_labelOf_29 : decode cX4_labelOf 29 = .ok (.iload_n 1, 1) := by decide +kernel
theorem dX4_labelOf_30 : decode cX4_labelOf 30 = .ok (.iaload, 1) := by decide +kernel
theorem dX4_labelOf_31 : decode cX4_labelOf 31 = .ok (.iadd, 1) := by decide +kernel
theorem dX4_labelOf_32 : decode cX4_labelOf 32 = .ok (.if_icmp .ge 28, 3) := by decide +kernel
theorem dX4_labelOf_35 : decode cX4_labelOf 35 = .ok (.aload_n 0, 1) := by decide +kernel
theorem dX4_labelOf_36 : decode cX4_labelOf 36 = .ok (.getfield 9, 3) := by decide +kernel
theorem dX4_labelOf_39 : decode cX4_labelOf 39 = .ok (.getfield 179, 3) := by decide +kernel
theorem dX4_labelOf_42 : decode cX4_labelOf 42 = .ok (.iconst 0, 1) := by decide +kernel
theorem dX4_labelOf_43 : decode cX4_labelOf 43 = .ok (.aaload, 1) := by decide +kernel
theorem dX4_labelOf_44 : decode cX4_labelOf 44 = .ok (.iload 4, 2) := by decide +kernel
theorem dX4_labelOf_46 : decode cX4_labelOf 46 = .ok (.iaload, 1) := by decide +kernel
theorem dX4_labelOf_47 : decode cX4_labelOf 47 = .ok (.iload_n 2, 1) := by decide +kernel
theorem dX4_labelOf_48 : decode cX4_labelOf 48 = .ok (.if_icmp .ne 6, 3) := by decide +kernel
theorem dX4_labelOf_51 : decode cX4_labelOf 51 = .ok (.iload 4, 2) := by decide +kernel
theorem dX4_labelOf_53 : decode cX4_labelOf 53 = .ok (.ireturn, 1) := by decide +kernel
def rpX4_labelOf : List Nat := [0, 1, 4, 7, 9, 10, 11, 12, 13, 14, 16, 18, 19, 20, 23, 26, 28, 29, 30, 31, 32, 35, 36, 39, 42, 43, 44, 46, 47, 48, 51, 53, 54, 60]
noncomputable def rcX4_labelOf : List rz_B := [rz_aload 0, rz_getf (Nat.add (Nat.mul 256 6) 1) 0 rz_r, rz_getf (Nat.add (Nat.mul 256 9) 1) 10 rz_r, rz_cst 8, rz_aald, rz_iload 1, rz_iald, rz_istore 3, rz_iload 3, rz_istore 4, rz_iload 4, rz_iload 3, rz_aload 0, rz_getf (Nat.add (Nat.mul 256 6) 1) 0 rz_r, rz_getf (Nat.add (Nat.mul 256 9) 1) 10 rz_r, rz_cst 9, rz_aald, rz_iload 1, rz_iald, rz_iadd, rz_icmpge 33, rz_aload 0, rz_getf (Nat.add (Nat.mul 256 6) 1) 0 rz_r, rz_getf (Nat.add (Nat.mul 256 9) 1) 17 rz_r, rz_cst 0, rz_aald, rz_iload 4, rz_iald, rz_iload 2, rz_icmpne 32, rz_iload 4, rz_iret, rz_no, rz_no]
noncomputable def rgX4_labelOf : rz_L → rz_M → rz_Z → Bool := rz_go rcX4_labelOf 5 1000000
def rrX4_labelOf : Room := { frames := 0, cells := 0, slots := 0, locals := 0 }
theorem rmX4_labelOf (l : Launch) {G : rz_G} (hG : rz_Gd G) (vs : rz_L) (M : rz_M) (Z : rz_Z) (hn : vs.length = 3) (h : rgX4_labelOf vs M Z = true) : Met l yX4_labelOf (Cond.code yX4_labelOf cX4_labelOf 5 (some .int) :: rz_TB) rrX4_labelOf (rz_Pre G vs M) (rz_Qi G M.2 Z) 0 0 (fun q => rz_b G ≤ q) := by
  obtain ⟨D, tc, ad, b, xs, rfl⟩ := id hG
  refine rz_body (pcs := rpX4_labelOf) (by decide) rfl (by rw [hn]; decide) h ?_
  intro p e R s m args below meth c hC
  obtain ⟨hx, hb, hml, hr, hlk, ho, hts, hKn, hRm⟩ := id hC
  obtain ⟨hK, hA, hSt⟩ := id hKn
  have hw : ∀ {i j : Nat} {ws : List Cond} {w : Cond}, rz_WW[i]? = some ws → ws[j]? = some w → w.before args s = true := fun h1 h2 => hts _ (List.mem_cons_of_mem _ (rz_mem h1 h2))
  refine rz_All_c (i := 0) (fun k J hk hJ => rz_aload_n_ok (pc := 0) hx hb dX4_labelOf_0 rfl hk) ?_
  refine rz_All_c (i := 1) (fun k J hk hJ => rz_getf_ok (pc := 1) (own := RX4) (ref := "ThreadJudge$Linker") (C := RX4) (T := TX4) (N := 4) (ci := 6) (index := 9) (f := 0) (t := 2) (Ts := Cond.code yX4_labelOf cX4_labelOf 5 (some .int) :: rz_TB) hx hb hts rz_in6 ho hK rfl (by decide) rfl (fun _ => rfl) (hw (i := 16) (j := 3) rfl rfl) (fun _ z => z) dX4_labelOf_1 hk) ?_
  refine rz_All_c (i := 2) (fun k J hk hJ => rz_getf_ok (pc := 4) (own := RX4) (ref := "ThreadJudge$Program") (C := RX7) (T := TX7) (N := 22) (ci := 9) (index := 95) (f := 10) (t := 2) (Ts := Cond.code yX4_labelOf cX4_labelOf 5 (some .int) :: rz_TB) hx hb hts rz_in9 ho hK rfl (by decide) rfl (fun _ => rfl) (hw (i := 17) (j := 13) rfl rfl) (fun _ z => z) dX4_labelOf_4 hk) ?_
  refine rz_All_c (i := 3) (fun k J hk hJ => rz_bipush_ok (pc := 7) hx hb dX4_labelOf_7 (by decide) hk) ?_
  refine rz_All_c (i := 4) (fun k J hk hJ => rz_aald_ok (pc := 9) hx hb hK dX4_labelOf_9 hk) ?_
  refine rz_All_c (i := 5) (fun k J hk hJ => rz_iload_n_ok (pc := 10) hx hb dX4_labelOf_10 rfl hk) ?_
  refine rz_All_c (i := 6) (fun k J hk hJ => rz_iald_ok (pc := 11) hx hb hK dX4_labelOf_11 hk) ?_
  refine rz_All_c (i := 7) (fun k J hk hJ => rz_istore_n_ok (pc := 12) hx hb dX4_labelOf_12 rfl hk) ?_
  refine rz_All_c (i := 8) (fun k J hk hJ => rz_iload_n_ok (pc := 13) hx hb dX4_labelOf_13 rfl hk) ?_
  refine rz_All_c (i := 9) (fun k J hk hJ => rz_istore_ok (pc := 14) hx hb dX4_labelOf_14 hk) ?_
  refine rz_All_c (i := 10) (fun k J hk hJ => rz_iload_ok (pc := 16) hx hb dX4_labelOf_16 hk) ?_
  refine rz_All_c (i := 11) (fun k J hk hJ => rz_iload_n_ok (pc := 18) hx hb dX4_labelOf_18 rfl hk) ?_
  refine rz_All_c (i := 12) (fun k J hk hJ => rz_aload_n_ok (pc := 19) hx hb dX4_labelOf_19 rfl hk) ?_
  refine rz_All_c (i := 13) (fun k J hk hJ => rz_getf_ok (pc := 20) (own := RX4) (ref := "ThreadJudge$Linker") (C := RX4) (T := TX4) (N := 4) (ci := 6) (index := 9) (f := 0) (t := 2) (Ts := Cond.code yX4_labelOf cX4_labelOf 5 (some .int) :: rz_TB) hx hb hts rz_in6 ho hK rfl (by decide) rfl (fun _ => rfl) (hw (i := 16) (j := 3) rfl rfl) (fun _ z => z) dX4_labelOf_20 hk) ?_
  refine rz_All_c (i := 14) (fun k J hk hJ => rz_getf_ok (pc := 23) (own := RX4) (ref := "ThreadJudge$Program") (C := RX7) (T := TX7) (N := 22) (ci := 9) (index := 95) (f := 10) (t := 2) (Ts := Cond.code yX4_labelOf cX4_labelOf 5 (some .int) :: rz_TB) hx hb hts rz_in9 ho hK rfl (by decide) rfl (fun _ => rfl) (hw (i := 17) (j := 13) rfl rfl) (fun _ z => z) dX4_labelOf_23 hk) ?_
  refine rz_All_c (i := 15) (fun k J hk hJ => rz_bipush_ok (pc := 26) hx hb dX4_labelOf_26 (by decide) hk) ?_
  refine rz_All_c (i := 16) (fun k J hk hJ => rz_aald_ok (pc := 28) hx hb hK dX4_labelOf_28 hk) ?_
  refine rz_All_c (i := 17) (fun k J hk hJ => rz_iload_n_ok (pc := 29) hx hb dX4_labelOf_29 rfl hk) ?_
  refine rz_All_c (i := 18) (fun k J hk hJ => rz_iald_ok (pc := 30) hx hb hK dX4_labelOf_30 hk) ?_
  refine rz_All_c (i := 19) (fun k J hk hJ => rz_iadd_ok (pc := 31) hx hb dX4_labelOf_31 hk) ?_
  refine rz_All_c (i := 20) (fun k J hk hJ => rz_icmpge_ok (pc := 32) hx hb dX4_labelOf_32 rfl hk (hJ 33)) ?_
  refine rz_All_c (i := 21) (fun k J hk hJ => rz_aload_n_ok (pc := 35) hx hb dX4_labelOf_35 rfl hk) ?_
  refine rz_All_c (i := 22) (fun k J hk hJ => rz_getf_ok (pc := 36) (own := RX4) (ref := "ThreadJudge$Linker") (C := RX4) (T := TX4) (N := 4) (ci := 6) (index := 9) (f := 0) (t := 2) (Ts := Cond.code yX4_labelOf cX4_labelOf 5 (some .int) :: rz_TB) hx hb hts rz_in6 ho hK rfl (by decide) rfl (fun _ => rfl) (hw (i := 16) (j := 3) rfl rfl) (fun _ z => z) dX4_labelOf_36 hk) ?_
  refine rz_All_c (i := 23) (fun k J hk hJ => rz_getf_ok (pc := 39) (own := RX4) (ref := "ThreadJudge$Program") (C := RX7) (T := TX7) (N := 22) (ci := 9) (index := 179) (f := 17) (t := 2) (Ts := Cond.code yX4_labelOf cX4_labelOf 5 (some .int) :: rz_TB) hx hb hts rz_in9 ho hK rfl (by decide) rfl (fun _ => rfl) (hw (i := 21) (j := 16) rfl rfl) (fun _ z => z) dX4_labelOf_39 hk) ?_
  refine rz_All_c (i := 24) (fun k J hk hJ => rz_iconst_ok (pc := 42) hx hb dX4_labelOf_42 rfl hk) ?_
  refine rz_All_c (i := 25) (fun k J hk hJ => rz_aald_ok (pc := 43) hx hb hK dX4_labelOf_43 hk) ?_
  refine rz_All_c (i := 26) (fun k J hk hJ => rz_iload_ok (pc := 44) hx hb dX4_labelOf_44 hk) ?_
  refine rz_All_c (i := 27) (fun k J hk hJ => rz_iald_ok (pc := 46) hx hb hK dX4_labelOf_46 hk) ?_
  refine rz_All_c (i := 28) (fun k J hk hJ => rz_iload_n_ok (pc := 47) hx hb dX4_labelOf_47 rfl hk) ?_
  refine rz_All_c (i := 29) (fun k J hk hJ => rz_icmpne_ok (pc := 48) hx hb dX4_labelOf_48 rfl hk (hJ 32)) ?_
  refine rz_All_c (i := 30) (fun k J hk hJ => rz_iload_ok (pc := 51) hx hb dX4_labelOf_51 hk) ?_
  refine rz_All_c (i := 31) (fun k J hk hJ => rz_iret_ok (pc := 53) hC dX4_labelOf_53) ?_
  refine rz_All_c (i := 32) (fun k J hk hJ => rz_no_ok) ?_
  refine rz_All_c (i := 33) (fun k J hk hJ => rz_no_ok) ?_
  exact trivial
theorem dX4_isJumpWrong_0 : decode cX4_isJumpWrong 0 = .ok (.aload_n 0, 1) := by decide +kernel
theorem dX4_isJumpWrong_1 : decode cX4_isJumpWrong 1 = .ok (.aload_n 0, 1) := by decide +kernel
theorem dX4_isJumpWrong_2 : decode cX4_isJumpWrong 2 = .ok (.getfield 9, 3) := by decide +kernel
theorem dX4_isJumpWrong_5 : decode cX4_isJumpWrong 5 = .ok (.getfield 176, 3) := by decide +kernel
theorem dX4_isJumpWrong_8 : decode cX4_isJumpWrong 8 = .ok (.iconst 2, 1) := by decide +kernel
theorem dX4_isJumpWrong_9 : decode cX4_isJumpWrong 9 = .ok (.aaload, 1) := by decide +kernel
theorem dX4_isJumpWrong_10 : decode cX4_isJumpWrong 10 = .ok (.iload_n 1, 1) := by decide +kernel
theorem dX4_isJumpWrong_11 : decode cX4_isJumpWrong 11 = .ok (.iaload, 1) := by decide +kernel
theorem dX4_isJumpWrong_12 : decode cX4_isJumpWrong 12 = .ok (.aload_n 0, 1) := by decide +kernel
theorem dX4_isJumpWrong_13 : decode cX4_isJumpWrong 13 = .ok (.getfield 9, 3) := by decide +kernel
theorem dX4_isJumpWrong_16 : decode cX4_isJumpWrong 16 = .ok (.getfield 176, 3) := by decide +kernel
theorem dX4_isJumpWrong_19 : decode cX4_isJumpWrong 19 = .ok (.iconst 3, 1) := by decide +kernel
theorem dX4_isJumpWrong_20 : decode cX4_isJumpWrong 20 = .ok (.aaload, 1) := by decide +kernel
theorem dX4_isJumpWrong_21 : decode cX4_isJumpWrong 21 = .ok (.iload_n 1, 1) := by decide +kernel
theorem dX4_isJumpWrong_22 : decode cX4_isJumpWrong 22 = .ok (.iaload, 1) := by decide +kernel
theorem dX4_isJumpWrong_23 : decode cX4_isJumpWrong 23 = .ok (.invokevirtual 182, 3) := by decide +kernel
theorem dX4_isJumpWrong_26 : decode cX4_isJumpWrong 26 = .ok (.istore_n 2, 1) := by decide +kernel
theorem dX4_isJumpWrong_27 : decode cX4_isJumpWrong 27 = .ok (.aload_n 0, 1) := by decide +kernel
theorem dX4_isJumpWrong_28 : decode cX4_isJumpWrong 28 = .ok (.getfield 9, 3) := by decide +kernel
theorem dX4_isJumpWrong_31 : decode cX4_isJumpWrong 31 = .ok (.getfield 176, 3) := by decide +kernel
theorem dX4_isJumpWrong_34 : decode cX4_isJumpWrong 34 = .ok (.bipush 8, 2) := by decide +kernel
theorem dX4_isJumpWrong_36 : decode cX4_isJumpWrong 36 = .ok (.aaload, 1) := by decide +kernel
theorem dX4_isJumpWrong_37 : decode cX4_isJumpWrong 37 = .ok (.iload_n 1, 1) := by decide +kernel
theorem dX4_isJumpWrong_38 : decode cX4_isJumpWrong 38 = .ok (.iload_n 2, 1) := by decide +kernel
theorem dX4_isJumpWrong_39 : decode cX4_isJumpWrong 39 = .ok (.ifCond .ge 7, 3) := by decide +kernel
theorem dX4_isJumpWrong_46 : decode cX4_isJumpWrong 46 = .ok (.aload_n 0, 1) := by decide +kernel
theorem dX4_isJumpWrong_47 : decode cX4_isJumpWrong 47 = .ok (.getfield 9, 3) := by decide +kernel
theorem dX4_isJumpWrong_50 : decode cX4_isJumpWrong 50 = .ok (.getfield 179, 3) := by decide +kernel
theorem dX4_isJumpWrong_53 : decode cX4_isJumpWrong 53 = .ok (.iconst 2, 1) := by decide +kernel
theorem dX4_isJumpWrong_54 : decode cX4_isJumpWrong 54 = .ok (.aaload, 1) := by decide +kernel
theorem dX4_isJumpWrong_55 : decode cX4_isJumpWrong 55 = .ok (.iload_n 2, 1) := by decide +kernel
theorem dX4_isJumpWrong_56 : decode cX4_isJumpWrong 56 = .ok (.iaload, 1) := by decide +kernel
theorem dX4_isJumpWrong_57 : decode cX4_isJumpWrong 57 = .ok (.iastore, 1) := by decide +kernel
theorem dX4_isJumpWrong_58 : decode cX4_isJumpWrong 58 = .ok (.iload_n 2, 1) := by decide +kernel
theorem dX4_isJumpWrong_59 : decode cX4_isJumpWrong 59 = .ok (.ifCond .ge 7, 3) := by decide +kernel
theorem dX4_isJumpWrong_66 : decode cX4_isJumpWrong 66 = .ok (.iconst 0, 1) := by decide +kernel
theorem dX4_isJumpWrong_67 : decode cX4_isJumpWrong 67 = .ok (.ireturn, 1) := by decide +kernel
def rpX4_isJumpWrong : List Nat := [0, 1, 2, 5, 8, 9, 10, 11, 12, 13, 16, 19, 20, 21, 22, 23, 26, 27, 28, 31, 34, 36, 37, 38, 39, 42, 46, 47, 50, 53, 54, 55, 56, 57, 58, 59, 62, 66, 67]
noncomputable def rcX4_isJumpWrong : List rz_B := [rz_aload 0, rz_aload 0, rz_getf (Nat.add (Nat.mul 256 6) 1) 0 rz_r, rz_getf (Nat.add (Nat.mul 256 9) 1) 14 rz_r, rz_cst 2, rz_aald, rz_iload 1, rz_iald, rz_aload 0, rz_getf (Nat.add (Nat.mul 256 6) 1) 0 rz_r, rz_getf (Nat.add (Nat.mul 256 9) 1) 14 rz_r, rz_cst 3, rz_aald, rz_iload 1, rz_iald, rz_callV 2 (Nat.add (Nat.mul 256 6) 1) rgX4_labelOf, rz_istore 2, rz_aload 0, rz_getf (Nat.add (Nat.mul 256 6) 1) 0 rz_r, rz_getf (Nat.add (Nat.mul 256 9) 1) 14 rz_r, rz_cst 8, rz_aald, rz_iload 1, rz_iload 2, rz_ifge 26, rz_no, rz_aload 0, rz_getf (Nat.add (Nat.mul 256 6) 1) 0 rz_r, rz_getf (Nat.add (Nat.mul 256 9) 1) 17 rz_r, rz_cst 2, rz_aald, rz_iload 2, rz_iald, rz_iast, rz_iload 2, rz_ifge 37, rz_no, rz_cst 0, rz_zret]
noncomputable def rgX4_isJumpWrong : rz_L → rz_M → rz_Z → Bool := rz_go rcX4_isJumpWrong 3 1000000
def rrX4_isJumpWrong : Room := { frames := 1, cells := 0, slots := 0, locals := 24 }
theorem rmX4_isJumpWrong (l : Launch) {G : rz_G} (hG : rz_Gd G) (vs : rz_L) (M : rz_M) (Z : rz_Z) (hn : vs.length = 2) (h : rgX4_isJumpWrong vs M Z = true) : Met l yX4_isJumpWrong (Cond.code yX4_isJumpWrong cX4_isJumpWrong 3 (some .boolean) :: rz_TB) rrX4_isJumpWrong (rz_Pre G vs M) (rz_Qi G M.2 Z) 0 0 (fun q => rz_b G ≤ q) := by
  obtain ⟨D, tc, ad, b, xs, rfl⟩ := id hG
  refine rz_body (pcs := rpX4_isJumpWrong) (by decide) rfl (by rw [hn]; decide) h ?_
  intro p e R s m args below meth c hC
  obtain ⟨hx, hb, hml, hr, hlk, ho, hts, hKn, hRm⟩ := id hC
  obtain ⟨hK, hA, hSt⟩ := id hKn
  have hw : ∀ {i j : Nat} {ws : List Cond} {w : Cond}, rz_WW[i]? = some ws → ws[j]? = some w → w.before args s = true := fun h1 h2 => hts _ (List.mem_cons_of_mem _ (rz_mem h1 h2))
  refine rz_All_c (i := 0) (fun k J hk hJ => rz_aload_n_ok (pc := 0) hx hb dX4_isJumpWrong_0 rfl hk) ?_
  refine rz_All_c (i := 1) (fun k J hk hJ => rz_aload_n_ok (pc := 1) hx hb dX4_isJumpWrong_1 rfl hk) ?_
  refine rz_All_c (i := 2) (fun k J hk hJ => rz_getf_ok (pc := 2) (own := RX4) (ref := "ThreadJudge$Linker") (C := RX4) (T := TX4) (N := 4) (ci := 6) (index := 9) (f := 0) (t := 2) (Ts := Cond.code yX4_isJumpWrong cX4_isJumpWrong 3 (some .boolean) :: rz_TB) hx hb hts rz_in6 ho hK rfl (by decide) rfl (fun _ => rfl) (hw (i := 16) (j := 3) rfl rfl) (fun _ z => z) dX4_isJumpWrong_2 hk) ?_
  refine rz_All_c (i := 3) (fun k J hk hJ => rz_getf_ok (pc := 5) (own := RX4) (ref := "ThreadJudge$Program") (C := RX7) (T := TX7) (N := 22) (ci := 9) (index := 176) (f := 14) (t := 2) (Ts := Cond.code yX4_isJumpWrong cX4_isJumpWrong 3 (some .boolean) :: rz_TB) hx hb hts rz_in9 ho hK rfl (by decide) rfl (fun _ => rfl) (hw (i := 21) (j := 11) rfl rfl) (fun _ z => z) dX4_isJumpWrong_5 hk) ?_
  refine rz_All_c (i := 4) (fun k J hk hJ => rz_iconst_ok (pc := 8) hx hb dX4_isJumpWrong_8 rfl hk) ?_
  refine rz_All_c (i := 5) (fun k J hk hJ => rz_aald_ok (pc := 9) hx hb hK dX4_isJumpWrong_9 hk) ?_
  refine rz_All_c (i := 6) (fun k J hk hJ => rz_iload_n_ok (pc := 10) hx hb dX4_isJumpWrong_10 rfl hk) ?_
  refine rz_All_c (i := 7) (fun k J hk hJ => rz_iald_ok (pc := 11) hx hb hK dX4_isJumpWrong_11 hk) ?_
  refine rz_All_c (i := 8) (fun k J hk hJ => rz_aload_n_ok (pc := 12) hx hb dX4_isJumpWrong_12 rfl hk) ?_
  refine rz_All_c (i := 9) (fun k J hk hJ => rz_getf_ok (pc := 13) (own := RX4) (ref := "ThreadJudge$Linker") (C := RX4) (T := TX4) (N := 4) (ci := 6) (index := 9) (f := 0) (t := 2) (Ts := Cond.code yX4_isJumpWrong cX4_isJumpWrong 3 (some .boolean) :: rz_TB) hx hb hts rz_in6 ho hK rfl (by decide) rfl (fun _ => rfl) (hw (i := 16) (j := 3) rfl rfl) (fun _ z => z) dX4_isJumpWrong_13 hk) ?_
  refine rz_All_c (i := 10) (fun k J hk hJ => rz_getf_ok (pc := 16) (own := RX4) (ref := "ThreadJudge$Program") (C := RX7) (T := TX7) (N := 22) (ci := 9) (index := 176) (f := 14) (t := 2) (Ts := Cond.code yX4_isJumpWrong cX4_isJumpWrong 3 (some .boolean) :: rz_TB) hx hb hts rz_in9 ho hK rfl (by decide) rfl (fun _ => rfl) (hw (i := 21) (j := 11) rfl rfl) (fun _ z => z) dX4_isJumpWrong_16 hk) ?_
  refine rz_All_c (i := 11) (fun k J hk hJ => rz_iconst_ok (pc := 19) hx hb dX4_isJumpWrong_19 rfl hk) ?_
  refine rz_All_c (i := 12) (fun k J hk hJ => rz_aald_ok (pc := 20) hx hb hK dX4_isJumpWrong_20 hk) ?_
  refine rz_All_c (i := 13) (fun k J hk hJ => rz_iload_n_ok (pc := 21) hx hb dX4_isJumpWrong_21 rfl hk) ?_
  refine rz_All_c (i := 14) (fun k J hk hJ => rz_iald_ok (pc := 22) hx hb hK dX4_isJumpWrong_22 hk) ?_
  refine rz_All_c (i := 15) (fun k J hk hJ => rz_callV_ok (pc := 23) (own := RX4) (C := RX4) (T0 := TX4) (N0 := 4) hC rfl (rmX4_labelOf l hG) (rz_cwV 2 hC rz_good (rz_mem (i := 21) (j := 17) rfl rfl) (rz_mem (i := 21) (j := 18) rfl rfl) (rz_mem (i := 21) (j := 19) rfl rfl) (rz_mem (i := 15) (j := 19) rfl rfl) (rz_mem (i := 21) (j := 20) rfl rfl) ⟨rfl, by decide, by decide, by decide +kernel⟩ rfl rfl ⟨by decide, by decide⟩) rfl dX4_isJumpWrong_23 hk) ?_
  refine rz_All_c (i := 16) (fun k J hk hJ => rz_istore_n_ok (pc := 26) hx hb dX4_isJumpWrong_26 rfl hk) ?_
  refine rz_All_c (i := 17) (fun k J hk hJ => rz_aload_n_ok (pc := 27) hx hb dX4_isJumpWrong_27 rfl hk) ?_
  refine rz_All_c (i := 18) (fun k J hk hJ => rz_getf_ok (pc := 28) (own := RX4) (ref := "ThreadJudge$Linker") (C := RX4) (T := TX4) (N := 4) (ci := 6) (index := 9) (f := 0) (t := 2) (Ts := Cond.code yX4_isJumpWrong cX4_isJumpWrong 3 (some .boolean) :: rz_TB) hx hb hts rz_in6 ho hK rfl (by decide) rfl (fun _ => rfl) (hw (i := 16) (j := 3) rfl rfl) (fun _ z => z) dX4_isJumpWrong_28 hk) ?_
  refine rz_All_c (i := 19) (fun k J hk hJ => rz_getf_ok (pc := 31) (own := RX4) (ref := "ThreadJudge$Program") (C := RX7) (T := TX7) (N := 22) (ci := 9) (index := 176) (f := 14) (t := 2) (Ts := Cond.code yX4_isJumpWrong cX4_isJumpWrong 3 (some .boolean) :: rz_TB) hx hb hts rz_in9 ho hK rfl (by decide) rfl (fun _ => rfl) (hw (i := 21) (j := 11) rfl rfl) (fun _ z => z) dX4_isJumpWrong_31 hk) ?_
  refine rz_All_c (i := 20) (fun k J hk hJ => rz_bipush_ok (pc := 34) hx hb dX4_isJumpWrong_34 (by decide) hk) ?_
  refine rz_All_c (i := 21) (fun k J hk hJ => rz_aald_ok (pc := 36) hx hb hK dX4_isJumpWrong_36 hk) ?_
  refine rz_All_c (i := 22) (fun k J hk hJ => rz_iload_n_ok (pc := 37) hx hb dX4_isJumpWrong_37 rfl hk) ?_
  refine rz_All_c (i := 23) (fun k J hk hJ => rz_iload_n_ok (pc := 38) hx hb dX4_isJumpWrong_38 rfl hk) ?_
  refine rz_All_c (i := 24) (fun k J hk hJ => rz_ifge_ok (pc := 39) hx hb dX4_isJumpWrong_39 rfl hk (hJ 26)) ?_
  refine rz_All_c (i := 25) (fun k J hk hJ => rz_no_ok) ?_
  refine rz_All_c (i := 26) (fun k J hk hJ => rz_aload_n_ok (pc := 46) hx hb dX4_isJumpWrong_46 rfl hk) ?_
  refine rz_All_c (i := 27) (fun k J hk hJ => rz_getf_ok (pc := 47) (own := RX4) (ref := "ThreadJudge$Linker") (C := RX4) (T := TX4) (N := 4) (ci := 6) (index := 9) (f := 0) (t := 2) (Ts := Cond.code yX4_isJumpWrong cX4_isJumpWrong 3 (some .boolean) :: rz_TB) hx hb hts rz_in6 ho hK rfl (by decide) rfl (fun _ => rfl) (hw (i := 16) (j := 3) rfl rfl) (fun _ z => z) dX4_isJumpWrong_47 hk) ?_
  refine rz_All_c (i := 28) (fun k J hk hJ => rz_getf_ok (pc := 50) (own := RX4) (ref := "ThreadJudge$Program") (C := RX7) (T := TX7) (N := 22) (ci := 9) (index := 179) (f := 17) (t := 2) (Ts := Cond.code yX4_isJumpWrong cX4_isJumpWrong 3 (some .boolean) :: rz_TB) hx hb hts rz_in9 ho hK rfl (by decide) rfl (fun _ => rfl) (hw (i := 21) (j := 16) rfl rfl) (fun _ z => z) dX4_isJumpWrong_50 hk) ?_
  refine rz_All_c (i := 29) (fun k J hk hJ => rz_iconst_ok (pc := 53) hx hb dX4_isJumpWrong_53 rfl hk) ?_
  refine rz_All_c (i := 30) (fun k J hk hJ => rz_aald_ok (pc := 54) hx hb hK dX4_isJumpWrong_54 hk) ?_
  refine rz_All_c (i := 31) (fun k J hk hJ => rz_iload_n_ok (pc := 55) hx hb dX4_isJumpWrong_55 rfl hk) ?_
  refine rz_All_c (i := 32) (fun k J hk hJ => rz_iald_ok (pc := 56) hx hb hK dX4_isJumpWrong_56 hk) ?_
  refine rz_All_c (i := 33) (fun k J hk hJ => rz_iast_ok (pc := 57) hx hb hK hA dX4_isJumpWrong_57 hk) ?_
  refine rz_All_c (i := 34) (fun k J hk hJ => rz_iload_n_ok (pc := 58) hx hb dX4_isJumpWrong_58 rfl hk) ?_
  refine rz_All_c (i := 35) (fun k J hk hJ => rz_ifge_ok (pc := 59) hx hb dX4_isJumpWrong_59 rfl hk (hJ 37)) ?_
  refine rz_All_c (i := 36) (fun k J hk hJ => rz_no_ok) ?_
  refine rz_All_c (i := 37) (fun k J hk hJ => rz_iconst_ok (pc := 66) hx hb dX4_isJumpWrong_66 rfl hk) ?_
  refine rz_All_c (i := 38) (fun k J hk hJ => rz_zret_ok (pc := 67) hC dX4_isJumpWrong_67) ?_
  exact trivial
theorem dJ0_isLatin1_aae02_0 : decode cJ0_isLatin1_aae02 0 = .ok (.getstatic 38, 3) := by decide +kernel
theorem dJ0_isLatin1_aae02_3 : decode cJ0_isLatin1_aae02 3 = .ok (.ifCond .eq 14, 3) := by decide +kernel
theorem dJ0_isLatin1_aae02_6 : decode cJ0_isLatin1_aae02 6 = .ok (.aload_n 0, 1) := by decide +kernel
theorem dJ0_isLatin1_aae02_7 : decode cJ0_isLatin1_aae02 7 = .ok (.getfield 15, 3) := by decide +kernel
theorem dJ0_isLatin1_aae02_10 : decode cJ0_isLatin1_aae02 10 = .ok (.ifCond .ne 7, 3) := by decide +kernel
theorem dJ0_isLatin1_aae02_13 : decode cJ0_isLatin1_aae02 13 = .ok (.iconst 1, 1) := by decide +kernel
theorem dJ0_isLatin1_aae02_14 : decode cJ0_isLatin1_aae02 14 = .ok (.goto 4, 3) := by decide +kernel
theorem dJ0_isLatin1_aae02_18 : decode cJ0_isLatin1_aae02 18 = .ok (.ireturn, 1) := by decide +kernel
def rpJ0_isLatin1_aae02 : List Nat := [0, 3, 6, 7, 10, 13, 14, 17, 18]
noncomputable def rcJ0_isLatin1_aae02 : List rz_B := [rz_cst 1, rz_ifeq 7, rz_aload 0, rz_tcod, rz_ifne 7, rz_cst 1, rz_goto 8, rz_no, rz_zret]
noncomputable def rgJ0_isLatin1_aae02 : rz_L → rz_M → rz_Z → Bool := rz_go rcJ0_isLatin1_aae02 1 1000000
def rrJ0_isLatin1_aae02 : Room := { frames := 0, cells := 0, slots := 0, locals := 0 }
theorem rmJ0_isLatin1_aae02 (l : Launch) {G : rz_G} (hG : rz_Gd G) (vs : rz_L) (M : rz_M) (Z : rz_Z) (hn : vs.length = 1) (h : rgJ0_isLatin1_aae02 vs M Z = true) : Met l yJ0_isLatin1_aae02 (Cond.code yJ0_isLatin1_aae02 cJ0_isLatin1_aae02 1 (some .boolean) :: rz_TB) rrJ0_isLatin1_aae02 (rz_Pre G vs M) (rz_Qi G M.2 Z) 0 0 (fun q => rz_b G ≤ q) := by
  obtain ⟨D, tc, ad, b, xs, rfl⟩ := id hG
  refine rz_body (pcs := rpJ0_isLatin1_aae02) (by decide) rfl (by rw [hn]; decide) h ?_
  intro p e R s m args below meth c hC
  obtain ⟨hx, hb, hml, hr, hlk, ho, hts, hKn, hRm⟩ := id hC
  obtain ⟨hK, hA, hSt⟩ := id hKn
  have hw : ∀ {i j : Nat} {ws : List Cond} {w : Cond}, rz_WW[i]? = some ws → ws[j]? = some w → w.before args s = true := fun h1 h2 => hts _ (List.mem_cons_of_mem _ (rz_mem h1 h2))
  refine rz_All_c (i := 0) (fun k J hk hJ => rz_gets_ok (pc := 0) (own := RJ0) (ref := "java/lang/String") (index := 38) hx hb hSt.2.2.2.1 rfl ho (hw (i := 6) (j := 10) rfl rfl) (fun _ z => z) dJ0_isLatin1_aae02_0 hk) ?_
  refine rz_All_c (i := 1) (fun k J hk hJ => rz_ifeq_ok (pc := 3) hx hb dJ0_isLatin1_aae02_3 rfl hk (hJ 7)) ?_
  refine rz_All_c (i := 2) (fun k J hk hJ => rz_aload_n_ok (pc := 6) hx hb dJ0_isLatin1_aae02_6 rfl hk) ?_
  refine rz_All_c (i := 3) (fun k J hk hJ => rz_tcod_ok (pc := 7) (own := RJ0) (ref := "java/lang/String") (index := 15) hx hb hSt ho (hw (i := 6) (j := 11) rfl rfl) (fun _ z => z) dJ0_isLatin1_aae02_7 hk) ?_
  refine rz_All_c (i := 4) (fun k J hk hJ => rz_ifne_ok (pc := 10) hx hb dJ0_isLatin1_aae02_10 rfl hk (hJ 7)) ?_
  refine rz_All_c (i := 5) (fun k J hk hJ => rz_iconst_ok (pc := 13) hx hb dJ0_isLatin1_aae02_13 rfl hk) ?_
  refine rz_All_c (i := 6) (fun k J hk hJ => rz_goto_ok (pc := 14) hx hb dJ0_isLatin1_aae02_14 rfl (hJ 8)) ?_
  refine rz_All_c (i := 7) (fun k J hk hJ => rz_no_ok) ?_
  refine rz_All_c (i := 8) (fun k J hk hJ => rz_zret_ok (pc := 18) hC dJ0_isLatin1_aae02_18) ?_
  exact trivial
theorem dJ1_charAt_3b067_0 : decode cJ1_charAt_3b067 0 = .ok (.iload_n 1, 1) := by decide +kernel
theorem dJ1_charAt_3b067_1 : decode cJ1_charAt_3b067 1 = .ok (.aload_n 0, 1) := by decide +kernel
theorem dJ1_charAt_3b067_2 : decode cJ1_charAt_3b067 2 = .ok (.arraylength, 1) := by decide +kernel
theorem dJ1_charAt_3b067_3 : decode cJ1_charAt_3b067 3 = .ok (.invokestatic 9, 3) := by decide +kernel
theorem dJ1_charAt_3b067_6 : decode cJ1_charAt_3b067 6 = .ok (.aload_n 0, 1) := by decide +kernel
theorem dJ1_charAt_3b067_7 : decode cJ1_charAt_3b067 7 = .ok (.iload_n 1, 1) := by decide +kernel
theorem dJ1_charAt_3b067_8 : decode cJ1_charAt_3b067 8 = .ok (.baload, 1) := by decide +kernel
theorem dJ1_charAt_3b067_9 : decode cJ1_charAt_3b067 9 = .ok (.sipush 255, 3) := by decide +kernel
theorem dJ1_charAt_3b067_12 : decode cJ1_charAt_3b067 12 = .ok (.iand, 1) := by decide +kernel
theorem dJ1_charAt_3b067_13 : decode cJ1_charAt_3b067 13 = .ok (.i2c, 1) := by decide +kernel
theorem dJ1_charAt_3b067_14 : decode cJ1_charAt_3b067 14 = .ok (.ireturn, 1) := by decide +kernel
def rpJ1_charAt_3b067 : List Nat := [0, 1, 2, 3, 6, 7, 8, 9, 12, 13, 14]
noncomputable def rcJ1_charAt_3b067 : List rz_B := [rz_iload 1, rz_aload 0, rz_tlen, rz_callSv 2 rgJ0_checkIndex_df160, rz_aload 0, rz_iload 1, rz_tbld, rz_cst 255, rz_iand, rz_i2c, rz_cret]
noncomputable def rgJ1_charAt_3b067 : rz_L → rz_M → rz_Z → Bool := rz_go rcJ1_charAt_3b067 2 1000000
def rrJ1_charAt_3b067 : Room := { frames := 2, cells := 0, slots := 0, locals := 81 }
theorem rmJ1_charAt_3b067 (l : Launch) {G : rz_G} (hG : rz_Gd G) (vs : rz_L) (M : rz_M) (Z : rz_Z) (hn : vs.length = 2) (h : rgJ1_charAt_3b067 vs M Z = true) : Met l yJ1_charAt_3b067 (Cond.code yJ1_charAt_3b067 cJ1_charAt_3b067 2 (some .char) :: rz_TB) rrJ1_charAt_3b067 (rz_Pre G vs M) (rz_Qi G M.2 Z) 0 0 (fun q => rz_b G ≤ q) := by
  obtain ⟨D, tc, ad, b, xs, rfl⟩ := id hG
  refine rz_body (pcs := rpJ1_charAt_3b067) (by decide) rfl (by rw [hn]; decide) h ?_
  intro p e R s m args below meth c hC
  obtain ⟨hx, hb, hml, hr, hlk, ho, hts, hKn, hRm⟩ := id hC
  obtain ⟨hK, hA, hSt⟩ := id hKn
  have hw : ∀ {i j : Nat} {ws : List Cond} {w : Cond}, rz_WW[i]? = some ws → ws[j]? = some w → w.before args s = true := fun h1 h2 => hts _ (List.mem_cons_of_mem _ (rz_mem h1 h2))
  refine rz_All_c (i := 0) (fun k J hk hJ => rz_iload_n_ok (pc := 0) hx hb dJ1_charAt_3b067_0 rfl hk) ?_
  refine rz_All_c (i := 1) (fun k J hk hJ => rz_aload_n_ok (pc := 1) hx hb dJ1_charAt_3b067_1 rfl hk) ?_
  refine rz_All_c (i := 2) (fun k J hk hJ => rz_tlen_ok (pc := 2) hx hb hSt dJ1_charAt_3b067_2 hk) ?_
  refine rz_All_c (i := 3) (fun k J hk hJ => rz_callSv_ok (pc := 3) (own := RJ1) hC rfl (rmJ0_checkIndex_df160 l hG) (rz_cwX 2 hC rz_good (rz_mem (i := 14) (j := 3) rfl rfl) (rz_mem (i := 14) (j := 4) rfl rfl) (rz_mem (i := 5) (j := 23) rfl rfl) (rz_mem (i := 14) (j := 5) rfl rfl) ⟨by decide, by decide, by decide +kernel⟩ rfl rfl ⟨by decide, by decide⟩) dJ1_charAt_3b067_3 hk) ?_
  refine rz_All_c (i := 4) (fun k J hk hJ => rz_aload_n_ok (pc := 6) hx hb dJ1_charAt_3b067_6 rfl hk) ?_
  refine rz_All_c (i := 5) (fun k J hk hJ => rz_iload_n_ok (pc := 7) hx hb dJ1_charAt_3b067_7 rfl hk) ?_
  refine rz_All_c (i := 6) (fun k J hk hJ => rz_tbld_ok (pc := 8) hx hb hSt dJ1_charAt_3b067_8 hk) ?_
  refine rz_All_c (i := 7) (fun k J hk hJ => rz_sipush_ok (pc := 9) hx hb dJ1_charAt_3b067_9 (by decide) hk) ?_
  refine rz_All_c (i := 8) (fun k J hk hJ => rz_iand_ok (pc := 12) hx hb dJ1_charAt_3b067_12 hk) ?_
  refine rz_All_c (i := 9) (fun k J hk hJ => rz_i2c_ok (pc := 13) hx hb dJ1_charAt_3b067_13 hk) ?_
  refine rz_All_c (i := 10) (fun k J hk hJ => rz_cret_ok (pc := 14) hC dJ1_charAt_3b067_14) ?_
  exact trivial
theorem dJ0_charAt_5068e_0 : decode cJ0_charAt_5068e 0 = .ok (.aload_n 0, 1) := by decide +kernel
theorem dJ0_charAt_5068e_1 : decode cJ0_charAt_5068e 1 = .ok (.invokevirtual 492, 3) := by decide +kernel
theorem dJ0_charAt_5068e_4 : decode cJ0_charAt_5068e 4 = .ok (.ifCond .eq 12, 3) := by decide +kernel
theorem dJ0_charAt_5068e_7 : decode cJ0_charAt_5068e 7 = .ok (.aload_n 0, 1) := by decide +kernel
theorem dJ0_charAt_5068e_8 : decode cJ0_charAt_5068e 8 = .ok (.getfield 9, 3) := by decide +kernel
theorem dJ0_charAt_5068e_11 : decode cJ0_charAt_5068e 11 = .ok (.iload_n 1, 1) := by decide +kernel
theorem dJ0_charAt_5068e_12 : decode cJ0_charAt_5068e 12 = .ok (.invokestatic 495, 3) := by decide +kernel
theorem dJ0_charAt_5068e_15 : decode cJ0_charAt_5068e 15 = .ok (.ireturn, 1) := by decide +kernel
def rpJ0_charAt_5068e : List Nat := [0, 1, 4, 7, 8, 11, 12, 15, 16]
noncomputable def rcJ0_charAt_5068e : List rz_B := [rz_aload 0, rz_callT 0 rgJ0_isLatin1_aae02, rz_ifeq 8, rz_aload 0, rz_tval, rz_iload 1, rz_callS 2 rgJ1_charAt_3b067, rz_cret, rz_no]
noncomputable def rgJ0_charAt_5068e : rz_L → rz_M → rz_Z → Bool := rz_go rcJ0_charAt_5068e 2 1000000
def rrJ0_charAt_5068e : Room := { frames := 3, cells := 0, slots := 0, locals := 102 }
theorem rmJ0_charAt_5068e (l : Launch) {G : rz_G} (hG : rz_Gd G) (vs : rz_L) (M : rz_M) (Z : rz_Z) (hn : vs.length = 2) (h : rgJ0_charAt_5068e vs M Z = true) : Met l yJ0_charAt_5068e (Cond.code yJ0_charAt_5068e cJ0_charAt_5068e 2 (some .char) :: rz_TB) rrJ0_charAt_5068e (rz_Pre G vs M) (rz_Qi G M.2 Z) 0 0 (fun q => rz_b G ≤ q) := by
  obtain ⟨D, tc, ad, b, xs, rfl⟩ := id hG
  refine rz_body (pcs := rpJ0_charAt_5068e) (by decide) rfl (by rw [hn]; decide) h ?_
  intro p e R s m args below meth c hC
  obtain ⟨hx, hb, hml, hr, hlk, ho, hts, hKn, hRm⟩ := id hC
  obtain ⟨hK, hA, hSt⟩ := id hKn
  have hw : ∀ {i j : Nat} {ws : List Cond} {w : Cond}, rz_WW[i]? = some ws → ws[j]? = some w → w.before args s = true := fun h1 h2 => hts _ (List.mem_cons_of_mem _ (rz_mem h1 h2))
  refine rz_All_c (i := 0) (fun k J hk hJ => rz_aload_n_ok (pc := 0) hx hb dJ0_charAt_5068e_0 rfl hk) ?_
  refine rz_All_c (i := 1) (fun k J hk hJ => rz_callT_ok (pc := 1) (own := RJ0) hC rfl (rmJ0_isLatin1_aae02 l hG) (rz_cwV 0 hC rz_good (rz_mem (i := 6) (j := 6) rfl rfl) (rz_mem (i := 6) (j := 7) rfl rfl) (rz_mem (i := 6) (j := 8) rfl rfl) (rz_mem (i := 5) (j := 23) rfl rfl) (rz_mem (i := 6) (j := 9) rfl rfl) ⟨rfl, by decide, by decide, by decide +kernel⟩ rfl rfl ⟨by decide, by decide⟩) dJ0_charAt_5068e_1 hk) ?_
  refine rz_All_c (i := 2) (fun k J hk hJ => rz_ifeq_ok (pc := 4) hx hb dJ0_charAt_5068e_4 rfl hk (hJ 8)) ?_
  refine rz_All_c (i := 3) (fun k J hk hJ => rz_aload_n_ok (pc := 7) hx hb dJ0_charAt_5068e_7 rfl hk) ?_
  refine rz_All_c (i := 4) (fun k J hk hJ => rz_tval_ok (pc := 8) (own := RJ0) (ref := "java/lang/String") (index := 9) hx hb hSt ho (hw (i := 6) (j := 5) rfl rfl) (fun _ z => z) dJ0_charAt_5068e_8 hk) ?_
  refine rz_All_c (i := 5) (fun k J hk hJ => rz_iload_n_ok (pc := 11) hx hb dJ0_charAt_5068e_11 rfl hk) ?_
  refine rz_All_c (i := 6) (fun k J hk hJ => rz_callS_ok (pc := 12) (own := RJ0) hC rfl (rmJ1_charAt_3b067 l hG) (rz_cwX 2 hC rz_good (rz_mem (i := 14) (j := 0) rfl rfl) (rz_mem (i := 14) (j := 1) rfl rfl) (rz_mem (i := 6) (j := 22) rfl rfl) (rz_mem (i := 14) (j := 2) rfl rfl) ⟨by decide, by decide, by decide +kernel⟩ rfl rfl ⟨by decide, by decide⟩) dJ0_charAt_5068e_12 hk) ?_
  refine rz_All_c (i := 7) (fun k J hk hJ => rz_cret_ok (pc := 15) hC dJ0_charAt_5068e_15) ?_
  refine rz_All_c (i := 8) (fun k J hk hJ => rz_no_ok) ?_
  exact trivial
def rz_PA (i j : Nat) : Prop := ∀ (M : rz_M) (Z : rz_Z), rgJ0_charAt_5068e [rz_r (1000000 + i + 1), rz_i j] M Z = Z (rz_i (rz_chr i j)) M
theorem rz_stp {P : Nat → Prop} {n : Nat} (h : ∀ j, j < n → P j) (hn : P n) : ∀ j, j < n + 1 → P j := fun j hj => (Nat.lt_or_eq_of_le (Nat.le_of_lt_succ hj)).elim (h j) (fun e => e ▸ hn)
theorem rz_chr_f {i j c : Nat} (hc : Nat.beq (rz_chr i j) c = true) (h : ∀ (M : rz_M) (Z : rz_Z), rgJ0_charAt_5068e [rz_r (1000000 + i + 1), rz_i j] M Z = Z (rz_i c) M) : rz_PA i j := by
  intro M Z
  rw [Nat.eq_of_beq_eq_true hc]
  exact h M Z
theorem rz_ch11_40 (h0 : ∀ j, j < 0 → rz_PA 11 j) : ∀ j, j < 40 → rz_PA 11 j := by
  have h1 : ∀ j, j < 1 → rz_PA 11 j := rz_stp (n := 0) h0 (rz_chr_f (c := 97) (by decide +kernel) (fun _ _ => rfl))
  have h2 : ∀ j, j < 2 → rz_PA 11 j := rz_stp (n := 1) h1 (rz_chr_f (c := 98) (by decide +kernel) (fun _ _ => rfl))
  have h3 : ∀ j, j < 3 → rz_PA 11 j := rz_stp (n := 2) h2 (rz_chr_f (c := 115) (by decide +kernel) (fun _ _ => rfl))
  have h4 : ∀ j, j < 4 → rz_PA 11 j := rz_stp (n := 3) h3 (rz_chr_f (c := 116) (by decide +kernel) (fun _ _ => rfl))
  have h5 : ∀ j, j < 5 → rz_PA 11 j := rz_stp (n := 4) h4 (rz_chr_f (c := 114) (by decide +kernel) (fun _ _ => rfl))
  have h6 : ∀ j, j < 6 → rz_PA 11 j := rz_stp (n := 5) h5 (rz_chr_f (c := 97) (by decide +kernel) (fun _ _ => rfl))
  have h7 : ∀ j, j < 7 → rz_PA 11 j := rz_stp (n := 6) h6 (rz_chr_f (c := 99) (by decide +kernel) (fun _ _ => rfl))
  have h8 : ∀ j, j < 8 → rz_PA 11 j := rz_stp (n := 7) h7 (rz_chr_f (c := 116) (by decide +kernel) (fun _ _ => rfl))
  have h9 : ∀ j, j < 9 → rz_PA 11 j := rz_stp (n := 8) h8 (rz_chr_f (c := 32) (by decide +kernel) (fun _ _ => rfl))
  have h10 : ∀ j, j < 10 → rz_PA 11 j := rz_stp (n := 9) h9 (rz_chr_f (c := 101) (by decide +kernel) (fun _ _ => rfl))
  have h11 : ∀ j, j < 11 → rz_PA 11 j := rz_stp (n := 10) h10 (rz_chr_f (c := 120) (by decide +kernel) (fun _ _ => rfl))
  have h12 : ∀ j, j < 12 → rz_PA 11 j := rz_stp (n := 11) h11 (rz_chr_f (c := 99) (by decide +kernel) (fun _ _ => rfl))
  have h13 : ∀ j, j < 13 → rz_PA 11 j := rz_stp (n := 12) h12 (rz_chr_f (c := 108) (by decide +kernel) (fun _ _ => rfl))
  have h14 : ∀ j, j < 14 → rz_PA 11 j := rz_stp (n := 13) h13 (rz_chr_f (c := 117) (by decide +kernel) (fun _ _ => rfl))
  have h15 : ∀ j, j < 15 → rz_PA 11 j := rz_stp (n := 14) h14 (rz_chr_f (c := 100) (by decide +kernel) (fun _ _ => rfl))
  have h16 : ∀ j, j < 16 → rz_PA 11 j := rz_stp (n := 15) h15 (rz_chr_f (c := 101) (by decide +kernel) (fun _ _ => rfl))
  have h17 : ∀ j, j < 17 → rz_PA 11 j := rz_stp (n := 16) h16 (rz_chr_f (c := 100) (by decide +kernel) (fun _ _ => rfl))
  have h18 : ∀ j, j < 18 → rz_PA 11 j := rz_stp (n := 17) h17 (rz_chr_f (c := 32) (by decide +kernel) (fun _ _ => rfl))
  have h19 : ∀ j, j < 19 → rz_PA 11 j := rz_stp (n := 18) h18 (rz_chr_f (c := 99) (by decide +kernel) (fun _ _ => rfl))
  have h20 : ∀ j, j < 20 → rz_PA 11 j := rz_stp (n := 19) h19 (rz_chr_f (c := 108) (by decide +kernel) (fun _ _ => rfl))
  have h21 : ∀ j, j < 21 → rz_PA 11 j := rz_stp (n := 20) h20 (rz_chr_f (c := 97) (by decide +kernel) (fun _ _ => rfl))
  have h22 : ∀ j, j < 22 → rz_PA 11 j := rz_stp (n := 21) h21 (rz_chr_f (c := 115) (by decide +kernel) (fun _ _ => rfl))
  have h23 : ∀ j, j < 23 → rz_PA 11 j := rz_stp (n := 22) h22 (rz_chr_f (c := 115) (by decide +kernel) (fun _ _ => rfl))
  have h24 : ∀ j, j < 24 → rz_PA 11 j := rz_stp (n := 23) h23 (rz_chr_f (c := 32) (by decide +kernel) (fun _ _ => rfl))
  have h25 : ∀ j, j < 25 → rz_PA 11 j := rz_stp (n := 24) h24 (rz_chr_f (c := 105) (by decide +kernel) (fun _ _ => rfl))
  have h26 : ∀ j, j < 26 → rz_PA 11 j := rz_stp (n := 25) h25 (rz_chr_f (c := 110) (by decide +kernel) (fun _ _ => rfl))
  have h27 : ∀ j, j < 27 → rz_PA 11 j := rz_stp (n := 26) h26 (rz_chr_f (c := 116) (by decide +kernel) (fun _ _ => rfl))
  have h28 : ∀ j, j < 28 → rz_PA 11 j := rz_stp (n := 27) h27 (rz_chr_f (c := 101) (by decide +kernel) (fun _ _ => rfl))
  have h29 : ∀ j, j < 29 → rz_PA 11 j := rz_stp (n := 28) h28 (rz_chr_f (c := 114) (by decide +kernel) (fun _ _ => rfl))
  have h30 : ∀ j, j < 30 → rz_PA 11 j := rz_stp (n := 29) h29 (rz_chr_f (c := 102) (by decide +kernel) (fun _ _ => rfl))
  have h31 : ∀ j, j < 31 → rz_PA 11 j := rz_stp (n := 30) h30 (rz_chr_f (c := 97) (by decide +kernel) (fun _ _ => rfl))
  have h32 : ∀ j, j < 32 → rz_PA 11 j := rz_stp (n := 31) h31 (rz_chr_f (c := 99) (by decide +kernel) (fun _ _ => rfl))
  have h33 : ∀ j, j < 33 → rz_PA 11 j := rz_stp (n := 32) h32 (rz_chr_f (c := 101) (by decide +kernel) (fun _ _ => rfl))
  have h34 : ∀ j, j < 34 → rz_PA 11 j := rz_stp (n := 33) h33 (rz_chr_f (c := 32) (by decide +kernel) (fun _ _ => rfl))
  have h35 : ∀ j, j < 35 → rz_PA 11 j := rz_stp (n := 34) h34 (rz_chr_f (c := 101) (by decide +kernel) (fun _ _ => rfl))
  have h36 : ∀ j, j < 36 → rz_PA 11 j := rz_stp (n := 35) h35 (rz_chr_f (c := 120) (by decide +kernel) (fun _ _ => rfl))
  have h37 : ∀ j, j < 37 → rz_PA 11 j := rz_stp (n := 36) h36 (rz_chr_f (c := 116) (by decide +kernel) (fun _ _ => rfl))
  have h38 : ∀ j, j < 38 → rz_PA 11 j := rz_stp (n := 37) h37 (rz_chr_f (c := 101) (by decide +kernel) (fun _ _ => rfl))
  have h39 : ∀ j, j < 39 → rz_PA 11 j := rz_stp (n := 38) h38 (rz_chr_f (c := 110) (by decide +kernel) (fun _ _ => rfl))
  have h40 : ∀ j, j < 40 → rz_PA 11 j := rz_stp (n := 39) h39 (rz_chr_f (c := 100) (by decide +kernel) (fun _ _ => rfl))
  exact h40
theorem rz_ch11_80 (h0 : ∀ j, j < 40 → rz_PA 11 j) : ∀ j, j < 80 → rz_PA 11 j := by
  have h1 : ∀ j, j < 41 → rz_PA 11 j := rz_stp (n := 40) h0 (rz_chr_f (c := 115) (by decide +kernel) (fun _ _ => rfl))
  have h2 : ∀ j, j < 42 → rz_PA 11 j := rz_stp (n := 41) h1 (rz_chr_f (c := 32) (by decide +kernel) (fun _ _ => rfl))
  have h3 : ∀ j, j < 43 → rz_PA 11 j := rz_stp (n := 42) h2 (rz_chr_f (c := 105) (by decide +kernel) (fun _ _ => rfl))
  have h4 : ∀ j, j < 44 → rz_PA 11 j := rz_stp (n := 43) h3 (rz_chr_f (c := 109) (by decide +kernel) (fun _ _ => rfl))
  have h5 : ∀ j, j < 45 → rz_PA 11 j := rz_stp (n := 44) h4 (rz_chr_f (c := 112) (by decide +kernel) (fun _ _ => rfl))
  have h6 : ∀ j, j < 46 → rz_PA 11 j := rz_stp (n := 45) h5 (rz_chr_f (c := 108) (by decide +kernel) (fun _ _ => rfl))
  have h7 : ∀ j, j < 47 → rz_PA 11 j := rz_stp (n := 46) h6 (rz_chr_f (c := 101) (by decide +kernel) (fun _ _ => rfl))
  have h8 : ∀ j, j < 48 → rz_PA 11 j := rz_stp (n := 47) h7 (rz_chr_f (c := 109) (by decide +kernel) (fun _ _ => rfl))
  have h9 : ∀ j, j < 49 → rz_PA 11 j := rz_stp (n := 48) h8 (rz_chr_f (c := 101) (by decide +kernel) (fun _ _ => rfl))
  have h10 : ∀ j, j < 50 → rz_PA 11 j := rz_stp (n := 49) h9 (rz_chr_f (c := 110) (by decide +kernel) (fun _ _ => rfl))
  have h11 : ∀ j, j < 51 → rz_PA 11 j := rz_stp (n := 50) h10 (rz_chr_f (c := 116) (by decide +kernel) (fun _ _ => rfl))
  have h12 : ∀ j, j < 52 → rz_PA 11 j := rz_stp (n := 51) h11 (rz_chr_f (c := 115) (by decide +kernel) (fun _ _ => rfl))
  have h13 : ∀ j, j < 53 → rz_PA 11 j := rz_stp (n := 52) h12 (rz_chr_f (c := 32) (by decide +kernel) (fun _ _ => rfl))
  have h14 : ∀ j, j < 54 → rz_PA 11 j := rz_stp (n := 53) h13 (rz_chr_f (c := 115) (by decide +kernel) (fun _ _ => rfl))
  have h15 : ∀ j, j < 55 → rz_PA 11 j := rz_stp (n := 54) h14 (rz_chr_f (c := 116) (by decide +kernel) (fun _ _ => rfl))
  have h16 : ∀ j, j < 56 → rz_PA 11 j := rz_stp (n := 55) h15 (rz_chr_f (c := 97) (by decide +kernel) (fun _ _ => rfl))
  have h17 : ∀ j, j < 57 → rz_PA 11 j := rz_stp (n := 56) h16 (rz_chr_f (c := 116) (by decide +kernel) (fun _ _ => rfl))
  have h18 : ∀ j, j < 58 → rz_PA 11 j := rz_stp (n := 57) h17 (rz_chr_f (c := 105) (by decide +kernel) (fun _ _ => rfl))
  have h19 : ∀ j, j < 59 → rz_PA 11 j := rz_stp (n := 58) h18 (rz_chr_f (c := 99) (by decide +kernel) (fun _ _ => rfl))
  have h20 : ∀ j, j < 60 → rz_PA 11 j := rz_stp (n := 59) h19 (rz_chr_f (c := 32) (by decide +kernel) (fun _ _ => rfl))
  have h21 : ∀ j, j < 61 → rz_PA 11 j := rz_stp (n := 60) h20 (rz_chr_f (c := 118) (by decide +kernel) (fun _ _ => rfl))
  have h22 : ∀ j, j < 62 → rz_PA 11 j := rz_stp (n := 61) h21 (rz_chr_f (c := 111) (by decide +kernel) (fun _ _ => rfl))
  have h23 : ∀ j, j < 63 → rz_PA 11 j := rz_stp (n := 62) h22 (rz_chr_f (c := 108) (by decide +kernel) (fun _ _ => rfl))
  have h24 : ∀ j, j < 64 → rz_PA 11 j := rz_stp (n := 63) h23 (rz_chr_f (c := 97) (by decide +kernel) (fun _ _ => rfl))
  have h25 : ∀ j, j < 65 → rz_PA 11 j := rz_stp (n := 64) h24 (rz_chr_f (c := 116) (by decide +kernel) (fun _ _ => rfl))
  have h26 : ∀ j, j < 66 → rz_PA 11 j := rz_stp (n := 65) h25 (rz_chr_f (c := 105) (by decide +kernel) (fun _ _ => rfl))
  have h27 : ∀ j, j < 67 → rz_PA 11 j := rz_stp (n := 66) h26 (rz_chr_f (c := 108) (by decide +kernel) (fun _ _ => rfl))
  have h28 : ∀ j, j < 68 → rz_PA 11 j := rz_stp (n := 67) h27 (rz_chr_f (c := 101) (by decide +kernel) (fun _ _ => rfl))
  have h29 : ∀ j, j < 69 → rz_PA 11 j := rz_stp (n := 68) h28 (rz_chr_f (c := 32) (by decide +kernel) (fun _ _ => rfl))
  have h30 : ∀ j, j < 70 → rz_PA 11 j := rz_stp (n := 69) h29 (rz_chr_f (c := 102) (by decide +kernel) (fun _ _ => rfl))
  have h31 : ∀ j, j < 71 → rz_PA 11 j := rz_stp (n := 70) h30 (rz_chr_f (c := 105) (by decide +kernel) (fun _ _ => rfl))
  have h32 : ∀ j, j < 72 → rz_PA 11 j := rz_stp (n := 71) h31 (rz_chr_f (c := 110) (by decide +kernel) (fun _ _ => rfl))
  have h33 : ∀ j, j < 73 → rz_PA 11 j := rz_stp (n := 72) h32 (rz_chr_f (c := 97) (by decide +kernel) (fun _ _ => rfl))
  have h34 : ∀ j, j < 74 → rz_PA 11 j := rz_stp (n := 73) h33 (rz_chr_f (c := 108) (by decide +kernel) (fun _ _ => rfl))
  have h35 : ∀ j, j < 75 → rz_PA 11 j := rz_stp (n := 74) h34 (rz_chr_f (c := 32) (by decide +kernel) (fun _ _ => rfl))
  have h36 : ∀ j, j < 76 → rz_PA 11 j := rz_stp (n := 75) h35 (rz_chr_f (c := 115) (by decide +kernel) (fun _ _ => rfl))
  have h37 : ∀ j, j < 77 → rz_PA 11 j := rz_stp (n := 76) h36 (rz_chr_f (c := 121) (by decide +kernel) (fun _ _ => rfl))
  have h38 : ∀ j, j < 78 → rz_PA 11 j := rz_stp (n := 77) h37 (rz_chr_f (c := 110) (by decide +kernel) (fun _ _ => rfl))
  have h39 : ∀ j, j < 79 → rz_PA 11 j := rz_stp (n := 78) h38 (rz_chr_f (c := 99) (by decide +kernel) (fun _ _ => rfl))
  have h40 : ∀ j, j < 80 → rz_PA 11 j := rz_stp (n := 79) h39 (rz_chr_f (c := 104) (by decide +kernel) (fun _ _ => rfl))
  exact h40
theorem rz_ch11_116 (h0 : ∀ j, j < 80 → rz_PA 11 j) : ∀ j, j < 116 → rz_PA 11 j := by
  have h1 : ∀ j, j < 81 → rz_PA 11 j := rz_stp (n := 80) h0 (rz_chr_f (c := 114) (by decide +kernel) (fun _ _ => rfl))
  have h2 : ∀ j, j < 82 → rz_PA 11 j := rz_stp (n := 81) h1 (rz_chr_f (c := 111) (by decide +kernel) (fun _ _ => rfl))
  have h3 : ∀ j, j < 83 → rz_PA 11 j := rz_stp (n := 82) h2 (rz_chr_f (c := 110) (by decide +kernel) (fun _ _ => rfl))
  have h4 : ∀ j, j < 84 → rz_PA 11 j := rz_stp (n := 83) h3 (rz_chr_f (c := 105) (by decide +kernel) (fun _ _ => rfl))
  have h5 : ∀ j, j < 85 → rz_PA 11 j := rz_stp (n := 84) h4 (rz_chr_f (c := 122) (by decide +kernel) (fun _ _ => rfl))
  have h6 : ∀ j, j < 86 → rz_PA 11 j := rz_stp (n := 85) h5 (rz_chr_f (c := 101) (by decide +kernel) (fun _ _ => rfl))
  have h7 : ∀ j, j < 87 → rz_PA 11 j := rz_stp (n := 86) h6 (rz_chr_f (c := 100) (by decide +kernel) (fun _ _ => rfl))
  have h8 : ∀ j, j < 88 → rz_PA 11 j := rz_stp (n := 87) h7 (rz_chr_f (c := 32) (by decide +kernel) (fun _ _ => rfl))
  have h9 : ∀ j, j < 89 → rz_PA 11 j := rz_stp (n := 88) h8 (rz_chr_f (c := 102) (by decide +kernel) (fun _ _ => rfl))
  have h10 : ∀ j, j < 90 → rz_PA 11 j := rz_stp (n := 89) h9 (rz_chr_f (c := 105) (by decide +kernel) (fun _ _ => rfl))
  have h11 : ∀ j, j < 91 → rz_PA 11 j := rz_stp (n := 90) h10 (rz_chr_f (c := 101) (by decide +kernel) (fun _ _ => rfl))
  have h12 : ∀ j, j < 92 → rz_PA 11 j := rz_stp (n := 91) h11 (rz_chr_f (c := 108) (by decide +kernel) (fun _ _ => rfl))
  have h13 : ∀ j, j < 93 → rz_PA 11 j := rz_stp (n := 92) h12 (rz_chr_f (c := 100) (by decide +kernel) (fun _ _ => rfl))
  have h14 : ∀ j, j < 94 → rz_PA 11 j := rz_stp (n := 93) h13 (rz_chr_f (c := 32) (by decide +kernel) (fun _ _ => rfl))
  have h15 : ∀ j, j < 95 → rz_PA 11 j := rz_stp (n := 94) h14 (rz_chr_f (c := 109) (by decide +kernel) (fun _ _ => rfl))
  have h16 : ∀ j, j < 96 → rz_PA 11 j := rz_stp (n := 95) h15 (rz_chr_f (c := 101) (by decide +kernel) (fun _ _ => rfl))
  have h17 : ∀ j, j < 97 → rz_PA 11 j := rz_stp (n := 96) h16 (rz_chr_f (c := 116) (by decide +kernel) (fun _ _ => rfl))
  have h18 : ∀ j, j < 98 → rz_PA 11 j := rz_stp (n := 97) h17 (rz_chr_f (c := 104) (by decide +kernel) (fun _ _ => rfl))
  have h19 : ∀ j, j < 99 → rz_PA 11 j := rz_stp (n := 98) h18 (rz_chr_f (c := 111) (by decide +kernel) (fun _ _ => rfl))
  have h20 : ∀ j, j < 100 → rz_PA 11 j := rz_stp (n := 99) h19 (rz_chr_f (c := 100) (by decide +kernel) (fun _ _ => rfl))
  have h21 : ∀ j, j < 101 → rz_PA 11 j := rz_stp (n := 100) h20 (rz_chr_f (c := 32) (by decide +kernel) (fun _ _ => rfl))
  have h22 : ∀ j, j < 102 → rz_PA 11 j := rz_stp (n := 101) h21 (rz_chr_f (c := 99) (by decide +kernel) (fun _ _ => rfl))
  have h23 : ∀ j, j < 103 → rz_PA 11 j := rz_stp (n := 102) h22 (rz_chr_f (c := 97) (by decide +kernel) (fun _ _ => rfl))
  have h24 : ∀ j, j < 104 → rz_PA 11 j := rz_stp (n := 103) h23 (rz_chr_f (c := 116) (by decide +kernel) (fun _ _ => rfl))
  have h25 : ∀ j, j < 105 → rz_PA 11 j := rz_stp (n := 104) h24 (rz_chr_f (c := 99) (by decide +kernel) (fun _ _ => rfl))
  have h26 : ∀ j, j < 106 → rz_PA 11 j := rz_stp (n := 105) h25 (rz_chr_f (c := 104) (by decide +kernel) (fun _ _ => rfl))
  have h27 : ∀ j, j < 107 → rz_PA 11 j := rz_stp (n := 106) h26 (rz_chr_f (c := 32) (by decide +kernel) (fun _ _ => rfl))
  have h28 : ∀ j, j < 108 → rz_PA 11 j := rz_stp (n := 107) h27 (rz_chr_f (c := 105) (by decide +kernel) (fun _ _ => rfl))
  have h29 : ∀ j, j < 109 → rz_PA 11 j := rz_stp (n := 108) h28 (rz_chr_f (c := 110) (by decide +kernel) (fun _ _ => rfl))
  have h30 : ∀ j, j < 110 → rz_PA 11 j := rz_stp (n := 109) h29 (rz_chr_f (c := 116) (by decide +kernel) (fun _ _ => rfl))
  have h31 : ∀ j, j < 111 → rz_PA 11 j := rz_stp (n := 110) h30 (rz_chr_f (c := 32) (by decide +kernel) (fun _ _ => rfl))
  have h32 : ∀ j, j < 112 → rz_PA 11 j := rz_stp (n := 111) h31 (rz_chr_f (c := 118) (by decide +kernel) (fun _ _ => rfl))
  have h33 : ∀ j, j < 113 → rz_PA 11 j := rz_stp (n := 112) h32 (rz_chr_f (c := 111) (by decide +kernel) (fun _ _ => rfl))
  have h34 : ∀ j, j < 114 → rz_PA 11 j := rz_stp (n := 113) h33 (rz_chr_f (c := 105) (by decide +kernel) (fun _ _ => rfl))
  have h35 : ∀ j, j < 115 → rz_PA 11 j := rz_stp (n := 114) h34 (rz_chr_f (c := 100) (by decide +kernel) (fun _ _ => rfl))
  have h36 : ∀ j, j < 116 → rz_PA 11 j := rz_stp (n := 115) h35 (rz_chr_f (c := 32) (by decide +kernel) (fun _ _ => rfl))
  exact h36
theorem rz_chA11 : ∀ j, j < 116 → rz_PA 11 j := (rz_ch11_116 (rz_ch11_80 (rz_ch11_40 (fun j h => absurd h (Nat.not_lt_zero j)))))
theorem rz_ch12_40 (h0 : ∀ j, j < 0 → rz_PA 12 j) : ∀ j, j < 40 → rz_PA 12 j := by
  have h1 : ∀ j, j < 1 → rz_PA 12 j := rz_stp (n := 0) h0 (rz_chr_f (c := 112) (by decide +kernel) (fun _ _ => rfl))
  have h2 : ∀ j, j < 2 → rz_PA 12 j := rz_stp (n := 1) h1 (rz_chr_f (c := 117) (by decide +kernel) (fun _ _ => rfl))
  have h3 : ∀ j, j < 3 → rz_PA 12 j := rz_stp (n := 2) h2 (rz_chr_f (c := 115) (by decide +kernel) (fun _ _ => rfl))
  have h4 : ∀ j, j < 4 → rz_PA 12 j := rz_stp (n := 3) h3 (rz_chr_f (c := 104) (by decide +kernel) (fun _ _ => rfl))
  have h5 : ∀ j, j < 5 → rz_PA 12 j := rz_stp (n := 4) h4 (rz_chr_f (c := 32) (by decide +kernel) (fun _ _ => rfl))
  have h6 : ∀ j, j < 6 → rz_PA 12 j := rz_stp (n := 5) h5 (rz_chr_f (c := 115) (by decide +kernel) (fun _ _ => rfl))
  have h7 : ∀ j, j < 7 → rz_PA 12 j := rz_stp (n := 6) h6 (rz_chr_f (c := 116) (by decide +kernel) (fun _ _ => rfl))
  have h8 : ∀ j, j < 8 → rz_PA 12 j := rz_stp (n := 7) h7 (rz_chr_f (c := 114) (by decide +kernel) (fun _ _ => rfl))
  have h9 : ∀ j, j < 9 → rz_PA 12 j := rz_stp (n := 8) h8 (rz_chr_f (c := 105) (by decide +kernel) (fun _ _ => rfl))
  have h10 : ∀ j, j < 10 → rz_PA 12 j := rz_stp (n := 9) h9 (rz_chr_f (c := 110) (by decide +kernel) (fun _ _ => rfl))
  have h11 : ∀ j, j < 11 → rz_PA 12 j := rz_stp (n := 10) h10 (rz_chr_f (c := 103) (by decide +kernel) (fun _ _ => rfl))
  have h12 : ∀ j, j < 12 → rz_PA 12 j := rz_stp (n := 11) h11 (rz_chr_f (c := 32) (by decide +kernel) (fun _ _ => rfl))
  have h13 : ∀ j, j < 13 → rz_PA 12 j := rz_stp (n := 12) h12 (rz_chr_f (c := 110) (by decide +kernel) (fun _ _ => rfl))
  have h14 : ∀ j, j < 14 → rz_PA 12 j := rz_stp (n := 13) h13 (rz_chr_f (c := 117) (by decide +kernel) (fun _ _ => rfl))
  have h15 : ∀ j, j < 15 → rz_PA 12 j := rz_stp (n := 14) h14 (rz_chr_f (c := 108) (by decide +kernel) (fun _ _ => rfl))
  have h16 : ∀ j, j < 16 → rz_PA 12 j := rz_stp (n := 15) h15 (rz_chr_f (c := 108) (by decide +kernel) (fun _ _ => rfl))
  have h17 : ∀ j, j < 17 → rz_PA 12 j := rz_stp (n := 16) h16 (rz_chr_f (c := 32) (by decide +kernel) (fun _ _ => rfl))
  have h18 : ∀ j, j < 18 → rz_PA 12 j := rz_stp (n := 17) h17 (rz_chr_f (c := 108) (by decide +kernel) (fun _ _ => rfl))
  have h19 : ∀ j, j < 19 → rz_PA 12 j := rz_stp (n := 18) h18 (rz_chr_f (c := 111) (by decide +kernel) (fun _ _ => rfl))
  have h20 : ∀ j, j < 20 → rz_PA 12 j := rz_stp (n := 19) h19 (rz_chr_f (c := 97) (by decide +kernel) (fun _ _ => rfl))
  have h21 : ∀ j, j < 21 → rz_PA 12 j := rz_stp (n := 20) h20 (rz_chr_f (c := 100) (by decide +kernel) (fun _ _ => rfl))
  have h22 : ∀ j, j < 22 → rz_PA 12 j := rz_stp (n := 21) h21 (rz_chr_f (c := 32) (by decide +kernel) (fun _ _ => rfl))
  have h23 : ∀ j, j < 23 → rz_PA 12 j := rz_stp (n := 22) h22 (rz_chr_f (c := 115) (by decide +kernel) (fun _ _ => rfl))
  have h24 : ∀ j, j < 24 → rz_PA 12 j := rz_stp (n := 23) h23 (rz_chr_f (c := 116) (by decide +kernel) (fun _ _ => rfl))
  have h25 : ∀ j, j < 25 → rz_PA 12 j := rz_stp (n := 24) h24 (rz_chr_f (c := 111) (by decide +kernel) (fun _ _ => rfl))
  have h26 : ∀ j, j < 26 → rz_PA 12 j := rz_stp (n := 25) h25 (rz_chr_f (c := 114) (by decide +kernel) (fun _ _ => rfl))
  have h27 : ∀ j, j < 27 → rz_PA 12 j := rz_stp (n := 26) h26 (rz_chr_f (c := 101) (by decide +kernel) (fun _ _ => rfl))
  have h28 : ∀ j, j < 28 → rz_PA 12 j := rz_stp (n := 27) h27 (rz_chr_f (c := 32) (by decide +kernel) (fun _ _ => rfl))
  have h29 : ∀ j, j < 29 → rz_PA 12 j := rz_stp (n := 28) h28 (rz_chr_f (c := 105) (by decide +kernel) (fun _ _ => rfl))
  have h30 : ∀ j, j < 30 → rz_PA 12 j := rz_stp (n := 29) h29 (rz_chr_f (c := 110) (by decide +kernel) (fun _ _ => rfl))
  have h31 : ∀ j, j < 31 → rz_PA 12 j := rz_stp (n := 30) h30 (rz_chr_f (c := 99) (by decide +kernel) (fun _ _ => rfl))
  have h32 : ∀ j, j < 32 → rz_PA 12 j := rz_stp (n := 31) h31 (rz_chr_f (c := 32) (by decide +kernel) (fun _ _ => rfl))
  have h33 : ∀ j, j < 33 → rz_PA 12 j := rz_stp (n := 32) h32 (rz_chr_f (c := 97) (by decide +kernel) (fun _ _ => rfl))
  have h34 : ∀ j, j < 34 → rz_PA 12 j := rz_stp (n := 33) h33 (rz_chr_f (c := 100) (by decide +kernel) (fun _ _ => rfl))
  have h35 : ∀ j, j < 35 → rz_PA 12 j := rz_stp (n := 34) h34 (rz_chr_f (c := 100) (by decide +kernel) (fun _ _ => rfl))
  have h36 : ∀ j, j < 36 → rz_PA 12 j := rz_stp (n := 35) h35 (rz_chr_f (c := 32) (by decide +kernel) (fun _ _ => rfl))
  have h37 : ∀ j, j < 37 → rz_PA 12 j := rz_stp (n := 36) h36 (rz_chr_f (c := 115) (by decide +kernel) (fun _ _ => rfl))
  have h38 : ∀ j, j < 38 → rz_PA 12 j := rz_stp (n := 37) h37 (rz_chr_f (c := 117) (by decide +kernel) (fun _ _ => rfl))
  have h39 : ∀ j, j < 39 → rz_PA 12 j := rz_stp (n := 38) h38 (rz_chr_f (c := 98) (by decide +kernel) (fun _ _ => rfl))
  have h40 : ∀ j, j < 40 → rz_PA 12 j := rz_stp (n := 39) h39 (rz_chr_f (c := 32) (by decide +kernel) (fun _ _ => rfl))
  exact h40
theorem rz_ch12_80 (h0 : ∀ j, j < 40 → rz_PA 12 j) : ∀ j, j < 80 → rz_PA 12 j := by
  have h1 : ∀ j, j < 41 → rz_PA 12 j := rz_stp (n := 40) h0 (rz_chr_f (c := 109) (by decide +kernel) (fun _ _ => rfl))
  have h2 : ∀ j, j < 42 → rz_PA 12 j := rz_stp (n := 41) h1 (rz_chr_f (c := 117) (by decide +kernel) (fun _ _ => rfl))
  have h3 : ∀ j, j < 43 → rz_PA 12 j := rz_stp (n := 42) h2 (rz_chr_f (c := 108) (by decide +kernel) (fun _ _ => rfl))
  have h4 : ∀ j, j < 44 → rz_PA 12 j := rz_stp (n := 43) h3 (rz_chr_f (c := 32) (by decide +kernel) (fun _ _ => rfl))
  have h5 : ∀ j, j < 45 → rz_PA 12 j := rz_stp (n := 44) h4 (rz_chr_f (c := 100) (by decide +kernel) (fun _ _ => rfl))
  have h6 : ∀ j, j < 46 → rz_PA 12 j := rz_stp (n := 45) h5 (rz_chr_f (c := 105) (by decide +kernel) (fun _ _ => rfl))
  have h7 : ∀ j, j < 47 → rz_PA 12 j := rz_stp (n := 46) h6 (rz_chr_f (c := 118) (by decide +kernel) (fun _ _ => rfl))
  have h8 : ∀ j, j < 48 → rz_PA 12 j := rz_stp (n := 47) h7 (rz_chr_f (c := 32) (by decide +kernel) (fun _ _ => rfl))
  have h9 : ∀ j, j < 49 → rz_PA 12 j := rz_stp (n := 48) h8 (rz_chr_f (c := 114) (by decide +kernel) (fun _ _ => rfl))
  have h10 : ∀ j, j < 50 → rz_PA 12 j := rz_stp (n := 49) h9 (rz_chr_f (c := 101) (by decide +kernel) (fun _ _ => rfl))
  have h11 : ∀ j, j < 51 → rz_PA 12 j := rz_stp (n := 50) h10 (rz_chr_f (c := 109) (by decide +kernel) (fun _ _ => rfl))
  have h12 : ∀ j, j < 52 → rz_PA 12 j := rz_stp (n := 51) h11 (rz_chr_f (c := 32) (by decide +kernel) (fun _ _ => rfl))
  have h13 : ∀ j, j < 53 → rz_PA 12 j := rz_stp (n := 52) h12 (rz_chr_f (c := 110) (by decide +kernel) (fun _ _ => rfl))
  have h14 : ∀ j, j < 54 → rz_PA 12 j := rz_stp (n := 53) h13 (rz_chr_f (c := 101) (by decide +kernel) (fun _ _ => rfl))
  have h15 : ∀ j, j < 55 → rz_PA 12 j := rz_stp (n := 54) h14 (rz_chr_f (c := 103) (by decide +kernel) (fun _ _ => rfl))
  have h16 : ∀ j, j < 56 → rz_PA 12 j := rz_stp (n := 55) h15 (rz_chr_f (c := 32) (by decide +kernel) (fun _ _ => rfl))
  have h17 : ∀ j, j < 57 → rz_PA 12 j := rz_stp (n := 56) h16 (rz_chr_f (c := 97) (by decide +kernel) (fun _ _ => rfl))
  have h18 : ∀ j, j < 58 → rz_PA 12 j := rz_stp (n := 57) h17 (rz_chr_f (c := 110) (by decide +kernel) (fun _ _ => rfl))
  have h19 : ∀ j, j < 59 → rz_PA 12 j := rz_stp (n := 58) h18 (rz_chr_f (c := 100) (by decide +kernel) (fun _ _ => rfl))
  have h20 : ∀ j, j < 60 → rz_PA 12 j := rz_stp (n := 59) h19 (rz_chr_f (c := 32) (by decide +kernel) (fun _ _ => rfl))
  have h21 : ∀ j, j < 61 → rz_PA 12 j := rz_stp (n := 60) h20 (rz_chr_f (c := 111) (by decide +kernel) (fun _ _ => rfl))
  have h22 : ∀ j, j < 62 → rz_PA 12 j := rz_stp (n := 61) h21 (rz_chr_f (c := 114) (by decide +kernel) (fun _ _ => rfl))
  have h23 : ∀ j, j < 63 → rz_PA 12 j := rz_stp (n := 62) h22 (rz_chr_f (c := 32) (by decide +kernel) (fun _ _ => rfl))
  have h24 : ∀ j, j < 64 → rz_PA 12 j := rz_stp (n := 63) h23 (rz_chr_f (c := 120) (by decide +kernel) (fun _ _ => rfl))
  have h25 : ∀ j, j < 65 → rz_PA 12 j := rz_stp (n := 64) h24 (rz_chr_f (c := 111) (by decide +kernel) (fun _ _ => rfl))
  have h26 : ∀ j, j < 66 → rz_PA 12 j := rz_stp (n := 65) h25 (rz_chr_f (c := 114) (by decide +kernel) (fun _ _ => rfl))
  have h27 : ∀ j, j < 67 → rz_PA 12 j := rz_stp (n := 66) h26 (rz_chr_f (c := 32) (by decide +kernel) (fun _ _ => rfl))
  have h28 : ∀ j, j < 68 → rz_PA 12 j := rz_stp (n := 67) h27 (rz_chr_f (c := 115) (by decide +kernel) (fun _ _ => rfl))
  have h29 : ∀ j, j < 69 → rz_PA 12 j := rz_stp (n := 68) h28 (rz_chr_f (c := 104) (by decide +kernel) (fun _ _ => rfl))
  have h30 : ∀ j, j < 70 → rz_PA 12 j := rz_stp (n := 69) h29 (rz_chr_f (c := 108) (by decide +kernel) (fun _ _ => rfl))
  have h31 : ∀ j, j < 71 → rz_PA 12 j := rz_stp (n := 70) h30 (rz_chr_f (c := 32) (by decide +kernel) (fun _ _ => rfl))
  have h32 : ∀ j, j < 72 → rz_PA 12 j := rz_stp (n := 71) h31 (rz_chr_f (c := 115) (by decide +kernel) (fun _ _ => rfl))
  have h33 : ∀ j, j < 73 → rz_PA 12 j := rz_stp (n := 72) h32 (rz_chr_f (c := 104) (by decide +kernel) (fun _ _ => rfl))
  have h34 : ∀ j, j < 74 → rz_PA 12 j := rz_stp (n := 73) h33 (rz_chr_f (c := 114) (by decide +kernel) (fun _ _ => rfl))
  have h35 : ∀ j, j < 75 → rz_PA 12 j := rz_stp (n := 74) h34 (rz_chr_f (c := 32) (by decide +kernel) (fun _ _ => rfl))
  have h36 : ∀ j, j < 76 → rz_PA 12 j := rz_stp (n := 75) h35 (rz_chr_f (c := 112) (by decide +kernel) (fun _ _ => rfl))
  have h37 : ∀ j, j < 77 → rz_PA 12 j := rz_stp (n := 76) h36 (rz_chr_f (c := 111) (by decide +kernel) (fun _ _ => rfl))
  have h38 : ∀ j, j < 78 → rz_PA 12 j := rz_stp (n := 77) h37 (rz_chr_f (c := 112) (by decide +kernel) (fun _ _ => rfl))
  have h39 : ∀ j, j < 79 → rz_PA 12 j := rz_stp (n := 78) h38 (rz_chr_f (c := 32) (by decide +kernel) (fun _ _ => rfl))
  have h40 : ∀ j, j < 80 → rz_PA 12 j := rz_stp (n := 79) h39 (rz_chr_f (c := 100) (by decide +kernel) (fun _ _ => rfl))
  exact h40
theorem rz_ch12_120 (h0 : ∀ j, j < 80 → rz_PA 12 j) : ∀ j, j < 120 → rz_PA 12 j := by
  have h1 : ∀ j, j < 81 → rz_PA 12 j := rz_stp (n := 80) h0 (rz_chr_f (c := 117) (by decide +kernel) (fun _ _ => rfl))
  have h2 : ∀ j, j < 82 → rz_PA 12 j := rz_stp (n := 81) h1 (rz_chr_f (c := 112) (by decide +kernel) (fun _ _ => rfl))
  have h3 : ∀ j, j < 83 → rz_PA 12 j := rz_stp (n := 82) h2 (rz_chr_f (c := 32) (by decide +kernel) (fun _ _ => rfl))
  have h4 : ∀ j, j < 84 → rz_PA 12 j := rz_stp (n := 83) h3 (rz_chr_f (c := 117) (by decide +kernel) (fun _ _ => rfl))
  have h5 : ∀ j, j < 85 → rz_PA 12 j := rz_stp (n := 84) h4 (rz_chr_f (c := 110) (by decide +kernel) (fun _ _ => rfl))
  have h6 : ∀ j, j < 86 → rz_PA 12 j := rz_stp (n := 85) h5 (rz_chr_f (c := 100) (by decide +kernel) (fun _ _ => rfl))
  have h7 : ∀ j, j < 87 → rz_PA 12 j := rz_stp (n := 86) h6 (rz_chr_f (c := 101) (by decide +kernel) (fun _ _ => rfl))
  have h8 : ∀ j, j < 88 → rz_PA 12 j := rz_stp (n := 87) h7 (rz_chr_f (c := 114) (by decide +kernel) (fun _ _ => rfl))
  have h9 : ∀ j, j < 89 → rz_PA 12 j := rz_stp (n := 88) h8 (rz_chr_f (c := 32) (by decide +kernel) (fun _ _ => rfl))
  have h10 : ∀ j, j < 90 → rz_PA 12 j := rz_stp (n := 89) h9 (rz_chr_f (c := 115) (by decide +kernel) (fun _ _ => rfl))
  have h11 : ∀ j, j < 91 → rz_PA 12 j := rz_stp (n := 90) h10 (rz_chr_f (c := 119) (by decide +kernel) (fun _ _ => rfl))
  have h12 : ∀ j, j < 92 → rz_PA 12 j := rz_stp (n := 91) h11 (rz_chr_f (c := 97) (by decide +kernel) (fun _ _ => rfl))
  have h13 : ∀ j, j < 93 → rz_PA 12 j := rz_stp (n := 92) h12 (rz_chr_f (c := 112) (by decide +kernel) (fun _ _ => rfl))
  have h14 : ∀ j, j < 94 → rz_PA 12 j := rz_stp (n := 93) h13 (rz_chr_f (c := 32) (by decide +kernel) (fun _ _ => rfl))
  have h15 : ∀ j, j < 95 → rz_PA 12 j := rz_stp (n := 94) h14 (rz_chr_f (c := 103) (by decide +kernel) (fun _ _ => rfl))
  have h16 : ∀ j, j < 96 → rz_PA 12 j := rz_stp (n := 95) h15 (rz_chr_f (c := 111) (by decide +kernel) (fun _ _ => rfl))
  have h17 : ∀ j, j < 97 → rz_PA 12 j := rz_stp (n := 96) h16 (rz_chr_f (c := 116) (by decide +kernel) (fun _ _ => rfl))
  have h18 : ∀ j, j < 98 → rz_PA 12 j := rz_stp (n := 97) h17 (rz_chr_f (c := 111) (by decide +kernel) (fun _ _ => rfl))
  have h19 : ∀ j, j < 99 → rz_PA 12 j := rz_stp (n := 98) h18 (rz_chr_f (c := 32) (by decide +kernel) (fun _ _ => rfl))
  have h20 : ∀ j, j < 100 → rz_PA 12 j := rz_stp (n := 99) h19 (rz_chr_f (c := 105) (by decide +kernel) (fun _ _ => rfl))
  have h21 : ∀ j, j < 101 → rz_PA 12 j := rz_stp (n := 100) h20 (rz_chr_f (c := 102) (by decide +kernel) (fun _ _ => rfl))
  have h22 : ∀ j, j < 102 → rz_PA 12 j := rz_stp (n := 101) h21 (rz_chr_f (c := 101) (by decide +kernel) (fun _ _ => rfl))
  have h23 : ∀ j, j < 103 → rz_PA 12 j := rz_stp (n := 102) h22 (rz_chr_f (c := 113) (by decide +kernel) (fun _ _ => rfl))
  have h24 : ∀ j, j < 104 → rz_PA 12 j := rz_stp (n := 103) h23 (rz_chr_f (c := 32) (by decide +kernel) (fun _ _ => rfl))
  have h25 : ∀ j, j < 105 → rz_PA 12 j := rz_stp (n := 104) h24 (rz_chr_f (c := 105) (by decide +kernel) (fun _ _ => rfl))
  have h26 : ∀ j, j < 106 → rz_PA 12 j := rz_stp (n := 105) h25 (rz_chr_f (c := 102) (by decide +kernel) (fun _ _ => rfl))
  have h27 : ∀ j, j < 107 → rz_PA 12 j := rz_stp (n := 106) h26 (rz_chr_f (c := 110) (by decide +kernel) (fun _ _ => rfl))
  have h28 : ∀ j, j < 108 → rz_PA 12 j := rz_stp (n := 107) h27 (rz_chr_f (c := 101) (by decide +kernel) (fun _ _ => rfl))
  have h29 : ∀ j, j < 109 → rz_PA 12 j := rz_stp (n := 108) h28 (rz_chr_f (c := 32) (by decide +kernel) (fun _ _ => rfl))
  have h30 : ∀ j, j < 110 → rz_PA 12 j := rz_stp (n := 109) h29 (rz_chr_f (c := 105) (by decide +kernel) (fun _ _ => rfl))
  have h31 : ∀ j, j < 111 → rz_PA 12 j := rz_stp (n := 110) h30 (rz_chr_f (c := 102) (by decide +kernel) (fun _ _ => rfl))
  have h32 : ∀ j, j < 112 → rz_PA 12 j := rz_stp (n := 111) h31 (rz_chr_f (c := 108) (by decide +kernel) (fun _ _ => rfl))
  have h33 : ∀ j, j < 113 → rz_PA 12 j := rz_stp (n := 112) h32 (rz_chr_f (c := 116) (by decide +kernel) (fun _ _ => rfl))
  have h34 : ∀ j, j < 114 → rz_PA 12 j := rz_stp (n := 113) h33 (rz_chr_f (c := 32) (by decide +kernel) (fun _ _ => rfl))
  have h35 : ∀ j, j < 115 → rz_PA 12 j := rz_stp (n := 114) h34 (rz_chr_f (c := 105) (by decide +kernel) (fun _ _ => rfl))
  have h36 : ∀ j, j < 116 → rz_PA 12 j := rz_stp (n := 115) h35 (rz_chr_f (c := 102) (by decide +kernel) (fun _ _ => rfl))
  have h37 : ∀ j, j < 117 → rz_PA 12 j := rz_stp (n := 116) h36 (rz_chr_f (c := 103) (by decide +kernel) (fun _ _ => rfl))
  have h38 : ∀ j, j < 118 → rz_PA 12 j := rz_stp (n := 117) h37 (rz_chr_f (c := 101) (by decide +kernel) (fun _ _ => rfl))
  have h39 : ∀ j, j < 119 → rz_PA 12 j := rz_stp (n := 118) h38 (rz_chr_f (c := 32) (by decide +kernel) (fun _ _ => rfl))
  have h40 : ∀ j, j < 120 → rz_PA 12 j := rz_stp (n := 119) h39 (rz_chr_f (c := 105) (by decide +kernel) (fun _ _ => rfl))
  exact h40
theorem rz_ch12_160 (h0 : ∀ j, j < 120 → rz_PA 12 j) : ∀ j, j < 160 → rz_PA 12 j := by
  have h1 : ∀ j, j < 121 → rz_PA 12 j := rz_stp (n := 120) h0 (rz_chr_f (c := 102) (by decide +kernel) (fun _ _ => rfl))
  have h2 : ∀ j, j < 122 → rz_PA 12 j := rz_stp (n := 121) h1 (rz_chr_f (c := 103) (by decide +kernel) (fun _ _ => rfl))
  have h3 : ∀ j, j < 123 → rz_PA 12 j := rz_stp (n := 122) h2 (rz_chr_f (c := 116) (by decide +kernel) (fun _ _ => rfl))
  have h4 : ∀ j, j < 124 → rz_PA 12 j := rz_stp (n := 123) h3 (rz_chr_f (c := 32) (by decide +kernel) (fun _ _ => rfl))
  have h5 : ∀ j, j < 125 → rz_PA 12 j := rz_stp (n := 124) h4 (rz_chr_f (c := 105) (by decide +kernel) (fun _ _ => rfl))
  have h6 : ∀ j, j < 126 → rz_PA 12 j := rz_stp (n := 125) h5 (rz_chr_f (c := 102) (by decide +kernel) (fun _ _ => rfl))
  have h7 : ∀ j, j < 127 → rz_PA 12 j := rz_stp (n := 126) h6 (rz_chr_f (c := 108) (by decide +kernel) (fun _ _ => rfl))
  have h8 : ∀ j, j < 128 → rz_PA 12 j := rz_stp (n := 127) h7 (rz_chr_f (c := 101) (by decide +kernel) (fun _ _ => rfl))
  have h9 : ∀ j, j < 129 → rz_PA 12 j := rz_stp (n := 128) h8 (rz_chr_f (c := 32) (by decide +kernel) (fun _ _ => rfl))
  have h10 : ∀ j, j < 130 → rz_PA 12 j := rz_stp (n := 129) h9 (rz_chr_f (c := 99) (by decide +kernel) (fun _ _ => rfl))
  have h11 : ∀ j, j < 131 → rz_PA 12 j := rz_stp (n := 130) h10 (rz_chr_f (c := 109) (by decide +kernel) (fun _ _ => rfl))
  have h12 : ∀ j, j < 132 → rz_PA 12 j := rz_stp (n := 131) h11 (rz_chr_f (c := 112) (by decide +kernel) (fun _ _ => rfl))
  have h13 : ∀ j, j < 133 → rz_PA 12 j := rz_stp (n := 132) h12 (rz_chr_f (c := 101) (by decide +kernel) (fun _ _ => rfl))
  have h14 : ∀ j, j < 134 → rz_PA 12 j := rz_stp (n := 133) h13 (rz_chr_f (c := 113) (by decide +kernel) (fun _ _ => rfl))
  have h15 : ∀ j, j < 135 → rz_PA 12 j := rz_stp (n := 134) h14 (rz_chr_f (c := 32) (by decide +kernel) (fun _ _ => rfl))
  have h16 : ∀ j, j < 136 → rz_PA 12 j := rz_stp (n := 135) h15 (rz_chr_f (c := 99) (by decide +kernel) (fun _ _ => rfl))
  have h17 : ∀ j, j < 137 → rz_PA 12 j := rz_stp (n := 136) h16 (rz_chr_f (c := 109) (by decide +kernel) (fun _ _ => rfl))
  have h18 : ∀ j, j < 138 → rz_PA 12 j := rz_stp (n := 137) h17 (rz_chr_f (c := 112) (by decide +kernel) (fun _ _ => rfl))
  have h19 : ∀ j, j < 139 → rz_PA 12 j := rz_stp (n := 138) h18 (rz_chr_f (c := 110) (by decide +kernel) (fun _ _ => rfl))
  have h20 : ∀ j, j < 140 → rz_PA 12 j := rz_stp (n := 139) h19 (rz_chr_f (c := 101) (by decide +kernel) (fun _ _ => rfl))
  have h21 : ∀ j, j < 141 → rz_PA 12 j := rz_stp (n := 140) h20 (rz_chr_f (c := 32) (by decide +kernel) (fun _ _ => rfl))
  have h22 : ∀ j, j < 142 → rz_PA 12 j := rz_stp (n := 141) h21 (rz_chr_f (c := 99) (by decide +kernel) (fun _ _ => rfl))
  have h23 : ∀ j, j < 143 → rz_PA 12 j := rz_stp (n := 142) h22 (rz_chr_f (c := 109) (by decide +kernel) (fun _ _ => rfl))
  have h24 : ∀ j, j < 144 → rz_PA 12 j := rz_stp (n := 143) h23 (rz_chr_f (c := 112) (by decide +kernel) (fun _ _ => rfl))
  have h25 : ∀ j, j < 145 → rz_PA 12 j := rz_stp (n := 144) h24 (rz_chr_f (c := 108) (by decide +kernel) (fun _ _ => rfl))
  have h26 : ∀ j, j < 146 → rz_PA 12 j := rz_stp (n := 145) h25 (rz_chr_f (c := 116) (by decide +kernel) (fun _ _ => rfl))
  have h27 : ∀ j, j < 147 → rz_PA 12 j := rz_stp (n := 146) h26 (rz_chr_f (c := 32) (by decide +kernel) (fun _ _ => rfl))
  have h28 : ∀ j, j < 148 → rz_PA 12 j := rz_stp (n := 147) h27 (rz_chr_f (c := 99) (by decide +kernel) (fun _ _ => rfl))
  have h29 : ∀ j, j < 149 → rz_PA 12 j := rz_stp (n := 148) h28 (rz_chr_f (c := 109) (by decide +kernel) (fun _ _ => rfl))
  have h30 : ∀ j, j < 150 → rz_PA 12 j := rz_stp (n := 149) h29 (rz_chr_f (c := 112) (by decide +kernel) (fun _ _ => rfl))
  have h31 : ∀ j, j < 151 → rz_PA 12 j := rz_stp (n := 150) h30 (rz_chr_f (c := 103) (by decide +kernel) (fun _ _ => rfl))
  have h32 : ∀ j, j < 152 → rz_PA 12 j := rz_stp (n := 151) h31 (rz_chr_f (c := 101) (by decide +kernel) (fun _ _ => rfl))
  have h33 : ∀ j, j < 153 → rz_PA 12 j := rz_stp (n := 152) h32 (rz_chr_f (c := 32) (by decide +kernel) (fun _ _ => rfl))
  have h34 : ∀ j, j < 154 → rz_PA 12 j := rz_stp (n := 153) h33 (rz_chr_f (c := 99) (by decide +kernel) (fun _ _ => rfl))
  have h35 : ∀ j, j < 155 → rz_PA 12 j := rz_stp (n := 154) h34 (rz_chr_f (c := 109) (by decide +kernel) (fun _ _ => rfl))
  have h36 : ∀ j, j < 156 → rz_PA 12 j := rz_stp (n := 155) h35 (rz_chr_f (c := 112) (by decide +kernel) (fun _ _ => rfl))
  have h37 : ∀ j, j < 157 → rz_PA 12 j := rz_stp (n := 156) h36 (rz_chr_f (c := 103) (by decide +kernel) (fun _ _ => rfl))
  have h38 : ∀ j, j < 158 → rz_PA 12 j := rz_stp (n := 157) h37 (rz_chr_f (c := 116) (by decide +kernel) (fun _ _ => rfl))
  have h39 : ∀ j, j < 159 → rz_PA 12 j := rz_stp (n := 158) h38 (rz_chr_f (c := 32) (by decide +kernel) (fun _ _ => rfl))
  have h40 : ∀ j, j < 160 → rz_PA 12 j := rz_stp (n := 159) h39 (rz_chr_f (c := 99) (by decide +kernel) (fun _ _ => rfl))
  exact h40
theorem rz_ch12_200 (h0 : ∀ j, j < 160 → rz_PA 12 j) : ∀ j, j < 200 → rz_PA 12 j := by
  have h1 : ∀ j, j < 161 → rz_PA 12 j := rz_stp (n := 160) h0 (rz_chr_f (c := 109) (by decide +kernel) (fun _ _ => rfl))
  have h2 : ∀ j, j < 162 → rz_PA 12 j := rz_stp (n := 161) h1 (rz_chr_f (c := 112) (by decide +kernel) (fun _ _ => rfl))
  have h3 : ∀ j, j < 163 → rz_PA 12 j := rz_stp (n := 162) h2 (rz_chr_f (c := 108) (by decide +kernel) (fun _ _ => rfl))
  have h4 : ∀ j, j < 164 → rz_PA 12 j := rz_stp (n := 163) h3 (rz_chr_f (c := 101) (by decide +kernel) (fun _ _ => rfl))
  have h5 : ∀ j, j < 165 → rz_PA 12 j := rz_stp (n := 164) h4 (rz_chr_f (c := 32) (by decide +kernel) (fun _ _ => rfl))
  have h6 : ∀ j, j < 166 → rz_PA 12 j := rz_stp (n := 165) h5 (rz_chr_f (c := 115) (by decide +kernel) (fun _ _ => rfl))
  have h7 : ∀ j, j < 167 → rz_PA 12 j := rz_stp (n := 166) h6 (rz_chr_f (c := 97) (by decide +kernel) (fun _ _ => rfl))
  have h8 : ∀ j, j < 168 → rz_PA 12 j := rz_stp (n := 167) h7 (rz_chr_f (c := 109) (by decide +kernel) (fun _ _ => rfl))
  have h9 : ∀ j, j < 169 → rz_PA 12 j := rz_stp (n := 168) h8 (rz_chr_f (c := 101) (by decide +kernel) (fun _ _ => rfl))
  have h10 : ∀ j, j < 170 → rz_PA 12 j := rz_stp (n := 169) h9 (rz_chr_f (c := 32) (by decide +kernel) (fun _ _ => rfl))
  have h11 : ∀ j, j < 171 → rz_PA 12 j := rz_stp (n := 170) h10 (rz_chr_f (c := 111) (by decide +kernel) (fun _ _ => rfl))
  have h12 : ∀ j, j < 172 → rz_PA 12 j := rz_stp (n := 171) h11 (rz_chr_f (c := 116) (by decide +kernel) (fun _ _ => rfl))
  have h13 : ∀ j, j < 173 → rz_PA 12 j := rz_stp (n := 172) h12 (rz_chr_f (c := 104) (by decide +kernel) (fun _ _ => rfl))
  have h14 : ∀ j, j < 174 → rz_PA 12 j := rz_stp (n := 173) h13 (rz_chr_f (c := 101) (by decide +kernel) (fun _ _ => rfl))
  have h15 : ∀ j, j < 175 → rz_PA 12 j := rz_stp (n := 174) h14 (rz_chr_f (c := 114) (by decide +kernel) (fun _ _ => rfl))
  have h16 : ∀ j, j < 176 → rz_PA 12 j := rz_stp (n := 175) h15 (rz_chr_f (c := 32) (by decide +kernel) (fun _ _ => rfl))
  have h17 : ∀ j, j < 177 → rz_PA 12 j := rz_stp (n := 176) h16 (rz_chr_f (c := 105) (by decide +kernel) (fun _ _ => rfl))
  have h18 : ∀ j, j < 178 → rz_PA 12 j := rz_stp (n := 177) h17 (rz_chr_f (c := 102) (by decide +kernel) (fun _ _ => rfl))
  have h19 : ∀ j, j < 179 → rz_PA 12 j := rz_stp (n := 178) h18 (rz_chr_f (c := 110) (by decide +kernel) (fun _ _ => rfl))
  have h20 : ∀ j, j < 180 → rz_PA 12 j := rz_stp (n := 179) h19 (rz_chr_f (c := 117) (by decide +kernel) (fun _ _ => rfl))
  have h21 : ∀ j, j < 181 → rz_PA 12 j := rz_stp (n := 180) h20 (rz_chr_f (c := 108) (by decide +kernel) (fun _ _ => rfl))
  have h22 : ∀ j, j < 182 → rz_PA 12 j := rz_stp (n := 181) h21 (rz_chr_f (c := 108) (by decide +kernel) (fun _ _ => rfl))
  have h23 : ∀ j, j < 183 → rz_PA 12 j := rz_stp (n := 182) h22 (rz_chr_f (c := 32) (by decide +kernel) (fun _ _ => rfl))
  have h24 : ∀ j, j < 184 → rz_PA 12 j := rz_stp (n := 183) h23 (rz_chr_f (c := 105) (by decide +kernel) (fun _ _ => rfl))
  have h25 : ∀ j, j < 185 → rz_PA 12 j := rz_stp (n := 184) h24 (rz_chr_f (c := 102) (by decide +kernel) (fun _ _ => rfl))
  have h26 : ∀ j, j < 186 → rz_PA 12 j := rz_stp (n := 185) h25 (rz_chr_f (c := 115) (by decide +kernel) (fun _ _ => rfl))
  have h27 : ∀ j, j < 187 → rz_PA 12 j := rz_stp (n := 186) h26 (rz_chr_f (c := 111) (by decide +kernel) (fun _ _ => rfl))
  have h28 : ∀ j, j < 188 → rz_PA 12 j := rz_stp (n := 187) h27 (rz_chr_f (c := 109) (by decide +kernel) (fun _ _ => rfl))
  have h29 : ∀ j, j < 189 → rz_PA 12 j := rz_stp (n := 188) h28 (rz_chr_f (c := 101) (by decide +kernel) (fun _ _ => rfl))
  have h30 : ∀ j, j < 190 → rz_PA 12 j := rz_stp (n := 189) h29 (rz_chr_f (c := 32) (by decide +kernel) (fun _ _ => rfl))
  have h31 : ∀ j, j < 191 → rz_PA 12 j := rz_stp (n := 190) h30 (rz_chr_f (c := 103) (by decide +kernel) (fun _ _ => rfl))
  have h32 : ∀ j, j < 192 → rz_PA 12 j := rz_stp (n := 191) h31 (rz_chr_f (c := 101) (by decide +kernel) (fun _ _ => rfl))
  have h33 : ∀ j, j < 193 → rz_PA 12 j := rz_stp (n := 192) h32 (rz_chr_f (c := 116) (by decide +kernel) (fun _ _ => rfl))
  have h34 : ∀ j, j < 194 → rz_PA 12 j := rz_stp (n := 193) h33 (rz_chr_f (c := 32) (by decide +kernel) (fun _ _ => rfl))
  have h35 : ∀ j, j < 195 → rz_PA 12 j := rz_stp (n := 194) h34 (rz_chr_f (c := 112) (by decide +kernel) (fun _ _ => rfl))
  have h36 : ∀ j, j < 196 → rz_PA 12 j := rz_stp (n := 195) h35 (rz_chr_f (c := 117) (by decide +kernel) (fun _ _ => rfl))
  have h37 : ∀ j, j < 197 → rz_PA 12 j := rz_stp (n := 196) h36 (rz_chr_f (c := 116) (by decide +kernel) (fun _ _ => rfl))
  have h38 : ∀ j, j < 198 → rz_PA 12 j := rz_stp (n := 197) h37 (rz_chr_f (c := 32) (by decide +kernel) (fun _ _ => rfl))
  have h39 : ∀ j, j < 199 → rz_PA 12 j := rz_stp (n := 198) h38 (rz_chr_f (c := 103) (by decide +kernel) (fun _ _ => rfl))
  have h40 : ∀ j, j < 200 → rz_PA 12 j := rz_stp (n := 199) h39 (rz_chr_f (c := 101) (by decide +kernel) (fun _ _ => rfl))
  exact h40
theorem rz_ch12_240 (h0 : ∀ j, j < 200 → rz_PA 12 j) : ∀ j, j < 240 → rz_PA 12 j := by
  have h1 : ∀ j, j < 201 → rz_PA 12 j := rz_stp (n := 200) h0 (rz_chr_f (c := 116) (by decide +kernel) (fun _ _ => rfl))
  have h2 : ∀ j, j < 202 → rz_PA 12 j := rz_stp (n := 201) h1 (rz_chr_f (c := 115) (by decide +kernel) (fun _ _ => rfl))
  have h3 : ∀ j, j < 203 → rz_PA 12 j := rz_stp (n := 202) h2 (rz_chr_f (c := 116) (by decide +kernel) (fun _ _ => rfl))
  have h4 : ∀ j, j < 204 → rz_PA 12 j := rz_stp (n := 203) h3 (rz_chr_f (c := 97) (by decide +kernel) (fun _ _ => rfl))
  have h5 : ∀ j, j < 205 → rz_PA 12 j := rz_stp (n := 204) h4 (rz_chr_f (c := 116) (by decide +kernel) (fun _ _ => rfl))
  have h6 : ∀ j, j < 206 → rz_PA 12 j := rz_stp (n := 205) h5 (rz_chr_f (c := 105) (by decide +kernel) (fun _ _ => rfl))
  have h7 : ∀ j, j < 207 → rz_PA 12 j := rz_stp (n := 206) h6 (rz_chr_f (c := 99) (by decide +kernel) (fun _ _ => rfl))
  have h8 : ∀ j, j < 208 → rz_PA 12 j := rz_stp (n := 207) h7 (rz_chr_f (c := 32) (by decide +kernel) (fun _ _ => rfl))
  have h9 : ∀ j, j < 209 → rz_PA 12 j := rz_stp (n := 208) h8 (rz_chr_f (c := 112) (by decide +kernel) (fun _ _ => rfl))
  have h10 : ∀ j, j < 210 → rz_PA 12 j := rz_stp (n := 209) h9 (rz_chr_f (c := 117) (by decide +kernel) (fun _ _ => rfl))
  have h11 : ∀ j, j < 211 → rz_PA 12 j := rz_stp (n := 210) h10 (rz_chr_f (c := 116) (by decide +kernel) (fun _ _ => rfl))
  have h12 : ∀ j, j < 212 → rz_PA 12 j := rz_stp (n := 211) h11 (rz_chr_f (c := 115) (by decide +kernel) (fun _ _ => rfl))
  have h13 : ∀ j, j < 213 → rz_PA 12 j := rz_stp (n := 212) h12 (rz_chr_f (c := 116) (by decide +kernel) (fun _ _ => rfl))
  have h14 : ∀ j, j < 214 → rz_PA 12 j := rz_stp (n := 213) h13 (rz_chr_f (c := 97) (by decide +kernel) (fun _ _ => rfl))
  have h15 : ∀ j, j < 215 → rz_PA 12 j := rz_stp (n := 214) h14 (rz_chr_f (c := 116) (by decide +kernel) (fun _ _ => rfl))
  have h16 : ∀ j, j < 216 → rz_PA 12 j := rz_stp (n := 215) h15 (rz_chr_f (c := 105) (by decide +kernel) (fun _ _ => rfl))
  have h17 : ∀ j, j < 217 → rz_PA 12 j := rz_stp (n := 216) h16 (rz_chr_f (c := 99) (by decide +kernel) (fun _ _ => rfl))
  have h18 : ∀ j, j < 218 → rz_PA 12 j := rz_stp (n := 217) h17 (rz_chr_f (c := 32) (by decide +kernel) (fun _ _ => rfl))
  have h19 : ∀ j, j < 219 → rz_PA 12 j := rz_stp (n := 218) h18 (rz_chr_f (c := 110) (by decide +kernel) (fun _ _ => rfl))
  have h20 : ∀ j, j < 220 → rz_PA 12 j := rz_stp (n := 219) h19 (rz_chr_f (c := 101) (by decide +kernel) (fun _ _ => rfl))
  have h21 : ∀ j, j < 221 → rz_PA 12 j := rz_stp (n := 220) h20 (rz_chr_f (c := 119) (by decide +kernel) (fun _ _ => rfl))
  have h22 : ∀ j, j < 222 → rz_PA 12 j := rz_stp (n := 221) h21 (rz_chr_f (c := 32) (by decide +kernel) (fun _ _ => rfl))
  have h23 : ∀ j, j < 223 → rz_PA 12 j := rz_stp (n := 222) h22 (rz_chr_f (c := 97) (by decide +kernel) (fun _ _ => rfl))
  have h24 : ∀ j, j < 224 → rz_PA 12 j := rz_stp (n := 223) h23 (rz_chr_f (c := 114) (by decide +kernel) (fun _ _ => rfl))
  have h25 : ∀ j, j < 225 → rz_PA 12 j := rz_stp (n := 224) h24 (rz_chr_f (c := 114) (by decide +kernel) (fun _ _ => rfl))
  have h26 : ∀ j, j < 226 → rz_PA 12 j := rz_stp (n := 225) h25 (rz_chr_f (c := 97) (by decide +kernel) (fun _ _ => rfl))
  have h27 : ∀ j, j < 227 → rz_PA 12 j := rz_stp (n := 226) h26 (rz_chr_f (c := 121) (by decide +kernel) (fun _ _ => rfl))
  have h28 : ∀ j, j < 228 → rz_PA 12 j := rz_stp (n := 227) h27 (rz_chr_f (c := 32) (by decide +kernel) (fun _ _ => rfl))
  have h29 : ∀ j, j < 229 → rz_PA 12 j := rz_stp (n := 228) h28 (rz_chr_f (c := 101) (by decide +kernel) (fun _ _ => rfl))
  have h30 : ∀ j, j < 230 → rz_PA 12 j := rz_stp (n := 229) h29 (rz_chr_f (c := 108) (by decide +kernel) (fun _ _ => rfl))
  have h31 : ∀ j, j < 231 → rz_PA 12 j := rz_stp (n := 230) h30 (rz_chr_f (c := 101) (by decide +kernel) (fun _ _ => rfl))
  have h32 : ∀ j, j < 232 → rz_PA 12 j := rz_stp (n := 231) h31 (rz_chr_f (c := 109) (by decide +kernel) (fun _ _ => rfl))
  have h33 : ∀ j, j < 233 → rz_PA 12 j := rz_stp (n := 232) h32 (rz_chr_f (c := 101) (by decide +kernel) (fun _ _ => rfl))
  have h34 : ∀ j, j < 234 → rz_PA 12 j := rz_stp (n := 233) h33 (rz_chr_f (c := 110) (by decide +kernel) (fun _ _ => rfl))
  have h35 : ∀ j, j < 235 → rz_PA 12 j := rz_stp (n := 234) h34 (rz_chr_f (c := 116) (by decide +kernel) (fun _ _ => rfl))
  have h36 : ∀ j, j < 236 → rz_PA 12 j := rz_stp (n := 235) h35 (rz_chr_f (c := 32) (by decide +kernel) (fun _ _ => rfl))
  have h37 : ∀ j, j < 237 → rz_PA 12 j := rz_stp (n := 236) h36 (rz_chr_f (c := 115) (by decide +kernel) (fun _ _ => rfl))
  have h38 : ∀ j, j < 238 → rz_PA 12 j := rz_stp (n := 237) h37 (rz_chr_f (c := 101) (by decide +kernel) (fun _ _ => rfl))
  have h39 : ∀ j, j < 239 → rz_PA 12 j := rz_stp (n := 238) h38 (rz_chr_f (c := 116) (by decide +kernel) (fun _ _ => rfl))
  have h40 : ∀ j, j < 240 → rz_PA 12 j := rz_stp (n := 239) h39 (rz_chr_f (c := 101) (by decide +kernel) (fun _ _ => rfl))
  exact h40
theorem rz_ch12_280 (h0 : ∀ j, j < 240 → rz_PA 12 j) : ∀ j, j < 280 → rz_PA 12 j := by
  have h1 : ∀ j, j < 241 → rz_PA 12 j := rz_stp (n := 240) h0 (rz_chr_f (c := 108) (by decide +kernel) (fun _ _ => rfl))
  have h2 : ∀ j, j < 242 → rz_PA 12 j := rz_stp (n := 241) h1 (rz_chr_f (c := 101) (by decide +kernel) (fun _ _ => rfl))
  have h3 : ∀ j, j < 243 → rz_PA 12 j := rz_stp (n := 242) h2 (rz_chr_f (c := 109) (by decide +kernel) (fun _ _ => rfl))
  have h4 : ∀ j, j < 244 → rz_PA 12 j := rz_stp (n := 243) h3 (rz_chr_f (c := 101) (by decide +kernel) (fun _ _ => rfl))
  have h5 : ∀ j, j < 245 → rz_PA 12 j := rz_stp (n := 244) h4 (rz_chr_f (c := 110) (by decide +kernel) (fun _ _ => rfl))
  have h6 : ∀ j, j < 246 → rz_PA 12 j := rz_stp (n := 245) h5 (rz_chr_f (c := 116) (by decide +kernel) (fun _ _ => rfl))
  have h7 : ∀ j, j < 247 → rz_PA 12 j := rz_stp (n := 246) h6 (rz_chr_f (c := 32) (by decide +kernel) (fun _ _ => rfl))
  have h8 : ∀ j, j < 248 → rz_PA 12 j := rz_stp (n := 247) h7 (rz_chr_f (c := 108) (by decide +kernel) (fun _ _ => rfl))
  have h9 : ∀ j, j < 249 → rz_PA 12 j := rz_stp (n := 248) h8 (rz_chr_f (c := 101) (by decide +kernel) (fun _ _ => rfl))
  have h10 : ∀ j, j < 250 → rz_PA 12 j := rz_stp (n := 249) h9 (rz_chr_f (c := 110) (by decide +kernel) (fun _ _ => rfl))
  have h11 : ∀ j, j < 251 → rz_PA 12 j := rz_stp (n := 250) h10 (rz_chr_f (c := 103) (by decide +kernel) (fun _ _ => rfl))
  have h12 : ∀ j, j < 252 → rz_PA 12 j := rz_stp (n := 251) h11 (rz_chr_f (c := 116) (by decide +kernel) (fun _ _ => rfl))
  have h13 : ∀ j, j < 253 → rz_PA 12 j := rz_stp (n := 252) h12 (rz_chr_f (c := 104) (by decide +kernel) (fun _ _ => rfl))
  have h14 : ∀ j, j < 254 → rz_PA 12 j := rz_stp (n := 253) h13 (rz_chr_f (c := 32) (by decide +kernel) (fun _ _ => rfl))
  have h15 : ∀ j, j < 255 → rz_PA 12 j := rz_stp (n := 254) h14 (rz_chr_f (c := 99) (by decide +kernel) (fun _ _ => rfl))
  have h16 : ∀ j, j < 256 → rz_PA 12 j := rz_stp (n := 255) h15 (rz_chr_f (c := 97) (by decide +kernel) (fun _ _ => rfl))
  have h17 : ∀ j, j < 257 → rz_PA 12 j := rz_stp (n := 256) h16 (rz_chr_f (c := 115) (by decide +kernel) (fun _ _ => rfl))
  have h18 : ∀ j, j < 258 → rz_PA 12 j := rz_stp (n := 257) h17 (rz_chr_f (c := 116) (by decide +kernel) (fun _ _ => rfl))
  have h19 : ∀ j, j < 259 → rz_PA 12 j := rz_stp (n := 258) h18 (rz_chr_f (c := 32) (by decide +kernel) (fun _ _ => rfl))
  have h20 : ∀ j, j < 260 → rz_PA 12 j := rz_stp (n := 259) h19 (rz_chr_f (c := 105) (by decide +kernel) (fun _ _ => rfl))
  have h21 : ∀ j, j < 261 → rz_PA 12 j := rz_stp (n := 260) h20 (rz_chr_f (c := 115) (by decide +kernel) (fun _ _ => rfl))
  have h22 : ∀ j, j < 262 → rz_PA 12 j := rz_stp (n := 261) h21 (rz_chr_f (c := 32) (by decide +kernel) (fun _ _ => rfl))
  have h23 : ∀ j, j < 263 → rz_PA 12 j := rz_stp (n := 262) h22 (rz_chr_f (c := 118) (by decide +kernel) (fun _ _ => rfl))
  have h24 : ∀ j, j < 264 → rz_PA 12 j := rz_stp (n := 263) h23 (rz_chr_f (c := 105) (by decide +kernel) (fun _ _ => rfl))
  have h25 : ∀ j, j < 265 → rz_PA 12 j := rz_stp (n := 264) h24 (rz_chr_f (c := 114) (by decide +kernel) (fun _ _ => rfl))
  have h26 : ∀ j, j < 266 → rz_PA 12 j := rz_stp (n := 265) h25 (rz_chr_f (c := 116) (by decide +kernel) (fun _ _ => rfl))
  have h27 : ∀ j, j < 267 → rz_PA 12 j := rz_stp (n := 266) h26 (rz_chr_f (c := 117) (by decide +kernel) (fun _ _ => rfl))
  have h28 : ∀ j, j < 268 → rz_PA 12 j := rz_stp (n := 267) h27 (rz_chr_f (c := 97) (by decide +kernel) (fun _ _ => rfl))
  have h29 : ∀ j, j < 269 → rz_PA 12 j := rz_stp (n := 268) h28 (rz_chr_f (c := 108) (by decide +kernel) (fun _ _ => rfl))
  have h30 : ∀ j, j < 270 → rz_PA 12 j := rz_stp (n := 269) h29 (rz_chr_f (c := 32) (by decide +kernel) (fun _ _ => rfl))
  have h31 : ∀ j, j < 271 → rz_PA 12 j := rz_stp (n := 270) h30 (rz_chr_f (c := 115) (by decide +kernel) (fun _ _ => rfl))
  have h32 : ∀ j, j < 272 → rz_PA 12 j := rz_stp (n := 271) h31 (rz_chr_f (c := 112) (by decide +kernel) (fun _ _ => rfl))
  have h33 : ∀ j, j < 273 → rz_PA 12 j := rz_stp (n := 272) h32 (rz_chr_f (c := 101) (by decide +kernel) (fun _ _ => rfl))
  have h34 : ∀ j, j < 274 → rz_PA 12 j := rz_stp (n := 273) h33 (rz_chr_f (c := 99) (by decide +kernel) (fun _ _ => rfl))
  have h35 : ∀ j, j < 275 → rz_PA 12 j := rz_stp (n := 274) h34 (rz_chr_f (c := 105) (by decide +kernel) (fun _ _ => rfl))
  have h36 : ∀ j, j < 276 → rz_PA 12 j := rz_stp (n := 275) h35 (rz_chr_f (c := 97) (by decide +kernel) (fun _ _ => rfl))
  have h37 : ∀ j, j < 277 → rz_PA 12 j := rz_stp (n := 276) h36 (rz_chr_f (c := 108) (by decide +kernel) (fun _ _ => rfl))
  have h38 : ∀ j, j < 278 → rz_PA 12 j := rz_stp (n := 277) h37 (rz_chr_f (c := 32) (by decide +kernel) (fun _ _ => rfl))
  have h39 : ∀ j, j < 279 → rz_PA 12 j := rz_stp (n := 278) h38 (rz_chr_f (c := 99) (by decide +kernel) (fun _ _ => rfl))
  have h40 : ∀ j, j < 280 → rz_PA 12 j := rz_stp (n := 279) h39 (rz_chr_f (c := 97) (by decide +kernel) (fun _ _ => rfl))
  exact h40
theorem rz_ch12_319 (h0 : ∀ j, j < 280 → rz_PA 12 j) : ∀ j, j < 319 → rz_PA 12 j := by
  have h1 : ∀ j, j < 281 → rz_PA 12 j := rz_stp (n := 280) h0 (rz_chr_f (c := 108) (by decide +kernel) (fun _ _ => rfl))
  have h2 : ∀ j, j < 282 → rz_PA 12 j := rz_stp (n := 281) h1 (rz_chr_f (c := 108) (by decide +kernel) (fun _ _ => rfl))
  have h3 : ∀ j, j < 283 → rz_PA 12 j := rz_stp (n := 282) h2 (rz_chr_f (c := 32) (by decide +kernel) (fun _ _ => rfl))
  have h4 : ∀ j, j < 284 → rz_PA 12 j := rz_stp (n := 283) h3 (rz_chr_f (c := 108) (by decide +kernel) (fun _ _ => rfl))
  have h5 : ∀ j, j < 285 → rz_PA 12 j := rz_stp (n := 284) h4 (rz_chr_f (c := 97) (by decide +kernel) (fun _ _ => rfl))
  have h6 : ∀ j, j < 286 → rz_PA 12 j := rz_stp (n := 285) h5 (rz_chr_f (c := 109) (by decide +kernel) (fun _ _ => rfl))
  have h7 : ∀ j, j < 287 → rz_PA 12 j := rz_stp (n := 286) h6 (rz_chr_f (c := 98) (by decide +kernel) (fun _ _ => rfl))
  have h8 : ∀ j, j < 288 → rz_PA 12 j := rz_stp (n := 287) h7 (rz_chr_f (c := 100) (by decide +kernel) (fun _ _ => rfl))
  have h9 : ∀ j, j < 289 → rz_PA 12 j := rz_stp (n := 288) h8 (rz_chr_f (c := 97) (by decide +kernel) (fun _ _ => rfl))
  have h10 : ∀ j, j < 290 → rz_PA 12 j := rz_stp (n := 289) h9 (rz_chr_f (c := 32) (by decide +kernel) (fun _ _ => rfl))
  have h11 : ∀ j, j < 291 → rz_PA 12 j := rz_stp (n := 290) h10 (rz_chr_f (c := 101) (by decide +kernel) (fun _ _ => rfl))
  have h12 : ∀ j, j < 292 → rz_PA 12 j := rz_stp (n := 291) h11 (rz_chr_f (c := 110) (by decide +kernel) (fun _ _ => rfl))
  have h13 : ∀ j, j < 293 → rz_PA 12 j := rz_stp (n := 292) h12 (rz_chr_f (c := 116) (by decide +kernel) (fun _ _ => rfl))
  have h14 : ∀ j, j < 294 → rz_PA 12 j := rz_stp (n := 293) h13 (rz_chr_f (c := 101) (by decide +kernel) (fun _ _ => rfl))
  have h15 : ∀ j, j < 295 → rz_PA 12 j := rz_stp (n := 294) h14 (rz_chr_f (c := 114) (by decide +kernel) (fun _ _ => rfl))
  have h16 : ∀ j, j < 296 → rz_PA 12 j := rz_stp (n := 295) h15 (rz_chr_f (c := 32) (by decide +kernel) (fun _ _ => rfl))
  have h17 : ∀ j, j < 297 → rz_PA 12 j := rz_stp (n := 296) h16 (rz_chr_f (c := 101) (by decide +kernel) (fun _ _ => rfl))
  have h18 : ∀ j, j < 298 → rz_PA 12 j := rz_stp (n := 297) h17 (rz_chr_f (c := 120) (by decide +kernel) (fun _ _ => rfl))
  have h19 : ∀ j, j < 299 → rz_PA 12 j := rz_stp (n := 298) h18 (rz_chr_f (c := 105) (by decide +kernel) (fun _ _ => rfl))
  have h20 : ∀ j, j < 300 → rz_PA 12 j := rz_stp (n := 299) h19 (rz_chr_f (c := 116) (by decide +kernel) (fun _ _ => rfl))
  have h21 : ∀ j, j < 301 → rz_PA 12 j := rz_stp (n := 300) h20 (rz_chr_f (c := 32) (by decide +kernel) (fun _ _ => rfl))
  have h22 : ∀ j, j < 302 → rz_PA 12 j := rz_stp (n := 301) h21 (rz_chr_f (c := 116) (by decide +kernel) (fun _ _ => rfl))
  have h23 : ∀ j, j < 303 → rz_PA 12 j := rz_stp (n := 302) h22 (rz_chr_f (c := 104) (by decide +kernel) (fun _ _ => rfl))
  have h24 : ∀ j, j < 304 → rz_PA 12 j := rz_stp (n := 303) h23 (rz_chr_f (c := 114) (by decide +kernel) (fun _ _ => rfl))
  have h25 : ∀ j, j < 305 → rz_PA 12 j := rz_stp (n := 304) h24 (rz_chr_f (c := 111) (by decide +kernel) (fun _ _ => rfl))
  have h26 : ∀ j, j < 306 → rz_PA 12 j := rz_stp (n := 305) h25 (rz_chr_f (c := 119) (by decide +kernel) (fun _ _ => rfl))
  have h27 : ∀ j, j < 307 → rz_PA 12 j := rz_stp (n := 306) h26 (rz_chr_f (c := 32) (by decide +kernel) (fun _ _ => rfl))
  have h28 : ∀ j, j < 308 → rz_PA 12 j := rz_stp (n := 307) h27 (rz_chr_f (c := 114) (by decide +kernel) (fun _ _ => rfl))
  have h29 : ∀ j, j < 309 → rz_PA 12 j := rz_stp (n := 308) h28 (rz_chr_f (c := 101) (by decide +kernel) (fun _ _ => rfl))
  have h30 : ∀ j, j < 310 → rz_PA 12 j := rz_stp (n := 309) h29 (rz_chr_f (c := 116) (by decide +kernel) (fun _ _ => rfl))
  have h31 : ∀ j, j < 311 → rz_PA 12 j := rz_stp (n := 310) h30 (rz_chr_f (c := 117) (by decide +kernel) (fun _ _ => rfl))
  have h32 : ∀ j, j < 312 → rz_PA 12 j := rz_stp (n := 311) h31 (rz_chr_f (c := 114) (by decide +kernel) (fun _ _ => rfl))
  have h33 : ∀ j, j < 313 → rz_PA 12 j := rz_stp (n := 312) h32 (rz_chr_f (c := 110) (by decide +kernel) (fun _ _ => rfl))
  have h34 : ∀ j, j < 314 → rz_PA 12 j := rz_stp (n := 313) h33 (rz_chr_f (c := 32) (by decide +kernel) (fun _ _ => rfl))
  have h35 : ∀ j, j < 315 → rz_PA 12 j := rz_stp (n := 314) h34 (rz_chr_f (c := 103) (by decide +kernel) (fun _ _ => rfl))
  have h36 : ∀ j, j < 316 → rz_PA 12 j := rz_stp (n := 315) h35 (rz_chr_f (c := 105) (by decide +kernel) (fun _ _ => rfl))
  have h37 : ∀ j, j < 317 → rz_PA 12 j := rz_stp (n := 316) h36 (rz_chr_f (c := 118) (by decide +kernel) (fun _ _ => rfl))
  have h38 : ∀ j, j < 318 → rz_PA 12 j := rz_stp (n := 317) h37 (rz_chr_f (c := 101) (by decide +kernel) (fun _ _ => rfl))
  have h39 : ∀ j, j < 319 → rz_PA 12 j := rz_stp (n := 318) h38 (rz_chr_f (c := 32) (by decide +kernel) (fun _ _ => rfl))
  exact h39
theorem rz_chA12 : ∀ j, j < 319 → rz_PA 12 j := (rz_ch12_319 (rz_ch12_280 (rz_ch12_240 (rz_ch12_200 (rz_ch12_160 (rz_ch12_120 (rz_ch12_80 (rz_ch12_40 (fun j h => absurd h (Nat.not_lt_zero j))))))))))
noncomputable def rgJ0_charAt_5068e_f : rz_L → rz_M → rz_Z → Bool := fun vs M Z => rz_hd vs (fun o T => rz_hd T (fun v U => rz_nil U (rz_int v (fun j => rz_at 1000000 o (fun i => (rz_if (Nat.beq i 11) (rz_if (Nat.ble 116 j) (rgJ0_charAt_5068e vs M Z) (rz_F (rz_chr i j) (fun z => Z (rz_i z) M))) (rz_if (Nat.beq i 12) (rz_if (Nat.ble 319 j) (rgJ0_charAt_5068e vs M Z) (rz_F (rz_chr i j) (fun z => Z (rz_i z) M))) (rgJ0_charAt_5068e vs M Z))))))))
theorem rmJ0_charAt_5068e_f (l : Launch) {G : rz_G} (hG : rz_Gd G) (vs : rz_L) (M : rz_M) (Z : rz_Z) (hn : vs.length = 2) (h : rgJ0_charAt_5068e_f vs M Z = true) : Met l yJ0_charAt_5068e (Cond.code yJ0_charAt_5068e cJ0_charAt_5068e 2 (some .char) :: rz_TB) rrJ0_charAt_5068e (rz_Pre G vs M) (rz_Qi G M.2 Z) 0 0 (fun q => rz_b G ≤ q) := by
  have h1 := rz_hd_t h
  clear h
  obtain ⟨o, T, rfl, h1⟩ := h1
  have h2 := rz_hd_t h1
  clear h1
  obtain ⟨v, U, rfl, h2⟩ := h2
  have h3 := rz_nil_t h2
  clear h2
  obtain ⟨rfl, h3⟩ := h3
  have h4 := rz_int_t h3
  clear h3
  obtain ⟨j, rfl, h4⟩ := h4
  have h5 := rz_at_t h4
  clear h4
  obtain ⟨i, hi, rfl, h⟩ := h5
  rcases rz_if_t h with ⟨g, h⟩ | ⟨-, h⟩
  · have g : i = 11 := rz_beq.1.mp g
    subst g
    rcases rz_if_t h with ⟨-, h⟩ | ⟨g2, h⟩
    · exact rmJ0_charAt_5068e l hG _ M Z hn h
    · have g2 : ¬ 116 ≤ j := rz_ble.2.mp g2
      rw [rz_F_eq] at h
      exact rmJ0_charAt_5068e l hG _ M Z hn ((rz_chA11 j (Nat.lt_of_not_le g2) M Z).trans h)
  · skip
    rcases rz_if_t h with ⟨g, h⟩ | ⟨-, h⟩
    · have g : i = 12 := rz_beq.1.mp g
      subst g
      rcases rz_if_t h with ⟨-, h⟩ | ⟨g2, h⟩
      · exact rmJ0_charAt_5068e l hG _ M Z hn h
      · have g2 : ¬ 319 ≤ j := rz_ble.2.mp g2
        rw [rz_F_eq] at h
        exact rmJ0_charAt_5068e l hG _ M Z hn ((rz_chA12 j (Nat.lt_of_not_le g2) M Z).trans h)
    · skip
      exact rmJ0_charAt_5068e l hG _ M Z hn h
