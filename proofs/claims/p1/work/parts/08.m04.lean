/-! Methods: handlers, facts, contracts. -/
theorem dX9_lookUp_0 : decode cX9_lookUp 0 = .ok (.aload_n 0, 1) := by decide +kernel
theorem dX9_lookUp_1 : decode cX9_lookUp 1 = .ok (.getfield 25, 3) := by decide +kernel
theorem dX9_lookUp_4 : decode cX9_lookUp 4 = .ok (.aload_n 1, 1) := by decide +kernel
theorem dX9_lookUp_5 : decode cX9_lookUp 5 = .ok (.iload_n 2, 1) := by decide +kernel
theorem dX9_lookUp_6 : decode cX9_lookUp 6 = .ok (.iload_n 3, 1) := by decide +kernel
theorem dX9_lookUp_7 : decode cX9_lookUp 7 = .ok (.invokestatic 106, 3) := by decide +kernel
theorem dX9_lookUp_10 : decode cX9_lookUp 10 = .ok (.iaload, 1) := by decide +kernel
theorem dX9_lookUp_11 : decode cX9_lookUp 11 = .ok (.istore 4, 2) := by decide +kernel
theorem dX9_lookUp_13 : decode cX9_lookUp 13 = .ok (.iconst 0, 1) := by decide +kernel
theorem dX9_lookUp_14 : decode cX9_lookUp 14 = .ok (.istore 5, 2) := by decide +kernel
theorem dX9_lookUp_16 : decode cX9_lookUp 16 = .ok (.iload 4, 2) := by decide +kernel
theorem dX9_lookUp_18 : decode cX9_lookUp 18 = .ok (.ifCond .lt 53, 3) := by decide +kernel
theorem dX9_lookUp_21 : decode cX9_lookUp 21 = .ok (.iload 5, 2) := by decide +kernel
theorem dX9_lookUp_23 : decode cX9_lookUp 23 = .ok (.sipush 6400, 3) := by decide +kernel
theorem dX9_lookUp_26 : decode cX9_lookUp 26 = .ok (.if_icmp .ge 45, 3) := by decide +kernel
theorem dX9_lookUp_29 : decode cX9_lookUp 29 = .ok (.aload_n 0, 1) := by decide +kernel
theorem dX9_lookUp_30 : decode cX9_lookUp 30 = .ok (.getfield 19, 3) := by decide +kernel
theorem dX9_lookUp_33 : decode cX9_lookUp 33 = .ok (.iload 4, 2) := by decide +kernel
theorem dX9_lookUp_35 : decode cX9_lookUp 35 = .ok (.iaload, 1) := by decide +kernel
theorem dX9_lookUp_36 : decode cX9_lookUp 36 = .ok (.iload_n 3, 1) := by decide +kernel
theorem dX9_lookUp_37 : decode cX9_lookUp 37 = .ok (.iload_n 2, 1) := by decide +kernel
theorem dX9_lookUp_38 : decode cX9_lookUp 38 = .ok (.isub, 1) := by decide +kernel
theorem dX9_lookUp_39 : decode cX9_lookUp 39 = .ok (.if_icmp .ne 17, 3) := by decide +kernel
theorem dX9_lookUp_42 : decode cX9_lookUp 42 = .ok (.aload_n 0, 1) := by decide +kernel
theorem dX9_lookUp_43 : decode cX9_lookUp 43 = .ok (.iload 4, 2) := by decide +kernel
theorem dX9_lookUp_45 : decode cX9_lookUp 45 = .ok (.aload_n 1, 1) := by decide +kernel
theorem dX9_lookUp_46 : decode cX9_lookUp 46 = .ok (.iload_n 2, 1) := by decide +kernel
theorem dX9_lookUp_47 : decode cX9_lookUp 47 = .ok (.invokevirtual 109, 3) := by decide +kernel
theorem dX9_lookUp_50 : decode cX9_lookUp 50 = .ok (.ifCond .eq 6, 3) := by decide +kernel
theorem dX9_lookUp_53 : decode cX9_lookUp 53 = .ok (.iload 4, 2) := by decide +kernel
theorem dX9_lookUp_55 : decode cX9_lookUp 55 = .ok (.ireturn, 1) := by decide +kernel
theorem dX9_lookUp_56 : decode cX9_lookUp 56 = .ok (.aload_n 0, 1) := by decide +kernel
theorem dX9_lookUp_57 : decode cX9_lookUp 57 = .ok (.getfield 22, 3) := by decide +kernel
theorem dX9_lookUp_60 : decode cX9_lookUp 60 = .ok (.iload 4, 2) := by decide +kernel
theorem dX9_lookUp_62 : decode cX9_lookUp 62 = .ok (.iaload, 1) := by decide +kernel
theorem dX9_lookUp_63 : decode cX9_lookUp 63 = .ok (.istore 4, 2) := by decide +kernel
theorem dX9_lookUp_65 : decode cX9_lookUp 65 = .ok (.iinc 5 1, 3) := by decide +kernel
theorem dX9_lookUp_68 : decode cX9_lookUp 68 = .ok (.goto (-52), 3) := by decide +kernel
theorem dX9_lookUp_71 : decode cX9_lookUp 71 = .ok (.iconst (-1), 1) := by decide +kernel
theorem dX9_lookUp_72 : decode cX9_lookUp 72 = .ok (.ireturn, 1) := by decide +kernel
def rpX9_lookUp : List Nat := [0, 1, 4, 5, 6, 7, 10, 11, 13, 14, 16, 18, 21, 23, 26, 29, 30, 33, 35, 36, 37, 38, 39, 42, 43, 45, 46, 47, 50, 53, 55, 56, 57, 60, 62, 63, 65, 68, 71, 72]
noncomputable def rcX9_lookUp : List rz_B := [rz_aload 0, rz_getf (Nat.add (Nat.mul 256 11) 1) 7 rz_r, rz_aload 1, rz_iload 2, rz_iload 3, rz_callS 3 rgX9_bucket, rz_iald, rz_istore 4, rz_cst 0, rz_istore 5, rz_iload 4, rz_iflt 38, rz_iload 5, rz_cst 6400, rz_icmpge 38, rz_aload 0, rz_getf (Nat.add (Nat.mul 256 11) 1) 5 rz_r, rz_iload 4, rz_iald, rz_iload 3, rz_iload 2, rz_isub, rz_icmpne 31, rz_aload 0, rz_iload 4, rz_aload 1, rz_iload 2, rz_callV 3 (Nat.add (Nat.mul 256 11) 1) rgX9_alike, rz_ifeq 31, rz_iload 4, rz_iret, rz_aload 0, rz_getf (Nat.add (Nat.mul 256 11) 1) 6 rz_r, rz_iload 4, rz_iald, rz_istore 4, rz_iinc 5 1, rz_goto 10, rz_cst 4294967295, rz_iret]
noncomputable def rgX9_lookUp : rz_L → rz_M → rz_Z → Bool := rz_go rcX9_lookUp 6 1000000
def rrX9_lookUp : Room := { frames := 1, cells := 0, slots := 0, locals := 24 }
theorem rmX9_lookUp (l : Launch) {G : rz_G} (hG : rz_Gd G) (vs : rz_L) (M : rz_M) (Z : rz_Z) (hn : vs.length = 4) (h : rgX9_lookUp vs M Z = true) : Met l yX9_lookUp (Cond.code yX9_lookUp cX9_lookUp 6 (some .int) :: rz_TB) rrX9_lookUp (rz_Pre G vs M) (rz_Qi G M.2 Z) 0 0 (fun q => rz_b G ≤ q) := by
  obtain ⟨D, tc, ad, b, xs, rfl⟩ := id hG
  refine rz_body (pcs := rpX9_lookUp) (by decide) rfl (by rw [hn]; decide) h ?_
  intro p e R s m args below meth c hC
  obtain ⟨hx, hb, hml, hr, hlk, ho, hts, hKn, hRm⟩ := id hC
  obtain ⟨hK, hA, hSt⟩ := id hKn
  have hw : ∀ {i j : Nat} {ws : List Cond} {w : Cond}, rz_WW[i]? = some ws → ws[j]? = some w → w.before args s = true := fun h1 h2 => hts _ (List.mem_cons_of_mem _ (rz_mem h1 h2))
  refine rz_All_c (i := 0) (fun k J hk hJ => rz_aload_n_ok (pc := 0) hx hb dX9_lookUp_0 rfl hk) ?_
  refine rz_All_c (i := 1) (fun k J hk hJ => rz_getf_ok (pc := 1) (own := RX9) (ref := "ThreadJudge$Reader") (C := RX9) (T := TX9) (N := 19) (ci := 11) (index := 25) (f := 7) (t := 2) (Ts := Cond.code yX9_lookUp cX9_lookUp 6 (some .int) :: rz_TB) hx hb hts rz_in11 ho hK rfl (by decide) rfl (fun _ => rfl) (hw (i := 2) (j := 2) rfl rfl) (fun _ z => z) dX9_lookUp_1 hk) ?_
  refine rz_All_c (i := 2) (fun k J hk hJ => rz_aload_n_ok (pc := 4) hx hb dX9_lookUp_4 rfl hk) ?_
  refine rz_All_c (i := 3) (fun k J hk hJ => rz_iload_n_ok (pc := 5) hx hb dX9_lookUp_5 rfl hk) ?_
  refine rz_All_c (i := 4) (fun k J hk hJ => rz_iload_n_ok (pc := 6) hx hb dX9_lookUp_6 rfl hk) ?_
  refine rz_All_c (i := 5) (fun k J hk hJ => rz_callS_ok (pc := 7) (own := RX9) hC rfl (rmX9_bucket l hG) (rz_cwS 3 hC rz_good (rz_mem (i := 3) (j := 0) rfl rfl) (rz_mem (i := 3) (j := 1) rfl rfl) (rz_mem (i := 1) (j := 21) rfl rfl) (rz_mem (i := 3) (j := 2) rfl rfl) ⟨rfl, by decide, by decide, by decide +kernel⟩ rfl rfl ⟨by decide, by decide⟩) dX9_lookUp_7 hk) ?_
  refine rz_All_c (i := 6) (fun k J hk hJ => rz_iald_ok (pc := 10) hx hb hK dX9_lookUp_10 hk) ?_
  refine rz_All_c (i := 7) (fun k J hk hJ => rz_istore_ok (pc := 11) hx hb dX9_lookUp_11 hk) ?_
  refine rz_All_c (i := 8) (fun k J hk hJ => rz_iconst_ok (pc := 13) hx hb dX9_lookUp_13 rfl hk) ?_
  refine rz_All_c (i := 9) (fun k J hk hJ => rz_istore_ok (pc := 14) hx hb dX9_lookUp_14 hk) ?_
  refine rz_All_c (i := 10) (fun k J hk hJ => rz_iload_ok (pc := 16) hx hb dX9_lookUp_16 hk) ?_
  refine rz_All_c (i := 11) (fun k J hk hJ => rz_iflt_ok (pc := 18) hx hb dX9_lookUp_18 rfl hk (hJ 38)) ?_
  refine rz_All_c (i := 12) (fun k J hk hJ => rz_iload_ok (pc := 21) hx hb dX9_lookUp_21 hk) ?_
  refine rz_All_c (i := 13) (fun k J hk hJ => rz_sipush_ok (pc := 23) hx hb dX9_lookUp_23 (by decide) hk) ?_
  refine rz_All_c (i := 14) (fun k J hk hJ => rz_icmpge_ok (pc := 26) hx hb dX9_lookUp_26 rfl hk (hJ 38)) ?_
  refine rz_All_c (i := 15) (fun k J hk hJ => rz_aload_n_ok (pc := 29) hx hb dX9_lookUp_29 rfl hk) ?_
  refine rz_All_c (i := 16) (fun k J hk hJ => rz_getf_ok (pc := 30) (own := RX9) (ref := "ThreadJudge$Reader") (C := RX9) (T := TX9) (N := 19) (ci := 11) (index := 19) (f := 5) (t := 2) (Ts := Cond.code yX9_lookUp cX9_lookUp 6 (some .int) :: rz_TB) hx hb hts rz_in11 ho hK rfl (by decide) rfl (fun _ => rfl) (hw (i := 2) (j := 13) rfl rfl) (fun _ z => z) dX9_lookUp_30 hk) ?_
  refine rz_All_c (i := 17) (fun k J hk hJ => rz_iload_ok (pc := 33) hx hb dX9_lookUp_33 hk) ?_
  refine rz_All_c (i := 18) (fun k J hk hJ => rz_iald_ok (pc := 35) hx hb hK dX9_lookUp_35 hk) ?_
  refine rz_All_c (i := 19) (fun k J hk hJ => rz_iload_n_ok (pc := 36) hx hb dX9_lookUp_36 rfl hk) ?_
  refine rz_All_c (i := 20) (fun k J hk hJ => rz_iload_n_ok (pc := 37) hx hb dX9_lookUp_37 rfl hk) ?_
  refine rz_All_c (i := 21) (fun k J hk hJ => rz_isub_ok (pc := 38) hx hb dX9_lookUp_38 hk) ?_
  refine rz_All_c (i := 22) (fun k J hk hJ => rz_icmpne_ok (pc := 39) hx hb dX9_lookUp_39 rfl hk (hJ 31)) ?_
  refine rz_All_c (i := 23) (fun k J hk hJ => rz_aload_n_ok (pc := 42) hx hb dX9_lookUp_42 rfl hk) ?_
  refine rz_All_c (i := 24) (fun k J hk hJ => rz_iload_ok (pc := 43) hx hb dX9_lookUp_43 hk) ?_
  refine rz_All_c (i := 25) (fun k J hk hJ => rz_aload_n_ok (pc := 45) hx hb dX9_lookUp_45 rfl hk) ?_
  refine rz_All_c (i := 26) (fun k J hk hJ => rz_iload_n_ok (pc := 46) hx hb dX9_lookUp_46 rfl hk) ?_
  refine rz_All_c (i := 27) (fun k J hk hJ => rz_callV_ok (pc := 47) (own := RX9) (C := RX9) (T0 := TX9) (N0 := 19) hC rfl (rmX9_alike l hG) (rz_cwV 3 hC rz_good (rz_mem (i := 3) (j := 3) rfl rfl) (rz_mem (i := 3) (j := 4) rfl rfl) (rz_mem (i := 3) (j := 5) rfl rfl) (rz_mem (i := 1) (j := 21) rfl rfl) (rz_mem (i := 3) (j := 6) rfl rfl) ⟨rfl, by decide, by decide, by decide +kernel⟩ rfl rfl ⟨by decide, by decide⟩) rfl dX9_lookUp_47 hk) ?_
  refine rz_All_c (i := 28) (fun k J hk hJ => rz_ifeq_ok (pc := 50) hx hb dX9_lookUp_50 rfl hk (hJ 31)) ?_
  refine rz_All_c (i := 29) (fun k J hk hJ => rz_iload_ok (pc := 53) hx hb dX9_lookUp_53 hk) ?_
  refine rz_All_c (i := 30) (fun k J hk hJ => rz_iret_ok (pc := 55) hC dX9_lookUp_55) ?_
  refine rz_All_c (i := 31) (fun k J hk hJ => rz_aload_n_ok (pc := 56) hx hb dX9_lookUp_56 rfl hk) ?_
  refine rz_All_c (i := 32) (fun k J hk hJ => rz_getf_ok (pc := 57) (own := RX9) (ref := "ThreadJudge$Reader") (C := RX9) (T := TX9) (N := 19) (ci := 11) (index := 22) (f := 6) (t := 2) (Ts := Cond.code yX9_lookUp cX9_lookUp 6 (some .int) :: rz_TB) hx hb hts rz_in11 ho hK rfl (by decide) rfl (fun _ => rfl) (hw (i := 2) (j := 19) rfl rfl) (fun _ z => z) dX9_lookUp_57 hk) ?_
  refine rz_All_c (i := 33) (fun k J hk hJ => rz_iload_ok (pc := 60) hx hb dX9_lookUp_60 hk) ?_
  refine rz_All_c (i := 34) (fun k J hk hJ => rz_iald_ok (pc := 62) hx hb hK dX9_lookUp_62 hk) ?_
  refine rz_All_c (i := 35) (fun k J hk hJ => rz_istore_ok (pc := 63) hx hb dX9_lookUp_63 hk) ?_
  refine rz_All_c (i := 36) (fun k J hk hJ => rz_iinc_ok (pc := 65) hx hb dX9_lookUp_65 (by decide) hk) ?_
  refine rz_All_c (i := 37) (fun k J hk hJ => rz_goto_ok (pc := 68) hx hb dX9_lookUp_68 rfl (hJ 10)) ?_
  refine rz_All_c (i := 38) (fun k J hk hJ => rz_iconst_ok (pc := 71) hx hb dX9_lookUp_71 rfl hk) ?_
  refine rz_All_c (i := 39) (fun k J hk hJ => rz_iret_ok (pc := 72) hC dX9_lookUp_72) ?_
  exact trivial
theorem dX9_intern_0 : decode cX9_intern 0 = .ok (.aload_n 0, 1) := by decide +kernel
theorem dX9_intern_1 : decode cX9_intern 1 = .ok (.aload_n 1, 1) := by decide +kernel
theorem dX9_intern_2 : decode cX9_intern 2 = .ok (.iload_n 2, 1) := by decide +kernel
theorem dX9_intern_3 : decode cX9_intern 3 = .ok (.iload_n 3, 1) := by decide +kernel
theorem dX9_intern_4 : decode cX9_intern 4 = .ok (.invokevirtual 113, 3) := by decide +kernel
theorem dX9_intern_7 : decode cX9_intern 7 = .ok (.istore 4, 2) := by decide +kernel
theorem dX9_intern_9 : decode cX9_intern 9 = .ok (.aload_n 0, 1) := by decide +kernel
theorem dX9_intern_10 : decode cX9_intern 10 = .ok (.getfield 93, 3) := by decide +kernel
theorem dX9_intern_13 : decode cX9_intern 13 = .ok (.ifCond .ne 7, 3) := by decide +kernel
theorem dX9_intern_16 : decode cX9_intern 16 = .ok (.iconst 0, 1) := by decide +kernel
theorem dX9_intern_17 : decode cX9_intern 17 = .ok (.goto 26, 3) := by decide +kernel
theorem dX9_intern_20 : decode cX9_intern 20 = .ok (.aload_n 0, 1) := by decide +kernel
theorem dX9_intern_21 : decode cX9_intern 21 = .ok (.getfield 15, 3) := by decide +kernel
theorem dX9_intern_24 : decode cX9_intern 24 = .ok (.aload_n 0, 1) := by decide +kernel
theorem dX9_intern_25 : decode cX9_intern 25 = .ok (.getfield 93, 3) := by decide +kernel
theorem dX9_intern_28 : decode cX9_intern 28 = .ok (.iconst 1, 1) := by decide +kernel
theorem dX9_intern_29 : decode cX9_intern 29 = .ok (.isub, 1) := by decide +kernel
theorem dX9_intern_30 : decode cX9_intern 30 = .ok (.iaload, 1) := by decide +kernel
theorem dX9_intern_31 : decode cX9_intern 31 = .ok (.aload_n 0, 1) := by decide +kernel
theorem dX9_intern_32 : decode cX9_intern 32 = .ok (.getfield 19, 3) := by decide +kernel
theorem dX9_intern_35 : decode cX9_intern 35 = .ok (.aload_n 0, 1) := by decide +kernel
theorem dX9_intern_36 : decode cX9_intern 36 = .ok (.getfield 93, 3) := by decide +kernel
theorem dX9_intern_39 : decode cX9_intern 39 = .ok (.iconst 1, 1) := by decide +kernel
theorem dX9_intern_40 : decode cX9_intern 40 = .ok (.isub, 1) := by decide +kernel
theorem dX9_intern_41 : decode cX9_intern 41 = .ok (.iaload, 1) := by decide +kernel
theorem dX9_intern_42 : decode cX9_intern 42 = .ok (.iadd, 1) := by decide +kernel
theorem dX9_intern_43 : decode cX9_intern 43 = .ok (.istore 5, 2) := by decide +kernel
theorem dX9_intern_45 : decode cX9_intern 45 = .ok (.iload 4, 2) := by decide +kernel
theorem dX9_intern_47 : decode cX9_intern 47 = .ok (.ifCond .ge 25, 3) := by decide +kernel
theorem dX9_intern_50 : decode cX9_intern 50 = .ok (.aload_n 0, 1) := by decide +kernel
theorem dX9_intern_51 : decode cX9_intern 51 = .ok (.getfield 93, 3) := by decide +kernel
theorem dX9_intern_54 : decode cX9_intern 54 = .ok (.sipush 6400, 3) := by decide +kernel
theorem dX9_intern_57 : decode cX9_intern 57 = .ok (.if_icmp .ge 15, 3) := by decide +kernel
theorem dX9_intern_60 : decode cX9_intern 60 = .ok (.iload 5, 2) := by decide +kernel
theorem dX9_intern_62 : decode cX9_intern 62 = .ok (.iload_n 3, 1) := by decide +kernel
theorem dX9_intern_63 : decode cX9_intern 63 = .ok (.iadd, 1) := by decide +kernel
theorem dX9_intern_64 : decode cX9_intern 64 = .ok (.iload_n 2, 1) := by decide +kernel
theorem dX9_intern_65 : decode cX9_intern 65 = .ok (.isub, 1) := by decide +kernel
theorem dX9_intern_66 : decode cX9_intern 66 = .ok (.sipush 16000, 3) := by decide +kernel
theorem dX9_intern_69 : decode cX9_intern 69 = .ok (.if_icmp .le 6, 3) := by decide +kernel
theorem dX9_intern_72 : decode cX9_intern 72 = .ok (.iload 4, 2) := by decide +kernel
theorem dX9_intern_74 : decode cX9_intern 74 = .ok (.ireturn, 1) := by decide +kernel
theorem dX9_intern_75 : decode cX9_intern 75 = .ok (.aload_n 0, 1) := by decide +kernel
theorem dX9_intern_76 : decode cX9_intern 76 = .ok (.dup, 1) := by decide +kernel
theorem dX9_intern_77 : decode cX9_intern 77 = .ok (.getfield 93, 3) := by decide +kernel
theorem dX9_intern_80 : decode cX9_intern 80 = .ok (.dup_x1, 1) := by decide +kernel
theorem dX9_intern_81 : decode cX9_intern 81 = .ok (.iconst 1, 1) := by decide +kernel
theorem dX9_intern_82 : decode cX9_intern 82 = .ok (.iadd, 1) := by decide +kernel
theorem dX9_intern_83 : decode cX9_intern 83 = .ok (.putfield 93, 3) := by decide +kernel
theorem dX9_intern_86 : decode cX9_intern 86 = .ok (.istore 4, 2) := by decide +kernel
theorem dX9_intern_88 : decode cX9_intern 88 = .ok (.aload_n 0, 1) := by decide +kernel
theorem dX9_intern_89 : decode cX9_intern 89 = .ok (.getfield 15, 3) := by decide +kernel
theorem dX9_intern_92 : decode cX9_intern 92 = .ok (.iload 4, 2) := by decide +kernel
theorem dX9_intern_94 : decode cX9_intern 94 = .ok (.iload 5, 2) := by decide +kernel
theorem dX9_intern_96 : decode cX9_intern 96 = .ok (.iastore, 1) := by decide +kernel
theorem dX9_intern_97 : decode cX9_intern 97 = .ok (.aload_n 0, 1) := by decide +kernel
theorem dX9_intern_98 : decode cX9_intern 98 = .ok (.getfield 19, 3) := by decide +kernel
theorem dX9_intern_101 : decode cX9_intern 101 = .ok (.iload 4, 2) := by decide +kernel
theorem dX9_intern_103 : decode cX9_intern 103 = .ok (.iload_n 3, 1) := by decide +kernel
theorem dX9_intern_104 : decode cX9_intern 104 = .ok (.iload_n 2, 1) := by decide +kernel
theorem dX9_intern_105 : decode cX9_intern 105 = .ok (.isub, 1) := by decide +kernel
theorem dX9_intern_106 : decode cX9_intern 106 = .ok (.iastore, 1) := by decide +kernel
theorem dX9_intern_107 : decode cX9_intern 107 = .ok (.aload_n 1, 1) := by decide +kernel
theorem dX9_intern_108 : decode cX9_intern 108 = .ok (.iload_n 2, 1) := by decide +kernel
theorem dX9_intern_109 : decode cX9_intern 109 = .ok (.aload_n 0, 1) := by decide +kernel
theorem dX9_intern_110 : decode cX9_intern 110 = .ok (.getfield 11, 3) := by decide +kernel
theorem dX9_intern_113 : decode cX9_intern 113 = .ok (.iload 5, 2) := by decide +kernel
theorem dX9_intern_115 : decode cX9_intern 115 = .ok (.iload_n 3, 1) := by decide +kernel
theorem dX9_intern_116 : decode cX9_intern 116 = .ok (.iload_n 2, 1) := by decide +kernel
theorem dX9_intern_117 : decode cX9_intern 117 = .ok (.isub, 1) := by decide +kernel
theorem dX9_intern_118 : decode cX9_intern 118 = .ok (.invokestatic 116, 3) := by decide +kernel
theorem dX9_intern_121 : decode cX9_intern 121 = .ok (.aload_n 1, 1) := by decide +kernel
theorem dX9_intern_122 : decode cX9_intern 122 = .ok (.iload_n 2, 1) := by decide +kernel
theorem dX9_intern_123 : decode cX9_intern 123 = .ok (.iload_n 3, 1) := by decide +kernel
theorem dX9_intern_124 : decode cX9_intern 124 = .ok (.invokestatic 106, 3) := by decide +kernel
theorem dX9_intern_127 : decode cX9_intern 127 = .ok (.istore 6, 2) := by decide +kernel
theorem dX9_intern_129 : decode cX9_intern 129 = .ok (.aload_n 0, 1) := by decide +kernel
theorem dX9_intern_130 : decode cX9_intern 130 = .ok (.getfield 22, 3) := by decide +kernel
theorem dX9_intern_133 : decode cX9_intern 133 = .ok (.iload 4, 2) := by decide +kernel
theorem dX9_intern_135 : decode cX9_intern 135 = .ok (.aload_n 0, 1) := by decide +kernel
theorem dX9_intern_136 : decode cX9_intern 136 = .ok (.getfield 25, 3) := by decide +kernel
theorem dX9_intern_139 : decode cX9_intern 139 = .ok (.iload 6, 2) := by decide +kernel
theorem dX9_intern_141 : decode cX9_intern 141 = .ok (.iaload, 1) := by decide +kernel
theorem dX9_intern_142 : decode cX9_intern 142 = .ok (.iastore, 1) := by decide +kernel
theorem dX9_intern_143 : decode cX9_intern 143 = .ok (.aload_n 0, 1) := by decide +kernel
theorem dX9_intern_144 : decode cX9_intern 144 = .ok (.getfield 25, 3) := by decide +kernel
theorem dX9_intern_147 : decode cX9_intern 147 = .ok (.iload 6, 2) := by decide +kernel
theorem dX9_intern_149 : decode cX9_intern 149 = .ok (.iload 4, 2) := by decide +kernel
theorem dX9_intern_151 : decode cX9_intern 151 = .ok (.iastore, 1) := by decide +kernel
theorem dX9_intern_152 : decode cX9_intern 152 = .ok (.iload 4, 2) := by decide +kernel
theorem dX9_intern_154 : decode cX9_intern 154 = .ok (.ireturn, 1) := by decide +kernel
def rpX9_intern : List Nat := [0, 1, 2, 3, 4, 7, 9, 10, 13, 16, 17, 20, 21, 24, 25, 28, 29, 30, 31, 32, 35, 36, 39, 40, 41, 42, 43, 45, 47, 50, 51, 54, 57, 60, 62, 63, 64, 65, 66, 69, 72, 74, 75, 76, 77, 80, 81, 82, 83, 86, 88, 89, 92, 94, 96, 97, 98, 101, 103, 104, 105, 106, 107, 108, 109, 110, 113, 115, 116, 117, 118, 121, 122, 123, 124, 127, 129, 130, 133, 135, 136, 139, 141, 142, 143, 144, 147, 149, 151, 152, 154]
noncomputable def rcX9_intern : List rz_B := [rz_aload 0, rz_aload 1, rz_iload 2, rz_iload 3, rz_callV 3 (Nat.add (Nat.mul 256 11) 1) rgX9_lookUp, rz_istore 4, rz_aload 0, rz_getf (Nat.add (Nat.mul 256 11) 1) 8 rz_i, rz_ifne 11, rz_cst 0, rz_goto 26, rz_aload 0, rz_getf (Nat.add (Nat.mul 256 11) 1) 4 rz_r, rz_aload 0, rz_getf (Nat.add (Nat.mul 256 11) 1) 8 rz_i, rz_cst 1, rz_isub, rz_iald, rz_aload 0, rz_getf (Nat.add (Nat.mul 256 11) 1) 5 rz_r, rz_aload 0, rz_getf (Nat.add (Nat.mul 256 11) 1) 8 rz_i, rz_cst 1, rz_isub, rz_iald, rz_iadd, rz_istore 5, rz_iload 4, rz_ifge 40, rz_aload 0, rz_getf (Nat.add (Nat.mul 256 11) 1) 8 rz_i, rz_cst 6400, rz_icmpge 40, rz_iload 5, rz_iload 3, rz_iadd, rz_iload 2, rz_isub, rz_cst 16000, rz_icmple 42, rz_iload 4, rz_iret, rz_aload 0, rz_dup, rz_getf (Nat.add (Nat.mul 256 11) 1) 8 rz_i, rz_dup_x1, rz_cst 1, rz_iadd, rz_putf (Nat.add (Nat.mul 256 11) 1) 8 rz_unI, rz_istore 4, rz_aload 0, rz_getf (Nat.add (Nat.mul 256 11) 1) 4 rz_r, rz_iload 4, rz_iload 5, rz_iast, rz_aload 0, rz_getf (Nat.add (Nat.mul 256 11) 1) 5 rz_r, rz_iload 4, rz_iload 3, rz_iload 2, rz_isub, rz_iast, rz_aload 1, rz_iload 2, rz_aload 0, rz_getf (Nat.add (Nat.mul 256 11) 1) 3 rz_r, rz_iload 5, rz_iload 3, rz_iload 2, rz_isub, rz_acopy, rz_aload 1, rz_iload 2, rz_iload 3, rz_callS 3 rgX9_bucket, rz_istore 6, rz_aload 0, rz_getf (Nat.add (Nat.mul 256 11) 1) 6 rz_r, rz_iload 4, rz_aload 0, rz_getf (Nat.add (Nat.mul 256 11) 1) 7 rz_r, rz_iload 6, rz_iald, rz_iast, rz_aload 0, rz_getf (Nat.add (Nat.mul 256 11) 1) 7 rz_r, rz_iload 6, rz_iload 4, rz_iast, rz_iload 4, rz_iret]
noncomputable def rgX9_intern : rz_L → rz_M → rz_Z → Bool := rz_go rcX9_intern 7 1000000
def rrX9_intern : Room := { frames := 2, cells := 0, slots := 0, locals := 60 }
theorem rmX9_intern (l : Launch) {G : rz_G} (hG : rz_Gd G) (vs : rz_L) (M : rz_M) (Z : rz_Z) (hn : vs.length = 4) (h : rgX9_intern vs M Z = true) : Met l yX9_intern (Cond.code yX9_intern cX9_intern 7 (some .int) :: rz_TB) rrX9_intern (rz_Pre G vs M) (rz_Qi G M.2 Z) 0 0 (fun q => rz_b G ≤ q) := by
  obtain ⟨D, tc, ad, b, xs, rfl⟩ := id hG
  refine rz_body (pcs := rpX9_intern) (by decide) rfl (by rw [hn]; decide) h ?_
  intro p e R s m args below meth c hC
  obtain ⟨hx, hb, hml, hr, hlk, ho, hts, hKn, hRm⟩ := id hC
  obtain ⟨hK, hA, hSt⟩ := id hKn
  have hw : ∀ {i j : Nat} {ws : List Cond} {w : Cond}, rz_WW[i]? = some ws → ws[j]? = some w → w.before args s = true := fun h1 h2 => hts _ (List.mem_cons_of_mem _ (rz_mem h1 h2))
  refine rz_All_c (i := 0) (fun k J hk hJ => rz_aload_n_ok (pc := 0) hx hb dX9_intern_0 rfl hk) ?_
  refine rz_All_c (i := 1) (fun k J hk hJ => rz_aload_n_ok (pc := 1) hx hb dX9_intern_1 rfl hk) ?_
  refine rz_All_c (i := 2) (fun k J hk hJ => rz_iload_n_ok (pc := 2) hx hb dX9_intern_2 rfl hk) ?_
  refine rz_All_c (i := 3) (fun k J hk hJ => rz_iload_n_ok (pc := 3) hx hb dX9_intern_3 rfl hk) ?_
  refine rz_All_c (i := 4) (fun k J hk hJ => rz_callV_ok (pc := 4) (own := RX9) (C := RX9) (T0 := TX9) (N0 := 19) hC rfl (rmX9_lookUp l hG) (rz_cwV 3 hC rz_good (rz_mem (i := 2) (j := 20) rfl rfl) (rz_mem (i := 2) (j := 21) rfl rfl) (rz_mem (i := 2) (j := 22) rfl rfl) (rz_mem (i := 1) (j := 21) rfl rfl) (rz_mem (i := 2) (j := 23) rfl rfl) ⟨rfl, by decide, by decide, by decide +kernel⟩ rfl rfl ⟨by decide, by decide⟩) rfl dX9_intern_4 hk) ?_
  refine rz_All_c (i := 5) (fun k J hk hJ => rz_istore_ok (pc := 7) hx hb dX9_intern_7 hk) ?_
  refine rz_All_c (i := 6) (fun k J hk hJ => rz_aload_n_ok (pc := 9) hx hb dX9_intern_9 rfl hk) ?_
  refine rz_All_c (i := 7) (fun k J hk hJ => rz_getf_ok (pc := 10) (own := RX9) (ref := "ThreadJudge$Reader") (C := RX9) (T := TX9) (N := 19) (ci := 11) (index := 93) (f := 8) (t := 0) (Ts := Cond.code yX9_intern cX9_intern 7 (some .int) :: rz_TB) hx hb hts rz_in11 ho hK rfl (by decide) rfl (fun _ => rfl) (hw (i := 2) (j := 1) rfl rfl) (fun _ z => z) dX9_intern_10 hk) ?_
  refine rz_All_c (i := 8) (fun k J hk hJ => rz_ifne_ok (pc := 13) hx hb dX9_intern_13 rfl hk (hJ 11)) ?_
  refine rz_All_c (i := 9) (fun k J hk hJ => rz_iconst_ok (pc := 16) hx hb dX9_intern_16 rfl hk) ?_
  refine rz_All_c (i := 10) (fun k J hk hJ => rz_goto_ok (pc := 17) hx hb dX9_intern_17 rfl (hJ 26)) ?_
  refine rz_All_c (i := 11) (fun k J hk hJ => rz_aload_n_ok (pc := 20) hx hb dX9_intern_20 rfl hk) ?_
  refine rz_All_c (i := 12) (fun k J hk hJ => rz_getf_ok (pc := 21) (own := RX9) (ref := "ThreadJudge$Reader") (C := RX9) (T := TX9) (N := 19) (ci := 11) (index := 15) (f := 4) (t := 2) (Ts := Cond.code yX9_intern cX9_intern 7 (some .int) :: rz_TB) hx hb hts rz_in11 ho hK rfl (by decide) rfl (fun _ => rfl) (hw (i := 2) (j := 12) rfl rfl) (fun _ z => z) dX9_intern_21 hk) ?_
  refine rz_All_c (i := 13) (fun k J hk hJ => rz_aload_n_ok (pc := 24) hx hb dX9_intern_24 rfl hk) ?_
  refine rz_All_c (i := 14) (fun k J hk hJ => rz_getf_ok (pc := 25) (own := RX9) (ref := "ThreadJudge$Reader") (C := RX9) (T := TX9) (N := 19) (ci := 11) (index := 93) (f := 8) (t := 0) (Ts := Cond.code yX9_intern cX9_intern 7 (some .int) :: rz_TB) hx hb hts rz_in11 ho hK rfl (by decide) rfl (fun _ => rfl) (hw (i := 2) (j := 1) rfl rfl) (fun _ z => z) dX9_intern_25 hk) ?_
  refine rz_All_c (i := 15) (fun k J hk hJ => rz_iconst_ok (pc := 28) hx hb dX9_intern_28 rfl hk) ?_
  refine rz_All_c (i := 16) (fun k J hk hJ => rz_isub_ok (pc := 29) hx hb dX9_intern_29 hk) ?_
  refine rz_All_c (i := 17) (fun k J hk hJ => rz_iald_ok (pc := 30) hx hb hK dX9_intern_30 hk) ?_
  refine rz_All_c (i := 18) (fun k J hk hJ => rz_aload_n_ok (pc := 31) hx hb dX9_intern_31 rfl hk) ?_
  refine rz_All_c (i := 19) (fun k J hk hJ => rz_getf_ok (pc := 32) (own := RX9) (ref := "ThreadJudge$Reader") (C := RX9) (T := TX9) (N := 19) (ci := 11) (index := 19) (f := 5) (t := 2) (Ts := Cond.code yX9_intern cX9_intern 7 (some .int) :: rz_TB) hx hb hts rz_in11 ho hK rfl (by decide) rfl (fun _ => rfl) (hw (i := 2) (j := 13) rfl rfl) (fun _ z => z) dX9_intern_32 hk) ?_
  refine rz_All_c (i := 20) (fun k J hk hJ => rz_aload_n_ok (pc := 35) hx hb dX9_intern_35 rfl hk) ?_
  refine rz_All_c (i := 21) (fun k J hk hJ => rz_getf_ok (pc := 36) (own := RX9) (ref := "ThreadJudge$Reader") (C := RX9) (T := TX9) (N := 19) (ci := 11) (index := 93) (f := 8) (t := 0) (Ts := Cond.code yX9_intern cX9_intern 7 (some .int) :: rz_TB) hx hb hts rz_in11 ho hK rfl (by decide) rfl (fun _ => rfl) (hw (i := 2) (j := 1) rfl rfl) (fun _ z => z) dX9_intern_36 hk) ?_
  refine rz_All_c (i := 22) (fun k J hk hJ => rz_iconst_ok (pc := 39) hx hb dX9_intern_39 rfl hk) ?_
  refine rz_All_c (i := 23) (fun k J hk hJ => rz_isub_ok (pc := 40) hx hb dX9_intern_40 hk) ?_
  refine rz_All_c (i := 24) (fun k J hk hJ => rz_iald_ok (pc := 41) hx hb hK dX9_intern_41 hk) ?_
  refine rz_All_c (i := 25) (fun k J hk hJ => rz_iadd_ok (pc := 42) hx hb dX9_intern_42 hk) ?_
  refine rz_All_c (i := 26) (fun k J hk hJ => rz_istore_ok (pc := 43) hx hb dX9_intern_43 hk) ?_
  refine rz_All_c (i := 27) (fun k J hk hJ => rz_iload_ok (pc := 45) hx hb dX9_intern_45 hk) ?_
  refine rz_All_c (i := 28) (fun k J hk hJ => rz_ifge_ok (pc := 47) hx hb dX9_intern_47 rfl hk (hJ 40)) ?_
  refine rz_All_c (i := 29) (fun k J hk hJ => rz_aload_n_ok (pc := 50) hx hb dX9_intern_50 rfl hk) ?_
  refine rz_All_c (i := 30) (fun k J hk hJ => rz_getf_ok (pc := 51) (own := RX9) (ref := "ThreadJudge$Reader") (C := RX9) (T := TX9) (N := 19) (ci := 11) (index := 93) (f := 8) (t := 0) (Ts := Cond.code yX9_intern cX9_intern 7 (some .int) :: rz_TB) hx hb hts rz_in11 ho hK rfl (by decide) rfl (fun _ => rfl) (hw (i := 2) (j := 1) rfl rfl) (fun _ z => z) dX9_intern_51 hk) ?_
  refine rz_All_c (i := 31) (fun k J hk hJ => rz_sipush_ok (pc := 54) hx hb dX9_intern_54 (by decide) hk) ?_
  refine rz_All_c (i := 32) (fun k J hk hJ => rz_icmpge_ok (pc := 57) hx hb dX9_intern_57 rfl hk (hJ 40)) ?_
  refine rz_All_c (i := 33) (fun k J hk hJ => rz_iload_ok (pc := 60) hx hb dX9_intern_60 hk) ?_
  refine rz_All_c (i := 34) (fun k J hk hJ => rz_iload_n_ok (pc := 62) hx hb dX9_intern_62 rfl hk) ?_
  refine rz_All_c (i := 35) (fun k J hk hJ => rz_iadd_ok (pc := 63) hx hb dX9_intern_63 hk) ?_
  refine rz_All_c (i := 36) (fun k J hk hJ => rz_iload_n_ok (pc := 64) hx hb dX9_intern_64 rfl hk) ?_
  refine rz_All_c (i := 37) (fun k J hk hJ => rz_isub_ok (pc := 65) hx hb dX9_intern_65 hk) ?_
  refine rz_All_c (i := 38) (fun k J hk hJ => rz_sipush_ok (pc := 66) hx hb dX9_intern_66 (by decide) hk) ?_
  refine rz_All_c (i := 39) (fun k J hk hJ => rz_icmple_ok (pc := 69) hx hb dX9_intern_69 rfl hk (hJ 42)) ?_
  refine rz_All_c (i := 40) (fun k J hk hJ => rz_iload_ok (pc := 72) hx hb dX9_intern_72 hk) ?_
  refine rz_All_c (i := 41) (fun k J hk hJ => rz_iret_ok (pc := 74) hC dX9_intern_74) ?_
  refine rz_All_c (i := 42) (fun k J hk hJ => rz_aload_n_ok (pc := 75) hx hb dX9_intern_75 rfl hk) ?_
  refine rz_All_c (i := 43) (fun k J hk hJ => rz_dup_ok (pc := 76) hx hb dX9_intern_76 hk) ?_
  refine rz_All_c (i := 44) (fun k J hk hJ => rz_getf_ok (pc := 77) (own := RX9) (ref := "ThreadJudge$Reader") (C := RX9) (T := TX9) (N := 19) (ci := 11) (index := 93) (f := 8) (t := 0) (Ts := Cond.code yX9_intern cX9_intern 7 (some .int) :: rz_TB) hx hb hts rz_in11 ho hK rfl (by decide) rfl (fun _ => rfl) (hw (i := 2) (j := 1) rfl rfl) (fun _ z => z) dX9_intern_77 hk) ?_
  refine rz_All_c (i := 45) (fun k J hk hJ => rz_dup_x1_ok (pc := 80) hx hb dX9_intern_80 hk) ?_
  refine rz_All_c (i := 46) (fun k J hk hJ => rz_iconst_ok (pc := 81) hx hb dX9_intern_81 rfl hk) ?_
  refine rz_All_c (i := 47) (fun k J hk hJ => rz_iadd_ok (pc := 82) hx hb dX9_intern_82 hk) ?_
  refine rz_All_c (i := 48) (fun k J hk hJ => rz_putf_ok (pc := 83) (own := RX9) (ref := "ThreadJudge$Reader") (C := RX9) (T := TX9) (N := 19) (ci := 11) (index := 93) (f := 8) (t := 0) (Ts := Cond.code yX9_intern cX9_intern 7 (some .int) :: rz_TB) hx hb hts rz_in11 tyX9 tyX9_ok nmX9 ho hK hA rfl (by decide) rfl (rz_UnI _) rfl (tyX9_ok 8 (by decide)) (hw (i := 2) (j := 1) rfl rfl) (fun _ z => z) dX9_intern_83 hk) ?_
  refine rz_All_c (i := 49) (fun k J hk hJ => rz_istore_ok (pc := 86) hx hb dX9_intern_86 hk) ?_
  refine rz_All_c (i := 50) (fun k J hk hJ => rz_aload_n_ok (pc := 88) hx hb dX9_intern_88 rfl hk) ?_
  refine rz_All_c (i := 51) (fun k J hk hJ => rz_getf_ok (pc := 89) (own := RX9) (ref := "ThreadJudge$Reader") (C := RX9) (T := TX9) (N := 19) (ci := 11) (index := 15) (f := 4) (t := 2) (Ts := Cond.code yX9_intern cX9_intern 7 (some .int) :: rz_TB) hx hb hts rz_in11 ho hK rfl (by decide) rfl (fun _ => rfl) (hw (i := 2) (j := 12) rfl rfl) (fun _ z => z) dX9_intern_89 hk) ?_
  refine rz_All_c (i := 52) (fun k J hk hJ => rz_iload_ok (pc := 92) hx hb dX9_intern_92 hk) ?_
  refine rz_All_c (i := 53) (fun k J hk hJ => rz_iload_ok (pc := 94) hx hb dX9_intern_94 hk) ?_
  refine rz_All_c (i := 54) (fun k J hk hJ => rz_iast_ok (pc := 96) hx hb hK hA dX9_intern_96 hk) ?_
  refine rz_All_c (i := 55) (fun k J hk hJ => rz_aload_n_ok (pc := 97) hx hb dX9_intern_97 rfl hk) ?_
  refine rz_All_c (i := 56) (fun k J hk hJ => rz_getf_ok (pc := 98) (own := RX9) (ref := "ThreadJudge$Reader") (C := RX9) (T := TX9) (N := 19) (ci := 11) (index := 19) (f := 5) (t := 2) (Ts := Cond.code yX9_intern cX9_intern 7 (some .int) :: rz_TB) hx hb hts rz_in11 ho hK rfl (by decide) rfl (fun _ => rfl) (hw (i := 2) (j := 13) rfl rfl) (fun _ z => z) dX9_intern_98 hk) ?_
  refine rz_All_c (i := 57) (fun k J hk hJ => rz_iload_ok (pc := 101) hx hb dX9_intern_101 hk) ?_
  refine rz_All_c (i := 58) (fun k J hk hJ => rz_iload_n_ok (pc := 103) hx hb dX9_intern_103 rfl hk) ?_
  refine rz_All_c (i := 59) (fun k J hk hJ => rz_iload_n_ok (pc := 104) hx hb dX9_intern_104 rfl hk) ?_
  refine rz_All_c (i := 60) (fun k J hk hJ => rz_isub_ok (pc := 105) hx hb dX9_intern_105 hk) ?_
  refine rz_All_c (i := 61) (fun k J hk hJ => rz_iast_ok (pc := 106) hx hb hK hA dX9_intern_106 hk) ?_
  refine rz_All_c (i := 62) (fun k J hk hJ => rz_aload_n_ok (pc := 107) hx hb dX9_intern_107 rfl hk) ?_
  refine rz_All_c (i := 63) (fun k J hk hJ => rz_iload_n_ok (pc := 108) hx hb dX9_intern_108 rfl hk) ?_
  refine rz_All_c (i := 64) (fun k J hk hJ => rz_aload_n_ok (pc := 109) hx hb dX9_intern_109 rfl hk) ?_
  refine rz_All_c (i := 65) (fun k J hk hJ => rz_getf_ok (pc := 110) (own := RX9) (ref := "ThreadJudge$Reader") (C := RX9) (T := TX9) (N := 19) (ci := 11) (index := 11) (f := 3) (t := 2) (Ts := Cond.code yX9_intern cX9_intern 7 (some .int) :: rz_TB) hx hb hts rz_in11 ho hK rfl (by decide) rfl (fun _ => rfl) (hw (i := 2) (j := 14) rfl rfl) (fun _ z => z) dX9_intern_110 hk) ?_
  refine rz_All_c (i := 66) (fun k J hk hJ => rz_iload_ok (pc := 113) hx hb dX9_intern_113 hk) ?_
  refine rz_All_c (i := 67) (fun k J hk hJ => rz_iload_n_ok (pc := 115) hx hb dX9_intern_115 rfl hk) ?_
  refine rz_All_c (i := 68) (fun k J hk hJ => rz_iload_n_ok (pc := 116) hx hb dX9_intern_116 rfl hk) ?_
  refine rz_All_c (i := 69) (fun k J hk hJ => rz_isub_ok (pc := 117) hx hb dX9_intern_117 hk) ?_
  refine rz_All_c (i := 70) (fun k J hk hJ => rz_acopy_ok (pc := 118) (own := RX9) hx hb hml hK hA ho (hw (i := 2) (j := 15) rfl rfl) (hw (i := 2) (j := 16) rfl rfl) (hw (i := 2) (j := 17) rfl rfl) (hw (i := 2) (j := 18) rfl rfl) (by rw [hRm]; decide) (by rw [hRm]; decide) dX9_intern_118 hk) ?_
  refine rz_All_c (i := 71) (fun k J hk hJ => rz_aload_n_ok (pc := 121) hx hb dX9_intern_121 rfl hk) ?_
  refine rz_All_c (i := 72) (fun k J hk hJ => rz_iload_n_ok (pc := 122) hx hb dX9_intern_122 rfl hk) ?_
  refine rz_All_c (i := 73) (fun k J hk hJ => rz_iload_n_ok (pc := 123) hx hb dX9_intern_123 rfl hk) ?_
  refine rz_All_c (i := 74) (fun k J hk hJ => rz_callS_ok (pc := 124) (own := RX9) hC rfl (rmX9_bucket l hG) (rz_cwS 3 hC rz_good (rz_mem (i := 3) (j := 0) rfl rfl) (rz_mem (i := 3) (j := 1) rfl rfl) (rz_mem (i := 1) (j := 21) rfl rfl) (rz_mem (i := 3) (j := 2) rfl rfl) ⟨rfl, by decide, by decide, by decide +kernel⟩ rfl rfl ⟨by decide, by decide⟩) dX9_intern_124 hk) ?_
  refine rz_All_c (i := 75) (fun k J hk hJ => rz_istore_ok (pc := 127) hx hb dX9_intern_127 hk) ?_
  refine rz_All_c (i := 76) (fun k J hk hJ => rz_aload_n_ok (pc := 129) hx hb dX9_intern_129 rfl hk) ?_
  refine rz_All_c (i := 77) (fun k J hk hJ => rz_getf_ok (pc := 130) (own := RX9) (ref := "ThreadJudge$Reader") (C := RX9) (T := TX9) (N := 19) (ci := 11) (index := 22) (f := 6) (t := 2) (Ts := Cond.code yX9_intern cX9_intern 7 (some .int) :: rz_TB) hx hb hts rz_in11 ho hK rfl (by decide) rfl (fun _ => rfl) (hw (i := 2) (j := 19) rfl rfl) (fun _ z => z) dX9_intern_130 hk) ?_
  refine rz_All_c (i := 78) (fun k J hk hJ => rz_iload_ok (pc := 133) hx hb dX9_intern_133 hk) ?_
  refine rz_All_c (i := 79) (fun k J hk hJ => rz_aload_n_ok (pc := 135) hx hb dX9_intern_135 rfl hk) ?_
  refine rz_All_c (i := 80) (fun k J hk hJ => rz_getf_ok (pc := 136) (own := RX9) (ref := "ThreadJudge$Reader") (C := RX9) (T := TX9) (N := 19) (ci := 11) (index := 25) (f := 7) (t := 2) (Ts := Cond.code yX9_intern cX9_intern 7 (some .int) :: rz_TB) hx hb hts rz_in11 ho hK rfl (by decide) rfl (fun _ => rfl) (hw (i := 2) (j := 2) rfl rfl) (fun _ z => z) dX9_intern_136 hk) ?_
  refine rz_All_c (i := 81) (fun k J hk hJ => rz_iload_ok (pc := 139) hx hb dX9_intern_139 hk) ?_
  refine rz_All_c (i := 82) (fun k J hk hJ => rz_iald_ok (pc := 141) hx hb hK dX9_intern_141 hk) ?_
  refine rz_All_c (i := 83) (fun k J hk hJ => rz_iast_ok (pc := 142) hx hb hK hA dX9_intern_142 hk) ?_
  refine rz_All_c (i := 84) (fun k J hk hJ => rz_aload_n_ok (pc := 143) hx hb dX9_intern_143 rfl hk) ?_
  refine rz_All_c (i := 85) (fun k J hk hJ => rz_getf_ok (pc := 144) (own := RX9) (ref := "ThreadJudge$Reader") (C := RX9) (T := TX9) (N := 19) (ci := 11) (index := 25) (f := 7) (t := 2) (Ts := Cond.code yX9_intern cX9_intern 7 (some .int) :: rz_TB) hx hb hts rz_in11 ho hK rfl (by decide) rfl (fun _ => rfl) (hw (i := 2) (j := 2) rfl rfl) (fun _ z => z) dX9_intern_144 hk) ?_
  refine rz_All_c (i := 86) (fun k J hk hJ => rz_iload_ok (pc := 147) hx hb dX9_intern_147 hk) ?_
  refine rz_All_c (i := 87) (fun k J hk hJ => rz_iload_ok (pc := 149) hx hb dX9_intern_149 hk) ?_
  refine rz_All_c (i := 88) (fun k J hk hJ => rz_iast_ok (pc := 151) hx hb hK hA dX9_intern_151 hk) ?_
  refine rz_All_c (i := 89) (fun k J hk hJ => rz_iload_ok (pc := 152) hx hb dX9_intern_152 hk) ?_
  refine rz_All_c (i := 90) (fun k J hk hJ => rz_iret_ok (pc := 154) hC dX9_intern_154) ?_
  exact trivial
theorem dJ7_fill_53178_0 : decode cJ7_fill_53178 0 = .ok (.iconst 0, 1) := by decide +kernel
theorem dJ7_fill_53178_1 : decode cJ7_fill_53178 1 = .ok (.istore_n 2, 1) := by decide +kernel
theorem dJ7_fill_53178_2 : decode cJ7_fill_53178 2 = .ok (.aload_n 0, 1) := by decide +kernel
theorem dJ7_fill_53178_3 : decode cJ7_fill_53178 3 = .ok (.arraylength, 1) := by decide +kernel
theorem dJ7_fill_53178_4 : decode cJ7_fill_53178 4 = .ok (.istore_n 3, 1) := by decide +kernel
theorem dJ7_fill_53178_5 : decode cJ7_fill_53178 5 = .ok (.iload_n 2, 1) := by decide +kernel
theorem dJ7_fill_53178_6 : decode cJ7_fill_53178 6 = .ok (.iload_n 3, 1) := by decide +kernel
theorem dJ7_fill_53178_7 : decode cJ7_fill_53178 7 = .ok (.if_icmp .ge 13, 3) := by decide +kernel
theorem dJ7_fill_53178_10 : decode cJ7_fill_53178 10 = .ok (.aload_n 0, 1) := by decide +kernel
theorem dJ7_fill_53178_11 : decode cJ7_fill_53178 11 = .ok (.iload_n 2, 1) := by decide +kernel
theorem dJ7_fill_53178_12 : decode cJ7_fill_53178 12 = .ok (.iload_n 1, 1) := by decide +kernel
theorem dJ7_fill_53178_13 : decode cJ7_fill_53178 13 = .ok (.iastore, 1) := by decide +kernel
theorem dJ7_fill_53178_14 : decode cJ7_fill_53178 14 = .ok (.iinc 2 1, 3) := by decide +kernel
theorem dJ7_fill_53178_17 : decode cJ7_fill_53178 17 = .ok (.goto (-12), 3) := by decide +kernel
theorem dJ7_fill_53178_20 : decode cJ7_fill_53178 20 = .ok (.return_, 1) := by decide +kernel
def rpJ7_fill_53178 : List Nat := [0, 1, 2, 3, 4, 5, 6, 7, 10, 11, 12, 13, 14, 17, 20]
noncomputable def rcJ7_fill_53178 : List rz_B := [rz_cst 0, rz_istore 2, rz_aload 0, rz_alen, rz_istore 3, rz_iload 2, rz_iload 3, rz_icmpge 14, rz_aload 0, rz_iload 2, rz_iload 1, rz_iast, rz_iinc 2 1, rz_goto 5, rz_vret]
noncomputable def rgJ7_fill_53178 : rz_L → rz_M → rz_Z → Bool := rz_go rcJ7_fill_53178 4 1000000
def rrJ7_fill_53178 : Room := { frames := 0, cells := 0, slots := 0, locals := 0 }
theorem rmJ7_fill_53178 (l : Launch) {G : rz_G} (hG : rz_Gd G) (vs : rz_L) (M : rz_M) (Z : rz_Z) (hn : vs.length = 2) (h : rgJ7_fill_53178 vs M Z = true) : Met l yJ7_fill_53178 (Cond.code yJ7_fill_53178 cJ7_fill_53178 4 none :: rz_TB) rrJ7_fill_53178 (rz_Pre G vs M) (rz_Qv G M.2 Z) 0 0 (fun q => rz_b G ≤ q) := by
  obtain ⟨D, tc, ad, b, xs, rfl⟩ := id hG
  refine rz_body (pcs := rpJ7_fill_53178) (by decide) rfl (by rw [hn]; decide) h ?_
  intro p e R s m args below meth c hC
  obtain ⟨hx, hb, hml, hr, hlk, ho, hts, hKn, hRm⟩ := id hC
  obtain ⟨hK, hA, hSt⟩ := id hKn
  have hw : ∀ {i j : Nat} {ws : List Cond} {w : Cond}, rz_WW[i]? = some ws → ws[j]? = some w → w.before args s = true := fun h1 h2 => hts _ (List.mem_cons_of_mem _ (rz_mem h1 h2))
  refine rz_All_c (i := 0) (fun k J hk hJ => rz_iconst_ok (pc := 0) hx hb dJ7_fill_53178_0 rfl hk) ?_
  refine rz_All_c (i := 1) (fun k J hk hJ => rz_istore_n_ok (pc := 1) hx hb dJ7_fill_53178_1 rfl hk) ?_
  refine rz_All_c (i := 2) (fun k J hk hJ => rz_aload_n_ok (pc := 2) hx hb dJ7_fill_53178_2 rfl hk) ?_
  refine rz_All_c (i := 3) (fun k J hk hJ => rz_alen_ok (pc := 3) hx hb hK dJ7_fill_53178_3 hk) ?_
  refine rz_All_c (i := 4) (fun k J hk hJ => rz_istore_n_ok (pc := 4) hx hb dJ7_fill_53178_4 rfl hk) ?_
  refine rz_All_c (i := 5) (fun k J hk hJ => rz_iload_n_ok (pc := 5) hx hb dJ7_fill_53178_5 rfl hk) ?_
  refine rz_All_c (i := 6) (fun k J hk hJ => rz_iload_n_ok (pc := 6) hx hb dJ7_fill_53178_6 rfl hk) ?_
  refine rz_All_c (i := 7) (fun k J hk hJ => rz_icmpge_ok (pc := 7) hx hb dJ7_fill_53178_7 rfl hk (hJ 14)) ?_
  refine rz_All_c (i := 8) (fun k J hk hJ => rz_aload_n_ok (pc := 10) hx hb dJ7_fill_53178_10 rfl hk) ?_
  refine rz_All_c (i := 9) (fun k J hk hJ => rz_iload_n_ok (pc := 11) hx hb dJ7_fill_53178_11 rfl hk) ?_
  refine rz_All_c (i := 10) (fun k J hk hJ => rz_iload_n_ok (pc := 12) hx hb dJ7_fill_53178_12 rfl hk) ?_
  refine rz_All_c (i := 11) (fun k J hk hJ => rz_iast_ok (pc := 13) hx hb hK hA dJ7_fill_53178_13 hk) ?_
  refine rz_All_c (i := 12) (fun k J hk hJ => rz_iinc_ok (pc := 14) hx hb dJ7_fill_53178_14 (by decide) hk) ?_
  refine rz_All_c (i := 13) (fun k J hk hJ => rz_goto_ok (pc := 17) hx hb dJ7_fill_53178_17 rfl (hJ 5)) ?_
  refine rz_All_c (i := 14) (fun k J hk hJ => rz_vret_ok (pc := 20) hC dJ7_fill_53178_20) ?_
  exact trivial
theorem dX9_open_0 : decode cX9_open 0 = .ok (.aload_n 0, 1) := by decide +kernel
theorem dX9_open_1 : decode cX9_open 1 = .ok (.iconst 0, 1) := by decide +kernel
theorem dX9_open_2 : decode cX9_open 2 = .ok (.putfield 86, 3) := by decide +kernel
theorem dX9_open_5 : decode cX9_open 5 = .ok (.aload_n 0, 1) := by decide +kernel
theorem dX9_open_6 : decode cX9_open 6 = .ok (.iconst (-1), 1) := by decide +kernel
theorem dX9_open_7 : decode cX9_open 7 = .ok (.putfield 90, 3) := by decide +kernel
theorem dX9_open_10 : decode cX9_open 10 = .ok (.aload_n 0, 1) := by decide +kernel
theorem dX9_open_11 : decode cX9_open 11 = .ok (.iconst 0, 1) := by decide +kernel
theorem dX9_open_12 : decode cX9_open 12 = .ok (.putfield 93, 3) := by decide +kernel
theorem dX9_open_15 : decode cX9_open 15 = .ok (.aload_n 0, 1) := by decide +kernel
theorem dX9_open_16 : decode cX9_open 16 = .ok (.getfield 25, 3) := by decide +kernel
theorem dX9_open_19 : decode cX9_open 19 = .ok (.iconst (-1), 1) := by decide +kernel
theorem dX9_open_20 : decode cX9_open 20 = .ok (.invokestatic 96, 3) := by decide +kernel
theorem dX9_open_23 : decode cX9_open 23 = .ok (.iconst 0, 1) := by decide +kernel
theorem dX9_open_24 : decode cX9_open 24 = .ok (.istore_n 1, 1) := by decide +kernel
theorem dX9_open_25 : decode cX9_open 25 = .ok (.iconst 0, 1) := by decide +kernel
theorem dX9_open_26 : decode cX9_open 26 = .ok (.istore_n 2, 1) := by decide +kernel
theorem dX9_open_27 : decode cX9_open 27 = .ok (.iload_n 1, 1) := by decide +kernel
theorem dX9_open_28 : decode cX9_open 28 = .ok (.aload_n 0, 1) := by decide +kernel
theorem dX9_open_29 : decode cX9_open 29 = .ok (.getfield 67, 3) := by decide +kernel
theorem dX9_open_32 : decode cX9_open 32 = .ok (.arraylength, 1) := by decide +kernel
theorem dX9_open_33 : decode cX9_open 33 = .ok (.if_icmp .ge 35, 3) := by decide +kernel
theorem dX9_open_36 : decode cX9_open 36 = .ok (.aload_n 0, 1) := by decide +kernel
theorem dX9_open_37 : decode cX9_open 37 = .ok (.getfield 67, 3) := by decide +kernel
theorem dX9_open_40 : decode cX9_open 40 = .ok (.iload_n 1, 1) := by decide +kernel
theorem dX9_open_41 : decode cX9_open 41 = .ok (.caload, 1) := by decide +kernel
theorem dX9_open_42 : decode cX9_open 42 = .ok (.bipush 32, 2) := by decide +kernel
theorem dX9_open_44 : decode cX9_open 44 = .ok (.if_icmp .ne 18, 3) := by decide +kernel
theorem dX9_open_47 : decode cX9_open 47 = .ok (.aload_n 0, 1) := by decide +kernel
theorem dX9_open_48 : decode cX9_open 48 = .ok (.aload_n 0, 1) := by decide +kernel
theorem dX9_open_49 : decode cX9_open 49 = .ok (.getfield 67, 3) := by decide +kernel
theorem dX9_open_52 : decode cX9_open 52 = .ok (.iload_n 2, 1) := by decide +kernel
theorem dX9_open_53 : decode cX9_open 53 = .ok (.iload_n 1, 1) := by decide +kernel
theorem dX9_open_54 : decode cX9_open 54 = .ok (.invokevirtual 102, 3) := by decide +kernel
theorem dX9_open_57 : decode cX9_open 57 = .ok (.pop, 1) := by decide +kernel
theorem dX9_open_58 : decode cX9_open 58 = .ok (.iload_n 1, 1) := by decide +kernel
theorem dX9_open_59 : decode cX9_open 59 = .ok (.iconst 1, 1) := by decide +kernel
theorem dX9_open_60 : decode cX9_open 60 = .ok (.iadd, 1) := by decide +kernel
theorem dX9_open_61 : decode cX9_open 61 = .ok (.istore_n 2, 1) := by decide +kernel
theorem dX9_open_62 : decode cX9_open 62 = .ok (.iinc 1 1, 3) := by decide +kernel
theorem dX9_open_65 : decode cX9_open 65 = .ok (.goto (-38), 3) := by decide +kernel
theorem dX9_open_68 : decode cX9_open 68 = .ok (.return_, 1) := by decide +kernel
def rpX9_open : List Nat := [0, 1, 2, 5, 6, 7, 10, 11, 12, 15, 16, 19, 20, 23, 24, 25, 26, 27, 28, 29, 32, 33, 36, 37, 40, 41, 42, 44, 47, 48, 49, 52, 53, 54, 57, 58, 59, 60, 61, 62, 65, 68]
noncomputable def rcX9_open : List rz_B := [rz_aload 0, rz_cst 0, rz_putf (Nat.add (Nat.mul 256 11) 1) 17 rz_unI, rz_aload 0, rz_cst 4294967295, rz_putf (Nat.add (Nat.mul 256 11) 1) 18 rz_unI, rz_aload 0, rz_cst 0, rz_putf (Nat.add (Nat.mul 256 11) 1) 8 rz_unI, rz_aload 0, rz_getf (Nat.add (Nat.mul 256 11) 1) 7 rz_r, rz_cst 4294967295, rz_callSv 2 rgJ7_fill_53178, rz_cst 0, rz_istore 1, rz_cst 0, rz_istore 2, rz_iload 1, rz_aload 0, rz_getf (Nat.add (Nat.mul 256 11) 1) 1 rz_r, rz_alen, rz_icmpge 41, rz_aload 0, rz_getf (Nat.add (Nat.mul 256 11) 1) 1 rz_r, rz_iload 1, rz_cald, rz_cst 32, rz_icmpne 39, rz_aload 0, rz_aload 0, rz_getf (Nat.add (Nat.mul 256 11) 1) 1 rz_r, rz_iload 2, rz_iload 1, rz_callV 3 (Nat.add (Nat.mul 256 11) 1) rgX9_intern, rz_pop, rz_iload 1, rz_cst 1, rz_iadd, rz_istore 2, rz_iinc 1 1, rz_goto 17, rz_vret]
noncomputable def rgX9_open : rz_L → rz_M → rz_Z → Bool := rz_go rcX9_open 3 1000000
def rrX9_open : Room := { frames := 3, cells := 0, slots := 0, locals := 86 }
theorem rmX9_open (l : Launch) {G : rz_G} (hG : rz_Gd G) (vs : rz_L) (M : rz_M) (Z : rz_Z) (hn : vs.length = 1) (h : rgX9_open vs M Z = true) : Met l yX9_open (Cond.code yX9_open cX9_open 3 none :: rz_TB) rrX9_open (rz_Pre G vs M) (rz_Qv G M.2 Z) 0 0 (fun q => rz_b G ≤ q) := by
  obtain ⟨D, tc, ad, b, xs, rfl⟩ := id hG
  refine rz_body (pcs := rpX9_open) (by decide) rfl (by rw [hn]; decide) h ?_
  intro p e R s m args below meth c hC
  obtain ⟨hx, hb, hml, hr, hlk, ho, hts, hKn, hRm⟩ := id hC
  obtain ⟨hK, hA, hSt⟩ := id hKn
  have hw : ∀ {i j : Nat} {ws : List Cond} {w : Cond}, rz_WW[i]? = some ws → ws[j]? = some w → w.before args s = true := fun h1 h2 => hts _ (List.mem_cons_of_mem _ (rz_mem h1 h2))
  refine rz_All_c (i := 0) (fun k J hk hJ => rz_aload_n_ok (pc := 0) hx hb dX9_open_0 rfl hk) ?_
  refine rz_All_c (i := 1) (fun k J hk hJ => rz_iconst_ok (pc := 1) hx hb dX9_open_1 rfl hk) ?_
  refine rz_All_c (i := 2) (fun k J hk hJ => rz_putf_ok (pc := 2) (own := RX9) (ref := "ThreadJudge$Reader") (C := RX9) (T := TX9) (N := 19) (ci := 11) (index := 86) (f := 17) (t := 0) (Ts := Cond.code yX9_open cX9_open 3 none :: rz_TB) hx hb hts rz_in11 tyX9 tyX9_ok nmX9 ho hK hA rfl (by decide) rfl (rz_UnI _) rfl (tyX9_ok 17 (by decide)) (hw (i := 1) (j := 23) rfl rfl) (fun _ z => z) dX9_open_2 hk) ?_
  refine rz_All_c (i := 3) (fun k J hk hJ => rz_aload_n_ok (pc := 5) hx hb dX9_open_5 rfl hk) ?_
  refine rz_All_c (i := 4) (fun k J hk hJ => rz_iconst_ok (pc := 6) hx hb dX9_open_6 rfl hk) ?_
  refine rz_All_c (i := 5) (fun k J hk hJ => rz_putf_ok (pc := 7) (own := RX9) (ref := "ThreadJudge$Reader") (C := RX9) (T := TX9) (N := 19) (ci := 11) (index := 90) (f := 18) (t := 0) (Ts := Cond.code yX9_open cX9_open 3 none :: rz_TB) hx hb hts rz_in11 tyX9 tyX9_ok nmX9 ho hK hA rfl (by decide) rfl (rz_UnI _) rfl (tyX9_ok 18 (by decide)) (hw (i := 2) (j := 0) rfl rfl) (fun _ z => z) dX9_open_7 hk) ?_
  refine rz_All_c (i := 6) (fun k J hk hJ => rz_aload_n_ok (pc := 10) hx hb dX9_open_10 rfl hk) ?_
  refine rz_All_c (i := 7) (fun k J hk hJ => rz_iconst_ok (pc := 11) hx hb dX9_open_11 rfl hk) ?_
  refine rz_All_c (i := 8) (fun k J hk hJ => rz_putf_ok (pc := 12) (own := RX9) (ref := "ThreadJudge$Reader") (C := RX9) (T := TX9) (N := 19) (ci := 11) (index := 93) (f := 8) (t := 0) (Ts := Cond.code yX9_open cX9_open 3 none :: rz_TB) hx hb hts rz_in11 tyX9 tyX9_ok nmX9 ho hK hA rfl (by decide) rfl (rz_UnI _) rfl (tyX9_ok 8 (by decide)) (hw (i := 2) (j := 1) rfl rfl) (fun _ z => z) dX9_open_12 hk) ?_
  refine rz_All_c (i := 9) (fun k J hk hJ => rz_aload_n_ok (pc := 15) hx hb dX9_open_15 rfl hk) ?_
  refine rz_All_c (i := 10) (fun k J hk hJ => rz_getf_ok (pc := 16) (own := RX9) (ref := "ThreadJudge$Reader") (C := RX9) (T := TX9) (N := 19) (ci := 11) (index := 25) (f := 7) (t := 2) (Ts := Cond.code yX9_open cX9_open 3 none :: rz_TB) hx hb hts rz_in11 ho hK rfl (by decide) rfl (fun _ => rfl) (hw (i := 2) (j := 2) rfl rfl) (fun _ z => z) dX9_open_16 hk) ?_
  refine rz_All_c (i := 11) (fun k J hk hJ => rz_iconst_ok (pc := 19) hx hb dX9_open_19 rfl hk) ?_
  refine rz_All_c (i := 12) (fun k J hk hJ => rz_callSv_ok (pc := 20) (own := RX9) hC rfl (rmJ7_fill_53178 l hG) (rz_cwX 2 hC rz_good (rz_mem (i := 2) (j := 4) rfl rfl) (rz_mem (i := 2) (j := 5) rfl rfl) (rz_mem (i := 2) (j := 6) rfl rfl) (rz_mem (i := 2) (j := 7) rfl rfl) ⟨by decide, by decide, by decide +kernel⟩ rfl rfl ⟨by decide, by decide⟩) dX9_open_20 hk) ?_
  refine rz_All_c (i := 13) (fun k J hk hJ => rz_iconst_ok (pc := 23) hx hb dX9_open_23 rfl hk) ?_
  refine rz_All_c (i := 14) (fun k J hk hJ => rz_istore_n_ok (pc := 24) hx hb dX9_open_24 rfl hk) ?_
  refine rz_All_c (i := 15) (fun k J hk hJ => rz_iconst_ok (pc := 25) hx hb dX9_open_25 rfl hk) ?_
  refine rz_All_c (i := 16) (fun k J hk hJ => rz_istore_n_ok (pc := 26) hx hb dX9_open_26 rfl hk) ?_
  refine rz_All_c (i := 17) (fun k J hk hJ => rz_iload_n_ok (pc := 27) hx hb dX9_open_27 rfl hk) ?_
  refine rz_All_c (i := 18) (fun k J hk hJ => rz_aload_n_ok (pc := 28) hx hb dX9_open_28 rfl hk) ?_
  refine rz_All_c (i := 19) (fun k J hk hJ => rz_getf_ok (pc := 29) (own := RX9) (ref := "ThreadJudge$Reader") (C := RX9) (T := TX9) (N := 19) (ci := 11) (index := 67) (f := 1) (t := 2) (Ts := Cond.code yX9_open cX9_open 3 none :: rz_TB) hx hb hts rz_in11 ho hK rfl (by decide) rfl (fun _ => rfl) (hw (i := 2) (j := 3) rfl rfl) (fun _ z => z) dX9_open_29 hk) ?_
  refine rz_All_c (i := 20) (fun k J hk hJ => rz_alen_ok (pc := 32) hx hb hK dX9_open_32 hk) ?_
  refine rz_All_c (i := 21) (fun k J hk hJ => rz_icmpge_ok (pc := 33) hx hb dX9_open_33 rfl hk (hJ 41)) ?_
  refine rz_All_c (i := 22) (fun k J hk hJ => rz_aload_n_ok (pc := 36) hx hb dX9_open_36 rfl hk) ?_
  refine rz_All_c (i := 23) (fun k J hk hJ => rz_getf_ok (pc := 37) (own := RX9) (ref := "ThreadJudge$Reader") (C := RX9) (T := TX9) (N := 19) (ci := 11) (index := 67) (f := 1) (t := 2) (Ts := Cond.code yX9_open cX9_open 3 none :: rz_TB) hx hb hts rz_in11 ho hK rfl (by decide) rfl (fun _ => rfl) (hw (i := 2) (j := 3) rfl rfl) (fun _ z => z) dX9_open_37 hk) ?_
  refine rz_All_c (i := 24) (fun k J hk hJ => rz_iload_n_ok (pc := 40) hx hb dX9_open_40 rfl hk) ?_
  refine rz_All_c (i := 25) (fun k J hk hJ => rz_cald_ok (pc := 41) hx hb hK dX9_open_41 hk) ?_
  refine rz_All_c (i := 26) (fun k J hk hJ => rz_bipush_ok (pc := 42) hx hb dX9_open_42 (by decide) hk) ?_
  refine rz_All_c (i := 27) (fun k J hk hJ => rz_icmpne_ok (pc := 44) hx hb dX9_open_44 rfl hk (hJ 39)) ?_
  refine rz_All_c (i := 28) (fun k J hk hJ => rz_aload_n_ok (pc := 47) hx hb dX9_open_47 rfl hk) ?_
  refine rz_All_c (i := 29) (fun k J hk hJ => rz_aload_n_ok (pc := 48) hx hb dX9_open_48 rfl hk) ?_
  refine rz_All_c (i := 30) (fun k J hk hJ => rz_getf_ok (pc := 49) (own := RX9) (ref := "ThreadJudge$Reader") (C := RX9) (T := TX9) (N := 19) (ci := 11) (index := 67) (f := 1) (t := 2) (Ts := Cond.code yX9_open cX9_open 3 none :: rz_TB) hx hb hts rz_in11 ho hK rfl (by decide) rfl (fun _ => rfl) (hw (i := 2) (j := 3) rfl rfl) (fun _ z => z) dX9_open_49 hk) ?_
  refine rz_All_c (i := 31) (fun k J hk hJ => rz_iload_n_ok (pc := 52) hx hb dX9_open_52 rfl hk) ?_
  refine rz_All_c (i := 32) (fun k J hk hJ => rz_iload_n_ok (pc := 53) hx hb dX9_open_53 rfl hk) ?_
  refine rz_All_c (i := 33) (fun k J hk hJ => rz_callV_ok (pc := 54) (own := RX9) (C := RX9) (T0 := TX9) (N0 := 19) hC rfl (rmX9_intern l hG) (rz_cwV 3 hC rz_good (rz_mem (i := 2) (j := 8) rfl rfl) (rz_mem (i := 2) (j := 9) rfl rfl) (rz_mem (i := 2) (j := 10) rfl rfl) (rz_mem (i := 1) (j := 21) rfl rfl) (rz_mem (i := 2) (j := 11) rfl rfl) ⟨rfl, by decide, by decide, by decide +kernel⟩ rfl rfl ⟨by decide, by decide⟩) rfl dX9_open_54 hk) ?_
  refine rz_All_c (i := 34) (fun k J hk hJ => rz_pop_ok (pc := 57) hx hb dX9_open_57 hk) ?_
  refine rz_All_c (i := 35) (fun k J hk hJ => rz_iload_n_ok (pc := 58) hx hb dX9_open_58 rfl hk) ?_
  refine rz_All_c (i := 36) (fun k J hk hJ => rz_iconst_ok (pc := 59) hx hb dX9_open_59 rfl hk) ?_
  refine rz_All_c (i := 37) (fun k J hk hJ => rz_iadd_ok (pc := 60) hx hb dX9_open_60 hk) ?_
  refine rz_All_c (i := 38) (fun k J hk hJ => rz_istore_n_ok (pc := 61) hx hb dX9_open_61 rfl hk) ?_
  refine rz_All_c (i := 39) (fun k J hk hJ => rz_iinc_ok (pc := 62) hx hb dX9_open_62 (by decide) hk) ?_
  refine rz_All_c (i := 40) (fun k J hk hJ => rz_goto_ok (pc := 65) hx hb dX9_open_65 rfl (hJ 17)) ?_
  refine rz_All_c (i := 41) (fun k J hk hJ => rz_vret_ok (pc := 68) hC dX9_open_68) ?_
  exact trivial
theorem dX9_isDigit_0 : decode cX9_isDigit 0 = .ok (.iload_n 0, 1) := by decide +kernel
theorem dX9_isDigit_1 : decode cX9_isDigit 1 = .ok (.bipush 48, 2) := by decide +kernel
theorem dX9_isDigit_3 : decode cX9_isDigit 3 = .ok (.if_icmp .lt 13, 3) := by decide +kernel
theorem dX9_isDigit_6 : decode cX9_isDigit 6 = .ok (.iload_n 0, 1) := by decide +kernel
theorem dX9_isDigit_7 : decode cX9_isDigit 7 = .ok (.bipush 57, 2) := by decide +kernel
theorem dX9_isDigit_9 : decode cX9_isDigit 9 = .ok (.if_icmp .gt 7, 3) := by decide +kernel
theorem dX9_isDigit_12 : decode cX9_isDigit 12 = .ok (.iconst 1, 1) := by decide +kernel
theorem dX9_isDigit_13 : decode cX9_isDigit 13 = .ok (.goto 4, 3) := by decide +kernel
theorem dX9_isDigit_16 : decode cX9_isDigit 16 = .ok (.iconst 0, 1) := by decide +kernel
theorem dX9_isDigit_17 : decode cX9_isDigit 17 = .ok (.ireturn, 1) := by decide +kernel
def rpX9_isDigit : List Nat := [0, 1, 3, 6, 7, 9, 12, 13, 16, 17]
noncomputable def rcX9_isDigit : List rz_B := [rz_iload 0, rz_cst 48, rz_icmplt 8, rz_iload 0, rz_cst 57, rz_icmpgt 8, rz_cst 1, rz_goto 9, rz_cst 0, rz_zret]
noncomputable def rgX9_isDigit : rz_L → rz_M → rz_Z → Bool := rz_go rcX9_isDigit 1 1000000
def rrX9_isDigit : Room := { frames := 0, cells := 0, slots := 0, locals := 0 }
theorem rmX9_isDigit (l : Launch) {G : rz_G} (hG : rz_Gd G) (vs : rz_L) (M : rz_M) (Z : rz_Z) (hn : vs.length = 1) (h : rgX9_isDigit vs M Z = true) : Met l yX9_isDigit (Cond.code yX9_isDigit cX9_isDigit 1 (some .boolean) :: rz_TB) rrX9_isDigit (rz_Pre G vs M) (rz_Qi G M.2 Z) 0 0 (fun q => rz_b G ≤ q) := by
  obtain ⟨D, tc, ad, b, xs, rfl⟩ := id hG
  refine rz_body (pcs := rpX9_isDigit) (by decide) rfl (by rw [hn]; decide) h ?_
  intro p e R s m args below meth c hC
  obtain ⟨hx, hb, hml, hr, hlk, ho, hts, hKn, hRm⟩ := id hC
  obtain ⟨hK, hA, hSt⟩ := id hKn
  have hw : ∀ {i j : Nat} {ws : List Cond} {w : Cond}, rz_WW[i]? = some ws → ws[j]? = some w → w.before args s = true := fun h1 h2 => hts _ (List.mem_cons_of_mem _ (rz_mem h1 h2))
  refine rz_All_c (i := 0) (fun k J hk hJ => rz_iload_n_ok (pc := 0) hx hb dX9_isDigit_0 rfl hk) ?_
  refine rz_All_c (i := 1) (fun k J hk hJ => rz_bipush_ok (pc := 1) hx hb dX9_isDigit_1 (by decide) hk) ?_
  refine rz_All_c (i := 2) (fun k J hk hJ => rz_icmplt_ok (pc := 3) hx hb dX9_isDigit_3 rfl hk (hJ 8)) ?_
  refine rz_All_c (i := 3) (fun k J hk hJ => rz_iload_n_ok (pc := 6) hx hb dX9_isDigit_6 rfl hk) ?_
  refine rz_All_c (i := 4) (fun k J hk hJ => rz_bipush_ok (pc := 7) hx hb dX9_isDigit_7 (by decide) hk) ?_
  refine rz_All_c (i := 5) (fun k J hk hJ => rz_icmpgt_ok (pc := 9) hx hb dX9_isDigit_9 rfl hk (hJ 8)) ?_
  refine rz_All_c (i := 6) (fun k J hk hJ => rz_iconst_ok (pc := 12) hx hb dX9_isDigit_12 rfl hk) ?_
  refine rz_All_c (i := 7) (fun k J hk hJ => rz_goto_ok (pc := 13) hx hb dX9_isDigit_13 rfl (hJ 9)) ?_
  refine rz_All_c (i := 8) (fun k J hk hJ => rz_iconst_ok (pc := 16) hx hb dX9_isDigit_16 rfl hk) ?_
  refine rz_All_c (i := 9) (fun k J hk hJ => rz_zret_ok (pc := 17) hC dX9_isDigit_17) ?_
  exact trivial
theorem dX9_opensWord_0 : decode cX9_opensWord 0 = .ok (.iload_n 0, 1) := by decide +kernel
theorem dX9_opensWord_1 : decode cX9_opensWord 1 = .ok (.bipush 97, 2) := by decide +kernel
theorem dX9_opensWord_3 : decode cX9_opensWord 3 = .ok (.if_icmp .lt 9, 3) := by decide +kernel
theorem dX9_opensWord_6 : decode cX9_opensWord 6 = .ok (.iload_n 0, 1) := by decide +kernel
theorem dX9_opensWord_7 : decode cX9_opensWord 7 = .ok (.bipush 122, 2) := by decide +kernel
theorem dX9_opensWord_9 : decode cX9_opensWord 9 = .ok (.if_icmp .le 27, 3) := by decide +kernel
theorem dX9_opensWord_12 : decode cX9_opensWord 12 = .ok (.iload_n 0, 1) := by decide +kernel
theorem dX9_opensWord_13 : decode cX9_opensWord 13 = .ok (.bipush 65, 2) := by decide +kernel
theorem dX9_opensWord_15 : decode cX9_opensWord 15 = .ok (.if_icmp .lt 9, 3) := by decide +kernel
theorem dX9_opensWord_18 : decode cX9_opensWord 18 = .ok (.iload_n 0, 1) := by decide +kernel
theorem dX9_opensWord_19 : decode cX9_opensWord 19 = .ok (.bipush 90, 2) := by decide +kernel
theorem dX9_opensWord_21 : decode cX9_opensWord 21 = .ok (.if_icmp .le 15, 3) := by decide +kernel
theorem dX9_opensWord_24 : decode cX9_opensWord 24 = .ok (.iload_n 0, 1) := by decide +kernel
theorem dX9_opensWord_25 : decode cX9_opensWord 25 = .ok (.bipush 95, 2) := by decide +kernel
theorem dX9_opensWord_27 : decode cX9_opensWord 27 = .ok (.if_icmp .eq 9, 3) := by decide +kernel
theorem dX9_opensWord_30 : decode cX9_opensWord 30 = .ok (.iload_n 0, 1) := by decide +kernel
theorem dX9_opensWord_31 : decode cX9_opensWord 31 = .ok (.bipush 60, 2) := by decide +kernel
theorem dX9_opensWord_33 : decode cX9_opensWord 33 = .ok (.if_icmp .ne 7, 3) := by decide +kernel
theorem dX9_opensWord_36 : decode cX9_opensWord 36 = .ok (.iconst 1, 1) := by decide +kernel
theorem dX9_opensWord_37 : decode cX9_opensWord 37 = .ok (.goto 4, 3) := by decide +kernel
theorem dX9_opensWord_40 : decode cX9_opensWord 40 = .ok (.iconst 0, 1) := by decide +kernel
theorem dX9_opensWord_41 : decode cX9_opensWord 41 = .ok (.ireturn, 1) := by decide +kernel
def rpX9_opensWord : List Nat := [0, 1, 3, 6, 7, 9, 12, 13, 15, 18, 19, 21, 24, 25, 27, 30, 31, 33, 36, 37, 40, 41]
noncomputable def rcX9_opensWord : List rz_B := [rz_iload 0, rz_cst 97, rz_icmplt 6, rz_iload 0, rz_cst 122, rz_icmple 18, rz_iload 0, rz_cst 65, rz_icmplt 12, rz_iload 0, rz_cst 90, rz_icmple 18, rz_iload 0, rz_cst 95, rz_icmpeq 18, rz_iload 0, rz_cst 60, rz_icmpne 20, rz_cst 1, rz_goto 21, rz_cst 0, rz_zret]
noncomputable def rgX9_opensWord : rz_L → rz_M → rz_Z → Bool := rz_go rcX9_opensWord 1 1000000
def rrX9_opensWord : Room := { frames := 0, cells := 0, slots := 0, locals := 0 }
theorem rmX9_opensWord (l : Launch) {G : rz_G} (hG : rz_Gd G) (vs : rz_L) (M : rz_M) (Z : rz_Z) (hn : vs.length = 1) (h : rgX9_opensWord vs M Z = true) : Met l yX9_opensWord (Cond.code yX9_opensWord cX9_opensWord 1 (some .boolean) :: rz_TB) rrX9_opensWord (rz_Pre G vs M) (rz_Qi G M.2 Z) 0 0 (fun q => rz_b G ≤ q) := by
  obtain ⟨D, tc, ad, b, xs, rfl⟩ := id hG
  refine rz_body (pcs := rpX9_opensWord) (by decide) rfl (by rw [hn]; decide) h ?_
  intro p e R s m args below meth c hC
  obtain ⟨hx, hb, hml, hr, hlk, ho, hts, hKn, hRm⟩ := id hC
  obtain ⟨hK, hA, hSt⟩ := id hKn
  have hw : ∀ {i j : Nat} {ws : List Cond} {w : Cond}, rz_WW[i]? = some ws → ws[j]? = some w → w.before args s = true := fun h1 h2 => hts _ (List.mem_cons_of_mem _ (rz_mem h1 h2))
  refine rz_All_c (i := 0) (fun k J hk hJ => rz_iload_n_ok (pc := 0) hx hb dX9_opensWord_0 rfl hk) ?_
  refine rz_All_c (i := 1) (fun k J hk hJ => rz_bipush_ok (pc := 1) hx hb dX9_opensWord_1 (by decide) hk) ?_
  refine rz_All_c (i := 2) (fun k J hk hJ => rz_icmplt_ok (pc := 3) hx hb dX9_opensWord_3 rfl hk (hJ 6)) ?_
  refine rz_All_c (i := 3) (fun k J hk hJ => rz_iload_n_ok (pc := 6) hx hb dX9_opensWord_6 rfl hk) ?_
  refine rz_All_c (i := 4) (fun k J hk hJ => rz_bipush_ok (pc := 7) hx hb dX9_opensWord_7 (by decide) hk) ?_
  refine rz_All_c (i := 5) (fun k J hk hJ => rz_icmple_ok (pc := 9) hx hb dX9_opensWord_9 rfl hk (hJ 18)) ?_
  refine rz_All_c (i := 6) (fun k J hk hJ => rz_iload_n_ok (pc := 12) hx hb dX9_opensWord_12 rfl hk) ?_
  refine rz_All_c (i := 7) (fun k J hk hJ => rz_bipush_ok (pc := 13) hx hb dX9_opensWord_13 (by decide) hk) ?_
  refine rz_All_c (i := 8) (fun k J hk hJ => rz_icmplt_ok (pc := 15) hx hb dX9_opensWord_15 rfl hk (hJ 12)) ?_
  refine rz_All_c (i := 9) (fun k J hk hJ => rz_iload_n_ok (pc := 18) hx hb dX9_opensWord_18 rfl hk) ?_
  refine rz_All_c (i := 10) (fun k J hk hJ => rz_bipush_ok (pc := 19) hx hb dX9_opensWord_19 (by decide) hk) ?_
  refine rz_All_c (i := 11) (fun k J hk hJ => rz_icmple_ok (pc := 21) hx hb dX9_opensWord_21 rfl hk (hJ 18)) ?_
  refine rz_All_c (i := 12) (fun k J hk hJ => rz_iload_n_ok (pc := 24) hx hb dX9_opensWord_24 rfl hk) ?_
  refine rz_All_c (i := 13) (fun k J hk hJ => rz_bipush_ok (pc := 25) hx hb dX9_opensWord_25 (by decide) hk) ?_
  refine rz_All_c (i := 14) (fun k J hk hJ => rz_icmpeq_ok (pc := 27) hx hb dX9_opensWord_27 rfl hk (hJ 18)) ?_
  refine rz_All_c (i := 15) (fun k J hk hJ => rz_iload_n_ok (pc := 30) hx hb dX9_opensWord_30 rfl hk) ?_
  refine rz_All_c (i := 16) (fun k J hk hJ => rz_bipush_ok (pc := 31) hx hb dX9_opensWord_31 (by decide) hk) ?_
  refine rz_All_c (i := 17) (fun k J hk hJ => rz_icmpne_ok (pc := 33) hx hb dX9_opensWord_33 rfl hk (hJ 20)) ?_
  refine rz_All_c (i := 18) (fun k J hk hJ => rz_iconst_ok (pc := 36) hx hb dX9_opensWord_36 rfl hk) ?_
  refine rz_All_c (i := 19) (fun k J hk hJ => rz_goto_ok (pc := 37) hx hb dX9_opensWord_37 rfl (hJ 21)) ?_
  refine rz_All_c (i := 20) (fun k J hk hJ => rz_iconst_ok (pc := 40) hx hb dX9_opensWord_40 rfl hk) ?_
  refine rz_All_c (i := 21) (fun k J hk hJ => rz_zret_ok (pc := 41) hC dX9_opensWord_41) ?_
  exact trivial
theorem dX9_token_0 : decode cX9_token 0 = .ok (.aload_n 0, 1) := by decide +kernel
theorem dX9_token_1 : decode cX9_token 1 = .ok (.getfield 28, 3) := by decide +kernel
theorem dX9_token_4 : decode cX9_token 4 = .ok (.aload_n 0, 1) := by decide +kernel
theorem dX9_token_5 : decode cX9_token 5 = .ok (.getfield 129, 3) := by decide +kernel
theorem dX9_token_8 : decode cX9_token 8 = .ok (.iload_n 1, 1) := by decide +kernel
theorem dX9_token_9 : decode cX9_token 9 = .ok (.iastore, 1) := by decide +kernel
theorem dX9_token_10 : decode cX9_token 10 = .ok (.aload_n 0, 1) := by decide +kernel
theorem dX9_token_11 : decode cX9_token 11 = .ok (.getfield 31, 3) := by decide +kernel
theorem dX9_token_14 : decode cX9_token 14 = .ok (.aload_n 0, 1) := by decide +kernel
theorem dX9_token_15 : decode cX9_token 15 = .ok (.getfield 129, 3) := by decide +kernel
theorem dX9_token_18 : decode cX9_token 18 = .ok (.iload_n 2, 1) := by decide +kernel
theorem dX9_token_19 : decode cX9_token 19 = .ok (.iastore, 1) := by decide +kernel
theorem dX9_token_20 : decode cX9_token 20 = .ok (.aload_n 0, 1) := by decide +kernel
theorem dX9_token_21 : decode cX9_token 21 = .ok (.getfield 34, 3) := by decide +kernel
theorem dX9_token_24 : decode cX9_token 24 = .ok (.aload_n 0, 1) := by decide +kernel
theorem dX9_token_25 : decode cX9_token 25 = .ok (.getfield 129, 3) := by decide +kernel
theorem dX9_token_28 : decode cX9_token 28 = .ok (.iload_n 3, 1) := by decide +kernel
theorem dX9_token_29 : decode cX9_token 29 = .ok (.iastore, 1) := by decide +kernel
theorem dX9_token_30 : decode cX9_token 30 = .ok (.aload_n 0, 1) := by decide +kernel
theorem dX9_token_31 : decode cX9_token 31 = .ok (.dup, 1) := by decide +kernel
theorem dX9_token_32 : decode cX9_token 32 = .ok (.getfield 129, 3) := by decide +kernel
theorem dX9_token_35 : decode cX9_token 35 = .ok (.iconst 1, 1) := by decide +kernel
theorem dX9_token_36 : decode cX9_token 36 = .ok (.iadd, 1) := by decide +kernel
theorem dX9_token_37 : decode cX9_token 37 = .ok (.putfield 129, 3) := by decide +kernel
theorem dX9_token_40 : decode cX9_token 40 = .ok (.return_, 1) := by decide +kernel
def rpX9_token : List Nat := [0, 1, 4, 5, 8, 9, 10, 11, 14, 15, 18, 19, 20, 21, 24, 25, 28, 29, 30, 31, 32, 35, 36, 37, 40]
noncomputable def rcX9_token : List rz_B := [rz_aload 0, rz_getf (Nat.add (Nat.mul 256 11) 1) 11 rz_r, rz_aload 0, rz_getf (Nat.add (Nat.mul 256 11) 1) 14 rz_i, rz_iload 1, rz_iast, rz_aload 0, rz_getf (Nat.add (Nat.mul 256 11) 1) 12 rz_r, rz_aload 0, rz_getf (Nat.add (Nat.mul 256 11) 1) 14 rz_i, rz_iload 2, rz_iast, rz_aload 0, rz_getf (Nat.add (Nat.mul 256 11) 1) 13 rz_r, rz_aload 0, rz_getf (Nat.add (Nat.mul 256 11) 1) 14 rz_i, rz_iload 3, rz_iast, rz_aload 0, rz_dup, rz_getf (Nat.add (Nat.mul 256 11) 1) 14 rz_i, rz_cst 1, rz_iadd, rz_putf (Nat.add (Nat.mul 256 11) 1) 14 rz_unI, rz_vret]
noncomputable def rgX9_token : rz_L → rz_M → rz_Z → Bool := rz_go rcX9_token 4 1000000
def rrX9_token : Room := { frames := 0, cells := 0, slots := 0, locals := 0 }
theorem rmX9_token (l : Launch) {G : rz_G} (hG : rz_Gd G) (vs : rz_L) (M : rz_M) (Z : rz_Z) (hn : vs.length = 4) (h : rgX9_token vs M Z = true) : Met l yX9_token (Cond.code yX9_token cX9_token 4 none :: rz_TB) rrX9_token (rz_Pre G vs M) (rz_Qv G M.2 Z) 0 0 (fun q => rz_b G ≤ q) := by
  obtain ⟨D, tc, ad, b, xs, rfl⟩ := id hG
  refine rz_body (pcs := rpX9_token) (by decide) rfl (by rw [hn]; decide) h ?_
  intro p e R s m args below meth c hC
  obtain ⟨hx, hb, hml, hr, hlk, ho, hts, hKn, hRm⟩ := id hC
  obtain ⟨hK, hA, hSt⟩ := id hKn
  have hw : ∀ {i j : Nat} {ws : List Cond} {w : Cond}, rz_WW[i]? = some ws → ws[j]? = some w → w.before args s = true := fun h1 h2 => hts _ (List.mem_cons_of_mem _ (rz_mem h1 h2))
  refine rz_All_c (i := 0) (fun k J hk hJ => rz_aload_n_ok (pc := 0) hx hb dX9_token_0 rfl hk) ?_
  refine rz_All_c (i := 1) (fun k J hk hJ => rz_getf_ok (pc := 1) (own := RX9) (ref := "ThreadJudge$Reader") (C := RX9) (T := TX9) (N := 19) (ci := 11) (index := 28) (f := 11) (t := 2) (Ts := Cond.code yX9_token cX9_token 4 none :: rz_TB) hx hb hts rz_in11 ho hK rfl (by decide) rfl (fun _ => rfl) (hw (i := 3) (j := 14) rfl rfl) (fun _ z => z) dX9_token_1 hk) ?_
  refine rz_All_c (i := 2) (fun k J hk hJ => rz_aload_n_ok (pc := 4) hx hb dX9_token_4 rfl hk) ?_
  refine rz_All_c (i := 3) (fun k J hk hJ => rz_getf_ok (pc := 5) (own := RX9) (ref := "ThreadJudge$Reader") (C := RX9) (T := TX9) (N := 19) (ci := 11) (index := 129) (f := 14) (t := 0) (Ts := Cond.code yX9_token cX9_token 4 none :: rz_TB) hx hb hts rz_in11 ho hK rfl (by decide) rfl (fun _ => rfl) (hw (i := 3) (j := 13) rfl rfl) (fun _ z => z) dX9_token_5 hk) ?_
  refine rz_All_c (i := 4) (fun k J hk hJ => rz_iload_n_ok (pc := 8) hx hb dX9_token_8 rfl hk) ?_
  refine rz_All_c (i := 5) (fun k J hk hJ => rz_iast_ok (pc := 9) hx hb hK hA dX9_token_9 hk) ?_
  refine rz_All_c (i := 6) (fun k J hk hJ => rz_aload_n_ok (pc := 10) hx hb dX9_token_10 rfl hk) ?_
  refine rz_All_c (i := 7) (fun k J hk hJ => rz_getf_ok (pc := 11) (own := RX9) (ref := "ThreadJudge$Reader") (C := RX9) (T := TX9) (N := 19) (ci := 11) (index := 31) (f := 12) (t := 2) (Ts := Cond.code yX9_token cX9_token 4 none :: rz_TB) hx hb hts rz_in11 ho hK rfl (by decide) rfl (fun _ => rfl) (hw (i := 3) (j := 15) rfl rfl) (fun _ z => z) dX9_token_11 hk) ?_
  refine rz_All_c (i := 8) (fun k J hk hJ => rz_aload_n_ok (pc := 14) hx hb dX9_token_14 rfl hk) ?_
  refine rz_All_c (i := 9) (fun k J hk hJ => rz_getf_ok (pc := 15) (own := RX9) (ref := "ThreadJudge$Reader") (C := RX9) (T := TX9) (N := 19) (ci := 11) (index := 129) (f := 14) (t := 0) (Ts := Cond.code yX9_token cX9_token 4 none :: rz_TB) hx hb hts rz_in11 ho hK rfl (by decide) rfl (fun _ => rfl) (hw (i := 3) (j := 13) rfl rfl) (fun _ z => z) dX9_token_15 hk) ?_
  refine rz_All_c (i := 10) (fun k J hk hJ => rz_iload_n_ok (pc := 18) hx hb dX9_token_18 rfl hk) ?_
  refine rz_All_c (i := 11) (fun k J hk hJ => rz_iast_ok (pc := 19) hx hb hK hA dX9_token_19 hk) ?_
  refine rz_All_c (i := 12) (fun k J hk hJ => rz_aload_n_ok (pc := 20) hx hb dX9_token_20 rfl hk) ?_
  refine rz_All_c (i := 13) (fun k J hk hJ => rz_getf_ok (pc := 21) (own := RX9) (ref := "ThreadJudge$Reader") (C := RX9) (T := TX9) (N := 19) (ci := 11) (index := 34) (f := 13) (t := 2) (Ts := Cond.code yX9_token cX9_token 4 none :: rz_TB) hx hb hts rz_in11 ho hK rfl (by decide) rfl (fun _ => rfl) (hw (i := 5) (j := 2) rfl rfl) (fun _ z => z) dX9_token_21 hk) ?_
  refine rz_All_c (i := 14) (fun k J hk hJ => rz_aload_n_ok (pc := 24) hx hb dX9_token_24 rfl hk) ?_
  refine rz_All_c (i := 15) (fun k J hk hJ => rz_getf_ok (pc := 25) (own := RX9) (ref := "ThreadJudge$Reader") (C := RX9) (T := TX9) (N := 19) (ci := 11) (index := 129) (f := 14) (t := 0) (Ts := Cond.code yX9_token cX9_token 4 none :: rz_TB) hx hb hts rz_in11 ho hK rfl (by decide) rfl (fun _ => rfl) (hw (i := 3) (j := 13) rfl rfl) (fun _ z => z) dX9_token_25 hk) ?_
  refine rz_All_c (i := 16) (fun k J hk hJ => rz_iload_n_ok (pc := 28) hx hb dX9_token_28 rfl hk) ?_
  refine rz_All_c (i := 17) (fun k J hk hJ => rz_iast_ok (pc := 29) hx hb hK hA dX9_token_29 hk) ?_
  refine rz_All_c (i := 18) (fun k J hk hJ => rz_aload_n_ok (pc := 30) hx hb dX9_token_30 rfl hk) ?_
  refine rz_All_c (i := 19) (fun k J hk hJ => rz_dup_ok (pc := 31) hx hb dX9_token_31 hk) ?_
  refine rz_All_c (i := 20) (fun k J hk hJ => rz_getf_ok (pc := 32) (own := RX9) (ref := "ThreadJudge$Reader") (C := RX9) (T := TX9) (N := 19) (ci := 11) (index := 129) (f := 14) (t := 0) (Ts := Cond.code yX9_token cX9_token 4 none :: rz_TB) hx hb hts rz_in11 ho hK rfl (by decide) rfl (fun _ => rfl) (hw (i := 3) (j := 13) rfl rfl) (fun _ z => z) dX9_token_32 hk) ?_
  refine rz_All_c (i := 21) (fun k J hk hJ => rz_iconst_ok (pc := 35) hx hb dX9_token_35 rfl hk) ?_
  refine rz_All_c (i := 22) (fun k J hk hJ => rz_iadd_ok (pc := 36) hx hb dX9_token_36 hk) ?_
  refine rz_All_c (i := 23) (fun k J hk hJ => rz_putf_ok (pc := 37) (own := RX9) (ref := "ThreadJudge$Reader") (C := RX9) (T := TX9) (N := 19) (ci := 11) (index := 129) (f := 14) (t := 0) (Ts := Cond.code yX9_token cX9_token 4 none :: rz_TB) hx hb hts rz_in11 tyX9 tyX9_ok nmX9 ho hK hA rfl (by decide) rfl (rz_UnI _) rfl (tyX9_ok 14 (by decide)) (hw (i := 3) (j := 13) rfl rfl) (fun _ z => z) dX9_token_37 hk) ?_
  refine rz_All_c (i := 24) (fun k J hk hJ => rz_vret_ok (pc := 40) hC dX9_token_40) ?_
  exact trivial
theorem dX9_cutNumber_0 : decode cX9_cutNumber 0 = .ok (.aload_n 0, 1) := by decide +kernel
theorem dX9_cutNumber_1 : decode cX9_cutNumber 1 = .ok (.getfield 83, 3) := by decide +kernel
theorem dX9_cutNumber_4 : decode cX9_cutNumber 4 = .ok (.iload_n 1, 1) := by decide +kernel
theorem dX9_cutNumber_5 : decode cX9_cutNumber 5 = .ok (.caload, 1) := by decide +kernel
theorem dX9_cutNumber_6 : decode cX9_cutNumber 6 = .ok (.bipush 45, 2) := by decide +kernel
theorem dX9_cutNumber_8 : decode cX9_cutNumber 8 = .ok (.if_icmp .ne 7, 3) := by decide +kernel
theorem dX9_cutNumber_15 : decode cX9_cutNumber 15 = .ok (.iconst 0, 1) := by decide +kernel
theorem dX9_cutNumber_16 : decode cX9_cutNumber 16 = .ok (.istore_n 2, 1) := by decide +kernel
theorem dX9_cutNumber_17 : decode cX9_cutNumber 17 = .ok (.iload_n 2, 1) := by decide +kernel
theorem dX9_cutNumber_18 : decode cX9_cutNumber 18 = .ok (.ifCond .eq 9, 3) := by decide +kernel
theorem dX9_cutNumber_27 : decode cX9_cutNumber 27 = .ok (.iload_n 1, 1) := by decide +kernel
theorem dX9_cutNumber_28 : decode cX9_cutNumber 28 = .ok (.istore_n 3, 1) := by decide +kernel
theorem dX9_cutNumber_29 : decode cX9_cutNumber 29 = .ok (.iload_n 3, 1) := by decide +kernel
theorem dX9_cutNumber_30 : decode cX9_cutNumber 30 = .ok (.istore 4, 2) := by decide +kernel
theorem dX9_cutNumber_32 : decode cX9_cutNumber 32 = .ok (.lconst 0, 1) := by decide +kernel
theorem dX9_cutNumber_33 : decode cX9_cutNumber 33 = .ok (.lstore 5, 2) := by decide +kernel
theorem dX9_cutNumber_35 : decode cX9_cutNumber 35 = .ok (.iload_n 3, 1) := by decide +kernel
theorem dX9_cutNumber_36 : decode cX9_cutNumber 36 = .ok (.aload_n 0, 1) := by decide +kernel
theorem dX9_cutNumber_37 : decode cX9_cutNumber 37 = .ok (.getfield 132, 3) := by decide +kernel
theorem dX9_cutNumber_40 : decode cX9_cutNumber 40 = .ok (.if_icmp .ge 47, 3) := by decide +kernel
theorem dX9_cutNumber_43 : decode cX9_cutNumber 43 = .ok (.aload_n 0, 1) := by decide +kernel
theorem dX9_cutNumber_44 : decode cX9_cutNumber 44 = .ok (.getfield 83, 3) := by decide +kernel
theorem dX9_cutNumber_47 : decode cX9_cutNumber 47 = .ok (.iload_n 3, 1) := by decide +kernel
theorem dX9_cutNumber_48 : decode cX9_cutNumber 48 = .ok (.caload, 1) := by decide +kernel
theorem dX9_cutNumber_49 : decode cX9_cutNumber 49 = .ok (.invokestatic 126, 3) := by decide +kernel
theorem dX9_cutNumber_52 : decode cX9_cutNumber 52 = .ok (.ifCond .eq 35, 3) := by decide +kernel
theorem dX9_cutNumber_55 : decode cX9_cutNumber 55 = .ok (.lload 5, 2) := by decide +kernel
theorem dX9_cutNumber_57 : decode cX9_cutNumber 57 = .ok (.ldc2_w 167, 3) := by decide +kernel
theorem dX9_cutNumber_60 : decode cX9_cutNumber 60 = .ok (.lmul, 1) := by decide +kernel
theorem dX9_cutNumber_61 : decode cX9_cutNumber 61 = .ok (.aload_n 0, 1) := by decide +kernel
theorem dX9_cutNumber_62 : decode cX9_cutNumber 62 = .ok (.getfield 83, 3) := by decide +kernel
theorem dX9_cutNumber_65 : decode cX9_cutNumber 65 = .ok (.iload_n 3, 1) := by decide +kernel
theorem dX9_cutNumber_66 : decode cX9_cutNumber 66 = .ok (.caload, 1) := by decide +kernel
theorem dX9_cutNumber_67 : decode cX9_cutNumber 67 = .ok (.i2l, 1) := by decide +kernel
theorem dX9_cutNumber_68 : decode cX9_cutNumber 68 = .ok (.ladd, 1) := by decide +kernel
theorem dX9_cutNumber_69 : decode cX9_cutNumber 69 = .ok (.ldc2_w 169, 3) := by decide +kernel
theorem dX9_cutNumber_72 : decode cX9_cutNumber 72 = .ok (.lsub, 1) := by decide +kernel
theorem dX9_cutNumber_73 : decode cX9_cutNumber 73 = .ok (.ldc2_w 171, 3) := by decide +kernel
theorem dX9_cutNumber_76 : decode cX9_cutNumber 76 = .ok (.invokestatic 173, 3) := by decide +kernel
theorem dX9_cutNumber_79 : decode cX9_cutNumber 79 = .ok (.lstore 5, 2) := by decide +kernel
theorem dX9_cutNumber_81 : decode cX9_cutNumber 81 = .ok (.iinc 3 1, 3) := by decide +kernel
theorem dX9_cutNumber_84 : decode cX9_cutNumber 84 = .ok (.goto (-49), 3) := by decide +kernel
theorem dX9_cutNumber_87 : decode cX9_cutNumber 87 = .ok (.iload_n 2, 1) := by decide +kernel
theorem dX9_cutNumber_88 : decode cX9_cutNumber 88 = .ok (.ifCond .eq 9, 3) := by decide +kernel
theorem dX9_cutNumber_97 : decode cX9_cutNumber 97 = .ok (.lload 5, 2) := by decide +kernel
theorem dX9_cutNumber_99 : decode cX9_cutNumber 99 = .ok (.lstore 5, 2) := by decide +kernel
theorem dX9_cutNumber_101 : decode cX9_cutNumber 101 = .ok (.iload_n 3, 1) := by decide +kernel
theorem dX9_cutNumber_102 : decode cX9_cutNumber 102 = .ok (.iload 4, 2) := by decide +kernel
theorem dX9_cutNumber_104 : decode cX9_cutNumber 104 = .ok (.if_icmp .eq 21, 3) := by decide +kernel
theorem dX9_cutNumber_107 : decode cX9_cutNumber 107 = .ok (.lload 5, 2) := by decide +kernel
theorem dX9_cutNumber_109 : decode cX9_cutNumber 109 = .ok (.ldc2_w 179, 3) := by decide +kernel
theorem dX9_cutNumber_112 : decode cX9_cutNumber 112 = .ok (.lcmp, 1) := by decide +kernel
theorem dX9_cutNumber_113 : decode cX9_cutNumber 113 = .ok (.ifCond .lt 12, 3) := by decide +kernel
theorem dX9_cutNumber_116 : decode cX9_cutNumber 116 = .ok (.lload 5, 2) := by decide +kernel
theorem dX9_cutNumber_118 : decode cX9_cutNumber 118 = .ok (.ldc2_w 181, 3) := by decide +kernel
theorem dX9_cutNumber_121 : decode cX9_cutNumber 121 = .ok (.lcmp, 1) := by decide +kernel
theorem dX9_cutNumber_122 : decode cX9_cutNumber 122 = .ok (.ifCond .le 9, 3) := by decide +kernel
theorem dX9_cutNumber_131 : decode cX9_cutNumber 131 = .ok (.aload_n 0, 1) := by decide +kernel
theorem dX9_cutNumber_132 : decode cX9_cutNumber 132 = .ok (.iconst 2, 1) := by decide +kernel
theorem dX9_cutNumber_133 : decode cX9_cutNumber 133 = .ok (.iload_n 1, 1) := by decide +kernel
theorem dX9_cutNumber_134 : decode cX9_cutNumber 134 = .ok (.lload 5, 2) := by decide +kernel
theorem dX9_cutNumber_136 : decode cX9_cutNumber 136 = .ok (.l2i, 1) := by decide +kernel
theorem dX9_cutNumber_137 : decode cX9_cutNumber 137 = .ok (.invokevirtual 142, 3) := by decide +kernel
theorem dX9_cutNumber_140 : decode cX9_cutNumber 140 = .ok (.iload_n 3, 1) := by decide +kernel
theorem dX9_cutNumber_141 : decode cX9_cutNumber 141 = .ok (.aload_n 0, 1) := by decide +kernel
theorem dX9_cutNumber_142 : decode cX9_cutNumber 142 = .ok (.getfield 132, 3) := by decide +kernel
theorem dX9_cutNumber_145 : decode cX9_cutNumber 145 = .ok (.if_icmp .ge 34, 3) := by decide +kernel
theorem dX9_cutNumber_148 : decode cX9_cutNumber 148 = .ok (.aload_n 0, 1) := by decide +kernel
theorem dX9_cutNumber_149 : decode cX9_cutNumber 149 = .ok (.getfield 83, 3) := by decide +kernel
theorem dX9_cutNumber_152 : decode cX9_cutNumber 152 = .ok (.iload_n 3, 1) := by decide +kernel
theorem dX9_cutNumber_153 : decode cX9_cutNumber 153 = .ok (.caload, 1) := by decide +kernel
theorem dX9_cutNumber_154 : decode cX9_cutNumber 154 = .ok (.invokestatic 122, 3) := by decide +kernel
theorem dX9_cutNumber_157 : decode cX9_cutNumber 157 = .ok (.ifCond .eq 22, 3) := by decide +kernel
theorem dX9_cutNumber_179 : decode cX9_cutNumber 179 = .ok (.iload_n 3, 1) := by decide +kernel
theorem dX9_cutNumber_180 : decode cX9_cutNumber 180 = .ok (.ireturn, 1) := by decide +kernel
def rpX9_cutNumber : List Nat := [0, 1, 4, 5, 6, 8, 11, 15, 16, 17, 18, 21, 27, 28, 29, 30, 32, 33, 35, 36, 37, 40, 43, 44, 47, 48, 49, 52, 55, 57, 60, 61, 62, 65, 66, 67, 68, 69, 72, 73, 76, 79, 81, 84, 87, 88, 91, 97, 99, 101, 102, 104, 107, 109, 112, 113, 116, 118, 121, 122, 125, 131, 132, 133, 134, 136, 137, 140, 141, 142, 145, 148, 149, 152, 153, 154, 157, 160, 179, 180]
noncomputable def rcX9_cutNumber : List rz_B := [rz_aload 0, rz_getf (Nat.add (Nat.mul 256 11) 1) 9 rz_r, rz_iload 1, rz_cald, rz_cst 45, rz_icmpne 7, rz_no, rz_cst 0, rz_istore 2, rz_iload 2, rz_ifeq 12, rz_no, rz_iload 1, rz_istore 3, rz_iload 3, rz_istore 4, rz_lcst 0, rz_lstore 5, rz_iload 3, rz_aload 0, rz_getf (Nat.add (Nat.mul 256 11) 1) 10 rz_i, rz_icmpge 44, rz_aload 0, rz_getf (Nat.add (Nat.mul 256 11) 1) 9 rz_r, rz_iload 3, rz_cald, rz_callS 1 rgX9_isDigit, rz_ifeq 44, rz_lload 5, rz_lcst 10, rz_lmul, rz_aload 0, rz_getf (Nat.add (Nat.mul 256 11) 1) 9 rz_r, rz_iload 3, rz_cald, rz_i2l, rz_ladd, rz_lcst 48, rz_lsub, rz_lcst 1099511627776, rz_lmin, rz_lstore 5, rz_iinc 3 1, rz_goto 18, rz_iload 2, rz_ifeq 47, rz_no, rz_lload 5, rz_lstore 5, rz_iload 3, rz_iload 4, rz_icmpeq 60, rz_lload 5, rz_lcst 18446744071562067968, rz_lcmp, rz_iflt 60, rz_lload 5, rz_lcst 2147483647, rz_lcmp, rz_ifle 61, rz_no, rz_aload 0, rz_cst 2, rz_iload 1, rz_lload 5, rz_l2i, rz_callVv 3 (Nat.add (Nat.mul 256 11) 1) rgX9_token, rz_iload 3, rz_aload 0, rz_getf (Nat.add (Nat.mul 256 11) 1) 10 rz_i, rz_icmpge 78, rz_aload 0, rz_getf (Nat.add (Nat.mul 256 11) 1) 9 rz_r, rz_iload 3, rz_cald, rz_callS 1 rgX9_opensWord, rz_ifeq 78, rz_no, rz_iload 3, rz_iret]
noncomputable def rgX9_cutNumber : rz_L → rz_M → rz_Z → Bool := rz_go rcX9_cutNumber 7 1000000
def rrX9_cutNumber : Room := { frames := 1, cells := 0, slots := 0, locals := 60 }
theorem rmX9_cutNumber (l : Launch) {G : rz_G} (hG : rz_Gd G) (vs : rz_L) (M : rz_M) (Z : rz_Z) (hn : vs.length = 2) (h : rgX9_cutNumber vs M Z = true) : Met l yX9_cutNumber (Cond.code yX9_cutNumber cX9_cutNumber 7 (some .int) :: rz_TB) rrX9_cutNumber (rz_Pre G vs M) (rz_Qi G M.2 Z) 0 0 (fun q => rz_b G ≤ q) := by
  obtain ⟨D, tc, ad, b, xs, rfl⟩ := id hG
  refine rz_body (pcs := rpX9_cutNumber) (by decide) rfl (by rw [hn]; decide) h ?_
  intro p e R s m args below meth c hC
  obtain ⟨hx, hb, hml, hr, hlk, ho, hts, hKn, hRm⟩ := id hC
  obtain ⟨hK, hA, hSt⟩ := id hKn
  have hw : ∀ {i j : Nat} {ws : List Cond} {w : Cond}, rz_WW[i]? = some ws → ws[j]? = some w → w.before args s = true := fun h1 h2 => hts _ (List.mem_cons_of_mem _ (rz_mem h1 h2))
  refine rz_All_c (i := 0) (fun k J hk hJ => rz_aload_n_ok (pc := 0) hx hb dX9_cutNumber_0 rfl hk) ?_
  refine rz_All_c (i := 1) (fun k J hk hJ => rz_getf_ok (pc := 1) (own := RX9) (ref := "ThreadJudge$Reader") (C := RX9) (T := TX9) (N := 19) (ci := 11) (index := 83) (f := 9) (t := 2) (Ts := Cond.code yX9_cutNumber cX9_cutNumber 7 (some .int) :: rz_TB) hx hb hts rz_in11 ho hK rfl (by decide) rfl (fun _ => rfl) (hw (i := 3) (j := 20) rfl rfl) (fun _ z => z) dX9_cutNumber_1 hk) ?_
  refine rz_All_c (i := 2) (fun k J hk hJ => rz_iload_n_ok (pc := 4) hx hb dX9_cutNumber_4 rfl hk) ?_
  refine rz_All_c (i := 3) (fun k J hk hJ => rz_cald_ok (pc := 5) hx hb hK dX9_cutNumber_5 hk) ?_
  refine rz_All_c (i := 4) (fun k J hk hJ => rz_bipush_ok (pc := 6) hx hb dX9_cutNumber_6 (by decide) hk) ?_
  refine rz_All_c (i := 5) (fun k J hk hJ => rz_icmpne_ok (pc := 8) hx hb dX9_cutNumber_8 rfl hk (hJ 7)) ?_
  refine rz_All_c (i := 6) (fun k J hk hJ => rz_no_ok) ?_
  refine rz_All_c (i := 7) (fun k J hk hJ => rz_iconst_ok (pc := 15) hx hb dX9_cutNumber_15 rfl hk) ?_
  refine rz_All_c (i := 8) (fun k J hk hJ => rz_istore_n_ok (pc := 16) hx hb dX9_cutNumber_16 rfl hk) ?_
  refine rz_All_c (i := 9) (fun k J hk hJ => rz_iload_n_ok (pc := 17) hx hb dX9_cutNumber_17 rfl hk) ?_
  refine rz_All_c (i := 10) (fun k J hk hJ => rz_ifeq_ok (pc := 18) hx hb dX9_cutNumber_18 rfl hk (hJ 12)) ?_
  refine rz_All_c (i := 11) (fun k J hk hJ => rz_no_ok) ?_
  refine rz_All_c (i := 12) (fun k J hk hJ => rz_iload_n_ok (pc := 27) hx hb dX9_cutNumber_27 rfl hk) ?_
  refine rz_All_c (i := 13) (fun k J hk hJ => rz_istore_n_ok (pc := 28) hx hb dX9_cutNumber_28 rfl hk) ?_
  refine rz_All_c (i := 14) (fun k J hk hJ => rz_iload_n_ok (pc := 29) hx hb dX9_cutNumber_29 rfl hk) ?_
  refine rz_All_c (i := 15) (fun k J hk hJ => rz_istore_ok (pc := 30) hx hb dX9_cutNumber_30 hk) ?_
  refine rz_All_c (i := 16) (fun k J hk hJ => rz_lconst_ok (pc := 32) hx hb dX9_cutNumber_32 rfl hk) ?_
  refine rz_All_c (i := 17) (fun k J hk hJ => rz_lstore_ok (pc := 33) hx hb dX9_cutNumber_33 hk) ?_
  refine rz_All_c (i := 18) (fun k J hk hJ => rz_iload_n_ok (pc := 35) hx hb dX9_cutNumber_35 rfl hk) ?_
  refine rz_All_c (i := 19) (fun k J hk hJ => rz_aload_n_ok (pc := 36) hx hb dX9_cutNumber_36 rfl hk) ?_
  refine rz_All_c (i := 20) (fun k J hk hJ => rz_getf_ok (pc := 37) (own := RX9) (ref := "ThreadJudge$Reader") (C := RX9) (T := TX9) (N := 19) (ci := 11) (index := 132) (f := 10) (t := 0) (Ts := Cond.code yX9_cutNumber cX9_cutNumber 7 (some .int) :: rz_TB) hx hb hts rz_in11 ho hK rfl (by decide) rfl (fun _ => rfl) (hw (i := 3) (j := 21) rfl rfl) (fun _ z => z) dX9_cutNumber_37 hk) ?_
  refine rz_All_c (i := 21) (fun k J hk hJ => rz_icmpge_ok (pc := 40) hx hb dX9_cutNumber_40 rfl hk (hJ 44)) ?_
  refine rz_All_c (i := 22) (fun k J hk hJ => rz_aload_n_ok (pc := 43) hx hb dX9_cutNumber_43 rfl hk) ?_
  refine rz_All_c (i := 23) (fun k J hk hJ => rz_getf_ok (pc := 44) (own := RX9) (ref := "ThreadJudge$Reader") (C := RX9) (T := TX9) (N := 19) (ci := 11) (index := 83) (f := 9) (t := 2) (Ts := Cond.code yX9_cutNumber cX9_cutNumber 7 (some .int) :: rz_TB) hx hb hts rz_in11 ho hK rfl (by decide) rfl (fun _ => rfl) (hw (i := 3) (j := 20) rfl rfl) (fun _ z => z) dX9_cutNumber_44 hk) ?_
  refine rz_All_c (i := 24) (fun k J hk hJ => rz_iload_n_ok (pc := 47) hx hb dX9_cutNumber_47 rfl hk) ?_
  refine rz_All_c (i := 25) (fun k J hk hJ => rz_cald_ok (pc := 48) hx hb hK dX9_cutNumber_48 hk) ?_
  refine rz_All_c (i := 26) (fun k J hk hJ => rz_callS_ok (pc := 49) (own := RX9) hC rfl (rmX9_isDigit l hG) (rz_cwS 1 hC rz_good (rz_mem (i := 4) (j := 15) rfl rfl) (rz_mem (i := 4) (j := 16) rfl rfl) (rz_mem (i := 1) (j := 21) rfl rfl) (rz_mem (i := 4) (j := 17) rfl rfl) ⟨rfl, by decide, by decide, by decide +kernel⟩ rfl rfl ⟨by decide, by decide⟩) dX9_cutNumber_49 hk) ?_
  refine rz_All_c (i := 27) (fun k J hk hJ => rz_ifeq_ok (pc := 52) hx hb dX9_cutNumber_52 rfl hk (hJ 44)) ?_
  refine rz_All_c (i := 28) (fun k J hk hJ => rz_lload_ok (pc := 55) hx hb dX9_cutNumber_55 hk) ?_
  refine rz_All_c (i := 29) (fun k J hk hJ => rz_ldc2_ok (pc := 57) hx hb (own := RX9) ho (hw (i := 5) (j := 11) rfl rfl) (by decide) dX9_cutNumber_57 hk) ?_
  refine rz_All_c (i := 30) (fun k J hk hJ => rz_lmul_ok (pc := 60) hx hb dX9_cutNumber_60 hk) ?_
  refine rz_All_c (i := 31) (fun k J hk hJ => rz_aload_n_ok (pc := 61) hx hb dX9_cutNumber_61 rfl hk) ?_
  refine rz_All_c (i := 32) (fun k J hk hJ => rz_getf_ok (pc := 62) (own := RX9) (ref := "ThreadJudge$Reader") (C := RX9) (T := TX9) (N := 19) (ci := 11) (index := 83) (f := 9) (t := 2) (Ts := Cond.code yX9_cutNumber cX9_cutNumber 7 (some .int) :: rz_TB) hx hb hts rz_in11 ho hK rfl (by decide) rfl (fun _ => rfl) (hw (i := 3) (j := 20) rfl rfl) (fun _ z => z) dX9_cutNumber_62 hk) ?_
  refine rz_All_c (i := 33) (fun k J hk hJ => rz_iload_n_ok (pc := 65) hx hb dX9_cutNumber_65 rfl hk) ?_
  refine rz_All_c (i := 34) (fun k J hk hJ => rz_cald_ok (pc := 66) hx hb hK dX9_cutNumber_66 hk) ?_
  refine rz_All_c (i := 35) (fun k J hk hJ => rz_i2l_ok (pc := 67) hx hb dX9_cutNumber_67 hk) ?_
  refine rz_All_c (i := 36) (fun k J hk hJ => rz_ladd_ok (pc := 68) hx hb dX9_cutNumber_68 hk) ?_
  refine rz_All_c (i := 37) (fun k J hk hJ => rz_ldc2_ok (pc := 69) hx hb (own := RX9) ho (hw (i := 5) (j := 12) rfl rfl) (by decide) dX9_cutNumber_69 hk) ?_
  refine rz_All_c (i := 38) (fun k J hk hJ => rz_lsub_ok (pc := 72) hx hb dX9_cutNumber_72 hk) ?_
  refine rz_All_c (i := 39) (fun k J hk hJ => rz_ldc2_ok (pc := 73) hx hb (own := RX9) ho (hw (i := 5) (j := 13) rfl rfl) (by decide) dX9_cutNumber_73 hk) ?_
  refine rz_All_c (i := 40) (fun k J hk hJ => rz_lmin_ok (pc := 76) (own := RX9) hx hb hml ho (hw (i := 5) (j := 14) rfl rfl) (hw (i := 5) (j := 15) rfl rfl) (hw (i := 5) (j := 16) rfl rfl) (hw (i := 5) (j := 17) rfl rfl) (by rw [hRm]; decide) (by rw [hRm]; decide) dX9_cutNumber_76 hk) ?_
  refine rz_All_c (i := 41) (fun k J hk hJ => rz_lstore_ok (pc := 79) hx hb dX9_cutNumber_79 hk) ?_
  refine rz_All_c (i := 42) (fun k J hk hJ => rz_iinc_ok (pc := 81) hx hb dX9_cutNumber_81 (by decide) hk) ?_
  refine rz_All_c (i := 43) (fun k J hk hJ => rz_goto_ok (pc := 84) hx hb dX9_cutNumber_84 rfl (hJ 18)) ?_
  refine rz_All_c (i := 44) (fun k J hk hJ => rz_iload_n_ok (pc := 87) hx hb dX9_cutNumber_87 rfl hk) ?_
  refine rz_All_c (i := 45) (fun k J hk hJ => rz_ifeq_ok (pc := 88) hx hb dX9_cutNumber_88 rfl hk (hJ 47)) ?_
  refine rz_All_c (i := 46) (fun k J hk hJ => rz_no_ok) ?_
  refine rz_All_c (i := 47) (fun k J hk hJ => rz_lload_ok (pc := 97) hx hb dX9_cutNumber_97 hk) ?_
  refine rz_All_c (i := 48) (fun k J hk hJ => rz_lstore_ok (pc := 99) hx hb dX9_cutNumber_99 hk) ?_
  refine rz_All_c (i := 49) (fun k J hk hJ => rz_iload_n_ok (pc := 101) hx hb dX9_cutNumber_101 rfl hk) ?_
  refine rz_All_c (i := 50) (fun k J hk hJ => rz_iload_ok (pc := 102) hx hb dX9_cutNumber_102 hk) ?_
  refine rz_All_c (i := 51) (fun k J hk hJ => rz_icmpeq_ok (pc := 104) hx hb dX9_cutNumber_104 rfl hk (hJ 60)) ?_
  refine rz_All_c (i := 52) (fun k J hk hJ => rz_lload_ok (pc := 107) hx hb dX9_cutNumber_107 hk) ?_
  refine rz_All_c (i := 53) (fun k J hk hJ => rz_ldc2_ok (pc := 109) hx hb (own := RX9) ho (hw (i := 5) (j := 18) rfl rfl) (by decide) dX9_cutNumber_109 hk) ?_
  refine rz_All_c (i := 54) (fun k J hk hJ => rz_lcmp_ok (pc := 112) hx hb dX9_cutNumber_112 hk) ?_
  refine rz_All_c (i := 55) (fun k J hk hJ => rz_iflt_ok (pc := 113) hx hb dX9_cutNumber_113 rfl hk (hJ 60)) ?_
  refine rz_All_c (i := 56) (fun k J hk hJ => rz_lload_ok (pc := 116) hx hb dX9_cutNumber_116 hk) ?_
  refine rz_All_c (i := 57) (fun k J hk hJ => rz_ldc2_ok (pc := 118) hx hb (own := RX9) ho (hw (i := 5) (j := 19) rfl rfl) (by decide) dX9_cutNumber_118 hk) ?_
  refine rz_All_c (i := 58) (fun k J hk hJ => rz_lcmp_ok (pc := 121) hx hb dX9_cutNumber_121 hk) ?_
  refine rz_All_c (i := 59) (fun k J hk hJ => rz_ifle_ok (pc := 122) hx hb dX9_cutNumber_122 rfl hk (hJ 61)) ?_
  refine rz_All_c (i := 60) (fun k J hk hJ => rz_no_ok) ?_
  refine rz_All_c (i := 61) (fun k J hk hJ => rz_aload_n_ok (pc := 131) hx hb dX9_cutNumber_131 rfl hk) ?_
  refine rz_All_c (i := 62) (fun k J hk hJ => rz_iconst_ok (pc := 132) hx hb dX9_cutNumber_132 rfl hk) ?_
  refine rz_All_c (i := 63) (fun k J hk hJ => rz_iload_n_ok (pc := 133) hx hb dX9_cutNumber_133 rfl hk) ?_
  refine rz_All_c (i := 64) (fun k J hk hJ => rz_lload_ok (pc := 134) hx hb dX9_cutNumber_134 hk) ?_
  refine rz_All_c (i := 65) (fun k J hk hJ => rz_l2i_ok (pc := 136) hx hb dX9_cutNumber_136 hk) ?_
  refine rz_All_c (i := 66) (fun k J hk hJ => rz_callVv_ok (pc := 137) (own := RX9) (C := RX9) (T0 := TX9) (N0 := 19) hC rfl (rmX9_token l hG) (rz_cwV 3 hC rz_good (rz_mem (i := 4) (j := 22) rfl rfl) (rz_mem (i := 4) (j := 23) rfl rfl) (rz_mem (i := 5) (j := 0) rfl rfl) (rz_mem (i := 1) (j := 21) rfl rfl) (rz_mem (i := 5) (j := 1) rfl rfl) ⟨rfl, by decide, by decide, by decide +kernel⟩ rfl rfl ⟨by decide, by decide⟩) rfl dX9_cutNumber_137 hk) ?_
  refine rz_All_c (i := 67) (fun k J hk hJ => rz_iload_n_ok (pc := 140) hx hb dX9_cutNumber_140 rfl hk) ?_
  refine rz_All_c (i := 68) (fun k J hk hJ => rz_aload_n_ok (pc := 141) hx hb dX9_cutNumber_141 rfl hk) ?_
  refine rz_All_c (i := 69) (fun k J hk hJ => rz_getf_ok (pc := 142) (own := RX9) (ref := "ThreadJudge$Reader") (C := RX9) (T := TX9) (N := 19) (ci := 11) (index := 132) (f := 10) (t := 0) (Ts := Cond.code yX9_cutNumber cX9_cutNumber 7 (some .int) :: rz_TB) hx hb hts rz_in11 ho hK rfl (by decide) rfl (fun _ => rfl) (hw (i := 3) (j := 21) rfl rfl) (fun _ z => z) dX9_cutNumber_142 hk) ?_
  refine rz_All_c (i := 70) (fun k J hk hJ => rz_icmpge_ok (pc := 145) hx hb dX9_cutNumber_145 rfl hk (hJ 78)) ?_
  refine rz_All_c (i := 71) (fun k J hk hJ => rz_aload_n_ok (pc := 148) hx hb dX9_cutNumber_148 rfl hk) ?_
  refine rz_All_c (i := 72) (fun k J hk hJ => rz_getf_ok (pc := 149) (own := RX9) (ref := "ThreadJudge$Reader") (C := RX9) (T := TX9) (N := 19) (ci := 11) (index := 83) (f := 9) (t := 2) (Ts := Cond.code yX9_cutNumber cX9_cutNumber 7 (some .int) :: rz_TB) hx hb hts rz_in11 ho hK rfl (by decide) rfl (fun _ => rfl) (hw (i := 3) (j := 20) rfl rfl) (fun _ z => z) dX9_cutNumber_149 hk) ?_
  refine rz_All_c (i := 73) (fun k J hk hJ => rz_iload_n_ok (pc := 152) hx hb dX9_cutNumber_152 rfl hk) ?_
  refine rz_All_c (i := 74) (fun k J hk hJ => rz_cald_ok (pc := 153) hx hb hK dX9_cutNumber_153 hk) ?_
  refine rz_All_c (i := 75) (fun k J hk hJ => rz_callS_ok (pc := 154) (own := RX9) hC rfl (rmX9_opensWord l hG) (rz_cwS 1 hC rz_good (rz_mem (i := 4) (j := 9) rfl rfl) (rz_mem (i := 4) (j := 10) rfl rfl) (rz_mem (i := 1) (j := 21) rfl rfl) (rz_mem (i := 4) (j := 11) rfl rfl) ⟨rfl, by decide, by decide, by decide +kernel⟩ rfl rfl ⟨by decide, by decide⟩) dX9_cutNumber_154 hk) ?_
  refine rz_All_c (i := 76) (fun k J hk hJ => rz_ifeq_ok (pc := 157) hx hb dX9_cutNumber_157 rfl hk (hJ 78)) ?_
  refine rz_All_c (i := 77) (fun k J hk hJ => rz_no_ok) ?_
  refine rz_All_c (i := 78) (fun k J hk hJ => rz_iload_n_ok (pc := 179) hx hb dX9_cutNumber_179 rfl hk) ?_
  refine rz_All_c (i := 79) (fun k J hk hJ => rz_iret_ok (pc := 180) hC dX9_cutNumber_180) ?_
  exact trivial
theorem dX9_isInWord_0 : decode cX9_isInWord 0 = .ok (.iload_n 0, 1) := by decide +kernel
theorem dX9_isInWord_1 : decode cX9_isInWord 1 = .ok (.invokestatic 122, 3) := by decide +kernel
theorem dX9_isInWord_4 : decode cX9_isInWord 4 = .ok (.ifCond .eq 9, 3) := by decide +kernel
theorem dX9_isInWord_7 : decode cX9_isInWord 7 = .ok (.iload_n 0, 1) := by decide +kernel
theorem dX9_isInWord_8 : decode cX9_isInWord 8 = .ok (.bipush 60, 2) := by decide +kernel
theorem dX9_isInWord_10 : decode cX9_isInWord 10 = .ok (.if_icmp .ne 16, 3) := by decide +kernel
theorem dX9_isInWord_13 : decode cX9_isInWord 13 = .ok (.iload_n 0, 1) := by decide +kernel
theorem dX9_isInWord_14 : decode cX9_isInWord 14 = .ok (.invokestatic 126, 3) := by decide +kernel
theorem dX9_isInWord_17 : decode cX9_isInWord 17 = .ok (.ifCond .ne 9, 3) := by decide +kernel
theorem dX9_isInWord_20 : decode cX9_isInWord 20 = .ok (.iload_n 0, 1) := by decide +kernel
theorem dX9_isInWord_21 : decode cX9_isInWord 21 = .ok (.bipush 62, 2) := by decide +kernel
theorem dX9_isInWord_23 : decode cX9_isInWord 23 = .ok (.if_icmp .ne 7, 3) := by decide +kernel
theorem dX9_isInWord_26 : decode cX9_isInWord 26 = .ok (.iconst 1, 1) := by decide +kernel
theorem dX9_isInWord_27 : decode cX9_isInWord 27 = .ok (.goto 4, 3) := by decide +kernel
theorem dX9_isInWord_30 : decode cX9_isInWord 30 = .ok (.iconst 0, 1) := by decide +kernel
theorem dX9_isInWord_31 : decode cX9_isInWord 31 = .ok (.ireturn, 1) := by decide +kernel
def rpX9_isInWord : List Nat := [0, 1, 4, 7, 8, 10, 13, 14, 17, 20, 21, 23, 26, 27, 30, 31]
noncomputable def rcX9_isInWord : List rz_B := [rz_iload 0, rz_callS 1 rgX9_opensWord, rz_ifeq 6, rz_iload 0, rz_cst 60, rz_icmpne 12, rz_iload 0, rz_callS 1 rgX9_isDigit, rz_ifne 12, rz_iload 0, rz_cst 62, rz_icmpne 14, rz_cst 1, rz_goto 15, rz_cst 0, rz_zret]
noncomputable def rgX9_isInWord : rz_L → rz_M → rz_Z → Bool := rz_go rcX9_isInWord 1 1000000
def rrX9_isInWord : Room := { frames := 1, cells := 0, slots := 0, locals := 20 }
theorem rmX9_isInWord (l : Launch) {G : rz_G} (hG : rz_Gd G) (vs : rz_L) (M : rz_M) (Z : rz_Z) (hn : vs.length = 1) (h : rgX9_isInWord vs M Z = true) : Met l yX9_isInWord (Cond.code yX9_isInWord cX9_isInWord 1 (some .boolean) :: rz_TB) rrX9_isInWord (rz_Pre G vs M) (rz_Qi G M.2 Z) 0 0 (fun q => rz_b G ≤ q) := by
  obtain ⟨D, tc, ad, b, xs, rfl⟩ := id hG
  refine rz_body (pcs := rpX9_isInWord) (by decide) rfl (by rw [hn]; decide) h ?_
  intro p e R s m args below meth c hC
  obtain ⟨hx, hb, hml, hr, hlk, ho, hts, hKn, hRm⟩ := id hC
  obtain ⟨hK, hA, hSt⟩ := id hKn
  have hw : ∀ {i j : Nat} {ws : List Cond} {w : Cond}, rz_WW[i]? = some ws → ws[j]? = some w → w.before args s = true := fun h1 h2 => hts _ (List.mem_cons_of_mem _ (rz_mem h1 h2))
  refine rz_All_c (i := 0) (fun k J hk hJ => rz_iload_n_ok (pc := 0) hx hb dX9_isInWord_0 rfl hk) ?_
  refine rz_All_c (i := 1) (fun k J hk hJ => rz_callS_ok (pc := 1) (own := RX9) hC rfl (rmX9_opensWord l hG) (rz_cwS 1 hC rz_good (rz_mem (i := 4) (j := 9) rfl rfl) (rz_mem (i := 4) (j := 10) rfl rfl) (rz_mem (i := 1) (j := 21) rfl rfl) (rz_mem (i := 4) (j := 11) rfl rfl) ⟨rfl, by decide, by decide, by decide +kernel⟩ rfl rfl ⟨by decide, by decide⟩) dX9_isInWord_1 hk) ?_
  refine rz_All_c (i := 2) (fun k J hk hJ => rz_ifeq_ok (pc := 4) hx hb dX9_isInWord_4 rfl hk (hJ 6)) ?_
  refine rz_All_c (i := 3) (fun k J hk hJ => rz_iload_n_ok (pc := 7) hx hb dX9_isInWord_7 rfl hk) ?_
  refine rz_All_c (i := 4) (fun k J hk hJ => rz_bipush_ok (pc := 8) hx hb dX9_isInWord_8 (by decide) hk) ?_
  refine rz_All_c (i := 5) (fun k J hk hJ => rz_icmpne_ok (pc := 10) hx hb dX9_isInWord_10 rfl hk (hJ 12)) ?_
  refine rz_All_c (i := 6) (fun k J hk hJ => rz_iload_n_ok (pc := 13) hx hb dX9_isInWord_13 rfl hk) ?_
  refine rz_All_c (i := 7) (fun k J hk hJ => rz_callS_ok (pc := 14) (own := RX9) hC rfl (rmX9_isDigit l hG) (rz_cwS 1 hC rz_good (rz_mem (i := 4) (j := 15) rfl rfl) (rz_mem (i := 4) (j := 16) rfl rfl) (rz_mem (i := 1) (j := 21) rfl rfl) (rz_mem (i := 4) (j := 17) rfl rfl) ⟨rfl, by decide, by decide, by decide +kernel⟩ rfl rfl ⟨by decide, by decide⟩) dX9_isInWord_14 hk) ?_
  refine rz_All_c (i := 8) (fun k J hk hJ => rz_ifne_ok (pc := 17) hx hb dX9_isInWord_17 rfl hk (hJ 12)) ?_
  refine rz_All_c (i := 9) (fun k J hk hJ => rz_iload_n_ok (pc := 20) hx hb dX9_isInWord_20 rfl hk) ?_
  refine rz_All_c (i := 10) (fun k J hk hJ => rz_bipush_ok (pc := 21) hx hb dX9_isInWord_21 (by decide) hk) ?_
  refine rz_All_c (i := 11) (fun k J hk hJ => rz_icmpne_ok (pc := 23) hx hb dX9_isInWord_23 rfl hk (hJ 14)) ?_
  refine rz_All_c (i := 12) (fun k J hk hJ => rz_iconst_ok (pc := 26) hx hb dX9_isInWord_26 rfl hk) ?_
  refine rz_All_c (i := 13) (fun k J hk hJ => rz_goto_ok (pc := 27) hx hb dX9_isInWord_27 rfl (hJ 15)) ?_
  refine rz_All_c (i := 14) (fun k J hk hJ => rz_iconst_ok (pc := 30) hx hb dX9_isInWord_30 rfl hk) ?_
  refine rz_All_c (i := 15) (fun k J hk hJ => rz_zret_ok (pc := 31) hC dX9_isInWord_31) ?_
  exact trivial
theorem dX9_take_0 : decode cX9_take 0 = .ok (.aload_n 0, 1) := by decide +kernel
theorem dX9_take_1 : decode cX9_take 1 = .ok (.iload_n 1, 1) := by decide +kernel
theorem dX9_take_2 : decode cX9_take 2 = .ok (.iload_n 2, 1) := by decide +kernel
theorem dX9_take_3 : decode cX9_take 3 = .ok (.iload 4, 2) := by decide +kernel
theorem dX9_take_5 : decode cX9_take 5 = .ok (.invokevirtual 142, 3) := by decide +kernel
theorem dX9_take_8 : decode cX9_take 8 = .ok (.iload_n 3, 1) := by decide +kernel
theorem dX9_take_9 : decode cX9_take 9 = .ok (.ireturn, 1) := by decide +kernel
def rpX9_take : List Nat := [0, 1, 2, 3, 5, 8, 9]
noncomputable def rcX9_take : List rz_B := [rz_aload 0, rz_iload 1, rz_iload 2, rz_iload 4, rz_callVv 3 (Nat.add (Nat.mul 256 11) 1) rgX9_token, rz_iload 3, rz_iret]
noncomputable def rgX9_take : rz_L → rz_M → rz_Z → Bool := rz_go rcX9_take 5 1000000
def rrX9_take : Room := { frames := 1, cells := 0, slots := 0, locals := 23 }
theorem rmX9_take (l : Launch) {G : rz_G} (hG : rz_Gd G) (vs : rz_L) (M : rz_M) (Z : rz_Z) (hn : vs.length = 5) (h : rgX9_take vs M Z = true) : Met l yX9_take (Cond.code yX9_take cX9_take 5 (some .int) :: rz_TB) rrX9_take (rz_Pre G vs M) (rz_Qi G M.2 Z) 0 0 (fun q => rz_b G ≤ q) := by
  obtain ⟨D, tc, ad, b, xs, rfl⟩ := id hG
  refine rz_body (pcs := rpX9_take) (by decide) rfl (by rw [hn]; decide) h ?_
  intro p e R s m args below meth c hC
  obtain ⟨hx, hb, hml, hr, hlk, ho, hts, hKn, hRm⟩ := id hC
  obtain ⟨hK, hA, hSt⟩ := id hKn
  have hw : ∀ {i j : Nat} {ws : List Cond} {w : Cond}, rz_WW[i]? = some ws → ws[j]? = some w → w.before args s = true := fun h1 h2 => hts _ (List.mem_cons_of_mem _ (rz_mem h1 h2))
  refine rz_All_c (i := 0) (fun k J hk hJ => rz_aload_n_ok (pc := 0) hx hb dX9_take_0 rfl hk) ?_
  refine rz_All_c (i := 1) (fun k J hk hJ => rz_iload_n_ok (pc := 1) hx hb dX9_take_1 rfl hk) ?_
  refine rz_All_c (i := 2) (fun k J hk hJ => rz_iload_n_ok (pc := 2) hx hb dX9_take_2 rfl hk) ?_
  refine rz_All_c (i := 3) (fun k J hk hJ => rz_iload_ok (pc := 3) hx hb dX9_take_3 hk) ?_
  refine rz_All_c (i := 4) (fun k J hk hJ => rz_callVv_ok (pc := 5) (own := RX9) (C := RX9) (T0 := TX9) (N0 := 19) hC rfl (rmX9_token l hG) (rz_cwV 3 hC rz_good (rz_mem (i := 4) (j := 22) rfl rfl) (rz_mem (i := 4) (j := 23) rfl rfl) (rz_mem (i := 5) (j := 0) rfl rfl) (rz_mem (i := 1) (j := 21) rfl rfl) (rz_mem (i := 5) (j := 1) rfl rfl) ⟨rfl, by decide, by decide, by decide +kernel⟩ rfl rfl ⟨by decide, by decide⟩) rfl dX9_take_5 hk) ?_
  refine rz_All_c (i := 5) (fun k J hk hJ => rz_iload_n_ok (pc := 8) hx hb dX9_take_8 rfl hk) ?_
  refine rz_All_c (i := 6) (fun k J hk hJ => rz_iret_ok (pc := 9) hC dX9_take_9) ?_
  exact trivial
theorem dJ0_coder_7d493_0 : decode cJ0_coder_7d493 0 = .ok (.getstatic 38, 3) := by decide +kernel
theorem dJ0_coder_7d493_3 : decode cJ0_coder_7d493 3 = .ok (.ifCond .eq 10, 3) := by decide +kernel
theorem dJ0_coder_7d493_6 : decode cJ0_coder_7d493 6 = .ok (.aload_n 0, 1) := by decide +kernel
theorem dJ0_coder_7d493_7 : decode cJ0_coder_7d493 7 = .ok (.getfield 15, 3) := by decide +kernel
theorem dJ0_coder_7d493_10 : decode cJ0_coder_7d493 10 = .ok (.goto 4, 3) := by decide +kernel
theorem dJ0_coder_7d493_14 : decode cJ0_coder_7d493 14 = .ok (.ireturn, 1) := by decide +kernel
def rpJ0_coder_7d493 : List Nat := [0, 3, 6, 7, 10, 13, 14]
noncomputable def rcJ0_coder_7d493 : List rz_B := [rz_cst 1, rz_ifeq 5, rz_aload 0, rz_tcod, rz_goto 6, rz_no, rz_bret]
noncomputable def rgJ0_coder_7d493 : rz_L → rz_M → rz_Z → Bool := rz_go rcJ0_coder_7d493 1 1000000
def rrJ0_coder_7d493 : Room := { frames := 0, cells := 0, slots := 0, locals := 0 }
theorem rmJ0_coder_7d493 (l : Launch) {G : rz_G} (hG : rz_Gd G) (vs : rz_L) (M : rz_M) (Z : rz_Z) (hn : vs.length = 1) (h : rgJ0_coder_7d493 vs M Z = true) : Met l yJ0_coder_7d493 (Cond.code yJ0_coder_7d493 cJ0_coder_7d493 1 (some .byte) :: rz_TB) rrJ0_coder_7d493 (rz_Pre G vs M) (rz_Qi G M.2 Z) 0 0 (fun q => rz_b G ≤ q) := by
  obtain ⟨D, tc, ad, b, xs, rfl⟩ := id hG
  refine rz_body (pcs := rpJ0_coder_7d493) (by decide) rfl (by rw [hn]; decide) h ?_
  intro p e R s m args below meth c hC
  obtain ⟨hx, hb, hml, hr, hlk, ho, hts, hKn, hRm⟩ := id hC
  obtain ⟨hK, hA, hSt⟩ := id hKn
  have hw : ∀ {i j : Nat} {ws : List Cond} {w : Cond}, rz_WW[i]? = some ws → ws[j]? = some w → w.before args s = true := fun h1 h2 => hts _ (List.mem_cons_of_mem _ (rz_mem h1 h2))
  refine rz_All_c (i := 0) (fun k J hk hJ => rz_gets_ok (pc := 0) (own := RJ0) (ref := "java/lang/String") (index := 38) hx hb hSt.2.2.2.1 rfl ho (hw (i := 6) (j := 10) rfl rfl) (fun _ z => z) dJ0_coder_7d493_0 hk) ?_
  refine rz_All_c (i := 1) (fun k J hk hJ => rz_ifeq_ok (pc := 3) hx hb dJ0_coder_7d493_3 rfl hk (hJ 5)) ?_
  refine rz_All_c (i := 2) (fun k J hk hJ => rz_aload_n_ok (pc := 6) hx hb dJ0_coder_7d493_6 rfl hk) ?_
  refine rz_All_c (i := 3) (fun k J hk hJ => rz_tcod_ok (pc := 7) (own := RJ0) (ref := "java/lang/String") (index := 15) hx hb hSt ho (hw (i := 6) (j := 11) rfl rfl) (fun _ z => z) dJ0_coder_7d493_7 hk) ?_
  refine rz_All_c (i := 4) (fun k J hk hJ => rz_goto_ok (pc := 10) hx hb dJ0_coder_7d493_10 rfl (hJ 6)) ?_
  refine rz_All_c (i := 5) (fun k J hk hJ => rz_no_ok) ?_
  refine rz_All_c (i := 6) (fun k J hk hJ => rz_bret_ok (pc := 14) (rt := none) hC dJ0_coder_7d493_14) ?_
  exact trivial
theorem dJ0_length_8abf5_0 : decode cJ0_length_8abf5 0 = .ok (.aload_n 0, 1) := by decide +kernel
theorem dJ0_length_8abf5_1 : decode cJ0_length_8abf5 1 = .ok (.getfield 9, 3) := by decide +kernel
theorem dJ0_length_8abf5_4 : decode cJ0_length_8abf5 4 = .ok (.arraylength, 1) := by decide +kernel
theorem dJ0_length_8abf5_5 : decode cJ0_length_8abf5 5 = .ok (.aload_n 0, 1) := by decide +kernel
theorem dJ0_length_8abf5_6 : decode cJ0_length_8abf5 6 = .ok (.invokevirtual 335, 3) := by decide +kernel
theorem dJ0_length_8abf5_9 : decode cJ0_length_8abf5 9 = .ok (.ishr, 1) := by decide +kernel
theorem dJ0_length_8abf5_10 : decode cJ0_length_8abf5 10 = .ok (.ireturn, 1) := by decide +kernel
def rpJ0_length_8abf5 : List Nat := [0, 1, 4, 5, 6, 9, 10]
noncomputable def rcJ0_length_8abf5 : List rz_B := [rz_aload 0, rz_tval, rz_tlen, rz_aload 0, rz_callT 0 rgJ0_coder_7d493, rz_ishr, rz_iret]
noncomputable def rgJ0_length_8abf5 : rz_L → rz_M → rz_Z → Bool := rz_go rcJ0_length_8abf5 1 1000000
def rrJ0_length_8abf5 : Room := { frames := 1, cells := 0, slots := 0, locals := 20 }
theorem rmJ0_length_8abf5 (l : Launch) {G : rz_G} (hG : rz_Gd G) (vs : rz_L) (M : rz_M) (Z : rz_Z) (hn : vs.length = 1) (h : rgJ0_length_8abf5 vs M Z = true) : Met l yJ0_length_8abf5 (Cond.code yJ0_length_8abf5 cJ0_length_8abf5 1 (some .int) :: rz_TB) rrJ0_length_8abf5 (rz_Pre G vs M) (rz_Qi G M.2 Z) 0 0 (fun q => rz_b G ≤ q) := by
  obtain ⟨D, tc, ad, b, xs, rfl⟩ := id hG
  refine rz_body (pcs := rpJ0_length_8abf5) (by decide) rfl (by rw [hn]; decide) h ?_
  intro p e R s m args below meth c hC
  obtain ⟨hx, hb, hml, hr, hlk, ho, hts, hKn, hRm⟩ := id hC
  obtain ⟨hK, hA, hSt⟩ := id hKn
  have hw : ∀ {i j : Nat} {ws : List Cond} {w : Cond}, rz_WW[i]? = some ws → ws[j]? = some w → w.before args s = true := fun h1 h2 => hts _ (List.mem_cons_of_mem _ (rz_mem h1 h2))
  refine rz_All_c (i := 0) (fun k J hk hJ => rz_aload_n_ok (pc := 0) hx hb dJ0_length_8abf5_0 rfl hk) ?_
  refine rz_All_c (i := 1) (fun k J hk hJ => rz_tval_ok (pc := 1) (own := RJ0) (ref := "java/lang/String") (index := 9) hx hb hSt ho (hw (i := 6) (j := 5) rfl rfl) (fun _ z => z) dJ0_length_8abf5_1 hk) ?_
  refine rz_All_c (i := 2) (fun k J hk hJ => rz_tlen_ok (pc := 4) hx hb hSt dJ0_length_8abf5_4 hk) ?_
  refine rz_All_c (i := 3) (fun k J hk hJ => rz_aload_n_ok (pc := 5) hx hb dJ0_length_8abf5_5 rfl hk) ?_
  refine rz_All_c (i := 4) (fun k J hk hJ => rz_callT_ok (pc := 6) (own := RJ0) hC rfl (rmJ0_coder_7d493 l hG) (rz_cwV 0 hC rz_good (rz_mem (i := 6) (j := 16) rfl rfl) (rz_mem (i := 6) (j := 17) rfl rfl) (rz_mem (i := 6) (j := 18) rfl rfl) (rz_mem (i := 5) (j := 23) rfl rfl) (rz_mem (i := 6) (j := 19) rfl rfl) ⟨rfl, by decide, by decide, by decide +kernel⟩ rfl rfl ⟨by decide, by decide⟩) dJ0_length_8abf5_6 hk) ?_
  refine rz_All_c (i := 5) (fun k J hk hJ => rz_ishr_ok (pc := 9) hx hb dJ0_length_8abf5_9 hk) ?_
  refine rz_All_c (i := 6) (fun k J hk hJ => rz_iret_ok (pc := 10) hC dJ0_length_8abf5_10) ?_
  exact trivial
theorem rz_lnA11 : ∀ (M : rz_M) (Z : rz_Z), rgJ0_length_8abf5 [rz_r (1000000 + 11 + 1)] M Z = Z (rz_i 116) M := fun _ _ => rfl
theorem rz_lnA12 : ∀ (M : rz_M) (Z : rz_Z), rgJ0_length_8abf5 [rz_r (1000000 + 12 + 1)] M Z = Z (rz_i 319) M := fun _ _ => rfl
noncomputable def rgJ0_length_8abf5_f : rz_L → rz_M → rz_Z → Bool := fun vs M Z => rz_hd vs (fun o U => rz_nil U (rz_at 1000000 o (fun i => (rz_if (Nat.beq i 11) (Z (rz_i 116) M) (rz_if (Nat.beq i 12) (Z (rz_i 319) M) (rgJ0_length_8abf5 vs M Z))))))
theorem rmJ0_length_8abf5_f (l : Launch) {G : rz_G} (hG : rz_Gd G) (vs : rz_L) (M : rz_M) (Z : rz_Z) (hn : vs.length = 1) (h : rgJ0_length_8abf5_f vs M Z = true) : Met l yJ0_length_8abf5 (Cond.code yJ0_length_8abf5 cJ0_length_8abf5 1 (some .int) :: rz_TB) rrJ0_length_8abf5 (rz_Pre G vs M) (rz_Qi G M.2 Z) 0 0 (fun q => rz_b G ≤ q) := by
  have h1 := rz_hd_t h
  clear h
  obtain ⟨o, U, rfl, h1⟩ := h1
  have h3 := rz_nil_t h1
  clear h1
  obtain ⟨rfl, h3⟩ := h3
  have h5 := rz_at_t h3
  clear h3
  obtain ⟨i, hi, rfl, h⟩ := h5
  rcases rz_if_t h with ⟨g, h⟩ | ⟨-, h⟩
  · have g : i = 11 := rz_beq.1.mp g
    subst g
    exact rmJ0_length_8abf5 l hG _ M Z hn ((rz_lnA11 M Z).trans h)
  · skip
    rcases rz_if_t h with ⟨g, h⟩ | ⟨-, h⟩
    · have g : i = 12 := rz_beq.1.mp g
      subst g
      exact rmJ0_length_8abf5 l hG _ M Z hn ((rz_lnA12 M Z).trans h)
    · skip
      exact rmJ0_length_8abf5 l hG _ M Z hn h
theorem dJ1_canEncode_9a6ad_0 : decode cJ1_canEncode_9a6ad 0 = .ok (.iload_n 0, 1) := by decide +kernel
theorem dJ1_canEncode_9a6ad_1 : decode cJ1_canEncode_9a6ad 1 = .ok (.ifCond .lt 14, 3) := by decide +kernel
theorem dJ1_canEncode_9a6ad_4 : decode cJ1_canEncode_9a6ad 4 = .ok (.iload_n 0, 1) := by decide +kernel
theorem dJ1_canEncode_9a6ad_5 : decode cJ1_canEncode_9a6ad 5 = .ok (.sipush 255, 3) := by decide +kernel
theorem dJ1_canEncode_9a6ad_8 : decode cJ1_canEncode_9a6ad 8 = .ok (.if_icmp .gt 7, 3) := by decide +kernel
theorem dJ1_canEncode_9a6ad_11 : decode cJ1_canEncode_9a6ad 11 = .ok (.iconst 1, 1) := by decide +kernel
theorem dJ1_canEncode_9a6ad_12 : decode cJ1_canEncode_9a6ad 12 = .ok (.goto 4, 3) := by decide +kernel
theorem dJ1_canEncode_9a6ad_16 : decode cJ1_canEncode_9a6ad 16 = .ok (.ireturn, 1) := by decide +kernel
def rpJ1_canEncode_9a6ad : List Nat := [0, 1, 4, 5, 8, 11, 12, 15, 16]
noncomputable def rcJ1_canEncode_9a6ad : List rz_B := [rz_iload 0, rz_iflt 7, rz_iload 0, rz_cst 255, rz_icmpgt 7, rz_cst 1, rz_goto 8, rz_no, rz_zret]
noncomputable def rgJ1_canEncode_9a6ad : rz_L → rz_M → rz_Z → Bool := rz_go rcJ1_canEncode_9a6ad 1 1000000
def rrJ1_canEncode_9a6ad : Room := { frames := 0, cells := 0, slots := 0, locals := 0 }
theorem rmJ1_canEncode_9a6ad (l : Launch) {G : rz_G} (hG : rz_Gd G) (vs : rz_L) (M : rz_M) (Z : rz_Z) (hn : vs.length = 1) (h : rgJ1_canEncode_9a6ad vs M Z = true) : Met l yJ1_canEncode_9a6ad (Cond.code yJ1_canEncode_9a6ad cJ1_canEncode_9a6ad 1 (some .boolean) :: rz_TB) rrJ1_canEncode_9a6ad (rz_Pre G vs M) (rz_Qi G M.2 Z) 0 0 (fun q => rz_b G ≤ q) := by
  obtain ⟨D, tc, ad, b, xs, rfl⟩ := id hG
  refine rz_body (pcs := rpJ1_canEncode_9a6ad) (by decide) rfl (by rw [hn]; decide) h ?_
  intro p e R s m args below meth c hC
  obtain ⟨hx, hb, hml, hr, hlk, ho, hts, hKn, hRm⟩ := id hC
  obtain ⟨hK, hA, hSt⟩ := id hKn
  have hw : ∀ {i j : Nat} {ws : List Cond} {w : Cond}, rz_WW[i]? = some ws → ws[j]? = some w → w.before args s = true := fun h1 h2 => hts _ (List.mem_cons_of_mem _ (rz_mem h1 h2))
  refine rz_All_c (i := 0) (fun k J hk hJ => rz_iload_n_ok (pc := 0) hx hb dJ1_canEncode_9a6ad_0 rfl hk) ?_
  refine rz_All_c (i := 1) (fun k J hk hJ => rz_iflt_ok (pc := 1) hx hb dJ1_canEncode_9a6ad_1 rfl hk (hJ 7)) ?_
  refine rz_All_c (i := 2) (fun k J hk hJ => rz_iload_n_ok (pc := 4) hx hb dJ1_canEncode_9a6ad_4 rfl hk) ?_
  refine rz_All_c (i := 3) (fun k J hk hJ => rz_sipush_ok (pc := 5) hx hb dJ1_canEncode_9a6ad_5 (by decide) hk) ?_
  refine rz_All_c (i := 4) (fun k J hk hJ => rz_icmpgt_ok (pc := 8) hx hb dJ1_canEncode_9a6ad_8 rfl hk (hJ 7)) ?_
  refine rz_All_c (i := 5) (fun k J hk hJ => rz_iconst_ok (pc := 11) hx hb dJ1_canEncode_9a6ad_11 rfl hk) ?_
  refine rz_All_c (i := 6) (fun k J hk hJ => rz_goto_ok (pc := 12) hx hb dJ1_canEncode_9a6ad_12 rfl (hJ 8)) ?_
  refine rz_All_c (i := 7) (fun k J hk hJ => rz_no_ok) ?_
  refine rz_All_c (i := 8) (fun k J hk hJ => rz_zret_ok (pc := 16) hC dJ1_canEncode_9a6ad_16) ?_
  exact trivial
