/-! Methods: handlers, facts, contracts. -/
theorem dX4_linkUp_0 : decode cX4_linkUp 0 = .ok (.aload_n 0, 1) := by decide +kernel
theorem dX4_linkUp_1 : decode cX4_linkUp 1 = .ok (.getfield 9, 3) := by decide +kernel
theorem dX4_linkUp_4 : decode cX4_linkUp 4 = .ok (.getfield 54, 3) := by decide +kernel
theorem dX4_linkUp_7 : decode cX4_linkUp 7 = .ok (.iconst 2, 1) := by decide +kernel
theorem dX4_linkUp_8 : decode cX4_linkUp 8 = .ok (.aaload, 1) := by decide +kernel
theorem dX4_linkUp_9 : decode cX4_linkUp 9 = .ok (.iload_n 1, 1) := by decide +kernel
theorem dX4_linkUp_10 : decode cX4_linkUp 10 = .ok (.iload_n 1, 1) := by decide +kernel
theorem dX4_linkUp_11 : decode cX4_linkUp 11 = .ok (.ifCond .ne 7, 3) := by decide +kernel
theorem dX4_linkUp_14 : decode cX4_linkUp 14 = .ok (.iconst (-1), 1) := by decide +kernel
theorem dX4_linkUp_15 : decode cX4_linkUp 15 = .ok (.goto 4, 3) := by decide +kernel
theorem dX4_linkUp_18 : decode cX4_linkUp 18 = .ok (.iconst 0, 1) := by decide +kernel
theorem dX4_linkUp_19 : decode cX4_linkUp 19 = .ok (.iastore, 1) := by decide +kernel
theorem dX4_linkUp_20 : decode cX4_linkUp 20 = .ok (.aload_n 0, 1) := by decide +kernel
theorem dX4_linkUp_21 : decode cX4_linkUp 21 = .ok (.getfield 9, 3) := by decide +kernel
theorem dX4_linkUp_24 : decode cX4_linkUp 24 = .ok (.getfield 54, 3) := by decide +kernel
theorem dX4_linkUp_27 : decode cX4_linkUp 27 = .ok (.bipush 6, 2) := by decide +kernel
theorem dX4_linkUp_29 : decode cX4_linkUp 29 = .ok (.aaload, 1) := by decide +kernel
theorem dX4_linkUp_30 : decode cX4_linkUp 30 = .ok (.iload_n 1, 1) := by decide +kernel
theorem dX4_linkUp_31 : decode cX4_linkUp 31 = .ok (.iaload, 1) := by decide +kernel
theorem dX4_linkUp_32 : decode cX4_linkUp 32 = .ok (.ifCond .ge 4, 3) := by decide +kernel
theorem dX4_linkUp_35 : decode cX4_linkUp 35 = .ok (.return_, 1) := by decide +kernel
theorem dX4_linkUp_36 : decode cX4_linkUp 36 = .ok (.aload_n 0, 1) := by decide +kernel
theorem dX4_linkUp_37 : decode cX4_linkUp 37 = .ok (.getfield 9, 3) := by decide +kernel
theorem dX4_linkUp_40 : decode cX4_linkUp 40 = .ok (.aload_n 0, 1) := by decide +kernel
theorem dX4_linkUp_41 : decode cX4_linkUp 41 = .ok (.getfield 9, 3) := by decide +kernel
theorem dX4_linkUp_44 : decode cX4_linkUp 44 = .ok (.getfield 54, 3) := by decide +kernel
theorem dX4_linkUp_47 : decode cX4_linkUp 47 = .ok (.bipush 6, 2) := by decide +kernel
theorem dX4_linkUp_49 : decode cX4_linkUp 49 = .ok (.aaload, 1) := by decide +kernel
theorem dX4_linkUp_50 : decode cX4_linkUp 50 = .ok (.iload_n 1, 1) := by decide +kernel
theorem dX4_linkUp_51 : decode cX4_linkUp 51 = .ok (.iaload, 1) := by decide +kernel
theorem dX4_linkUp_52 : decode cX4_linkUp 52 = .ok (.invokevirtual 58, 3) := by decide +kernel
theorem dX4_linkUp_55 : decode cX4_linkUp 55 = .ok (.istore_n 2, 1) := by decide +kernel
theorem dX4_linkUp_56 : decode cX4_linkUp 56 = .ok (.iload_n 2, 1) := by decide +kernel
theorem dX4_linkUp_57 : decode cX4_linkUp 57 = .ok (.ifCond .lt 27, 3) := by decide +kernel
theorem dX4_linkUp_60 : decode cX4_linkUp 60 = .ok (.aload_n 0, 1) := by decide +kernel
theorem dX4_linkUp_61 : decode cX4_linkUp 61 = .ok (.getfield 9, 3) := by decide +kernel
theorem dX4_linkUp_64 : decode cX4_linkUp 64 = .ok (.iload_n 2, 1) := by decide +kernel
theorem dX4_linkUp_65 : decode cX4_linkUp 65 = .ok (.iconst 1, 1) := by decide +kernel
theorem dX4_linkUp_66 : decode cX4_linkUp 66 = .ok (.invokevirtual 72, 3) := by decide +kernel
theorem dX4_linkUp_69 : decode cX4_linkUp 69 = .ok (.ifCond .ne 15, 3) := by decide +kernel
theorem dX4_linkUp_72 : decode cX4_linkUp 72 = .ok (.aload_n 0, 1) := by decide +kernel
theorem dX4_linkUp_73 : decode cX4_linkUp 73 = .ok (.getfield 9, 3) := by decide +kernel
theorem dX4_linkUp_76 : decode cX4_linkUp 76 = .ok (.iload_n 1, 1) := by decide +kernel
theorem dX4_linkUp_77 : decode cX4_linkUp 77 = .ok (.iconst 1, 1) := by decide +kernel
theorem dX4_linkUp_78 : decode cX4_linkUp 78 = .ok (.invokevirtual 72, 3) := by decide +kernel
theorem dX4_linkUp_81 : decode cX4_linkUp 81 = .ok (.ifCond .eq 21, 3) := by decide +kernel
theorem dX4_linkUp_102 : decode cX4_linkUp 102 = .ok (.iload_n 2, 1) := by decide +kernel
theorem dX4_linkUp_103 : decode cX4_linkUp 103 = .ok (.ifCond .lt 30, 3) := by decide +kernel
theorem dX4_linkUp_106 : decode cX4_linkUp 106 = .ok (.aload_n 0, 1) := by decide +kernel
theorem dX4_linkUp_107 : decode cX4_linkUp 107 = .ok (.getfield 9, 3) := by decide +kernel
theorem dX4_linkUp_110 : decode cX4_linkUp 110 = .ok (.getfield 50, 3) := by decide +kernel
theorem dX4_linkUp_113 : decode cX4_linkUp 113 = .ok (.iload_n 1, 1) := by decide +kernel
theorem dX4_linkUp_114 : decode cX4_linkUp 114 = .ok (.dup2, 1) := by decide +kernel
theorem dX4_linkUp_115 : decode cX4_linkUp 115 = .ok (.laload, 1) := by decide +kernel
theorem dX4_linkUp_116 : decode cX4_linkUp 116 = .ok (.lconst 1, 1) := by decide +kernel
theorem dX4_linkUp_117 : decode cX4_linkUp 117 = .ok (.iload_n 2, 1) := by decide +kernel
theorem dX4_linkUp_118 : decode cX4_linkUp 118 = .ok (.lshl, 1) := by decide +kernel
theorem dX4_linkUp_119 : decode cX4_linkUp 119 = .ok (.lor, 1) := by decide +kernel
theorem dX4_linkUp_120 : decode cX4_linkUp 120 = .ok (.lastore, 1) := by decide +kernel
theorem dX4_linkUp_121 : decode cX4_linkUp 121 = .ok (.aload_n 0, 1) := by decide +kernel
theorem dX4_linkUp_122 : decode cX4_linkUp 122 = .ok (.getfield 9, 3) := by decide +kernel
theorem dX4_linkUp_125 : decode cX4_linkUp 125 = .ok (.getfield 54, 3) := by decide +kernel
theorem dX4_linkUp_128 : decode cX4_linkUp 128 = .ok (.iconst 2, 1) := by decide +kernel
theorem dX4_linkUp_129 : decode cX4_linkUp 129 = .ok (.aaload, 1) := by decide +kernel
theorem dX4_linkUp_130 : decode cX4_linkUp 130 = .ok (.iload_n 1, 1) := by decide +kernel
theorem dX4_linkUp_131 : decode cX4_linkUp 131 = .ok (.iload_n 2, 1) := by decide +kernel
theorem dX4_linkUp_132 : decode cX4_linkUp 132 = .ok (.iastore, 1) := by decide +kernel
theorem dX4_linkUp_133 : decode cX4_linkUp 133 = .ok (.return_, 1) := by decide +kernel
def rpX4_linkUp : List Nat := [0, 1, 4, 7, 8, 9, 10, 11, 14, 15, 18, 19, 20, 21, 24, 27, 29, 30, 31, 32, 35, 36, 37, 40, 41, 44, 47, 49, 50, 51, 52, 55, 56, 57, 60, 61, 64, 65, 66, 69, 72, 73, 76, 77, 78, 81, 84, 102, 103, 106, 107, 110, 113, 114, 115, 116, 117, 118, 119, 120, 121, 122, 125, 128, 129, 130, 131, 132, 133]
noncomputable def rcX4_linkUp : List rz_B := [rz_aload 0, rz_getf (Nat.add (Nat.mul 256 6) 1) 0 rz_r, rz_getf (Nat.add (Nat.mul 256 9) 1) 3 rz_r, rz_cst 2, rz_aald, rz_iload 1, rz_iload 1, rz_ifne 10, rz_cst 4294967295, rz_goto 11, rz_cst 0, rz_iast, rz_aload 0, rz_getf (Nat.add (Nat.mul 256 6) 1) 0 rz_r, rz_getf (Nat.add (Nat.mul 256 9) 1) 3 rz_r, rz_cst 6, rz_aald, rz_iload 1, rz_iald, rz_ifge 21, rz_vret, rz_aload 0, rz_getf (Nat.add (Nat.mul 256 6) 1) 0 rz_r, rz_aload 0, rz_getf (Nat.add (Nat.mul 256 6) 1) 0 rz_r, rz_getf (Nat.add (Nat.mul 256 9) 1) 3 rz_r, rz_cst 6, rz_aald, rz_iload 1, rz_iald, rz_callV 1 (Nat.add (Nat.mul 256 9) 1) rgX7_named, rz_istore 2, rz_iload 2, rz_iflt 46, rz_aload 0, rz_getf (Nat.add (Nat.mul 256 6) 1) 0 rz_r, rz_iload 2, rz_cst 1, rz_callV 2 (Nat.add (Nat.mul 256 9) 1) rgX7_isKind, rz_ifne 46, rz_aload 0, rz_getf (Nat.add (Nat.mul 256 6) 1) 0 rz_r, rz_iload 1, rz_cst 1, rz_callV 2 (Nat.add (Nat.mul 256 9) 1) rgX7_isKind, rz_ifeq 47, rz_no, rz_iload 2, rz_iflt 68, rz_aload 0, rz_getf (Nat.add (Nat.mul 256 6) 1) 0 rz_r, rz_getf (Nat.add (Nat.mul 256 9) 1) 5 rz_r, rz_iload 1, rz_dup2, rz_lald, rz_lcst 1, rz_iload 2, rz_lshl, rz_lor, rz_last, rz_aload 0, rz_getf (Nat.add (Nat.mul 256 6) 1) 0 rz_r, rz_getf (Nat.add (Nat.mul 256 9) 1) 3 rz_r, rz_cst 2, rz_aald, rz_iload 1, rz_iload 2, rz_iast, rz_vret]
noncomputable def rgX4_linkUp : rz_L → rz_M → rz_Z → Bool := rz_go rcX4_linkUp 3 1000000
def rrX4_linkUp : Room := { frames := 1, cells := 0, slots := 0, locals := 22 }
theorem rmX4_linkUp (l : Launch) {G : rz_G} (hG : rz_Gd G) (vs : rz_L) (M : rz_M) (Z : rz_Z) (hn : vs.length = 2) (h : rgX4_linkUp vs M Z = true) : Met l yX4_linkUp (Cond.code yX4_linkUp cX4_linkUp 3 none :: rz_TB) rrX4_linkUp (rz_Pre G vs M) (rz_Qv G M.2 Z) 0 0 (fun q => rz_b G ≤ q) := by
  obtain ⟨D, tc, ad, b, xs, rfl⟩ := id hG
  refine rz_body (pcs := rpX4_linkUp) (by decide) rfl (by rw [hn]; decide) h ?_
  intro p e R s m args below meth c hC
  obtain ⟨hx, hb, hml, hr, hlk, ho, hts, hKn, hRm⟩ := id hC
  obtain ⟨hK, hA, hSt⟩ := id hKn
  have hw : ∀ {i j : Nat} {ws : List Cond} {w : Cond}, rz_WW[i]? = some ws → ws[j]? = some w → w.before args s = true := fun h1 h2 => hts _ (List.mem_cons_of_mem _ (rz_mem h1 h2))
  refine rz_All_c (i := 0) (fun k J hk hJ => rz_aload_n_ok (pc := 0) hx hb dX4_linkUp_0 rfl hk) ?_
  refine rz_All_c (i := 1) (fun k J hk hJ => rz_getf_ok (pc := 1) (own := RX4) (ref := "ThreadJudge$Linker") (C := RX4) (T := TX4) (N := 4) (ci := 6) (index := 9) (f := 0) (t := 2) (Ts := Cond.code yX4_linkUp cX4_linkUp 3 none :: rz_TB) hx hb hts rz_in6 ho hK rfl (by decide) rfl (fun _ => rfl) (hw (i := 16) (j := 3) rfl rfl) (fun _ z => z) dX4_linkUp_1 hk) ?_
  refine rz_All_c (i := 2) (fun k J hk hJ => rz_getf_ok (pc := 4) (own := RX4) (ref := "ThreadJudge$Program") (C := RX7) (T := TX7) (N := 22) (ci := 9) (index := 54) (f := 3) (t := 2) (Ts := Cond.code yX4_linkUp cX4_linkUp 3 none :: rz_TB) hx hb hts rz_in9 ho hK rfl (by decide) rfl (fun _ => rfl) (hw (i := 16) (j := 6) rfl rfl) (fun _ z => z) dX4_linkUp_4 hk) ?_
  refine rz_All_c (i := 3) (fun k J hk hJ => rz_iconst_ok (pc := 7) hx hb dX4_linkUp_7 rfl hk) ?_
  refine rz_All_c (i := 4) (fun k J hk hJ => rz_aald_ok (pc := 8) hx hb hK dX4_linkUp_8 hk) ?_
  refine rz_All_c (i := 5) (fun k J hk hJ => rz_iload_n_ok (pc := 9) hx hb dX4_linkUp_9 rfl hk) ?_
  refine rz_All_c (i := 6) (fun k J hk hJ => rz_iload_n_ok (pc := 10) hx hb dX4_linkUp_10 rfl hk) ?_
  refine rz_All_c (i := 7) (fun k J hk hJ => rz_ifne_ok (pc := 11) hx hb dX4_linkUp_11 rfl hk (hJ 10)) ?_
  refine rz_All_c (i := 8) (fun k J hk hJ => rz_iconst_ok (pc := 14) hx hb dX4_linkUp_14 rfl hk) ?_
  refine rz_All_c (i := 9) (fun k J hk hJ => rz_goto_ok (pc := 15) hx hb dX4_linkUp_15 rfl (hJ 11)) ?_
  refine rz_All_c (i := 10) (fun k J hk hJ => rz_iconst_ok (pc := 18) hx hb dX4_linkUp_18 rfl hk) ?_
  refine rz_All_c (i := 11) (fun k J hk hJ => rz_iast_ok (pc := 19) hx hb hK hA dX4_linkUp_19 hk) ?_
  refine rz_All_c (i := 12) (fun k J hk hJ => rz_aload_n_ok (pc := 20) hx hb dX4_linkUp_20 rfl hk) ?_
  refine rz_All_c (i := 13) (fun k J hk hJ => rz_getf_ok (pc := 21) (own := RX4) (ref := "ThreadJudge$Linker") (C := RX4) (T := TX4) (N := 4) (ci := 6) (index := 9) (f := 0) (t := 2) (Ts := Cond.code yX4_linkUp cX4_linkUp 3 none :: rz_TB) hx hb hts rz_in6 ho hK rfl (by decide) rfl (fun _ => rfl) (hw (i := 16) (j := 3) rfl rfl) (fun _ z => z) dX4_linkUp_21 hk) ?_
  refine rz_All_c (i := 14) (fun k J hk hJ => rz_getf_ok (pc := 24) (own := RX4) (ref := "ThreadJudge$Program") (C := RX7) (T := TX7) (N := 22) (ci := 9) (index := 54) (f := 3) (t := 2) (Ts := Cond.code yX4_linkUp cX4_linkUp 3 none :: rz_TB) hx hb hts rz_in9 ho hK rfl (by decide) rfl (fun _ => rfl) (hw (i := 16) (j := 6) rfl rfl) (fun _ z => z) dX4_linkUp_24 hk) ?_
  refine rz_All_c (i := 15) (fun k J hk hJ => rz_bipush_ok (pc := 27) hx hb dX4_linkUp_27 (by decide) hk) ?_
  refine rz_All_c (i := 16) (fun k J hk hJ => rz_aald_ok (pc := 29) hx hb hK dX4_linkUp_29 hk) ?_
  refine rz_All_c (i := 17) (fun k J hk hJ => rz_iload_n_ok (pc := 30) hx hb dX4_linkUp_30 rfl hk) ?_
  refine rz_All_c (i := 18) (fun k J hk hJ => rz_iald_ok (pc := 31) hx hb hK dX4_linkUp_31 hk) ?_
  refine rz_All_c (i := 19) (fun k J hk hJ => rz_ifge_ok (pc := 32) hx hb dX4_linkUp_32 rfl hk (hJ 21)) ?_
  refine rz_All_c (i := 20) (fun k J hk hJ => rz_vret_ok (pc := 35) hC dX4_linkUp_35) ?_
  refine rz_All_c (i := 21) (fun k J hk hJ => rz_aload_n_ok (pc := 36) hx hb dX4_linkUp_36 rfl hk) ?_
  refine rz_All_c (i := 22) (fun k J hk hJ => rz_getf_ok (pc := 37) (own := RX4) (ref := "ThreadJudge$Linker") (C := RX4) (T := TX4) (N := 4) (ci := 6) (index := 9) (f := 0) (t := 2) (Ts := Cond.code yX4_linkUp cX4_linkUp 3 none :: rz_TB) hx hb hts rz_in6 ho hK rfl (by decide) rfl (fun _ => rfl) (hw (i := 16) (j := 3) rfl rfl) (fun _ z => z) dX4_linkUp_37 hk) ?_
  refine rz_All_c (i := 23) (fun k J hk hJ => rz_aload_n_ok (pc := 40) hx hb dX4_linkUp_40 rfl hk) ?_
  refine rz_All_c (i := 24) (fun k J hk hJ => rz_getf_ok (pc := 41) (own := RX4) (ref := "ThreadJudge$Linker") (C := RX4) (T := TX4) (N := 4) (ci := 6) (index := 9) (f := 0) (t := 2) (Ts := Cond.code yX4_linkUp cX4_linkUp 3 none :: rz_TB) hx hb hts rz_in6 ho hK rfl (by decide) rfl (fun _ => rfl) (hw (i := 16) (j := 3) rfl rfl) (fun _ z => z) dX4_linkUp_41 hk) ?_
  refine rz_All_c (i := 25) (fun k J hk hJ => rz_getf_ok (pc := 44) (own := RX4) (ref := "ThreadJudge$Program") (C := RX7) (T := TX7) (N := 22) (ci := 9) (index := 54) (f := 3) (t := 2) (Ts := Cond.code yX4_linkUp cX4_linkUp 3 none :: rz_TB) hx hb hts rz_in9 ho hK rfl (by decide) rfl (fun _ => rfl) (hw (i := 16) (j := 6) rfl rfl) (fun _ z => z) dX4_linkUp_44 hk) ?_
  refine rz_All_c (i := 26) (fun k J hk hJ => rz_bipush_ok (pc := 47) hx hb dX4_linkUp_47 (by decide) hk) ?_
  refine rz_All_c (i := 27) (fun k J hk hJ => rz_aald_ok (pc := 49) hx hb hK dX4_linkUp_49 hk) ?_
  refine rz_All_c (i := 28) (fun k J hk hJ => rz_iload_n_ok (pc := 50) hx hb dX4_linkUp_50 rfl hk) ?_
  refine rz_All_c (i := 29) (fun k J hk hJ => rz_iald_ok (pc := 51) hx hb hK dX4_linkUp_51 hk) ?_
  refine rz_All_c (i := 30) (fun k J hk hJ => rz_callV_ok (pc := 52) (own := RX4) (C := RX7) (T0 := TX7) (N0 := 22) hC rfl (rmX7_named l hG) (rz_cwV 1 hC rz_good (rz_mem (i := 16) (j := 8) rfl rfl) (rz_mem (i := 16) (j := 9) rfl rfl) (rz_mem (i := 16) (j := 10) rfl rfl) (rz_mem (i := 1) (j := 0) rfl rfl) (rz_mem (i := 16) (j := 11) rfl rfl) ⟨rfl, by decide, by decide, by decide +kernel⟩ rfl rfl ⟨by decide, by decide⟩) rfl dX4_linkUp_52 hk) ?_
  refine rz_All_c (i := 31) (fun k J hk hJ => rz_istore_n_ok (pc := 55) hx hb dX4_linkUp_55 rfl hk) ?_
  refine rz_All_c (i := 32) (fun k J hk hJ => rz_iload_n_ok (pc := 56) hx hb dX4_linkUp_56 rfl hk) ?_
  refine rz_All_c (i := 33) (fun k J hk hJ => rz_iflt_ok (pc := 57) hx hb dX4_linkUp_57 rfl hk (hJ 46)) ?_
  refine rz_All_c (i := 34) (fun k J hk hJ => rz_aload_n_ok (pc := 60) hx hb dX4_linkUp_60 rfl hk) ?_
  refine rz_All_c (i := 35) (fun k J hk hJ => rz_getf_ok (pc := 61) (own := RX4) (ref := "ThreadJudge$Linker") (C := RX4) (T := TX4) (N := 4) (ci := 6) (index := 9) (f := 0) (t := 2) (Ts := Cond.code yX4_linkUp cX4_linkUp 3 none :: rz_TB) hx hb hts rz_in6 ho hK rfl (by decide) rfl (fun _ => rfl) (hw (i := 16) (j := 3) rfl rfl) (fun _ z => z) dX4_linkUp_61 hk) ?_
  refine rz_All_c (i := 36) (fun k J hk hJ => rz_iload_n_ok (pc := 64) hx hb dX4_linkUp_64 rfl hk) ?_
  refine rz_All_c (i := 37) (fun k J hk hJ => rz_iconst_ok (pc := 65) hx hb dX4_linkUp_65 rfl hk) ?_
  refine rz_All_c (i := 38) (fun k J hk hJ => rz_callV_ok (pc := 66) (own := RX4) (C := RX7) (T0 := TX7) (N0 := 22) hC rfl (rmX7_isKind l hG) (rz_cwV 2 hC rz_good (rz_mem (i := 16) (j := 21) rfl rfl) (rz_mem (i := 16) (j := 22) rfl rfl) (rz_mem (i := 16) (j := 23) rfl rfl) (rz_mem (i := 1) (j := 0) rfl rfl) (rz_mem (i := 17) (j := 0) rfl rfl) ⟨rfl, by decide, by decide, by decide +kernel⟩ rfl rfl ⟨by decide, by decide⟩) rfl dX4_linkUp_66 hk) ?_
  refine rz_All_c (i := 39) (fun k J hk hJ => rz_ifne_ok (pc := 69) hx hb dX4_linkUp_69 rfl hk (hJ 46)) ?_
  refine rz_All_c (i := 40) (fun k J hk hJ => rz_aload_n_ok (pc := 72) hx hb dX4_linkUp_72 rfl hk) ?_
  refine rz_All_c (i := 41) (fun k J hk hJ => rz_getf_ok (pc := 73) (own := RX4) (ref := "ThreadJudge$Linker") (C := RX4) (T := TX4) (N := 4) (ci := 6) (index := 9) (f := 0) (t := 2) (Ts := Cond.code yX4_linkUp cX4_linkUp 3 none :: rz_TB) hx hb hts rz_in6 ho hK rfl (by decide) rfl (fun _ => rfl) (hw (i := 16) (j := 3) rfl rfl) (fun _ z => z) dX4_linkUp_73 hk) ?_
  refine rz_All_c (i := 42) (fun k J hk hJ => rz_iload_n_ok (pc := 76) hx hb dX4_linkUp_76 rfl hk) ?_
  refine rz_All_c (i := 43) (fun k J hk hJ => rz_iconst_ok (pc := 77) hx hb dX4_linkUp_77 rfl hk) ?_
  refine rz_All_c (i := 44) (fun k J hk hJ => rz_callV_ok (pc := 78) (own := RX4) (C := RX7) (T0 := TX7) (N0 := 22) hC rfl (rmX7_isKind l hG) (rz_cwV 2 hC rz_good (rz_mem (i := 16) (j := 21) rfl rfl) (rz_mem (i := 16) (j := 22) rfl rfl) (rz_mem (i := 16) (j := 23) rfl rfl) (rz_mem (i := 1) (j := 0) rfl rfl) (rz_mem (i := 17) (j := 0) rfl rfl) ⟨rfl, by decide, by decide, by decide +kernel⟩ rfl rfl ⟨by decide, by decide⟩) rfl dX4_linkUp_78 hk) ?_
  refine rz_All_c (i := 45) (fun k J hk hJ => rz_ifeq_ok (pc := 81) hx hb dX4_linkUp_81 rfl hk (hJ 47)) ?_
  refine rz_All_c (i := 46) (fun k J hk hJ => rz_no_ok) ?_
  refine rz_All_c (i := 47) (fun k J hk hJ => rz_iload_n_ok (pc := 102) hx hb dX4_linkUp_102 rfl hk) ?_
  refine rz_All_c (i := 48) (fun k J hk hJ => rz_iflt_ok (pc := 103) hx hb dX4_linkUp_103 rfl hk (hJ 68)) ?_
  refine rz_All_c (i := 49) (fun k J hk hJ => rz_aload_n_ok (pc := 106) hx hb dX4_linkUp_106 rfl hk) ?_
  refine rz_All_c (i := 50) (fun k J hk hJ => rz_getf_ok (pc := 107) (own := RX4) (ref := "ThreadJudge$Linker") (C := RX4) (T := TX4) (N := 4) (ci := 6) (index := 9) (f := 0) (t := 2) (Ts := Cond.code yX4_linkUp cX4_linkUp 3 none :: rz_TB) hx hb hts rz_in6 ho hK rfl (by decide) rfl (fun _ => rfl) (hw (i := 16) (j := 3) rfl rfl) (fun _ z => z) dX4_linkUp_107 hk) ?_
  refine rz_All_c (i := 51) (fun k J hk hJ => rz_getf_ok (pc := 110) (own := RX4) (ref := "ThreadJudge$Program") (C := RX7) (T := TX7) (N := 22) (ci := 9) (index := 50) (f := 5) (t := 2) (Ts := Cond.code yX4_linkUp cX4_linkUp 3 none :: rz_TB) hx hb hts rz_in9 ho hK rfl (by decide) rfl (fun _ => rfl) (hw (i := 16) (j := 5) rfl rfl) (fun _ z => z) dX4_linkUp_110 hk) ?_
  refine rz_All_c (i := 52) (fun k J hk hJ => rz_iload_n_ok (pc := 113) hx hb dX4_linkUp_113 rfl hk) ?_
  refine rz_All_c (i := 53) (fun k J hk hJ => rz_dup2_ok (pc := 114) hx hb dX4_linkUp_114 hk) ?_
  refine rz_All_c (i := 54) (fun k J hk hJ => rz_lald_ok (pc := 115) hx hb hK dX4_linkUp_115 hk) ?_
  refine rz_All_c (i := 55) (fun k J hk hJ => rz_lconst_ok (pc := 116) hx hb dX4_linkUp_116 rfl hk) ?_
  refine rz_All_c (i := 56) (fun k J hk hJ => rz_iload_n_ok (pc := 117) hx hb dX4_linkUp_117 rfl hk) ?_
  refine rz_All_c (i := 57) (fun k J hk hJ => rz_lshl_ok (pc := 118) hx hb dX4_linkUp_118 hk) ?_
  refine rz_All_c (i := 58) (fun k J hk hJ => rz_lor_ok (pc := 119) hx hb dX4_linkUp_119 hk) ?_
  refine rz_All_c (i := 59) (fun k J hk hJ => rz_last_ok (pc := 120) hx hb hK hA dX4_linkUp_120 hk) ?_
  refine rz_All_c (i := 60) (fun k J hk hJ => rz_aload_n_ok (pc := 121) hx hb dX4_linkUp_121 rfl hk) ?_
  refine rz_All_c (i := 61) (fun k J hk hJ => rz_getf_ok (pc := 122) (own := RX4) (ref := "ThreadJudge$Linker") (C := RX4) (T := TX4) (N := 4) (ci := 6) (index := 9) (f := 0) (t := 2) (Ts := Cond.code yX4_linkUp cX4_linkUp 3 none :: rz_TB) hx hb hts rz_in6 ho hK rfl (by decide) rfl (fun _ => rfl) (hw (i := 16) (j := 3) rfl rfl) (fun _ z => z) dX4_linkUp_122 hk) ?_
  refine rz_All_c (i := 62) (fun k J hk hJ => rz_getf_ok (pc := 125) (own := RX4) (ref := "ThreadJudge$Program") (C := RX7) (T := TX7) (N := 22) (ci := 9) (index := 54) (f := 3) (t := 2) (Ts := Cond.code yX4_linkUp cX4_linkUp 3 none :: rz_TB) hx hb hts rz_in9 ho hK rfl (by decide) rfl (fun _ => rfl) (hw (i := 16) (j := 6) rfl rfl) (fun _ z => z) dX4_linkUp_125 hk) ?_
  refine rz_All_c (i := 63) (fun k J hk hJ => rz_iconst_ok (pc := 128) hx hb dX4_linkUp_128 rfl hk) ?_
  refine rz_All_c (i := 64) (fun k J hk hJ => rz_aald_ok (pc := 129) hx hb hK dX4_linkUp_129 hk) ?_
  refine rz_All_c (i := 65) (fun k J hk hJ => rz_iload_n_ok (pc := 130) hx hb dX4_linkUp_130 rfl hk) ?_
  refine rz_All_c (i := 66) (fun k J hk hJ => rz_iload_n_ok (pc := 131) hx hb dX4_linkUp_131 rfl hk) ?_
  refine rz_All_c (i := 67) (fun k J hk hJ => rz_iast_ok (pc := 132) hx hb hK hA dX4_linkUp_132 hk) ?_
  refine rz_All_c (i := 68) (fun k J hk hJ => rz_vret_ok (pc := 133) hC dX4_linkUp_133) ?_
  exact trivial
theorem dX4_linkClasses_0 : decode cX4_linkClasses 0 = .ok (.iconst 0, 1) := by decide +kernel
theorem dX4_linkClasses_1 : decode cX4_linkClasses 1 = .ok (.istore_n 1, 1) := by decide +kernel
theorem dX4_linkClasses_2 : decode cX4_linkClasses 2 = .ok (.iload_n 1, 1) := by decide +kernel
theorem dX4_linkClasses_3 : decode cX4_linkClasses 3 = .ok (.aload_n 0, 1) := by decide +kernel
theorem dX4_linkClasses_4 : decode cX4_linkClasses 4 = .ok (.getfield 9, 3) := by decide +kernel
theorem dX4_linkClasses_7 : decode cX4_linkClasses 7 = .ok (.getfield 45, 3) := by decide +kernel
theorem dX4_linkClasses_10 : decode cX4_linkClasses 10 = .ok (.if_icmp .ge 109, 3) := by decide +kernel
theorem dX4_linkClasses_13 : decode cX4_linkClasses 13 = .ok (.aload_n 0, 1) := by decide +kernel
theorem dX4_linkClasses_14 : decode cX4_linkClasses 14 = .ok (.getfield 9, 3) := by decide +kernel
theorem dX4_linkClasses_17 : decode cX4_linkClasses 17 = .ok (.getfield 50, 3) := by decide +kernel
theorem dX4_linkClasses_20 : decode cX4_linkClasses 20 = .ok (.iload_n 1, 1) := by decide +kernel
theorem dX4_linkClasses_21 : decode cX4_linkClasses 21 = .ok (.lconst 0, 1) := by decide +kernel
theorem dX4_linkClasses_22 : decode cX4_linkClasses 22 = .ok (.lastore, 1) := by decide +kernel
theorem dX4_linkClasses_23 : decode cX4_linkClasses 23 = .ok (.aload_n 0, 1) := by decide +kernel
theorem dX4_linkClasses_24 : decode cX4_linkClasses 24 = .ok (.getfield 9, 3) := by decide +kernel
theorem dX4_linkClasses_27 : decode cX4_linkClasses 27 = .ok (.aload_n 0, 1) := by decide +kernel
theorem dX4_linkClasses_28 : decode cX4_linkClasses 28 = .ok (.getfield 9, 3) := by decide +kernel
theorem dX4_linkClasses_31 : decode cX4_linkClasses 31 = .ok (.getfield 54, 3) := by decide +kernel
theorem dX4_linkClasses_34 : decode cX4_linkClasses 34 = .ok (.iconst 0, 1) := by decide +kernel
theorem dX4_linkClasses_35 : decode cX4_linkClasses 35 = .ok (.aaload, 1) := by decide +kernel
theorem dX4_linkClasses_36 : decode cX4_linkClasses 36 = .ok (.iload_n 1, 1) := by decide +kernel
theorem dX4_linkClasses_37 : decode cX4_linkClasses 37 = .ok (.iaload, 1) := by decide +kernel
theorem dX4_linkClasses_38 : decode cX4_linkClasses 38 = .ok (.invokevirtual 58, 3) := by decide +kernel
theorem dX4_linkClasses_41 : decode cX4_linkClasses 41 = .ok (.iload_n 1, 1) := by decide +kernel
theorem dX4_linkClasses_42 : decode cX4_linkClasses 42 = .ok (.if_icmp .eq 20, 3) := by decide +kernel
theorem dX4_linkClasses_62 : decode cX4_linkClasses 62 = .ok (.aload_n 0, 1) := by decide +kernel
theorem dX4_linkClasses_63 : decode cX4_linkClasses 63 = .ok (.iload_n 1, 1) := by decide +kernel
theorem dX4_linkClasses_64 : decode cX4_linkClasses 64 = .ok (.invokevirtual 66, 3) := by decide +kernel
theorem dX4_linkClasses_67 : decode cX4_linkClasses 67 = .ok (.aload_n 0, 1) := by decide +kernel
theorem dX4_linkClasses_68 : decode cX4_linkClasses 68 = .ok (.iload_n 1, 1) := by decide +kernel
theorem dX4_linkClasses_69 : decode cX4_linkClasses 69 = .ok (.invokevirtual 69, 3) := by decide +kernel
theorem dX4_linkClasses_72 : decode cX4_linkClasses 72 = .ok (.aload_n 0, 1) := by decide +kernel
theorem dX4_linkClasses_73 : decode cX4_linkClasses 73 = .ok (.getfield 9, 3) := by decide +kernel
theorem dX4_linkClasses_76 : decode cX4_linkClasses 76 = .ok (.iload_n 1, 1) := by decide +kernel
theorem dX4_linkClasses_77 : decode cX4_linkClasses 77 = .ok (.iconst 1, 1) := by decide +kernel
theorem dX4_linkClasses_78 : decode cX4_linkClasses 78 = .ok (.invokevirtual 72, 3) := by decide +kernel
theorem dX4_linkClasses_81 : decode cX4_linkClasses 81 = .ok (.ifCond .eq 32, 3) := by decide +kernel
theorem dX4_linkClasses_84 : decode cX4_linkClasses 84 = .ok (.aload_n 0, 1) := by decide +kernel
theorem dX4_linkClasses_85 : decode cX4_linkClasses 85 = .ok (.getfield 9, 3) := by decide +kernel
theorem dX4_linkClasses_88 : decode cX4_linkClasses 88 = .ok (.iload_n 1, 1) := by decide +kernel
theorem dX4_linkClasses_89 : decode cX4_linkClasses 89 = .ok (.iconst 2, 1) := by decide +kernel
theorem dX4_linkClasses_90 : decode cX4_linkClasses 90 = .ok (.invokevirtual 72, 3) := by decide +kernel
theorem dX4_linkClasses_93 : decode cX4_linkClasses 93 = .ok (.ifCond .eq 20, 3) := by decide +kernel
theorem dX4_linkClasses_113 : decode cX4_linkClasses 113 = .ok (.iinc 1 1, 3) := by decide +kernel
theorem dX4_linkClasses_116 : decode cX4_linkClasses 116 = .ok (.goto (-114), 3) := by decide +kernel
theorem dX4_linkClasses_119 : decode cX4_linkClasses 119 = .ok (.iconst 0, 1) := by decide +kernel
theorem dX4_linkClasses_120 : decode cX4_linkClasses 120 = .ok (.istore_n 1, 1) := by decide +kernel
theorem dX4_linkClasses_121 : decode cX4_linkClasses 121 = .ok (.iload_n 1, 1) := by decide +kernel
theorem dX4_linkClasses_122 : decode cX4_linkClasses 122 = .ok (.aload_n 0, 1) := by decide +kernel
theorem dX4_linkClasses_123 : decode cX4_linkClasses 123 = .ok (.getfield 9, 3) := by decide +kernel
theorem dX4_linkClasses_126 : decode cX4_linkClasses 126 = .ok (.getfield 45, 3) := by decide +kernel
theorem dX4_linkClasses_129 : decode cX4_linkClasses 129 = .ok (.if_icmp .ge 67, 3) := by decide +kernel
theorem dX4_linkClasses_132 : decode cX4_linkClasses 132 = .ok (.iconst 0, 1) := by decide +kernel
theorem dX4_linkClasses_133 : decode cX4_linkClasses 133 = .ok (.istore_n 2, 1) := by decide +kernel
theorem dX4_linkClasses_134 : decode cX4_linkClasses 134 = .ok (.iload_n 2, 1) := by decide +kernel
theorem dX4_linkClasses_135 : decode cX4_linkClasses 135 = .ok (.aload_n 0, 1) := by decide +kernel
theorem dX4_linkClasses_136 : decode cX4_linkClasses 136 = .ok (.getfield 9, 3) := by decide +kernel
theorem dX4_linkClasses_139 : decode cX4_linkClasses 139 = .ok (.getfield 45, 3) := by decide +kernel
theorem dX4_linkClasses_142 : decode cX4_linkClasses 142 = .ok (.if_icmp .ge 48, 3) := by decide +kernel
theorem dX4_linkClasses_145 : decode cX4_linkClasses 145 = .ok (.aload_n 0, 1) := by decide +kernel
theorem dX4_linkClasses_146 : decode cX4_linkClasses 146 = .ok (.getfield 9, 3) := by decide +kernel
theorem dX4_linkClasses_149 : decode cX4_linkClasses 149 = .ok (.getfield 50, 3) := by decide +kernel
theorem dX4_linkClasses_152 : decode cX4_linkClasses 152 = .ok (.iload_n 2, 1) := by decide +kernel
theorem dX4_linkClasses_153 : decode cX4_linkClasses 153 = .ok (.laload, 1) := by decide +kernel
theorem dX4_linkClasses_154 : decode cX4_linkClasses 154 = .ok (.iload_n 1, 1) := by decide +kernel
theorem dX4_linkClasses_155 : decode cX4_linkClasses 155 = .ok (.lushr, 1) := by decide +kernel
theorem dX4_linkClasses_156 : decode cX4_linkClasses 156 = .ok (.lconst 1, 1) := by decide +kernel
theorem dX4_linkClasses_157 : decode cX4_linkClasses 157 = .ok (.land, 1) := by decide +kernel
theorem dX4_linkClasses_158 : decode cX4_linkClasses 158 = .ok (.lconst 0, 1) := by decide +kernel
theorem dX4_linkClasses_159 : decode cX4_linkClasses 159 = .ok (.lcmp, 1) := by decide +kernel
theorem dX4_linkClasses_160 : decode cX4_linkClasses 160 = .ok (.ifCond .eq 24, 3) := by decide +kernel
theorem dX4_linkClasses_163 : decode cX4_linkClasses 163 = .ok (.aload_n 0, 1) := by decide +kernel
theorem dX4_linkClasses_164 : decode cX4_linkClasses 164 = .ok (.getfield 9, 3) := by decide +kernel
theorem dX4_linkClasses_167 : decode cX4_linkClasses 167 = .ok (.getfield 50, 3) := by decide +kernel
theorem dX4_linkClasses_170 : decode cX4_linkClasses 170 = .ok (.iload_n 2, 1) := by decide +kernel
theorem dX4_linkClasses_171 : decode cX4_linkClasses 171 = .ok (.dup2, 1) := by decide +kernel
theorem dX4_linkClasses_172 : decode cX4_linkClasses 172 = .ok (.laload, 1) := by decide +kernel
theorem dX4_linkClasses_173 : decode cX4_linkClasses 173 = .ok (.aload_n 0, 1) := by decide +kernel
theorem dX4_linkClasses_174 : decode cX4_linkClasses 174 = .ok (.getfield 9, 3) := by decide +kernel
theorem dX4_linkClasses_177 : decode cX4_linkClasses 177 = .ok (.getfield 50, 3) := by decide +kernel
theorem dX4_linkClasses_180 : decode cX4_linkClasses 180 = .ok (.iload_n 1, 1) := by decide +kernel
theorem dX4_linkClasses_181 : decode cX4_linkClasses 181 = .ok (.laload, 1) := by decide +kernel
theorem dX4_linkClasses_182 : decode cX4_linkClasses 182 = .ok (.lor, 1) := by decide +kernel
theorem dX4_linkClasses_183 : decode cX4_linkClasses 183 = .ok (.lastore, 1) := by decide +kernel
theorem dX4_linkClasses_184 : decode cX4_linkClasses 184 = .ok (.iinc 2 1, 3) := by decide +kernel
theorem dX4_linkClasses_187 : decode cX4_linkClasses 187 = .ok (.goto (-53), 3) := by decide +kernel
theorem dX4_linkClasses_190 : decode cX4_linkClasses 190 = .ok (.iinc 1 1, 3) := by decide +kernel
theorem dX4_linkClasses_193 : decode cX4_linkClasses 193 = .ok (.goto (-72), 3) := by decide +kernel
theorem dX4_linkClasses_196 : decode cX4_linkClasses 196 = .ok (.iconst 0, 1) := by decide +kernel
theorem dX4_linkClasses_197 : decode cX4_linkClasses 197 = .ok (.istore_n 1, 1) := by decide +kernel
theorem dX4_linkClasses_198 : decode cX4_linkClasses 198 = .ok (.iload_n 1, 1) := by decide +kernel
theorem dX4_linkClasses_199 : decode cX4_linkClasses 199 = .ok (.aload_n 0, 1) := by decide +kernel
theorem dX4_linkClasses_200 : decode cX4_linkClasses 200 = .ok (.getfield 9, 3) := by decide +kernel
theorem dX4_linkClasses_203 : decode cX4_linkClasses 203 = .ok (.getfield 45, 3) := by decide +kernel
theorem dX4_linkClasses_206 : decode cX4_linkClasses 206 = .ok (.if_icmp .ge 71, 3) := by decide +kernel
theorem dX4_linkClasses_209 : decode cX4_linkClasses 209 = .ok (.aload_n 0, 1) := by decide +kernel
theorem dX4_linkClasses_210 : decode cX4_linkClasses 210 = .ok (.getfield 9, 3) := by decide +kernel
theorem dX4_linkClasses_213 : decode cX4_linkClasses 213 = .ok (.getfield 50, 3) := by decide +kernel
theorem dX4_linkClasses_216 : decode cX4_linkClasses 216 = .ok (.iload_n 1, 1) := by decide +kernel
theorem dX4_linkClasses_217 : decode cX4_linkClasses 217 = .ok (.laload, 1) := by decide +kernel
theorem dX4_linkClasses_218 : decode cX4_linkClasses 218 = .ok (.iload_n 1, 1) := by decide +kernel
theorem dX4_linkClasses_219 : decode cX4_linkClasses 219 = .ok (.lushr, 1) := by decide +kernel
theorem dX4_linkClasses_220 : decode cX4_linkClasses 220 = .ok (.lconst 1, 1) := by decide +kernel
theorem dX4_linkClasses_221 : decode cX4_linkClasses 221 = .ok (.land, 1) := by decide +kernel
theorem dX4_linkClasses_222 : decode cX4_linkClasses 222 = .ok (.lconst 0, 1) := by decide +kernel
theorem dX4_linkClasses_223 : decode cX4_linkClasses 223 = .ok (.lcmp, 1) := by decide +kernel
theorem dX4_linkClasses_224 : decode cX4_linkClasses 224 = .ok (.ifCond .eq 20, 3) := by decide +kernel
theorem dX4_linkClasses_244 : decode cX4_linkClasses 244 = .ok (.aload_n 0, 1) := by decide +kernel
theorem dX4_linkClasses_245 : decode cX4_linkClasses 245 = .ok (.getfield 9, 3) := by decide +kernel
theorem dX4_linkClasses_248 : decode cX4_linkClasses 248 = .ok (.getfield 50, 3) := by decide +kernel
theorem dX4_linkClasses_251 : decode cX4_linkClasses 251 = .ok (.iload_n 1, 1) := by decide +kernel
theorem dX4_linkClasses_252 : decode cX4_linkClasses 252 = .ok (.dup2, 1) := by decide +kernel
theorem dX4_linkClasses_253 : decode cX4_linkClasses 253 = .ok (.laload, 1) := by decide +kernel
theorem dX4_linkClasses_254 : decode cX4_linkClasses 254 = .ok (.lconst 1, 1) := by decide +kernel
theorem dX4_linkClasses_255 : decode cX4_linkClasses 255 = .ok (.iload_n 1, 1) := by decide +kernel
theorem dX4_linkClasses_256 : decode cX4_linkClasses 256 = .ok (.lshl, 1) := by decide +kernel
theorem dX4_linkClasses_257 : decode cX4_linkClasses 257 = .ok (.lconst 1, 1) := by decide +kernel
theorem dX4_linkClasses_258 : decode cX4_linkClasses 258 = .ok (.lor, 1) := by decide +kernel
theorem dX4_linkClasses_259 : decode cX4_linkClasses 259 = .ok (.lor, 1) := by decide +kernel
theorem dX4_linkClasses_260 : decode cX4_linkClasses 260 = .ok (.lastore, 1) := by decide +kernel
theorem dX4_linkClasses_261 : decode cX4_linkClasses 261 = .ok (.aload_n 0, 1) := by decide +kernel
theorem dX4_linkClasses_262 : decode cX4_linkClasses 262 = .ok (.getfield 9, 3) := by decide +kernel
theorem dX4_linkClasses_265 : decode cX4_linkClasses 265 = .ok (.getfield 76, 3) := by decide +kernel
theorem dX4_linkClasses_268 : decode cX4_linkClasses 268 = .ok (.iload_n 1, 1) := by decide +kernel
theorem dX4_linkClasses_269 : decode cX4_linkClasses 269 = .ok (.lconst 0, 1) := by decide +kernel
theorem dX4_linkClasses_270 : decode cX4_linkClasses 270 = .ok (.lastore, 1) := by decide +kernel
theorem dX4_linkClasses_271 : decode cX4_linkClasses 271 = .ok (.iinc 1 1, 3) := by decide +kernel
theorem dX4_linkClasses_274 : decode cX4_linkClasses 274 = .ok (.goto (-76), 3) := by decide +kernel
theorem dX4_linkClasses_277 : decode cX4_linkClasses 277 = .ok (.iconst 0, 1) := by decide +kernel
theorem dX4_linkClasses_278 : decode cX4_linkClasses 278 = .ok (.istore_n 1, 1) := by decide +kernel
theorem dX4_linkClasses_279 : decode cX4_linkClasses 279 = .ok (.iload_n 1, 1) := by decide +kernel
theorem dX4_linkClasses_280 : decode cX4_linkClasses 280 = .ok (.aload_n 0, 1) := by decide +kernel
theorem dX4_linkClasses_281 : decode cX4_linkClasses 281 = .ok (.getfield 9, 3) := by decide +kernel
theorem dX4_linkClasses_284 : decode cX4_linkClasses 284 = .ok (.getfield 45, 3) := by decide +kernel
theorem dX4_linkClasses_287 : decode cX4_linkClasses 287 = .ok (.if_icmp .ge 55, 3) := by decide +kernel
theorem dX4_linkClasses_290 : decode cX4_linkClasses 290 = .ok (.iconst 0, 1) := by decide +kernel
theorem dX4_linkClasses_291 : decode cX4_linkClasses 291 = .ok (.istore_n 2, 1) := by decide +kernel
theorem dX4_linkClasses_292 : decode cX4_linkClasses 292 = .ok (.iload_n 2, 1) := by decide +kernel
theorem dX4_linkClasses_293 : decode cX4_linkClasses 293 = .ok (.aload_n 0, 1) := by decide +kernel
theorem dX4_linkClasses_294 : decode cX4_linkClasses 294 = .ok (.getfield 9, 3) := by decide +kernel
theorem dX4_linkClasses_297 : decode cX4_linkClasses 297 = .ok (.getfield 45, 3) := by decide +kernel
theorem dX4_linkClasses_300 : decode cX4_linkClasses 300 = .ok (.if_icmp .ge 36, 3) := by decide +kernel
theorem dX4_linkClasses_303 : decode cX4_linkClasses 303 = .ok (.aload_n 0, 1) := by decide +kernel
theorem dX4_linkClasses_304 : decode cX4_linkClasses 304 = .ok (.getfield 9, 3) := by decide +kernel
theorem dX4_linkClasses_307 : decode cX4_linkClasses 307 = .ok (.getfield 76, 3) := by decide +kernel
theorem dX4_linkClasses_310 : decode cX4_linkClasses 310 = .ok (.iload_n 2, 1) := by decide +kernel
theorem dX4_linkClasses_311 : decode cX4_linkClasses 311 = .ok (.dup2, 1) := by decide +kernel
theorem dX4_linkClasses_312 : decode cX4_linkClasses 312 = .ok (.laload, 1) := by decide +kernel
theorem dX4_linkClasses_313 : decode cX4_linkClasses 313 = .ok (.aload_n 0, 1) := by decide +kernel
theorem dX4_linkClasses_314 : decode cX4_linkClasses 314 = .ok (.getfield 9, 3) := by decide +kernel
theorem dX4_linkClasses_317 : decode cX4_linkClasses 317 = .ok (.getfield 50, 3) := by decide +kernel
theorem dX4_linkClasses_320 : decode cX4_linkClasses 320 = .ok (.iload_n 1, 1) := by decide +kernel
theorem dX4_linkClasses_321 : decode cX4_linkClasses 321 = .ok (.laload, 1) := by decide +kernel
theorem dX4_linkClasses_322 : decode cX4_linkClasses 322 = .ok (.iload_n 2, 1) := by decide +kernel
theorem dX4_linkClasses_323 : decode cX4_linkClasses 323 = .ok (.lushr, 1) := by decide +kernel
theorem dX4_linkClasses_324 : decode cX4_linkClasses 324 = .ok (.lconst 1, 1) := by decide +kernel
theorem dX4_linkClasses_325 : decode cX4_linkClasses 325 = .ok (.land, 1) := by decide +kernel
theorem dX4_linkClasses_326 : decode cX4_linkClasses 326 = .ok (.iload_n 1, 1) := by decide +kernel
theorem dX4_linkClasses_327 : decode cX4_linkClasses 327 = .ok (.lshl, 1) := by decide +kernel
theorem dX4_linkClasses_328 : decode cX4_linkClasses 328 = .ok (.lor, 1) := by decide +kernel
theorem dX4_linkClasses_329 : decode cX4_linkClasses 329 = .ok (.lastore, 1) := by decide +kernel
theorem dX4_linkClasses_330 : decode cX4_linkClasses 330 = .ok (.iinc 2 1, 3) := by decide +kernel
theorem dX4_linkClasses_333 : decode cX4_linkClasses 333 = .ok (.goto (-41), 3) := by decide +kernel
theorem dX4_linkClasses_336 : decode cX4_linkClasses 336 = .ok (.iinc 1 1, 3) := by decide +kernel
theorem dX4_linkClasses_339 : decode cX4_linkClasses 339 = .ok (.goto (-60), 3) := by decide +kernel
theorem dX4_linkClasses_342 : decode cX4_linkClasses 342 = .ok (.return_, 1) := by decide +kernel
def rpX4_linkClasses : List Nat := [0, 1, 2, 3, 4, 7, 10, 13, 14, 17, 20, 21, 22, 23, 24, 27, 28, 31, 34, 35, 36, 37, 38, 41, 42, 45, 62, 63, 64, 67, 68, 69, 72, 73, 76, 77, 78, 81, 84, 85, 88, 89, 90, 93, 96, 113, 116, 119, 120, 121, 122, 123, 126, 129, 132, 133, 134, 135, 136, 139, 142, 145, 146, 149, 152, 153, 154, 155, 156, 157, 158, 159, 160, 163, 164, 167, 170, 171, 172, 173, 174, 177, 180, 181, 182, 183, 184, 187, 190, 193, 196, 197, 198, 199, 200, 203, 206, 209, 210, 213, 216, 217, 218, 219, 220, 221, 222, 223, 224, 227, 244, 245, 248, 251, 252, 253, 254, 255, 256, 257, 258, 259, 260, 261, 262, 265, 268, 269, 270, 271, 274, 277, 278, 279, 280, 281, 284, 287, 290, 291, 292, 293, 294, 297, 300, 303, 304, 307, 310, 311, 312, 313, 314, 317, 320, 321, 322, 323, 324, 325, 326, 327, 328, 329, 330, 333, 336, 339, 342]
noncomputable def rcX4_linkClasses : List rz_B := [rz_cst 0, rz_istore 1, rz_iload 1, rz_aload 0, rz_getf (Nat.add (Nat.mul 256 6) 1) 0 rz_r, rz_getf (Nat.add (Nat.mul 256 9) 1) 2 rz_i, rz_icmpge 47, rz_aload 0, rz_getf (Nat.add (Nat.mul 256 6) 1) 0 rz_r, rz_getf (Nat.add (Nat.mul 256 9) 1) 5 rz_r, rz_iload 1, rz_lcst 0, rz_last, rz_aload 0, rz_getf (Nat.add (Nat.mul 256 6) 1) 0 rz_r, rz_aload 0, rz_getf (Nat.add (Nat.mul 256 6) 1) 0 rz_r, rz_getf (Nat.add (Nat.mul 256 9) 1) 3 rz_r, rz_cst 0, rz_aald, rz_iload 1, rz_iald, rz_callV 1 (Nat.add (Nat.mul 256 9) 1) rgX7_named, rz_iload 1, rz_icmpeq 26, rz_no, rz_aload 0, rz_iload 1, rz_callVv 1 (Nat.add (Nat.mul 256 6) 1) rgX4_linkUp, rz_aload 0, rz_iload 1, rz_callVv 1 (Nat.add (Nat.mul 256 6) 1) rgX4_linkImplemented, rz_aload 0, rz_getf (Nat.add (Nat.mul 256 6) 1) 0 rz_r, rz_iload 1, rz_cst 1, rz_callV 2 (Nat.add (Nat.mul 256 9) 1) rgX7_isKind, rz_ifeq 45, rz_aload 0, rz_getf (Nat.add (Nat.mul 256 6) 1) 0 rz_r, rz_iload 1, rz_cst 2, rz_callV 2 (Nat.add (Nat.mul 256 9) 1) rgX7_isKind, rz_ifeq 45, rz_no, rz_iinc 1 1, rz_goto 2, rz_cst 0, rz_istore 1, rz_iload 1, rz_aload 0, rz_getf (Nat.add (Nat.mul 256 6) 1) 0 rz_r, rz_getf (Nat.add (Nat.mul 256 9) 1) 2 rz_i, rz_icmpge 90, rz_cst 0, rz_istore 2, rz_iload 2, rz_aload 0, rz_getf (Nat.add (Nat.mul 256 6) 1) 0 rz_r, rz_getf (Nat.add (Nat.mul 256 9) 1) 2 rz_i, rz_icmpge 88, rz_aload 0, rz_getf (Nat.add (Nat.mul 256 6) 1) 0 rz_r, rz_getf (Nat.add (Nat.mul 256 9) 1) 5 rz_r, rz_iload 2, rz_lald, rz_iload 1, rz_lushr, rz_lcst 1, rz_land, rz_lcst 0, rz_lcmp, rz_ifeq 86, rz_aload 0, rz_getf (Nat.add (Nat.mul 256 6) 1) 0 rz_r, rz_getf (Nat.add (Nat.mul 256 9) 1) 5 rz_r, rz_iload 2, rz_dup2, rz_lald, rz_aload 0, rz_getf (Nat.add (Nat.mul 256 6) 1) 0 rz_r, rz_getf (Nat.add (Nat.mul 256 9) 1) 5 rz_r, rz_iload 1, rz_lald, rz_lor, rz_last, rz_iinc 2 1, rz_goto 56, rz_iinc 1 1, rz_goto 49, rz_cst 0, rz_istore 1, rz_iload 1, rz_aload 0, rz_getf (Nat.add (Nat.mul 256 6) 1) 0 rz_r, rz_getf (Nat.add (Nat.mul 256 9) 1) 2 rz_i, rz_icmpge 131, rz_aload 0, rz_getf (Nat.add (Nat.mul 256 6) 1) 0 rz_r, rz_getf (Nat.add (Nat.mul 256 9) 1) 5 rz_r, rz_iload 1, rz_lald, rz_iload 1, rz_lushr, rz_lcst 1, rz_land, rz_lcst 0, rz_lcmp, rz_ifeq 110, rz_no, rz_aload 0, rz_getf (Nat.add (Nat.mul 256 6) 1) 0 rz_r, rz_getf (Nat.add (Nat.mul 256 9) 1) 5 rz_r, rz_iload 1, rz_dup2, rz_lald, rz_lcst 1, rz_iload 1, rz_lshl, rz_lcst 1, rz_lor, rz_lor, rz_last, rz_aload 0, rz_getf (Nat.add (Nat.mul 256 6) 1) 0 rz_r, rz_getf (Nat.add (Nat.mul 256 9) 1) 6 rz_r, rz_iload 1, rz_lcst 0, rz_last, rz_iinc 1 1, rz_goto 92, rz_cst 0, rz_istore 1, rz_iload 1, rz_aload 0, rz_getf (Nat.add (Nat.mul 256 6) 1) 0 rz_r, rz_getf (Nat.add (Nat.mul 256 9) 1) 2 rz_i, rz_icmpge 168, rz_cst 0, rz_istore 2, rz_iload 2, rz_aload 0, rz_getf (Nat.add (Nat.mul 256 6) 1) 0 rz_r, rz_getf (Nat.add (Nat.mul 256 9) 1) 2 rz_i, rz_icmpge 166, rz_aload 0, rz_getf (Nat.add (Nat.mul 256 6) 1) 0 rz_r, rz_getf (Nat.add (Nat.mul 256 9) 1) 6 rz_r, rz_iload 2, rz_dup2, rz_lald, rz_aload 0, rz_getf (Nat.add (Nat.mul 256 6) 1) 0 rz_r, rz_getf (Nat.add (Nat.mul 256 9) 1) 5 rz_r, rz_iload 1, rz_lald, rz_iload 2, rz_lushr, rz_lcst 1, rz_land, rz_iload 1, rz_lshl, rz_lor, rz_last, rz_iinc 2 1, rz_goto 140, rz_iinc 1 1, rz_goto 133, rz_vret]
noncomputable def rgX4_linkClasses : rz_L → rz_M → rz_Z → Bool := rz_go rcX4_linkClasses 3 1000000
def rrX4_linkClasses : Room := { frames := 2, cells := 0, slots := 0, locals := 45 }
theorem rmX4_linkClasses (l : Launch) {G : rz_G} (hG : rz_Gd G) (vs : rz_L) (M : rz_M) (Z : rz_Z) (hn : vs.length = 1) (h : rgX4_linkClasses vs M Z = true) : Met l yX4_linkClasses (Cond.code yX4_linkClasses cX4_linkClasses 3 none :: rz_TB) rrX4_linkClasses (rz_Pre G vs M) (rz_Qv G M.2 Z) 0 0 (fun q => rz_b G ≤ q) := by
  obtain ⟨D, tc, ad, b, xs, rfl⟩ := id hG
  refine rz_body (pcs := rpX4_linkClasses) (by decide) rfl (by rw [hn]; decide) h ?_
  intro p e R s m args below meth c hC
  obtain ⟨hx, hb, hml, hr, hlk, ho, hts, hKn, hRm⟩ := id hC
  obtain ⟨hK, hA, hSt⟩ := id hKn
  have hw : ∀ {i j : Nat} {ws : List Cond} {w : Cond}, rz_WW[i]? = some ws → ws[j]? = some w → w.before args s = true := fun h1 h2 => hts _ (List.mem_cons_of_mem _ (rz_mem h1 h2))
  refine rz_All_c (i := 0) (fun k J hk hJ => rz_iconst_ok (pc := 0) hx hb dX4_linkClasses_0 rfl hk) ?_
  refine rz_All_c (i := 1) (fun k J hk hJ => rz_istore_n_ok (pc := 1) hx hb dX4_linkClasses_1 rfl hk) ?_
  refine rz_All_c (i := 2) (fun k J hk hJ => rz_iload_n_ok (pc := 2) hx hb dX4_linkClasses_2 rfl hk) ?_
  refine rz_All_c (i := 3) (fun k J hk hJ => rz_aload_n_ok (pc := 3) hx hb dX4_linkClasses_3 rfl hk) ?_
  refine rz_All_c (i := 4) (fun k J hk hJ => rz_getf_ok (pc := 4) (own := RX4) (ref := "ThreadJudge$Linker") (C := RX4) (T := TX4) (N := 4) (ci := 6) (index := 9) (f := 0) (t := 2) (Ts := Cond.code yX4_linkClasses cX4_linkClasses 3 none :: rz_TB) hx hb hts rz_in6 ho hK rfl (by decide) rfl (fun _ => rfl) (hw (i := 16) (j := 3) rfl rfl) (fun _ z => z) dX4_linkClasses_4 hk) ?_
  refine rz_All_c (i := 5) (fun k J hk hJ => rz_getf_ok (pc := 7) (own := RX4) (ref := "ThreadJudge$Program") (C := RX7) (T := TX7) (N := 22) (ci := 9) (index := 45) (f := 2) (t := 0) (Ts := Cond.code yX4_linkClasses cX4_linkClasses 3 none :: rz_TB) hx hb hts rz_in9 ho hK rfl (by decide) rfl (fun _ => rfl) (hw (i := 16) (j := 4) rfl rfl) (fun _ z => z) dX4_linkClasses_7 hk) ?_
  refine rz_All_c (i := 6) (fun k J hk hJ => rz_icmpge_ok (pc := 10) hx hb dX4_linkClasses_10 rfl hk (hJ 47)) ?_
  refine rz_All_c (i := 7) (fun k J hk hJ => rz_aload_n_ok (pc := 13) hx hb dX4_linkClasses_13 rfl hk) ?_
  refine rz_All_c (i := 8) (fun k J hk hJ => rz_getf_ok (pc := 14) (own := RX4) (ref := "ThreadJudge$Linker") (C := RX4) (T := TX4) (N := 4) (ci := 6) (index := 9) (f := 0) (t := 2) (Ts := Cond.code yX4_linkClasses cX4_linkClasses 3 none :: rz_TB) hx hb hts rz_in6 ho hK rfl (by decide) rfl (fun _ => rfl) (hw (i := 16) (j := 3) rfl rfl) (fun _ z => z) dX4_linkClasses_14 hk) ?_
  refine rz_All_c (i := 9) (fun k J hk hJ => rz_getf_ok (pc := 17) (own := RX4) (ref := "ThreadJudge$Program") (C := RX7) (T := TX7) (N := 22) (ci := 9) (index := 50) (f := 5) (t := 2) (Ts := Cond.code yX4_linkClasses cX4_linkClasses 3 none :: rz_TB) hx hb hts rz_in9 ho hK rfl (by decide) rfl (fun _ => rfl) (hw (i := 16) (j := 5) rfl rfl) (fun _ z => z) dX4_linkClasses_17 hk) ?_
  refine rz_All_c (i := 10) (fun k J hk hJ => rz_iload_n_ok (pc := 20) hx hb dX4_linkClasses_20 rfl hk) ?_
  refine rz_All_c (i := 11) (fun k J hk hJ => rz_lconst_ok (pc := 21) hx hb dX4_linkClasses_21 rfl hk) ?_
  refine rz_All_c (i := 12) (fun k J hk hJ => rz_last_ok (pc := 22) hx hb hK hA dX4_linkClasses_22 hk) ?_
  refine rz_All_c (i := 13) (fun k J hk hJ => rz_aload_n_ok (pc := 23) hx hb dX4_linkClasses_23 rfl hk) ?_
  refine rz_All_c (i := 14) (fun k J hk hJ => rz_getf_ok (pc := 24) (own := RX4) (ref := "ThreadJudge$Linker") (C := RX4) (T := TX4) (N := 4) (ci := 6) (index := 9) (f := 0) (t := 2) (Ts := Cond.code yX4_linkClasses cX4_linkClasses 3 none :: rz_TB) hx hb hts rz_in6 ho hK rfl (by decide) rfl (fun _ => rfl) (hw (i := 16) (j := 3) rfl rfl) (fun _ z => z) dX4_linkClasses_24 hk) ?_
  refine rz_All_c (i := 15) (fun k J hk hJ => rz_aload_n_ok (pc := 27) hx hb dX4_linkClasses_27 rfl hk) ?_
  refine rz_All_c (i := 16) (fun k J hk hJ => rz_getf_ok (pc := 28) (own := RX4) (ref := "ThreadJudge$Linker") (C := RX4) (T := TX4) (N := 4) (ci := 6) (index := 9) (f := 0) (t := 2) (Ts := Cond.code yX4_linkClasses cX4_linkClasses 3 none :: rz_TB) hx hb hts rz_in6 ho hK rfl (by decide) rfl (fun _ => rfl) (hw (i := 16) (j := 3) rfl rfl) (fun _ z => z) dX4_linkClasses_28 hk) ?_
  refine rz_All_c (i := 17) (fun k J hk hJ => rz_getf_ok (pc := 31) (own := RX4) (ref := "ThreadJudge$Program") (C := RX7) (T := TX7) (N := 22) (ci := 9) (index := 54) (f := 3) (t := 2) (Ts := Cond.code yX4_linkClasses cX4_linkClasses 3 none :: rz_TB) hx hb hts rz_in9 ho hK rfl (by decide) rfl (fun _ => rfl) (hw (i := 16) (j := 6) rfl rfl) (fun _ z => z) dX4_linkClasses_31 hk) ?_
  refine rz_All_c (i := 18) (fun k J hk hJ => rz_iconst_ok (pc := 34) hx hb dX4_linkClasses_34 rfl hk) ?_
  refine rz_All_c (i := 19) (fun k J hk hJ => rz_aald_ok (pc := 35) hx hb hK dX4_linkClasses_35 hk) ?_
  refine rz_All_c (i := 20) (fun k J hk hJ => rz_iload_n_ok (pc := 36) hx hb dX4_linkClasses_36 rfl hk) ?_
  refine rz_All_c (i := 21) (fun k J hk hJ => rz_iald_ok (pc := 37) hx hb hK dX4_linkClasses_37 hk) ?_
  refine rz_All_c (i := 22) (fun k J hk hJ => rz_callV_ok (pc := 38) (own := RX4) (C := RX7) (T0 := TX7) (N0 := 22) hC rfl (rmX7_named l hG) (rz_cwV 1 hC rz_good (rz_mem (i := 16) (j := 8) rfl rfl) (rz_mem (i := 16) (j := 9) rfl rfl) (rz_mem (i := 16) (j := 10) rfl rfl) (rz_mem (i := 1) (j := 0) rfl rfl) (rz_mem (i := 16) (j := 11) rfl rfl) ⟨rfl, by decide, by decide, by decide +kernel⟩ rfl rfl ⟨by decide, by decide⟩) rfl dX4_linkClasses_38 hk) ?_
  refine rz_All_c (i := 23) (fun k J hk hJ => rz_iload_n_ok (pc := 41) hx hb dX4_linkClasses_41 rfl hk) ?_
  refine rz_All_c (i := 24) (fun k J hk hJ => rz_icmpeq_ok (pc := 42) hx hb dX4_linkClasses_42 rfl hk (hJ 26)) ?_
  refine rz_All_c (i := 25) (fun k J hk hJ => rz_no_ok) ?_
  refine rz_All_c (i := 26) (fun k J hk hJ => rz_aload_n_ok (pc := 62) hx hb dX4_linkClasses_62 rfl hk) ?_
  refine rz_All_c (i := 27) (fun k J hk hJ => rz_iload_n_ok (pc := 63) hx hb dX4_linkClasses_63 rfl hk) ?_
  refine rz_All_c (i := 28) (fun k J hk hJ => rz_callVv_ok (pc := 64) (own := RX4) (C := RX4) (T0 := TX4) (N0 := 4) hC rfl (rmX4_linkUp l hG) (rz_cwV 1 hC rz_good (rz_mem (i := 16) (j := 17) rfl rfl) (rz_mem (i := 16) (j := 18) rfl rfl) (rz_mem (i := 16) (j := 19) rfl rfl) (rz_mem (i := 15) (j := 19) rfl rfl) (rz_mem (i := 16) (j := 20) rfl rfl) ⟨rfl, by decide, by decide, by decide +kernel⟩ rfl rfl ⟨by decide, by decide⟩) rfl dX4_linkClasses_64 hk) ?_
  refine rz_All_c (i := 29) (fun k J hk hJ => rz_aload_n_ok (pc := 67) hx hb dX4_linkClasses_67 rfl hk) ?_
  refine rz_All_c (i := 30) (fun k J hk hJ => rz_iload_n_ok (pc := 68) hx hb dX4_linkClasses_68 rfl hk) ?_
  refine rz_All_c (i := 31) (fun k J hk hJ => rz_callVv_ok (pc := 69) (own := RX4) (C := RX4) (T0 := TX4) (N0 := 4) hC rfl (rmX4_linkImplemented l hG) (rz_cwV 1 hC rz_good (rz_mem (i := 17) (j := 1) rfl rfl) (rz_mem (i := 17) (j := 2) rfl rfl) (rz_mem (i := 17) (j := 3) rfl rfl) (rz_mem (i := 15) (j := 19) rfl rfl) (rz_mem (i := 17) (j := 4) rfl rfl) ⟨rfl, by decide, by decide, by decide +kernel⟩ rfl rfl ⟨by decide, by decide⟩) rfl dX4_linkClasses_69 hk) ?_
  refine rz_All_c (i := 32) (fun k J hk hJ => rz_aload_n_ok (pc := 72) hx hb dX4_linkClasses_72 rfl hk) ?_
  refine rz_All_c (i := 33) (fun k J hk hJ => rz_getf_ok (pc := 73) (own := RX4) (ref := "ThreadJudge$Linker") (C := RX4) (T := TX4) (N := 4) (ci := 6) (index := 9) (f := 0) (t := 2) (Ts := Cond.code yX4_linkClasses cX4_linkClasses 3 none :: rz_TB) hx hb hts rz_in6 ho hK rfl (by decide) rfl (fun _ => rfl) (hw (i := 16) (j := 3) rfl rfl) (fun _ z => z) dX4_linkClasses_73 hk) ?_
  refine rz_All_c (i := 34) (fun k J hk hJ => rz_iload_n_ok (pc := 76) hx hb dX4_linkClasses_76 rfl hk) ?_
  refine rz_All_c (i := 35) (fun k J hk hJ => rz_iconst_ok (pc := 77) hx hb dX4_linkClasses_77 rfl hk) ?_
  refine rz_All_c (i := 36) (fun k J hk hJ => rz_callV_ok (pc := 78) (own := RX4) (C := RX7) (T0 := TX7) (N0 := 22) hC rfl (rmX7_isKind l hG) (rz_cwV 2 hC rz_good (rz_mem (i := 16) (j := 21) rfl rfl) (rz_mem (i := 16) (j := 22) rfl rfl) (rz_mem (i := 16) (j := 23) rfl rfl) (rz_mem (i := 1) (j := 0) rfl rfl) (rz_mem (i := 17) (j := 0) rfl rfl) ⟨rfl, by decide, by decide, by decide +kernel⟩ rfl rfl ⟨by decide, by decide⟩) rfl dX4_linkClasses_78 hk) ?_
  refine rz_All_c (i := 37) (fun k J hk hJ => rz_ifeq_ok (pc := 81) hx hb dX4_linkClasses_81 rfl hk (hJ 45)) ?_
  refine rz_All_c (i := 38) (fun k J hk hJ => rz_aload_n_ok (pc := 84) hx hb dX4_linkClasses_84 rfl hk) ?_
  refine rz_All_c (i := 39) (fun k J hk hJ => rz_getf_ok (pc := 85) (own := RX4) (ref := "ThreadJudge$Linker") (C := RX4) (T := TX4) (N := 4) (ci := 6) (index := 9) (f := 0) (t := 2) (Ts := Cond.code yX4_linkClasses cX4_linkClasses 3 none :: rz_TB) hx hb hts rz_in6 ho hK rfl (by decide) rfl (fun _ => rfl) (hw (i := 16) (j := 3) rfl rfl) (fun _ z => z) dX4_linkClasses_85 hk) ?_
  refine rz_All_c (i := 40) (fun k J hk hJ => rz_iload_n_ok (pc := 88) hx hb dX4_linkClasses_88 rfl hk) ?_
  refine rz_All_c (i := 41) (fun k J hk hJ => rz_iconst_ok (pc := 89) hx hb dX4_linkClasses_89 rfl hk) ?_
  refine rz_All_c (i := 42) (fun k J hk hJ => rz_callV_ok (pc := 90) (own := RX4) (C := RX7) (T0 := TX7) (N0 := 22) hC rfl (rmX7_isKind l hG) (rz_cwV 2 hC rz_good (rz_mem (i := 16) (j := 21) rfl rfl) (rz_mem (i := 16) (j := 22) rfl rfl) (rz_mem (i := 16) (j := 23) rfl rfl) (rz_mem (i := 1) (j := 0) rfl rfl) (rz_mem (i := 17) (j := 0) rfl rfl) ⟨rfl, by decide, by decide, by decide +kernel⟩ rfl rfl ⟨by decide, by decide⟩) rfl dX4_linkClasses_90 hk) ?_
  refine rz_All_c (i := 43) (fun k J hk hJ => rz_ifeq_ok (pc := 93) hx hb dX4_linkClasses_93 rfl hk (hJ 45)) ?_
  refine rz_All_c (i := 44) (fun k J hk hJ => rz_no_ok) ?_
  refine rz_All_c (i := 45) (fun k J hk hJ => rz_iinc_ok (pc := 113) hx hb dX4_linkClasses_113 (by decide) hk) ?_
  refine rz_All_c (i := 46) (fun k J hk hJ => rz_goto_ok (pc := 116) hx hb dX4_linkClasses_116 rfl (hJ 2)) ?_
  refine rz_All_c (i := 47) (fun k J hk hJ => rz_iconst_ok (pc := 119) hx hb dX4_linkClasses_119 rfl hk) ?_
  refine rz_All_c (i := 48) (fun k J hk hJ => rz_istore_n_ok (pc := 120) hx hb dX4_linkClasses_120 rfl hk) ?_
  refine rz_All_c (i := 49) (fun k J hk hJ => rz_iload_n_ok (pc := 121) hx hb dX4_linkClasses_121 rfl hk) ?_
  refine rz_All_c (i := 50) (fun k J hk hJ => rz_aload_n_ok (pc := 122) hx hb dX4_linkClasses_122 rfl hk) ?_
  refine rz_All_c (i := 51) (fun k J hk hJ => rz_getf_ok (pc := 123) (own := RX4) (ref := "ThreadJudge$Linker") (C := RX4) (T := TX4) (N := 4) (ci := 6) (index := 9) (f := 0) (t := 2) (Ts := Cond.code yX4_linkClasses cX4_linkClasses 3 none :: rz_TB) hx hb hts rz_in6 ho hK rfl (by decide) rfl (fun _ => rfl) (hw (i := 16) (j := 3) rfl rfl) (fun _ z => z) dX4_linkClasses_123 hk) ?_
  refine rz_All_c (i := 52) (fun k J hk hJ => rz_getf_ok (pc := 126) (own := RX4) (ref := "ThreadJudge$Program") (C := RX7) (T := TX7) (N := 22) (ci := 9) (index := 45) (f := 2) (t := 0) (Ts := Cond.code yX4_linkClasses cX4_linkClasses 3 none :: rz_TB) hx hb hts rz_in9 ho hK rfl (by decide) rfl (fun _ => rfl) (hw (i := 16) (j := 4) rfl rfl) (fun _ z => z) dX4_linkClasses_126 hk) ?_
  refine rz_All_c (i := 53) (fun k J hk hJ => rz_icmpge_ok (pc := 129) hx hb dX4_linkClasses_129 rfl hk (hJ 90)) ?_
  refine rz_All_c (i := 54) (fun k J hk hJ => rz_iconst_ok (pc := 132) hx hb dX4_linkClasses_132 rfl hk) ?_
  refine rz_All_c (i := 55) (fun k J hk hJ => rz_istore_n_ok (pc := 133) hx hb dX4_linkClasses_133 rfl hk) ?_
  refine rz_All_c (i := 56) (fun k J hk hJ => rz_iload_n_ok (pc := 134) hx hb dX4_linkClasses_134 rfl hk) ?_
  refine rz_All_c (i := 57) (fun k J hk hJ => rz_aload_n_ok (pc := 135) hx hb dX4_linkClasses_135 rfl hk) ?_
  refine rz_All_c (i := 58) (fun k J hk hJ => rz_getf_ok (pc := 136) (own := RX4) (ref := "ThreadJudge$Linker") (C := RX4) (T := TX4) (N := 4) (ci := 6) (index := 9) (f := 0) (t := 2) (Ts := Cond.code yX4_linkClasses cX4_linkClasses 3 none :: rz_TB) hx hb hts rz_in6 ho hK rfl (by decide) rfl (fun _ => rfl) (hw (i := 16) (j := 3) rfl rfl) (fun _ z => z) dX4_linkClasses_136 hk) ?_
  refine rz_All_c (i := 59) (fun k J hk hJ => rz_getf_ok (pc := 139) (own := RX4) (ref := "ThreadJudge$Program") (C := RX7) (T := TX7) (N := 22) (ci := 9) (index := 45) (f := 2) (t := 0) (Ts := Cond.code yX4_linkClasses cX4_linkClasses 3 none :: rz_TB) hx hb hts rz_in9 ho hK rfl (by decide) rfl (fun _ => rfl) (hw (i := 16) (j := 4) rfl rfl) (fun _ z => z) dX4_linkClasses_139 hk) ?_
  refine rz_All_c (i := 60) (fun k J hk hJ => rz_icmpge_ok (pc := 142) hx hb dX4_linkClasses_142 rfl hk (hJ 88)) ?_
  refine rz_All_c (i := 61) (fun k J hk hJ => rz_aload_n_ok (pc := 145) hx hb dX4_linkClasses_145 rfl hk) ?_
  refine rz_All_c (i := 62) (fun k J hk hJ => rz_getf_ok (pc := 146) (own := RX4) (ref := "ThreadJudge$Linker") (C := RX4) (T := TX4) (N := 4) (ci := 6) (index := 9) (f := 0) (t := 2) (Ts := Cond.code yX4_linkClasses cX4_linkClasses 3 none :: rz_TB) hx hb hts rz_in6 ho hK rfl (by decide) rfl (fun _ => rfl) (hw (i := 16) (j := 3) rfl rfl) (fun _ z => z) dX4_linkClasses_146 hk) ?_
  refine rz_All_c (i := 63) (fun k J hk hJ => rz_getf_ok (pc := 149) (own := RX4) (ref := "ThreadJudge$Program") (C := RX7) (T := TX7) (N := 22) (ci := 9) (index := 50) (f := 5) (t := 2) (Ts := Cond.code yX4_linkClasses cX4_linkClasses 3 none :: rz_TB) hx hb hts rz_in9 ho hK rfl (by decide) rfl (fun _ => rfl) (hw (i := 16) (j := 5) rfl rfl) (fun _ z => z) dX4_linkClasses_149 hk) ?_
  refine rz_All_c (i := 64) (fun k J hk hJ => rz_iload_n_ok (pc := 152) hx hb dX4_linkClasses_152 rfl hk) ?_
  refine rz_All_c (i := 65) (fun k J hk hJ => rz_lald_ok (pc := 153) hx hb hK dX4_linkClasses_153 hk) ?_
  refine rz_All_c (i := 66) (fun k J hk hJ => rz_iload_n_ok (pc := 154) hx hb dX4_linkClasses_154 rfl hk) ?_
  refine rz_All_c (i := 67) (fun k J hk hJ => rz_lushr_ok (pc := 155) hx hb dX4_linkClasses_155 hk) ?_
  refine rz_All_c (i := 68) (fun k J hk hJ => rz_lconst_ok (pc := 156) hx hb dX4_linkClasses_156 rfl hk) ?_
  refine rz_All_c (i := 69) (fun k J hk hJ => rz_land_ok (pc := 157) hx hb dX4_linkClasses_157 hk) ?_
  refine rz_All_c (i := 70) (fun k J hk hJ => rz_lconst_ok (pc := 158) hx hb dX4_linkClasses_158 rfl hk) ?_
  refine rz_All_c (i := 71) (fun k J hk hJ => rz_lcmp_ok (pc := 159) hx hb dX4_linkClasses_159 hk) ?_
  refine rz_All_c (i := 72) (fun k J hk hJ => rz_ifeq_ok (pc := 160) hx hb dX4_linkClasses_160 rfl hk (hJ 86)) ?_
  refine rz_All_c (i := 73) (fun k J hk hJ => rz_aload_n_ok (pc := 163) hx hb dX4_linkClasses_163 rfl hk) ?_
  refine rz_All_c (i := 74) (fun k J hk hJ => rz_getf_ok (pc := 164) (own := RX4) (ref := "ThreadJudge$Linker") (C := RX4) (T := TX4) (N := 4) (ci := 6) (index := 9) (f := 0) (t := 2) (Ts := Cond.code yX4_linkClasses cX4_linkClasses 3 none :: rz_TB) hx hb hts rz_in6 ho hK rfl (by decide) rfl (fun _ => rfl) (hw (i := 16) (j := 3) rfl rfl) (fun _ z => z) dX4_linkClasses_164 hk) ?_
  refine rz_All_c (i := 75) (fun k J hk hJ => rz_getf_ok (pc := 167) (own := RX4) (ref := "ThreadJudge$Program") (C := RX7) (T := TX7) (N := 22) (ci := 9) (index := 50) (f := 5) (t := 2) (Ts := Cond.code yX4_linkClasses cX4_linkClasses 3 none :: rz_TB) hx hb hts rz_in9 ho hK rfl (by decide) rfl (fun _ => rfl) (hw (i := 16) (j := 5) rfl rfl) (fun _ z => z) dX4_linkClasses_167 hk) ?_
  refine rz_All_c (i := 76) (fun k J hk hJ => rz_iload_n_ok (pc := 170) hx hb dX4_linkClasses_170 rfl hk) ?_
  refine rz_All_c (i := 77) (fun k J hk hJ => rz_dup2_ok (pc := 171) hx hb dX4_linkClasses_171 hk) ?_
  refine rz_All_c (i := 78) (fun k J hk hJ => rz_lald_ok (pc := 172) hx hb hK dX4_linkClasses_172 hk) ?_
  refine rz_All_c (i := 79) (fun k J hk hJ => rz_aload_n_ok (pc := 173) hx hb dX4_linkClasses_173 rfl hk) ?_
  refine rz_All_c (i := 80) (fun k J hk hJ => rz_getf_ok (pc := 174) (own := RX4) (ref := "ThreadJudge$Linker") (C := RX4) (T := TX4) (N := 4) (ci := 6) (index := 9) (f := 0) (t := 2) (Ts := Cond.code yX4_linkClasses cX4_linkClasses 3 none :: rz_TB) hx hb hts rz_in6 ho hK rfl (by decide) rfl (fun _ => rfl) (hw (i := 16) (j := 3) rfl rfl) (fun _ z => z) dX4_linkClasses_174 hk) ?_
  refine rz_All_c (i := 81) (fun k J hk hJ => rz_getf_ok (pc := 177) (own := RX4) (ref := "ThreadJudge$Program") (C := RX7) (T := TX7) (N := 22) (ci := 9) (index := 50) (f := 5) (t := 2) (Ts := Cond.code yX4_linkClasses cX4_linkClasses 3 none :: rz_TB) hx hb hts rz_in9 ho hK rfl (by decide) rfl (fun _ => rfl) (hw (i := 16) (j := 5) rfl rfl) (fun _ z => z) dX4_linkClasses_177 hk) ?_
  refine rz_All_c (i := 82) (fun k J hk hJ => rz_iload_n_ok (pc := 180) hx hb dX4_linkClasses_180 rfl hk) ?_
  refine rz_All_c (i := 83) (fun k J hk hJ => rz_lald_ok (pc := 181) hx hb hK dX4_linkClasses_181 hk) ?_
  refine rz_All_c (i := 84) (fun k J hk hJ => rz_lor_ok (pc := 182) hx hb dX4_linkClasses_182 hk) ?_
  refine rz_All_c (i := 85) (fun k J hk hJ => rz_last_ok (pc := 183) hx hb hK hA dX4_linkClasses_183 hk) ?_
  refine rz_All_c (i := 86) (fun k J hk hJ => rz_iinc_ok (pc := 184) hx hb dX4_linkClasses_184 (by decide) hk) ?_
  refine rz_All_c (i := 87) (fun k J hk hJ => rz_goto_ok (pc := 187) hx hb dX4_linkClasses_187 rfl (hJ 56)) ?_
  refine rz_All_c (i := 88) (fun k J hk hJ => rz_iinc_ok (pc := 190) hx hb dX4_linkClasses_190 (by decide) hk) ?_
  refine rz_All_c (i := 89) (fun k J hk hJ => rz_goto_ok (pc := 193) hx hb dX4_linkClasses_193 rfl (hJ 49)) ?_
  refine rz_All_c (i := 90) (fun k J hk hJ => rz_iconst_ok (pc := 196) hx hb dX4_linkClasses_196 rfl hk) ?_
  refine rz_All_c (i := 91) (fun k J hk hJ => rz_istore_n_ok (pc := 197) hx hb dX4_linkClasses_197 rfl hk) ?_
  refine rz_All_c (i := 92) (fun k J hk hJ => rz_iload_n_ok (pc := 198) hx hb dX4_linkClasses_198 rfl hk) ?_
  refine rz_All_c (i := 93) (fun k J hk hJ => rz_aload_n_ok (pc := 199) hx hb dX4_linkClasses_199 rfl hk) ?_
  refine rz_All_c (i := 94) (fun k J hk hJ => rz_getf_ok (pc := 200) (own := RX4) (ref := "ThreadJudge$Linker") (C := RX4) (T := TX4) (N := 4) (ci := 6) (index := 9) (f := 0) (t := 2) (Ts := Cond.code yX4_linkClasses cX4_linkClasses 3 none :: rz_TB) hx hb hts rz_in6 ho hK rfl (by decide) rfl (fun _ => rfl) (hw (i := 16) (j := 3) rfl rfl) (fun _ z => z) dX4_linkClasses_200 hk) ?_
  refine rz_All_c (i := 95) (fun k J hk hJ => rz_getf_ok (pc := 203) (own := RX4) (ref := "ThreadJudge$Program") (C := RX7) (T := TX7) (N := 22) (ci := 9) (index := 45) (f := 2) (t := 0) (Ts := Cond.code yX4_linkClasses cX4_linkClasses 3 none :: rz_TB) hx hb hts rz_in9 ho hK rfl (by decide) rfl (fun _ => rfl) (hw (i := 16) (j := 4) rfl rfl) (fun _ z => z) dX4_linkClasses_203 hk) ?_
  refine rz_All_c (i := 96) (fun k J hk hJ => rz_icmpge_ok (pc := 206) hx hb dX4_linkClasses_206 rfl hk (hJ 131)) ?_
  refine rz_All_c (i := 97) (fun k J hk hJ => rz_aload_n_ok (pc := 209) hx hb dX4_linkClasses_209 rfl hk) ?_
  refine rz_All_c (i := 98) (fun k J hk hJ => rz_getf_ok (pc := 210) (own := RX4) (ref := "ThreadJudge$Linker") (C := RX4) (T := TX4) (N := 4) (ci := 6) (index := 9) (f := 0) (t := 2) (Ts := Cond.code yX4_linkClasses cX4_linkClasses 3 none :: rz_TB) hx hb hts rz_in6 ho hK rfl (by decide) rfl (fun _ => rfl) (hw (i := 16) (j := 3) rfl rfl) (fun _ z => z) dX4_linkClasses_210 hk) ?_
  refine rz_All_c (i := 99) (fun k J hk hJ => rz_getf_ok (pc := 213) (own := RX4) (ref := "ThreadJudge$Program") (C := RX7) (T := TX7) (N := 22) (ci := 9) (index := 50) (f := 5) (t := 2) (Ts := Cond.code yX4_linkClasses cX4_linkClasses 3 none :: rz_TB) hx hb hts rz_in9 ho hK rfl (by decide) rfl (fun _ => rfl) (hw (i := 16) (j := 5) rfl rfl) (fun _ z => z) dX4_linkClasses_213 hk) ?_
  refine rz_All_c (i := 100) (fun k J hk hJ => rz_iload_n_ok (pc := 216) hx hb dX4_linkClasses_216 rfl hk) ?_
  refine rz_All_c (i := 101) (fun k J hk hJ => rz_lald_ok (pc := 217) hx hb hK dX4_linkClasses_217 hk) ?_
  refine rz_All_c (i := 102) (fun k J hk hJ => rz_iload_n_ok (pc := 218) hx hb dX4_linkClasses_218 rfl hk) ?_
  refine rz_All_c (i := 103) (fun k J hk hJ => rz_lushr_ok (pc := 219) hx hb dX4_linkClasses_219 hk) ?_
  refine rz_All_c (i := 104) (fun k J hk hJ => rz_lconst_ok (pc := 220) hx hb dX4_linkClasses_220 rfl hk) ?_
  refine rz_All_c (i := 105) (fun k J hk hJ => rz_land_ok (pc := 221) hx hb dX4_linkClasses_221 hk) ?_
  refine rz_All_c (i := 106) (fun k J hk hJ => rz_lconst_ok (pc := 222) hx hb dX4_linkClasses_222 rfl hk) ?_
  refine rz_All_c (i := 107) (fun k J hk hJ => rz_lcmp_ok (pc := 223) hx hb dX4_linkClasses_223 hk) ?_
  refine rz_All_c (i := 108) (fun k J hk hJ => rz_ifeq_ok (pc := 224) hx hb dX4_linkClasses_224 rfl hk (hJ 110)) ?_
  refine rz_All_c (i := 109) (fun k J hk hJ => rz_no_ok) ?_
  refine rz_All_c (i := 110) (fun k J hk hJ => rz_aload_n_ok (pc := 244) hx hb dX4_linkClasses_244 rfl hk) ?_
  refine rz_All_c (i := 111) (fun k J hk hJ => rz_getf_ok (pc := 245) (own := RX4) (ref := "ThreadJudge$Linker") (C := RX4) (T := TX4) (N := 4) (ci := 6) (index := 9) (f := 0) (t := 2) (Ts := Cond.code yX4_linkClasses cX4_linkClasses 3 none :: rz_TB) hx hb hts rz_in6 ho hK rfl (by decide) rfl (fun _ => rfl) (hw (i := 16) (j := 3) rfl rfl) (fun _ z => z) dX4_linkClasses_245 hk) ?_
  refine rz_All_c (i := 112) (fun k J hk hJ => rz_getf_ok (pc := 248) (own := RX4) (ref := "ThreadJudge$Program") (C := RX7) (T := TX7) (N := 22) (ci := 9) (index := 50) (f := 5) (t := 2) (Ts := Cond.code yX4_linkClasses cX4_linkClasses 3 none :: rz_TB) hx hb hts rz_in9 ho hK rfl (by decide) rfl (fun _ => rfl) (hw (i := 16) (j := 5) rfl rfl) (fun _ z => z) dX4_linkClasses_248 hk) ?_
  refine rz_All_c (i := 113) (fun k J hk hJ => rz_iload_n_ok (pc := 251) hx hb dX4_linkClasses_251 rfl hk) ?_
  refine rz_All_c (i := 114) (fun k J hk hJ => rz_dup2_ok (pc := 252) hx hb dX4_linkClasses_252 hk) ?_
  refine rz_All_c (i := 115) (fun k J hk hJ => rz_lald_ok (pc := 253) hx hb hK dX4_linkClasses_253 hk) ?_
  refine rz_All_c (i := 116) (fun k J hk hJ => rz_lconst_ok (pc := 254) hx hb dX4_linkClasses_254 rfl hk) ?_
  refine rz_All_c (i := 117) (fun k J hk hJ => rz_iload_n_ok (pc := 255) hx hb dX4_linkClasses_255 rfl hk) ?_
  refine rz_All_c (i := 118) (fun k J hk hJ => rz_lshl_ok (pc := 256) hx hb dX4_linkClasses_256 hk) ?_
  refine rz_All_c (i := 119) (fun k J hk hJ => rz_lconst_ok (pc := 257) hx hb dX4_linkClasses_257 rfl hk) ?_
  refine rz_All_c (i := 120) (fun k J hk hJ => rz_lor_ok (pc := 258) hx hb dX4_linkClasses_258 hk) ?_
  refine rz_All_c (i := 121) (fun k J hk hJ => rz_lor_ok (pc := 259) hx hb dX4_linkClasses_259 hk) ?_
  refine rz_All_c (i := 122) (fun k J hk hJ => rz_last_ok (pc := 260) hx hb hK hA dX4_linkClasses_260 hk) ?_
  refine rz_All_c (i := 123) (fun k J hk hJ => rz_aload_n_ok (pc := 261) hx hb dX4_linkClasses_261 rfl hk) ?_
  refine rz_All_c (i := 124) (fun k J hk hJ => rz_getf_ok (pc := 262) (own := RX4) (ref := "ThreadJudge$Linker") (C := RX4) (T := TX4) (N := 4) (ci := 6) (index := 9) (f := 0) (t := 2) (Ts := Cond.code yX4_linkClasses cX4_linkClasses 3 none :: rz_TB) hx hb hts rz_in6 ho hK rfl (by decide) rfl (fun _ => rfl) (hw (i := 16) (j := 3) rfl rfl) (fun _ z => z) dX4_linkClasses_262 hk) ?_
  refine rz_All_c (i := 125) (fun k J hk hJ => rz_getf_ok (pc := 265) (own := RX4) (ref := "ThreadJudge$Program") (C := RX7) (T := TX7) (N := 22) (ci := 9) (index := 76) (f := 6) (t := 2) (Ts := Cond.code yX4_linkClasses cX4_linkClasses 3 none :: rz_TB) hx hb hts rz_in9 ho hK rfl (by decide) rfl (fun _ => rfl) (hw (i := 16) (j := 7) rfl rfl) (fun _ z => z) dX4_linkClasses_265 hk) ?_
  refine rz_All_c (i := 126) (fun k J hk hJ => rz_iload_n_ok (pc := 268) hx hb dX4_linkClasses_268 rfl hk) ?_
  refine rz_All_c (i := 127) (fun k J hk hJ => rz_lconst_ok (pc := 269) hx hb dX4_linkClasses_269 rfl hk) ?_
  refine rz_All_c (i := 128) (fun k J hk hJ => rz_last_ok (pc := 270) hx hb hK hA dX4_linkClasses_270 hk) ?_
  refine rz_All_c (i := 129) (fun k J hk hJ => rz_iinc_ok (pc := 271) hx hb dX4_linkClasses_271 (by decide) hk) ?_
  refine rz_All_c (i := 130) (fun k J hk hJ => rz_goto_ok (pc := 274) hx hb dX4_linkClasses_274 rfl (hJ 92)) ?_
  refine rz_All_c (i := 131) (fun k J hk hJ => rz_iconst_ok (pc := 277) hx hb dX4_linkClasses_277 rfl hk) ?_
  refine rz_All_c (i := 132) (fun k J hk hJ => rz_istore_n_ok (pc := 278) hx hb dX4_linkClasses_278 rfl hk) ?_
  refine rz_All_c (i := 133) (fun k J hk hJ => rz_iload_n_ok (pc := 279) hx hb dX4_linkClasses_279 rfl hk) ?_
  refine rz_All_c (i := 134) (fun k J hk hJ => rz_aload_n_ok (pc := 280) hx hb dX4_linkClasses_280 rfl hk) ?_
  refine rz_All_c (i := 135) (fun k J hk hJ => rz_getf_ok (pc := 281) (own := RX4) (ref := "ThreadJudge$Linker") (C := RX4) (T := TX4) (N := 4) (ci := 6) (index := 9) (f := 0) (t := 2) (Ts := Cond.code yX4_linkClasses cX4_linkClasses 3 none :: rz_TB) hx hb hts rz_in6 ho hK rfl (by decide) rfl (fun _ => rfl) (hw (i := 16) (j := 3) rfl rfl) (fun _ z => z) dX4_linkClasses_281 hk) ?_
  refine rz_All_c (i := 136) (fun k J hk hJ => rz_getf_ok (pc := 284) (own := RX4) (ref := "ThreadJudge$Program") (C := RX7) (T := TX7) (N := 22) (ci := 9) (index := 45) (f := 2) (t := 0) (Ts := Cond.code yX4_linkClasses cX4_linkClasses 3 none :: rz_TB) hx hb hts rz_in9 ho hK rfl (by decide) rfl (fun _ => rfl) (hw (i := 16) (j := 4) rfl rfl) (fun _ z => z) dX4_linkClasses_284 hk) ?_
  refine rz_All_c (i := 137) (fun k J hk hJ => rz_icmpge_ok (pc := 287) hx hb dX4_linkClasses_287 rfl hk (hJ 168)) ?_
  refine rz_All_c (i := 138) (fun k J hk hJ => rz_iconst_ok (pc := 290) hx hb dX4_linkClasses_290 rfl hk) ?_
  refine rz_All_c (i := 139) (fun k J hk hJ => rz_istore_n_ok (pc := 291) hx hb dX4_linkClasses_291 rfl hk) ?_
  refine rz_All_c (i := 140) (fun k J hk hJ => rz_iload_n_ok (pc := 292) hx hb dX4_linkClasses_292 rfl hk) ?_
  refine rz_All_c (i := 141) (fun k J hk hJ => rz_aload_n_ok (pc := 293) hx hb dX4_linkClasses_293 rfl hk) ?_
  refine rz_All_c (i := 142) (fun k J hk hJ => rz_getf_ok (pc := 294) (own := RX4) (ref := "ThreadJudge$Linker") (C := RX4) (T := TX4) (N := 4) (ci := 6) (index := 9) (f := 0) (t := 2) (Ts := Cond.code yX4_linkClasses cX4_linkClasses 3 none :: rz_TB) hx hb hts rz_in6 ho hK rfl (by decide) rfl (fun _ => rfl) (hw (i := 16) (j := 3) rfl rfl) (fun _ z => z) dX4_linkClasses_294 hk) ?_
  refine rz_All_c (i := 143) (fun k J hk hJ => rz_getf_ok (pc := 297) (own := RX4) (ref := "ThreadJudge$Program") (C := RX7) (T := TX7) (N := 22) (ci := 9) (index := 45) (f := 2) (t := 0) (Ts := Cond.code yX4_linkClasses cX4_linkClasses 3 none :: rz_TB) hx hb hts rz_in9 ho hK rfl (by decide) rfl (fun _ => rfl) (hw (i := 16) (j := 4) rfl rfl) (fun _ z => z) dX4_linkClasses_297 hk) ?_
  refine rz_All_c (i := 144) (fun k J hk hJ => rz_icmpge_ok (pc := 300) hx hb dX4_linkClasses_300 rfl hk (hJ 166)) ?_
  refine rz_All_c (i := 145) (fun k J hk hJ => rz_aload_n_ok (pc := 303) hx hb dX4_linkClasses_303 rfl hk) ?_
  refine rz_All_c (i := 146) (fun k J hk hJ => rz_getf_ok (pc := 304) (own := RX4) (ref := "ThreadJudge$Linker") (C := RX4) (T := TX4) (N := 4) (ci := 6) (index := 9) (f := 0) (t := 2) (Ts := Cond.code yX4_linkClasses cX4_linkClasses 3 none :: rz_TB) hx hb hts rz_in6 ho hK rfl (by decide) rfl (fun _ => rfl) (hw (i := 16) (j := 3) rfl rfl) (fun _ z => z) dX4_linkClasses_304 hk) ?_
  refine rz_All_c (i := 147) (fun k J hk hJ => rz_getf_ok (pc := 307) (own := RX4) (ref := "ThreadJudge$Program") (C := RX7) (T := TX7) (N := 22) (ci := 9) (index := 76) (f := 6) (t := 2) (Ts := Cond.code yX4_linkClasses cX4_linkClasses 3 none :: rz_TB) hx hb hts rz_in9 ho hK rfl (by decide) rfl (fun _ => rfl) (hw (i := 16) (j := 7) rfl rfl) (fun _ z => z) dX4_linkClasses_307 hk) ?_
  refine rz_All_c (i := 148) (fun k J hk hJ => rz_iload_n_ok (pc := 310) hx hb dX4_linkClasses_310 rfl hk) ?_
  refine rz_All_c (i := 149) (fun k J hk hJ => rz_dup2_ok (pc := 311) hx hb dX4_linkClasses_311 hk) ?_
  refine rz_All_c (i := 150) (fun k J hk hJ => rz_lald_ok (pc := 312) hx hb hK dX4_linkClasses_312 hk) ?_
  refine rz_All_c (i := 151) (fun k J hk hJ => rz_aload_n_ok (pc := 313) hx hb dX4_linkClasses_313 rfl hk) ?_
  refine rz_All_c (i := 152) (fun k J hk hJ => rz_getf_ok (pc := 314) (own := RX4) (ref := "ThreadJudge$Linker") (C := RX4) (T := TX4) (N := 4) (ci := 6) (index := 9) (f := 0) (t := 2) (Ts := Cond.code yX4_linkClasses cX4_linkClasses 3 none :: rz_TB) hx hb hts rz_in6 ho hK rfl (by decide) rfl (fun _ => rfl) (hw (i := 16) (j := 3) rfl rfl) (fun _ z => z) dX4_linkClasses_314 hk) ?_
  refine rz_All_c (i := 153) (fun k J hk hJ => rz_getf_ok (pc := 317) (own := RX4) (ref := "ThreadJudge$Program") (C := RX7) (T := TX7) (N := 22) (ci := 9) (index := 50) (f := 5) (t := 2) (Ts := Cond.code yX4_linkClasses cX4_linkClasses 3 none :: rz_TB) hx hb hts rz_in9 ho hK rfl (by decide) rfl (fun _ => rfl) (hw (i := 16) (j := 5) rfl rfl) (fun _ z => z) dX4_linkClasses_317 hk) ?_
  refine rz_All_c (i := 154) (fun k J hk hJ => rz_iload_n_ok (pc := 320) hx hb dX4_linkClasses_320 rfl hk) ?_
  refine rz_All_c (i := 155) (fun k J hk hJ => rz_lald_ok (pc := 321) hx hb hK dX4_linkClasses_321 hk) ?_
  refine rz_All_c (i := 156) (fun k J hk hJ => rz_iload_n_ok (pc := 322) hx hb dX4_linkClasses_322 rfl hk) ?_
  refine rz_All_c (i := 157) (fun k J hk hJ => rz_lushr_ok (pc := 323) hx hb dX4_linkClasses_323 hk) ?_
  refine rz_All_c (i := 158) (fun k J hk hJ => rz_lconst_ok (pc := 324) hx hb dX4_linkClasses_324 rfl hk) ?_
  refine rz_All_c (i := 159) (fun k J hk hJ => rz_land_ok (pc := 325) hx hb dX4_linkClasses_325 hk) ?_
  refine rz_All_c (i := 160) (fun k J hk hJ => rz_iload_n_ok (pc := 326) hx hb dX4_linkClasses_326 rfl hk) ?_
  refine rz_All_c (i := 161) (fun k J hk hJ => rz_lshl_ok (pc := 327) hx hb dX4_linkClasses_327 hk) ?_
  refine rz_All_c (i := 162) (fun k J hk hJ => rz_lor_ok (pc := 328) hx hb dX4_linkClasses_328 hk) ?_
  refine rz_All_c (i := 163) (fun k J hk hJ => rz_last_ok (pc := 329) hx hb hK hA dX4_linkClasses_329 hk) ?_
  refine rz_All_c (i := 164) (fun k J hk hJ => rz_iinc_ok (pc := 330) hx hb dX4_linkClasses_330 (by decide) hk) ?_
  refine rz_All_c (i := 165) (fun k J hk hJ => rz_goto_ok (pc := 333) hx hb dX4_linkClasses_333 rfl (hJ 140)) ?_
  refine rz_All_c (i := 166) (fun k J hk hJ => rz_iinc_ok (pc := 336) hx hb dX4_linkClasses_336 (by decide) hk) ?_
  refine rz_All_c (i := 167) (fun k J hk hJ => rz_goto_ok (pc := 339) hx hb dX4_linkClasses_339 rfl (hJ 133)) ?_
  refine rz_All_c (i := 168) (fun k J hk hJ => rz_vret_ok (pc := 342) hC dX4_linkClasses_342) ?_
  exact trivial
theorem dX4_resolve_0 : decode cX4_resolve 0 = .ok (.iload_n 1, 1) := by decide +kernel
theorem dX4_resolve_1 : decode cX4_resolve 1 = .ok (.iconst 1, 1) := by decide +kernel
theorem dX4_resolve_2 : decode cX4_resolve 2 = .ok (.iand, 1) := by decide +kernel
theorem dX4_resolve_3 : decode cX4_resolve 3 = .ok (.ifCond .eq 7, 3) := by decide +kernel
theorem dX4_resolve_10 : decode cX4_resolve 10 = .ok (.iconst 0, 1) := by decide +kernel
theorem dX4_resolve_11 : decode cX4_resolve 11 = .ok (.istore_n 2, 1) := by decide +kernel
theorem dX4_resolve_12 : decode cX4_resolve 12 = .ok (.iload_n 1, 1) := by decide +kernel
theorem dX4_resolve_13 : decode cX4_resolve 13 = .ok (.iconst 1, 1) := by decide +kernel
theorem dX4_resolve_14 : decode cX4_resolve 14 = .ok (.ishr, 1) := by decide +kernel
theorem dX4_resolve_15 : decode cX4_resolve 15 = .ok (.istore_n 3, 1) := by decide +kernel
theorem dX4_resolve_16 : decode cX4_resolve 16 = .ok (.iload_n 3, 1) := by decide +kernel
theorem dX4_resolve_17 : decode cX4_resolve 17 = .ok (.bipush 58, 2) := by decide +kernel
theorem dX4_resolve_19 : decode cX4_resolve 19 = .ok (.if_icmp .ne 15, 3) := by decide +kernel
theorem dX4_resolve_22 : decode cX4_resolve 22 = .ok (.iload_n 2, 1) := by decide +kernel
theorem dX4_resolve_23 : decode cX4_resolve 23 = .ok (.ifCond .eq 8, 3) := by decide +kernel
theorem dX4_resolve_31 : decode cX4_resolve 31 = .ok (.bipush 100, 2) := by decide +kernel
theorem dX4_resolve_33 : decode cX4_resolve 33 = .ok (.ireturn, 1) := by decide +kernel
theorem dX4_resolve_34 : decode cX4_resolve 34 = .ok (.iload_n 3, 1) := by decide +kernel
theorem dX4_resolve_35 : decode cX4_resolve 35 = .ok (.bipush 59, 2) := by decide +kernel
theorem dX4_resolve_37 : decode cX4_resolve 37 = .ok (.if_icmp .ne 15, 3) := by decide +kernel
theorem dX4_resolve_40 : decode cX4_resolve 40 = .ok (.iload_n 2, 1) := by decide +kernel
theorem dX4_resolve_41 : decode cX4_resolve 41 = .ok (.ifCond .eq 8, 3) := by decide +kernel
theorem dX4_resolve_49 : decode cX4_resolve 49 = .ok (.bipush 101, 2) := by decide +kernel
theorem dX4_resolve_51 : decode cX4_resolve 51 = .ok (.ireturn, 1) := by decide +kernel
theorem dX4_resolve_52 : decode cX4_resolve 52 = .ok (.aload_n 0, 1) := by decide +kernel
theorem dX4_resolve_53 : decode cX4_resolve 53 = .ok (.getfield 9, 3) := by decide +kernel
theorem dX4_resolve_56 : decode cX4_resolve 56 = .ok (.iload_n 3, 1) := by decide +kernel
theorem dX4_resolve_57 : decode cX4_resolve 57 = .ok (.invokevirtual 58, 3) := by decide +kernel
theorem dX4_resolve_60 : decode cX4_resolve 60 = .ok (.istore 4, 2) := by decide +kernel
theorem dX4_resolve_62 : decode cX4_resolve 62 = .ok (.iload 4, 2) := by decide +kernel
theorem dX4_resolve_64 : decode cX4_resolve 64 = .ok (.ifCond .ge 8, 3) := by decide +kernel
theorem dX4_resolve_72 : decode cX4_resolve 72 = .ok (.iload 4, 2) := by decide +kernel
theorem dX4_resolve_74 : decode cX4_resolve 74 = .ok (.istore 4, 2) := by decide +kernel
theorem dX4_resolve_76 : decode cX4_resolve 76 = .ok (.iload_n 2, 1) := by decide +kernel
theorem dX4_resolve_77 : decode cX4_resolve 77 = .ok (.ifCond .eq 11, 3) := by decide +kernel
theorem dX4_resolve_88 : decode cX4_resolve 88 = .ok (.iload 4, 2) := by decide +kernel
theorem dX4_resolve_90 : decode cX4_resolve 90 = .ok (.ireturn, 1) := by decide +kernel
def rpX4_resolve : List Nat := [0, 1, 2, 3, 6, 10, 11, 12, 13, 14, 15, 16, 17, 19, 22, 23, 26, 31, 33, 34, 35, 37, 40, 41, 44, 49, 51, 52, 53, 56, 57, 60, 62, 64, 67, 72, 74, 76, 77, 80, 88, 90]
noncomputable def rcX4_resolve : List rz_B := [rz_iload 1, rz_cst 1, rz_iand, rz_ifeq 5, rz_no, rz_cst 0, rz_istore 2, rz_iload 1, rz_cst 1, rz_ishr, rz_istore 3, rz_iload 3, rz_cst 58, rz_icmpne 19, rz_iload 2, rz_ifeq 17, rz_no, rz_cst 100, rz_iret, rz_iload 3, rz_cst 59, rz_icmpne 27, rz_iload 2, rz_ifeq 25, rz_no, rz_cst 101, rz_iret, rz_aload 0, rz_getf (Nat.add (Nat.mul 256 6) 1) 0 rz_r, rz_iload 3, rz_callV 1 (Nat.add (Nat.mul 256 9) 1) rgX7_named, rz_istore 4, rz_iload 4, rz_ifge 35, rz_no, rz_iload 4, rz_istore 4, rz_iload 2, rz_ifeq 40, rz_no, rz_iload 4, rz_iret]
noncomputable def rgX4_resolve : rz_L → rz_M → rz_Z → Bool := rz_go rcX4_resolve 5 1000000
def rrX4_resolve : Room := { frames := 1, cells := 0, slots := 0, locals := 22 }
theorem rmX4_resolve (l : Launch) {G : rz_G} (hG : rz_Gd G) (vs : rz_L) (M : rz_M) (Z : rz_Z) (hn : vs.length = 2) (h : rgX4_resolve vs M Z = true) : Met l yX4_resolve (Cond.code yX4_resolve cX4_resolve 5 (some .int) :: rz_TB) rrX4_resolve (rz_Pre G vs M) (rz_Qi G M.2 Z) 0 0 (fun q => rz_b G ≤ q) := by
  obtain ⟨D, tc, ad, b, xs, rfl⟩ := id hG
  refine rz_body (pcs := rpX4_resolve) (by decide) rfl (by rw [hn]; decide) h ?_
  intro p e R s m args below meth c hC
  obtain ⟨hx, hb, hml, hr, hlk, ho, hts, hKn, hRm⟩ := id hC
  obtain ⟨hK, hA, hSt⟩ := id hKn
  have hw : ∀ {i j : Nat} {ws : List Cond} {w : Cond}, rz_WW[i]? = some ws → ws[j]? = some w → w.before args s = true := fun h1 h2 => hts _ (List.mem_cons_of_mem _ (rz_mem h1 h2))
  refine rz_All_c (i := 0) (fun k J hk hJ => rz_iload_n_ok (pc := 0) hx hb dX4_resolve_0 rfl hk) ?_
  refine rz_All_c (i := 1) (fun k J hk hJ => rz_iconst_ok (pc := 1) hx hb dX4_resolve_1 rfl hk) ?_
  refine rz_All_c (i := 2) (fun k J hk hJ => rz_iand_ok (pc := 2) hx hb dX4_resolve_2 hk) ?_
  refine rz_All_c (i := 3) (fun k J hk hJ => rz_ifeq_ok (pc := 3) hx hb dX4_resolve_3 rfl hk (hJ 5)) ?_
  refine rz_All_c (i := 4) (fun k J hk hJ => rz_no_ok) ?_
  refine rz_All_c (i := 5) (fun k J hk hJ => rz_iconst_ok (pc := 10) hx hb dX4_resolve_10 rfl hk) ?_
  refine rz_All_c (i := 6) (fun k J hk hJ => rz_istore_n_ok (pc := 11) hx hb dX4_resolve_11 rfl hk) ?_
  refine rz_All_c (i := 7) (fun k J hk hJ => rz_iload_n_ok (pc := 12) hx hb dX4_resolve_12 rfl hk) ?_
  refine rz_All_c (i := 8) (fun k J hk hJ => rz_iconst_ok (pc := 13) hx hb dX4_resolve_13 rfl hk) ?_
  refine rz_All_c (i := 9) (fun k J hk hJ => rz_ishr_ok (pc := 14) hx hb dX4_resolve_14 hk) ?_
  refine rz_All_c (i := 10) (fun k J hk hJ => rz_istore_n_ok (pc := 15) hx hb dX4_resolve_15 rfl hk) ?_
  refine rz_All_c (i := 11) (fun k J hk hJ => rz_iload_n_ok (pc := 16) hx hb dX4_resolve_16 rfl hk) ?_
  refine rz_All_c (i := 12) (fun k J hk hJ => rz_bipush_ok (pc := 17) hx hb dX4_resolve_17 (by decide) hk) ?_
  refine rz_All_c (i := 13) (fun k J hk hJ => rz_icmpne_ok (pc := 19) hx hb dX4_resolve_19 rfl hk (hJ 19)) ?_
  refine rz_All_c (i := 14) (fun k J hk hJ => rz_iload_n_ok (pc := 22) hx hb dX4_resolve_22 rfl hk) ?_
  refine rz_All_c (i := 15) (fun k J hk hJ => rz_ifeq_ok (pc := 23) hx hb dX4_resolve_23 rfl hk (hJ 17)) ?_
  refine rz_All_c (i := 16) (fun k J hk hJ => rz_no_ok) ?_
  refine rz_All_c (i := 17) (fun k J hk hJ => rz_bipush_ok (pc := 31) hx hb dX4_resolve_31 (by decide) hk) ?_
  refine rz_All_c (i := 18) (fun k J hk hJ => rz_iret_ok (pc := 33) hC dX4_resolve_33) ?_
  refine rz_All_c (i := 19) (fun k J hk hJ => rz_iload_n_ok (pc := 34) hx hb dX4_resolve_34 rfl hk) ?_
  refine rz_All_c (i := 20) (fun k J hk hJ => rz_bipush_ok (pc := 35) hx hb dX4_resolve_35 (by decide) hk) ?_
  refine rz_All_c (i := 21) (fun k J hk hJ => rz_icmpne_ok (pc := 37) hx hb dX4_resolve_37 rfl hk (hJ 27)) ?_
  refine rz_All_c (i := 22) (fun k J hk hJ => rz_iload_n_ok (pc := 40) hx hb dX4_resolve_40 rfl hk) ?_
  refine rz_All_c (i := 23) (fun k J hk hJ => rz_ifeq_ok (pc := 41) hx hb dX4_resolve_41 rfl hk (hJ 25)) ?_
  refine rz_All_c (i := 24) (fun k J hk hJ => rz_no_ok) ?_
  refine rz_All_c (i := 25) (fun k J hk hJ => rz_bipush_ok (pc := 49) hx hb dX4_resolve_49 (by decide) hk) ?_
  refine rz_All_c (i := 26) (fun k J hk hJ => rz_iret_ok (pc := 51) hC dX4_resolve_51) ?_
  refine rz_All_c (i := 27) (fun k J hk hJ => rz_aload_n_ok (pc := 52) hx hb dX4_resolve_52 rfl hk) ?_
  refine rz_All_c (i := 28) (fun k J hk hJ => rz_getf_ok (pc := 53) (own := RX4) (ref := "ThreadJudge$Linker") (C := RX4) (T := TX4) (N := 4) (ci := 6) (index := 9) (f := 0) (t := 2) (Ts := Cond.code yX4_resolve cX4_resolve 5 (some .int) :: rz_TB) hx hb hts rz_in6 ho hK rfl (by decide) rfl (fun _ => rfl) (hw (i := 16) (j := 3) rfl rfl) (fun _ z => z) dX4_resolve_53 hk) ?_
  refine rz_All_c (i := 29) (fun k J hk hJ => rz_iload_n_ok (pc := 56) hx hb dX4_resolve_56 rfl hk) ?_
  refine rz_All_c (i := 30) (fun k J hk hJ => rz_callV_ok (pc := 57) (own := RX4) (C := RX7) (T0 := TX7) (N0 := 22) hC rfl (rmX7_named l hG) (rz_cwV 1 hC rz_good (rz_mem (i := 16) (j := 8) rfl rfl) (rz_mem (i := 16) (j := 9) rfl rfl) (rz_mem (i := 16) (j := 10) rfl rfl) (rz_mem (i := 1) (j := 0) rfl rfl) (rz_mem (i := 16) (j := 11) rfl rfl) ⟨rfl, by decide, by decide, by decide +kernel⟩ rfl rfl ⟨by decide, by decide⟩) rfl dX4_resolve_57 hk) ?_
  refine rz_All_c (i := 31) (fun k J hk hJ => rz_istore_ok (pc := 60) hx hb dX4_resolve_60 hk) ?_
  refine rz_All_c (i := 32) (fun k J hk hJ => rz_iload_ok (pc := 62) hx hb dX4_resolve_62 hk) ?_
  refine rz_All_c (i := 33) (fun k J hk hJ => rz_ifge_ok (pc := 64) hx hb dX4_resolve_64 rfl hk (hJ 35)) ?_
  refine rz_All_c (i := 34) (fun k J hk hJ => rz_no_ok) ?_
  refine rz_All_c (i := 35) (fun k J hk hJ => rz_iload_ok (pc := 72) hx hb dX4_resolve_72 hk) ?_
  refine rz_All_c (i := 36) (fun k J hk hJ => rz_istore_ok (pc := 74) hx hb dX4_resolve_74 hk) ?_
  refine rz_All_c (i := 37) (fun k J hk hJ => rz_iload_n_ok (pc := 76) hx hb dX4_resolve_76 rfl hk) ?_
  refine rz_All_c (i := 38) (fun k J hk hJ => rz_ifeq_ok (pc := 77) hx hb dX4_resolve_77 rfl hk (hJ 40)) ?_
  refine rz_All_c (i := 39) (fun k J hk hJ => rz_no_ok) ?_
  refine rz_All_c (i := 40) (fun k J hk hJ => rz_iload_ok (pc := 88) hx hb dX4_resolve_88 hk) ?_
  refine rz_All_c (i := 41) (fun k J hk hJ => rz_iret_ok (pc := 90) hC dX4_resolve_90) ?_
  exact trivial
theorem dX7_find_0 : decode cX7_find 0 = .ok (.iload_n 1, 1) := by decide +kernel
theorem dX7_find_1 : decode cX7_find 1 = .ok (.istore_n 3, 1) := by decide +kernel
theorem dX7_find_2 : decode cX7_find 2 = .ok (.iconst 0, 1) := by decide +kernel
theorem dX7_find_3 : decode cX7_find 3 = .ok (.istore 4, 2) := by decide +kernel
theorem dX7_find_5 : decode cX7_find 5 = .ok (.iload_n 3, 1) := by decide +kernel
theorem dX7_find_6 : decode cX7_find 6 = .ok (.ifCond .lt 41, 3) := by decide +kernel
theorem dX7_find_9 : decode cX7_find 9 = .ok (.iload 4, 2) := by decide +kernel
theorem dX7_find_11 : decode cX7_find 11 = .ok (.bipush 43, 2) := by decide +kernel
theorem dX7_find_13 : decode cX7_find 13 = .ok (.if_icmp .ge 34, 3) := by decide +kernel
theorem dX7_find_16 : decode cX7_find 16 = .ok (.aload_n 0, 1) := by decide +kernel
theorem dX7_find_17 : decode cX7_find 17 = .ok (.iload_n 3, 1) := by decide +kernel
theorem dX7_find_18 : decode cX7_find 18 = .ok (.iload_n 2, 1) := by decide +kernel
theorem dX7_find_19 : decode cX7_find 19 = .ok (.invokevirtual 87, 3) := by decide +kernel
theorem dX7_find_22 : decode cX7_find 22 = .ok (.istore 5, 2) := by decide +kernel
theorem dX7_find_24 : decode cX7_find 24 = .ok (.iload 5, 2) := by decide +kernel
theorem dX7_find_26 : decode cX7_find 26 = .ok (.ifCond .lt 6, 3) := by decide +kernel
theorem dX7_find_29 : decode cX7_find 29 = .ok (.iload 5, 2) := by decide +kernel
theorem dX7_find_31 : decode cX7_find 31 = .ok (.ireturn, 1) := by decide +kernel
def rpX7_find : List Nat := [0, 1, 2, 3, 5, 6, 9, 11, 13, 16, 17, 18, 19, 22, 24, 26, 29, 31, 32, 47]
noncomputable def rcX7_find : List rz_B := [rz_iload 1, rz_istore 3, rz_cst 0, rz_istore 4, rz_iload 3, rz_iflt 19, rz_iload 4, rz_cst 43, rz_icmpge 19, rz_aload 0, rz_iload 3, rz_iload 2, rz_callV 2 (Nat.add (Nat.mul 256 9) 1) rgX7_own, rz_istore 5, rz_iload 5, rz_iflt 18, rz_iload 5, rz_iret, rz_no, rz_no]
noncomputable def rgX7_find : rz_L → rz_M → rz_Z → Bool := rz_go rcX7_find 6 1000000
def rrX7_find : Room := { frames := 1, cells := 0, slots := 0, locals := 24 }
theorem rmX7_find (l : Launch) {G : rz_G} (hG : rz_Gd G) (vs : rz_L) (M : rz_M) (Z : rz_Z) (hn : vs.length = 3) (h : rgX7_find vs M Z = true) : Met l yX7_find (Cond.code yX7_find cX7_find 6 (some .int) :: rz_TB) rrX7_find (rz_Pre G vs M) (rz_Qi G M.2 Z) 0 0 (fun q => rz_b G ≤ q) := by
  obtain ⟨D, tc, ad, b, xs, rfl⟩ := id hG
  refine rz_body (pcs := rpX7_find) (by decide) rfl (by rw [hn]; decide) h ?_
  intro p e R s m args below meth c hC
  obtain ⟨hx, hb, hml, hr, hlk, ho, hts, hKn, hRm⟩ := id hC
  obtain ⟨hK, hA, hSt⟩ := id hKn
  have hw : ∀ {i j : Nat} {ws : List Cond} {w : Cond}, rz_WW[i]? = some ws → ws[j]? = some w → w.before args s = true := fun h1 h2 => hts _ (List.mem_cons_of_mem _ (rz_mem h1 h2))
  refine rz_All_c (i := 0) (fun k J hk hJ => rz_iload_n_ok (pc := 0) hx hb dX7_find_0 rfl hk) ?_
  refine rz_All_c (i := 1) (fun k J hk hJ => rz_istore_n_ok (pc := 1) hx hb dX7_find_1 rfl hk) ?_
  refine rz_All_c (i := 2) (fun k J hk hJ => rz_iconst_ok (pc := 2) hx hb dX7_find_2 rfl hk) ?_
  refine rz_All_c (i := 3) (fun k J hk hJ => rz_istore_ok (pc := 3) hx hb dX7_find_3 hk) ?_
  refine rz_All_c (i := 4) (fun k J hk hJ => rz_iload_n_ok (pc := 5) hx hb dX7_find_5 rfl hk) ?_
  refine rz_All_c (i := 5) (fun k J hk hJ => rz_iflt_ok (pc := 6) hx hb dX7_find_6 rfl hk (hJ 19)) ?_
  refine rz_All_c (i := 6) (fun k J hk hJ => rz_iload_ok (pc := 9) hx hb dX7_find_9 hk) ?_
  refine rz_All_c (i := 7) (fun k J hk hJ => rz_bipush_ok (pc := 11) hx hb dX7_find_11 (by decide) hk) ?_
  refine rz_All_c (i := 8) (fun k J hk hJ => rz_icmpge_ok (pc := 13) hx hb dX7_find_13 rfl hk (hJ 19)) ?_
  refine rz_All_c (i := 9) (fun k J hk hJ => rz_aload_n_ok (pc := 16) hx hb dX7_find_16 rfl hk) ?_
  refine rz_All_c (i := 10) (fun k J hk hJ => rz_iload_n_ok (pc := 17) hx hb dX7_find_17 rfl hk) ?_
  refine rz_All_c (i := 11) (fun k J hk hJ => rz_iload_n_ok (pc := 18) hx hb dX7_find_18 rfl hk) ?_
  refine rz_All_c (i := 12) (fun k J hk hJ => rz_callV_ok (pc := 19) (own := RX7) (C := RX7) (T0 := TX7) (N0 := 22) hC rfl (rmX7_own l hG) (rz_cwV 2 hC rz_good (rz_mem (i := 23) (j := 12) rfl rfl) (rz_mem (i := 20) (j := 19) rfl rfl) (rz_mem (i := 20) (j := 20) rfl rfl) (rz_mem (i := 1) (j := 0) rfl rfl) (rz_mem (i := 20) (j := 21) rfl rfl) ⟨rfl, by decide, by decide, by decide +kernel⟩ rfl rfl ⟨by decide, by decide⟩) rfl dX7_find_19 hk) ?_
  refine rz_All_c (i := 13) (fun k J hk hJ => rz_istore_ok (pc := 22) hx hb dX7_find_22 hk) ?_
  refine rz_All_c (i := 14) (fun k J hk hJ => rz_iload_ok (pc := 24) hx hb dX7_find_24 hk) ?_
  refine rz_All_c (i := 15) (fun k J hk hJ => rz_iflt_ok (pc := 26) hx hb dX7_find_26 rfl hk (hJ 18)) ?_
  refine rz_All_c (i := 16) (fun k J hk hJ => rz_iload_ok (pc := 29) hx hb dX7_find_29 hk) ?_
  refine rz_All_c (i := 17) (fun k J hk hJ => rz_iret_ok (pc := 31) hC dX7_find_31) ?_
  refine rz_All_c (i := 18) (fun k J hk hJ => rz_no_ok) ?_
  refine rz_All_c (i := 19) (fun k J hk hJ => rz_no_ok) ?_
  exact trivial
theorem dX9_isAngled_0 : decode cX9_isAngled 0 = .ok (.iload_n 1, 1) := by decide +kernel
theorem dX9_isAngled_1 : decode cX9_isAngled 1 = .ok (.ifCond .lt 40, 3) := by decide +kernel
theorem dX9_isAngled_4 : decode cX9_isAngled 4 = .ok (.iload_n 1, 1) := by decide +kernel
theorem dX9_isAngled_5 : decode cX9_isAngled 5 = .ok (.aload_n 0, 1) := by decide +kernel
theorem dX9_isAngled_6 : decode cX9_isAngled 6 = .ok (.getfield 93, 3) := by decide +kernel
theorem dX9_isAngled_9 : decode cX9_isAngled 9 = .ok (.if_icmp .ge 32, 3) := by decide +kernel
theorem dX9_isAngled_12 : decode cX9_isAngled 12 = .ok (.aload_n 0, 1) := by decide +kernel
theorem dX9_isAngled_13 : decode cX9_isAngled 13 = .ok (.getfield 19, 3) := by decide +kernel
theorem dX9_isAngled_16 : decode cX9_isAngled 16 = .ok (.iload_n 1, 1) := by decide +kernel
theorem dX9_isAngled_17 : decode cX9_isAngled 17 = .ok (.iaload, 1) := by decide +kernel
theorem dX9_isAngled_18 : decode cX9_isAngled 18 = .ok (.ifCond .le 23, 3) := by decide +kernel
theorem dX9_isAngled_21 : decode cX9_isAngled 21 = .ok (.aload_n 0, 1) := by decide +kernel
theorem dX9_isAngled_22 : decode cX9_isAngled 22 = .ok (.getfield 11, 3) := by decide +kernel
theorem dX9_isAngled_25 : decode cX9_isAngled 25 = .ok (.aload_n 0, 1) := by decide +kernel
theorem dX9_isAngled_26 : decode cX9_isAngled 26 = .ok (.getfield 15, 3) := by decide +kernel
theorem dX9_isAngled_29 : decode cX9_isAngled 29 = .ok (.iload_n 1, 1) := by decide +kernel
theorem dX9_isAngled_30 : decode cX9_isAngled 30 = .ok (.iaload, 1) := by decide +kernel
theorem dX9_isAngled_31 : decode cX9_isAngled 31 = .ok (.caload, 1) := by decide +kernel
theorem dX9_isAngled_32 : decode cX9_isAngled 32 = .ok (.bipush 60, 2) := by decide +kernel
theorem dX9_isAngled_34 : decode cX9_isAngled 34 = .ok (.if_icmp .ne 7, 3) := by decide +kernel
theorem dX9_isAngled_41 : decode cX9_isAngled 41 = .ok (.iconst 0, 1) := by decide +kernel
theorem dX9_isAngled_42 : decode cX9_isAngled 42 = .ok (.ireturn, 1) := by decide +kernel
def rpX9_isAngled : List Nat := [0, 1, 4, 5, 6, 9, 12, 13, 16, 17, 18, 21, 22, 25, 26, 29, 30, 31, 32, 34, 37, 41, 42]
noncomputable def rcX9_isAngled : List rz_B := [rz_iload 1, rz_iflt 21, rz_iload 1, rz_aload 0, rz_getf (Nat.add (Nat.mul 256 11) 1) 8 rz_i, rz_icmpge 21, rz_aload 0, rz_getf (Nat.add (Nat.mul 256 11) 1) 5 rz_r, rz_iload 1, rz_iald, rz_ifle 21, rz_aload 0, rz_getf (Nat.add (Nat.mul 256 11) 1) 3 rz_r, rz_aload 0, rz_getf (Nat.add (Nat.mul 256 11) 1) 4 rz_r, rz_iload 1, rz_iald, rz_cald, rz_cst 60, rz_icmpne 21, rz_no, rz_cst 0, rz_zret]
noncomputable def rgX9_isAngled : rz_L → rz_M → rz_Z → Bool := rz_go rcX9_isAngled 2 1000000
def rrX9_isAngled : Room := { frames := 0, cells := 0, slots := 0, locals := 0 }
theorem rmX9_isAngled (l : Launch) {G : rz_G} (hG : rz_Gd G) (vs : rz_L) (M : rz_M) (Z : rz_Z) (hn : vs.length = 2) (h : rgX9_isAngled vs M Z = true) : Met l yX9_isAngled (Cond.code yX9_isAngled cX9_isAngled 2 (some .boolean) :: rz_TB) rrX9_isAngled (rz_Pre G vs M) (rz_Qi G M.2 Z) 0 0 (fun q => rz_b G ≤ q) := by
  obtain ⟨D, tc, ad, b, xs, rfl⟩ := id hG
  refine rz_body (pcs := rpX9_isAngled) (by decide) rfl (by rw [hn]; decide) h ?_
  intro p e R s m args below meth c hC
  obtain ⟨hx, hb, hml, hr, hlk, ho, hts, hKn, hRm⟩ := id hC
  obtain ⟨hK, hA, hSt⟩ := id hKn
  have hw : ∀ {i j : Nat} {ws : List Cond} {w : Cond}, rz_WW[i]? = some ws → ws[j]? = some w → w.before args s = true := fun h1 h2 => hts _ (List.mem_cons_of_mem _ (rz_mem h1 h2))
  refine rz_All_c (i := 0) (fun k J hk hJ => rz_iload_n_ok (pc := 0) hx hb dX9_isAngled_0 rfl hk) ?_
  refine rz_All_c (i := 1) (fun k J hk hJ => rz_iflt_ok (pc := 1) hx hb dX9_isAngled_1 rfl hk (hJ 21)) ?_
  refine rz_All_c (i := 2) (fun k J hk hJ => rz_iload_n_ok (pc := 4) hx hb dX9_isAngled_4 rfl hk) ?_
  refine rz_All_c (i := 3) (fun k J hk hJ => rz_aload_n_ok (pc := 5) hx hb dX9_isAngled_5 rfl hk) ?_
  refine rz_All_c (i := 4) (fun k J hk hJ => rz_getf_ok (pc := 6) (own := RX9) (ref := "ThreadJudge$Reader") (C := RX9) (T := TX9) (N := 19) (ci := 11) (index := 93) (f := 8) (t := 0) (Ts := Cond.code yX9_isAngled cX9_isAngled 2 (some .boolean) :: rz_TB) hx hb hts rz_in11 ho hK rfl (by decide) rfl (fun _ => rfl) (hw (i := 2) (j := 1) rfl rfl) (fun _ z => z) dX9_isAngled_6 hk) ?_
  refine rz_All_c (i := 5) (fun k J hk hJ => rz_icmpge_ok (pc := 9) hx hb dX9_isAngled_9 rfl hk (hJ 21)) ?_
  refine rz_All_c (i := 6) (fun k J hk hJ => rz_aload_n_ok (pc := 12) hx hb dX9_isAngled_12 rfl hk) ?_
  refine rz_All_c (i := 7) (fun k J hk hJ => rz_getf_ok (pc := 13) (own := RX9) (ref := "ThreadJudge$Reader") (C := RX9) (T := TX9) (N := 19) (ci := 11) (index := 19) (f := 5) (t := 2) (Ts := Cond.code yX9_isAngled cX9_isAngled 2 (some .boolean) :: rz_TB) hx hb hts rz_in11 ho hK rfl (by decide) rfl (fun _ => rfl) (hw (i := 2) (j := 13) rfl rfl) (fun _ z => z) dX9_isAngled_13 hk) ?_
  refine rz_All_c (i := 8) (fun k J hk hJ => rz_iload_n_ok (pc := 16) hx hb dX9_isAngled_16 rfl hk) ?_
  refine rz_All_c (i := 9) (fun k J hk hJ => rz_iald_ok (pc := 17) hx hb hK dX9_isAngled_17 hk) ?_
  refine rz_All_c (i := 10) (fun k J hk hJ => rz_ifle_ok (pc := 18) hx hb dX9_isAngled_18 rfl hk (hJ 21)) ?_
  refine rz_All_c (i := 11) (fun k J hk hJ => rz_aload_n_ok (pc := 21) hx hb dX9_isAngled_21 rfl hk) ?_
  refine rz_All_c (i := 12) (fun k J hk hJ => rz_getf_ok (pc := 22) (own := RX9) (ref := "ThreadJudge$Reader") (C := RX9) (T := TX9) (N := 19) (ci := 11) (index := 11) (f := 3) (t := 2) (Ts := Cond.code yX9_isAngled cX9_isAngled 2 (some .boolean) :: rz_TB) hx hb hts rz_in11 ho hK rfl (by decide) rfl (fun _ => rfl) (hw (i := 2) (j := 14) rfl rfl) (fun _ z => z) dX9_isAngled_22 hk) ?_
  refine rz_All_c (i := 13) (fun k J hk hJ => rz_aload_n_ok (pc := 25) hx hb dX9_isAngled_25 rfl hk) ?_
  refine rz_All_c (i := 14) (fun k J hk hJ => rz_getf_ok (pc := 26) (own := RX9) (ref := "ThreadJudge$Reader") (C := RX9) (T := TX9) (N := 19) (ci := 11) (index := 15) (f := 4) (t := 2) (Ts := Cond.code yX9_isAngled cX9_isAngled 2 (some .boolean) :: rz_TB) hx hb hts rz_in11 ho hK rfl (by decide) rfl (fun _ => rfl) (hw (i := 2) (j := 12) rfl rfl) (fun _ z => z) dX9_isAngled_26 hk) ?_
  refine rz_All_c (i := 15) (fun k J hk hJ => rz_iload_n_ok (pc := 29) hx hb dX9_isAngled_29 rfl hk) ?_
  refine rz_All_c (i := 16) (fun k J hk hJ => rz_iald_ok (pc := 30) hx hb hK dX9_isAngled_30 hk) ?_
  refine rz_All_c (i := 17) (fun k J hk hJ => rz_cald_ok (pc := 31) hx hb hK dX9_isAngled_31 hk) ?_
  refine rz_All_c (i := 18) (fun k J hk hJ => rz_bipush_ok (pc := 32) hx hb dX9_isAngled_32 (by decide) hk) ?_
  refine rz_All_c (i := 19) (fun k J hk hJ => rz_icmpne_ok (pc := 34) hx hb dX9_isAngled_34 rfl hk (hJ 21)) ?_
  refine rz_All_c (i := 20) (fun k J hk hJ => rz_no_ok) ?_
  refine rz_All_c (i := 21) (fun k J hk hJ => rz_iconst_ok (pc := 41) hx hb dX9_isAngled_41 rfl hk) ?_
  refine rz_All_c (i := 22) (fun k J hk hJ => rz_zret_ok (pc := 42) hC dX9_isAngled_42) ?_
  exact trivial
theorem dX4_isCallWrong_0 : decode cX4_isCallWrong 0 = .ok (.aload_n 0, 1) := by decide +kernel
theorem dX4_isCallWrong_1 : decode cX4_isCallWrong 1 = .ok (.getfield 9, 3) := by decide +kernel
theorem dX4_isCallWrong_4 : decode cX4_isCallWrong 4 = .ok (.aload_n 0, 1) := by decide +kernel
theorem dX4_isCallWrong_5 : decode cX4_isCallWrong 5 = .ok (.getfield 9, 3) := by decide +kernel
theorem dX4_isCallWrong_8 : decode cX4_isCallWrong 8 = .ok (.getfield 176, 3) := by decide +kernel
theorem dX4_isCallWrong_11 : decode cX4_isCallWrong 11 = .ok (.iconst 4, 1) := by decide +kernel
theorem dX4_isCallWrong_12 : decode cX4_isCallWrong 12 = .ok (.aaload, 1) := by decide +kernel
theorem dX4_isCallWrong_13 : decode cX4_isCallWrong 13 = .ok (.iload_n 1, 1) := by decide +kernel
theorem dX4_isCallWrong_14 : decode cX4_isCallWrong 14 = .ok (.iaload, 1) := by decide +kernel
theorem dX4_isCallWrong_15 : decode cX4_isCallWrong 15 = .ok (.invokevirtual 58, 3) := by decide +kernel
theorem dX4_isCallWrong_18 : decode cX4_isCallWrong 18 = .ok (.istore_n 3, 1) := by decide +kernel
theorem dX4_isCallWrong_19 : decode cX4_isCallWrong 19 = .ok (.iload_n 1, 1) := by decide +kernel
theorem dX4_isCallWrong_20 : decode cX4_isCallWrong 20 = .ok (.bipush 6, 2) := by decide +kernel
theorem dX4_isCallWrong_22 : decode cX4_isCallWrong 22 = .ok (.imul, 1) := by decide +kernel
theorem dX4_isCallWrong_23 : decode cX4_isCallWrong 23 = .ok (.istore 4, 2) := by decide +kernel
theorem dX4_isCallWrong_25 : decode cX4_isCallWrong 25 = .ok (.iload 4, 2) := by decide +kernel
theorem dX4_isCallWrong_27 : decode cX4_isCallWrong 27 = .ok (.iload_n 1, 1) := by decide +kernel
theorem dX4_isCallWrong_28 : decode cX4_isCallWrong 28 = .ok (.bipush 6, 2) := by decide +kernel
theorem dX4_isCallWrong_30 : decode cX4_isCallWrong 30 = .ok (.imul, 1) := by decide +kernel
theorem dX4_isCallWrong_31 : decode cX4_isCallWrong 31 = .ok (.aload_n 0, 1) := by decide +kernel
theorem dX4_isCallWrong_32 : decode cX4_isCallWrong 32 = .ok (.getfield 9, 3) := by decide +kernel
theorem dX4_isCallWrong_35 : decode cX4_isCallWrong 35 = .ok (.getfield 176, 3) := by decide +kernel
theorem dX4_isCallWrong_38 : decode cX4_isCallWrong 38 = .ok (.bipush 7, 2) := by decide +kernel
theorem dX4_isCallWrong_40 : decode cX4_isCallWrong 40 = .ok (.aaload, 1) := by decide +kernel
theorem dX4_isCallWrong_41 : decode cX4_isCallWrong 41 = .ok (.iload_n 1, 1) := by decide +kernel
theorem dX4_isCallWrong_42 : decode cX4_isCallWrong 42 = .ok (.iaload, 1) := by decide +kernel
theorem dX4_isCallWrong_43 : decode cX4_isCallWrong 43 = .ok (.iadd, 1) := by decide +kernel
theorem dX4_isCallWrong_44 : decode cX4_isCallWrong 44 = .ok (.if_icmp .ge 33, 3) := by decide +kernel
theorem dX4_isCallWrong_77 : decode cX4_isCallWrong 77 = .ok (.aload_n 0, 1) := by decide +kernel
theorem dX4_isCallWrong_78 : decode cX4_isCallWrong 78 = .ok (.aload_n 0, 1) := by decide +kernel
theorem dX4_isCallWrong_79 : decode cX4_isCallWrong 79 = .ok (.getfield 9, 3) := by decide +kernel
theorem dX4_isCallWrong_82 : decode cX4_isCallWrong 82 = .ok (.getfield 176, 3) := by decide +kernel
theorem dX4_isCallWrong_85 : decode cX4_isCallWrong 85 = .ok (.iconst 5, 1) := by decide +kernel
theorem dX4_isCallWrong_86 : decode cX4_isCallWrong 86 = .ok (.aaload, 1) := by decide +kernel
theorem dX4_isCallWrong_87 : decode cX4_isCallWrong 87 = .ok (.iload_n 1, 1) := by decide +kernel
theorem dX4_isCallWrong_88 : decode cX4_isCallWrong 88 = .ok (.iaload, 1) := by decide +kernel
theorem dX4_isCallWrong_89 : decode cX4_isCallWrong 89 = .ok (.aload_n 0, 1) := by decide +kernel
theorem dX4_isCallWrong_90 : decode cX4_isCallWrong 90 = .ok (.getfield 9, 3) := by decide +kernel
theorem dX4_isCallWrong_93 : decode cX4_isCallWrong 93 = .ok (.getfield 217, 3) := by decide +kernel
theorem dX4_isCallWrong_96 : decode cX4_isCallWrong 96 = .ok (.iload_n 1, 1) := by decide +kernel
theorem dX4_isCallWrong_97 : decode cX4_isCallWrong 97 = .ok (.bipush 6, 2) := by decide +kernel
theorem dX4_isCallWrong_99 : decode cX4_isCallWrong 99 = .ok (.imul, 1) := by decide +kernel
theorem dX4_isCallWrong_100 : decode cX4_isCallWrong 100 = .ok (.aload_n 0, 1) := by decide +kernel
theorem dX4_isCallWrong_101 : decode cX4_isCallWrong 101 = .ok (.getfield 9, 3) := by decide +kernel
theorem dX4_isCallWrong_104 : decode cX4_isCallWrong 104 = .ok (.getfield 176, 3) := by decide +kernel
theorem dX4_isCallWrong_107 : decode cX4_isCallWrong 107 = .ok (.bipush 7, 2) := by decide +kernel
theorem dX4_isCallWrong_109 : decode cX4_isCallWrong 109 = .ok (.aaload, 1) := by decide +kernel
theorem dX4_isCallWrong_110 : decode cX4_isCallWrong 110 = .ok (.iload_n 1, 1) := by decide +kernel
theorem dX4_isCallWrong_111 : decode cX4_isCallWrong 111 = .ok (.iaload, 1) := by decide +kernel
theorem dX4_isCallWrong_112 : decode cX4_isCallWrong 112 = .ok (.invokevirtual 101, 3) := by decide +kernel
theorem dX4_isCallWrong_115 : decode cX4_isCallWrong 115 = .ok (.istore 4, 2) := by decide +kernel
theorem dX4_isCallWrong_117 : decode cX4_isCallWrong 117 = .ok (.iload_n 3, 1) := by decide +kernel
theorem dX4_isCallWrong_118 : decode cX4_isCallWrong 118 = .ok (.ifCond .lt 8, 3) := by decide +kernel
theorem dX4_isCallWrong_121 : decode cX4_isCallWrong 121 = .ok (.iload 4, 2) := by decide +kernel
theorem dX4_isCallWrong_123 : decode cX4_isCallWrong 123 = .ok (.ifCond .ge 7, 3) := by decide +kernel
theorem dX4_isCallWrong_130 : decode cX4_isCallWrong 130 = .ok (.aload_n 0, 1) := by decide +kernel
theorem dX4_isCallWrong_131 : decode cX4_isCallWrong 131 = .ok (.getfield 9, 3) := by decide +kernel
theorem dX4_isCallWrong_134 : decode cX4_isCallWrong 134 = .ok (.iload_n 3, 1) := by decide +kernel
theorem dX4_isCallWrong_135 : decode cX4_isCallWrong 135 = .ok (.iload 4, 2) := by decide +kernel
theorem dX4_isCallWrong_137 : decode cX4_isCallWrong 137 = .ok (.invokevirtual 220, 3) := by decide +kernel
theorem dX4_isCallWrong_140 : decode cX4_isCallWrong 140 = .ok (.istore 5, 2) := by decide +kernel
theorem dX4_isCallWrong_142 : decode cX4_isCallWrong 142 = .ok (.aload_n 0, 1) := by decide +kernel
theorem dX4_isCallWrong_143 : decode cX4_isCallWrong 143 = .ok (.getfield 9, 3) := by decide +kernel
theorem dX4_isCallWrong_146 : decode cX4_isCallWrong 146 = .ok (.getfield 176, 3) := by decide +kernel
theorem dX4_isCallWrong_149 : decode cX4_isCallWrong 149 = .ok (.bipush 9, 2) := by decide +kernel
theorem dX4_isCallWrong_151 : decode cX4_isCallWrong 151 = .ok (.aaload, 1) := by decide +kernel
theorem dX4_isCallWrong_152 : decode cX4_isCallWrong 152 = .ok (.iload_n 1, 1) := by decide +kernel
theorem dX4_isCallWrong_153 : decode cX4_isCallWrong 153 = .ok (.iload_n 3, 1) := by decide +kernel
theorem dX4_isCallWrong_154 : decode cX4_isCallWrong 154 = .ok (.iastore, 1) := by decide +kernel
theorem dX4_isCallWrong_155 : decode cX4_isCallWrong 155 = .ok (.aload_n 0, 1) := by decide +kernel
theorem dX4_isCallWrong_156 : decode cX4_isCallWrong 156 = .ok (.getfield 9, 3) := by decide +kernel
theorem dX4_isCallWrong_159 : decode cX4_isCallWrong 159 = .ok (.getfield 176, 3) := by decide +kernel
theorem dX4_isCallWrong_162 : decode cX4_isCallWrong 162 = .ok (.bipush 8, 2) := by decide +kernel
theorem dX4_isCallWrong_164 : decode cX4_isCallWrong 164 = .ok (.aaload, 1) := by decide +kernel
theorem dX4_isCallWrong_165 : decode cX4_isCallWrong 165 = .ok (.iload_n 1, 1) := by decide +kernel
theorem dX4_isCallWrong_166 : decode cX4_isCallWrong 166 = .ok (.iload 5, 2) := by decide +kernel
theorem dX4_isCallWrong_168 : decode cX4_isCallWrong 168 = .ok (.iastore, 1) := by decide +kernel
theorem dX4_isCallWrong_169 : decode cX4_isCallWrong 169 = .ok (.iload 5, 2) := by decide +kernel
theorem dX4_isCallWrong_171 : decode cX4_isCallWrong 171 = .ok (.ifCond .lt 34, 3) := by decide +kernel
theorem dX4_isCallWrong_174 : decode cX4_isCallWrong 174 = .ok (.aload_n 0, 1) := by decide +kernel
theorem dX4_isCallWrong_175 : decode cX4_isCallWrong 175 = .ok (.getfield 9, 3) := by decide +kernel
theorem dX4_isCallWrong_178 : decode cX4_isCallWrong 178 = .ok (.getfield 95, 3) := by decide +kernel
theorem dX4_isCallWrong_181 : decode cX4_isCallWrong 181 = .ok (.iconst 3, 1) := by decide +kernel
theorem dX4_isCallWrong_182 : decode cX4_isCallWrong 182 = .ok (.aaload, 1) := by decide +kernel
theorem dX4_isCallWrong_183 : decode cX4_isCallWrong 183 = .ok (.iload 5, 2) := by decide +kernel
theorem dX4_isCallWrong_185 : decode cX4_isCallWrong 185 = .ok (.iaload, 1) := by decide +kernel
theorem dX4_isCallWrong_186 : decode cX4_isCallWrong 186 = .ok (.aload_n 0, 1) := by decide +kernel
theorem dX4_isCallWrong_187 : decode cX4_isCallWrong 187 = .ok (.aload_n 0, 1) := by decide +kernel
theorem dX4_isCallWrong_188 : decode cX4_isCallWrong 188 = .ok (.getfield 9, 3) := by decide +kernel
theorem dX4_isCallWrong_191 : decode cX4_isCallWrong 191 = .ok (.getfield 176, 3) := by decide +kernel
theorem dX4_isCallWrong_194 : decode cX4_isCallWrong 194 = .ok (.bipush 6, 2) := by decide +kernel
theorem dX4_isCallWrong_196 : decode cX4_isCallWrong 196 = .ok (.aaload, 1) := by decide +kernel
theorem dX4_isCallWrong_197 : decode cX4_isCallWrong 197 = .ok (.iload_n 1, 1) := by decide +kernel
theorem dX4_isCallWrong_198 : decode cX4_isCallWrong 198 = .ok (.iaload, 1) := by decide +kernel
theorem dX4_isCallWrong_199 : decode cX4_isCallWrong 199 = .ok (.invokevirtual 89, 3) := by decide +kernel
theorem dX4_isCallWrong_202 : decode cX4_isCallWrong 202 = .ok (.if_icmp .eq 5, 3) := by decide +kernel
theorem dX4_isCallWrong_207 : decode cX4_isCallWrong 207 = .ok (.aload_n 0, 1) := by decide +kernel
theorem dX4_isCallWrong_208 : decode cX4_isCallWrong 208 = .ok (.getfield 15, 3) := by decide +kernel
theorem dX4_isCallWrong_211 : decode cX4_isCallWrong 211 = .ok (.aload_n 0, 1) := by decide +kernel
theorem dX4_isCallWrong_212 : decode cX4_isCallWrong 212 = .ok (.getfield 9, 3) := by decide +kernel
theorem dX4_isCallWrong_215 : decode cX4_isCallWrong 215 = .ok (.getfield 176, 3) := by decide +kernel
theorem dX4_isCallWrong_218 : decode cX4_isCallWrong 218 = .ok (.iconst 5, 1) := by decide +kernel
theorem dX4_isCallWrong_219 : decode cX4_isCallWrong 219 = .ok (.aaload, 1) := by decide +kernel
theorem dX4_isCallWrong_220 : decode cX4_isCallWrong 220 = .ok (.iload_n 1, 1) := by decide +kernel
theorem dX4_isCallWrong_221 : decode cX4_isCallWrong 221 = .ok (.iaload, 1) := by decide +kernel
theorem dX4_isCallWrong_222 : decode cX4_isCallWrong 222 = .ok (.invokevirtual 127, 3) := by decide +kernel
theorem dX4_isCallWrong_225 : decode cX4_isCallWrong 225 = .ok (.istore 6, 2) := by decide +kernel
theorem dX4_isCallWrong_227 : decode cX4_isCallWrong 227 = .ok (.aload_n 0, 1) := by decide +kernel
theorem dX4_isCallWrong_228 : decode cX4_isCallWrong 228 = .ok (.getfield 9, 3) := by decide +kernel
theorem dX4_isCallWrong_231 : decode cX4_isCallWrong 231 = .ok (.iload 5, 2) := by decide +kernel
theorem dX4_isCallWrong_233 : decode cX4_isCallWrong 233 = .ok (.iconst 1, 1) := by decide +kernel
theorem dX4_isCallWrong_234 : decode cX4_isCallWrong 234 = .ok (.invokevirtual 132, 3) := by decide +kernel
theorem dX4_isCallWrong_237 : decode cX4_isCallWrong 237 = .ok (.istore 7, 2) := by decide +kernel
theorem dX4_isCallWrong_239 : decode cX4_isCallWrong 239 = .ok (.iload_n 2, 1) := by decide +kernel
theorem dX4_isCallWrong_240 : decode cX4_isCallWrong 240 = .ok (.bipush 50, 2) := by decide +kernel
theorem dX4_isCallWrong_242 : decode cX4_isCallWrong 242 = .ok (.if_icmp .ne 78, 3) := by decide +kernel
theorem dX4_isCallWrong_320 : decode cX4_isCallWrong 320 = .ok (.iload 6, 2) := by decide +kernel
theorem dX4_isCallWrong_322 : decode cX4_isCallWrong 322 = .ok (.ifCond .ne 39, 3) := by decide +kernel
theorem dX4_isCallWrong_325 : decode cX4_isCallWrong 325 = .ok (.iload 7, 2) := by decide +kernel
theorem dX4_isCallWrong_327 : decode cX4_isCallWrong 327 = .ok (.iload_n 2, 1) := by decide +kernel
theorem dX4_isCallWrong_328 : decode cX4_isCallWrong 328 = .ok (.bipush 49, 2) := by decide +kernel
theorem dX4_isCallWrong_330 : decode cX4_isCallWrong 330 = .ok (.if_icmp .ne 7, 3) := by decide +kernel
theorem dX4_isCallWrong_333 : decode cX4_isCallWrong 333 = .ok (.iconst 1, 1) := by decide +kernel
theorem dX4_isCallWrong_334 : decode cX4_isCallWrong 334 = .ok (.goto 4, 3) := by decide +kernel
theorem dX4_isCallWrong_338 : decode cX4_isCallWrong 338 = .ok (.if_icmp .eq 23, 3) := by decide +kernel
theorem dX4_isCallWrong_341 : decode cX4_isCallWrong 341 = .ok (.iload_n 2, 1) := by decide +kernel
theorem dX4_isCallWrong_342 : decode cX4_isCallWrong 342 = .ok (.bipush 52, 2) := by decide +kernel
theorem dX4_isCallWrong_344 : decode cX4_isCallWrong 344 = .ok (.if_icmp .ne 21, 3) := by decide +kernel
theorem dX4_isCallWrong_365 : decode cX4_isCallWrong 365 = .ok (.iconst 0, 1) := by decide +kernel
theorem dX4_isCallWrong_366 : decode cX4_isCallWrong 366 = .ok (.ireturn, 1) := by decide +kernel
def rpX4_isCallWrong : List Nat := [0, 1, 4, 5, 8, 11, 12, 13, 14, 15, 18, 19, 20, 22, 23, 25, 27, 28, 30, 31, 32, 35, 38, 40, 41, 42, 43, 44, 47, 77, 78, 79, 82, 85, 86, 87, 88, 89, 90, 93, 96, 97, 99, 100, 101, 104, 107, 109, 110, 111, 112, 115, 117, 118, 121, 123, 126, 130, 131, 134, 135, 137, 140, 142, 143, 146, 149, 151, 152, 153, 154, 155, 156, 159, 162, 164, 165, 166, 168, 169, 171, 174, 175, 178, 181, 182, 183, 185, 186, 187, 188, 191, 194, 196, 197, 198, 199, 202, 205, 207, 208, 211, 212, 215, 218, 219, 220, 221, 222, 225, 227, 228, 231, 233, 234, 237, 239, 240, 242, 245, 320, 322, 325, 327, 328, 330, 333, 334, 337, 338, 341, 342, 344, 347, 361, 365, 366]
noncomputable def rcX4_isCallWrong : List rz_B := [rz_aload 0, rz_getf (Nat.add (Nat.mul 256 6) 1) 0 rz_r, rz_aload 0, rz_getf (Nat.add (Nat.mul 256 6) 1) 0 rz_r, rz_getf (Nat.add (Nat.mul 256 9) 1) 14 rz_r, rz_cst 4, rz_aald, rz_iload 1, rz_iald, rz_callV 1 (Nat.add (Nat.mul 256 9) 1) rgX7_named, rz_istore 3, rz_iload 1, rz_cst 6, rz_imul, rz_istore 4, rz_iload 4, rz_iload 1, rz_cst 6, rz_imul, rz_aload 0, rz_getf (Nat.add (Nat.mul 256 6) 1) 0 rz_r, rz_getf (Nat.add (Nat.mul 256 9) 1) 14 rz_r, rz_cst 7, rz_aald, rz_iload 1, rz_iald, rz_iadd, rz_icmpge 29, rz_no, rz_aload 0, rz_aload 0, rz_getf (Nat.add (Nat.mul 256 6) 1) 0 rz_r, rz_getf (Nat.add (Nat.mul 256 9) 1) 14 rz_r, rz_cst 5, rz_aald, rz_iload 1, rz_iald, rz_aload 0, rz_getf (Nat.add (Nat.mul 256 6) 1) 0 rz_r, rz_getf (Nat.add (Nat.mul 256 9) 1) 15 rz_r, rz_iload 1, rz_cst 6, rz_imul, rz_aload 0, rz_getf (Nat.add (Nat.mul 256 6) 1) 0 rz_r, rz_getf (Nat.add (Nat.mul 256 9) 1) 14 rz_r, rz_cst 7, rz_aald, rz_iload 1, rz_iald, rz_callV 4 (Nat.add (Nat.mul 256 6) 1) rgX4_signOf, rz_istore 4, rz_iload 3, rz_iflt 56, rz_iload 4, rz_ifge 57, rz_no, rz_aload 0, rz_getf (Nat.add (Nat.mul 256 6) 1) 0 rz_r, rz_iload 3, rz_iload 4, rz_callV 2 (Nat.add (Nat.mul 256 9) 1) rgX7_find, rz_istore 5, rz_aload 0, rz_getf (Nat.add (Nat.mul 256 6) 1) 0 rz_r, rz_getf (Nat.add (Nat.mul 256 9) 1) 14 rz_r, rz_cst 9, rz_aald, rz_iload 1, rz_iload 3, rz_iast, rz_aload 0, rz_getf (Nat.add (Nat.mul 256 6) 1) 0 rz_r, rz_getf (Nat.add (Nat.mul 256 9) 1) 14 rz_r, rz_cst 8, rz_aald, rz_iload 1, rz_iload 5, rz_iast, rz_iload 5, rz_iflt 98, rz_aload 0, rz_getf (Nat.add (Nat.mul 256 6) 1) 0 rz_r, rz_getf (Nat.add (Nat.mul 256 9) 1) 10 rz_r, rz_cst 3, rz_aald, rz_iload 5, rz_iald, rz_aload 0, rz_aload 0, rz_getf (Nat.add (Nat.mul 256 6) 1) 0 rz_r, rz_getf (Nat.add (Nat.mul 256 9) 1) 14 rz_r, rz_cst 6, rz_aald, rz_iload 1, rz_iald, rz_callV 1 (Nat.add (Nat.mul 256 6) 1) rgX4_resolve, rz_icmpeq 99, rz_no, rz_aload 0, rz_getf (Nat.add (Nat.mul 256 6) 1) 1 rz_r, rz_aload 0, rz_getf (Nat.add (Nat.mul 256 6) 1) 0 rz_r, rz_getf (Nat.add (Nat.mul 256 9) 1) 14 rz_r, rz_cst 5, rz_aald, rz_iload 1, rz_iald, rz_callV 1 (Nat.add (Nat.mul 256 11) 1) rgX9_isAngled, rz_istore 6, rz_aload 0, rz_getf (Nat.add (Nat.mul 256 6) 1) 0 rz_r, rz_iload 5, rz_cst 1, rz_callV 2 (Nat.add (Nat.mul 256 9) 1) rgX7_hasFlag, rz_istore 7, rz_iload 2, rz_cst 50, rz_icmpne 120, rz_no, rz_iload 6, rz_ifne 134, rz_iload 7, rz_iload 2, rz_cst 49, rz_icmpne 128, rz_cst 1, rz_goto 129, rz_no, rz_icmpeq 134, rz_iload 2, rz_cst 52, rz_icmpne 135, rz_no, rz_no, rz_cst 0, rz_zret]
noncomputable def rgX4_isCallWrong : rz_L → rz_M → rz_Z → Bool := rz_go rcX4_isCallWrong 9 1000000
def rrX4_isCallWrong : Room := { frames := 2, cells := 0, slots := 0, locals := 49 }
theorem rmX4_isCallWrong (l : Launch) {G : rz_G} (hG : rz_Gd G) (vs : rz_L) (M : rz_M) (Z : rz_Z) (hn : vs.length = 3) (h : rgX4_isCallWrong vs M Z = true) : Met l yX4_isCallWrong (Cond.code yX4_isCallWrong cX4_isCallWrong 9 (some .boolean) :: rz_TB) rrX4_isCallWrong (rz_Pre G vs M) (rz_Qi G M.2 Z) 0 0 (fun q => rz_b G ≤ q) := by
  obtain ⟨D, tc, ad, b, xs, rfl⟩ := id hG
  refine rz_body (pcs := rpX4_isCallWrong) (by decide) rfl (by rw [hn]; decide) h ?_
  intro p e R s m args below meth c hC
  obtain ⟨hx, hb, hml, hr, hlk, ho, hts, hKn, hRm⟩ := id hC
  obtain ⟨hK, hA, hSt⟩ := id hKn
  have hw : ∀ {i j : Nat} {ws : List Cond} {w : Cond}, rz_WW[i]? = some ws → ws[j]? = some w → w.before args s = true := fun h1 h2 => hts _ (List.mem_cons_of_mem _ (rz_mem h1 h2))
  refine rz_All_c (i := 0) (fun k J hk hJ => rz_aload_n_ok (pc := 0) hx hb dX4_isCallWrong_0 rfl hk) ?_
  refine rz_All_c (i := 1) (fun k J hk hJ => rz_getf_ok (pc := 1) (own := RX4) (ref := "ThreadJudge$Linker") (C := RX4) (T := TX4) (N := 4) (ci := 6) (index := 9) (f := 0) (t := 2) (Ts := Cond.code yX4_isCallWrong cX4_isCallWrong 9 (some .boolean) :: rz_TB) hx hb hts rz_in6 ho hK rfl (by decide) rfl (fun _ => rfl) (hw (i := 16) (j := 3) rfl rfl) (fun _ z => z) dX4_isCallWrong_1 hk) ?_
  refine rz_All_c (i := 2) (fun k J hk hJ => rz_aload_n_ok (pc := 4) hx hb dX4_isCallWrong_4 rfl hk) ?_
  refine rz_All_c (i := 3) (fun k J hk hJ => rz_getf_ok (pc := 5) (own := RX4) (ref := "ThreadJudge$Linker") (C := RX4) (T := TX4) (N := 4) (ci := 6) (index := 9) (f := 0) (t := 2) (Ts := Cond.code yX4_isCallWrong cX4_isCallWrong 9 (some .boolean) :: rz_TB) hx hb hts rz_in6 ho hK rfl (by decide) rfl (fun _ => rfl) (hw (i := 16) (j := 3) rfl rfl) (fun _ z => z) dX4_isCallWrong_5 hk) ?_
  refine rz_All_c (i := 4) (fun k J hk hJ => rz_getf_ok (pc := 8) (own := RX4) (ref := "ThreadJudge$Program") (C := RX7) (T := TX7) (N := 22) (ci := 9) (index := 176) (f := 14) (t := 2) (Ts := Cond.code yX4_isCallWrong cX4_isCallWrong 9 (some .boolean) :: rz_TB) hx hb hts rz_in9 ho hK rfl (by decide) rfl (fun _ => rfl) (hw (i := 21) (j := 11) rfl rfl) (fun _ z => z) dX4_isCallWrong_8 hk) ?_
  refine rz_All_c (i := 5) (fun k J hk hJ => rz_iconst_ok (pc := 11) hx hb dX4_isCallWrong_11 rfl hk) ?_
  refine rz_All_c (i := 6) (fun k J hk hJ => rz_aald_ok (pc := 12) hx hb hK dX4_isCallWrong_12 hk) ?_
  refine rz_All_c (i := 7) (fun k J hk hJ => rz_iload_n_ok (pc := 13) hx hb dX4_isCallWrong_13 rfl hk) ?_
  refine rz_All_c (i := 8) (fun k J hk hJ => rz_iald_ok (pc := 14) hx hb hK dX4_isCallWrong_14 hk) ?_
  refine rz_All_c (i := 9) (fun k J hk hJ => rz_callV_ok (pc := 15) (own := RX4) (C := RX7) (T0 := TX7) (N0 := 22) hC rfl (rmX7_named l hG) (rz_cwV 1 hC rz_good (rz_mem (i := 16) (j := 8) rfl rfl) (rz_mem (i := 16) (j := 9) rfl rfl) (rz_mem (i := 16) (j := 10) rfl rfl) (rz_mem (i := 1) (j := 0) rfl rfl) (rz_mem (i := 16) (j := 11) rfl rfl) ⟨rfl, by decide, by decide, by decide +kernel⟩ rfl rfl ⟨by decide, by decide⟩) rfl dX4_isCallWrong_15 hk) ?_
  refine rz_All_c (i := 10) (fun k J hk hJ => rz_istore_n_ok (pc := 18) hx hb dX4_isCallWrong_18 rfl hk) ?_
  refine rz_All_c (i := 11) (fun k J hk hJ => rz_iload_n_ok (pc := 19) hx hb dX4_isCallWrong_19 rfl hk) ?_
  refine rz_All_c (i := 12) (fun k J hk hJ => rz_bipush_ok (pc := 20) hx hb dX4_isCallWrong_20 (by decide) hk) ?_
  refine rz_All_c (i := 13) (fun k J hk hJ => rz_imul_ok (pc := 22) hx hb dX4_isCallWrong_22 hk) ?_
  refine rz_All_c (i := 14) (fun k J hk hJ => rz_istore_ok (pc := 23) hx hb dX4_isCallWrong_23 hk) ?_
  refine rz_All_c (i := 15) (fun k J hk hJ => rz_iload_ok (pc := 25) hx hb dX4_isCallWrong_25 hk) ?_
  refine rz_All_c (i := 16) (fun k J hk hJ => rz_iload_n_ok (pc := 27) hx hb dX4_isCallWrong_27 rfl hk) ?_
  refine rz_All_c (i := 17) (fun k J hk hJ => rz_bipush_ok (pc := 28) hx hb dX4_isCallWrong_28 (by decide) hk) ?_
  refine rz_All_c (i := 18) (fun k J hk hJ => rz_imul_ok (pc := 30) hx hb dX4_isCallWrong_30 hk) ?_
  refine rz_All_c (i := 19) (fun k J hk hJ => rz_aload_n_ok (pc := 31) hx hb dX4_isCallWrong_31 rfl hk) ?_
  refine rz_All_c (i := 20) (fun k J hk hJ => rz_getf_ok (pc := 32) (own := RX4) (ref := "ThreadJudge$Linker") (C := RX4) (T := TX4) (N := 4) (ci := 6) (index := 9) (f := 0) (t := 2) (Ts := Cond.code yX4_isCallWrong cX4_isCallWrong 9 (some .boolean) :: rz_TB) hx hb hts rz_in6 ho hK rfl (by decide) rfl (fun _ => rfl) (hw (i := 16) (j := 3) rfl rfl) (fun _ z => z) dX4_isCallWrong_32 hk) ?_
  refine rz_All_c (i := 21) (fun k J hk hJ => rz_getf_ok (pc := 35) (own := RX4) (ref := "ThreadJudge$Program") (C := RX7) (T := TX7) (N := 22) (ci := 9) (index := 176) (f := 14) (t := 2) (Ts := Cond.code yX4_isCallWrong cX4_isCallWrong 9 (some .boolean) :: rz_TB) hx hb hts rz_in9 ho hK rfl (by decide) rfl (fun _ => rfl) (hw (i := 21) (j := 11) rfl rfl) (fun _ z => z) dX4_isCallWrong_35 hk) ?_
  refine rz_All_c (i := 22) (fun k J hk hJ => rz_bipush_ok (pc := 38) hx hb dX4_isCallWrong_38 (by decide) hk) ?_
  refine rz_All_c (i := 23) (fun k J hk hJ => rz_aald_ok (pc := 40) hx hb hK dX4_isCallWrong_40 hk) ?_
  refine rz_All_c (i := 24) (fun k J hk hJ => rz_iload_n_ok (pc := 41) hx hb dX4_isCallWrong_41 rfl hk) ?_
  refine rz_All_c (i := 25) (fun k J hk hJ => rz_iald_ok (pc := 42) hx hb hK dX4_isCallWrong_42 hk) ?_
  refine rz_All_c (i := 26) (fun k J hk hJ => rz_iadd_ok (pc := 43) hx hb dX4_isCallWrong_43 hk) ?_
  refine rz_All_c (i := 27) (fun k J hk hJ => rz_icmpge_ok (pc := 44) hx hb dX4_isCallWrong_44 rfl hk (hJ 29)) ?_
  refine rz_All_c (i := 28) (fun k J hk hJ => rz_no_ok) ?_
  refine rz_All_c (i := 29) (fun k J hk hJ => rz_aload_n_ok (pc := 77) hx hb dX4_isCallWrong_77 rfl hk) ?_
  refine rz_All_c (i := 30) (fun k J hk hJ => rz_aload_n_ok (pc := 78) hx hb dX4_isCallWrong_78 rfl hk) ?_
  refine rz_All_c (i := 31) (fun k J hk hJ => rz_getf_ok (pc := 79) (own := RX4) (ref := "ThreadJudge$Linker") (C := RX4) (T := TX4) (N := 4) (ci := 6) (index := 9) (f := 0) (t := 2) (Ts := Cond.code yX4_isCallWrong cX4_isCallWrong 9 (some .boolean) :: rz_TB) hx hb hts rz_in6 ho hK rfl (by decide) rfl (fun _ => rfl) (hw (i := 16) (j := 3) rfl rfl) (fun _ z => z) dX4_isCallWrong_79 hk) ?_
  refine rz_All_c (i := 32) (fun k J hk hJ => rz_getf_ok (pc := 82) (own := RX4) (ref := "ThreadJudge$Program") (C := RX7) (T := TX7) (N := 22) (ci := 9) (index := 176) (f := 14) (t := 2) (Ts := Cond.code yX4_isCallWrong cX4_isCallWrong 9 (some .boolean) :: rz_TB) hx hb hts rz_in9 ho hK rfl (by decide) rfl (fun _ => rfl) (hw (i := 21) (j := 11) rfl rfl) (fun _ z => z) dX4_isCallWrong_82 hk) ?_
  refine rz_All_c (i := 33) (fun k J hk hJ => rz_iconst_ok (pc := 85) hx hb dX4_isCallWrong_85 rfl hk) ?_
  refine rz_All_c (i := 34) (fun k J hk hJ => rz_aald_ok (pc := 86) hx hb hK dX4_isCallWrong_86 hk) ?_
  refine rz_All_c (i := 35) (fun k J hk hJ => rz_iload_n_ok (pc := 87) hx hb dX4_isCallWrong_87 rfl hk) ?_
  refine rz_All_c (i := 36) (fun k J hk hJ => rz_iald_ok (pc := 88) hx hb hK dX4_isCallWrong_88 hk) ?_
  refine rz_All_c (i := 37) (fun k J hk hJ => rz_aload_n_ok (pc := 89) hx hb dX4_isCallWrong_89 rfl hk) ?_
  refine rz_All_c (i := 38) (fun k J hk hJ => rz_getf_ok (pc := 90) (own := RX4) (ref := "ThreadJudge$Linker") (C := RX4) (T := TX4) (N := 4) (ci := 6) (index := 9) (f := 0) (t := 2) (Ts := Cond.code yX4_isCallWrong cX4_isCallWrong 9 (some .boolean) :: rz_TB) hx hb hts rz_in6 ho hK rfl (by decide) rfl (fun _ => rfl) (hw (i := 16) (j := 3) rfl rfl) (fun _ z => z) dX4_isCallWrong_90 hk) ?_
  refine rz_All_c (i := 39) (fun k J hk hJ => rz_getf_ok (pc := 93) (own := RX4) (ref := "ThreadJudge$Program") (C := RX7) (T := TX7) (N := 22) (ci := 9) (index := 217) (f := 15) (t := 2) (Ts := Cond.code yX4_isCallWrong cX4_isCallWrong 9 (some .boolean) :: rz_TB) hx hb hts rz_in9 ho hK rfl (by decide) rfl (fun _ => rfl) (hw (i := 23) (j := 7) rfl rfl) (fun _ z => z) dX4_isCallWrong_93 hk) ?_
  refine rz_All_c (i := 40) (fun k J hk hJ => rz_iload_n_ok (pc := 96) hx hb dX4_isCallWrong_96 rfl hk) ?_
  refine rz_All_c (i := 41) (fun k J hk hJ => rz_bipush_ok (pc := 97) hx hb dX4_isCallWrong_97 (by decide) hk) ?_
  refine rz_All_c (i := 42) (fun k J hk hJ => rz_imul_ok (pc := 99) hx hb dX4_isCallWrong_99 hk) ?_
  refine rz_All_c (i := 43) (fun k J hk hJ => rz_aload_n_ok (pc := 100) hx hb dX4_isCallWrong_100 rfl hk) ?_
  refine rz_All_c (i := 44) (fun k J hk hJ => rz_getf_ok (pc := 101) (own := RX4) (ref := "ThreadJudge$Linker") (C := RX4) (T := TX4) (N := 4) (ci := 6) (index := 9) (f := 0) (t := 2) (Ts := Cond.code yX4_isCallWrong cX4_isCallWrong 9 (some .boolean) :: rz_TB) hx hb hts rz_in6 ho hK rfl (by decide) rfl (fun _ => rfl) (hw (i := 16) (j := 3) rfl rfl) (fun _ z => z) dX4_isCallWrong_101 hk) ?_
  refine rz_All_c (i := 45) (fun k J hk hJ => rz_getf_ok (pc := 104) (own := RX4) (ref := "ThreadJudge$Program") (C := RX7) (T := TX7) (N := 22) (ci := 9) (index := 176) (f := 14) (t := 2) (Ts := Cond.code yX4_isCallWrong cX4_isCallWrong 9 (some .boolean) :: rz_TB) hx hb hts rz_in9 ho hK rfl (by decide) rfl (fun _ => rfl) (hw (i := 21) (j := 11) rfl rfl) (fun _ z => z) dX4_isCallWrong_104 hk) ?_
  refine rz_All_c (i := 46) (fun k J hk hJ => rz_bipush_ok (pc := 107) hx hb dX4_isCallWrong_107 (by decide) hk) ?_
  refine rz_All_c (i := 47) (fun k J hk hJ => rz_aald_ok (pc := 109) hx hb hK dX4_isCallWrong_109 hk) ?_
  refine rz_All_c (i := 48) (fun k J hk hJ => rz_iload_n_ok (pc := 110) hx hb dX4_isCallWrong_110 rfl hk) ?_
  refine rz_All_c (i := 49) (fun k J hk hJ => rz_iald_ok (pc := 111) hx hb hK dX4_isCallWrong_111 hk) ?_
  refine rz_All_c (i := 50) (fun k J hk hJ => rz_callV_ok (pc := 112) (own := RX4) (C := RX4) (T0 := TX4) (N0 := 4) hC rfl (rmX4_signOf l hG) (rz_cwV 4 hC rz_good (rz_mem (i := 17) (j := 19) rfl rfl) (rz_mem (i := 17) (j := 20) rfl rfl) (rz_mem (i := 17) (j := 21) rfl rfl) (rz_mem (i := 15) (j := 19) rfl rfl) (rz_mem (i := 17) (j := 22) rfl rfl) ⟨rfl, by decide, by decide, by decide +kernel⟩ rfl rfl ⟨by decide, by decide⟩) rfl dX4_isCallWrong_112 hk) ?_
  refine rz_All_c (i := 51) (fun k J hk hJ => rz_istore_ok (pc := 115) hx hb dX4_isCallWrong_115 hk) ?_
  refine rz_All_c (i := 52) (fun k J hk hJ => rz_iload_n_ok (pc := 117) hx hb dX4_isCallWrong_117 rfl hk) ?_
  refine rz_All_c (i := 53) (fun k J hk hJ => rz_iflt_ok (pc := 118) hx hb dX4_isCallWrong_118 rfl hk (hJ 56)) ?_
  refine rz_All_c (i := 54) (fun k J hk hJ => rz_iload_ok (pc := 121) hx hb dX4_isCallWrong_121 hk) ?_
  refine rz_All_c (i := 55) (fun k J hk hJ => rz_ifge_ok (pc := 123) hx hb dX4_isCallWrong_123 rfl hk (hJ 57)) ?_
  refine rz_All_c (i := 56) (fun k J hk hJ => rz_no_ok) ?_
  refine rz_All_c (i := 57) (fun k J hk hJ => rz_aload_n_ok (pc := 130) hx hb dX4_isCallWrong_130 rfl hk) ?_
  refine rz_All_c (i := 58) (fun k J hk hJ => rz_getf_ok (pc := 131) (own := RX4) (ref := "ThreadJudge$Linker") (C := RX4) (T := TX4) (N := 4) (ci := 6) (index := 9) (f := 0) (t := 2) (Ts := Cond.code yX4_isCallWrong cX4_isCallWrong 9 (some .boolean) :: rz_TB) hx hb hts rz_in6 ho hK rfl (by decide) rfl (fun _ => rfl) (hw (i := 16) (j := 3) rfl rfl) (fun _ z => z) dX4_isCallWrong_131 hk) ?_
  refine rz_All_c (i := 59) (fun k J hk hJ => rz_iload_n_ok (pc := 134) hx hb dX4_isCallWrong_134 rfl hk) ?_
  refine rz_All_c (i := 60) (fun k J hk hJ => rz_iload_ok (pc := 135) hx hb dX4_isCallWrong_135 hk) ?_
  refine rz_All_c (i := 61) (fun k J hk hJ => rz_callV_ok (pc := 137) (own := RX4) (C := RX7) (T0 := TX7) (N0 := 22) hC rfl (rmX7_find l hG) (rz_cwV 2 hC rz_good (rz_mem (i := 23) (j := 8) rfl rfl) (rz_mem (i := 23) (j := 9) rfl rfl) (rz_mem (i := 23) (j := 10) rfl rfl) (rz_mem (i := 1) (j := 0) rfl rfl) (rz_mem (i := 23) (j := 11) rfl rfl) ⟨rfl, by decide, by decide, by decide +kernel⟩ rfl rfl ⟨by decide, by decide⟩) rfl dX4_isCallWrong_137 hk) ?_
  refine rz_All_c (i := 62) (fun k J hk hJ => rz_istore_ok (pc := 140) hx hb dX4_isCallWrong_140 hk) ?_
  refine rz_All_c (i := 63) (fun k J hk hJ => rz_aload_n_ok (pc := 142) hx hb dX4_isCallWrong_142 rfl hk) ?_
  refine rz_All_c (i := 64) (fun k J hk hJ => rz_getf_ok (pc := 143) (own := RX4) (ref := "ThreadJudge$Linker") (C := RX4) (T := TX4) (N := 4) (ci := 6) (index := 9) (f := 0) (t := 2) (Ts := Cond.code yX4_isCallWrong cX4_isCallWrong 9 (some .boolean) :: rz_TB) hx hb hts rz_in6 ho hK rfl (by decide) rfl (fun _ => rfl) (hw (i := 16) (j := 3) rfl rfl) (fun _ z => z) dX4_isCallWrong_143 hk) ?_
  refine rz_All_c (i := 65) (fun k J hk hJ => rz_getf_ok (pc := 146) (own := RX4) (ref := "ThreadJudge$Program") (C := RX7) (T := TX7) (N := 22) (ci := 9) (index := 176) (f := 14) (t := 2) (Ts := Cond.code yX4_isCallWrong cX4_isCallWrong 9 (some .boolean) :: rz_TB) hx hb hts rz_in9 ho hK rfl (by decide) rfl (fun _ => rfl) (hw (i := 21) (j := 11) rfl rfl) (fun _ z => z) dX4_isCallWrong_146 hk) ?_
  refine rz_All_c (i := 66) (fun k J hk hJ => rz_bipush_ok (pc := 149) hx hb dX4_isCallWrong_149 (by decide) hk) ?_
  refine rz_All_c (i := 67) (fun k J hk hJ => rz_aald_ok (pc := 151) hx hb hK dX4_isCallWrong_151 hk) ?_
  refine rz_All_c (i := 68) (fun k J hk hJ => rz_iload_n_ok (pc := 152) hx hb dX4_isCallWrong_152 rfl hk) ?_
  refine rz_All_c (i := 69) (fun k J hk hJ => rz_iload_n_ok (pc := 153) hx hb dX4_isCallWrong_153 rfl hk) ?_
  refine rz_All_c (i := 70) (fun k J hk hJ => rz_iast_ok (pc := 154) hx hb hK hA dX4_isCallWrong_154 hk) ?_
  refine rz_All_c (i := 71) (fun k J hk hJ => rz_aload_n_ok (pc := 155) hx hb dX4_isCallWrong_155 rfl hk) ?_
  refine rz_All_c (i := 72) (fun k J hk hJ => rz_getf_ok (pc := 156) (own := RX4) (ref := "ThreadJudge$Linker") (C := RX4) (T := TX4) (N := 4) (ci := 6) (index := 9) (f := 0) (t := 2) (Ts := Cond.code yX4_isCallWrong cX4_isCallWrong 9 (some .boolean) :: rz_TB) hx hb hts rz_in6 ho hK rfl (by decide) rfl (fun _ => rfl) (hw (i := 16) (j := 3) rfl rfl) (fun _ z => z) dX4_isCallWrong_156 hk) ?_
  refine rz_All_c (i := 73) (fun k J hk hJ => rz_getf_ok (pc := 159) (own := RX4) (ref := "ThreadJudge$Program") (C := RX7) (T := TX7) (N := 22) (ci := 9) (index := 176) (f := 14) (t := 2) (Ts := Cond.code yX4_isCallWrong cX4_isCallWrong 9 (some .boolean) :: rz_TB) hx hb hts rz_in9 ho hK rfl (by decide) rfl (fun _ => rfl) (hw (i := 21) (j := 11) rfl rfl) (fun _ z => z) dX4_isCallWrong_159 hk) ?_
  refine rz_All_c (i := 74) (fun k J hk hJ => rz_bipush_ok (pc := 162) hx hb dX4_isCallWrong_162 (by decide) hk) ?_
  refine rz_All_c (i := 75) (fun k J hk hJ => rz_aald_ok (pc := 164) hx hb hK dX4_isCallWrong_164 hk) ?_
  refine rz_All_c (i := 76) (fun k J hk hJ => rz_iload_n_ok (pc := 165) hx hb dX4_isCallWrong_165 rfl hk) ?_
  refine rz_All_c (i := 77) (fun k J hk hJ => rz_iload_ok (pc := 166) hx hb dX4_isCallWrong_166 hk) ?_
  refine rz_All_c (i := 78) (fun k J hk hJ => rz_iast_ok (pc := 168) hx hb hK hA dX4_isCallWrong_168 hk) ?_
  refine rz_All_c (i := 79) (fun k J hk hJ => rz_iload_ok (pc := 169) hx hb dX4_isCallWrong_169 hk) ?_
  refine rz_All_c (i := 80) (fun k J hk hJ => rz_iflt_ok (pc := 171) hx hb dX4_isCallWrong_171 rfl hk (hJ 98)) ?_
  refine rz_All_c (i := 81) (fun k J hk hJ => rz_aload_n_ok (pc := 174) hx hb dX4_isCallWrong_174 rfl hk) ?_
  refine rz_All_c (i := 82) (fun k J hk hJ => rz_getf_ok (pc := 175) (own := RX4) (ref := "ThreadJudge$Linker") (C := RX4) (T := TX4) (N := 4) (ci := 6) (index := 9) (f := 0) (t := 2) (Ts := Cond.code yX4_isCallWrong cX4_isCallWrong 9 (some .boolean) :: rz_TB) hx hb hts rz_in6 ho hK rfl (by decide) rfl (fun _ => rfl) (hw (i := 16) (j := 3) rfl rfl) (fun _ z => z) dX4_isCallWrong_175 hk) ?_
  refine rz_All_c (i := 83) (fun k J hk hJ => rz_getf_ok (pc := 178) (own := RX4) (ref := "ThreadJudge$Program") (C := RX7) (T := TX7) (N := 22) (ci := 9) (index := 95) (f := 10) (t := 2) (Ts := Cond.code yX4_isCallWrong cX4_isCallWrong 9 (some .boolean) :: rz_TB) hx hb hts rz_in9 ho hK rfl (by decide) rfl (fun _ => rfl) (hw (i := 17) (j := 13) rfl rfl) (fun _ z => z) dX4_isCallWrong_178 hk) ?_
  refine rz_All_c (i := 84) (fun k J hk hJ => rz_iconst_ok (pc := 181) hx hb dX4_isCallWrong_181 rfl hk) ?_
  refine rz_All_c (i := 85) (fun k J hk hJ => rz_aald_ok (pc := 182) hx hb hK dX4_isCallWrong_182 hk) ?_
  refine rz_All_c (i := 86) (fun k J hk hJ => rz_iload_ok (pc := 183) hx hb dX4_isCallWrong_183 hk) ?_
  refine rz_All_c (i := 87) (fun k J hk hJ => rz_iald_ok (pc := 185) hx hb hK dX4_isCallWrong_185 hk) ?_
  refine rz_All_c (i := 88) (fun k J hk hJ => rz_aload_n_ok (pc := 186) hx hb dX4_isCallWrong_186 rfl hk) ?_
  refine rz_All_c (i := 89) (fun k J hk hJ => rz_aload_n_ok (pc := 187) hx hb dX4_isCallWrong_187 rfl hk) ?_
  refine rz_All_c (i := 90) (fun k J hk hJ => rz_getf_ok (pc := 188) (own := RX4) (ref := "ThreadJudge$Linker") (C := RX4) (T := TX4) (N := 4) (ci := 6) (index := 9) (f := 0) (t := 2) (Ts := Cond.code yX4_isCallWrong cX4_isCallWrong 9 (some .boolean) :: rz_TB) hx hb hts rz_in6 ho hK rfl (by decide) rfl (fun _ => rfl) (hw (i := 16) (j := 3) rfl rfl) (fun _ z => z) dX4_isCallWrong_188 hk) ?_
  refine rz_All_c (i := 91) (fun k J hk hJ => rz_getf_ok (pc := 191) (own := RX4) (ref := "ThreadJudge$Program") (C := RX7) (T := TX7) (N := 22) (ci := 9) (index := 176) (f := 14) (t := 2) (Ts := Cond.code yX4_isCallWrong cX4_isCallWrong 9 (some .boolean) :: rz_TB) hx hb hts rz_in9 ho hK rfl (by decide) rfl (fun _ => rfl) (hw (i := 21) (j := 11) rfl rfl) (fun _ z => z) dX4_isCallWrong_191 hk) ?_
  refine rz_All_c (i := 92) (fun k J hk hJ => rz_bipush_ok (pc := 194) hx hb dX4_isCallWrong_194 (by decide) hk) ?_
  refine rz_All_c (i := 93) (fun k J hk hJ => rz_aald_ok (pc := 196) hx hb hK dX4_isCallWrong_196 hk) ?_
  refine rz_All_c (i := 94) (fun k J hk hJ => rz_iload_n_ok (pc := 197) hx hb dX4_isCallWrong_197 rfl hk) ?_
  refine rz_All_c (i := 95) (fun k J hk hJ => rz_iald_ok (pc := 198) hx hb hK dX4_isCallWrong_198 hk) ?_
  refine rz_All_c (i := 96) (fun k J hk hJ => rz_callV_ok (pc := 199) (own := RX4) (C := RX4) (T0 := TX4) (N0 := 4) hC rfl (rmX4_resolve l hG) (rz_cwV 1 hC rz_good (rz_mem (i := 17) (j := 15) rfl rfl) (rz_mem (i := 17) (j := 16) rfl rfl) (rz_mem (i := 17) (j := 17) rfl rfl) (rz_mem (i := 15) (j := 19) rfl rfl) (rz_mem (i := 17) (j := 18) rfl rfl) ⟨rfl, by decide, by decide, by decide +kernel⟩ rfl rfl ⟨by decide, by decide⟩) rfl dX4_isCallWrong_199 hk) ?_
  refine rz_All_c (i := 97) (fun k J hk hJ => rz_icmpeq_ok (pc := 202) hx hb dX4_isCallWrong_202 rfl hk (hJ 99)) ?_
  refine rz_All_c (i := 98) (fun k J hk hJ => rz_no_ok) ?_
  refine rz_All_c (i := 99) (fun k J hk hJ => rz_aload_n_ok (pc := 207) hx hb dX4_isCallWrong_207 rfl hk) ?_
  refine rz_All_c (i := 100) (fun k J hk hJ => rz_getf_ok (pc := 208) (own := RX4) (ref := "ThreadJudge$Linker") (C := RX4) (T := TX4) (N := 4) (ci := 6) (index := 15) (f := 1) (t := 2) (Ts := Cond.code yX4_isCallWrong cX4_isCallWrong 9 (some .boolean) :: rz_TB) hx hb hts rz_in6 ho hK rfl (by decide) rfl (fun _ => rfl) (hw (i := 18) (j := 7) rfl rfl) (fun _ z => z) dX4_isCallWrong_208 hk) ?_
  refine rz_All_c (i := 101) (fun k J hk hJ => rz_aload_n_ok (pc := 211) hx hb dX4_isCallWrong_211 rfl hk) ?_
  refine rz_All_c (i := 102) (fun k J hk hJ => rz_getf_ok (pc := 212) (own := RX4) (ref := "ThreadJudge$Linker") (C := RX4) (T := TX4) (N := 4) (ci := 6) (index := 9) (f := 0) (t := 2) (Ts := Cond.code yX4_isCallWrong cX4_isCallWrong 9 (some .boolean) :: rz_TB) hx hb hts rz_in6 ho hK rfl (by decide) rfl (fun _ => rfl) (hw (i := 16) (j := 3) rfl rfl) (fun _ z => z) dX4_isCallWrong_212 hk) ?_
  refine rz_All_c (i := 103) (fun k J hk hJ => rz_getf_ok (pc := 215) (own := RX4) (ref := "ThreadJudge$Program") (C := RX7) (T := TX7) (N := 22) (ci := 9) (index := 176) (f := 14) (t := 2) (Ts := Cond.code yX4_isCallWrong cX4_isCallWrong 9 (some .boolean) :: rz_TB) hx hb hts rz_in9 ho hK rfl (by decide) rfl (fun _ => rfl) (hw (i := 21) (j := 11) rfl rfl) (fun _ z => z) dX4_isCallWrong_215 hk) ?_
  refine rz_All_c (i := 104) (fun k J hk hJ => rz_iconst_ok (pc := 218) hx hb dX4_isCallWrong_218 rfl hk) ?_
  refine rz_All_c (i := 105) (fun k J hk hJ => rz_aald_ok (pc := 219) hx hb hK dX4_isCallWrong_219 hk) ?_
  refine rz_All_c (i := 106) (fun k J hk hJ => rz_iload_n_ok (pc := 220) hx hb dX4_isCallWrong_220 rfl hk) ?_
  refine rz_All_c (i := 107) (fun k J hk hJ => rz_iald_ok (pc := 221) hx hb hK dX4_isCallWrong_221 hk) ?_
  refine rz_All_c (i := 108) (fun k J hk hJ => rz_callV_ok (pc := 222) (own := RX4) (C := RX9) (T0 := TX9) (N0 := 19) hC rfl (rmX9_isAngled l hG) (rz_cwV 1 hC rz_good (rz_mem (i := 18) (j := 11) rfl rfl) (rz_mem (i := 18) (j := 12) rfl rfl) (rz_mem (i := 18) (j := 13) rfl rfl) (rz_mem (i := 1) (j := 21) rfl rfl) (rz_mem (i := 18) (j := 14) rfl rfl) ⟨rfl, by decide, by decide, by decide +kernel⟩ rfl rfl ⟨by decide, by decide⟩) rfl dX4_isCallWrong_222 hk) ?_
  refine rz_All_c (i := 109) (fun k J hk hJ => rz_istore_ok (pc := 225) hx hb dX4_isCallWrong_225 hk) ?_
  refine rz_All_c (i := 110) (fun k J hk hJ => rz_aload_n_ok (pc := 227) hx hb dX4_isCallWrong_227 rfl hk) ?_
  refine rz_All_c (i := 111) (fun k J hk hJ => rz_getf_ok (pc := 228) (own := RX4) (ref := "ThreadJudge$Linker") (C := RX4) (T := TX4) (N := 4) (ci := 6) (index := 9) (f := 0) (t := 2) (Ts := Cond.code yX4_isCallWrong cX4_isCallWrong 9 (some .boolean) :: rz_TB) hx hb hts rz_in6 ho hK rfl (by decide) rfl (fun _ => rfl) (hw (i := 16) (j := 3) rfl rfl) (fun _ z => z) dX4_isCallWrong_228 hk) ?_
  refine rz_All_c (i := 112) (fun k J hk hJ => rz_iload_ok (pc := 231) hx hb dX4_isCallWrong_231 hk) ?_
  refine rz_All_c (i := 113) (fun k J hk hJ => rz_iconst_ok (pc := 233) hx hb dX4_isCallWrong_233 rfl hk) ?_
  refine rz_All_c (i := 114) (fun k J hk hJ => rz_callV_ok (pc := 234) (own := RX4) (C := RX7) (T0 := TX7) (N0 := 22) hC rfl (rmX7_hasFlag l hG) (rz_cwV 2 hC rz_good (rz_mem (i := 18) (j := 23) rfl rfl) (rz_mem (i := 19) (j := 0) rfl rfl) (rz_mem (i := 19) (j := 1) rfl rfl) (rz_mem (i := 1) (j := 0) rfl rfl) (rz_mem (i := 19) (j := 2) rfl rfl) ⟨rfl, by decide, by decide, by decide +kernel⟩ rfl rfl ⟨by decide, by decide⟩) rfl dX4_isCallWrong_234 hk) ?_
  refine rz_All_c (i := 115) (fun k J hk hJ => rz_istore_ok (pc := 237) hx hb dX4_isCallWrong_237 hk) ?_
  refine rz_All_c (i := 116) (fun k J hk hJ => rz_iload_n_ok (pc := 239) hx hb dX4_isCallWrong_239 rfl hk) ?_
  refine rz_All_c (i := 117) (fun k J hk hJ => rz_bipush_ok (pc := 240) hx hb dX4_isCallWrong_240 (by decide) hk) ?_
  refine rz_All_c (i := 118) (fun k J hk hJ => rz_icmpne_ok (pc := 242) hx hb dX4_isCallWrong_242 rfl hk (hJ 120)) ?_
  refine rz_All_c (i := 119) (fun k J hk hJ => rz_no_ok) ?_
  refine rz_All_c (i := 120) (fun k J hk hJ => rz_iload_ok (pc := 320) hx hb dX4_isCallWrong_320 hk) ?_
  refine rz_All_c (i := 121) (fun k J hk hJ => rz_ifne_ok (pc := 322) hx hb dX4_isCallWrong_322 rfl hk (hJ 134)) ?_
  refine rz_All_c (i := 122) (fun k J hk hJ => rz_iload_ok (pc := 325) hx hb dX4_isCallWrong_325 hk) ?_
  refine rz_All_c (i := 123) (fun k J hk hJ => rz_iload_n_ok (pc := 327) hx hb dX4_isCallWrong_327 rfl hk) ?_
  refine rz_All_c (i := 124) (fun k J hk hJ => rz_bipush_ok (pc := 328) hx hb dX4_isCallWrong_328 (by decide) hk) ?_
  refine rz_All_c (i := 125) (fun k J hk hJ => rz_icmpne_ok (pc := 330) hx hb dX4_isCallWrong_330 rfl hk (hJ 128)) ?_
  refine rz_All_c (i := 126) (fun k J hk hJ => rz_iconst_ok (pc := 333) hx hb dX4_isCallWrong_333 rfl hk) ?_
  refine rz_All_c (i := 127) (fun k J hk hJ => rz_goto_ok (pc := 334) hx hb dX4_isCallWrong_334 rfl (hJ 129)) ?_
  refine rz_All_c (i := 128) (fun k J hk hJ => rz_no_ok) ?_
  refine rz_All_c (i := 129) (fun k J hk hJ => rz_icmpeq_ok (pc := 338) hx hb dX4_isCallWrong_338 rfl hk (hJ 134)) ?_
  refine rz_All_c (i := 130) (fun k J hk hJ => rz_iload_n_ok (pc := 341) hx hb dX4_isCallWrong_341 rfl hk) ?_
  refine rz_All_c (i := 131) (fun k J hk hJ => rz_bipush_ok (pc := 342) hx hb dX4_isCallWrong_342 (by decide) hk) ?_
  refine rz_All_c (i := 132) (fun k J hk hJ => rz_icmpne_ok (pc := 344) hx hb dX4_isCallWrong_344 rfl hk (hJ 135)) ?_
  refine rz_All_c (i := 133) (fun k J hk hJ => rz_no_ok) ?_
  refine rz_All_c (i := 134) (fun k J hk hJ => rz_no_ok) ?_
  refine rz_All_c (i := 135) (fun k J hk hJ => rz_iconst_ok (pc := 365) hx hb dX4_isCallWrong_365 rfl hk) ?_
  refine rz_All_c (i := 136) (fun k J hk hJ => rz_zret_ok (pc := 366) hC dX4_isCallWrong_366) ?_
  exact trivial
