/-! Methods: handlers, facts, contracts. -/
theorem dX9_memberName_0 : decode cX9_memberName 0 = .ok (.aload_n 0, 1) := by decide +kernel
theorem dX9_memberName_1 : decode cX9_memberName 1 = .ok (.getfield 37, 3) := by decide +kernel
theorem dX9_memberName_4 : decode cX9_memberName 4 = .ok (.getfield 211, 3) := by decide +kernel
theorem dX9_memberName_7 : decode cX9_memberName 7 = .ok (.iconst 4, 1) := by decide +kernel
theorem dX9_memberName_8 : decode cX9_memberName 8 = .ok (.aaload, 1) := by decide +kernel
theorem dX9_memberName_9 : decode cX9_memberName 9 = .ok (.iload_n 1, 1) := by decide +kernel
theorem dX9_memberName_10 : decode cX9_memberName 10 = .ok (.aload_n 0, 1) := by decide +kernel
theorem dX9_memberName_11 : decode cX9_memberName 11 = .ok (.invokevirtual 252, 3) := by decide +kernel
theorem dX9_memberName_14 : decode cX9_memberName 14 = .ok (.iastore, 1) := by decide +kernel
theorem dX9_memberName_15 : decode cX9_memberName 15 = .ok (.aload_n 0, 1) := by decide +kernel
theorem dX9_memberName_16 : decode cX9_memberName 16 = .ok (.getfield 37, 3) := by decide +kernel
theorem dX9_memberName_19 : decode cX9_memberName 19 = .ok (.getfield 211, 3) := by decide +kernel
theorem dX9_memberName_22 : decode cX9_memberName 22 = .ok (.iconst 4, 1) := by decide +kernel
theorem dX9_memberName_23 : decode cX9_memberName 23 = .ok (.aaload, 1) := by decide +kernel
theorem dX9_memberName_24 : decode cX9_memberName 24 = .ok (.iload_n 1, 1) := by decide +kernel
theorem dX9_memberName_25 : decode cX9_memberName 25 = .ok (.iaload, 1) := by decide +kernel
theorem dX9_memberName_26 : decode cX9_memberName 26 = .ok (.ifCond .lt 12, 3) := by decide +kernel
theorem dX9_memberName_29 : decode cX9_memberName 29 = .ok (.aload_n 0, 1) := by decide +kernel
theorem dX9_memberName_30 : decode cX9_memberName 30 = .ok (.bipush 46, 2) := by decide +kernel
theorem dX9_memberName_32 : decode cX9_memberName 32 = .ok (.invokevirtual 223, 3) := by decide +kernel
theorem dX9_memberName_35 : decode cX9_memberName 35 = .ok (.ifCond .ne 5, 3) := by decide +kernel
theorem dX9_memberName_40 : decode cX9_memberName 40 = .ok (.aload_n 0, 1) := by decide +kernel
theorem dX9_memberName_41 : decode cX9_memberName 41 = .ok (.getfield 37, 3) := by decide +kernel
theorem dX9_memberName_44 : decode cX9_memberName 44 = .ok (.getfield 211, 3) := by decide +kernel
theorem dX9_memberName_47 : decode cX9_memberName 47 = .ok (.iconst 5, 1) := by decide +kernel
theorem dX9_memberName_48 : decode cX9_memberName 48 = .ok (.aaload, 1) := by decide +kernel
theorem dX9_memberName_49 : decode cX9_memberName 49 = .ok (.iload_n 1, 1) := by decide +kernel
theorem dX9_memberName_50 : decode cX9_memberName 50 = .ok (.aload_n 0, 1) := by decide +kernel
theorem dX9_memberName_51 : decode cX9_memberName 51 = .ok (.invokevirtual 252, 3) := by decide +kernel
theorem dX9_memberName_54 : decode cX9_memberName 54 = .ok (.iastore, 1) := by decide +kernel
theorem dX9_memberName_55 : decode cX9_memberName 55 = .ok (.aload_n 0, 1) := by decide +kernel
theorem dX9_memberName_56 : decode cX9_memberName 56 = .ok (.getfield 37, 3) := by decide +kernel
theorem dX9_memberName_59 : decode cX9_memberName 59 = .ok (.getfield 211, 3) := by decide +kernel
theorem dX9_memberName_62 : decode cX9_memberName 62 = .ok (.iconst 5, 1) := by decide +kernel
theorem dX9_memberName_63 : decode cX9_memberName 63 = .ok (.aaload, 1) := by decide +kernel
theorem dX9_memberName_64 : decode cX9_memberName 64 = .ok (.iload_n 1, 1) := by decide +kernel
theorem dX9_memberName_65 : decode cX9_memberName 65 = .ok (.iaload, 1) := by decide +kernel
theorem dX9_memberName_66 : decode cX9_memberName 66 = .ok (.ifCond .lt 7, 3) := by decide +kernel
theorem dX9_memberName_69 : decode cX9_memberName 69 = .ok (.iconst 1, 1) := by decide +kernel
theorem dX9_memberName_70 : decode cX9_memberName 70 = .ok (.goto 4, 3) := by decide +kernel
theorem dX9_memberName_74 : decode cX9_memberName 74 = .ok (.ireturn, 1) := by decide +kernel
def rpX9_memberName : List Nat := [0, 1, 4, 7, 8, 9, 10, 11, 14, 15, 16, 19, 22, 23, 24, 25, 26, 29, 30, 32, 35, 38, 40, 41, 44, 47, 48, 49, 50, 51, 54, 55, 56, 59, 62, 63, 64, 65, 66, 69, 70, 73, 74]
noncomputable def rcX9_memberName : List rz_B := [rz_aload 0, rz_getf (Nat.add (Nat.mul 256 11) 1) 0 rz_r, rz_getf (Nat.add (Nat.mul 256 9) 1) 14 rz_r, rz_cst 4, rz_aald, rz_iload 1, rz_aload 0, rz_callV 0 (Nat.add (Nat.mul 256 11) 1) rgX9_takeName, rz_iast, rz_aload 0, rz_getf (Nat.add (Nat.mul 256 11) 1) 0 rz_r, rz_getf (Nat.add (Nat.mul 256 9) 1) 14 rz_r, rz_cst 4, rz_aald, rz_iload 1, rz_iald, rz_iflt 21, rz_aload 0, rz_cst 46, rz_callV 1 (Nat.add (Nat.mul 256 11) 1) rgX9_takeSign, rz_ifne 22, rz_no, rz_aload 0, rz_getf (Nat.add (Nat.mul 256 11) 1) 0 rz_r, rz_getf (Nat.add (Nat.mul 256 9) 1) 14 rz_r, rz_cst 5, rz_aald, rz_iload 1, rz_aload 0, rz_callV 0 (Nat.add (Nat.mul 256 11) 1) rgX9_takeName, rz_iast, rz_aload 0, rz_getf (Nat.add (Nat.mul 256 11) 1) 0 rz_r, rz_getf (Nat.add (Nat.mul 256 9) 1) 14 rz_r, rz_cst 5, rz_aald, rz_iload 1, rz_iald, rz_iflt 41, rz_cst 1, rz_goto 42, rz_no, rz_zret]
noncomputable def rgX9_memberName : rz_L → rz_M → rz_Z → Bool := rz_go rcX9_memberName 2 1000000
def rrX9_memberName : Room := { frames := 1, cells := 0, slots := 0, locals := 21 }
theorem rmX9_memberName (l : Launch) {G : rz_G} (hG : rz_Gd G) (vs : rz_L) (M : rz_M) (Z : rz_Z) (hn : vs.length = 2) (h : rgX9_memberName vs M Z = true) : Met l yX9_memberName (Cond.code yX9_memberName cX9_memberName 2 (some .boolean) :: rz_TB) rrX9_memberName (rz_Pre G vs M) (rz_Qi G M.2 Z) 0 0 (fun q => rz_b G ≤ q) := by
  obtain ⟨D, tc, ad, b, xs, rfl⟩ := id hG
  refine rz_body (pcs := rpX9_memberName) (by decide) rfl (by rw [hn]; decide) h ?_
  intro p e R s m args below meth c hC
  obtain ⟨hx, hb, hml, hr, hlk, ho, hts, hKn, hRm⟩ := id hC
  obtain ⟨hK, hA, hSt⟩ := id hKn
  have hw : ∀ {i j : Nat} {ws : List Cond} {w : Cond}, rz_WW[i]? = some ws → ws[j]? = some w → w.before args s = true := fun h1 h2 => hts _ (List.mem_cons_of_mem _ (rz_mem h1 h2))
  refine rz_All_c (i := 0) (fun k J hk hJ => rz_aload_n_ok (pc := 0) hx hb dX9_memberName_0 rfl hk) ?_
  refine rz_All_c (i := 1) (fun k J hk hJ => rz_getf_ok (pc := 1) (own := RX9) (ref := "ThreadJudge$Reader") (C := RX9) (T := TX9) (N := 19) (ci := 11) (index := 37) (f := 0) (t := 2) (Ts := Cond.code yX9_memberName cX9_memberName 2 (some .boolean) :: rz_TB) hx hb hts rz_in11 ho hK rfl (by decide) rfl (fun _ => rfl) (hw (i := 9) (j := 16) rfl rfl) (fun _ z => z) dX9_memberName_1 hk) ?_
  refine rz_All_c (i := 2) (fun k J hk hJ => rz_getf_ok (pc := 4) (own := RX9) (ref := "ThreadJudge$Program") (C := RX7) (T := TX7) (N := 22) (ci := 9) (index := 211) (f := 14) (t := 2) (Ts := Cond.code yX9_memberName cX9_memberName 2 (some .boolean) :: rz_TB) hx hb hts rz_in9 ho hK rfl (by decide) rfl (fun _ => rfl) (hw (i := 9) (j := 18) rfl rfl) (fun _ z => z) dX9_memberName_4 hk) ?_
  refine rz_All_c (i := 3) (fun k J hk hJ => rz_iconst_ok (pc := 7) hx hb dX9_memberName_7 rfl hk) ?_
  refine rz_All_c (i := 4) (fun k J hk hJ => rz_aald_ok (pc := 8) hx hb hK dX9_memberName_8 hk) ?_
  refine rz_All_c (i := 5) (fun k J hk hJ => rz_iload_n_ok (pc := 9) hx hb dX9_memberName_9 rfl hk) ?_
  refine rz_All_c (i := 6) (fun k J hk hJ => rz_aload_n_ok (pc := 10) hx hb dX9_memberName_10 rfl hk) ?_
  refine rz_All_c (i := 7) (fun k J hk hJ => rz_callV_ok (pc := 11) (own := RX9) (C := RX9) (T0 := TX9) (N0 := 19) hC rfl (rmX9_takeName l hG) (rz_cwV 0 hC rz_good (rz_mem (i := 11) (j := 0) rfl rfl) (rz_mem (i := 11) (j := 1) rfl rfl) (rz_mem (i := 11) (j := 2) rfl rfl) (rz_mem (i := 1) (j := 21) rfl rfl) (rz_mem (i := 11) (j := 3) rfl rfl) ⟨rfl, by decide, by decide, by decide +kernel⟩ rfl rfl ⟨by decide, by decide⟩) rfl dX9_memberName_11 hk) ?_
  refine rz_All_c (i := 8) (fun k J hk hJ => rz_iast_ok (pc := 14) hx hb hK hA dX9_memberName_14 hk) ?_
  refine rz_All_c (i := 9) (fun k J hk hJ => rz_aload_n_ok (pc := 15) hx hb dX9_memberName_15 rfl hk) ?_
  refine rz_All_c (i := 10) (fun k J hk hJ => rz_getf_ok (pc := 16) (own := RX9) (ref := "ThreadJudge$Reader") (C := RX9) (T := TX9) (N := 19) (ci := 11) (index := 37) (f := 0) (t := 2) (Ts := Cond.code yX9_memberName cX9_memberName 2 (some .boolean) :: rz_TB) hx hb hts rz_in11 ho hK rfl (by decide) rfl (fun _ => rfl) (hw (i := 9) (j := 16) rfl rfl) (fun _ z => z) dX9_memberName_16 hk) ?_
  refine rz_All_c (i := 11) (fun k J hk hJ => rz_getf_ok (pc := 19) (own := RX9) (ref := "ThreadJudge$Program") (C := RX7) (T := TX7) (N := 22) (ci := 9) (index := 211) (f := 14) (t := 2) (Ts := Cond.code yX9_memberName cX9_memberName 2 (some .boolean) :: rz_TB) hx hb hts rz_in9 ho hK rfl (by decide) rfl (fun _ => rfl) (hw (i := 9) (j := 18) rfl rfl) (fun _ z => z) dX9_memberName_19 hk) ?_
  refine rz_All_c (i := 12) (fun k J hk hJ => rz_iconst_ok (pc := 22) hx hb dX9_memberName_22 rfl hk) ?_
  refine rz_All_c (i := 13) (fun k J hk hJ => rz_aald_ok (pc := 23) hx hb hK dX9_memberName_23 hk) ?_
  refine rz_All_c (i := 14) (fun k J hk hJ => rz_iload_n_ok (pc := 24) hx hb dX9_memberName_24 rfl hk) ?_
  refine rz_All_c (i := 15) (fun k J hk hJ => rz_iald_ok (pc := 25) hx hb hK dX9_memberName_25 hk) ?_
  refine rz_All_c (i := 16) (fun k J hk hJ => rz_iflt_ok (pc := 26) hx hb dX9_memberName_26 rfl hk (hJ 21)) ?_
  refine rz_All_c (i := 17) (fun k J hk hJ => rz_aload_n_ok (pc := 29) hx hb dX9_memberName_29 rfl hk) ?_
  refine rz_All_c (i := 18) (fun k J hk hJ => rz_bipush_ok (pc := 30) hx hb dX9_memberName_30 (by decide) hk) ?_
  refine rz_All_c (i := 19) (fun k J hk hJ => rz_callV_ok (pc := 32) (own := RX9) (C := RX9) (T0 := TX9) (N0 := 19) hC rfl (rmX9_takeSign l hG) (rz_cwV 1 hC rz_good (rz_mem (i := 11) (j := 8) rfl rfl) (rz_mem (i := 11) (j := 9) rfl rfl) (rz_mem (i := 11) (j := 10) rfl rfl) (rz_mem (i := 1) (j := 21) rfl rfl) (rz_mem (i := 11) (j := 11) rfl rfl) ⟨rfl, by decide, by decide, by decide +kernel⟩ rfl rfl ⟨by decide, by decide⟩) rfl dX9_memberName_32 hk) ?_
  refine rz_All_c (i := 20) (fun k J hk hJ => rz_ifne_ok (pc := 35) hx hb dX9_memberName_35 rfl hk (hJ 22)) ?_
  refine rz_All_c (i := 21) (fun k J hk hJ => rz_no_ok) ?_
  refine rz_All_c (i := 22) (fun k J hk hJ => rz_aload_n_ok (pc := 40) hx hb dX9_memberName_40 rfl hk) ?_
  refine rz_All_c (i := 23) (fun k J hk hJ => rz_getf_ok (pc := 41) (own := RX9) (ref := "ThreadJudge$Reader") (C := RX9) (T := TX9) (N := 19) (ci := 11) (index := 37) (f := 0) (t := 2) (Ts := Cond.code yX9_memberName cX9_memberName 2 (some .boolean) :: rz_TB) hx hb hts rz_in11 ho hK rfl (by decide) rfl (fun _ => rfl) (hw (i := 9) (j := 16) rfl rfl) (fun _ z => z) dX9_memberName_41 hk) ?_
  refine rz_All_c (i := 24) (fun k J hk hJ => rz_getf_ok (pc := 44) (own := RX9) (ref := "ThreadJudge$Program") (C := RX7) (T := TX7) (N := 22) (ci := 9) (index := 211) (f := 14) (t := 2) (Ts := Cond.code yX9_memberName cX9_memberName 2 (some .boolean) :: rz_TB) hx hb hts rz_in9 ho hK rfl (by decide) rfl (fun _ => rfl) (hw (i := 9) (j := 18) rfl rfl) (fun _ z => z) dX9_memberName_44 hk) ?_
  refine rz_All_c (i := 25) (fun k J hk hJ => rz_iconst_ok (pc := 47) hx hb dX9_memberName_47 rfl hk) ?_
  refine rz_All_c (i := 26) (fun k J hk hJ => rz_aald_ok (pc := 48) hx hb hK dX9_memberName_48 hk) ?_
  refine rz_All_c (i := 27) (fun k J hk hJ => rz_iload_n_ok (pc := 49) hx hb dX9_memberName_49 rfl hk) ?_
  refine rz_All_c (i := 28) (fun k J hk hJ => rz_aload_n_ok (pc := 50) hx hb dX9_memberName_50 rfl hk) ?_
  refine rz_All_c (i := 29) (fun k J hk hJ => rz_callV_ok (pc := 51) (own := RX9) (C := RX9) (T0 := TX9) (N0 := 19) hC rfl (rmX9_takeName l hG) (rz_cwV 0 hC rz_good (rz_mem (i := 11) (j := 0) rfl rfl) (rz_mem (i := 11) (j := 1) rfl rfl) (rz_mem (i := 11) (j := 2) rfl rfl) (rz_mem (i := 1) (j := 21) rfl rfl) (rz_mem (i := 11) (j := 3) rfl rfl) ⟨rfl, by decide, by decide, by decide +kernel⟩ rfl rfl ⟨by decide, by decide⟩) rfl dX9_memberName_51 hk) ?_
  refine rz_All_c (i := 30) (fun k J hk hJ => rz_iast_ok (pc := 54) hx hb hK hA dX9_memberName_54 hk) ?_
  refine rz_All_c (i := 31) (fun k J hk hJ => rz_aload_n_ok (pc := 55) hx hb dX9_memberName_55 rfl hk) ?_
  refine rz_All_c (i := 32) (fun k J hk hJ => rz_getf_ok (pc := 56) (own := RX9) (ref := "ThreadJudge$Reader") (C := RX9) (T := TX9) (N := 19) (ci := 11) (index := 37) (f := 0) (t := 2) (Ts := Cond.code yX9_memberName cX9_memberName 2 (some .boolean) :: rz_TB) hx hb hts rz_in11 ho hK rfl (by decide) rfl (fun _ => rfl) (hw (i := 9) (j := 16) rfl rfl) (fun _ z => z) dX9_memberName_56 hk) ?_
  refine rz_All_c (i := 33) (fun k J hk hJ => rz_getf_ok (pc := 59) (own := RX9) (ref := "ThreadJudge$Program") (C := RX7) (T := TX7) (N := 22) (ci := 9) (index := 211) (f := 14) (t := 2) (Ts := Cond.code yX9_memberName cX9_memberName 2 (some .boolean) :: rz_TB) hx hb hts rz_in9 ho hK rfl (by decide) rfl (fun _ => rfl) (hw (i := 9) (j := 18) rfl rfl) (fun _ z => z) dX9_memberName_59 hk) ?_
  refine rz_All_c (i := 34) (fun k J hk hJ => rz_iconst_ok (pc := 62) hx hb dX9_memberName_62 rfl hk) ?_
  refine rz_All_c (i := 35) (fun k J hk hJ => rz_aald_ok (pc := 63) hx hb hK dX9_memberName_63 hk) ?_
  refine rz_All_c (i := 36) (fun k J hk hJ => rz_iload_n_ok (pc := 64) hx hb dX9_memberName_64 rfl hk) ?_
  refine rz_All_c (i := 37) (fun k J hk hJ => rz_iald_ok (pc := 65) hx hb hK dX9_memberName_65 hk) ?_
  refine rz_All_c (i := 38) (fun k J hk hJ => rz_iflt_ok (pc := 66) hx hb dX9_memberName_66 rfl hk (hJ 41)) ?_
  refine rz_All_c (i := 39) (fun k J hk hJ => rz_iconst_ok (pc := 69) hx hb dX9_memberName_69 rfl hk) ?_
  refine rz_All_c (i := 40) (fun k J hk hJ => rz_goto_ok (pc := 70) hx hb dX9_memberName_70 rfl (hJ 42)) ?_
  refine rz_All_c (i := 41) (fun k J hk hJ => rz_no_ok) ?_
  refine rz_All_c (i := 42) (fun k J hk hJ => rz_zret_ok (pc := 74) hC dX9_memberName_74) ?_
  exact trivial
theorem dX9_methodName_0 : decode cX9_methodName 0 = .ok (.aload_n 0, 1) := by decide +kernel
theorem dX9_methodName_1 : decode cX9_methodName 1 = .ok (.getfield 37, 3) := by decide +kernel
theorem dX9_methodName_4 : decode cX9_methodName 4 = .ok (.getfield 211, 3) := by decide +kernel
theorem dX9_methodName_7 : decode cX9_methodName 7 = .ok (.bipush 6, 2) := by decide +kernel
theorem dX9_methodName_9 : decode cX9_methodName 9 = .ok (.aaload, 1) := by decide +kernel
theorem dX9_methodName_10 : decode cX9_methodName 10 = .ok (.iload_n 1, 1) := by decide +kernel
theorem dX9_methodName_11 : decode cX9_methodName 11 = .ok (.aload_n 0, 1) := by decide +kernel
theorem dX9_methodName_12 : decode cX9_methodName 12 = .ok (.invokevirtual 273, 3) := by decide +kernel
theorem dX9_methodName_15 : decode cX9_methodName 15 = .ok (.iastore, 1) := by decide +kernel
theorem dX9_methodName_16 : decode cX9_methodName 16 = .ok (.aload_n 0, 1) := by decide +kernel
theorem dX9_methodName_17 : decode cX9_methodName 17 = .ok (.getfield 37, 3) := by decide +kernel
theorem dX9_methodName_20 : decode cX9_methodName 20 = .ok (.getfield 211, 3) := by decide +kernel
theorem dX9_methodName_23 : decode cX9_methodName 23 = .ok (.bipush 6, 2) := by decide +kernel
theorem dX9_methodName_25 : decode cX9_methodName 25 = .ok (.aaload, 1) := by decide +kernel
theorem dX9_methodName_26 : decode cX9_methodName 26 = .ok (.iload_n 1, 1) := by decide +kernel
theorem dX9_methodName_27 : decode cX9_methodName 27 = .ok (.iaload, 1) := by decide +kernel
theorem dX9_methodName_28 : decode cX9_methodName 28 = .ok (.ifCond .lt 11, 3) := by decide +kernel
theorem dX9_methodName_31 : decode cX9_methodName 31 = .ok (.aload_n 0, 1) := by decide +kernel
theorem dX9_methodName_32 : decode cX9_methodName 32 = .ok (.iload_n 1, 1) := by decide +kernel
theorem dX9_methodName_33 : decode cX9_methodName 33 = .ok (.invokevirtual 323, 3) := by decide +kernel
theorem dX9_methodName_36 : decode cX9_methodName 36 = .ok (.ifCond .ne 5, 3) := by decide +kernel
theorem dX9_methodName_41 : decode cX9_methodName 41 = .ok (.aload_n 0, 1) := by decide +kernel
theorem dX9_methodName_42 : decode cX9_methodName 42 = .ok (.getfield 37, 3) := by decide +kernel
theorem dX9_methodName_45 : decode cX9_methodName 45 = .ok (.getfield 211, 3) := by decide +kernel
theorem dX9_methodName_48 : decode cX9_methodName 48 = .ok (.bipush 7, 2) := by decide +kernel
theorem dX9_methodName_50 : decode cX9_methodName 50 = .ok (.aaload, 1) := by decide +kernel
theorem dX9_methodName_51 : decode cX9_methodName 51 = .ok (.iload_n 1, 1) := by decide +kernel
theorem dX9_methodName_52 : decode cX9_methodName 52 = .ok (.aload_n 0, 1) := by decide +kernel
theorem dX9_methodName_53 : decode cX9_methodName 53 = .ok (.aload_n 0, 1) := by decide +kernel
theorem dX9_methodName_54 : decode cX9_methodName 54 = .ok (.getfield 37, 3) := by decide +kernel
theorem dX9_methodName_57 : decode cX9_methodName 57 = .ok (.getfield 339, 3) := by decide +kernel
theorem dX9_methodName_60 : decode cX9_methodName 60 = .ok (.iload_n 1, 1) := by decide +kernel
theorem dX9_methodName_61 : decode cX9_methodName 61 = .ok (.bipush 6, 2) := by decide +kernel
theorem dX9_methodName_63 : decode cX9_methodName 63 = .ok (.imul, 1) := by decide +kernel
theorem dX9_methodName_64 : decode cX9_methodName 64 = .ok (.invokevirtual 294, 3) := by decide +kernel
theorem dX9_methodName_67 : decode cX9_methodName 67 = .ok (.iastore, 1) := by decide +kernel
theorem dX9_methodName_68 : decode cX9_methodName 68 = .ok (.aload_n 0, 1) := by decide +kernel
theorem dX9_methodName_69 : decode cX9_methodName 69 = .ok (.getfield 37, 3) := by decide +kernel
theorem dX9_methodName_72 : decode cX9_methodName 72 = .ok (.getfield 211, 3) := by decide +kernel
theorem dX9_methodName_75 : decode cX9_methodName 75 = .ok (.bipush 7, 2) := by decide +kernel
theorem dX9_methodName_77 : decode cX9_methodName 77 = .ok (.aaload, 1) := by decide +kernel
theorem dX9_methodName_78 : decode cX9_methodName 78 = .ok (.iload_n 1, 1) := by decide +kernel
theorem dX9_methodName_79 : decode cX9_methodName 79 = .ok (.iaload, 1) := by decide +kernel
theorem dX9_methodName_80 : decode cX9_methodName 80 = .ok (.ifCond .lt 7, 3) := by decide +kernel
theorem dX9_methodName_83 : decode cX9_methodName 83 = .ok (.iconst 1, 1) := by decide +kernel
theorem dX9_methodName_84 : decode cX9_methodName 84 = .ok (.goto 4, 3) := by decide +kernel
theorem dX9_methodName_88 : decode cX9_methodName 88 = .ok (.ireturn, 1) := by decide +kernel
def rpX9_methodName : List Nat := [0, 1, 4, 7, 9, 10, 11, 12, 15, 16, 17, 20, 23, 25, 26, 27, 28, 31, 32, 33, 36, 39, 41, 42, 45, 48, 50, 51, 52, 53, 54, 57, 60, 61, 63, 64, 67, 68, 69, 72, 75, 77, 78, 79, 80, 83, 84, 87, 88]
noncomputable def rcX9_methodName : List rz_B := [rz_aload 0, rz_getf (Nat.add (Nat.mul 256 11) 1) 0 rz_r, rz_getf (Nat.add (Nat.mul 256 9) 1) 14 rz_r, rz_cst 6, rz_aald, rz_iload 1, rz_aload 0, rz_callV 0 (Nat.add (Nat.mul 256 11) 1) rgX9_rawType, rz_iast, rz_aload 0, rz_getf (Nat.add (Nat.mul 256 11) 1) 0 rz_r, rz_getf (Nat.add (Nat.mul 256 9) 1) 14 rz_r, rz_cst 6, rz_aald, rz_iload 1, rz_iald, rz_iflt 21, rz_aload 0, rz_iload 1, rz_callV 1 (Nat.add (Nat.mul 256 11) 1) rgX9_memberName, rz_ifne 22, rz_no, rz_aload 0, rz_getf (Nat.add (Nat.mul 256 11) 1) 0 rz_r, rz_getf (Nat.add (Nat.mul 256 9) 1) 14 rz_r, rz_cst 7, rz_aald, rz_iload 1, rz_aload 0, rz_aload 0, rz_getf (Nat.add (Nat.mul 256 11) 1) 0 rz_r, rz_getf (Nat.add (Nat.mul 256 9) 1) 15 rz_r, rz_iload 1, rz_cst 6, rz_imul, rz_callV 2 (Nat.add (Nat.mul 256 11) 1) rgX9_types, rz_iast, rz_aload 0, rz_getf (Nat.add (Nat.mul 256 11) 1) 0 rz_r, rz_getf (Nat.add (Nat.mul 256 9) 1) 14 rz_r, rz_cst 7, rz_aald, rz_iload 1, rz_iald, rz_iflt 47, rz_cst 1, rz_goto 48, rz_no, rz_zret]
noncomputable def rgX9_methodName : rz_L → rz_M → rz_Z → Bool := rz_go rcX9_methodName 2 1000000
def rrX9_methodName : Room := { frames := 3, cells := 0, slots := 0, locals := 65 }
theorem rmX9_methodName (l : Launch) {G : rz_G} (hG : rz_Gd G) (vs : rz_L) (M : rz_M) (Z : rz_Z) (hn : vs.length = 2) (h : rgX9_methodName vs M Z = true) : Met l yX9_methodName (Cond.code yX9_methodName cX9_methodName 2 (some .boolean) :: rz_TB) rrX9_methodName (rz_Pre G vs M) (rz_Qi G M.2 Z) 0 0 (fun q => rz_b G ≤ q) := by
  obtain ⟨D, tc, ad, b, xs, rfl⟩ := id hG
  refine rz_body (pcs := rpX9_methodName) (by decide) rfl (by rw [hn]; decide) h ?_
  intro p e R s m args below meth c hC
  obtain ⟨hx, hb, hml, hr, hlk, ho, hts, hKn, hRm⟩ := id hC
  obtain ⟨hK, hA, hSt⟩ := id hKn
  have hw : ∀ {i j : Nat} {ws : List Cond} {w : Cond}, rz_WW[i]? = some ws → ws[j]? = some w → w.before args s = true := fun h1 h2 => hts _ (List.mem_cons_of_mem _ (rz_mem h1 h2))
  refine rz_All_c (i := 0) (fun k J hk hJ => rz_aload_n_ok (pc := 0) hx hb dX9_methodName_0 rfl hk) ?_
  refine rz_All_c (i := 1) (fun k J hk hJ => rz_getf_ok (pc := 1) (own := RX9) (ref := "ThreadJudge$Reader") (C := RX9) (T := TX9) (N := 19) (ci := 11) (index := 37) (f := 0) (t := 2) (Ts := Cond.code yX9_methodName cX9_methodName 2 (some .boolean) :: rz_TB) hx hb hts rz_in11 ho hK rfl (by decide) rfl (fun _ => rfl) (hw (i := 9) (j := 16) rfl rfl) (fun _ z => z) dX9_methodName_1 hk) ?_
  refine rz_All_c (i := 2) (fun k J hk hJ => rz_getf_ok (pc := 4) (own := RX9) (ref := "ThreadJudge$Program") (C := RX7) (T := TX7) (N := 22) (ci := 9) (index := 211) (f := 14) (t := 2) (Ts := Cond.code yX9_methodName cX9_methodName 2 (some .boolean) :: rz_TB) hx hb hts rz_in9 ho hK rfl (by decide) rfl (fun _ => rfl) (hw (i := 9) (j := 18) rfl rfl) (fun _ z => z) dX9_methodName_4 hk) ?_
  refine rz_All_c (i := 3) (fun k J hk hJ => rz_bipush_ok (pc := 7) hx hb dX9_methodName_7 (by decide) hk) ?_
  refine rz_All_c (i := 4) (fun k J hk hJ => rz_aald_ok (pc := 9) hx hb hK dX9_methodName_9 hk) ?_
  refine rz_All_c (i := 5) (fun k J hk hJ => rz_iload_n_ok (pc := 10) hx hb dX9_methodName_10 rfl hk) ?_
  refine rz_All_c (i := 6) (fun k J hk hJ => rz_aload_n_ok (pc := 11) hx hb dX9_methodName_11 rfl hk) ?_
  refine rz_All_c (i := 7) (fun k J hk hJ => rz_callV_ok (pc := 12) (own := RX9) (C := RX9) (T0 := TX9) (N0 := 19) hC rfl (rmX9_rawType l hG) (rz_cwV 0 hC rz_good (rz_mem (i := 12) (j := 2) rfl rfl) (rz_mem (i := 12) (j := 3) rfl rfl) (rz_mem (i := 12) (j := 4) rfl rfl) (rz_mem (i := 1) (j := 21) rfl rfl) (rz_mem (i := 12) (j := 5) rfl rfl) ⟨rfl, by decide, by decide, by decide +kernel⟩ rfl rfl ⟨by decide, by decide⟩) rfl dX9_methodName_12 hk) ?_
  refine rz_All_c (i := 8) (fun k J hk hJ => rz_iast_ok (pc := 15) hx hb hK hA dX9_methodName_15 hk) ?_
  refine rz_All_c (i := 9) (fun k J hk hJ => rz_aload_n_ok (pc := 16) hx hb dX9_methodName_16 rfl hk) ?_
  refine rz_All_c (i := 10) (fun k J hk hJ => rz_getf_ok (pc := 17) (own := RX9) (ref := "ThreadJudge$Reader") (C := RX9) (T := TX9) (N := 19) (ci := 11) (index := 37) (f := 0) (t := 2) (Ts := Cond.code yX9_methodName cX9_methodName 2 (some .boolean) :: rz_TB) hx hb hts rz_in11 ho hK rfl (by decide) rfl (fun _ => rfl) (hw (i := 9) (j := 16) rfl rfl) (fun _ z => z) dX9_methodName_17 hk) ?_
  refine rz_All_c (i := 11) (fun k J hk hJ => rz_getf_ok (pc := 20) (own := RX9) (ref := "ThreadJudge$Program") (C := RX7) (T := TX7) (N := 22) (ci := 9) (index := 211) (f := 14) (t := 2) (Ts := Cond.code yX9_methodName cX9_methodName 2 (some .boolean) :: rz_TB) hx hb hts rz_in9 ho hK rfl (by decide) rfl (fun _ => rfl) (hw (i := 9) (j := 18) rfl rfl) (fun _ z => z) dX9_methodName_20 hk) ?_
  refine rz_All_c (i := 12) (fun k J hk hJ => rz_bipush_ok (pc := 23) hx hb dX9_methodName_23 (by decide) hk) ?_
  refine rz_All_c (i := 13) (fun k J hk hJ => rz_aald_ok (pc := 25) hx hb hK dX9_methodName_25 hk) ?_
  refine rz_All_c (i := 14) (fun k J hk hJ => rz_iload_n_ok (pc := 26) hx hb dX9_methodName_26 rfl hk) ?_
  refine rz_All_c (i := 15) (fun k J hk hJ => rz_iald_ok (pc := 27) hx hb hK dX9_methodName_27 hk) ?_
  refine rz_All_c (i := 16) (fun k J hk hJ => rz_iflt_ok (pc := 28) hx hb dX9_methodName_28 rfl hk (hJ 21)) ?_
  refine rz_All_c (i := 17) (fun k J hk hJ => rz_aload_n_ok (pc := 31) hx hb dX9_methodName_31 rfl hk) ?_
  refine rz_All_c (i := 18) (fun k J hk hJ => rz_iload_n_ok (pc := 32) hx hb dX9_methodName_32 rfl hk) ?_
  refine rz_All_c (i := 19) (fun k J hk hJ => rz_callV_ok (pc := 33) (own := RX9) (C := RX9) (T0 := TX9) (N0 := 19) hC rfl (rmX9_memberName l hG) (rz_cwV 1 hC rz_good (rz_mem (i := 15) (j := 7) rfl rfl) (rz_mem (i := 15) (j := 8) rfl rfl) (rz_mem (i := 15) (j := 9) rfl rfl) (rz_mem (i := 1) (j := 21) rfl rfl) (rz_mem (i := 15) (j := 10) rfl rfl) ⟨rfl, by decide, by decide, by decide +kernel⟩ rfl rfl ⟨by decide, by decide⟩) rfl dX9_methodName_33 hk) ?_
  refine rz_All_c (i := 20) (fun k J hk hJ => rz_ifne_ok (pc := 36) hx hb dX9_methodName_36 rfl hk (hJ 22)) ?_
  refine rz_All_c (i := 21) (fun k J hk hJ => rz_no_ok) ?_
  refine rz_All_c (i := 22) (fun k J hk hJ => rz_aload_n_ok (pc := 41) hx hb dX9_methodName_41 rfl hk) ?_
  refine rz_All_c (i := 23) (fun k J hk hJ => rz_getf_ok (pc := 42) (own := RX9) (ref := "ThreadJudge$Reader") (C := RX9) (T := TX9) (N := 19) (ci := 11) (index := 37) (f := 0) (t := 2) (Ts := Cond.code yX9_methodName cX9_methodName 2 (some .boolean) :: rz_TB) hx hb hts rz_in11 ho hK rfl (by decide) rfl (fun _ => rfl) (hw (i := 9) (j := 16) rfl rfl) (fun _ z => z) dX9_methodName_42 hk) ?_
  refine rz_All_c (i := 24) (fun k J hk hJ => rz_getf_ok (pc := 45) (own := RX9) (ref := "ThreadJudge$Program") (C := RX7) (T := TX7) (N := 22) (ci := 9) (index := 211) (f := 14) (t := 2) (Ts := Cond.code yX9_methodName cX9_methodName 2 (some .boolean) :: rz_TB) hx hb hts rz_in9 ho hK rfl (by decide) rfl (fun _ => rfl) (hw (i := 9) (j := 18) rfl rfl) (fun _ z => z) dX9_methodName_45 hk) ?_
  refine rz_All_c (i := 25) (fun k J hk hJ => rz_bipush_ok (pc := 48) hx hb dX9_methodName_48 (by decide) hk) ?_
  refine rz_All_c (i := 26) (fun k J hk hJ => rz_aald_ok (pc := 50) hx hb hK dX9_methodName_50 hk) ?_
  refine rz_All_c (i := 27) (fun k J hk hJ => rz_iload_n_ok (pc := 51) hx hb dX9_methodName_51 rfl hk) ?_
  refine rz_All_c (i := 28) (fun k J hk hJ => rz_aload_n_ok (pc := 52) hx hb dX9_methodName_52 rfl hk) ?_
  refine rz_All_c (i := 29) (fun k J hk hJ => rz_aload_n_ok (pc := 53) hx hb dX9_methodName_53 rfl hk) ?_
  refine rz_All_c (i := 30) (fun k J hk hJ => rz_getf_ok (pc := 54) (own := RX9) (ref := "ThreadJudge$Reader") (C := RX9) (T := TX9) (N := 19) (ci := 11) (index := 37) (f := 0) (t := 2) (Ts := Cond.code yX9_methodName cX9_methodName 2 (some .boolean) :: rz_TB) hx hb hts rz_in11 ho hK rfl (by decide) rfl (fun _ => rfl) (hw (i := 9) (j := 16) rfl rfl) (fun _ z => z) dX9_methodName_54 hk) ?_
  refine rz_All_c (i := 31) (fun k J hk hJ => rz_getf_ok (pc := 57) (own := RX9) (ref := "ThreadJudge$Program") (C := RX7) (T := TX7) (N := 22) (ci := 9) (index := 339) (f := 15) (t := 2) (Ts := Cond.code yX9_methodName cX9_methodName 2 (some .boolean) :: rz_TB) hx hb hts rz_in9 ho hK rfl (by decide) rfl (fun _ => rfl) (hw (i := 15) (j := 15) rfl rfl) (fun _ z => z) dX9_methodName_57 hk) ?_
  refine rz_All_c (i := 32) (fun k J hk hJ => rz_iload_n_ok (pc := 60) hx hb dX9_methodName_60 rfl hk) ?_
  refine rz_All_c (i := 33) (fun k J hk hJ => rz_bipush_ok (pc := 61) hx hb dX9_methodName_61 (by decide) hk) ?_
  refine rz_All_c (i := 34) (fun k J hk hJ => rz_imul_ok (pc := 63) hx hb dX9_methodName_63 hk) ?_
  refine rz_All_c (i := 35) (fun k J hk hJ => rz_callV_ok (pc := 64) (own := RX9) (C := RX9) (T0 := TX9) (N0 := 19) hC rfl (rmX9_types l hG) (rz_cwV 2 hC rz_good (rz_mem (i := 12) (j := 18) rfl rfl) (rz_mem (i := 12) (j := 19) rfl rfl) (rz_mem (i := 12) (j := 20) rfl rfl) (rz_mem (i := 1) (j := 21) rfl rfl) (rz_mem (i := 12) (j := 21) rfl rfl) ⟨rfl, by decide, by decide, by decide +kernel⟩ rfl rfl ⟨by decide, by decide⟩) rfl dX9_methodName_64 hk) ?_
  refine rz_All_c (i := 36) (fun k J hk hJ => rz_iast_ok (pc := 67) hx hb hK hA dX9_methodName_67 hk) ?_
  refine rz_All_c (i := 37) (fun k J hk hJ => rz_aload_n_ok (pc := 68) hx hb dX9_methodName_68 rfl hk) ?_
  refine rz_All_c (i := 38) (fun k J hk hJ => rz_getf_ok (pc := 69) (own := RX9) (ref := "ThreadJudge$Reader") (C := RX9) (T := TX9) (N := 19) (ci := 11) (index := 37) (f := 0) (t := 2) (Ts := Cond.code yX9_methodName cX9_methodName 2 (some .boolean) :: rz_TB) hx hb hts rz_in11 ho hK rfl (by decide) rfl (fun _ => rfl) (hw (i := 9) (j := 16) rfl rfl) (fun _ z => z) dX9_methodName_69 hk) ?_
  refine rz_All_c (i := 39) (fun k J hk hJ => rz_getf_ok (pc := 72) (own := RX9) (ref := "ThreadJudge$Program") (C := RX7) (T := TX7) (N := 22) (ci := 9) (index := 211) (f := 14) (t := 2) (Ts := Cond.code yX9_methodName cX9_methodName 2 (some .boolean) :: rz_TB) hx hb hts rz_in9 ho hK rfl (by decide) rfl (fun _ => rfl) (hw (i := 9) (j := 18) rfl rfl) (fun _ z => z) dX9_methodName_72 hk) ?_
  refine rz_All_c (i := 40) (fun k J hk hJ => rz_bipush_ok (pc := 75) hx hb dX9_methodName_75 (by decide) hk) ?_
  refine rz_All_c (i := 41) (fun k J hk hJ => rz_aald_ok (pc := 77) hx hb hK dX9_methodName_77 hk) ?_
  refine rz_All_c (i := 42) (fun k J hk hJ => rz_iload_n_ok (pc := 78) hx hb dX9_methodName_78 rfl hk) ?_
  refine rz_All_c (i := 43) (fun k J hk hJ => rz_iald_ok (pc := 79) hx hb hK dX9_methodName_79 hk) ?_
  refine rz_All_c (i := 44) (fun k J hk hJ => rz_iflt_ok (pc := 80) hx hb dX9_methodName_80 rfl hk (hJ 47)) ?_
  refine rz_All_c (i := 45) (fun k J hk hJ => rz_iconst_ok (pc := 83) hx hb dX9_methodName_83 rfl hk) ?_
  refine rz_All_c (i := 46) (fun k J hk hJ => rz_goto_ok (pc := 84) hx hb dX9_methodName_84 rfl (hJ 48)) ?_
  refine rz_All_c (i := 47) (fun k J hk hJ => rz_no_ok) ?_
  refine rz_All_c (i := 48) (fun k J hk hJ => rz_zret_ok (pc := 88) hC dX9_methodName_88) ?_
  exact trivial
theorem dX9_number_0 : decode cX9_number 0 = .ok (.aload_n 0, 1) := by decide +kernel
theorem dX9_number_1 : decode cX9_number 1 = .ok (.getfield 28, 3) := by decide +kernel
theorem dX9_number_4 : decode cX9_number 4 = .ok (.aload_n 0, 1) := by decide +kernel
theorem dX9_number_5 : decode cX9_number 5 = .ok (.getfield 187, 3) := by decide +kernel
theorem dX9_number_8 : decode cX9_number 8 = .ok (.iaload, 1) := by decide +kernel
theorem dX9_number_9 : decode cX9_number 9 = .ok (.iconst 2, 1) := by decide +kernel
theorem dX9_number_10 : decode cX9_number 10 = .ok (.if_icmp .eq 5, 3) := by decide +kernel
theorem dX9_number_15 : decode cX9_number 15 = .ok (.aload_n 0, 1) := by decide +kernel
theorem dX9_number_16 : decode cX9_number 16 = .ok (.getfield 37, 3) := by decide +kernel
theorem dX9_number_19 : decode cX9_number 19 = .ok (.getfield 211, 3) := by decide +kernel
theorem dX9_number_22 : decode cX9_number 22 = .ok (.iload_n 2, 1) := by decide +kernel
theorem dX9_number_23 : decode cX9_number 23 = .ok (.aaload, 1) := by decide +kernel
theorem dX9_number_24 : decode cX9_number 24 = .ok (.iload_n 1, 1) := by decide +kernel
theorem dX9_number_25 : decode cX9_number 25 = .ok (.aload_n 0, 1) := by decide +kernel
theorem dX9_number_26 : decode cX9_number 26 = .ok (.getfield 34, 3) := by decide +kernel
theorem dX9_number_29 : decode cX9_number 29 = .ok (.aload_n 0, 1) := by decide +kernel
theorem dX9_number_30 : decode cX9_number 30 = .ok (.getfield 187, 3) := by decide +kernel
theorem dX9_number_33 : decode cX9_number 33 = .ok (.iaload, 1) := by decide +kernel
theorem dX9_number_34 : decode cX9_number 34 = .ok (.iastore, 1) := by decide +kernel
theorem dX9_number_35 : decode cX9_number 35 = .ok (.aload_n 0, 1) := by decide +kernel
theorem dX9_number_36 : decode cX9_number 36 = .ok (.getfield 37, 3) := by decide +kernel
theorem dX9_number_39 : decode cX9_number 39 = .ok (.getfield 211, 3) := by decide +kernel
theorem dX9_number_42 : decode cX9_number 42 = .ok (.bipush 8, 2) := by decide +kernel
theorem dX9_number_44 : decode cX9_number 44 = .ok (.aaload, 1) := by decide +kernel
theorem dX9_number_45 : decode cX9_number 45 = .ok (.iload_n 1, 1) := by decide +kernel
theorem dX9_number_46 : decode cX9_number 46 = .ok (.aload_n 0, 1) := by decide +kernel
theorem dX9_number_47 : decode cX9_number 47 = .ok (.getfield 37, 3) := by decide +kernel
theorem dX9_number_50 : decode cX9_number 50 = .ok (.getfield 211, 3) := by decide +kernel
theorem dX9_number_53 : decode cX9_number 53 = .ok (.iconst 3, 1) := by decide +kernel
theorem dX9_number_54 : decode cX9_number 54 = .ok (.aaload, 1) := by decide +kernel
theorem dX9_number_55 : decode cX9_number 55 = .ok (.iload_n 1, 1) := by decide +kernel
theorem dX9_number_56 : decode cX9_number 56 = .ok (.iaload, 1) := by decide +kernel
theorem dX9_number_57 : decode cX9_number 57 = .ok (.iastore, 1) := by decide +kernel
theorem dX9_number_58 : decode cX9_number 58 = .ok (.aload_n 0, 1) := by decide +kernel
theorem dX9_number_59 : decode cX9_number 59 = .ok (.dup, 1) := by decide +kernel
theorem dX9_number_60 : decode cX9_number 60 = .ok (.getfield 187, 3) := by decide +kernel
theorem dX9_number_63 : decode cX9_number 63 = .ok (.iconst 1, 1) := by decide +kernel
theorem dX9_number_64 : decode cX9_number 64 = .ok (.iadd, 1) := by decide +kernel
theorem dX9_number_65 : decode cX9_number 65 = .ok (.putfield 187, 3) := by decide +kernel
theorem dX9_number_68 : decode cX9_number 68 = .ok (.iconst 1, 1) := by decide +kernel
theorem dX9_number_69 : decode cX9_number 69 = .ok (.ireturn, 1) := by decide +kernel
def rpX9_number : List Nat := [0, 1, 4, 5, 8, 9, 10, 13, 15, 16, 19, 22, 23, 24, 25, 26, 29, 30, 33, 34, 35, 36, 39, 42, 44, 45, 46, 47, 50, 53, 54, 55, 56, 57, 58, 59, 60, 63, 64, 65, 68, 69]
noncomputable def rcX9_number : List rz_B := [rz_aload 0, rz_getf (Nat.add (Nat.mul 256 11) 1) 11 rz_r, rz_aload 0, rz_getf (Nat.add (Nat.mul 256 11) 1) 15 rz_i, rz_iald, rz_cst 2, rz_icmpeq 8, rz_no, rz_aload 0, rz_getf (Nat.add (Nat.mul 256 11) 1) 0 rz_r, rz_getf (Nat.add (Nat.mul 256 9) 1) 14 rz_r, rz_iload 2, rz_aald, rz_iload 1, rz_aload 0, rz_getf (Nat.add (Nat.mul 256 11) 1) 13 rz_r, rz_aload 0, rz_getf (Nat.add (Nat.mul 256 11) 1) 15 rz_i, rz_iald, rz_iast, rz_aload 0, rz_getf (Nat.add (Nat.mul 256 11) 1) 0 rz_r, rz_getf (Nat.add (Nat.mul 256 9) 1) 14 rz_r, rz_cst 8, rz_aald, rz_iload 1, rz_aload 0, rz_getf (Nat.add (Nat.mul 256 11) 1) 0 rz_r, rz_getf (Nat.add (Nat.mul 256 9) 1) 14 rz_r, rz_cst 3, rz_aald, rz_iload 1, rz_iald, rz_iast, rz_aload 0, rz_dup, rz_getf (Nat.add (Nat.mul 256 11) 1) 15 rz_i, rz_cst 1, rz_iadd, rz_putf (Nat.add (Nat.mul 256 11) 1) 15 rz_unI, rz_cst 1, rz_zret]
noncomputable def rgX9_number : rz_L → rz_M → rz_Z → Bool := rz_go rcX9_number 3 1000000
def rrX9_number : Room := { frames := 0, cells := 0, slots := 0, locals := 0 }
theorem rmX9_number (l : Launch) {G : rz_G} (hG : rz_Gd G) (vs : rz_L) (M : rz_M) (Z : rz_Z) (hn : vs.length = 3) (h : rgX9_number vs M Z = true) : Met l yX9_number (Cond.code yX9_number cX9_number 3 (some .boolean) :: rz_TB) rrX9_number (rz_Pre G vs M) (rz_Qi G M.2 Z) 0 0 (fun q => rz_b G ≤ q) := by
  obtain ⟨D, tc, ad, b, xs, rfl⟩ := id hG
  refine rz_body (pcs := rpX9_number) (by decide) rfl (by rw [hn]; decide) h ?_
  intro p e R s m args below meth c hC
  obtain ⟨hx, hb, hml, hr, hlk, ho, hts, hKn, hRm⟩ := id hC
  obtain ⟨hK, hA, hSt⟩ := id hKn
  have hw : ∀ {i j : Nat} {ws : List Cond} {w : Cond}, rz_WW[i]? = some ws → ws[j]? = some w → w.before args s = true := fun h1 h2 => hts _ (List.mem_cons_of_mem _ (rz_mem h1 h2))
  refine rz_All_c (i := 0) (fun k J hk hJ => rz_aload_n_ok (pc := 0) hx hb dX9_number_0 rfl hk) ?_
  refine rz_All_c (i := 1) (fun k J hk hJ => rz_getf_ok (pc := 1) (own := RX9) (ref := "ThreadJudge$Reader") (C := RX9) (T := TX9) (N := 19) (ci := 11) (index := 28) (f := 11) (t := 2) (Ts := Cond.code yX9_number cX9_number 3 (some .boolean) :: rz_TB) hx hb hts rz_in11 ho hK rfl (by decide) rfl (fun _ => rfl) (hw (i := 3) (j := 14) rfl rfl) (fun _ z => z) dX9_number_1 hk) ?_
  refine rz_All_c (i := 2) (fun k J hk hJ => rz_aload_n_ok (pc := 4) hx hb dX9_number_4 rfl hk) ?_
  refine rz_All_c (i := 3) (fun k J hk hJ => rz_getf_ok (pc := 5) (own := RX9) (ref := "ThreadJudge$Reader") (C := RX9) (T := TX9) (N := 19) (ci := 11) (index := 187) (f := 15) (t := 0) (Ts := Cond.code yX9_number cX9_number 3 (some .boolean) :: rz_TB) hx hb hts rz_in11 ho hK rfl (by decide) rfl (fun _ => rfl) (hw (i := 3) (j := 11) rfl rfl) (fun _ z => z) dX9_number_5 hk) ?_
  refine rz_All_c (i := 4) (fun k J hk hJ => rz_iald_ok (pc := 8) hx hb hK dX9_number_8 hk) ?_
  refine rz_All_c (i := 5) (fun k J hk hJ => rz_iconst_ok (pc := 9) hx hb dX9_number_9 rfl hk) ?_
  refine rz_All_c (i := 6) (fun k J hk hJ => rz_icmpeq_ok (pc := 10) hx hb dX9_number_10 rfl hk (hJ 8)) ?_
  refine rz_All_c (i := 7) (fun k J hk hJ => rz_no_ok) ?_
  refine rz_All_c (i := 8) (fun k J hk hJ => rz_aload_n_ok (pc := 15) hx hb dX9_number_15 rfl hk) ?_
  refine rz_All_c (i := 9) (fun k J hk hJ => rz_getf_ok (pc := 16) (own := RX9) (ref := "ThreadJudge$Reader") (C := RX9) (T := TX9) (N := 19) (ci := 11) (index := 37) (f := 0) (t := 2) (Ts := Cond.code yX9_number cX9_number 3 (some .boolean) :: rz_TB) hx hb hts rz_in11 ho hK rfl (by decide) rfl (fun _ => rfl) (hw (i := 9) (j := 16) rfl rfl) (fun _ z => z) dX9_number_16 hk) ?_
  refine rz_All_c (i := 10) (fun k J hk hJ => rz_getf_ok (pc := 19) (own := RX9) (ref := "ThreadJudge$Program") (C := RX7) (T := TX7) (N := 22) (ci := 9) (index := 211) (f := 14) (t := 2) (Ts := Cond.code yX9_number cX9_number 3 (some .boolean) :: rz_TB) hx hb hts rz_in9 ho hK rfl (by decide) rfl (fun _ => rfl) (hw (i := 9) (j := 18) rfl rfl) (fun _ z => z) dX9_number_19 hk) ?_
  refine rz_All_c (i := 11) (fun k J hk hJ => rz_iload_n_ok (pc := 22) hx hb dX9_number_22 rfl hk) ?_
  refine rz_All_c (i := 12) (fun k J hk hJ => rz_aald_ok (pc := 23) hx hb hK dX9_number_23 hk) ?_
  refine rz_All_c (i := 13) (fun k J hk hJ => rz_iload_n_ok (pc := 24) hx hb dX9_number_24 rfl hk) ?_
  refine rz_All_c (i := 14) (fun k J hk hJ => rz_aload_n_ok (pc := 25) hx hb dX9_number_25 rfl hk) ?_
  refine rz_All_c (i := 15) (fun k J hk hJ => rz_getf_ok (pc := 26) (own := RX9) (ref := "ThreadJudge$Reader") (C := RX9) (T := TX9) (N := 19) (ci := 11) (index := 34) (f := 13) (t := 2) (Ts := Cond.code yX9_number cX9_number 3 (some .boolean) :: rz_TB) hx hb hts rz_in11 ho hK rfl (by decide) rfl (fun _ => rfl) (hw (i := 5) (j := 2) rfl rfl) (fun _ z => z) dX9_number_26 hk) ?_
  refine rz_All_c (i := 16) (fun k J hk hJ => rz_aload_n_ok (pc := 29) hx hb dX9_number_29 rfl hk) ?_
  refine rz_All_c (i := 17) (fun k J hk hJ => rz_getf_ok (pc := 30) (own := RX9) (ref := "ThreadJudge$Reader") (C := RX9) (T := TX9) (N := 19) (ci := 11) (index := 187) (f := 15) (t := 0) (Ts := Cond.code yX9_number cX9_number 3 (some .boolean) :: rz_TB) hx hb hts rz_in11 ho hK rfl (by decide) rfl (fun _ => rfl) (hw (i := 3) (j := 11) rfl rfl) (fun _ z => z) dX9_number_30 hk) ?_
  refine rz_All_c (i := 18) (fun k J hk hJ => rz_iald_ok (pc := 33) hx hb hK dX9_number_33 hk) ?_
  refine rz_All_c (i := 19) (fun k J hk hJ => rz_iast_ok (pc := 34) hx hb hK hA dX9_number_34 hk) ?_
  refine rz_All_c (i := 20) (fun k J hk hJ => rz_aload_n_ok (pc := 35) hx hb dX9_number_35 rfl hk) ?_
  refine rz_All_c (i := 21) (fun k J hk hJ => rz_getf_ok (pc := 36) (own := RX9) (ref := "ThreadJudge$Reader") (C := RX9) (T := TX9) (N := 19) (ci := 11) (index := 37) (f := 0) (t := 2) (Ts := Cond.code yX9_number cX9_number 3 (some .boolean) :: rz_TB) hx hb hts rz_in11 ho hK rfl (by decide) rfl (fun _ => rfl) (hw (i := 9) (j := 16) rfl rfl) (fun _ z => z) dX9_number_36 hk) ?_
  refine rz_All_c (i := 22) (fun k J hk hJ => rz_getf_ok (pc := 39) (own := RX9) (ref := "ThreadJudge$Program") (C := RX7) (T := TX7) (N := 22) (ci := 9) (index := 211) (f := 14) (t := 2) (Ts := Cond.code yX9_number cX9_number 3 (some .boolean) :: rz_TB) hx hb hts rz_in9 ho hK rfl (by decide) rfl (fun _ => rfl) (hw (i := 9) (j := 18) rfl rfl) (fun _ z => z) dX9_number_39 hk) ?_
  refine rz_All_c (i := 23) (fun k J hk hJ => rz_bipush_ok (pc := 42) hx hb dX9_number_42 (by decide) hk) ?_
  refine rz_All_c (i := 24) (fun k J hk hJ => rz_aald_ok (pc := 44) hx hb hK dX9_number_44 hk) ?_
  refine rz_All_c (i := 25) (fun k J hk hJ => rz_iload_n_ok (pc := 45) hx hb dX9_number_45 rfl hk) ?_
  refine rz_All_c (i := 26) (fun k J hk hJ => rz_aload_n_ok (pc := 46) hx hb dX9_number_46 rfl hk) ?_
  refine rz_All_c (i := 27) (fun k J hk hJ => rz_getf_ok (pc := 47) (own := RX9) (ref := "ThreadJudge$Reader") (C := RX9) (T := TX9) (N := 19) (ci := 11) (index := 37) (f := 0) (t := 2) (Ts := Cond.code yX9_number cX9_number 3 (some .boolean) :: rz_TB) hx hb hts rz_in11 ho hK rfl (by decide) rfl (fun _ => rfl) (hw (i := 9) (j := 16) rfl rfl) (fun _ z => z) dX9_number_47 hk) ?_
  refine rz_All_c (i := 28) (fun k J hk hJ => rz_getf_ok (pc := 50) (own := RX9) (ref := "ThreadJudge$Program") (C := RX7) (T := TX7) (N := 22) (ci := 9) (index := 211) (f := 14) (t := 2) (Ts := Cond.code yX9_number cX9_number 3 (some .boolean) :: rz_TB) hx hb hts rz_in9 ho hK rfl (by decide) rfl (fun _ => rfl) (hw (i := 9) (j := 18) rfl rfl) (fun _ z => z) dX9_number_50 hk) ?_
  refine rz_All_c (i := 29) (fun k J hk hJ => rz_iconst_ok (pc := 53) hx hb dX9_number_53 rfl hk) ?_
  refine rz_All_c (i := 30) (fun k J hk hJ => rz_aald_ok (pc := 54) hx hb hK dX9_number_54 hk) ?_
  refine rz_All_c (i := 31) (fun k J hk hJ => rz_iload_n_ok (pc := 55) hx hb dX9_number_55 rfl hk) ?_
  refine rz_All_c (i := 32) (fun k J hk hJ => rz_iald_ok (pc := 56) hx hb hK dX9_number_56 hk) ?_
  refine rz_All_c (i := 33) (fun k J hk hJ => rz_iast_ok (pc := 57) hx hb hK hA dX9_number_57 hk) ?_
  refine rz_All_c (i := 34) (fun k J hk hJ => rz_aload_n_ok (pc := 58) hx hb dX9_number_58 rfl hk) ?_
  refine rz_All_c (i := 35) (fun k J hk hJ => rz_dup_ok (pc := 59) hx hb dX9_number_59 hk) ?_
  refine rz_All_c (i := 36) (fun k J hk hJ => rz_getf_ok (pc := 60) (own := RX9) (ref := "ThreadJudge$Reader") (C := RX9) (T := TX9) (N := 19) (ci := 11) (index := 187) (f := 15) (t := 0) (Ts := Cond.code yX9_number cX9_number 3 (some .boolean) :: rz_TB) hx hb hts rz_in11 ho hK rfl (by decide) rfl (fun _ => rfl) (hw (i := 3) (j := 11) rfl rfl) (fun _ z => z) dX9_number_60 hk) ?_
  refine rz_All_c (i := 37) (fun k J hk hJ => rz_iconst_ok (pc := 63) hx hb dX9_number_63 rfl hk) ?_
  refine rz_All_c (i := 38) (fun k J hk hJ => rz_iadd_ok (pc := 64) hx hb dX9_number_64 hk) ?_
  refine rz_All_c (i := 39) (fun k J hk hJ => rz_putf_ok (pc := 65) (own := RX9) (ref := "ThreadJudge$Reader") (C := RX9) (T := TX9) (N := 19) (ci := 11) (index := 187) (f := 15) (t := 0) (Ts := Cond.code yX9_number cX9_number 3 (some .boolean) :: rz_TB) hx hb hts rz_in11 tyX9 tyX9_ok nmX9 ho hK hA rfl (by decide) rfl (rz_UnI _) rfl (tyX9_ok 15 (by decide)) (hw (i := 3) (j := 11) rfl rfl) (fun _ z => z) dX9_number_65 hk) ?_
  refine rz_All_c (i := 40) (fun k J hk hJ => rz_iconst_ok (pc := 68) hx hb dX9_number_68 rfl hk) ?_
  refine rz_All_c (i := 41) (fun k J hk hJ => rz_zret_ok (pc := 69) hC dX9_number_69) ?_
  exact trivial
theorem dX9_wanted_0 : decode cX9_wanted 0 = .ok (.iload_n 2, 1) := by decide +kernel
theorem dX9_wanted_1 : decode cX9_wanted 1 = .ok (.lookupswitch 156 #[(45, 67), (102, 144), (105, 76), (109, 150), (110, 69), (115, 101), (116, 107)], 67) := by decide +kernel
theorem dX9_wanted_68 : decode cX9_wanted 68 = .ok (.iconst 1, 1) := by decide +kernel
theorem dX9_wanted_69 : decode cX9_wanted 69 = .ok (.ireturn, 1) := by decide +kernel
theorem dX9_wanted_70 : decode cX9_wanted 70 = .ok (.aload_n 0, 1) := by decide +kernel
theorem dX9_wanted_71 : decode cX9_wanted 71 = .ok (.iload_n 1, 1) := by decide +kernel
theorem dX9_wanted_72 : decode cX9_wanted 72 = .ok (.iconst 3, 1) := by decide +kernel
theorem dX9_wanted_73 : decode cX9_wanted 73 = .ok (.invokevirtual 316, 3) := by decide +kernel
theorem dX9_wanted_76 : decode cX9_wanted 76 = .ok (.ireturn, 1) := by decide +kernel
theorem dX9_wanted_145 : decode cX9_wanted 145 = .ok (.aload_n 0, 1) := by decide +kernel
theorem dX9_wanted_146 : decode cX9_wanted 146 = .ok (.iload_n 1, 1) := by decide +kernel
theorem dX9_wanted_147 : decode cX9_wanted 147 = .ok (.invokevirtual 323, 3) := by decide +kernel
theorem dX9_wanted_150 : decode cX9_wanted 150 = .ok (.ireturn, 1) := by decide +kernel
theorem dX9_wanted_151 : decode cX9_wanted 151 = .ok (.aload_n 0, 1) := by decide +kernel
theorem dX9_wanted_152 : decode cX9_wanted 152 = .ok (.iload_n 1, 1) := by decide +kernel
theorem dX9_wanted_153 : decode cX9_wanted 153 = .ok (.invokevirtual 326, 3) := by decide +kernel
theorem dX9_wanted_156 : decode cX9_wanted 156 = .ok (.ireturn, 1) := by decide +kernel
theorem dX9_wanted_157 : decode cX9_wanted 157 = .ok (.aload_n 0, 1) := by decide +kernel
theorem dX9_wanted_158 : decode cX9_wanted 158 = .ok (.getfield 37, 3) := by decide +kernel
theorem dX9_wanted_161 : decode cX9_wanted 161 = .ok (.getfield 211, 3) := by decide +kernel
theorem dX9_wanted_164 : decode cX9_wanted 164 = .ok (.iconst 3, 1) := by decide +kernel
theorem dX9_wanted_165 : decode cX9_wanted 165 = .ok (.aaload, 1) := by decide +kernel
theorem dX9_wanted_166 : decode cX9_wanted 166 = .ok (.iload_n 1, 1) := by decide +kernel
theorem dX9_wanted_167 : decode cX9_wanted 167 = .ok (.aload_n 0, 1) := by decide +kernel
theorem dX9_wanted_168 : decode cX9_wanted 168 = .ok (.invokevirtual 252, 3) := by decide +kernel
theorem dX9_wanted_171 : decode cX9_wanted 171 = .ok (.iastore, 1) := by decide +kernel
theorem dX9_wanted_172 : decode cX9_wanted 172 = .ok (.aload_n 0, 1) := by decide +kernel
theorem dX9_wanted_173 : decode cX9_wanted 173 = .ok (.getfield 37, 3) := by decide +kernel
theorem dX9_wanted_176 : decode cX9_wanted 176 = .ok (.getfield 211, 3) := by decide +kernel
theorem dX9_wanted_179 : decode cX9_wanted 179 = .ok (.iconst 3, 1) := by decide +kernel
theorem dX9_wanted_180 : decode cX9_wanted 180 = .ok (.aaload, 1) := by decide +kernel
theorem dX9_wanted_181 : decode cX9_wanted 181 = .ok (.iload_n 1, 1) := by decide +kernel
theorem dX9_wanted_182 : decode cX9_wanted 182 = .ok (.iaload, 1) := by decide +kernel
theorem dX9_wanted_183 : decode cX9_wanted 183 = .ok (.ifCond .lt 21, 3) := by decide +kernel
theorem dX9_wanted_186 : decode cX9_wanted 186 = .ok (.iload_n 2, 1) := by decide +kernel
theorem dX9_wanted_187 : decode cX9_wanted 187 = .ok (.bipush 100, 2) := by decide +kernel
theorem dX9_wanted_189 : decode cX9_wanted 189 = .ok (.if_icmp .ne 11, 3) := by decide +kernel
theorem dX9_wanted_200 : decode cX9_wanted 200 = .ok (.iconst 1, 1) := by decide +kernel
theorem dX9_wanted_201 : decode cX9_wanted 201 = .ok (.goto 4, 3) := by decide +kernel
theorem dX9_wanted_205 : decode cX9_wanted 205 = .ok (.ireturn, 1) := by decide +kernel
def rpX9_wanted : List Nat := [0, 1, 68, 69, 70, 71, 72, 73, 76, 77, 102, 108, 145, 146, 147, 150, 151, 152, 153, 156, 157, 158, 161, 164, 165, 166, 167, 168, 171, 172, 173, 176, 179, 180, 181, 182, 183, 186, 187, 189, 192, 200, 201, 204, 205]
noncomputable def rcX9_wanted : List rz_B := [rz_iload 2, rz_lsw [(45, 2), (102, 12), (105, 9), (109, 16), (110, 4), (115, 10), (116, 11)] 20, rz_cst 1, rz_zret, rz_aload 0, rz_iload 1, rz_cst 3, rz_callV 2 (Nat.add (Nat.mul 256 11) 1) rgX9_number, rz_zret, rz_no, rz_no, rz_no, rz_aload 0, rz_iload 1, rz_callV 1 (Nat.add (Nat.mul 256 11) 1) rgX9_memberName, rz_zret, rz_aload 0, rz_iload 1, rz_callV 1 (Nat.add (Nat.mul 256 11) 1) rgX9_methodName, rz_zret, rz_aload 0, rz_getf (Nat.add (Nat.mul 256 11) 1) 0 rz_r, rz_getf (Nat.add (Nat.mul 256 9) 1) 14 rz_r, rz_cst 3, rz_aald, rz_iload 1, rz_aload 0, rz_callV 0 (Nat.add (Nat.mul 256 11) 1) rgX9_takeName, rz_iast, rz_aload 0, rz_getf (Nat.add (Nat.mul 256 11) 1) 0 rz_r, rz_getf (Nat.add (Nat.mul 256 9) 1) 14 rz_r, rz_cst 3, rz_aald, rz_iload 1, rz_iald, rz_iflt 43, rz_iload 2, rz_cst 100, rz_icmpne 41, rz_no, rz_cst 1, rz_goto 44, rz_no, rz_zret]
noncomputable def rgX9_wanted : rz_L → rz_M → rz_Z → Bool := rz_go rcX9_wanted 3 1000000
def rrX9_wanted : Room := { frames := 4, cells := 0, slots := 0, locals := 86 }
theorem rmX9_wanted (l : Launch) {G : rz_G} (hG : rz_Gd G) (vs : rz_L) (M : rz_M) (Z : rz_Z) (hn : vs.length = 3) (h : rgX9_wanted vs M Z = true) : Met l yX9_wanted (Cond.code yX9_wanted cX9_wanted 3 (some .boolean) :: rz_TB) rrX9_wanted (rz_Pre G vs M) (rz_Qi G M.2 Z) 0 0 (fun q => rz_b G ≤ q) := by
  obtain ⟨D, tc, ad, b, xs, rfl⟩ := id hG
  refine rz_body (pcs := rpX9_wanted) (by decide) rfl (by rw [hn]; decide) h ?_
  intro p e R s m args below meth c hC
  obtain ⟨hx, hb, hml, hr, hlk, ho, hts, hKn, hRm⟩ := id hC
  obtain ⟨hK, hA, hSt⟩ := id hKn
  have hw : ∀ {i j : Nat} {ws : List Cond} {w : Cond}, rz_WW[i]? = some ws → ws[j]? = some w → w.before args s = true := fun h1 h2 => hts _ (List.mem_cons_of_mem _ (rz_mem h1 h2))
  refine rz_All_c (i := 0) (fun k J hk hJ => rz_iload_n_ok (pc := 0) hx hb dX9_wanted_0 rfl hk) ?_
  refine rz_All_c (i := 1) (fun k J hk hJ => rz_lsw_ok (pc := 1) (pcs := rpX9_wanted) (ks := [(45, 2), (102, 12), (105, 9), (109, 16), (110, 4), (115, 10), (116, 11)]) (d := 20) hx hb dX9_wanted_1 (by decide +kernel) rfl (by decide +kernel) hJ) ?_
  refine rz_All_c (i := 2) (fun k J hk hJ => rz_iconst_ok (pc := 68) hx hb dX9_wanted_68 rfl hk) ?_
  refine rz_All_c (i := 3) (fun k J hk hJ => rz_zret_ok (pc := 69) hC dX9_wanted_69) ?_
  refine rz_All_c (i := 4) (fun k J hk hJ => rz_aload_n_ok (pc := 70) hx hb dX9_wanted_70 rfl hk) ?_
  refine rz_All_c (i := 5) (fun k J hk hJ => rz_iload_n_ok (pc := 71) hx hb dX9_wanted_71 rfl hk) ?_
  refine rz_All_c (i := 6) (fun k J hk hJ => rz_iconst_ok (pc := 72) hx hb dX9_wanted_72 rfl hk) ?_
  refine rz_All_c (i := 7) (fun k J hk hJ => rz_callV_ok (pc := 73) (own := RX9) (C := RX9) (T0 := TX9) (N0 := 19) hC rfl (rmX9_number l hG) (rz_cwV 2 hC rz_good (rz_mem (i := 14) (j := 20) rfl rfl) (rz_mem (i := 14) (j := 21) rfl rfl) (rz_mem (i := 14) (j := 22) rfl rfl) (rz_mem (i := 1) (j := 21) rfl rfl) (rz_mem (i := 14) (j := 23) rfl rfl) ⟨rfl, by decide, by decide, by decide +kernel⟩ rfl rfl ⟨by decide, by decide⟩) rfl dX9_wanted_73 hk) ?_
  refine rz_All_c (i := 8) (fun k J hk hJ => rz_zret_ok (pc := 76) hC dX9_wanted_76) ?_
  refine rz_All_c (i := 9) (fun k J hk hJ => rz_no_ok) ?_
  refine rz_All_c (i := 10) (fun k J hk hJ => rz_no_ok) ?_
  refine rz_All_c (i := 11) (fun k J hk hJ => rz_no_ok) ?_
  refine rz_All_c (i := 12) (fun k J hk hJ => rz_aload_n_ok (pc := 145) hx hb dX9_wanted_145 rfl hk) ?_
  refine rz_All_c (i := 13) (fun k J hk hJ => rz_iload_n_ok (pc := 146) hx hb dX9_wanted_146 rfl hk) ?_
  refine rz_All_c (i := 14) (fun k J hk hJ => rz_callV_ok (pc := 147) (own := RX9) (C := RX9) (T0 := TX9) (N0 := 19) hC rfl (rmX9_memberName l hG) (rz_cwV 1 hC rz_good (rz_mem (i := 15) (j := 7) rfl rfl) (rz_mem (i := 15) (j := 8) rfl rfl) (rz_mem (i := 15) (j := 9) rfl rfl) (rz_mem (i := 1) (j := 21) rfl rfl) (rz_mem (i := 15) (j := 10) rfl rfl) ⟨rfl, by decide, by decide, by decide +kernel⟩ rfl rfl ⟨by decide, by decide⟩) rfl dX9_wanted_147 hk) ?_
  refine rz_All_c (i := 15) (fun k J hk hJ => rz_zret_ok (pc := 150) hC dX9_wanted_150) ?_
  refine rz_All_c (i := 16) (fun k J hk hJ => rz_aload_n_ok (pc := 151) hx hb dX9_wanted_151 rfl hk) ?_
  refine rz_All_c (i := 17) (fun k J hk hJ => rz_iload_n_ok (pc := 152) hx hb dX9_wanted_152 rfl hk) ?_
  refine rz_All_c (i := 18) (fun k J hk hJ => rz_callV_ok (pc := 153) (own := RX9) (C := RX9) (T0 := TX9) (N0 := 19) hC rfl (rmX9_methodName l hG) (rz_cwV 1 hC rz_good (rz_mem (i := 15) (j := 11) rfl rfl) (rz_mem (i := 15) (j := 12) rfl rfl) (rz_mem (i := 15) (j := 13) rfl rfl) (rz_mem (i := 1) (j := 21) rfl rfl) (rz_mem (i := 15) (j := 14) rfl rfl) ⟨rfl, by decide, by decide, by decide +kernel⟩ rfl rfl ⟨by decide, by decide⟩) rfl dX9_wanted_153 hk) ?_
  refine rz_All_c (i := 19) (fun k J hk hJ => rz_zret_ok (pc := 156) hC dX9_wanted_156) ?_
  refine rz_All_c (i := 20) (fun k J hk hJ => rz_aload_n_ok (pc := 157) hx hb dX9_wanted_157 rfl hk) ?_
  refine rz_All_c (i := 21) (fun k J hk hJ => rz_getf_ok (pc := 158) (own := RX9) (ref := "ThreadJudge$Reader") (C := RX9) (T := TX9) (N := 19) (ci := 11) (index := 37) (f := 0) (t := 2) (Ts := Cond.code yX9_wanted cX9_wanted 3 (some .boolean) :: rz_TB) hx hb hts rz_in11 ho hK rfl (by decide) rfl (fun _ => rfl) (hw (i := 9) (j := 16) rfl rfl) (fun _ z => z) dX9_wanted_158 hk) ?_
  refine rz_All_c (i := 22) (fun k J hk hJ => rz_getf_ok (pc := 161) (own := RX9) (ref := "ThreadJudge$Program") (C := RX7) (T := TX7) (N := 22) (ci := 9) (index := 211) (f := 14) (t := 2) (Ts := Cond.code yX9_wanted cX9_wanted 3 (some .boolean) :: rz_TB) hx hb hts rz_in9 ho hK rfl (by decide) rfl (fun _ => rfl) (hw (i := 9) (j := 18) rfl rfl) (fun _ z => z) dX9_wanted_161 hk) ?_
  refine rz_All_c (i := 23) (fun k J hk hJ => rz_iconst_ok (pc := 164) hx hb dX9_wanted_164 rfl hk) ?_
  refine rz_All_c (i := 24) (fun k J hk hJ => rz_aald_ok (pc := 165) hx hb hK dX9_wanted_165 hk) ?_
  refine rz_All_c (i := 25) (fun k J hk hJ => rz_iload_n_ok (pc := 166) hx hb dX9_wanted_166 rfl hk) ?_
  refine rz_All_c (i := 26) (fun k J hk hJ => rz_aload_n_ok (pc := 167) hx hb dX9_wanted_167 rfl hk) ?_
  refine rz_All_c (i := 27) (fun k J hk hJ => rz_callV_ok (pc := 168) (own := RX9) (C := RX9) (T0 := TX9) (N0 := 19) hC rfl (rmX9_takeName l hG) (rz_cwV 0 hC rz_good (rz_mem (i := 11) (j := 0) rfl rfl) (rz_mem (i := 11) (j := 1) rfl rfl) (rz_mem (i := 11) (j := 2) rfl rfl) (rz_mem (i := 1) (j := 21) rfl rfl) (rz_mem (i := 11) (j := 3) rfl rfl) ⟨rfl, by decide, by decide, by decide +kernel⟩ rfl rfl ⟨by decide, by decide⟩) rfl dX9_wanted_168 hk) ?_
  refine rz_All_c (i := 28) (fun k J hk hJ => rz_iast_ok (pc := 171) hx hb hK hA dX9_wanted_171 hk) ?_
  refine rz_All_c (i := 29) (fun k J hk hJ => rz_aload_n_ok (pc := 172) hx hb dX9_wanted_172 rfl hk) ?_
  refine rz_All_c (i := 30) (fun k J hk hJ => rz_getf_ok (pc := 173) (own := RX9) (ref := "ThreadJudge$Reader") (C := RX9) (T := TX9) (N := 19) (ci := 11) (index := 37) (f := 0) (t := 2) (Ts := Cond.code yX9_wanted cX9_wanted 3 (some .boolean) :: rz_TB) hx hb hts rz_in11 ho hK rfl (by decide) rfl (fun _ => rfl) (hw (i := 9) (j := 16) rfl rfl) (fun _ z => z) dX9_wanted_173 hk) ?_
  refine rz_All_c (i := 31) (fun k J hk hJ => rz_getf_ok (pc := 176) (own := RX9) (ref := "ThreadJudge$Program") (C := RX7) (T := TX7) (N := 22) (ci := 9) (index := 211) (f := 14) (t := 2) (Ts := Cond.code yX9_wanted cX9_wanted 3 (some .boolean) :: rz_TB) hx hb hts rz_in9 ho hK rfl (by decide) rfl (fun _ => rfl) (hw (i := 9) (j := 18) rfl rfl) (fun _ z => z) dX9_wanted_176 hk) ?_
  refine rz_All_c (i := 32) (fun k J hk hJ => rz_iconst_ok (pc := 179) hx hb dX9_wanted_179 rfl hk) ?_
  refine rz_All_c (i := 33) (fun k J hk hJ => rz_aald_ok (pc := 180) hx hb hK dX9_wanted_180 hk) ?_
  refine rz_All_c (i := 34) (fun k J hk hJ => rz_iload_n_ok (pc := 181) hx hb dX9_wanted_181 rfl hk) ?_
  refine rz_All_c (i := 35) (fun k J hk hJ => rz_iald_ok (pc := 182) hx hb hK dX9_wanted_182 hk) ?_
  refine rz_All_c (i := 36) (fun k J hk hJ => rz_iflt_ok (pc := 183) hx hb dX9_wanted_183 rfl hk (hJ 43)) ?_
  refine rz_All_c (i := 37) (fun k J hk hJ => rz_iload_n_ok (pc := 186) hx hb dX9_wanted_186 rfl hk) ?_
  refine rz_All_c (i := 38) (fun k J hk hJ => rz_bipush_ok (pc := 187) hx hb dX9_wanted_187 (by decide) hk) ?_
  refine rz_All_c (i := 39) (fun k J hk hJ => rz_icmpne_ok (pc := 189) hx hb dX9_wanted_189 rfl hk (hJ 41)) ?_
  refine rz_All_c (i := 40) (fun k J hk hJ => rz_no_ok) ?_
  refine rz_All_c (i := 41) (fun k J hk hJ => rz_iconst_ok (pc := 200) hx hb dX9_wanted_200 rfl hk) ?_
  refine rz_All_c (i := 42) (fun k J hk hJ => rz_goto_ok (pc := 201) hx hb dX9_wanted_201 rfl (hJ 44)) ?_
  refine rz_All_c (i := 43) (fun k J hk hJ => rz_no_ok) ?_
  refine rz_All_c (i := 44) (fun k J hk hJ => rz_zret_ok (pc := 205) hC dX9_wanted_205) ?_
  exact trivial
theorem dX9_readOn_0 : decode cX9_readOn 0 = .ok (.aload_n 0, 1) := by decide +kernel
theorem dX9_readOn_1 : decode cX9_readOn 1 = .ok (.getfield 190, 3) := by decide +kernel
theorem dX9_readOn_4 : decode cX9_readOn 4 = .ok (.tableswitch 43 0 2 #[28, 33, 38], 28) := by decide +kernel
theorem dX9_readOn_32 : decode cX9_readOn 32 = .ok (.aload_n 0, 1) := by decide +kernel
theorem dX9_readOn_33 : decode cX9_readOn 33 = .ok (.invokevirtual 197, 3) := by decide +kernel
theorem dX9_readOn_36 : decode cX9_readOn 36 = .ok (.ireturn, 1) := by decide +kernel
theorem dX9_readOn_37 : decode cX9_readOn 37 = .ok (.aload_n 0, 1) := by decide +kernel
theorem dX9_readOn_38 : decode cX9_readOn 38 = .ok (.invokevirtual 200, 3) := by decide +kernel
theorem dX9_readOn_41 : decode cX9_readOn 41 = .ok (.ireturn, 1) := by decide +kernel
theorem dX9_readOn_42 : decode cX9_readOn 42 = .ok (.aload_n 0, 1) := by decide +kernel
theorem dX9_readOn_43 : decode cX9_readOn 43 = .ok (.invokevirtual 203, 3) := by decide +kernel
theorem dX9_readOn_46 : decode cX9_readOn 46 = .ok (.ireturn, 1) := by decide +kernel
theorem dX9_readOn_47 : decode cX9_readOn 47 = .ok (.aload_n 0, 1) := by decide +kernel
theorem dX9_readOn_48 : decode cX9_readOn 48 = .ok (.iconst 2, 1) := by decide +kernel
theorem dX9_readOn_49 : decode cX9_readOn 49 = .ok (.putfield 190, 3) := by decide +kernel
theorem dX9_readOn_52 : decode cX9_readOn 52 = .ok (.aload_n 0, 1) := by decide +kernel
theorem dX9_readOn_53 : decode cX9_readOn 53 = .ok (.getfield 37, 3) := by decide +kernel
theorem dX9_readOn_56 : decode cX9_readOn 56 = .ok (.getfield 206, 3) := by decide +kernel
theorem dX9_readOn_59 : decode cX9_readOn 59 = .ok (.iconst 1, 1) := by decide +kernel
theorem dX9_readOn_60 : decode cX9_readOn 60 = .ok (.isub, 1) := by decide +kernel
theorem dX9_readOn_61 : decode cX9_readOn 61 = .ok (.istore_n 1, 1) := by decide +kernel
theorem dX9_readOn_62 : decode cX9_readOn 62 = .ok (.aload_n 0, 1) := by decide +kernel
theorem dX9_readOn_63 : decode cX9_readOn 63 = .ok (.iload_n 1, 1) := by decide +kernel
theorem dX9_readOn_64 : decode cX9_readOn 64 = .ok (.ldc 209, 2) := by decide +kernel
theorem dX9_readOn_66 : decode cX9_readOn 66 = .ok (.aload_n 0, 1) := by decide +kernel
theorem dX9_readOn_67 : decode cX9_readOn 67 = .ok (.getfield 37, 3) := by decide +kernel
theorem dX9_readOn_70 : decode cX9_readOn 70 = .ok (.getfield 211, 3) := by decide +kernel
theorem dX9_readOn_73 : decode cX9_readOn 73 = .ok (.iconst 0, 1) := by decide +kernel
theorem dX9_readOn_74 : decode cX9_readOn 74 = .ok (.aaload, 1) := by decide +kernel
theorem dX9_readOn_75 : decode cX9_readOn 75 = .ok (.iload_n 1, 1) := by decide +kernel
theorem dX9_readOn_76 : decode cX9_readOn 76 = .ok (.iaload, 1) := by decide +kernel
theorem dX9_readOn_77 : decode cX9_readOn 77 = .ok (.invokevirtual 215, 3) := by decide +kernel
theorem dX9_readOn_80 : decode cX9_readOn 80 = .ok (.invokevirtual 219, 3) := by decide +kernel
theorem dX9_readOn_83 : decode cX9_readOn 83 = .ok (.ifCond .eq 16, 3) := by decide +kernel
theorem dX9_readOn_86 : decode cX9_readOn 86 = .ok (.aload_n 0, 1) := by decide +kernel
theorem dX9_readOn_87 : decode cX9_readOn 87 = .ok (.bipush 59, 2) := by decide +kernel
theorem dX9_readOn_89 : decode cX9_readOn 89 = .ok (.invokevirtual 223, 3) := by decide +kernel
theorem dX9_readOn_92 : decode cX9_readOn 92 = .ok (.ifCond .eq 7, 3) := by decide +kernel
theorem dX9_readOn_95 : decode cX9_readOn 95 = .ok (.iconst 1, 1) := by decide +kernel
theorem dX9_readOn_96 : decode cX9_readOn 96 = .ok (.goto 4, 3) := by decide +kernel
theorem dX9_readOn_100 : decode cX9_readOn 100 = .ok (.ireturn, 1) := by decide +kernel
def rpX9_readOn : List Nat := [0, 1, 4, 32, 33, 36, 37, 38, 41, 42, 43, 46, 47, 48, 49, 52, 53, 56, 59, 60, 61, 62, 63, 64, 66, 67, 70, 73, 74, 75, 76, 77, 80, 83, 86, 87, 89, 92, 95, 96, 99, 100]
noncomputable def rcX9_readOn : List rz_B := [rz_aload 0, rz_getf (Nat.add (Nat.mul 256 11) 1) 16 rz_i, rz_tsw 0 [3, 6, 9] 12, rz_aload 0, rz_callV 0 (Nat.add (Nat.mul 256 11) 1) rgX9_classHead, rz_zret, rz_aload 0, rz_callV 0 (Nat.add (Nat.mul 256 11) 1) rgX9_member, rz_zret, rz_aload 0, rz_callV 0 (Nat.add (Nat.mul 256 11) 1) rgX9_line, rz_zret, rz_aload 0, rz_cst 2, rz_putf (Nat.add (Nat.mul 256 11) 1) 16 rz_unI, rz_aload 0, rz_getf (Nat.add (Nat.mul 256 11) 1) 0 rz_r, rz_getf (Nat.add (Nat.mul 256 9) 1) 13 rz_i, rz_cst 1, rz_isub, rz_istore 1, rz_aload 0, rz_iload 1, rz_txt 1000010, rz_aload 0, rz_getf (Nat.add (Nat.mul 256 11) 1) 0 rz_r, rz_getf (Nat.add (Nat.mul 256 9) 1) 14 rz_r, rz_cst 0, rz_aald, rz_iload 1, rz_iald, rz_callT 1 rgJ0_charAt_5068e_f, rz_callV 2 (Nat.add (Nat.mul 256 11) 1) rgX9_wanted, rz_ifeq 40, rz_aload 0, rz_cst 59, rz_callV 1 (Nat.add (Nat.mul 256 11) 1) rgX9_takeSign, rz_ifeq 40, rz_cst 1, rz_goto 41, rz_no, rz_zret]
noncomputable def rgX9_readOn : rz_L → rz_M → rz_Z → Bool := rz_go rcX9_readOn 2 1000000
def rrX9_readOn : Room := { frames := 5, cells := 0, slots := 0, locals := 123 }
theorem rmX9_readOn (l : Launch) {G : rz_G} (hG : rz_Gd G) (vs : rz_L) (M : rz_M) (Z : rz_Z) (hn : vs.length = 1) (h : rgX9_readOn vs M Z = true) : Met l yX9_readOn (Cond.code yX9_readOn cX9_readOn 2 (some .boolean) :: rz_TB) rrX9_readOn (rz_Pre G vs M) (rz_Qi G M.2 Z) 0 0 (fun q => rz_b G ≤ q) := by
  obtain ⟨D, tc, ad, b, xs, rfl⟩ := id hG
  refine rz_body (pcs := rpX9_readOn) (by decide) rfl (by rw [hn]; decide) h ?_
  intro p e R s m args below meth c hC
  obtain ⟨hx, hb, hml, hr, hlk, ho, hts, hKn, hRm⟩ := id hC
  obtain ⟨hK, hA, hSt⟩ := id hKn
  have hw : ∀ {i j : Nat} {ws : List Cond} {w : Cond}, rz_WW[i]? = some ws → ws[j]? = some w → w.before args s = true := fun h1 h2 => hts _ (List.mem_cons_of_mem _ (rz_mem h1 h2))
  refine rz_All_c (i := 0) (fun k J hk hJ => rz_aload_n_ok (pc := 0) hx hb dX9_readOn_0 rfl hk) ?_
  refine rz_All_c (i := 1) (fun k J hk hJ => rz_getf_ok (pc := 1) (own := RX9) (ref := "ThreadJudge$Reader") (C := RX9) (T := TX9) (N := 19) (ci := 11) (index := 190) (f := 16) (t := 0) (Ts := Cond.code yX9_readOn cX9_readOn 2 (some .boolean) :: rz_TB) hx hb hts rz_in11 ho hK rfl (by decide) rfl (fun _ => rfl) (hw (i := 3) (j := 12) rfl rfl) (fun _ z => z) dX9_readOn_1 hk) ?_
  refine rz_All_c (i := 2) (fun k J hk hJ => rz_tsw_ok (pc := 4) (pcs := rpX9_readOn) (js := [3, 6, 9]) (d := 12) (lo := 0) hx hb dX9_readOn_4 (by decide +kernel) hJ) ?_
  refine rz_All_c (i := 3) (fun k J hk hJ => rz_aload_n_ok (pc := 32) hx hb dX9_readOn_32 rfl hk) ?_
  refine rz_All_c (i := 4) (fun k J hk hJ => rz_callV_ok (pc := 33) (own := RX9) (C := RX9) (T0 := TX9) (N0 := 19) hC rfl (rmX9_classHead l hG) (rz_cwV 0 hC rz_good (rz_mem (i := 9) (j := 19) rfl rfl) (rz_mem (i := 9) (j := 20) rfl rfl) (rz_mem (i := 9) (j := 21) rfl rfl) (rz_mem (i := 1) (j := 21) rfl rfl) (rz_mem (i := 9) (j := 22) rfl rfl) ⟨rfl, by decide, by decide, by decide +kernel⟩ rfl rfl ⟨by decide, by decide⟩) rfl dX9_readOn_33 hk) ?_
  refine rz_All_c (i := 5) (fun k J hk hJ => rz_zret_ok (pc := 36) hC dX9_readOn_36) ?_
  refine rz_All_c (i := 6) (fun k J hk hJ => rz_aload_n_ok (pc := 37) hx hb dX9_readOn_37 rfl hk) ?_
  refine rz_All_c (i := 7) (fun k J hk hJ => rz_callV_ok (pc := 38) (own := RX9) (C := RX9) (T0 := TX9) (N0 := 19) hC rfl (rmX9_member l hG) (rz_cwV 0 hC rz_good (rz_mem (i := 11) (j := 12) rfl rfl) (rz_mem (i := 11) (j := 13) rfl rfl) (rz_mem (i := 11) (j := 14) rfl rfl) (rz_mem (i := 1) (j := 21) rfl rfl) (rz_mem (i := 11) (j := 15) rfl rfl) ⟨rfl, by decide, by decide, by decide +kernel⟩ rfl rfl ⟨by decide, by decide⟩) rfl dX9_readOn_38 hk) ?_
  refine rz_All_c (i := 8) (fun k J hk hJ => rz_zret_ok (pc := 41) hC dX9_readOn_41) ?_
  refine rz_All_c (i := 9) (fun k J hk hJ => rz_aload_n_ok (pc := 42) hx hb dX9_readOn_42 rfl hk) ?_
  refine rz_All_c (i := 10) (fun k J hk hJ => rz_callV_ok (pc := 43) (own := RX9) (C := RX9) (T0 := TX9) (N0 := 19) hC rfl (rmX9_line l hG) (rz_cwV 0 hC rz_good (rz_mem (i := 12) (j := 22) rfl rfl) (rz_mem (i := 12) (j := 23) rfl rfl) (rz_mem (i := 13) (j := 0) rfl rfl) (rz_mem (i := 1) (j := 21) rfl rfl) (rz_mem (i := 13) (j := 1) rfl rfl) ⟨rfl, by decide, by decide, by decide +kernel⟩ rfl rfl ⟨by decide, by decide⟩) rfl dX9_readOn_43 hk) ?_
  refine rz_All_c (i := 11) (fun k J hk hJ => rz_zret_ok (pc := 46) hC dX9_readOn_46) ?_
  refine rz_All_c (i := 12) (fun k J hk hJ => rz_aload_n_ok (pc := 47) hx hb dX9_readOn_47 rfl hk) ?_
  refine rz_All_c (i := 13) (fun k J hk hJ => rz_iconst_ok (pc := 48) hx hb dX9_readOn_48 rfl hk) ?_
  refine rz_All_c (i := 14) (fun k J hk hJ => rz_putf_ok (pc := 49) (own := RX9) (ref := "ThreadJudge$Reader") (C := RX9) (T := TX9) (N := 19) (ci := 11) (index := 190) (f := 16) (t := 0) (Ts := Cond.code yX9_readOn cX9_readOn 2 (some .boolean) :: rz_TB) hx hb hts rz_in11 tyX9 tyX9_ok nmX9 ho hK hA rfl (by decide) rfl (rz_UnI _) rfl (tyX9_ok 16 (by decide)) (hw (i := 3) (j := 12) rfl rfl) (fun _ z => z) dX9_readOn_49 hk) ?_
  refine rz_All_c (i := 15) (fun k J hk hJ => rz_aload_n_ok (pc := 52) hx hb dX9_readOn_52 rfl hk) ?_
  refine rz_All_c (i := 16) (fun k J hk hJ => rz_getf_ok (pc := 53) (own := RX9) (ref := "ThreadJudge$Reader") (C := RX9) (T := TX9) (N := 19) (ci := 11) (index := 37) (f := 0) (t := 2) (Ts := Cond.code yX9_readOn cX9_readOn 2 (some .boolean) :: rz_TB) hx hb hts rz_in11 ho hK rfl (by decide) rfl (fun _ => rfl) (hw (i := 9) (j := 16) rfl rfl) (fun _ z => z) dX9_readOn_53 hk) ?_
  refine rz_All_c (i := 17) (fun k J hk hJ => rz_getf_ok (pc := 56) (own := RX9) (ref := "ThreadJudge$Program") (C := RX7) (T := TX7) (N := 22) (ci := 9) (index := 206) (f := 13) (t := 0) (Ts := Cond.code yX9_readOn cX9_readOn 2 (some .boolean) :: rz_TB) hx hb hts rz_in9 ho hK rfl (by decide) rfl (fun _ => rfl) (hw (i := 9) (j := 17) rfl rfl) (fun _ z => z) dX9_readOn_56 hk) ?_
  refine rz_All_c (i := 18) (fun k J hk hJ => rz_iconst_ok (pc := 59) hx hb dX9_readOn_59 rfl hk) ?_
  refine rz_All_c (i := 19) (fun k J hk hJ => rz_isub_ok (pc := 60) hx hb dX9_readOn_60 hk) ?_
  refine rz_All_c (i := 20) (fun k J hk hJ => rz_istore_n_ok (pc := 61) hx hb dX9_readOn_61 rfl hk) ?_
  refine rz_All_c (i := 21) (fun k J hk hJ => rz_aload_n_ok (pc := 62) hx hb dX9_readOn_62 rfl hk) ?_
  refine rz_All_c (i := 22) (fun k J hk hJ => rz_iload_n_ok (pc := 63) hx hb dX9_readOn_63 rfl hk) ?_
  refine rz_All_c (i := 23) (fun k J hk hJ => rz_ldcS_ok (pc := 64) (i := 9) hx hb (hSt.2.1 ("ThreadJudge$Reader", 209, "ns-nni---------------lllllllllllllllllffffct---ttmmmd-----", 9) (List.mem_of_getElem? (i := 9) rfl)) ho dX9_readOn_64 hk) ?_
  refine rz_All_c (i := 24) (fun k J hk hJ => rz_aload_n_ok (pc := 66) hx hb dX9_readOn_66 rfl hk) ?_
  refine rz_All_c (i := 25) (fun k J hk hJ => rz_getf_ok (pc := 67) (own := RX9) (ref := "ThreadJudge$Reader") (C := RX9) (T := TX9) (N := 19) (ci := 11) (index := 37) (f := 0) (t := 2) (Ts := Cond.code yX9_readOn cX9_readOn 2 (some .boolean) :: rz_TB) hx hb hts rz_in11 ho hK rfl (by decide) rfl (fun _ => rfl) (hw (i := 9) (j := 16) rfl rfl) (fun _ z => z) dX9_readOn_67 hk) ?_
  refine rz_All_c (i := 26) (fun k J hk hJ => rz_getf_ok (pc := 70) (own := RX9) (ref := "ThreadJudge$Program") (C := RX7) (T := TX7) (N := 22) (ci := 9) (index := 211) (f := 14) (t := 2) (Ts := Cond.code yX9_readOn cX9_readOn 2 (some .boolean) :: rz_TB) hx hb hts rz_in9 ho hK rfl (by decide) rfl (fun _ => rfl) (hw (i := 9) (j := 18) rfl rfl) (fun _ z => z) dX9_readOn_70 hk) ?_
  refine rz_All_c (i := 27) (fun k J hk hJ => rz_iconst_ok (pc := 73) hx hb dX9_readOn_73 rfl hk) ?_
  refine rz_All_c (i := 28) (fun k J hk hJ => rz_aald_ok (pc := 74) hx hb hK dX9_readOn_74 hk) ?_
  refine rz_All_c (i := 29) (fun k J hk hJ => rz_iload_n_ok (pc := 75) hx hb dX9_readOn_75 rfl hk) ?_
  refine rz_All_c (i := 30) (fun k J hk hJ => rz_iald_ok (pc := 76) hx hb hK dX9_readOn_76 hk) ?_
  refine rz_All_c (i := 31) (fun k J hk hJ => rz_callT_ok (pc := 77) (own := RX9) hC rfl (rmJ0_charAt_5068e_f l hG) (rz_cwV 1 hC rz_good (rz_mem (i := 13) (j := 20) rfl rfl) (rz_mem (i := 13) (j := 21) rfl rfl) (rz_mem (i := 13) (j := 22) rfl rfl) (rz_mem (i := 5) (j := 23) rfl rfl) (rz_mem (i := 13) (j := 23) rfl rfl) ⟨rfl, by decide, by decide, by decide +kernel⟩ rfl rfl ⟨by decide, by decide⟩) dX9_readOn_77 hk) ?_
  refine rz_All_c (i := 32) (fun k J hk hJ => rz_callV_ok (pc := 80) (own := RX9) (C := RX9) (T0 := TX9) (N0 := 19) hC rfl (rmX9_wanted l hG) (rz_cwV 2 hC rz_good (rz_mem (i := 14) (j := 16) rfl rfl) (rz_mem (i := 14) (j := 17) rfl rfl) (rz_mem (i := 14) (j := 18) rfl rfl) (rz_mem (i := 1) (j := 21) rfl rfl) (rz_mem (i := 14) (j := 19) rfl rfl) ⟨rfl, by decide, by decide, by decide +kernel⟩ rfl rfl ⟨by decide, by decide⟩) rfl dX9_readOn_80 hk) ?_
  refine rz_All_c (i := 33) (fun k J hk hJ => rz_ifeq_ok (pc := 83) hx hb dX9_readOn_83 rfl hk (hJ 40)) ?_
  refine rz_All_c (i := 34) (fun k J hk hJ => rz_aload_n_ok (pc := 86) hx hb dX9_readOn_86 rfl hk) ?_
  refine rz_All_c (i := 35) (fun k J hk hJ => rz_bipush_ok (pc := 87) hx hb dX9_readOn_87 (by decide) hk) ?_
  refine rz_All_c (i := 36) (fun k J hk hJ => rz_callV_ok (pc := 89) (own := RX9) (C := RX9) (T0 := TX9) (N0 := 19) hC rfl (rmX9_takeSign l hG) (rz_cwV 1 hC rz_good (rz_mem (i := 11) (j := 8) rfl rfl) (rz_mem (i := 11) (j := 9) rfl rfl) (rz_mem (i := 11) (j := 10) rfl rfl) (rz_mem (i := 1) (j := 21) rfl rfl) (rz_mem (i := 11) (j := 11) rfl rfl) ⟨rfl, by decide, by decide, by decide +kernel⟩ rfl rfl ⟨by decide, by decide⟩) rfl dX9_readOn_89 hk) ?_
  refine rz_All_c (i := 37) (fun k J hk hJ => rz_ifeq_ok (pc := 92) hx hb dX9_readOn_92 rfl hk (hJ 40)) ?_
  refine rz_All_c (i := 38) (fun k J hk hJ => rz_iconst_ok (pc := 95) hx hb dX9_readOn_95 rfl hk) ?_
  refine rz_All_c (i := 39) (fun k J hk hJ => rz_goto_ok (pc := 96) hx hb dX9_readOn_96 rfl (hJ 41)) ?_
  refine rz_All_c (i := 40) (fun k J hk hJ => rz_no_ok) ?_
  refine rz_All_c (i := 41) (fun k J hk hJ => rz_zret_ok (pc := 100) hC dX9_readOn_100) ?_
  exact trivial
theorem dX9_read_0 : decode cX9_read 0 = .ok (.aload_n 0, 1) := by decide +kernel
theorem dX9_read_1 : decode cX9_read 1 = .ok (.aload_n 1, 1) := by decide +kernel
theorem dX9_read_2 : decode cX9_read 2 = .ok (.iload_n 2, 1) := by decide +kernel
theorem dX9_read_3 : decode cX9_read 3 = .ok (.invokevirtual 183, 3) := by decide +kernel
theorem dX9_read_6 : decode cX9_read 6 = .ok (.aload_n 0, 1) := by decide +kernel
theorem dX9_read_7 : decode cX9_read 7 = .ok (.iconst 0, 1) := by decide +kernel
theorem dX9_read_8 : decode cX9_read 8 = .ok (.putfield 187, 3) := by decide +kernel
theorem dX9_read_11 : decode cX9_read 11 = .ok (.aload_n 0, 1) := by decide +kernel
theorem dX9_read_12 : decode cX9_read 12 = .ok (.iconst 0, 1) := by decide +kernel
theorem dX9_read_13 : decode cX9_read 13 = .ok (.putfield 190, 3) := by decide +kernel
theorem dX9_read_16 : decode cX9_read 16 = .ok (.iconst 0, 1) := by decide +kernel
theorem dX9_read_17 : decode cX9_read 17 = .ok (.istore_n 3, 1) := by decide +kernel
theorem dX9_read_18 : decode cX9_read 18 = .ok (.iload_n 3, 1) := by decide +kernel
theorem dX9_read_19 : decode cX9_read 19 = .ok (.aload_n 0, 1) := by decide +kernel
theorem dX9_read_20 : decode cX9_read 20 = .ok (.getfield 129, 3) := by decide +kernel
theorem dX9_read_23 : decode cX9_read 23 = .ok (.if_icmp .gt 40, 3) := by decide +kernel
theorem dX9_read_26 : decode cX9_read 26 = .ok (.aload_n 0, 1) := by decide +kernel
theorem dX9_read_27 : decode cX9_read 27 = .ok (.getfield 190, 3) := by decide +kernel
theorem dX9_read_30 : decode cX9_read 30 = .ok (.ifCond .ne 17, 3) := by decide +kernel
theorem dX9_read_33 : decode cX9_read 33 = .ok (.aload_n 0, 1) := by decide +kernel
theorem dX9_read_34 : decode cX9_read 34 = .ok (.getfield 28, 3) := by decide +kernel
theorem dX9_read_37 : decode cX9_read 37 = .ok (.aload_n 0, 1) := by decide +kernel
theorem dX9_read_38 : decode cX9_read 38 = .ok (.getfield 187, 3) := by decide +kernel
theorem dX9_read_41 : decode cX9_read 41 = .ok (.iaload, 1) := by decide +kernel
theorem dX9_read_42 : decode cX9_read 42 = .ok (.ifCond .ne 5, 3) := by decide +kernel
theorem dX9_read_45 : decode cX9_read 45 = .ok (.iconst 1, 1) := by decide +kernel
theorem dX9_read_46 : decode cX9_read 46 = .ok (.ireturn, 1) := by decide +kernel
theorem dX9_read_47 : decode cX9_read 47 = .ok (.aload_n 0, 1) := by decide +kernel
theorem dX9_read_48 : decode cX9_read 48 = .ok (.invokevirtual 193, 3) := by decide +kernel
theorem dX9_read_51 : decode cX9_read 51 = .ok (.ifCond .ne 6, 3) := by decide +kernel
theorem dX9_read_57 : decode cX9_read 57 = .ok (.iinc 3 1, 3) := by decide +kernel
theorem dX9_read_60 : decode cX9_read 60 = .ok (.goto (-42), 3) := by decide +kernel
def rpX9_read : List Nat := [0, 1, 2, 3, 6, 7, 8, 11, 12, 13, 16, 17, 18, 19, 20, 23, 26, 27, 30, 33, 34, 37, 38, 41, 42, 45, 46, 47, 48, 51, 54, 57, 60, 63]
noncomputable def rcX9_read : List rz_B := [rz_aload 0, rz_aload 1, rz_iload 2, rz_callVv 2 (Nat.add (Nat.mul 256 11) 1) rgX9_cut, rz_aload 0, rz_cst 0, rz_putf (Nat.add (Nat.mul 256 11) 1) 15 rz_unI, rz_aload 0, rz_cst 0, rz_putf (Nat.add (Nat.mul 256 11) 1) 16 rz_unI, rz_cst 0, rz_istore 3, rz_iload 3, rz_aload 0, rz_getf (Nat.add (Nat.mul 256 11) 1) 14 rz_i, rz_icmpgt 33, rz_aload 0, rz_getf (Nat.add (Nat.mul 256 11) 1) 16 rz_i, rz_ifne 27, rz_aload 0, rz_getf (Nat.add (Nat.mul 256 11) 1) 11 rz_r, rz_aload 0, rz_getf (Nat.add (Nat.mul 256 11) 1) 15 rz_i, rz_iald, rz_ifne 27, rz_cst 1, rz_zret, rz_aload 0, rz_callV 0 (Nat.add (Nat.mul 256 11) 1) rgX9_readOn, rz_ifne 31, rz_no, rz_iinc 3 1, rz_goto 12, rz_no]
noncomputable def rgX9_read : rz_L → rz_M → rz_Z → Bool := rz_go rcX9_read 4 1000000
def rrX9_read : Room := { frames := 6, cells := 0, slots := 0, locals := 174 }
theorem rmX9_read (l : Launch) {G : rz_G} (hG : rz_Gd G) (vs : rz_L) (M : rz_M) (Z : rz_Z) (hn : vs.length = 3) (h : rgX9_read vs M Z = true) : Met l yX9_read (Cond.code yX9_read cX9_read 4 (some .boolean) :: rz_TB) rrX9_read (rz_Pre G vs M) (rz_Qi G M.2 Z) 0 0 (fun q => rz_b G ≤ q) := by
  obtain ⟨D, tc, ad, b, xs, rfl⟩ := id hG
  refine rz_body (pcs := rpX9_read) (by decide) rfl (by rw [hn]; decide) h ?_
  intro p e R s m args below meth c hC
  obtain ⟨hx, hb, hml, hr, hlk, ho, hts, hKn, hRm⟩ := id hC
  obtain ⟨hK, hA, hSt⟩ := id hKn
  have hw : ∀ {i j : Nat} {ws : List Cond} {w : Cond}, rz_WW[i]? = some ws → ws[j]? = some w → w.before args s = true := fun h1 h2 => hts _ (List.mem_cons_of_mem _ (rz_mem h1 h2))
  refine rz_All_c (i := 0) (fun k J hk hJ => rz_aload_n_ok (pc := 0) hx hb dX9_read_0 rfl hk) ?_
  refine rz_All_c (i := 1) (fun k J hk hJ => rz_aload_n_ok (pc := 1) hx hb dX9_read_1 rfl hk) ?_
  refine rz_All_c (i := 2) (fun k J hk hJ => rz_iload_n_ok (pc := 2) hx hb dX9_read_2 rfl hk) ?_
  refine rz_All_c (i := 3) (fun k J hk hJ => rz_callVv_ok (pc := 3) (own := RX9) (C := RX9) (T0 := TX9) (N0 := 19) hC rfl (rmX9_cut l hG) (rz_cwV 2 hC rz_good (rz_mem (i := 3) (j := 16) rfl rfl) (rz_mem (i := 3) (j := 17) rfl rfl) (rz_mem (i := 3) (j := 18) rfl rfl) (rz_mem (i := 1) (j := 21) rfl rfl) (rz_mem (i := 3) (j := 19) rfl rfl) ⟨rfl, by decide, by decide, by decide +kernel⟩ rfl rfl ⟨by decide, by decide⟩) rfl dX9_read_3 hk) ?_
  refine rz_All_c (i := 4) (fun k J hk hJ => rz_aload_n_ok (pc := 6) hx hb dX9_read_6 rfl hk) ?_
  refine rz_All_c (i := 5) (fun k J hk hJ => rz_iconst_ok (pc := 7) hx hb dX9_read_7 rfl hk) ?_
  refine rz_All_c (i := 6) (fun k J hk hJ => rz_putf_ok (pc := 8) (own := RX9) (ref := "ThreadJudge$Reader") (C := RX9) (T := TX9) (N := 19) (ci := 11) (index := 187) (f := 15) (t := 0) (Ts := Cond.code yX9_read cX9_read 4 (some .boolean) :: rz_TB) hx hb hts rz_in11 tyX9 tyX9_ok nmX9 ho hK hA rfl (by decide) rfl (rz_UnI _) rfl (tyX9_ok 15 (by decide)) (hw (i := 3) (j := 11) rfl rfl) (fun _ z => z) dX9_read_8 hk) ?_
  refine rz_All_c (i := 7) (fun k J hk hJ => rz_aload_n_ok (pc := 11) hx hb dX9_read_11 rfl hk) ?_
  refine rz_All_c (i := 8) (fun k J hk hJ => rz_iconst_ok (pc := 12) hx hb dX9_read_12 rfl hk) ?_
  refine rz_All_c (i := 9) (fun k J hk hJ => rz_putf_ok (pc := 13) (own := RX9) (ref := "ThreadJudge$Reader") (C := RX9) (T := TX9) (N := 19) (ci := 11) (index := 190) (f := 16) (t := 0) (Ts := Cond.code yX9_read cX9_read 4 (some .boolean) :: rz_TB) hx hb hts rz_in11 tyX9 tyX9_ok nmX9 ho hK hA rfl (by decide) rfl (rz_UnI _) rfl (tyX9_ok 16 (by decide)) (hw (i := 3) (j := 12) rfl rfl) (fun _ z => z) dX9_read_13 hk) ?_
  refine rz_All_c (i := 10) (fun k J hk hJ => rz_iconst_ok (pc := 16) hx hb dX9_read_16 rfl hk) ?_
  refine rz_All_c (i := 11) (fun k J hk hJ => rz_istore_n_ok (pc := 17) hx hb dX9_read_17 rfl hk) ?_
  refine rz_All_c (i := 12) (fun k J hk hJ => rz_iload_n_ok (pc := 18) hx hb dX9_read_18 rfl hk) ?_
  refine rz_All_c (i := 13) (fun k J hk hJ => rz_aload_n_ok (pc := 19) hx hb dX9_read_19 rfl hk) ?_
  refine rz_All_c (i := 14) (fun k J hk hJ => rz_getf_ok (pc := 20) (own := RX9) (ref := "ThreadJudge$Reader") (C := RX9) (T := TX9) (N := 19) (ci := 11) (index := 129) (f := 14) (t := 0) (Ts := Cond.code yX9_read cX9_read 4 (some .boolean) :: rz_TB) hx hb hts rz_in11 ho hK rfl (by decide) rfl (fun _ => rfl) (hw (i := 3) (j := 13) rfl rfl) (fun _ z => z) dX9_read_20 hk) ?_
  refine rz_All_c (i := 15) (fun k J hk hJ => rz_icmpgt_ok (pc := 23) hx hb dX9_read_23 rfl hk (hJ 33)) ?_
  refine rz_All_c (i := 16) (fun k J hk hJ => rz_aload_n_ok (pc := 26) hx hb dX9_read_26 rfl hk) ?_
  refine rz_All_c (i := 17) (fun k J hk hJ => rz_getf_ok (pc := 27) (own := RX9) (ref := "ThreadJudge$Reader") (C := RX9) (T := TX9) (N := 19) (ci := 11) (index := 190) (f := 16) (t := 0) (Ts := Cond.code yX9_read cX9_read 4 (some .boolean) :: rz_TB) hx hb hts rz_in11 ho hK rfl (by decide) rfl (fun _ => rfl) (hw (i := 3) (j := 12) rfl rfl) (fun _ z => z) dX9_read_27 hk) ?_
  refine rz_All_c (i := 18) (fun k J hk hJ => rz_ifne_ok (pc := 30) hx hb dX9_read_30 rfl hk (hJ 27)) ?_
  refine rz_All_c (i := 19) (fun k J hk hJ => rz_aload_n_ok (pc := 33) hx hb dX9_read_33 rfl hk) ?_
  refine rz_All_c (i := 20) (fun k J hk hJ => rz_getf_ok (pc := 34) (own := RX9) (ref := "ThreadJudge$Reader") (C := RX9) (T := TX9) (N := 19) (ci := 11) (index := 28) (f := 11) (t := 2) (Ts := Cond.code yX9_read cX9_read 4 (some .boolean) :: rz_TB) hx hb hts rz_in11 ho hK rfl (by decide) rfl (fun _ => rfl) (hw (i := 3) (j := 14) rfl rfl) (fun _ z => z) dX9_read_34 hk) ?_
  refine rz_All_c (i := 21) (fun k J hk hJ => rz_aload_n_ok (pc := 37) hx hb dX9_read_37 rfl hk) ?_
  refine rz_All_c (i := 22) (fun k J hk hJ => rz_getf_ok (pc := 38) (own := RX9) (ref := "ThreadJudge$Reader") (C := RX9) (T := TX9) (N := 19) (ci := 11) (index := 187) (f := 15) (t := 0) (Ts := Cond.code yX9_read cX9_read 4 (some .boolean) :: rz_TB) hx hb hts rz_in11 ho hK rfl (by decide) rfl (fun _ => rfl) (hw (i := 3) (j := 11) rfl rfl) (fun _ z => z) dX9_read_38 hk) ?_
  refine rz_All_c (i := 23) (fun k J hk hJ => rz_iald_ok (pc := 41) hx hb hK dX9_read_41 hk) ?_
  refine rz_All_c (i := 24) (fun k J hk hJ => rz_ifne_ok (pc := 42) hx hb dX9_read_42 rfl hk (hJ 27)) ?_
  refine rz_All_c (i := 25) (fun k J hk hJ => rz_iconst_ok (pc := 45) hx hb dX9_read_45 rfl hk) ?_
  refine rz_All_c (i := 26) (fun k J hk hJ => rz_zret_ok (pc := 46) hC dX9_read_46) ?_
  refine rz_All_c (i := 27) (fun k J hk hJ => rz_aload_n_ok (pc := 47) hx hb dX9_read_47 rfl hk) ?_
  refine rz_All_c (i := 28) (fun k J hk hJ => rz_callV_ok (pc := 48) (own := RX9) (C := RX9) (T0 := TX9) (N0 := 19) hC rfl (rmX9_readOn l hG) (rz_cwV 0 hC rz_good (rz_mem (i := 9) (j := 12) rfl rfl) (rz_mem (i := 9) (j := 13) rfl rfl) (rz_mem (i := 9) (j := 14) rfl rfl) (rz_mem (i := 1) (j := 21) rfl rfl) (rz_mem (i := 9) (j := 15) rfl rfl) ⟨rfl, by decide, by decide, by decide +kernel⟩ rfl rfl ⟨by decide, by decide⟩) rfl dX9_read_48 hk) ?_
  refine rz_All_c (i := 29) (fun k J hk hJ => rz_ifne_ok (pc := 51) hx hb dX9_read_51 rfl hk (hJ 31)) ?_
  refine rz_All_c (i := 30) (fun k J hk hJ => rz_no_ok) ?_
  refine rz_All_c (i := 31) (fun k J hk hJ => rz_iinc_ok (pc := 57) hx hb dX9_read_57 (by decide) hk) ?_
  refine rz_All_c (i := 32) (fun k J hk hJ => rz_goto_ok (pc := 60) hx hb dX9_read_60 rfl (hJ 12)) ?_
  refine rz_All_c (i := 33) (fun k J hk hJ => rz_no_ok) ?_
  exact trivial
theorem dX11_load_0 : decode cX11_load 0 = .ok (.aload_n 0, 1) := by decide +kernel
theorem dX11_load_1 : decode cX11_load 1 = .ok (.getfield 20, 3) := by decide +kernel
theorem dX11_load_4 : decode cX11_load 4 = .ok (.invokevirtual 119, 3) := by decide +kernel
theorem dX11_load_7 : decode cX11_load 7 = .ok (.aload_n 0, 1) := by decide +kernel
theorem dX11_load_8 : decode cX11_load 8 = .ok (.getfield 52, 3) := by decide +kernel
theorem dX11_load_11 : decode cX11_load 11 = .ok (.iconst 0, 1) := by decide +kernel
theorem dX11_load_12 : decode cX11_load 12 = .ok (.putfield 122, 3) := by decide +kernel
theorem dX11_load_15 : decode cX11_load 15 = .ok (.aload_n 0, 1) := by decide +kernel
theorem dX11_load_16 : decode cX11_load 16 = .ok (.getfield 104, 3) := by decide +kernel
theorem dX11_load_19 : decode cX11_load 19 = .ok (.iconst 0, 1) := by decide +kernel
theorem dX11_load_20 : decode cX11_load 20 = .ok (.putfield 125, 3) := by decide +kernel
theorem dX11_load_23 : decode cX11_load 23 = .ok (.aload_n 0, 1) := by decide +kernel
theorem dX11_load_24 : decode cX11_load 24 = .ok (.getfield 79, 3) := by decide +kernel
theorem dX11_load_27 : decode cX11_load 27 = .ok (.invokevirtual 128, 3) := by decide +kernel
theorem dX11_load_30 : decode cX11_load 30 = .ok (.aload_n 0, 1) := by decide +kernel
theorem dX11_load_31 : decode cX11_load 31 = .ok (.iconst 0, 1) := by decide +kernel
theorem dX11_load_32 : decode cX11_load 32 = .ok (.putfield 131, 3) := by decide +kernel
theorem dX11_load_35 : decode cX11_load 35 = .ok (.aload_n 0, 1) := by decide +kernel
theorem dX11_load_36 : decode cX11_load 36 = .ok (.iconst (-1), 1) := by decide +kernel
theorem dX11_load_37 : decode cX11_load 37 = .ok (.putfield 13, 3) := by decide +kernel
theorem dX11_load_40 : decode cX11_load 40 = .ok (.aload_n 0, 1) := by decide +kernel
theorem dX11_load_41 : decode cX11_load 41 = .ok (.getfield 29, 3) := by decide +kernel
theorem dX11_load_44 : decode cX11_load 44 = .ok (.invokevirtual 134, 3) := by decide +kernel
theorem dX11_load_47 : decode cX11_load 47 = .ok (.aload_n 0, 1) := by decide +kernel
theorem dX11_load_48 : decode cX11_load 48 = .ok (.getfield 29, 3) := by decide +kernel
theorem dX11_load_51 : decode cX11_load 51 = .ok (.aload_n 0, 1) := by decide +kernel
theorem dX11_load_52 : decode cX11_load 52 = .ok (.getfield 29, 3) := by decide +kernel
theorem dX11_load_55 : decode cX11_load 55 = .ok (.getfield 137, 3) := by decide +kernel
theorem dX11_load_58 : decode cX11_load 58 = .ok (.aload_n 0, 1) := by decide +kernel
theorem dX11_load_59 : decode cX11_load 59 = .ok (.getfield 29, 3) := by decide +kernel
theorem dX11_load_62 : decode cX11_load 62 = .ok (.getfield 137, 3) := by decide +kernel
theorem dX11_load_65 : decode cX11_load 65 = .ok (.arraylength, 1) := by decide +kernel
theorem dX11_load_66 : decode cX11_load 66 = .ok (.invokevirtual 140, 3) := by decide +kernel
theorem dX11_load_69 : decode cX11_load 69 = .ok (.ifCond .eq 21, 3) := by decide +kernel
theorem dX11_load_72 : decode cX11_load 72 = .ok (.aload_n 0, 1) := by decide +kernel
theorem dX11_load_73 : decode cX11_load 73 = .ok (.getfield 29, 3) := by decide +kernel
theorem dX11_load_76 : decode cX11_load 76 = .ok (.aload_n 0, 1) := by decide +kernel
theorem dX11_load_77 : decode cX11_load 77 = .ok (.getfield 9, 3) := by decide +kernel
theorem dX11_load_80 : decode cX11_load 80 = .ok (.aload_n 0, 1) := by decide +kernel
theorem dX11_load_81 : decode cX11_load 81 = .ok (.getfield 112, 3) := by decide +kernel
theorem dX11_load_84 : decode cX11_load 84 = .ok (.invokevirtual 140, 3) := by decide +kernel
theorem dX11_load_87 : decode cX11_load 87 = .ok (.ifCond .ne 28, 3) := by decide +kernel
theorem dX11_load_115 : decode cX11_load 115 = .ok (.aload_n 0, 1) := by decide +kernel
theorem dX11_load_116 : decode cX11_load 116 = .ok (.getfield 38, 3) := by decide +kernel
theorem dX11_load_119 : decode cX11_load 119 = .ok (.aload_n 0, 1) := by decide +kernel
theorem dX11_load_120 : decode cX11_load 120 = .ok (.getfield 112, 3) := by decide +kernel
theorem dX11_load_123 : decode cX11_load 123 = .ok (.invokevirtual 146, 3) := by decide +kernel
theorem dX11_load_126 : decode cX11_load 126 = .ok (.ifCond .ne 28, 3) := by decide +kernel
theorem dX11_load_129 : decode cX11_load 129 = .ok (.aload_n 0, 1) := by decide +kernel
theorem dX11_load_130 : decode cX11_load 130 = .ok (.aload_n 0, 1) := by decide +kernel
theorem dX11_load_131 : decode cX11_load 131 = .ok (.getfield 38, 3) := by decide +kernel
theorem dX11_load_134 : decode cX11_load 134 = .ok (.getfield 150, 3) := by decide +kernel
theorem dX11_load_137 : decode cX11_load 137 = .ok (.putfield 131, 3) := by decide +kernel
theorem dX11_load_140 : decode cX11_load 140 = .ok (.aload_n 0, 1) := by decide +kernel
theorem dX11_load_141 : decode cX11_load 141 = .ok (.aload_n 0, 1) := by decide +kernel
theorem dX11_load_142 : decode cX11_load 142 = .ok (.getfield 38, 3) := by decide +kernel
theorem dX11_load_145 : decode cX11_load 145 = .ok (.getfield 151, 3) := by decide +kernel
theorem dX11_load_148 : decode cX11_load 148 = .ok (.putfield 13, 3) := by decide +kernel
theorem dX11_load_151 : decode cX11_load 151 = .ok (.goto 35, 3) := by decide +kernel
theorem dX11_load_186 : decode cX11_load 186 = .ok (.aload_n 0, 1) := by decide +kernel
theorem dX11_load_187 : decode cX11_load 187 = .ok (.getfield 20, 3) := by decide +kernel
theorem dX11_load_190 : decode cX11_load 190 = .ok (.aload_n 0, 1) := by decide +kernel
theorem dX11_load_191 : decode cX11_load 191 = .ok (.getfield 131, 3) := by decide +kernel
theorem dX11_load_194 : decode cX11_load 194 = .ok (.ifCond .ne 7, 3) := by decide +kernel
theorem dX11_load_201 : decode cX11_load 201 = .ok (.iconst 0, 1) := by decide +kernel
theorem dX11_load_202 : decode cX11_load 202 = .ok (.putfield 108, 3) := by decide +kernel
theorem dX11_load_205 : decode cX11_load 205 = .ok (.aload_n 0, 1) := by decide +kernel
theorem dX11_load_206 : decode cX11_load 206 = .ok (.getfield 131, 3) := by decide +kernel
theorem dX11_load_209 : decode cX11_load 209 = .ok (.ireturn, 1) := by decide +kernel
def rpX11_load : List Nat := [0, 1, 4, 7, 8, 11, 12, 15, 16, 19, 20, 23, 24, 27, 30, 31, 32, 35, 36, 37, 40, 41, 44, 47, 48, 51, 52, 55, 58, 59, 62, 65, 66, 69, 72, 73, 76, 77, 80, 81, 84, 87, 90, 115, 116, 119, 120, 123, 126, 129, 130, 131, 134, 137, 140, 141, 142, 145, 148, 151, 154, 186, 187, 190, 191, 194, 197, 201, 202, 205, 206, 209]
noncomputable def rcX11_load : List rz_B := [rz_aload 0, rz_getf (Nat.add (Nat.mul 256 13) 1) 5 rz_r, rz_callVv 0 (Nat.add (Nat.mul 256 9) 1) rgX7_clean, rz_aload 0, rz_getf (Nat.add (Nat.mul 256 13) 1) 9 rz_r, rz_cst 0, rz_putf (Nat.add (Nat.mul 256 4) 1) 1 rz_unZ, rz_aload 0, rz_getf (Nat.add (Nat.mul 256 13) 1) 15 rz_r, rz_cst 0, rz_putf (Nat.add (Nat.mul 256 7) 1) 5 rz_unZ, rz_aload 0, rz_getf (Nat.add (Nat.mul 256 13) 1) 12 rz_r, rz_callVv 0 (Nat.add (Nat.mul 256 10) 1) rgX8_forget, rz_aload 0, rz_cst 0, rz_putf (Nat.add (Nat.mul 256 13) 1) 2 rz_unI, rz_aload 0, rz_cst 4294967295, rz_putf (Nat.add (Nat.mul 256 13) 1) 3 rz_unI, rz_aload 0, rz_getf (Nat.add (Nat.mul 256 13) 1) 6 rz_r, rz_callVv 0 (Nat.add (Nat.mul 256 11) 1) rgX9_open, rz_aload 0, rz_getf (Nat.add (Nat.mul 256 13) 1) 6 rz_r, rz_aload 0, rz_getf (Nat.add (Nat.mul 256 13) 1) 6 rz_r, rz_getf (Nat.add (Nat.mul 256 11) 1) 2 rz_r, rz_aload 0, rz_getf (Nat.add (Nat.mul 256 13) 1) 6 rz_r, rz_getf (Nat.add (Nat.mul 256 11) 1) 2 rz_r, rz_alen, rz_callV 2 (Nat.add (Nat.mul 256 11) 1) rgX9_read, rz_ifeq 42, rz_aload 0, rz_getf (Nat.add (Nat.mul 256 13) 1) 6 rz_r, rz_aload 0, rz_getf (Nat.add (Nat.mul 256 13) 1) 0 rz_r, rz_aload 0, rz_getf (Nat.add (Nat.mul 256 13) 1) 1 rz_i, rz_callV 2 (Nat.add (Nat.mul 256 11) 1) rgX9_read, rz_ifne 43, rz_no, rz_aload 0, rz_getf (Nat.add (Nat.mul 256 13) 1) 7 rz_r, rz_aload 0, rz_getf (Nat.add (Nat.mul 256 13) 1) 1 rz_i, rz_callV 1 (Nat.add (Nat.mul 256 6) 1) rgX4_link, rz_ifne 60, rz_aload 0, rz_aload 0, rz_getf (Nat.add (Nat.mul 256 13) 1) 7 rz_r, rz_getf (Nat.add (Nat.mul 256 6) 1) 2 rz_i, rz_putf (Nat.add (Nat.mul 256 13) 1) 2 rz_unI, rz_aload 0, rz_aload 0, rz_getf (Nat.add (Nat.mul 256 13) 1) 7 rz_r, rz_getf (Nat.add (Nat.mul 256 6) 1) 3 rz_i, rz_putf (Nat.add (Nat.mul 256 13) 1) 3 rz_unI, rz_goto 61, rz_no, rz_aload 0, rz_getf (Nat.add (Nat.mul 256 13) 1) 5 rz_r, rz_aload 0, rz_getf (Nat.add (Nat.mul 256 13) 1) 2 rz_i, rz_ifne 67, rz_no, rz_cst 0, rz_putf (Nat.add (Nat.mul 256 9) 1) 0 rz_unZ, rz_aload 0, rz_getf (Nat.add (Nat.mul 256 13) 1) 2 rz_i, rz_iret]
noncomputable def rgX11_load : rz_L → rz_M → rz_Z → Bool := rz_go rcX11_load 1 1000000
def rrX11_load : Room := { frames := 7, cells := 0, slots := 0, locals := 197 }
theorem rmX11_load (l : Launch) {G : rz_G} (hG : rz_Gd G) (vs : rz_L) (M : rz_M) (Z : rz_Z) (hn : vs.length = 1) (h : rgX11_load vs M Z = true) : Met l yX11_load (Cond.code yX11_load cX11_load 1 (some .int) :: rz_TB) rrX11_load (rz_Pre G vs M) (rz_Qi G M.2 Z) 0 0 (fun q => rz_b G ≤ q) := by
  obtain ⟨D, tc, ad, b, xs, rfl⟩ := id hG
  refine rz_body (pcs := rpX11_load) (by decide) rfl (by rw [hn]; decide) h ?_
  intro p e R s m args below meth c hC
  obtain ⟨hx, hb, hml, hr, hlk, ho, hts, hKn, hRm⟩ := id hC
  obtain ⟨hK, hA, hSt⟩ := id hKn
  have hw : ∀ {i j : Nat} {ws : List Cond} {w : Cond}, rz_WW[i]? = some ws → ws[j]? = some w → w.before args s = true := fun h1 h2 => hts _ (List.mem_cons_of_mem _ (rz_mem h1 h2))
  refine rz_All_c (i := 0) (fun k J hk hJ => rz_aload_n_ok (pc := 0) hx hb dX11_load_0 rfl hk) ?_
  refine rz_All_c (i := 1) (fun k J hk hJ => rz_getf_ok (pc := 1) (own := RX11) (ref := "ThreadJudge") (C := RX11) (T := TX11) (N := 16) (ci := 13) (index := 20) (f := 5) (t := 2) (Ts := Cond.code yX11_load cX11_load 1 (some .int) :: rz_TB) hx hb hts rz_in13 ho hK rfl (by decide) rfl (fun _ => rfl) (hw (i := 0) (j := 0) rfl rfl) (fun _ z => z) dX11_load_1 hk) ?_
  refine rz_All_c (i := 2) (fun k J hk hJ => rz_callVv_ok (pc := 4) (own := RX11) (C := RX7) (T0 := TX7) (N0 := 22) hC rfl (rmX7_clean l hG) (rz_cwV 0 hC rz_good (rz_mem (i := 0) (j := 21) rfl rfl) (rz_mem (i := 0) (j := 22) rfl rfl) (rz_mem (i := 0) (j := 23) rfl rfl) (rz_mem (i := 1) (j := 0) rfl rfl) (rz_mem (i := 1) (j := 1) rfl rfl) ⟨rfl, by decide, by decide, by decide +kernel⟩ rfl rfl ⟨by decide, by decide⟩) rfl dX11_load_4 hk) ?_
  refine rz_All_c (i := 3) (fun k J hk hJ => rz_aload_n_ok (pc := 7) hx hb dX11_load_7 rfl hk) ?_
  refine rz_All_c (i := 4) (fun k J hk hJ => rz_getf_ok (pc := 8) (own := RX11) (ref := "ThreadJudge") (C := RX11) (T := TX11) (N := 16) (ci := 13) (index := 52) (f := 9) (t := 2) (Ts := Cond.code yX11_load cX11_load 1 (some .int) :: rz_TB) hx hb hts rz_in13 ho hK rfl (by decide) rfl (fun _ => rfl) (hw (i := 0) (j := 1) rfl rfl) (fun _ z => z) dX11_load_8 hk) ?_
  refine rz_All_c (i := 5) (fun k J hk hJ => rz_iconst_ok (pc := 11) hx hb dX11_load_11 rfl hk) ?_
  refine rz_All_c (i := 6) (fun k J hk hJ => rz_putf_ok (pc := 12) (own := RX11) (ref := "ThreadJudge$Flow") (C := RX2) (T := TX2) (N := 22) (ci := 4) (index := 122) (f := 1) (t := 0) (Ts := Cond.code yX11_load cX11_load 1 (some .int) :: rz_TB) hx hb hts rz_in4 tyX2 tyX2_ok nmX2 ho hK hA rfl (by decide) rfl (rz_UnZ _) rfl (tyX2_ok 1 (by decide)) (hw (i := 0) (j := 2) rfl rfl) (fun _ z => z) dX11_load_12 hk) ?_
  refine rz_All_c (i := 7) (fun k J hk hJ => rz_aload_n_ok (pc := 15) hx hb dX11_load_15 rfl hk) ?_
  refine rz_All_c (i := 8) (fun k J hk hJ => rz_getf_ok (pc := 16) (own := RX11) (ref := "ThreadJudge") (C := RX11) (T := TX11) (N := 16) (ci := 13) (index := 104) (f := 15) (t := 2) (Ts := Cond.code yX11_load cX11_load 1 (some .int) :: rz_TB) hx hb hts rz_in13 ho hK rfl (by decide) rfl (fun _ => rfl) (hw (i := 0) (j := 3) rfl rfl) (fun _ z => z) dX11_load_16 hk) ?_
  refine rz_All_c (i := 9) (fun k J hk hJ => rz_iconst_ok (pc := 19) hx hb dX11_load_19 rfl hk) ?_
  refine rz_All_c (i := 10) (fun k J hk hJ => rz_putf_ok (pc := 20) (own := RX11) (ref := "ThreadJudge$Machine") (C := RX5) (T := TX5) (N := 19) (ci := 7) (index := 125) (f := 5) (t := 0) (Ts := Cond.code yX11_load cX11_load 1 (some .int) :: rz_TB) hx hb hts rz_in7 tyX5 tyX5_ok nmX5 ho hK hA rfl (by decide) rfl (rz_UnZ _) rfl (tyX5_ok 5 (by decide)) (hw (i := 0) (j := 4) rfl rfl) (fun _ z => z) dX11_load_20 hk) ?_
  refine rz_All_c (i := 11) (fun k J hk hJ => rz_aload_n_ok (pc := 23) hx hb dX11_load_23 rfl hk) ?_
  refine rz_All_c (i := 12) (fun k J hk hJ => rz_getf_ok (pc := 24) (own := RX11) (ref := "ThreadJudge") (C := RX11) (T := TX11) (N := 16) (ci := 13) (index := 79) (f := 12) (t := 2) (Ts := Cond.code yX11_load cX11_load 1 (some .int) :: rz_TB) hx hb hts rz_in13 ho hK rfl (by decide) rfl (fun _ => rfl) (hw (i := 0) (j := 5) rfl rfl) (fun _ z => z) dX11_load_24 hk) ?_
  refine rz_All_c (i := 13) (fun k J hk hJ => rz_callVv_ok (pc := 27) (own := RX11) (C := RX8) (T0 := TX8) (N0 := 18) hC rfl (rmX8_forget l hG) (rz_cwV 0 hC rz_good (rz_mem (i := 1) (j := 11) rfl rfl) (rz_mem (i := 1) (j := 12) rfl rfl) (rz_mem (i := 1) (j := 13) rfl rfl) (rz_mem (i := 1) (j := 14) rfl rfl) (rz_mem (i := 1) (j := 15) rfl rfl) ⟨rfl, by decide, by decide, by decide +kernel⟩ rfl rfl ⟨by decide, by decide⟩) rfl dX11_load_27 hk) ?_
  refine rz_All_c (i := 14) (fun k J hk hJ => rz_aload_n_ok (pc := 30) hx hb dX11_load_30 rfl hk) ?_
  refine rz_All_c (i := 15) (fun k J hk hJ => rz_iconst_ok (pc := 31) hx hb dX11_load_31 rfl hk) ?_
  refine rz_All_c (i := 16) (fun k J hk hJ => rz_putf_ok (pc := 32) (own := RX11) (ref := "ThreadJudge") (C := RX11) (T := TX11) (N := 16) (ci := 13) (index := 131) (f := 2) (t := 0) (Ts := Cond.code yX11_load cX11_load 1 (some .int) :: rz_TB) hx hb hts rz_in13 tyX11 tyX11_ok nmX11 ho hK hA rfl (by decide) rfl (rz_UnI _) rfl (tyX11_ok 2 (by decide)) (hw (i := 0) (j := 6) rfl rfl) (fun _ z => z) dX11_load_32 hk) ?_
  refine rz_All_c (i := 17) (fun k J hk hJ => rz_aload_n_ok (pc := 35) hx hb dX11_load_35 rfl hk) ?_
  refine rz_All_c (i := 18) (fun k J hk hJ => rz_iconst_ok (pc := 36) hx hb dX11_load_36 rfl hk) ?_
  refine rz_All_c (i := 19) (fun k J hk hJ => rz_putf_ok (pc := 37) (own := RX11) (ref := "ThreadJudge") (C := RX11) (T := TX11) (N := 16) (ci := 13) (index := 13) (f := 3) (t := 0) (Ts := Cond.code yX11_load cX11_load 1 (some .int) :: rz_TB) hx hb hts rz_in13 tyX11 tyX11_ok nmX11 ho hK hA rfl (by decide) rfl (rz_UnI _) rfl (tyX11_ok 3 (by decide)) (hw (i := 0) (j := 7) rfl rfl) (fun _ z => z) dX11_load_37 hk) ?_
  refine rz_All_c (i := 20) (fun k J hk hJ => rz_aload_n_ok (pc := 40) hx hb dX11_load_40 rfl hk) ?_
  refine rz_All_c (i := 21) (fun k J hk hJ => rz_getf_ok (pc := 41) (own := RX11) (ref := "ThreadJudge") (C := RX11) (T := TX11) (N := 16) (ci := 13) (index := 29) (f := 6) (t := 2) (Ts := Cond.code yX11_load cX11_load 1 (some .int) :: rz_TB) hx hb hts rz_in13 ho hK rfl (by decide) rfl (fun _ => rfl) (hw (i := 0) (j := 8) rfl rfl) (fun _ z => z) dX11_load_41 hk) ?_
  refine rz_All_c (i := 22) (fun k J hk hJ => rz_callVv_ok (pc := 44) (own := RX11) (C := RX9) (T0 := TX9) (N0 := 19) hC rfl (rmX9_open l hG) (rz_cwV 0 hC rz_good (rz_mem (i := 1) (j := 18) rfl rfl) (rz_mem (i := 1) (j := 19) rfl rfl) (rz_mem (i := 1) (j := 20) rfl rfl) (rz_mem (i := 1) (j := 21) rfl rfl) (rz_mem (i := 1) (j := 22) rfl rfl) ⟨rfl, by decide, by decide, by decide +kernel⟩ rfl rfl ⟨by decide, by decide⟩) rfl dX11_load_44 hk) ?_
  refine rz_All_c (i := 23) (fun k J hk hJ => rz_aload_n_ok (pc := 47) hx hb dX11_load_47 rfl hk) ?_
  refine rz_All_c (i := 24) (fun k J hk hJ => rz_getf_ok (pc := 48) (own := RX11) (ref := "ThreadJudge") (C := RX11) (T := TX11) (N := 16) (ci := 13) (index := 29) (f := 6) (t := 2) (Ts := Cond.code yX11_load cX11_load 1 (some .int) :: rz_TB) hx hb hts rz_in13 ho hK rfl (by decide) rfl (fun _ => rfl) (hw (i := 0) (j := 8) rfl rfl) (fun _ z => z) dX11_load_48 hk) ?_
  refine rz_All_c (i := 25) (fun k J hk hJ => rz_aload_n_ok (pc := 51) hx hb dX11_load_51 rfl hk) ?_
  refine rz_All_c (i := 26) (fun k J hk hJ => rz_getf_ok (pc := 52) (own := RX11) (ref := "ThreadJudge") (C := RX11) (T := TX11) (N := 16) (ci := 13) (index := 29) (f := 6) (t := 2) (Ts := Cond.code yX11_load cX11_load 1 (some .int) :: rz_TB) hx hb hts rz_in13 ho hK rfl (by decide) rfl (fun _ => rfl) (hw (i := 0) (j := 8) rfl rfl) (fun _ z => z) dX11_load_52 hk) ?_
  refine rz_All_c (i := 27) (fun k J hk hJ => rz_getf_ok (pc := 55) (own := RX11) (ref := "ThreadJudge$Reader") (C := RX9) (T := TX9) (N := 19) (ci := 11) (index := 137) (f := 2) (t := 2) (Ts := Cond.code yX11_load cX11_load 1 (some .int) :: rz_TB) hx hb hts rz_in11 ho hK rfl (by decide) rfl (fun _ => rfl) (hw (i := 0) (j := 9) rfl rfl) (fun _ z => z) dX11_load_55 hk) ?_
  refine rz_All_c (i := 28) (fun k J hk hJ => rz_aload_n_ok (pc := 58) hx hb dX11_load_58 rfl hk) ?_
  refine rz_All_c (i := 29) (fun k J hk hJ => rz_getf_ok (pc := 59) (own := RX11) (ref := "ThreadJudge") (C := RX11) (T := TX11) (N := 16) (ci := 13) (index := 29) (f := 6) (t := 2) (Ts := Cond.code yX11_load cX11_load 1 (some .int) :: rz_TB) hx hb hts rz_in13 ho hK rfl (by decide) rfl (fun _ => rfl) (hw (i := 0) (j := 8) rfl rfl) (fun _ z => z) dX11_load_59 hk) ?_
  refine rz_All_c (i := 30) (fun k J hk hJ => rz_getf_ok (pc := 62) (own := RX11) (ref := "ThreadJudge$Reader") (C := RX9) (T := TX9) (N := 19) (ci := 11) (index := 137) (f := 2) (t := 2) (Ts := Cond.code yX11_load cX11_load 1 (some .int) :: rz_TB) hx hb hts rz_in11 ho hK rfl (by decide) rfl (fun _ => rfl) (hw (i := 0) (j := 9) rfl rfl) (fun _ z => z) dX11_load_62 hk) ?_
  refine rz_All_c (i := 31) (fun k J hk hJ => rz_alen_ok (pc := 65) hx hb hK dX11_load_65 hk) ?_
  refine rz_All_c (i := 32) (fun k J hk hJ => rz_callV_ok (pc := 66) (own := RX11) (C := RX9) (T0 := TX9) (N0 := 19) hC rfl (rmX9_read l hG) (rz_cwV 2 hC rz_good (rz_mem (i := 3) (j := 7) rfl rfl) (rz_mem (i := 3) (j := 8) rfl rfl) (rz_mem (i := 3) (j := 9) rfl rfl) (rz_mem (i := 1) (j := 21) rfl rfl) (rz_mem (i := 3) (j := 10) rfl rfl) ⟨rfl, by decide, by decide, by decide +kernel⟩ rfl rfl ⟨by decide, by decide⟩) rfl dX11_load_66 hk) ?_
  refine rz_All_c (i := 33) (fun k J hk hJ => rz_ifeq_ok (pc := 69) hx hb dX11_load_69 rfl hk (hJ 42)) ?_
  refine rz_All_c (i := 34) (fun k J hk hJ => rz_aload_n_ok (pc := 72) hx hb dX11_load_72 rfl hk) ?_
  refine rz_All_c (i := 35) (fun k J hk hJ => rz_getf_ok (pc := 73) (own := RX11) (ref := "ThreadJudge") (C := RX11) (T := TX11) (N := 16) (ci := 13) (index := 29) (f := 6) (t := 2) (Ts := Cond.code yX11_load cX11_load 1 (some .int) :: rz_TB) hx hb hts rz_in13 ho hK rfl (by decide) rfl (fun _ => rfl) (hw (i := 0) (j := 8) rfl rfl) (fun _ z => z) dX11_load_73 hk) ?_
  refine rz_All_c (i := 36) (fun k J hk hJ => rz_aload_n_ok (pc := 76) hx hb dX11_load_76 rfl hk) ?_
  refine rz_All_c (i := 37) (fun k J hk hJ => rz_getf_ok (pc := 77) (own := RX11) (ref := "ThreadJudge") (C := RX11) (T := TX11) (N := 16) (ci := 13) (index := 9) (f := 0) (t := 2) (Ts := Cond.code yX11_load cX11_load 1 (some .int) :: rz_TB) hx hb hts rz_in13 ho hK rfl (by decide) rfl (fun _ => rfl) (hw (i := 0) (j := 10) rfl rfl) (fun _ z => z) dX11_load_77 hk) ?_
  refine rz_All_c (i := 38) (fun k J hk hJ => rz_aload_n_ok (pc := 80) hx hb dX11_load_80 rfl hk) ?_
  refine rz_All_c (i := 39) (fun k J hk hJ => rz_getf_ok (pc := 81) (own := RX11) (ref := "ThreadJudge") (C := RX11) (T := TX11) (N := 16) (ci := 13) (index := 112) (f := 1) (t := 0) (Ts := Cond.code yX11_load cX11_load 1 (some .int) :: rz_TB) hx hb hts rz_in13 ho hK rfl (by decide) rfl (fun _ => rfl) (hw (i := 0) (j := 11) rfl rfl) (fun _ z => z) dX11_load_81 hk) ?_
  refine rz_All_c (i := 40) (fun k J hk hJ => rz_callV_ok (pc := 84) (own := RX11) (C := RX9) (T0 := TX9) (N0 := 19) hC rfl (rmX9_read l hG) (rz_cwV 2 hC rz_good (rz_mem (i := 3) (j := 7) rfl rfl) (rz_mem (i := 3) (j := 8) rfl rfl) (rz_mem (i := 3) (j := 9) rfl rfl) (rz_mem (i := 1) (j := 21) rfl rfl) (rz_mem (i := 3) (j := 10) rfl rfl) ⟨rfl, by decide, by decide, by decide +kernel⟩ rfl rfl ⟨by decide, by decide⟩) rfl dX11_load_84 hk) ?_
  refine rz_All_c (i := 41) (fun k J hk hJ => rz_ifne_ok (pc := 87) hx hb dX11_load_87 rfl hk (hJ 43)) ?_
  refine rz_All_c (i := 42) (fun k J hk hJ => rz_no_ok) ?_
  refine rz_All_c (i := 43) (fun k J hk hJ => rz_aload_n_ok (pc := 115) hx hb dX11_load_115 rfl hk) ?_
  refine rz_All_c (i := 44) (fun k J hk hJ => rz_getf_ok (pc := 116) (own := RX11) (ref := "ThreadJudge") (C := RX11) (T := TX11) (N := 16) (ci := 13) (index := 38) (f := 7) (t := 2) (Ts := Cond.code yX11_load cX11_load 1 (some .int) :: rz_TB) hx hb hts rz_in13 ho hK rfl (by decide) rfl (fun _ => rfl) (hw (i := 0) (j := 14) rfl rfl) (fun _ z => z) dX11_load_116 hk) ?_
  refine rz_All_c (i := 45) (fun k J hk hJ => rz_aload_n_ok (pc := 119) hx hb dX11_load_119 rfl hk) ?_
  refine rz_All_c (i := 46) (fun k J hk hJ => rz_getf_ok (pc := 120) (own := RX11) (ref := "ThreadJudge") (C := RX11) (T := TX11) (N := 16) (ci := 13) (index := 112) (f := 1) (t := 0) (Ts := Cond.code yX11_load cX11_load 1 (some .int) :: rz_TB) hx hb hts rz_in13 ho hK rfl (by decide) rfl (fun _ => rfl) (hw (i := 0) (j := 11) rfl rfl) (fun _ z => z) dX11_load_120 hk) ?_
  refine rz_All_c (i := 47) (fun k J hk hJ => rz_callV_ok (pc := 123) (own := RX11) (C := RX4) (T0 := TX4) (N0 := 4) hC rfl (rmX4_link l hG) (rz_cwV 1 hC rz_good (rz_mem (i := 15) (j := 16) rfl rfl) (rz_mem (i := 15) (j := 17) rfl rfl) (rz_mem (i := 15) (j := 18) rfl rfl) (rz_mem (i := 15) (j := 19) rfl rfl) (rz_mem (i := 15) (j := 20) rfl rfl) ⟨rfl, by decide, by decide, by decide +kernel⟩ rfl rfl ⟨by decide, by decide⟩) rfl dX11_load_123 hk) ?_
  refine rz_All_c (i := 48) (fun k J hk hJ => rz_ifne_ok (pc := 126) hx hb dX11_load_126 rfl hk (hJ 60)) ?_
  refine rz_All_c (i := 49) (fun k J hk hJ => rz_aload_n_ok (pc := 129) hx hb dX11_load_129 rfl hk) ?_
  refine rz_All_c (i := 50) (fun k J hk hJ => rz_aload_n_ok (pc := 130) hx hb dX11_load_130 rfl hk) ?_
  refine rz_All_c (i := 51) (fun k J hk hJ => rz_getf_ok (pc := 131) (own := RX11) (ref := "ThreadJudge") (C := RX11) (T := TX11) (N := 16) (ci := 13) (index := 38) (f := 7) (t := 2) (Ts := Cond.code yX11_load cX11_load 1 (some .int) :: rz_TB) hx hb hts rz_in13 ho hK rfl (by decide) rfl (fun _ => rfl) (hw (i := 0) (j := 14) rfl rfl) (fun _ z => z) dX11_load_131 hk) ?_
  refine rz_All_c (i := 52) (fun k J hk hJ => rz_getf_ok (pc := 134) (own := RX11) (ref := "ThreadJudge$Linker") (C := RX4) (T := TX4) (N := 4) (ci := 6) (index := 150) (f := 2) (t := 0) (Ts := Cond.code yX11_load cX11_load 1 (some .int) :: rz_TB) hx hb hts rz_in6 ho hK rfl (by decide) rfl (fun _ => rfl) (hw (i := 0) (j := 15) rfl rfl) (fun _ z => z) dX11_load_134 hk) ?_
  refine rz_All_c (i := 53) (fun k J hk hJ => rz_putf_ok (pc := 137) (own := RX11) (ref := "ThreadJudge") (C := RX11) (T := TX11) (N := 16) (ci := 13) (index := 131) (f := 2) (t := 0) (Ts := Cond.code yX11_load cX11_load 1 (some .int) :: rz_TB) hx hb hts rz_in13 tyX11 tyX11_ok nmX11 ho hK hA rfl (by decide) rfl (rz_UnI _) rfl (tyX11_ok 2 (by decide)) (hw (i := 0) (j := 6) rfl rfl) (fun _ z => z) dX11_load_137 hk) ?_
  refine rz_All_c (i := 54) (fun k J hk hJ => rz_aload_n_ok (pc := 140) hx hb dX11_load_140 rfl hk) ?_
  refine rz_All_c (i := 55) (fun k J hk hJ => rz_aload_n_ok (pc := 141) hx hb dX11_load_141 rfl hk) ?_
  refine rz_All_c (i := 56) (fun k J hk hJ => rz_getf_ok (pc := 142) (own := RX11) (ref := "ThreadJudge") (C := RX11) (T := TX11) (N := 16) (ci := 13) (index := 38) (f := 7) (t := 2) (Ts := Cond.code yX11_load cX11_load 1 (some .int) :: rz_TB) hx hb hts rz_in13 ho hK rfl (by decide) rfl (fun _ => rfl) (hw (i := 0) (j := 14) rfl rfl) (fun _ z => z) dX11_load_142 hk) ?_
  refine rz_All_c (i := 57) (fun k J hk hJ => rz_getf_ok (pc := 145) (own := RX11) (ref := "ThreadJudge$Linker") (C := RX4) (T := TX4) (N := 4) (ci := 6) (index := 151) (f := 3) (t := 0) (Ts := Cond.code yX11_load cX11_load 1 (some .int) :: rz_TB) hx hb hts rz_in6 ho hK rfl (by decide) rfl (fun _ => rfl) (hw (i := 0) (j := 16) rfl rfl) (fun _ z => z) dX11_load_145 hk) ?_
  refine rz_All_c (i := 58) (fun k J hk hJ => rz_putf_ok (pc := 148) (own := RX11) (ref := "ThreadJudge") (C := RX11) (T := TX11) (N := 16) (ci := 13) (index := 13) (f := 3) (t := 0) (Ts := Cond.code yX11_load cX11_load 1 (some .int) :: rz_TB) hx hb hts rz_in13 tyX11 tyX11_ok nmX11 ho hK hA rfl (by decide) rfl (rz_UnI _) rfl (tyX11_ok 3 (by decide)) (hw (i := 0) (j := 7) rfl rfl) (fun _ z => z) dX11_load_148 hk) ?_
  refine rz_All_c (i := 59) (fun k J hk hJ => rz_goto_ok (pc := 151) hx hb dX11_load_151 rfl (hJ 61)) ?_
  refine rz_All_c (i := 60) (fun k J hk hJ => rz_no_ok) ?_
  refine rz_All_c (i := 61) (fun k J hk hJ => rz_aload_n_ok (pc := 186) hx hb dX11_load_186 rfl hk) ?_
  refine rz_All_c (i := 62) (fun k J hk hJ => rz_getf_ok (pc := 187) (own := RX11) (ref := "ThreadJudge") (C := RX11) (T := TX11) (N := 16) (ci := 13) (index := 20) (f := 5) (t := 2) (Ts := Cond.code yX11_load cX11_load 1 (some .int) :: rz_TB) hx hb hts rz_in13 ho hK rfl (by decide) rfl (fun _ => rfl) (hw (i := 0) (j := 0) rfl rfl) (fun _ z => z) dX11_load_187 hk) ?_
  refine rz_All_c (i := 63) (fun k J hk hJ => rz_aload_n_ok (pc := 190) hx hb dX11_load_190 rfl hk) ?_
  refine rz_All_c (i := 64) (fun k J hk hJ => rz_getf_ok (pc := 191) (own := RX11) (ref := "ThreadJudge") (C := RX11) (T := TX11) (N := 16) (ci := 13) (index := 131) (f := 2) (t := 0) (Ts := Cond.code yX11_load cX11_load 1 (some .int) :: rz_TB) hx hb hts rz_in13 ho hK rfl (by decide) rfl (fun _ => rfl) (hw (i := 0) (j := 6) rfl rfl) (fun _ z => z) dX11_load_191 hk) ?_
  refine rz_All_c (i := 65) (fun k J hk hJ => rz_ifne_ok (pc := 194) hx hb dX11_load_194 rfl hk (hJ 67)) ?_
  refine rz_All_c (i := 66) (fun k J hk hJ => rz_no_ok) ?_
  refine rz_All_c (i := 67) (fun k J hk hJ => rz_iconst_ok (pc := 201) hx hb dX11_load_201 rfl hk) ?_
  refine rz_All_c (i := 68) (fun k J hk hJ => rz_putf_ok (pc := 202) (own := RX11) (ref := "ThreadJudge$Program") (C := RX7) (T := TX7) (N := 22) (ci := 9) (index := 108) (f := 0) (t := 0) (Ts := Cond.code yX11_load cX11_load 1 (some .int) :: rz_TB) hx hb hts rz_in9 tyX7 tyX7_ok nmX7 ho hK hA rfl (by decide) rfl (rz_UnZ _) rfl (tyX7_ok 0 (by decide)) (hw (i := 0) (j := 20) rfl rfl) (fun _ z => z) dX11_load_202 hk) ?_
  refine rz_All_c (i := 69) (fun k J hk hJ => rz_aload_n_ok (pc := 205) hx hb dX11_load_205 rfl hk) ?_
  refine rz_All_c (i := 70) (fun k J hk hJ => rz_getf_ok (pc := 206) (own := RX11) (ref := "ThreadJudge") (C := RX11) (T := TX11) (N := 16) (ci := 13) (index := 131) (f := 2) (t := 0) (Ts := Cond.code yX11_load cX11_load 1 (some .int) :: rz_TB) hx hb hts rz_in13 ho hK rfl (by decide) rfl (fun _ => rfl) (hw (i := 0) (j := 6) rfl rfl) (fun _ z => z) dX11_load_206 hk) ?_
  refine rz_All_c (i := 71) (fun k J hk hJ => rz_iret_ok (pc := 209) hC dX11_load_209) ?_
  exact trivial
theorem dX12_isSame_0 : decode cX12_isSame 0 = .ok (.iload_n 2, 1) := by decide +kernel
theorem dX12_isSame_1 : decode cX12_isSame 1 = .ok (.iload 4, 2) := by decide +kernel
theorem dX12_isSame_3 : decode cX12_isSame 3 = .ok (.if_icmp .ne 7, 3) := by decide +kernel
theorem dX12_isSame_6 : decode cX12_isSame 6 = .ok (.iconst 1, 1) := by decide +kernel
theorem dX12_isSame_7 : decode cX12_isSame 7 = .ok (.goto 4, 3) := by decide +kernel
theorem dX12_isSame_10 : decode cX12_isSame 10 = .ok (.iconst 0, 1) := by decide +kernel
theorem dX12_isSame_11 : decode cX12_isSame 11 = .ok (.istore 5, 2) := by decide +kernel
theorem dX12_isSame_13 : decode cX12_isSame 13 = .ok (.iconst 0, 1) := by decide +kernel
theorem dX12_isSame_14 : decode cX12_isSame 14 = .ok (.istore 6, 2) := by decide +kernel
theorem dX12_isSame_16 : decode cX12_isSame 16 = .ok (.iload 6, 2) := by decide +kernel
theorem dX12_isSame_18 : decode cX12_isSame 18 = .ok (.iload_n 2, 1) := by decide +kernel
theorem dX12_isSame_19 : decode cX12_isSame 19 = .ok (.if_icmp .ge 42, 3) := by decide +kernel
theorem dX12_isSame_22 : decode cX12_isSame 22 = .ok (.iload 5, 2) := by decide +kernel
theorem dX12_isSame_24 : decode cX12_isSame 24 = .ok (.ifCond .eq 37, 3) := by decide +kernel
theorem dX12_isSame_27 : decode cX12_isSame 27 = .ok (.aload_n 0, 1) := by decide +kernel
theorem dX12_isSame_28 : decode cX12_isSame 28 = .ok (.getfield 13, 3) := by decide +kernel
theorem dX12_isSame_31 : decode cX12_isSame 31 = .ok (.iload_n 1, 1) := by decide +kernel
theorem dX12_isSame_32 : decode cX12_isSame 32 = .ok (.iload 6, 2) := by decide +kernel
theorem dX12_isSame_34 : decode cX12_isSame 34 = .ok (.iadd, 1) := by decide +kernel
theorem dX12_isSame_35 : decode cX12_isSame 35 = .ok (.iaload, 1) := by decide +kernel
theorem dX12_isSame_36 : decode cX12_isSame 36 = .ok (.aload_n 0, 1) := by decide +kernel
theorem dX12_isSame_37 : decode cX12_isSame 37 = .ok (.getfield 13, 3) := by decide +kernel
theorem dX12_isSame_40 : decode cX12_isSame 40 = .ok (.iload_n 3, 1) := by decide +kernel
theorem dX12_isSame_41 : decode cX12_isSame 41 = .ok (.iload 6, 2) := by decide +kernel
theorem dX12_isSame_43 : decode cX12_isSame 43 = .ok (.iadd, 1) := by decide +kernel
theorem dX12_isSame_44 : decode cX12_isSame 44 = .ok (.iaload, 1) := by decide +kernel
theorem dX12_isSame_45 : decode cX12_isSame 45 = .ok (.if_icmp .ne 7, 3) := by decide +kernel
theorem dX12_isSame_48 : decode cX12_isSame 48 = .ok (.iconst 1, 1) := by decide +kernel
theorem dX12_isSame_49 : decode cX12_isSame 49 = .ok (.goto 4, 3) := by decide +kernel
theorem dX12_isSame_52 : decode cX12_isSame 52 = .ok (.iconst 0, 1) := by decide +kernel
theorem dX12_isSame_53 : decode cX12_isSame 53 = .ok (.istore 5, 2) := by decide +kernel
theorem dX12_isSame_55 : decode cX12_isSame 55 = .ok (.iinc 6 1, 3) := by decide +kernel
theorem dX12_isSame_58 : decode cX12_isSame 58 = .ok (.goto (-42), 3) := by decide +kernel
theorem dX12_isSame_61 : decode cX12_isSame 61 = .ok (.iload 5, 2) := by decide +kernel
theorem dX12_isSame_63 : decode cX12_isSame 63 = .ok (.ireturn, 1) := by decide +kernel
def rpX12_isSame : List Nat := [0, 1, 3, 6, 7, 10, 11, 13, 14, 16, 18, 19, 22, 24, 27, 28, 31, 32, 34, 35, 36, 37, 40, 41, 43, 44, 45, 48, 49, 52, 53, 55, 58, 61, 63]
noncomputable def rcX12_isSame : List rz_B := [rz_iload 2, rz_iload 4, rz_icmpne 5, rz_cst 1, rz_goto 6, rz_cst 0, rz_istore 5, rz_cst 0, rz_istore 6, rz_iload 6, rz_iload 2, rz_icmpge 33, rz_iload 5, rz_ifeq 33, rz_aload 0, rz_getf (Nat.add (Nat.mul 256 14) 1) 2 rz_r, rz_iload 1, rz_iload 6, rz_iadd, rz_iald, rz_aload 0, rz_getf (Nat.add (Nat.mul 256 14) 1) 2 rz_r, rz_iload 3, rz_iload 6, rz_iadd, rz_iald, rz_icmpne 29, rz_cst 1, rz_goto 30, rz_cst 0, rz_istore 5, rz_iinc 6 1, rz_goto 9, rz_iload 5, rz_zret]
noncomputable def rgX12_isSame : rz_L → rz_M → rz_Z → Bool := rz_go rcX12_isSame 7 1000000
def rrX12_isSame : Room := { frames := 0, cells := 0, slots := 0, locals := 0 }
theorem rmX12_isSame (l : Launch) {G : rz_G} (hG : rz_Gd G) (vs : rz_L) (M : rz_M) (Z : rz_Z) (hn : vs.length = 5) (h : rgX12_isSame vs M Z = true) : Met l yX12_isSame (Cond.code yX12_isSame cX12_isSame 7 (some .boolean) :: rz_TB) rrX12_isSame (rz_Pre G vs M) (rz_Qi G M.2 Z) 0 0 (fun q => rz_b G ≤ q) := by
  obtain ⟨D, tc, ad, b, xs, rfl⟩ := id hG
  refine rz_body (pcs := rpX12_isSame) (by decide) rfl (by rw [hn]; decide) h ?_
  intro p e R s m args below meth c hC
  obtain ⟨hx, hb, hml, hr, hlk, ho, hts, hKn, hRm⟩ := id hC
  obtain ⟨hK, hA, hSt⟩ := id hKn
  have hw : ∀ {i j : Nat} {ws : List Cond} {w : Cond}, rz_WW[i]? = some ws → ws[j]? = some w → w.before args s = true := fun h1 h2 => hts _ (List.mem_cons_of_mem _ (rz_mem h1 h2))
  refine rz_All_c (i := 0) (fun k J hk hJ => rz_iload_n_ok (pc := 0) hx hb dX12_isSame_0 rfl hk) ?_
  refine rz_All_c (i := 1) (fun k J hk hJ => rz_iload_ok (pc := 1) hx hb dX12_isSame_1 hk) ?_
  refine rz_All_c (i := 2) (fun k J hk hJ => rz_icmpne_ok (pc := 3) hx hb dX12_isSame_3 rfl hk (hJ 5)) ?_
  refine rz_All_c (i := 3) (fun k J hk hJ => rz_iconst_ok (pc := 6) hx hb dX12_isSame_6 rfl hk) ?_
  refine rz_All_c (i := 4) (fun k J hk hJ => rz_goto_ok (pc := 7) hx hb dX12_isSame_7 rfl (hJ 6)) ?_
  refine rz_All_c (i := 5) (fun k J hk hJ => rz_iconst_ok (pc := 10) hx hb dX12_isSame_10 rfl hk) ?_
  refine rz_All_c (i := 6) (fun k J hk hJ => rz_istore_ok (pc := 11) hx hb dX12_isSame_11 hk) ?_
  refine rz_All_c (i := 7) (fun k J hk hJ => rz_iconst_ok (pc := 13) hx hb dX12_isSame_13 rfl hk) ?_
  refine rz_All_c (i := 8) (fun k J hk hJ => rz_istore_ok (pc := 14) hx hb dX12_isSame_14 hk) ?_
  refine rz_All_c (i := 9) (fun k J hk hJ => rz_iload_ok (pc := 16) hx hb dX12_isSame_16 hk) ?_
  refine rz_All_c (i := 10) (fun k J hk hJ => rz_iload_n_ok (pc := 18) hx hb dX12_isSame_18 rfl hk) ?_
  refine rz_All_c (i := 11) (fun k J hk hJ => rz_icmpge_ok (pc := 19) hx hb dX12_isSame_19 rfl hk (hJ 33)) ?_
  refine rz_All_c (i := 12) (fun k J hk hJ => rz_iload_ok (pc := 22) hx hb dX12_isSame_22 hk) ?_
  refine rz_All_c (i := 13) (fun k J hk hJ => rz_ifeq_ok (pc := 24) hx hb dX12_isSame_24 rfl hk (hJ 33)) ?_
  refine rz_All_c (i := 14) (fun k J hk hJ => rz_aload_n_ok (pc := 27) hx hb dX12_isSame_27 rfl hk) ?_
  refine rz_All_c (i := 15) (fun k J hk hJ => rz_getf_ok (pc := 28) (own := RX12) (ref := "ThreadJudgeModel") (C := RX12) (T := TX12) (N := 257) (ci := 14) (index := 13) (f := 2) (t := 2) (Ts := Cond.code yX12_isSame cX12_isSame 7 (some .boolean) :: rz_TB) hx hb hts rz_in14 ho hK rfl (by decide) rfl (fun _ => rfl) (hw (i := 32) (j := 13) rfl rfl) (fun _ z => z) dX12_isSame_28 hk) ?_
  refine rz_All_c (i := 16) (fun k J hk hJ => rz_iload_n_ok (pc := 31) hx hb dX12_isSame_31 rfl hk) ?_
  refine rz_All_c (i := 17) (fun k J hk hJ => rz_iload_ok (pc := 32) hx hb dX12_isSame_32 hk) ?_
  refine rz_All_c (i := 18) (fun k J hk hJ => rz_iadd_ok (pc := 34) hx hb dX12_isSame_34 hk) ?_
  refine rz_All_c (i := 19) (fun k J hk hJ => rz_iald_ok (pc := 35) hx hb hK dX12_isSame_35 hk) ?_
  refine rz_All_c (i := 20) (fun k J hk hJ => rz_aload_n_ok (pc := 36) hx hb dX12_isSame_36 rfl hk) ?_
  refine rz_All_c (i := 21) (fun k J hk hJ => rz_getf_ok (pc := 37) (own := RX12) (ref := "ThreadJudgeModel") (C := RX12) (T := TX12) (N := 257) (ci := 14) (index := 13) (f := 2) (t := 2) (Ts := Cond.code yX12_isSame cX12_isSame 7 (some .boolean) :: rz_TB) hx hb hts rz_in14 ho hK rfl (by decide) rfl (fun _ => rfl) (hw (i := 32) (j := 13) rfl rfl) (fun _ z => z) dX12_isSame_37 hk) ?_
  refine rz_All_c (i := 22) (fun k J hk hJ => rz_iload_n_ok (pc := 40) hx hb dX12_isSame_40 rfl hk) ?_
  refine rz_All_c (i := 23) (fun k J hk hJ => rz_iload_ok (pc := 41) hx hb dX12_isSame_41 hk) ?_
  refine rz_All_c (i := 24) (fun k J hk hJ => rz_iadd_ok (pc := 43) hx hb dX12_isSame_43 hk) ?_
  refine rz_All_c (i := 25) (fun k J hk hJ => rz_iald_ok (pc := 44) hx hb hK dX12_isSame_44 hk) ?_
  refine rz_All_c (i := 26) (fun k J hk hJ => rz_icmpne_ok (pc := 45) hx hb dX12_isSame_45 rfl hk (hJ 29)) ?_
  refine rz_All_c (i := 27) (fun k J hk hJ => rz_iconst_ok (pc := 48) hx hb dX12_isSame_48 rfl hk) ?_
  refine rz_All_c (i := 28) (fun k J hk hJ => rz_goto_ok (pc := 49) hx hb dX12_isSame_49 rfl (hJ 30)) ?_
  refine rz_All_c (i := 29) (fun k J hk hJ => rz_iconst_ok (pc := 52) hx hb dX12_isSame_52 rfl hk) ?_
  refine rz_All_c (i := 30) (fun k J hk hJ => rz_istore_ok (pc := 53) hx hb dX12_isSame_53 hk) ?_
  refine rz_All_c (i := 31) (fun k J hk hJ => rz_iinc_ok (pc := 55) hx hb dX12_isSame_55 (by decide) hk) ?_
  refine rz_All_c (i := 32) (fun k J hk hJ => rz_goto_ok (pc := 58) hx hb dX12_isSame_58 rfl (hJ 9)) ?_
  refine rz_All_c (i := 33) (fun k J hk hJ => rz_iload_ok (pc := 61) hx hb dX12_isSame_61 hk) ?_
  refine rz_All_c (i := 34) (fun k J hk hJ => rz_zret_ok (pc := 63) hC dX12_isSame_63) ?_
  exact trivial
theorem dX12_classNamed_0 : decode cX12_classNamed 0 = .ok (.iconst 0, 1) := by decide +kernel
theorem dX12_classNamed_1 : decode cX12_classNamed 1 = .ok (.istore_n 3, 1) := by decide +kernel
theorem dX12_classNamed_2 : decode cX12_classNamed 2 = .ok (.iload_n 3, 1) := by decide +kernel
theorem dX12_classNamed_3 : decode cX12_classNamed 3 = .ok (.aload_n 0, 1) := by decide +kernel
theorem dX12_classNamed_4 : decode cX12_classNamed 4 = .ok (.getfield 684, 3) := by decide +kernel
theorem dX12_classNamed_7 : decode cX12_classNamed 7 = .ok (.if_icmp .ge 32, 3) := by decide +kernel
theorem dX12_classNamed_10 : decode cX12_classNamed 10 = .ok (.aload_n 0, 1) := by decide +kernel
theorem dX12_classNamed_11 : decode cX12_classNamed 11 = .ok (.aload_n 0, 1) := by decide +kernel
theorem dX12_classNamed_12 : decode cX12_classNamed 12 = .ok (.getfield 20, 3) := by decide +kernel
theorem dX12_classNamed_15 : decode cX12_classNamed 15 = .ok (.iload_n 3, 1) := by decide +kernel
theorem dX12_classNamed_16 : decode cX12_classNamed 16 = .ok (.iaload, 1) := by decide +kernel
theorem dX12_classNamed_17 : decode cX12_classNamed 17 = .ok (.aload_n 0, 1) := by decide +kernel
theorem dX12_classNamed_18 : decode cX12_classNamed 18 = .ok (.getfield 23, 3) := by decide +kernel
theorem dX12_classNamed_21 : decode cX12_classNamed 21 = .ok (.iload_n 3, 1) := by decide +kernel
theorem dX12_classNamed_22 : decode cX12_classNamed 22 = .ok (.iaload, 1) := by decide +kernel
theorem dX12_classNamed_23 : decode cX12_classNamed 23 = .ok (.iload_n 1, 1) := by decide +kernel
theorem dX12_classNamed_24 : decode cX12_classNamed 24 = .ok (.iload_n 2, 1) := by decide +kernel
theorem dX12_classNamed_25 : decode cX12_classNamed 25 = .ok (.invokevirtual 734, 3) := by decide +kernel
theorem dX12_classNamed_28 : decode cX12_classNamed 28 = .ok (.ifCond .eq 5, 3) := by decide +kernel
theorem dX12_classNamed_31 : decode cX12_classNamed 31 = .ok (.iload_n 3, 1) := by decide +kernel
theorem dX12_classNamed_32 : decode cX12_classNamed 32 = .ok (.ireturn, 1) := by decide +kernel
theorem dX12_classNamed_33 : decode cX12_classNamed 33 = .ok (.iinc 3 1, 3) := by decide +kernel
theorem dX12_classNamed_36 : decode cX12_classNamed 36 = .ok (.goto (-34), 3) := by decide +kernel
def rpX12_classNamed : List Nat := [0, 1, 2, 3, 4, 7, 10, 11, 12, 15, 16, 17, 18, 21, 22, 23, 24, 25, 28, 31, 32, 33, 36, 39]
noncomputable def rcX12_classNamed : List rz_B := [rz_cst 0, rz_istore 3, rz_iload 3, rz_aload 0, rz_getf (Nat.add (Nat.mul 256 14) 1) 13 rz_i, rz_icmpge 23, rz_aload 0, rz_aload 0, rz_getf (Nat.add (Nat.mul 256 14) 1) 14 rz_r, rz_iload 3, rz_iald, rz_aload 0, rz_getf (Nat.add (Nat.mul 256 14) 1) 15 rz_r, rz_iload 3, rz_iald, rz_iload 1, rz_iload 2, rz_callV 4 (Nat.add (Nat.mul 256 14) 1) rgX12_isSame, rz_ifeq 21, rz_iload 3, rz_iret, rz_iinc 3 1, rz_goto 2, rz_no]
noncomputable def rgX12_classNamed : rz_L → rz_M → rz_Z → Bool := rz_go rcX12_classNamed 4 1000000
def rrX12_classNamed : Room := { frames := 1, cells := 0, slots := 0, locals := 26 }
theorem rmX12_classNamed (l : Launch) {G : rz_G} (hG : rz_Gd G) (vs : rz_L) (M : rz_M) (Z : rz_Z) (hn : vs.length = 3) (h : rgX12_classNamed vs M Z = true) : Met l yX12_classNamed (Cond.code yX12_classNamed cX12_classNamed 4 (some .int) :: rz_TB) rrX12_classNamed (rz_Pre G vs M) (rz_Qi G M.2 Z) 0 0 (fun q => rz_b G ≤ q) := by
  obtain ⟨D, tc, ad, b, xs, rfl⟩ := id hG
  refine rz_body (pcs := rpX12_classNamed) (by decide) rfl (by rw [hn]; decide) h ?_
  intro p e R s m args below meth c hC
  obtain ⟨hx, hb, hml, hr, hlk, ho, hts, hKn, hRm⟩ := id hC
  obtain ⟨hK, hA, hSt⟩ := id hKn
  have hw : ∀ {i j : Nat} {ws : List Cond} {w : Cond}, rz_WW[i]? = some ws → ws[j]? = some w → w.before args s = true := fun h1 h2 => hts _ (List.mem_cons_of_mem _ (rz_mem h1 h2))
  refine rz_All_c (i := 0) (fun k J hk hJ => rz_iconst_ok (pc := 0) hx hb dX12_classNamed_0 rfl hk) ?_
  refine rz_All_c (i := 1) (fun k J hk hJ => rz_istore_n_ok (pc := 1) hx hb dX12_classNamed_1 rfl hk) ?_
  refine rz_All_c (i := 2) (fun k J hk hJ => rz_iload_n_ok (pc := 2) hx hb dX12_classNamed_2 rfl hk) ?_
  refine rz_All_c (i := 3) (fun k J hk hJ => rz_aload_n_ok (pc := 3) hx hb dX12_classNamed_3 rfl hk) ?_
  refine rz_All_c (i := 4) (fun k J hk hJ => rz_getf_ok (pc := 4) (own := RX12) (ref := "ThreadJudgeModel") (C := RX12) (T := TX12) (N := 257) (ci := 14) (index := 684) (f := 13) (t := 0) (Ts := Cond.code yX12_classNamed cX12_classNamed 4 (some .int) :: rz_TB) hx hb hts rz_in14 ho hK rfl (by decide) rfl (fun _ => rfl) (hw (i := 32) (j := 17) rfl rfl) (fun _ z => z) dX12_classNamed_4 hk) ?_
  refine rz_All_c (i := 5) (fun k J hk hJ => rz_icmpge_ok (pc := 7) hx hb dX12_classNamed_7 rfl hk (hJ 23)) ?_
  refine rz_All_c (i := 6) (fun k J hk hJ => rz_aload_n_ok (pc := 10) hx hb dX12_classNamed_10 rfl hk) ?_
  refine rz_All_c (i := 7) (fun k J hk hJ => rz_aload_n_ok (pc := 11) hx hb dX12_classNamed_11 rfl hk) ?_
  refine rz_All_c (i := 8) (fun k J hk hJ => rz_getf_ok (pc := 12) (own := RX12) (ref := "ThreadJudgeModel") (C := RX12) (T := TX12) (N := 257) (ci := 14) (index := 20) (f := 14) (t := 2) (Ts := Cond.code yX12_classNamed cX12_classNamed 4 (some .int) :: rz_TB) hx hb hts rz_in14 ho hK rfl (by decide) rfl (fun _ => rfl) (hw (i := 36) (j := 10) rfl rfl) (fun _ z => z) dX12_classNamed_12 hk) ?_
  refine rz_All_c (i := 9) (fun k J hk hJ => rz_iload_n_ok (pc := 15) hx hb dX12_classNamed_15 rfl hk) ?_
  refine rz_All_c (i := 10) (fun k J hk hJ => rz_iald_ok (pc := 16) hx hb hK dX12_classNamed_16 hk) ?_
  refine rz_All_c (i := 11) (fun k J hk hJ => rz_aload_n_ok (pc := 17) hx hb dX12_classNamed_17 rfl hk) ?_
  refine rz_All_c (i := 12) (fun k J hk hJ => rz_getf_ok (pc := 18) (own := RX12) (ref := "ThreadJudgeModel") (C := RX12) (T := TX12) (N := 257) (ci := 14) (index := 23) (f := 15) (t := 2) (Ts := Cond.code yX12_classNamed cX12_classNamed 4 (some .int) :: rz_TB) hx hb hts rz_in14 ho hK rfl (by decide) rfl (fun _ => rfl) (hw (i := 36) (j := 12) rfl rfl) (fun _ z => z) dX12_classNamed_18 hk) ?_
  refine rz_All_c (i := 13) (fun k J hk hJ => rz_iload_n_ok (pc := 21) hx hb dX12_classNamed_21 rfl hk) ?_
  refine rz_All_c (i := 14) (fun k J hk hJ => rz_iald_ok (pc := 22) hx hb hK dX12_classNamed_22 hk) ?_
  refine rz_All_c (i := 15) (fun k J hk hJ => rz_iload_n_ok (pc := 23) hx hb dX12_classNamed_23 rfl hk) ?_
  refine rz_All_c (i := 16) (fun k J hk hJ => rz_iload_n_ok (pc := 24) hx hb dX12_classNamed_24 rfl hk) ?_
  refine rz_All_c (i := 17) (fun k J hk hJ => rz_callV_ok (pc := 25) (own := RX12) (C := RX12) (T0 := TX12) (N0 := 257) hC rfl (rmX12_isSame l hG) (rz_cwV 4 hC rz_good (rz_mem (i := 41) (j := 16) rfl rfl) (rz_mem (i := 41) (j := 17) rfl rfl) (rz_mem (i := 41) (j := 18) rfl rfl) (rz_mem (i := 32) (j := 8) rfl rfl) (rz_mem (i := 41) (j := 19) rfl rfl) ⟨rfl, by decide, by decide, by decide +kernel⟩ rfl rfl ⟨by decide, by decide⟩) rfl dX12_classNamed_25 hk) ?_
  refine rz_All_c (i := 18) (fun k J hk hJ => rz_ifeq_ok (pc := 28) hx hb dX12_classNamed_28 rfl hk (hJ 21)) ?_
  refine rz_All_c (i := 19) (fun k J hk hJ => rz_iload_n_ok (pc := 31) hx hb dX12_classNamed_31 rfl hk) ?_
  refine rz_All_c (i := 20) (fun k J hk hJ => rz_iret_ok (pc := 32) hC dX12_classNamed_32) ?_
  refine rz_All_c (i := 21) (fun k J hk hJ => rz_iinc_ok (pc := 33) hx hb dX12_classNamed_33 (by decide) hk) ?_
  refine rz_All_c (i := 22) (fun k J hk hJ => rz_goto_ok (pc := 36) hx hb dX12_classNamed_36 rfl (hJ 2)) ?_
  refine rz_All_c (i := 23) (fun k J hk hJ => rz_no_ok) ?_
  exact trivial
theorem dX12_closeBelow_0 : decode cX12_closeBelow 0 = .ok (.iconst 0, 1) := by decide +kernel
theorem dX12_closeBelow_1 : decode cX12_closeBelow 1 = .ok (.istore_n 1, 1) := by decide +kernel
theorem dX12_closeBelow_2 : decode cX12_closeBelow 2 = .ok (.iload_n 1, 1) := by decide +kernel
theorem dX12_closeBelow_3 : decode cX12_closeBelow 3 = .ok (.aload_n 0, 1) := by decide +kernel
theorem dX12_closeBelow_4 : decode cX12_closeBelow 4 = .ok (.getfield 684, 3) := by decide +kernel
theorem dX12_closeBelow_7 : decode cX12_closeBelow 7 = .ok (.if_icmp .ge 46, 3) := by decide +kernel
theorem dX12_closeBelow_10 : decode cX12_closeBelow 10 = .ok (.iconst 0, 1) := by decide +kernel
theorem dX12_closeBelow_11 : decode cX12_closeBelow 11 = .ok (.istore_n 2, 1) := by decide +kernel
theorem dX12_closeBelow_12 : decode cX12_closeBelow 12 = .ok (.iload_n 2, 1) := by decide +kernel
theorem dX12_closeBelow_13 : decode cX12_closeBelow 13 = .ok (.aload_n 0, 1) := by decide +kernel
theorem dX12_closeBelow_14 : decode cX12_closeBelow 14 = .ok (.getfield 684, 3) := by decide +kernel
theorem dX12_closeBelow_17 : decode cX12_closeBelow 17 = .ok (.if_icmp .ge 30, 3) := by decide +kernel
theorem dX12_closeBelow_20 : decode cX12_closeBelow 20 = .ok (.aload_n 0, 1) := by decide +kernel
theorem dX12_closeBelow_21 : decode cX12_closeBelow 21 = .ok (.getfield 171, 3) := by decide +kernel
theorem dX12_closeBelow_24 : decode cX12_closeBelow 24 = .ok (.bipush 43, 2) := by decide +kernel
theorem dX12_closeBelow_26 : decode cX12_closeBelow 26 = .ok (.iload_n 1, 1) := by decide +kernel
theorem dX12_closeBelow_27 : decode cX12_closeBelow 27 = .ok (.imul, 1) := by decide +kernel
theorem dX12_closeBelow_28 : decode cX12_closeBelow 28 = .ok (.iload_n 2, 1) := by decide +kernel
theorem dX12_closeBelow_29 : decode cX12_closeBelow 29 = .ok (.iadd, 1) := by decide +kernel
theorem dX12_closeBelow_30 : decode cX12_closeBelow 30 = .ok (.iload_n 1, 1) := by decide +kernel
theorem dX12_closeBelow_31 : decode cX12_closeBelow 31 = .ok (.iload_n 2, 1) := by decide +kernel
theorem dX12_closeBelow_32 : decode cX12_closeBelow 32 = .ok (.if_icmp .ne 7, 3) := by decide +kernel
theorem dX12_closeBelow_35 : decode cX12_closeBelow 35 = .ok (.iconst 1, 1) := by decide +kernel
theorem dX12_closeBelow_36 : decode cX12_closeBelow 36 = .ok (.goto 4, 3) := by decide +kernel
theorem dX12_closeBelow_39 : decode cX12_closeBelow 39 = .ok (.iconst 0, 1) := by decide +kernel
theorem dX12_closeBelow_40 : decode cX12_closeBelow 40 = .ok (.bastore, 1) := by decide +kernel
theorem dX12_closeBelow_41 : decode cX12_closeBelow 41 = .ok (.iinc 2 1, 3) := by decide +kernel
theorem dX12_closeBelow_44 : decode cX12_closeBelow 44 = .ok (.goto (-32), 3) := by decide +kernel
theorem dX12_closeBelow_47 : decode cX12_closeBelow 47 = .ok (.iinc 1 1, 3) := by decide +kernel
theorem dX12_closeBelow_50 : decode cX12_closeBelow 50 = .ok (.goto (-48), 3) := by decide +kernel
theorem dX12_closeBelow_53 : decode cX12_closeBelow 53 = .ok (.iconst 1, 1) := by decide +kernel
theorem dX12_closeBelow_54 : decode cX12_closeBelow 54 = .ok (.istore_n 1, 1) := by decide +kernel
theorem dX12_closeBelow_55 : decode cX12_closeBelow 55 = .ok (.iload_n 1, 1) := by decide +kernel
theorem dX12_closeBelow_56 : decode cX12_closeBelow 56 = .ok (.ifCond .eq 181, 3) := by decide +kernel
theorem dX12_closeBelow_59 : decode cX12_closeBelow 59 = .ok (.iconst 0, 1) := by decide +kernel
theorem dX12_closeBelow_60 : decode cX12_closeBelow 60 = .ok (.istore_n 1, 1) := by decide +kernel
theorem dX12_closeBelow_61 : decode cX12_closeBelow 61 = .ok (.iconst 0, 1) := by decide +kernel
theorem dX12_closeBelow_62 : decode cX12_closeBelow 62 = .ok (.istore_n 2, 1) := by decide +kernel
theorem dX12_closeBelow_63 : decode cX12_closeBelow 63 = .ok (.iload_n 2, 1) := by decide +kernel
theorem dX12_closeBelow_64 : decode cX12_closeBelow 64 = .ok (.aload_n 0, 1) := by decide +kernel
theorem dX12_closeBelow_65 : decode cX12_closeBelow 65 = .ok (.getfield 684, 3) := by decide +kernel
theorem dX12_closeBelow_68 : decode cX12_closeBelow 68 = .ok (.if_icmp .ge 166, 3) := by decide +kernel
theorem dX12_closeBelow_71 : decode cX12_closeBelow 71 = .ok (.iconst (-1), 1) := by decide +kernel
theorem dX12_closeBelow_72 : decode cX12_closeBelow 72 = .ok (.istore_n 3, 1) := by decide +kernel
theorem dX12_closeBelow_73 : decode cX12_closeBelow 73 = .ok (.iload_n 3, 1) := by decide +kernel
theorem dX12_closeBelow_74 : decode cX12_closeBelow 74 = .ok (.aload_n 0, 1) := by decide +kernel
theorem dX12_closeBelow_75 : decode cX12_closeBelow 75 = .ok (.getfield 42, 3) := by decide +kernel
theorem dX12_closeBelow_78 : decode cX12_closeBelow 78 = .ok (.iload_n 2, 1) := by decide +kernel
theorem dX12_closeBelow_79 : decode cX12_closeBelow 79 = .ok (.iaload, 1) := by decide +kernel
theorem dX12_closeBelow_80 : decode cX12_closeBelow 80 = .ok (.if_icmp .ge 148, 3) := by decide +kernel
theorem dX12_closeBelow_83 : decode cX12_closeBelow 83 = .ok (.iload_n 3, 1) := by decide +kernel
theorem dX12_closeBelow_84 : decode cX12_closeBelow 84 = .ok (.ifCond .ge 12, 3) := by decide +kernel
theorem dX12_closeBelow_87 : decode cX12_closeBelow 87 = .ok (.aload_n 0, 1) := by decide +kernel
theorem dX12_closeBelow_88 : decode cX12_closeBelow 88 = .ok (.getfield 165, 3) := by decide +kernel
theorem dX12_closeBelow_91 : decode cX12_closeBelow 91 = .ok (.iload_n 2, 1) := by decide +kernel
theorem dX12_closeBelow_92 : decode cX12_closeBelow 92 = .ok (.iaload, 1) := by decide +kernel
theorem dX12_closeBelow_93 : decode cX12_closeBelow 93 = .ok (.goto 14, 3) := by decide +kernel
theorem dX12_closeBelow_96 : decode cX12_closeBelow 96 = .ok (.aload_n 0, 1) := by decide +kernel
theorem dX12_closeBelow_97 : decode cX12_closeBelow 97 = .ok (.getfield 168, 3) := by decide +kernel
theorem dX12_closeBelow_100 : decode cX12_closeBelow 100 = .ok (.bipush 6, 2) := by decide +kernel
theorem dX12_closeBelow_102 : decode cX12_closeBelow 102 = .ok (.iload_n 2, 1) := by decide +kernel
theorem dX12_closeBelow_103 : decode cX12_closeBelow 103 = .ok (.imul, 1) := by decide +kernel
theorem dX12_closeBelow_104 : decode cX12_closeBelow 104 = .ok (.iload_n 3, 1) := by decide +kernel
theorem dX12_closeBelow_105 : decode cX12_closeBelow 105 = .ok (.iadd, 1) := by decide +kernel
theorem dX12_closeBelow_106 : decode cX12_closeBelow 106 = .ok (.iaload, 1) := by decide +kernel
theorem dX12_closeBelow_107 : decode cX12_closeBelow 107 = .ok (.istore 4, 2) := by decide +kernel
theorem dX12_closeBelow_109 : decode cX12_closeBelow 109 = .ok (.iconst 0, 1) := by decide +kernel
theorem dX12_closeBelow_110 : decode cX12_closeBelow 110 = .ok (.istore 5, 2) := by decide +kernel
theorem dX12_closeBelow_112 : decode cX12_closeBelow 112 = .ok (.iload 5, 2) := by decide +kernel
theorem dX12_closeBelow_114 : decode cX12_closeBelow 114 = .ok (.aload_n 0, 1) := by decide +kernel
theorem dX12_closeBelow_115 : decode cX12_closeBelow 115 = .ok (.getfield 684, 3) := by decide +kernel
theorem dX12_closeBelow_118 : decode cX12_closeBelow 118 = .ok (.if_icmp .ge 104, 3) := by decide +kernel
theorem dX12_closeBelow_121 : decode cX12_closeBelow 121 = .ok (.iload 4, 2) := by decide +kernel
theorem dX12_closeBelow_123 : decode cX12_closeBelow 123 = .ok (.ifCond .lt 99, 3) := by decide +kernel
theorem dX12_closeBelow_126 : decode cX12_closeBelow 126 = .ok (.aload_n 0, 1) := by decide +kernel
theorem dX12_closeBelow_127 : decode cX12_closeBelow 127 = .ok (.getfield 171, 3) := by decide +kernel
theorem dX12_closeBelow_130 : decode cX12_closeBelow 130 = .ok (.bipush 43, 2) := by decide +kernel
theorem dX12_closeBelow_132 : decode cX12_closeBelow 132 = .ok (.iload 4, 2) := by decide +kernel
theorem dX12_closeBelow_134 : decode cX12_closeBelow 134 = .ok (.imul, 1) := by decide +kernel
theorem dX12_closeBelow_135 : decode cX12_closeBelow 135 = .ok (.iload 5, 2) := by decide +kernel
theorem dX12_closeBelow_137 : decode cX12_closeBelow 137 = .ok (.iadd, 1) := by decide +kernel
theorem dX12_closeBelow_138 : decode cX12_closeBelow 138 = .ok (.baload, 1) := by decide +kernel
theorem dX12_closeBelow_139 : decode cX12_closeBelow 139 = .ok (.ifCond .eq 22, 3) := by decide +kernel
theorem dX12_closeBelow_142 : decode cX12_closeBelow 142 = .ok (.aload_n 0, 1) := by decide +kernel
theorem dX12_closeBelow_143 : decode cX12_closeBelow 143 = .ok (.getfield 171, 3) := by decide +kernel
theorem dX12_closeBelow_146 : decode cX12_closeBelow 146 = .ok (.bipush 43, 2) := by decide +kernel
theorem dX12_closeBelow_148 : decode cX12_closeBelow 148 = .ok (.iload_n 2, 1) := by decide +kernel
theorem dX12_closeBelow_149 : decode cX12_closeBelow 149 = .ok (.imul, 1) := by decide +kernel
theorem dX12_closeBelow_150 : decode cX12_closeBelow 150 = .ok (.iload 5, 2) := by decide +kernel
theorem dX12_closeBelow_152 : decode cX12_closeBelow 152 = .ok (.iadd, 1) := by decide +kernel
theorem dX12_closeBelow_153 : decode cX12_closeBelow 153 = .ok (.baload, 1) := by decide +kernel
theorem dX12_closeBelow_154 : decode cX12_closeBelow 154 = .ok (.ifCond .ne 7, 3) := by decide +kernel
theorem dX12_closeBelow_157 : decode cX12_closeBelow 157 = .ok (.iconst 1, 1) := by decide +kernel
theorem dX12_closeBelow_158 : decode cX12_closeBelow 158 = .ok (.goto 4, 3) := by decide +kernel
theorem dX12_closeBelow_161 : decode cX12_closeBelow 161 = .ok (.iconst 0, 1) := by decide +kernel
theorem dX12_closeBelow_162 : decode cX12_closeBelow 162 = .ok (.istore 6, 2) := by decide +kernel
theorem dX12_closeBelow_164 : decode cX12_closeBelow 164 = .ok (.aload_n 0, 1) := by decide +kernel
theorem dX12_closeBelow_165 : decode cX12_closeBelow 165 = .ok (.getfield 171, 3) := by decide +kernel
theorem dX12_closeBelow_168 : decode cX12_closeBelow 168 = .ok (.bipush 43, 2) := by decide +kernel
theorem dX12_closeBelow_170 : decode cX12_closeBelow 170 = .ok (.iload_n 2, 1) := by decide +kernel
theorem dX12_closeBelow_171 : decode cX12_closeBelow 171 = .ok (.imul, 1) := by decide +kernel
theorem dX12_closeBelow_172 : decode cX12_closeBelow 172 = .ok (.iload 5, 2) := by decide +kernel
theorem dX12_closeBelow_174 : decode cX12_closeBelow 174 = .ok (.iadd, 1) := by decide +kernel
theorem dX12_closeBelow_175 : decode cX12_closeBelow 175 = .ok (.iload 6, 2) := by decide +kernel
theorem dX12_closeBelow_177 : decode cX12_closeBelow 177 = .ok (.ifCond .ne 18, 3) := by decide +kernel
theorem dX12_closeBelow_180 : decode cX12_closeBelow 180 = .ok (.aload_n 0, 1) := by decide +kernel
theorem dX12_closeBelow_181 : decode cX12_closeBelow 181 = .ok (.getfield 171, 3) := by decide +kernel
theorem dX12_closeBelow_184 : decode cX12_closeBelow 184 = .ok (.bipush 43, 2) := by decide +kernel
theorem dX12_closeBelow_186 : decode cX12_closeBelow 186 = .ok (.iload_n 2, 1) := by decide +kernel
theorem dX12_closeBelow_187 : decode cX12_closeBelow 187 = .ok (.imul, 1) := by decide +kernel
theorem dX12_closeBelow_188 : decode cX12_closeBelow 188 = .ok (.iload 5, 2) := by decide +kernel
theorem dX12_closeBelow_190 : decode cX12_closeBelow 190 = .ok (.iadd, 1) := by decide +kernel
theorem dX12_closeBelow_191 : decode cX12_closeBelow 191 = .ok (.baload, 1) := by decide +kernel
theorem dX12_closeBelow_192 : decode cX12_closeBelow 192 = .ok (.ifCond .eq 7, 3) := by decide +kernel
theorem dX12_closeBelow_195 : decode cX12_closeBelow 195 = .ok (.iconst 1, 1) := by decide +kernel
theorem dX12_closeBelow_196 : decode cX12_closeBelow 196 = .ok (.goto 4, 3) := by decide +kernel
theorem dX12_closeBelow_199 : decode cX12_closeBelow 199 = .ok (.iconst 0, 1) := by decide +kernel
theorem dX12_closeBelow_200 : decode cX12_closeBelow 200 = .ok (.bastore, 1) := by decide +kernel
theorem dX12_closeBelow_201 : decode cX12_closeBelow 201 = .ok (.iload_n 1, 1) := by decide +kernel
theorem dX12_closeBelow_202 : decode cX12_closeBelow 202 = .ok (.ifCond .ne 8, 3) := by decide +kernel
theorem dX12_closeBelow_205 : decode cX12_closeBelow 205 = .ok (.iload 6, 2) := by decide +kernel
theorem dX12_closeBelow_207 : decode cX12_closeBelow 207 = .ok (.ifCond .eq 7, 3) := by decide +kernel
theorem dX12_closeBelow_210 : decode cX12_closeBelow 210 = .ok (.iconst 1, 1) := by decide +kernel
theorem dX12_closeBelow_211 : decode cX12_closeBelow 211 = .ok (.goto 4, 3) := by decide +kernel
theorem dX12_closeBelow_214 : decode cX12_closeBelow 214 = .ok (.iconst 0, 1) := by decide +kernel
theorem dX12_closeBelow_215 : decode cX12_closeBelow 215 = .ok (.istore_n 1, 1) := by decide +kernel
theorem dX12_closeBelow_216 : decode cX12_closeBelow 216 = .ok (.iinc 5 1, 3) := by decide +kernel
theorem dX12_closeBelow_219 : decode cX12_closeBelow 219 = .ok (.goto (-107), 3) := by decide +kernel
theorem dX12_closeBelow_222 : decode cX12_closeBelow 222 = .ok (.iinc 3 1, 3) := by decide +kernel
theorem dX12_closeBelow_225 : decode cX12_closeBelow 225 = .ok (.goto (-152), 3) := by decide +kernel
theorem dX12_closeBelow_228 : decode cX12_closeBelow 228 = .ok (.iinc 2 1, 3) := by decide +kernel
theorem dX12_closeBelow_231 : decode cX12_closeBelow 231 = .ok (.goto (-168), 3) := by decide +kernel
theorem dX12_closeBelow_234 : decode cX12_closeBelow 234 = .ok (.goto (-179), 3) := by decide +kernel
theorem dX12_closeBelow_237 : decode cX12_closeBelow 237 = .ok (.return_, 1) := by decide +kernel
def rpX12_closeBelow : List Nat := [0, 1, 2, 3, 4, 7, 10, 11, 12, 13, 14, 17, 20, 21, 24, 26, 27, 28, 29, 30, 31, 32, 35, 36, 39, 40, 41, 44, 47, 50, 53, 54, 55, 56, 59, 60, 61, 62, 63, 64, 65, 68, 71, 72, 73, 74, 75, 78, 79, 80, 83, 84, 87, 88, 91, 92, 93, 96, 97, 100, 102, 103, 104, 105, 106, 107, 109, 110, 112, 114, 115, 118, 121, 123, 126, 127, 130, 132, 134, 135, 137, 138, 139, 142, 143, 146, 148, 149, 150, 152, 153, 154, 157, 158, 161, 162, 164, 165, 168, 170, 171, 172, 174, 175, 177, 180, 181, 184, 186, 187, 188, 190, 191, 192, 195, 196, 199, 200, 201, 202, 205, 207, 210, 211, 214, 215, 216, 219, 222, 225, 228, 231, 234, 237]
noncomputable def rcX12_closeBelow : List rz_B := [rz_cst 0, rz_istore 1, rz_iload 1, rz_aload 0, rz_getf (Nat.add (Nat.mul 256 14) 1) 13 rz_i, rz_icmpge 30, rz_cst 0, rz_istore 2, rz_iload 2, rz_aload 0, rz_getf (Nat.add (Nat.mul 256 14) 1) 13 rz_i, rz_icmpge 28, rz_aload 0, rz_getf (Nat.add (Nat.mul 256 14) 1) 73 rz_r, rz_cst 43, rz_iload 1, rz_imul, rz_iload 2, rz_iadd, rz_iload 1, rz_iload 2, rz_icmpne 24, rz_cst 1, rz_goto 25, rz_cst 0, rz_zast, rz_iinc 2 1, rz_goto 8, rz_iinc 1 1, rz_goto 2, rz_cst 1, rz_istore 1, rz_iload 1, rz_ifeq 133, rz_cst 0, rz_istore 1, rz_cst 0, rz_istore 2, rz_iload 2, rz_aload 0, rz_getf (Nat.add (Nat.mul 256 14) 1) 13 rz_i, rz_icmpge 132, rz_cst 4294967295, rz_istore 3, rz_iload 3, rz_aload 0, rz_getf (Nat.add (Nat.mul 256 14) 1) 21 rz_r, rz_iload 2, rz_iald, rz_icmpge 130, rz_iload 3, rz_ifge 57, rz_aload 0, rz_getf (Nat.add (Nat.mul 256 14) 1) 71 rz_r, rz_iload 2, rz_iald, rz_goto 65, rz_aload 0, rz_getf (Nat.add (Nat.mul 256 14) 1) 72 rz_r, rz_cst 6, rz_iload 2, rz_imul, rz_iload 3, rz_iadd, rz_iald, rz_istore 4, rz_cst 0, rz_istore 5, rz_iload 5, rz_aload 0, rz_getf (Nat.add (Nat.mul 256 14) 1) 13 rz_i, rz_icmpge 128, rz_iload 4, rz_iflt 128, rz_aload 0, rz_getf (Nat.add (Nat.mul 256 14) 1) 73 rz_r, rz_cst 43, rz_iload 4, rz_imul, rz_iload 5, rz_iadd, rz_zald, rz_ifeq 94, rz_aload 0, rz_getf (Nat.add (Nat.mul 256 14) 1) 73 rz_r, rz_cst 43, rz_iload 2, rz_imul, rz_iload 5, rz_iadd, rz_zald, rz_ifne 94, rz_cst 1, rz_goto 95, rz_cst 0, rz_istore 6, rz_aload 0, rz_getf (Nat.add (Nat.mul 256 14) 1) 73 rz_r, rz_cst 43, rz_iload 2, rz_imul, rz_iload 5, rz_iadd, rz_iload 6, rz_ifne 114, rz_aload 0, rz_getf (Nat.add (Nat.mul 256 14) 1) 73 rz_r, rz_cst 43, rz_iload 2, rz_imul, rz_iload 5, rz_iadd, rz_zald, rz_ifeq 116, rz_cst 1, rz_goto 117, rz_cst 0, rz_zast, rz_iload 1, rz_ifne 122, rz_iload 6, rz_ifeq 124, rz_cst 1, rz_goto 125, rz_cst 0, rz_istore 1, rz_iinc 5 1, rz_goto 68, rz_iinc 3 1, rz_goto 44, rz_iinc 2 1, rz_goto 38, rz_goto 32, rz_vret]
noncomputable def rgX12_closeBelow : rz_L → rz_M → rz_Z → Bool := rz_go rcX12_closeBelow 7 1000000
def rrX12_closeBelow : Room := { frames := 0, cells := 0, slots := 0, locals := 0 }
theorem rmX12_closeBelow (l : Launch) {G : rz_G} (hG : rz_Gd G) (vs : rz_L) (M : rz_M) (Z : rz_Z) (hn : vs.length = 1) (h : rgX12_closeBelow vs M Z = true) : Met l yX12_closeBelow (Cond.code yX12_closeBelow cX12_closeBelow 7 none :: rz_TB) rrX12_closeBelow (rz_Pre G vs M) (rz_Qv G M.2 Z) 0 0 (fun q => rz_b G ≤ q) := by
  obtain ⟨D, tc, ad, b, xs, rfl⟩ := id hG
  refine rz_body (pcs := rpX12_closeBelow) (by decide) rfl (by rw [hn]; decide) h ?_
  intro p e R s m args below meth c hC
  obtain ⟨hx, hb, hml, hr, hlk, ho, hts, hKn, hRm⟩ := id hC
  obtain ⟨hK, hA, hSt⟩ := id hKn
  have hw : ∀ {i j : Nat} {ws : List Cond} {w : Cond}, rz_WW[i]? = some ws → ws[j]? = some w → w.before args s = true := fun h1 h2 => hts _ (List.mem_cons_of_mem _ (rz_mem h1 h2))
  refine rz_All_c (i := 0) (fun k J hk hJ => rz_iconst_ok (pc := 0) hx hb dX12_closeBelow_0 rfl hk) ?_
  refine rz_All_c (i := 1) (fun k J hk hJ => rz_istore_n_ok (pc := 1) hx hb dX12_closeBelow_1 rfl hk) ?_
  refine rz_All_c (i := 2) (fun k J hk hJ => rz_iload_n_ok (pc := 2) hx hb dX12_closeBelow_2 rfl hk) ?_
  refine rz_All_c (i := 3) (fun k J hk hJ => rz_aload_n_ok (pc := 3) hx hb dX12_closeBelow_3 rfl hk) ?_
  refine rz_All_c (i := 4) (fun k J hk hJ => rz_getf_ok (pc := 4) (own := RX12) (ref := "ThreadJudgeModel") (C := RX12) (T := TX12) (N := 257) (ci := 14) (index := 684) (f := 13) (t := 0) (Ts := Cond.code yX12_closeBelow cX12_closeBelow 7 none :: rz_TB) hx hb hts rz_in14 ho hK rfl (by decide) rfl (fun _ => rfl) (hw (i := 32) (j := 17) rfl rfl) (fun _ z => z) dX12_closeBelow_4 hk) ?_
  refine rz_All_c (i := 5) (fun k J hk hJ => rz_icmpge_ok (pc := 7) hx hb dX12_closeBelow_7 rfl hk (hJ 30)) ?_
  refine rz_All_c (i := 6) (fun k J hk hJ => rz_iconst_ok (pc := 10) hx hb dX12_closeBelow_10 rfl hk) ?_
  refine rz_All_c (i := 7) (fun k J hk hJ => rz_istore_n_ok (pc := 11) hx hb dX12_closeBelow_11 rfl hk) ?_
  refine rz_All_c (i := 8) (fun k J hk hJ => rz_iload_n_ok (pc := 12) hx hb dX12_closeBelow_12 rfl hk) ?_
  refine rz_All_c (i := 9) (fun k J hk hJ => rz_aload_n_ok (pc := 13) hx hb dX12_closeBelow_13 rfl hk) ?_
  refine rz_All_c (i := 10) (fun k J hk hJ => rz_getf_ok (pc := 14) (own := RX12) (ref := "ThreadJudgeModel") (C := RX12) (T := TX12) (N := 257) (ci := 14) (index := 684) (f := 13) (t := 0) (Ts := Cond.code yX12_closeBelow cX12_closeBelow 7 none :: rz_TB) hx hb hts rz_in14 ho hK rfl (by decide) rfl (fun _ => rfl) (hw (i := 32) (j := 17) rfl rfl) (fun _ z => z) dX12_closeBelow_14 hk) ?_
  refine rz_All_c (i := 11) (fun k J hk hJ => rz_icmpge_ok (pc := 17) hx hb dX12_closeBelow_17 rfl hk (hJ 28)) ?_
  refine rz_All_c (i := 12) (fun k J hk hJ => rz_aload_n_ok (pc := 20) hx hb dX12_closeBelow_20 rfl hk) ?_
  refine rz_All_c (i := 13) (fun k J hk hJ => rz_getf_ok (pc := 21) (own := RX12) (ref := "ThreadJudgeModel") (C := RX12) (T := TX12) (N := 257) (ci := 14) (index := 171) (f := 73) (t := 2) (Ts := Cond.code yX12_closeBelow cX12_closeBelow 7 none :: rz_TB) hx hb hts rz_in14 ho hK rfl (by decide) rfl (fun _ => rfl) (hw (i := 43) (j := 10) rfl rfl) (fun _ z => z) dX12_closeBelow_21 hk) ?_
  refine rz_All_c (i := 14) (fun k J hk hJ => rz_bipush_ok (pc := 24) hx hb dX12_closeBelow_24 (by decide) hk) ?_
  refine rz_All_c (i := 15) (fun k J hk hJ => rz_iload_n_ok (pc := 26) hx hb dX12_closeBelow_26 rfl hk) ?_
  refine rz_All_c (i := 16) (fun k J hk hJ => rz_imul_ok (pc := 27) hx hb dX12_closeBelow_27 hk) ?_
  refine rz_All_c (i := 17) (fun k J hk hJ => rz_iload_n_ok (pc := 28) hx hb dX12_closeBelow_28 rfl hk) ?_
  refine rz_All_c (i := 18) (fun k J hk hJ => rz_iadd_ok (pc := 29) hx hb dX12_closeBelow_29 hk) ?_
  refine rz_All_c (i := 19) (fun k J hk hJ => rz_iload_n_ok (pc := 30) hx hb dX12_closeBelow_30 rfl hk) ?_
  refine rz_All_c (i := 20) (fun k J hk hJ => rz_iload_n_ok (pc := 31) hx hb dX12_closeBelow_31 rfl hk) ?_
  refine rz_All_c (i := 21) (fun k J hk hJ => rz_icmpne_ok (pc := 32) hx hb dX12_closeBelow_32 rfl hk (hJ 24)) ?_
  refine rz_All_c (i := 22) (fun k J hk hJ => rz_iconst_ok (pc := 35) hx hb dX12_closeBelow_35 rfl hk) ?_
  refine rz_All_c (i := 23) (fun k J hk hJ => rz_goto_ok (pc := 36) hx hb dX12_closeBelow_36 rfl (hJ 25)) ?_
  refine rz_All_c (i := 24) (fun k J hk hJ => rz_iconst_ok (pc := 39) hx hb dX12_closeBelow_39 rfl hk) ?_
  refine rz_All_c (i := 25) (fun k J hk hJ => rz_zast_ok (pc := 40) hx hb hK hA dX12_closeBelow_40 hk) ?_
  refine rz_All_c (i := 26) (fun k J hk hJ => rz_iinc_ok (pc := 41) hx hb dX12_closeBelow_41 (by decide) hk) ?_
  refine rz_All_c (i := 27) (fun k J hk hJ => rz_goto_ok (pc := 44) hx hb dX12_closeBelow_44 rfl (hJ 8)) ?_
  refine rz_All_c (i := 28) (fun k J hk hJ => rz_iinc_ok (pc := 47) hx hb dX12_closeBelow_47 (by decide) hk) ?_
  refine rz_All_c (i := 29) (fun k J hk hJ => rz_goto_ok (pc := 50) hx hb dX12_closeBelow_50 rfl (hJ 2)) ?_
  refine rz_All_c (i := 30) (fun k J hk hJ => rz_iconst_ok (pc := 53) hx hb dX12_closeBelow_53 rfl hk) ?_
  refine rz_All_c (i := 31) (fun k J hk hJ => rz_istore_n_ok (pc := 54) hx hb dX12_closeBelow_54 rfl hk) ?_
  refine rz_All_c (i := 32) (fun k J hk hJ => rz_iload_n_ok (pc := 55) hx hb dX12_closeBelow_55 rfl hk) ?_
  refine rz_All_c (i := 33) (fun k J hk hJ => rz_ifeq_ok (pc := 56) hx hb dX12_closeBelow_56 rfl hk (hJ 133)) ?_
  refine rz_All_c (i := 34) (fun k J hk hJ => rz_iconst_ok (pc := 59) hx hb dX12_closeBelow_59 rfl hk) ?_
  refine rz_All_c (i := 35) (fun k J hk hJ => rz_istore_n_ok (pc := 60) hx hb dX12_closeBelow_60 rfl hk) ?_
  refine rz_All_c (i := 36) (fun k J hk hJ => rz_iconst_ok (pc := 61) hx hb dX12_closeBelow_61 rfl hk) ?_
  refine rz_All_c (i := 37) (fun k J hk hJ => rz_istore_n_ok (pc := 62) hx hb dX12_closeBelow_62 rfl hk) ?_
  refine rz_All_c (i := 38) (fun k J hk hJ => rz_iload_n_ok (pc := 63) hx hb dX12_closeBelow_63 rfl hk) ?_
  refine rz_All_c (i := 39) (fun k J hk hJ => rz_aload_n_ok (pc := 64) hx hb dX12_closeBelow_64 rfl hk) ?_
  refine rz_All_c (i := 40) (fun k J hk hJ => rz_getf_ok (pc := 65) (own := RX12) (ref := "ThreadJudgeModel") (C := RX12) (T := TX12) (N := 257) (ci := 14) (index := 684) (f := 13) (t := 0) (Ts := Cond.code yX12_closeBelow cX12_closeBelow 7 none :: rz_TB) hx hb hts rz_in14 ho hK rfl (by decide) rfl (fun _ => rfl) (hw (i := 32) (j := 17) rfl rfl) (fun _ z => z) dX12_closeBelow_65 hk) ?_
  refine rz_All_c (i := 41) (fun k J hk hJ => rz_icmpge_ok (pc := 68) hx hb dX12_closeBelow_68 rfl hk (hJ 132)) ?_
  refine rz_All_c (i := 42) (fun k J hk hJ => rz_iconst_ok (pc := 71) hx hb dX12_closeBelow_71 rfl hk) ?_
  refine rz_All_c (i := 43) (fun k J hk hJ => rz_istore_n_ok (pc := 72) hx hb dX12_closeBelow_72 rfl hk) ?_
  refine rz_All_c (i := 44) (fun k J hk hJ => rz_iload_n_ok (pc := 73) hx hb dX12_closeBelow_73 rfl hk) ?_
  refine rz_All_c (i := 45) (fun k J hk hJ => rz_aload_n_ok (pc := 74) hx hb dX12_closeBelow_74 rfl hk) ?_
  refine rz_All_c (i := 46) (fun k J hk hJ => rz_getf_ok (pc := 75) (own := RX12) (ref := "ThreadJudgeModel") (C := RX12) (T := TX12) (N := 257) (ci := 14) (index := 42) (f := 21) (t := 2) (Ts := Cond.code yX12_closeBelow cX12_closeBelow 7 none :: rz_TB) hx hb hts rz_in14 ho hK rfl (by decide) rfl (fun _ => rfl) (hw (i := 36) (j := 18) rfl rfl) (fun _ z => z) dX12_closeBelow_75 hk) ?_
  refine rz_All_c (i := 47) (fun k J hk hJ => rz_iload_n_ok (pc := 78) hx hb dX12_closeBelow_78 rfl hk) ?_
  refine rz_All_c (i := 48) (fun k J hk hJ => rz_iald_ok (pc := 79) hx hb hK dX12_closeBelow_79 hk) ?_
  refine rz_All_c (i := 49) (fun k J hk hJ => rz_icmpge_ok (pc := 80) hx hb dX12_closeBelow_80 rfl hk (hJ 130)) ?_
  refine rz_All_c (i := 50) (fun k J hk hJ => rz_iload_n_ok (pc := 83) hx hb dX12_closeBelow_83 rfl hk) ?_
  refine rz_All_c (i := 51) (fun k J hk hJ => rz_ifge_ok (pc := 84) hx hb dX12_closeBelow_84 rfl hk (hJ 57)) ?_
  refine rz_All_c (i := 52) (fun k J hk hJ => rz_aload_n_ok (pc := 87) hx hb dX12_closeBelow_87 rfl hk) ?_
  refine rz_All_c (i := 53) (fun k J hk hJ => rz_getf_ok (pc := 88) (own := RX12) (ref := "ThreadJudgeModel") (C := RX12) (T := TX12) (N := 257) (ci := 14) (index := 165) (f := 71) (t := 2) (Ts := Cond.code yX12_closeBelow cX12_closeBelow 7 none :: rz_TB) hx hb hts rz_in14 ho hK rfl (by decide) rfl (fun _ => rfl) (hw (i := 42) (j := 16) rfl rfl) (fun _ z => z) dX12_closeBelow_88 hk) ?_
  refine rz_All_c (i := 54) (fun k J hk hJ => rz_iload_n_ok (pc := 91) hx hb dX12_closeBelow_91 rfl hk) ?_
  refine rz_All_c (i := 55) (fun k J hk hJ => rz_iald_ok (pc := 92) hx hb hK dX12_closeBelow_92 hk) ?_
  refine rz_All_c (i := 56) (fun k J hk hJ => rz_goto_ok (pc := 93) hx hb dX12_closeBelow_93 rfl (hJ 65)) ?_
  refine rz_All_c (i := 57) (fun k J hk hJ => rz_aload_n_ok (pc := 96) hx hb dX12_closeBelow_96 rfl hk) ?_
  refine rz_All_c (i := 58) (fun k J hk hJ => rz_getf_ok (pc := 97) (own := RX12) (ref := "ThreadJudgeModel") (C := RX12) (T := TX12) (N := 257) (ci := 14) (index := 168) (f := 72) (t := 2) (Ts := Cond.code yX12_closeBelow cX12_closeBelow 7 none :: rz_TB) hx hb hts rz_in14 ho hK rfl (by decide) rfl (fun _ => rfl) (hw (i := 42) (j := 21) rfl rfl) (fun _ z => z) dX12_closeBelow_97 hk) ?_
  refine rz_All_c (i := 59) (fun k J hk hJ => rz_bipush_ok (pc := 100) hx hb dX12_closeBelow_100 (by decide) hk) ?_
  refine rz_All_c (i := 60) (fun k J hk hJ => rz_iload_n_ok (pc := 102) hx hb dX12_closeBelow_102 rfl hk) ?_
  refine rz_All_c (i := 61) (fun k J hk hJ => rz_imul_ok (pc := 103) hx hb dX12_closeBelow_103 hk) ?_
  refine rz_All_c (i := 62) (fun k J hk hJ => rz_iload_n_ok (pc := 104) hx hb dX12_closeBelow_104 rfl hk) ?_
  refine rz_All_c (i := 63) (fun k J hk hJ => rz_iadd_ok (pc := 105) hx hb dX12_closeBelow_105 hk) ?_
  refine rz_All_c (i := 64) (fun k J hk hJ => rz_iald_ok (pc := 106) hx hb hK dX12_closeBelow_106 hk) ?_
  refine rz_All_c (i := 65) (fun k J hk hJ => rz_istore_ok (pc := 107) hx hb dX12_closeBelow_107 hk) ?_
  refine rz_All_c (i := 66) (fun k J hk hJ => rz_iconst_ok (pc := 109) hx hb dX12_closeBelow_109 rfl hk) ?_
  refine rz_All_c (i := 67) (fun k J hk hJ => rz_istore_ok (pc := 110) hx hb dX12_closeBelow_110 hk) ?_
  refine rz_All_c (i := 68) (fun k J hk hJ => rz_iload_ok (pc := 112) hx hb dX12_closeBelow_112 hk) ?_
  refine rz_All_c (i := 69) (fun k J hk hJ => rz_aload_n_ok (pc := 114) hx hb dX12_closeBelow_114 rfl hk) ?_
  refine rz_All_c (i := 70) (fun k J hk hJ => rz_getf_ok (pc := 115) (own := RX12) (ref := "ThreadJudgeModel") (C := RX12) (T := TX12) (N := 257) (ci := 14) (index := 684) (f := 13) (t := 0) (Ts := Cond.code yX12_closeBelow cX12_closeBelow 7 none :: rz_TB) hx hb hts rz_in14 ho hK rfl (by decide) rfl (fun _ => rfl) (hw (i := 32) (j := 17) rfl rfl) (fun _ z => z) dX12_closeBelow_115 hk) ?_
  refine rz_All_c (i := 71) (fun k J hk hJ => rz_icmpge_ok (pc := 118) hx hb dX12_closeBelow_118 rfl hk (hJ 128)) ?_
  refine rz_All_c (i := 72) (fun k J hk hJ => rz_iload_ok (pc := 121) hx hb dX12_closeBelow_121 hk) ?_
  refine rz_All_c (i := 73) (fun k J hk hJ => rz_iflt_ok (pc := 123) hx hb dX12_closeBelow_123 rfl hk (hJ 128)) ?_
  refine rz_All_c (i := 74) (fun k J hk hJ => rz_aload_n_ok (pc := 126) hx hb dX12_closeBelow_126 rfl hk) ?_
  refine rz_All_c (i := 75) (fun k J hk hJ => rz_getf_ok (pc := 127) (own := RX12) (ref := "ThreadJudgeModel") (C := RX12) (T := TX12) (N := 257) (ci := 14) (index := 171) (f := 73) (t := 2) (Ts := Cond.code yX12_closeBelow cX12_closeBelow 7 none :: rz_TB) hx hb hts rz_in14 ho hK rfl (by decide) rfl (fun _ => rfl) (hw (i := 43) (j := 10) rfl rfl) (fun _ z => z) dX12_closeBelow_127 hk) ?_
  refine rz_All_c (i := 76) (fun k J hk hJ => rz_bipush_ok (pc := 130) hx hb dX12_closeBelow_130 (by decide) hk) ?_
  refine rz_All_c (i := 77) (fun k J hk hJ => rz_iload_ok (pc := 132) hx hb dX12_closeBelow_132 hk) ?_
  refine rz_All_c (i := 78) (fun k J hk hJ => rz_imul_ok (pc := 134) hx hb dX12_closeBelow_134 hk) ?_
  refine rz_All_c (i := 79) (fun k J hk hJ => rz_iload_ok (pc := 135) hx hb dX12_closeBelow_135 hk) ?_
  refine rz_All_c (i := 80) (fun k J hk hJ => rz_iadd_ok (pc := 137) hx hb dX12_closeBelow_137 hk) ?_
  refine rz_All_c (i := 81) (fun k J hk hJ => rz_zald_ok (pc := 138) hx hb hK dX12_closeBelow_138 hk) ?_
  refine rz_All_c (i := 82) (fun k J hk hJ => rz_ifeq_ok (pc := 139) hx hb dX12_closeBelow_139 rfl hk (hJ 94)) ?_
  refine rz_All_c (i := 83) (fun k J hk hJ => rz_aload_n_ok (pc := 142) hx hb dX12_closeBelow_142 rfl hk) ?_
  refine rz_All_c (i := 84) (fun k J hk hJ => rz_getf_ok (pc := 143) (own := RX12) (ref := "ThreadJudgeModel") (C := RX12) (T := TX12) (N := 257) (ci := 14) (index := 171) (f := 73) (t := 2) (Ts := Cond.code yX12_closeBelow cX12_closeBelow 7 none :: rz_TB) hx hb hts rz_in14 ho hK rfl (by decide) rfl (fun _ => rfl) (hw (i := 43) (j := 10) rfl rfl) (fun _ z => z) dX12_closeBelow_143 hk) ?_
  refine rz_All_c (i := 85) (fun k J hk hJ => rz_bipush_ok (pc := 146) hx hb dX12_closeBelow_146 (by decide) hk) ?_
  refine rz_All_c (i := 86) (fun k J hk hJ => rz_iload_n_ok (pc := 148) hx hb dX12_closeBelow_148 rfl hk) ?_
  refine rz_All_c (i := 87) (fun k J hk hJ => rz_imul_ok (pc := 149) hx hb dX12_closeBelow_149 hk) ?_
  refine rz_All_c (i := 88) (fun k J hk hJ => rz_iload_ok (pc := 150) hx hb dX12_closeBelow_150 hk) ?_
  refine rz_All_c (i := 89) (fun k J hk hJ => rz_iadd_ok (pc := 152) hx hb dX12_closeBelow_152 hk) ?_
  refine rz_All_c (i := 90) (fun k J hk hJ => rz_zald_ok (pc := 153) hx hb hK dX12_closeBelow_153 hk) ?_
  refine rz_All_c (i := 91) (fun k J hk hJ => rz_ifne_ok (pc := 154) hx hb dX12_closeBelow_154 rfl hk (hJ 94)) ?_
  refine rz_All_c (i := 92) (fun k J hk hJ => rz_iconst_ok (pc := 157) hx hb dX12_closeBelow_157 rfl hk) ?_
  refine rz_All_c (i := 93) (fun k J hk hJ => rz_goto_ok (pc := 158) hx hb dX12_closeBelow_158 rfl (hJ 95)) ?_
  refine rz_All_c (i := 94) (fun k J hk hJ => rz_iconst_ok (pc := 161) hx hb dX12_closeBelow_161 rfl hk) ?_
  refine rz_All_c (i := 95) (fun k J hk hJ => rz_istore_ok (pc := 162) hx hb dX12_closeBelow_162 hk) ?_
  refine rz_All_c (i := 96) (fun k J hk hJ => rz_aload_n_ok (pc := 164) hx hb dX12_closeBelow_164 rfl hk) ?_
  refine rz_All_c (i := 97) (fun k J hk hJ => rz_getf_ok (pc := 165) (own := RX12) (ref := "ThreadJudgeModel") (C := RX12) (T := TX12) (N := 257) (ci := 14) (index := 171) (f := 73) (t := 2) (Ts := Cond.code yX12_closeBelow cX12_closeBelow 7 none :: rz_TB) hx hb hts rz_in14 ho hK rfl (by decide) rfl (fun _ => rfl) (hw (i := 43) (j := 10) rfl rfl) (fun _ z => z) dX12_closeBelow_165 hk) ?_
  refine rz_All_c (i := 98) (fun k J hk hJ => rz_bipush_ok (pc := 168) hx hb dX12_closeBelow_168 (by decide) hk) ?_
  refine rz_All_c (i := 99) (fun k J hk hJ => rz_iload_n_ok (pc := 170) hx hb dX12_closeBelow_170 rfl hk) ?_
  refine rz_All_c (i := 100) (fun k J hk hJ => rz_imul_ok (pc := 171) hx hb dX12_closeBelow_171 hk) ?_
  refine rz_All_c (i := 101) (fun k J hk hJ => rz_iload_ok (pc := 172) hx hb dX12_closeBelow_172 hk) ?_
  refine rz_All_c (i := 102) (fun k J hk hJ => rz_iadd_ok (pc := 174) hx hb dX12_closeBelow_174 hk) ?_
  refine rz_All_c (i := 103) (fun k J hk hJ => rz_iload_ok (pc := 175) hx hb dX12_closeBelow_175 hk) ?_
  refine rz_All_c (i := 104) (fun k J hk hJ => rz_ifne_ok (pc := 177) hx hb dX12_closeBelow_177 rfl hk (hJ 114)) ?_
  refine rz_All_c (i := 105) (fun k J hk hJ => rz_aload_n_ok (pc := 180) hx hb dX12_closeBelow_180 rfl hk) ?_
  refine rz_All_c (i := 106) (fun k J hk hJ => rz_getf_ok (pc := 181) (own := RX12) (ref := "ThreadJudgeModel") (C := RX12) (T := TX12) (N := 257) (ci := 14) (index := 171) (f := 73) (t := 2) (Ts := Cond.code yX12_closeBelow cX12_closeBelow 7 none :: rz_TB) hx hb hts rz_in14 ho hK rfl (by decide) rfl (fun _ => rfl) (hw (i := 43) (j := 10) rfl rfl) (fun _ z => z) dX12_closeBelow_181 hk) ?_
  refine rz_All_c (i := 107) (fun k J hk hJ => rz_bipush_ok (pc := 184) hx hb dX12_closeBelow_184 (by decide) hk) ?_
  refine rz_All_c (i := 108) (fun k J hk hJ => rz_iload_n_ok (pc := 186) hx hb dX12_closeBelow_186 rfl hk) ?_
  refine rz_All_c (i := 109) (fun k J hk hJ => rz_imul_ok (pc := 187) hx hb dX12_closeBelow_187 hk) ?_
  refine rz_All_c (i := 110) (fun k J hk hJ => rz_iload_ok (pc := 188) hx hb dX12_closeBelow_188 hk) ?_
  refine rz_All_c (i := 111) (fun k J hk hJ => rz_iadd_ok (pc := 190) hx hb dX12_closeBelow_190 hk) ?_
  refine rz_All_c (i := 112) (fun k J hk hJ => rz_zald_ok (pc := 191) hx hb hK dX12_closeBelow_191 hk) ?_
  refine rz_All_c (i := 113) (fun k J hk hJ => rz_ifeq_ok (pc := 192) hx hb dX12_closeBelow_192 rfl hk (hJ 116)) ?_
  refine rz_All_c (i := 114) (fun k J hk hJ => rz_iconst_ok (pc := 195) hx hb dX12_closeBelow_195 rfl hk) ?_
  refine rz_All_c (i := 115) (fun k J hk hJ => rz_goto_ok (pc := 196) hx hb dX12_closeBelow_196 rfl (hJ 117)) ?_
  refine rz_All_c (i := 116) (fun k J hk hJ => rz_iconst_ok (pc := 199) hx hb dX12_closeBelow_199 rfl hk) ?_
  refine rz_All_c (i := 117) (fun k J hk hJ => rz_zast_ok (pc := 200) hx hb hK hA dX12_closeBelow_200 hk) ?_
  refine rz_All_c (i := 118) (fun k J hk hJ => rz_iload_n_ok (pc := 201) hx hb dX12_closeBelow_201 rfl hk) ?_
  refine rz_All_c (i := 119) (fun k J hk hJ => rz_ifne_ok (pc := 202) hx hb dX12_closeBelow_202 rfl hk (hJ 122)) ?_
  refine rz_All_c (i := 120) (fun k J hk hJ => rz_iload_ok (pc := 205) hx hb dX12_closeBelow_205 hk) ?_
  refine rz_All_c (i := 121) (fun k J hk hJ => rz_ifeq_ok (pc := 207) hx hb dX12_closeBelow_207 rfl hk (hJ 124)) ?_
  refine rz_All_c (i := 122) (fun k J hk hJ => rz_iconst_ok (pc := 210) hx hb dX12_closeBelow_210 rfl hk) ?_
  refine rz_All_c (i := 123) (fun k J hk hJ => rz_goto_ok (pc := 211) hx hb dX12_closeBelow_211 rfl (hJ 125)) ?_
  refine rz_All_c (i := 124) (fun k J hk hJ => rz_iconst_ok (pc := 214) hx hb dX12_closeBelow_214 rfl hk) ?_
  refine rz_All_c (i := 125) (fun k J hk hJ => rz_istore_n_ok (pc := 215) hx hb dX12_closeBelow_215 rfl hk) ?_
  refine rz_All_c (i := 126) (fun k J hk hJ => rz_iinc_ok (pc := 216) hx hb dX12_closeBelow_216 (by decide) hk) ?_
  refine rz_All_c (i := 127) (fun k J hk hJ => rz_goto_ok (pc := 219) hx hb dX12_closeBelow_219 rfl (hJ 68)) ?_
  refine rz_All_c (i := 128) (fun k J hk hJ => rz_iinc_ok (pc := 222) hx hb dX12_closeBelow_222 (by decide) hk) ?_
  refine rz_All_c (i := 129) (fun k J hk hJ => rz_goto_ok (pc := 225) hx hb dX12_closeBelow_225 rfl (hJ 44)) ?_
  refine rz_All_c (i := 130) (fun k J hk hJ => rz_iinc_ok (pc := 228) hx hb dX12_closeBelow_228 (by decide) hk) ?_
  refine rz_All_c (i := 131) (fun k J hk hJ => rz_goto_ok (pc := 231) hx hb dX12_closeBelow_231 rfl (hJ 38)) ?_
  refine rz_All_c (i := 132) (fun k J hk hJ => rz_goto_ok (pc := 234) hx hb dX12_closeBelow_234 rfl (hJ 32)) ?_
  refine rz_All_c (i := 133) (fun k J hk hJ => rz_vret_ok (pc := 237) hC dX12_closeBelow_237) ?_
  exact trivial
