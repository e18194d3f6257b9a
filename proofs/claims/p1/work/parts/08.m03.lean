/-! Methods: handlers, facts, contracts. -/
theorem dX4_isLineWrong_0 : decode cX4_isLineWrong 0 = .ok (.aload_n 0, 1) := by decide +kernel
theorem dX4_isLineWrong_1 : decode cX4_isLineWrong 1 = .ok (.getfield 9, 3) := by decide +kernel
theorem dX4_isLineWrong_4 : decode cX4_isLineWrong 4 = .ok (.getfield 176, 3) := by decide +kernel
theorem dX4_isLineWrong_7 : decode cX4_isLineWrong 7 = .ok (.iconst 0, 1) := by decide +kernel
theorem dX4_isLineWrong_8 : decode cX4_isLineWrong 8 = .ok (.aaload, 1) := by decide +kernel
theorem dX4_isLineWrong_9 : decode cX4_isLineWrong 9 = .ok (.iload_n 1, 1) := by decide +kernel
theorem dX4_isLineWrong_10 : decode cX4_isLineWrong 10 = .ok (.iaload, 1) := by decide +kernel
theorem dX4_isLineWrong_11 : decode cX4_isLineWrong 11 = .ok (.istore_n 2, 1) := by decide +kernel
theorem dX4_isLineWrong_12 : decode cX4_isLineWrong 12 = .ok (.ldc 188, 2) := by decide +kernel
theorem dX4_isLineWrong_14 : decode cX4_isLineWrong 14 = .ok (.iload_n 2, 1) := by decide +kernel
theorem dX4_isLineWrong_15 : decode cX4_isLineWrong 15 = .ok (.invokevirtual 190, 3) := by decide +kernel
theorem dX4_isLineWrong_18 : decode cX4_isLineWrong 18 = .ok (.tableswitch 182 99 116 #[139, 159, 182, 132, 182, 182, 86, 182, 182, 126, 152, 86, 182, 182, 182, 182, 182, 145], 86) := by decide +kernel
theorem dX4_isLineWrong_104 : decode cX4_isLineWrong 104 = .ok (.iload_n 2, 1) := by decide +kernel
theorem dX4_isLineWrong_105 : decode cX4_isLineWrong 105 = .ok (.ifCond .eq 37, 3) := by decide +kernel
theorem dX4_isLineWrong_108 : decode cX4_isLineWrong 108 = .ok (.aload_n 0, 1) := by decide +kernel
theorem dX4_isLineWrong_109 : decode cX4_isLineWrong 109 = .ok (.getfield 9, 3) := by decide +kernel
theorem dX4_isLineWrong_112 : decode cX4_isLineWrong 112 = .ok (.getfield 176, 3) := by decide +kernel
theorem dX4_isLineWrong_115 : decode cX4_isLineWrong 115 = .ok (.iconst 3, 1) := by decide +kernel
theorem dX4_isLineWrong_116 : decode cX4_isLineWrong 116 = .ok (.aaload, 1) := by decide +kernel
theorem dX4_isLineWrong_117 : decode cX4_isLineWrong 117 = .ok (.iload_n 1, 1) := by decide +kernel
theorem dX4_isLineWrong_118 : decode cX4_isLineWrong 118 = .ok (.iaload, 1) := by decide +kernel
theorem dX4_isLineWrong_119 : decode cX4_isLineWrong 119 = .ok (.ifCond .lt 19, 3) := by decide +kernel
theorem dX4_isLineWrong_122 : decode cX4_isLineWrong 122 = .ok (.aload_n 0, 1) := by decide +kernel
theorem dX4_isLineWrong_123 : decode cX4_isLineWrong 123 = .ok (.getfield 9, 3) := by decide +kernel
theorem dX4_isLineWrong_126 : decode cX4_isLineWrong 126 = .ok (.getfield 176, 3) := by decide +kernel
theorem dX4_isLineWrong_129 : decode cX4_isLineWrong 129 = .ok (.iconst 3, 1) := by decide +kernel
theorem dX4_isLineWrong_130 : decode cX4_isLineWrong 130 = .ok (.aaload, 1) := by decide +kernel
theorem dX4_isLineWrong_131 : decode cX4_isLineWrong 131 = .ok (.iload_n 1, 1) := by decide +kernel
theorem dX4_isLineWrong_132 : decode cX4_isLineWrong 132 = .ok (.iaload, 1) := by decide +kernel
theorem dX4_isLineWrong_133 : decode cX4_isLineWrong 133 = .ok (.bipush 10, 2) := by decide +kernel
theorem dX4_isLineWrong_135 : decode cX4_isLineWrong 135 = .ok (.if_icmp .lt 7, 3) := by decide +kernel
theorem dX4_isLineWrong_142 : decode cX4_isLineWrong 142 = .ok (.iconst 0, 1) := by decide +kernel
theorem dX4_isLineWrong_143 : decode cX4_isLineWrong 143 = .ok (.ireturn, 1) := by decide +kernel
theorem dX4_isLineWrong_144 : decode cX4_isLineWrong 144 = .ok (.aload_n 0, 1) := by decide +kernel
theorem dX4_isLineWrong_145 : decode cX4_isLineWrong 145 = .ok (.iload_n 1, 1) := by decide +kernel
theorem dX4_isLineWrong_146 : decode cX4_isLineWrong 146 = .ok (.invokevirtual 196, 3) := by decide +kernel
theorem dX4_isLineWrong_149 : decode cX4_isLineWrong 149 = .ok (.ireturn, 1) := by decide +kernel
theorem dX4_isLineWrong_150 : decode cX4_isLineWrong 150 = .ok (.aload_n 0, 1) := by decide +kernel
theorem dX4_isLineWrong_151 : decode cX4_isLineWrong 151 = .ok (.iload_n 1, 1) := by decide +kernel
theorem dX4_isLineWrong_152 : decode cX4_isLineWrong 152 = .ok (.iload_n 2, 1) := by decide +kernel
theorem dX4_isLineWrong_153 : decode cX4_isLineWrong 153 = .ok (.invokevirtual 199, 3) := by decide +kernel
theorem dX4_isLineWrong_156 : decode cX4_isLineWrong 156 = .ok (.ireturn, 1) := by decide +kernel
theorem dX4_isLineWrong_170 : decode cX4_isLineWrong 170 = .ok (.aload_n 0, 1) := by decide +kernel
theorem dX4_isLineWrong_171 : decode cX4_isLineWrong 171 = .ok (.iload_n 1, 1) := by decide +kernel
theorem dX4_isLineWrong_172 : decode cX4_isLineWrong 172 = .ok (.iload_n 2, 1) := by decide +kernel
theorem dX4_isLineWrong_173 : decode cX4_isLineWrong 173 = .ok (.invokevirtual 208, 3) := by decide +kernel
theorem dX4_isLineWrong_176 : decode cX4_isLineWrong 176 = .ok (.ireturn, 1) := by decide +kernel
theorem dX4_isLineWrong_200 : decode cX4_isLineWrong 200 = .ok (.iconst 0, 1) := by decide +kernel
theorem dX4_isLineWrong_201 : decode cX4_isLineWrong 201 = .ok (.ireturn, 1) := by decide +kernel
def rpX4_isLineWrong : List Nat := [0, 1, 4, 7, 8, 9, 10, 11, 12, 14, 15, 18, 104, 105, 108, 109, 112, 115, 116, 117, 118, 119, 122, 123, 126, 129, 130, 131, 132, 133, 135, 138, 142, 143, 144, 145, 146, 149, 150, 151, 152, 153, 156, 157, 163, 170, 171, 172, 173, 176, 177, 200, 201]
noncomputable def rcX4_isLineWrong : List rz_B := [rz_aload 0, rz_getf (Nat.add (Nat.mul 256 6) 1) 0 rz_r, rz_getf (Nat.add (Nat.mul 256 9) 1) 14 rz_r, rz_cst 0, rz_aald, rz_iload 1, rz_iald, rz_istore 2, rz_txt 1000010, rz_iload 2, rz_callT 1 rgJ0_charAt_5068e_f, rz_tsw 99 [43, 50, 51, 38, 51, 51, 12, 51, 51, 34, 45, 12, 51, 51, 51, 51, 51, 44] 51, rz_iload 2, rz_ifeq 32, rz_aload 0, rz_getf (Nat.add (Nat.mul 256 6) 1) 0 rz_r, rz_getf (Nat.add (Nat.mul 256 9) 1) 14 rz_r, rz_cst 3, rz_aald, rz_iload 1, rz_iald, rz_iflt 31, rz_aload 0, rz_getf (Nat.add (Nat.mul 256 6) 1) 0 rz_r, rz_getf (Nat.add (Nat.mul 256 9) 1) 14 rz_r, rz_cst 3, rz_aald, rz_iload 1, rz_iald, rz_cst 10, rz_icmplt 32, rz_no, rz_cst 0, rz_zret, rz_aload 0, rz_iload 1, rz_callV 1 (Nat.add (Nat.mul 256 6) 1) rgX4_isJumpWrong, rz_zret, rz_aload 0, rz_iload 1, rz_iload 2, rz_callV 2 (Nat.add (Nat.mul 256 6) 1) rgX4_isFieldUseWrong, rz_zret, rz_no, rz_no, rz_aload 0, rz_iload 1, rz_iload 2, rz_callV 2 (Nat.add (Nat.mul 256 6) 1) rgX4_isCallWrong, rz_zret, rz_no, rz_cst 0, rz_zret]
noncomputable def rgX4_isLineWrong : rz_L → rz_M → rz_Z → Bool := rz_go rcX4_isLineWrong 3 1000000
def rrX4_isLineWrong : Room := { frames := 4, cells := 0, slots := 0, locals := 123 }
theorem rmX4_isLineWrong (l : Launch) {G : rz_G} (hG : rz_Gd G) (vs : rz_L) (M : rz_M) (Z : rz_Z) (hn : vs.length = 2) (h : rgX4_isLineWrong vs M Z = true) : Met l yX4_isLineWrong (Cond.code yX4_isLineWrong cX4_isLineWrong 3 (some .boolean) :: rz_TB) rrX4_isLineWrong (rz_Pre G vs M) (rz_Qi G M.2 Z) 0 0 (fun q => rz_b G ≤ q) := by
  obtain ⟨D, tc, ad, b, xs, rfl⟩ := id hG
  refine rz_body (pcs := rpX4_isLineWrong) (by decide) rfl (by rw [hn]; decide) h ?_
  intro p e R s m args below meth c hC
  obtain ⟨hx, hb, hml, hr, hlk, ho, hts, hKn, hRm⟩ := id hC
  obtain ⟨hK, hA, hSt⟩ := id hKn
  have hw : ∀ {i j : Nat} {ws : List Cond} {w : Cond}, rz_WW[i]? = some ws → ws[j]? = some w → w.before args s = true := fun h1 h2 => hts _ (List.mem_cons_of_mem _ (rz_mem h1 h2))
  refine rz_All_c (i := 0) (fun k J hk hJ => rz_aload_n_ok (pc := 0) hx hb dX4_isLineWrong_0 rfl hk) ?_
  refine rz_All_c (i := 1) (fun k J hk hJ => rz_getf_ok (pc := 1) (own := RX4) (ref := "ThreadJudge$Linker") (C := RX4) (T := TX4) (N := 4) (ci := 6) (index := 9) (f := 0) (t := 2) (Ts := Cond.code yX4_isLineWrong cX4_isLineWrong 3 (some .boolean) :: rz_TB) hx hb hts rz_in6 ho hK rfl (by decide) rfl (fun _ => rfl) (hw (i := 16) (j := 3) rfl rfl) (fun _ z => z) dX4_isLineWrong_1 hk) ?_
  refine rz_All_c (i := 2) (fun k J hk hJ => rz_getf_ok (pc := 4) (own := RX4) (ref := "ThreadJudge$Program") (C := RX7) (T := TX7) (N := 22) (ci := 9) (index := 176) (f := 14) (t := 2) (Ts := Cond.code yX4_isLineWrong cX4_isLineWrong 3 (some .boolean) :: rz_TB) hx hb hts rz_in9 ho hK rfl (by decide) rfl (fun _ => rfl) (hw (i := 21) (j := 11) rfl rfl) (fun _ z => z) dX4_isLineWrong_4 hk) ?_
  refine rz_All_c (i := 3) (fun k J hk hJ => rz_iconst_ok (pc := 7) hx hb dX4_isLineWrong_7 rfl hk) ?_
  refine rz_All_c (i := 4) (fun k J hk hJ => rz_aald_ok (pc := 8) hx hb hK dX4_isLineWrong_8 hk) ?_
  refine rz_All_c (i := 5) (fun k J hk hJ => rz_iload_n_ok (pc := 9) hx hb dX4_isLineWrong_9 rfl hk) ?_
  refine rz_All_c (i := 6) (fun k J hk hJ => rz_iald_ok (pc := 10) hx hb hK dX4_isLineWrong_10 hk) ?_
  refine rz_All_c (i := 7) (fun k J hk hJ => rz_istore_n_ok (pc := 11) hx hb dX4_isLineWrong_11 rfl hk) ?_
  refine rz_All_c (i := 8) (fun k J hk hJ => rz_ldcS_ok (pc := 12) (i := 9) hx hb (hSt.2.1 ("ThreadJudge$Linker", 188, "ns-nni---------------lllllllllllllllllffffct---ttmmmd-----", 9) (List.mem_of_getElem? (i := 10) rfl)) ho dX4_isLineWrong_12 hk) ?_
  refine rz_All_c (i := 9) (fun k J hk hJ => rz_iload_n_ok (pc := 14) hx hb dX4_isLineWrong_14 rfl hk) ?_
  refine rz_All_c (i := 10) (fun k J hk hJ => rz_callT_ok (pc := 15) (own := RX4) hC rfl (rmJ0_charAt_5068e_f l hG) (rz_cwV 1 hC rz_good (rz_mem (i := 22) (j := 6) rfl rfl) (rz_mem (i := 13) (j := 21) rfl rfl) (rz_mem (i := 13) (j := 22) rfl rfl) (rz_mem (i := 5) (j := 23) rfl rfl) (rz_mem (i := 13) (j := 23) rfl rfl) ⟨rfl, by decide, by decide, by decide +kernel⟩ rfl rfl ⟨by decide, by decide⟩) dX4_isLineWrong_15 hk) ?_
  refine rz_All_c (i := 11) (fun k J hk hJ => rz_tsw_ok (pc := 18) (pcs := rpX4_isLineWrong) (js := [43, 50, 51, 38, 51, 51, 12, 51, 51, 34, 45, 12, 51, 51, 51, 51, 51, 44]) (d := 51) (lo := 99) hx hb dX4_isLineWrong_18 (by decide +kernel) hJ) ?_
  refine rz_All_c (i := 12) (fun k J hk hJ => rz_iload_n_ok (pc := 104) hx hb dX4_isLineWrong_104 rfl hk) ?_
  refine rz_All_c (i := 13) (fun k J hk hJ => rz_ifeq_ok (pc := 105) hx hb dX4_isLineWrong_105 rfl hk (hJ 32)) ?_
  refine rz_All_c (i := 14) (fun k J hk hJ => rz_aload_n_ok (pc := 108) hx hb dX4_isLineWrong_108 rfl hk) ?_
  refine rz_All_c (i := 15) (fun k J hk hJ => rz_getf_ok (pc := 109) (own := RX4) (ref := "ThreadJudge$Linker") (C := RX4) (T := TX4) (N := 4) (ci := 6) (index := 9) (f := 0) (t := 2) (Ts := Cond.code yX4_isLineWrong cX4_isLineWrong 3 (some .boolean) :: rz_TB) hx hb hts rz_in6 ho hK rfl (by decide) rfl (fun _ => rfl) (hw (i := 16) (j := 3) rfl rfl) (fun _ z => z) dX4_isLineWrong_109 hk) ?_
  refine rz_All_c (i := 16) (fun k J hk hJ => rz_getf_ok (pc := 112) (own := RX4) (ref := "ThreadJudge$Program") (C := RX7) (T := TX7) (N := 22) (ci := 9) (index := 176) (f := 14) (t := 2) (Ts := Cond.code yX4_isLineWrong cX4_isLineWrong 3 (some .boolean) :: rz_TB) hx hb hts rz_in9 ho hK rfl (by decide) rfl (fun _ => rfl) (hw (i := 21) (j := 11) rfl rfl) (fun _ z => z) dX4_isLineWrong_112 hk) ?_
  refine rz_All_c (i := 17) (fun k J hk hJ => rz_iconst_ok (pc := 115) hx hb dX4_isLineWrong_115 rfl hk) ?_
  refine rz_All_c (i := 18) (fun k J hk hJ => rz_aald_ok (pc := 116) hx hb hK dX4_isLineWrong_116 hk) ?_
  refine rz_All_c (i := 19) (fun k J hk hJ => rz_iload_n_ok (pc := 117) hx hb dX4_isLineWrong_117 rfl hk) ?_
  refine rz_All_c (i := 20) (fun k J hk hJ => rz_iald_ok (pc := 118) hx hb hK dX4_isLineWrong_118 hk) ?_
  refine rz_All_c (i := 21) (fun k J hk hJ => rz_iflt_ok (pc := 119) hx hb dX4_isLineWrong_119 rfl hk (hJ 31)) ?_
  refine rz_All_c (i := 22) (fun k J hk hJ => rz_aload_n_ok (pc := 122) hx hb dX4_isLineWrong_122 rfl hk) ?_
  refine rz_All_c (i := 23) (fun k J hk hJ => rz_getf_ok (pc := 123) (own := RX4) (ref := "ThreadJudge$Linker") (C := RX4) (T := TX4) (N := 4) (ci := 6) (index := 9) (f := 0) (t := 2) (Ts := Cond.code yX4_isLineWrong cX4_isLineWrong 3 (some .boolean) :: rz_TB) hx hb hts rz_in6 ho hK rfl (by decide) rfl (fun _ => rfl) (hw (i := 16) (j := 3) rfl rfl) (fun _ z => z) dX4_isLineWrong_123 hk) ?_
  refine rz_All_c (i := 24) (fun k J hk hJ => rz_getf_ok (pc := 126) (own := RX4) (ref := "ThreadJudge$Program") (C := RX7) (T := TX7) (N := 22) (ci := 9) (index := 176) (f := 14) (t := 2) (Ts := Cond.code yX4_isLineWrong cX4_isLineWrong 3 (some .boolean) :: rz_TB) hx hb hts rz_in9 ho hK rfl (by decide) rfl (fun _ => rfl) (hw (i := 21) (j := 11) rfl rfl) (fun _ z => z) dX4_isLineWrong_126 hk) ?_
  refine rz_All_c (i := 25) (fun k J hk hJ => rz_iconst_ok (pc := 129) hx hb dX4_isLineWrong_129 rfl hk) ?_
  refine rz_All_c (i := 26) (fun k J hk hJ => rz_aald_ok (pc := 130) hx hb hK dX4_isLineWrong_130 hk) ?_
  refine rz_All_c (i := 27) (fun k J hk hJ => rz_iload_n_ok (pc := 131) hx hb dX4_isLineWrong_131 rfl hk) ?_
  refine rz_All_c (i := 28) (fun k J hk hJ => rz_iald_ok (pc := 132) hx hb hK dX4_isLineWrong_132 hk) ?_
  refine rz_All_c (i := 29) (fun k J hk hJ => rz_bipush_ok (pc := 133) hx hb dX4_isLineWrong_133 (by decide) hk) ?_
  refine rz_All_c (i := 30) (fun k J hk hJ => rz_icmplt_ok (pc := 135) hx hb dX4_isLineWrong_135 rfl hk (hJ 32)) ?_
  refine rz_All_c (i := 31) (fun k J hk hJ => rz_no_ok) ?_
  refine rz_All_c (i := 32) (fun k J hk hJ => rz_iconst_ok (pc := 142) hx hb dX4_isLineWrong_142 rfl hk) ?_
  refine rz_All_c (i := 33) (fun k J hk hJ => rz_zret_ok (pc := 143) hC dX4_isLineWrong_143) ?_
  refine rz_All_c (i := 34) (fun k J hk hJ => rz_aload_n_ok (pc := 144) hx hb dX4_isLineWrong_144 rfl hk) ?_
  refine rz_All_c (i := 35) (fun k J hk hJ => rz_iload_n_ok (pc := 145) hx hb dX4_isLineWrong_145 rfl hk) ?_
  refine rz_All_c (i := 36) (fun k J hk hJ => rz_callV_ok (pc := 146) (own := RX4) (C := RX4) (T0 := TX4) (N0 := 4) hC rfl (rmX4_isJumpWrong l hG) (rz_cwV 1 hC rz_good (rz_mem (i := 22) (j := 7) rfl rfl) (rz_mem (i := 22) (j := 8) rfl rfl) (rz_mem (i := 22) (j := 9) rfl rfl) (rz_mem (i := 15) (j := 19) rfl rfl) (rz_mem (i := 22) (j := 10) rfl rfl) ⟨rfl, by decide, by decide, by decide +kernel⟩ rfl rfl ⟨by decide, by decide⟩) rfl dX4_isLineWrong_146 hk) ?_
  refine rz_All_c (i := 37) (fun k J hk hJ => rz_zret_ok (pc := 149) hC dX4_isLineWrong_149) ?_
  refine rz_All_c (i := 38) (fun k J hk hJ => rz_aload_n_ok (pc := 150) hx hb dX4_isLineWrong_150 rfl hk) ?_
  refine rz_All_c (i := 39) (fun k J hk hJ => rz_iload_n_ok (pc := 151) hx hb dX4_isLineWrong_151 rfl hk) ?_
  refine rz_All_c (i := 40) (fun k J hk hJ => rz_iload_n_ok (pc := 152) hx hb dX4_isLineWrong_152 rfl hk) ?_
  refine rz_All_c (i := 41) (fun k J hk hJ => rz_callV_ok (pc := 153) (own := RX4) (C := RX4) (T0 := TX4) (N0 := 4) hC rfl (rmX4_isFieldUseWrong l hG) (rz_cwV 2 hC rz_good (rz_mem (i := 22) (j := 11) rfl rfl) (rz_mem (i := 22) (j := 12) rfl rfl) (rz_mem (i := 22) (j := 13) rfl rfl) (rz_mem (i := 15) (j := 19) rfl rfl) (rz_mem (i := 22) (j := 14) rfl rfl) ⟨rfl, by decide, by decide, by decide +kernel⟩ rfl rfl ⟨by decide, by decide⟩) rfl dX4_isLineWrong_153 hk) ?_
  refine rz_All_c (i := 42) (fun k J hk hJ => rz_zret_ok (pc := 156) hC dX4_isLineWrong_156) ?_
  refine rz_All_c (i := 43) (fun k J hk hJ => rz_no_ok) ?_
  refine rz_All_c (i := 44) (fun k J hk hJ => rz_no_ok) ?_
  refine rz_All_c (i := 45) (fun k J hk hJ => rz_aload_n_ok (pc := 170) hx hb dX4_isLineWrong_170 rfl hk) ?_
  refine rz_All_c (i := 46) (fun k J hk hJ => rz_iload_n_ok (pc := 171) hx hb dX4_isLineWrong_171 rfl hk) ?_
  refine rz_All_c (i := 47) (fun k J hk hJ => rz_iload_n_ok (pc := 172) hx hb dX4_isLineWrong_172 rfl hk) ?_
  refine rz_All_c (i := 48) (fun k J hk hJ => rz_callV_ok (pc := 173) (own := RX4) (C := RX4) (T0 := TX4) (N0 := 4) hC rfl (rmX4_isCallWrong l hG) (rz_cwV 2 hC rz_good (rz_mem (i := 23) (j := 3) rfl rfl) (rz_mem (i := 23) (j := 4) rfl rfl) (rz_mem (i := 23) (j := 5) rfl rfl) (rz_mem (i := 15) (j := 19) rfl rfl) (rz_mem (i := 23) (j := 6) rfl rfl) ⟨rfl, by decide, by decide, by decide +kernel⟩ rfl rfl ⟨by decide, by decide⟩) rfl dX4_isLineWrong_173 hk) ?_
  refine rz_All_c (i := 49) (fun k J hk hJ => rz_zret_ok (pc := 176) hC dX4_isLineWrong_176) ?_
  refine rz_All_c (i := 50) (fun k J hk hJ => rz_no_ok) ?_
  refine rz_All_c (i := 51) (fun k J hk hJ => rz_iconst_ok (pc := 200) hx hb dX4_isLineWrong_200 rfl hk) ?_
  refine rz_All_c (i := 52) (fun k J hk hJ => rz_zret_ok (pc := 201) hC dX4_isLineWrong_201) ?_
  exact trivial
theorem dX4_linkCatches_0 : decode cX4_linkCatches 0 = .ok (.aload_n 0, 1) := by decide +kernel
theorem dX4_linkCatches_1 : decode cX4_linkCatches 1 = .ok (.getfield 9, 3) := by decide +kernel
theorem dX4_linkCatches_4 : decode cX4_linkCatches 4 = .ok (.getfield 95, 3) := by decide +kernel
theorem dX4_linkCatches_7 : decode cX4_linkCatches 7 = .ok (.bipush 10, 2) := by decide +kernel
theorem dX4_linkCatches_9 : decode cX4_linkCatches 9 = .ok (.aaload, 1) := by decide +kernel
theorem dX4_linkCatches_10 : decode cX4_linkCatches 10 = .ok (.iload_n 1, 1) := by decide +kernel
theorem dX4_linkCatches_11 : decode cX4_linkCatches 11 = .ok (.iaload, 1) := by decide +kernel
theorem dX4_linkCatches_12 : decode cX4_linkCatches 12 = .ok (.istore_n 2, 1) := by decide +kernel
theorem dX4_linkCatches_13 : decode cX4_linkCatches 13 = .ok (.iload_n 2, 1) := by decide +kernel
theorem dX4_linkCatches_14 : decode cX4_linkCatches 14 = .ok (.istore_n 3, 1) := by decide +kernel
theorem dX4_linkCatches_15 : decode cX4_linkCatches 15 = .ok (.iload_n 3, 1) := by decide +kernel
theorem dX4_linkCatches_16 : decode cX4_linkCatches 16 = .ok (.iload_n 2, 1) := by decide +kernel
theorem dX4_linkCatches_17 : decode cX4_linkCatches 17 = .ok (.aload_n 0, 1) := by decide +kernel
theorem dX4_linkCatches_18 : decode cX4_linkCatches 18 = .ok (.getfield 9, 3) := by decide +kernel
theorem dX4_linkCatches_21 : decode cX4_linkCatches 21 = .ok (.getfield 95, 3) := by decide +kernel
theorem dX4_linkCatches_24 : decode cX4_linkCatches 24 = .ok (.bipush 11, 2) := by decide +kernel
theorem dX4_linkCatches_26 : decode cX4_linkCatches 26 = .ok (.aaload, 1) := by decide +kernel
theorem dX4_linkCatches_27 : decode cX4_linkCatches 27 = .ok (.iload_n 1, 1) := by decide +kernel
theorem dX4_linkCatches_28 : decode cX4_linkCatches 28 = .ok (.iaload, 1) := by decide +kernel
theorem dX4_linkCatches_29 : decode cX4_linkCatches 29 = .ok (.iadd, 1) := by decide +kernel
theorem dX4_linkCatches_30 : decode cX4_linkCatches 30 = .ok (.if_icmp .ge 198, 3) := by decide +kernel
theorem dX4_linkCatches_228 : decode cX4_linkCatches 228 = .ok (.return_, 1) := by decide +kernel
def rpX4_linkCatches : List Nat := [0, 1, 4, 7, 9, 10, 11, 12, 13, 14, 15, 16, 17, 18, 21, 24, 26, 27, 28, 29, 30, 33, 228]
noncomputable def rcX4_linkCatches : List rz_B := [rz_aload 0, rz_getf (Nat.add (Nat.mul 256 6) 1) 0 rz_r, rz_getf (Nat.add (Nat.mul 256 9) 1) 10 rz_r, rz_cst 10, rz_aald, rz_iload 1, rz_iald, rz_istore 2, rz_iload 2, rz_istore 3, rz_iload 3, rz_iload 2, rz_aload 0, rz_getf (Nat.add (Nat.mul 256 6) 1) 0 rz_r, rz_getf (Nat.add (Nat.mul 256 9) 1) 10 rz_r, rz_cst 11, rz_aald, rz_iload 1, rz_iald, rz_iadd, rz_icmpge 22, rz_no, rz_vret]
noncomputable def rgX4_linkCatches : rz_L → rz_M → rz_Z → Bool := rz_go rcX4_linkCatches 8 1000000
def rrX4_linkCatches : Room := { frames := 0, cells := 0, slots := 0, locals := 0 }
theorem rmX4_linkCatches (l : Launch) {G : rz_G} (hG : rz_Gd G) (vs : rz_L) (M : rz_M) (Z : rz_Z) (hn : vs.length = 2) (h : rgX4_linkCatches vs M Z = true) : Met l yX4_linkCatches (Cond.code yX4_linkCatches cX4_linkCatches 8 none :: rz_TB) rrX4_linkCatches (rz_Pre G vs M) (rz_Qv G M.2 Z) 0 0 (fun q => rz_b G ≤ q) := by
  obtain ⟨D, tc, ad, b, xs, rfl⟩ := id hG
  refine rz_body (pcs := rpX4_linkCatches) (by decide) rfl (by rw [hn]; decide) h ?_
  intro p e R s m args below meth c hC
  obtain ⟨hx, hb, hml, hr, hlk, ho, hts, hKn, hRm⟩ := id hC
  obtain ⟨hK, hA, hSt⟩ := id hKn
  have hw : ∀ {i j : Nat} {ws : List Cond} {w : Cond}, rz_WW[i]? = some ws → ws[j]? = some w → w.before args s = true := fun h1 h2 => hts _ (List.mem_cons_of_mem _ (rz_mem h1 h2))
  refine rz_All_c (i := 0) (fun k J hk hJ => rz_aload_n_ok (pc := 0) hx hb dX4_linkCatches_0 rfl hk) ?_
  refine rz_All_c (i := 1) (fun k J hk hJ => rz_getf_ok (pc := 1) (own := RX4) (ref := "ThreadJudge$Linker") (C := RX4) (T := TX4) (N := 4) (ci := 6) (index := 9) (f := 0) (t := 2) (Ts := Cond.code yX4_linkCatches cX4_linkCatches 8 none :: rz_TB) hx hb hts rz_in6 ho hK rfl (by decide) rfl (fun _ => rfl) (hw (i := 16) (j := 3) rfl rfl) (fun _ z => z) dX4_linkCatches_1 hk) ?_
  refine rz_All_c (i := 2) (fun k J hk hJ => rz_getf_ok (pc := 4) (own := RX4) (ref := "ThreadJudge$Program") (C := RX7) (T := TX7) (N := 22) (ci := 9) (index := 95) (f := 10) (t := 2) (Ts := Cond.code yX4_linkCatches cX4_linkCatches 8 none :: rz_TB) hx hb hts rz_in9 ho hK rfl (by decide) rfl (fun _ => rfl) (hw (i := 17) (j := 13) rfl rfl) (fun _ z => z) dX4_linkCatches_4 hk) ?_
  refine rz_All_c (i := 3) (fun k J hk hJ => rz_bipush_ok (pc := 7) hx hb dX4_linkCatches_7 (by decide) hk) ?_
  refine rz_All_c (i := 4) (fun k J hk hJ => rz_aald_ok (pc := 9) hx hb hK dX4_linkCatches_9 hk) ?_
  refine rz_All_c (i := 5) (fun k J hk hJ => rz_iload_n_ok (pc := 10) hx hb dX4_linkCatches_10 rfl hk) ?_
  refine rz_All_c (i := 6) (fun k J hk hJ => rz_iald_ok (pc := 11) hx hb hK dX4_linkCatches_11 hk) ?_
  refine rz_All_c (i := 7) (fun k J hk hJ => rz_istore_n_ok (pc := 12) hx hb dX4_linkCatches_12 rfl hk) ?_
  refine rz_All_c (i := 8) (fun k J hk hJ => rz_iload_n_ok (pc := 13) hx hb dX4_linkCatches_13 rfl hk) ?_
  refine rz_All_c (i := 9) (fun k J hk hJ => rz_istore_n_ok (pc := 14) hx hb dX4_linkCatches_14 rfl hk) ?_
  refine rz_All_c (i := 10) (fun k J hk hJ => rz_iload_n_ok (pc := 15) hx hb dX4_linkCatches_15 rfl hk) ?_
  refine rz_All_c (i := 11) (fun k J hk hJ => rz_iload_n_ok (pc := 16) hx hb dX4_linkCatches_16 rfl hk) ?_
  refine rz_All_c (i := 12) (fun k J hk hJ => rz_aload_n_ok (pc := 17) hx hb dX4_linkCatches_17 rfl hk) ?_
  refine rz_All_c (i := 13) (fun k J hk hJ => rz_getf_ok (pc := 18) (own := RX4) (ref := "ThreadJudge$Linker") (C := RX4) (T := TX4) (N := 4) (ci := 6) (index := 9) (f := 0) (t := 2) (Ts := Cond.code yX4_linkCatches cX4_linkCatches 8 none :: rz_TB) hx hb hts rz_in6 ho hK rfl (by decide) rfl (fun _ => rfl) (hw (i := 16) (j := 3) rfl rfl) (fun _ z => z) dX4_linkCatches_18 hk) ?_
  refine rz_All_c (i := 14) (fun k J hk hJ => rz_getf_ok (pc := 21) (own := RX4) (ref := "ThreadJudge$Program") (C := RX7) (T := TX7) (N := 22) (ci := 9) (index := 95) (f := 10) (t := 2) (Ts := Cond.code yX4_linkCatches cX4_linkCatches 8 none :: rz_TB) hx hb hts rz_in9 ho hK rfl (by decide) rfl (fun _ => rfl) (hw (i := 17) (j := 13) rfl rfl) (fun _ z => z) dX4_linkCatches_21 hk) ?_
  refine rz_All_c (i := 15) (fun k J hk hJ => rz_bipush_ok (pc := 24) hx hb dX4_linkCatches_24 (by decide) hk) ?_
  refine rz_All_c (i := 16) (fun k J hk hJ => rz_aald_ok (pc := 26) hx hb hK dX4_linkCatches_26 hk) ?_
  refine rz_All_c (i := 17) (fun k J hk hJ => rz_iload_n_ok (pc := 27) hx hb dX4_linkCatches_27 rfl hk) ?_
  refine rz_All_c (i := 18) (fun k J hk hJ => rz_iald_ok (pc := 28) hx hb hK dX4_linkCatches_28 hk) ?_
  refine rz_All_c (i := 19) (fun k J hk hJ => rz_iadd_ok (pc := 29) hx hb dX4_linkCatches_29 hk) ?_
  refine rz_All_c (i := 20) (fun k J hk hJ => rz_icmpge_ok (pc := 30) hx hb dX4_linkCatches_30 rfl hk (hJ 22)) ?_
  refine rz_All_c (i := 21) (fun k J hk hJ => rz_no_ok) ?_
  refine rz_All_c (i := 22) (fun k J hk hJ => rz_vret_ok (pc := 228) hC dX4_linkCatches_228) ?_
  exact trivial
theorem dX4_linkLabels_0 : decode cX4_linkLabels 0 = .ok (.aload_n 0, 1) := by decide +kernel
theorem dX4_linkLabels_1 : decode cX4_linkLabels 1 = .ok (.getfield 9, 3) := by decide +kernel
theorem dX4_linkLabels_4 : decode cX4_linkLabels 4 = .ok (.getfield 95, 3) := by decide +kernel
theorem dX4_linkLabels_7 : decode cX4_linkLabels 7 = .ok (.bipush 8, 2) := by decide +kernel
theorem dX4_linkLabels_9 : decode cX4_linkLabels 9 = .ok (.aaload, 1) := by decide +kernel
theorem dX4_linkLabels_10 : decode cX4_linkLabels 10 = .ok (.iload_n 1, 1) := by decide +kernel
theorem dX4_linkLabels_11 : decode cX4_linkLabels 11 = .ok (.iaload, 1) := by decide +kernel
theorem dX4_linkLabels_12 : decode cX4_linkLabels 12 = .ok (.istore_n 2, 1) := by decide +kernel
theorem dX4_linkLabels_13 : decode cX4_linkLabels 13 = .ok (.iload_n 2, 1) := by decide +kernel
theorem dX4_linkLabels_14 : decode cX4_linkLabels 14 = .ok (.istore_n 3, 1) := by decide +kernel
theorem dX4_linkLabels_15 : decode cX4_linkLabels 15 = .ok (.iload_n 3, 1) := by decide +kernel
theorem dX4_linkLabels_16 : decode cX4_linkLabels 16 = .ok (.iload_n 2, 1) := by decide +kernel
theorem dX4_linkLabels_17 : decode cX4_linkLabels 17 = .ok (.aload_n 0, 1) := by decide +kernel
theorem dX4_linkLabels_18 : decode cX4_linkLabels 18 = .ok (.getfield 9, 3) := by decide +kernel
theorem dX4_linkLabels_21 : decode cX4_linkLabels 21 = .ok (.getfield 95, 3) := by decide +kernel
theorem dX4_linkLabels_24 : decode cX4_linkLabels 24 = .ok (.bipush 9, 2) := by decide +kernel
theorem dX4_linkLabels_26 : decode cX4_linkLabels 26 = .ok (.aaload, 1) := by decide +kernel
theorem dX4_linkLabels_27 : decode cX4_linkLabels 27 = .ok (.iload_n 1, 1) := by decide +kernel
theorem dX4_linkLabels_28 : decode cX4_linkLabels 28 = .ok (.iaload, 1) := by decide +kernel
theorem dX4_linkLabels_29 : decode cX4_linkLabels 29 = .ok (.iadd, 1) := by decide +kernel
theorem dX4_linkLabels_30 : decode cX4_linkLabels 30 = .ok (.if_icmp .ge 46, 3) := by decide +kernel
theorem dX4_linkLabels_33 : decode cX4_linkLabels 33 = .ok (.aload_n 0, 1) := by decide +kernel
theorem dX4_linkLabels_34 : decode cX4_linkLabels 34 = .ok (.iload_n 1, 1) := by decide +kernel
theorem dX4_linkLabels_35 : decode cX4_linkLabels 35 = .ok (.aload_n 0, 1) := by decide +kernel
theorem dX4_linkLabels_36 : decode cX4_linkLabels 36 = .ok (.getfield 9, 3) := by decide +kernel
theorem dX4_linkLabels_39 : decode cX4_linkLabels 39 = .ok (.getfield 179, 3) := by decide +kernel
theorem dX4_linkLabels_42 : decode cX4_linkLabels 42 = .ok (.iconst 0, 1) := by decide +kernel
theorem dX4_linkLabels_43 : decode cX4_linkLabels 43 = .ok (.aaload, 1) := by decide +kernel
theorem dX4_linkLabels_44 : decode cX4_linkLabels 44 = .ok (.iload_n 3, 1) := by decide +kernel
theorem dX4_linkLabels_45 : decode cX4_linkLabels 45 = .ok (.iaload, 1) := by decide +kernel
theorem dX4_linkLabels_46 : decode cX4_linkLabels 46 = .ok (.invokevirtual 182, 3) := by decide +kernel
theorem dX4_linkLabels_49 : decode cX4_linkLabels 49 = .ok (.iload_n 3, 1) := by decide +kernel
theorem dX4_linkLabels_50 : decode cX4_linkLabels 50 = .ok (.if_icmp .eq 20, 3) := by decide +kernel
theorem dX4_linkLabels_70 : decode cX4_linkLabels 70 = .ok (.iinc 3 1, 3) := by decide +kernel
theorem dX4_linkLabels_73 : decode cX4_linkLabels 73 = .ok (.goto (-58), 3) := by decide +kernel
theorem dX4_linkLabels_76 : decode cX4_linkLabels 76 = .ok (.return_, 1) := by decide +kernel
def rpX4_linkLabels : List Nat := [0, 1, 4, 7, 9, 10, 11, 12, 13, 14, 15, 16, 17, 18, 21, 24, 26, 27, 28, 29, 30, 33, 34, 35, 36, 39, 42, 43, 44, 45, 46, 49, 50, 53, 70, 73, 76]
noncomputable def rcX4_linkLabels : List rz_B := [rz_aload 0, rz_getf (Nat.add (Nat.mul 256 6) 1) 0 rz_r, rz_getf (Nat.add (Nat.mul 256 9) 1) 10 rz_r, rz_cst 8, rz_aald, rz_iload 1, rz_iald, rz_istore 2, rz_iload 2, rz_istore 3, rz_iload 3, rz_iload 2, rz_aload 0, rz_getf (Nat.add (Nat.mul 256 6) 1) 0 rz_r, rz_getf (Nat.add (Nat.mul 256 9) 1) 10 rz_r, rz_cst 9, rz_aald, rz_iload 1, rz_iald, rz_iadd, rz_icmpge 36, rz_aload 0, rz_iload 1, rz_aload 0, rz_getf (Nat.add (Nat.mul 256 6) 1) 0 rz_r, rz_getf (Nat.add (Nat.mul 256 9) 1) 17 rz_r, rz_cst 0, rz_aald, rz_iload 3, rz_iald, rz_callV 2 (Nat.add (Nat.mul 256 6) 1) rgX4_labelOf, rz_iload 3, rz_icmpeq 34, rz_no, rz_iinc 3 1, rz_goto 10, rz_vret]
noncomputable def rgX4_linkLabels : rz_L → rz_M → rz_Z → Bool := rz_go rcX4_linkLabels 4 1000000
def rrX4_linkLabels : Room := { frames := 1, cells := 0, slots := 0, locals := 24 }
theorem rmX4_linkLabels (l : Launch) {G : rz_G} (hG : rz_Gd G) (vs : rz_L) (M : rz_M) (Z : rz_Z) (hn : vs.length = 2) (h : rgX4_linkLabels vs M Z = true) : Met l yX4_linkLabels (Cond.code yX4_linkLabels cX4_linkLabels 4 none :: rz_TB) rrX4_linkLabels (rz_Pre G vs M) (rz_Qv G M.2 Z) 0 0 (fun q => rz_b G ≤ q) := by
  obtain ⟨D, tc, ad, b, xs, rfl⟩ := id hG
  refine rz_body (pcs := rpX4_linkLabels) (by decide) rfl (by rw [hn]; decide) h ?_
  intro p e R s m args below meth c hC
  obtain ⟨hx, hb, hml, hr, hlk, ho, hts, hKn, hRm⟩ := id hC
  obtain ⟨hK, hA, hSt⟩ := id hKn
  have hw : ∀ {i j : Nat} {ws : List Cond} {w : Cond}, rz_WW[i]? = some ws → ws[j]? = some w → w.before args s = true := fun h1 h2 => hts _ (List.mem_cons_of_mem _ (rz_mem h1 h2))
  refine rz_All_c (i := 0) (fun k J hk hJ => rz_aload_n_ok (pc := 0) hx hb dX4_linkLabels_0 rfl hk) ?_
  refine rz_All_c (i := 1) (fun k J hk hJ => rz_getf_ok (pc := 1) (own := RX4) (ref := "ThreadJudge$Linker") (C := RX4) (T := TX4) (N := 4) (ci := 6) (index := 9) (f := 0) (t := 2) (Ts := Cond.code yX4_linkLabels cX4_linkLabels 4 none :: rz_TB) hx hb hts rz_in6 ho hK rfl (by decide) rfl (fun _ => rfl) (hw (i := 16) (j := 3) rfl rfl) (fun _ z => z) dX4_linkLabels_1 hk) ?_
  refine rz_All_c (i := 2) (fun k J hk hJ => rz_getf_ok (pc := 4) (own := RX4) (ref := "ThreadJudge$Program") (C := RX7) (T := TX7) (N := 22) (ci := 9) (index := 95) (f := 10) (t := 2) (Ts := Cond.code yX4_linkLabels cX4_linkLabels 4 none :: rz_TB) hx hb hts rz_in9 ho hK rfl (by decide) rfl (fun _ => rfl) (hw (i := 17) (j := 13) rfl rfl) (fun _ z => z) dX4_linkLabels_4 hk) ?_
  refine rz_All_c (i := 3) (fun k J hk hJ => rz_bipush_ok (pc := 7) hx hb dX4_linkLabels_7 (by decide) hk) ?_
  refine rz_All_c (i := 4) (fun k J hk hJ => rz_aald_ok (pc := 9) hx hb hK dX4_linkLabels_9 hk) ?_
  refine rz_All_c (i := 5) (fun k J hk hJ => rz_iload_n_ok (pc := 10) hx hb dX4_linkLabels_10 rfl hk) ?_
  refine rz_All_c (i := 6) (fun k J hk hJ => rz_iald_ok (pc := 11) hx hb hK dX4_linkLabels_11 hk) ?_
  refine rz_All_c (i := 7) (fun k J hk hJ => rz_istore_n_ok (pc := 12) hx hb dX4_linkLabels_12 rfl hk) ?_
  refine rz_All_c (i := 8) (fun k J hk hJ => rz_iload_n_ok (pc := 13) hx hb dX4_linkLabels_13 rfl hk) ?_
  refine rz_All_c (i := 9) (fun k J hk hJ => rz_istore_n_ok (pc := 14) hx hb dX4_linkLabels_14 rfl hk) ?_
  refine rz_All_c (i := 10) (fun k J hk hJ => rz_iload_n_ok (pc := 15) hx hb dX4_linkLabels_15 rfl hk) ?_
  refine rz_All_c (i := 11) (fun k J hk hJ => rz_iload_n_ok (pc := 16) hx hb dX4_linkLabels_16 rfl hk) ?_
  refine rz_All_c (i := 12) (fun k J hk hJ => rz_aload_n_ok (pc := 17) hx hb dX4_linkLabels_17 rfl hk) ?_
  refine rz_All_c (i := 13) (fun k J hk hJ => rz_getf_ok (pc := 18) (own := RX4) (ref := "ThreadJudge$Linker") (C := RX4) (T := TX4) (N := 4) (ci := 6) (index := 9) (f := 0) (t := 2) (Ts := Cond.code yX4_linkLabels cX4_linkLabels 4 none :: rz_TB) hx hb hts rz_in6 ho hK rfl (by decide) rfl (fun _ => rfl) (hw (i := 16) (j := 3) rfl rfl) (fun _ z => z) dX4_linkLabels_18 hk) ?_
  refine rz_All_c (i := 14) (fun k J hk hJ => rz_getf_ok (pc := 21) (own := RX4) (ref := "ThreadJudge$Program") (C := RX7) (T := TX7) (N := 22) (ci := 9) (index := 95) (f := 10) (t := 2) (Ts := Cond.code yX4_linkLabels cX4_linkLabels 4 none :: rz_TB) hx hb hts rz_in9 ho hK rfl (by decide) rfl (fun _ => rfl) (hw (i := 17) (j := 13) rfl rfl) (fun _ z => z) dX4_linkLabels_21 hk) ?_
  refine rz_All_c (i := 15) (fun k J hk hJ => rz_bipush_ok (pc := 24) hx hb dX4_linkLabels_24 (by decide) hk) ?_
  refine rz_All_c (i := 16) (fun k J hk hJ => rz_aald_ok (pc := 26) hx hb hK dX4_linkLabels_26 hk) ?_
  refine rz_All_c (i := 17) (fun k J hk hJ => rz_iload_n_ok (pc := 27) hx hb dX4_linkLabels_27 rfl hk) ?_
  refine rz_All_c (i := 18) (fun k J hk hJ => rz_iald_ok (pc := 28) hx hb hK dX4_linkLabels_28 hk) ?_
  refine rz_All_c (i := 19) (fun k J hk hJ => rz_iadd_ok (pc := 29) hx hb dX4_linkLabels_29 hk) ?_
  refine rz_All_c (i := 20) (fun k J hk hJ => rz_icmpge_ok (pc := 30) hx hb dX4_linkLabels_30 rfl hk (hJ 36)) ?_
  refine rz_All_c (i := 21) (fun k J hk hJ => rz_aload_n_ok (pc := 33) hx hb dX4_linkLabels_33 rfl hk) ?_
  refine rz_All_c (i := 22) (fun k J hk hJ => rz_iload_n_ok (pc := 34) hx hb dX4_linkLabels_34 rfl hk) ?_
  refine rz_All_c (i := 23) (fun k J hk hJ => rz_aload_n_ok (pc := 35) hx hb dX4_linkLabels_35 rfl hk) ?_
  refine rz_All_c (i := 24) (fun k J hk hJ => rz_getf_ok (pc := 36) (own := RX4) (ref := "ThreadJudge$Linker") (C := RX4) (T := TX4) (N := 4) (ci := 6) (index := 9) (f := 0) (t := 2) (Ts := Cond.code yX4_linkLabels cX4_linkLabels 4 none :: rz_TB) hx hb hts rz_in6 ho hK rfl (by decide) rfl (fun _ => rfl) (hw (i := 16) (j := 3) rfl rfl) (fun _ z => z) dX4_linkLabels_36 hk) ?_
  refine rz_All_c (i := 25) (fun k J hk hJ => rz_getf_ok (pc := 39) (own := RX4) (ref := "ThreadJudge$Program") (C := RX7) (T := TX7) (N := 22) (ci := 9) (index := 179) (f := 17) (t := 2) (Ts := Cond.code yX4_linkLabels cX4_linkLabels 4 none :: rz_TB) hx hb hts rz_in9 ho hK rfl (by decide) rfl (fun _ => rfl) (hw (i := 21) (j := 16) rfl rfl) (fun _ z => z) dX4_linkLabels_39 hk) ?_
  refine rz_All_c (i := 26) (fun k J hk hJ => rz_iconst_ok (pc := 42) hx hb dX4_linkLabels_42 rfl hk) ?_
  refine rz_All_c (i := 27) (fun k J hk hJ => rz_aald_ok (pc := 43) hx hb hK dX4_linkLabels_43 hk) ?_
  refine rz_All_c (i := 28) (fun k J hk hJ => rz_iload_n_ok (pc := 44) hx hb dX4_linkLabels_44 rfl hk) ?_
  refine rz_All_c (i := 29) (fun k J hk hJ => rz_iald_ok (pc := 45) hx hb hK dX4_linkLabels_45 hk) ?_
  refine rz_All_c (i := 30) (fun k J hk hJ => rz_callV_ok (pc := 46) (own := RX4) (C := RX4) (T0 := TX4) (N0 := 4) hC rfl (rmX4_labelOf l hG) (rz_cwV 2 hC rz_good (rz_mem (i := 21) (j := 17) rfl rfl) (rz_mem (i := 21) (j := 18) rfl rfl) (rz_mem (i := 21) (j := 19) rfl rfl) (rz_mem (i := 15) (j := 19) rfl rfl) (rz_mem (i := 21) (j := 20) rfl rfl) ⟨rfl, by decide, by decide, by decide +kernel⟩ rfl rfl ⟨by decide, by decide⟩) rfl dX4_linkLabels_46 hk) ?_
  refine rz_All_c (i := 31) (fun k J hk hJ => rz_iload_n_ok (pc := 49) hx hb dX4_linkLabels_49 rfl hk) ?_
  refine rz_All_c (i := 32) (fun k J hk hJ => rz_icmpeq_ok (pc := 50) hx hb dX4_linkLabels_50 rfl hk (hJ 34)) ?_
  refine rz_All_c (i := 33) (fun k J hk hJ => rz_no_ok) ?_
  refine rz_All_c (i := 34) (fun k J hk hJ => rz_iinc_ok (pc := 70) hx hb dX4_linkLabels_70 (by decide) hk) ?_
  refine rz_All_c (i := 35) (fun k J hk hJ => rz_goto_ok (pc := 73) hx hb dX4_linkLabels_73 rfl (hJ 10)) ?_
  refine rz_All_c (i := 36) (fun k J hk hJ => rz_vret_ok (pc := 76) hC dX4_linkLabels_76) ?_
  exact trivial
theorem dX4_linkLines_0 : decode cX4_linkLines 0 = .ok (.iconst 0, 1) := by decide +kernel
theorem dX4_linkLines_1 : decode cX4_linkLines 1 = .ok (.istore_n 1, 1) := by decide +kernel
theorem dX4_linkLines_2 : decode cX4_linkLines 2 = .ok (.iload_n 1, 1) := by decide +kernel
theorem dX4_linkLines_3 : decode cX4_linkLines 3 = .ok (.aload_n 0, 1) := by decide +kernel
theorem dX4_linkLines_4 : decode cX4_linkLines 4 = .ok (.getfield 9, 3) := by decide +kernel
theorem dX4_linkLines_7 : decode cX4_linkLines 7 = .ok (.getfield 92, 3) := by decide +kernel
theorem dX4_linkLines_10 : decode cX4_linkLines 10 = .ok (.if_icmp .ge 19, 3) := by decide +kernel
theorem dX4_linkLines_13 : decode cX4_linkLines 13 = .ok (.aload_n 0, 1) := by decide +kernel
theorem dX4_linkLines_14 : decode cX4_linkLines 14 = .ok (.iload_n 1, 1) := by decide +kernel
theorem dX4_linkLines_15 : decode cX4_linkLines 15 = .ok (.invokevirtual 164, 3) := by decide +kernel
theorem dX4_linkLines_18 : decode cX4_linkLines 18 = .ok (.aload_n 0, 1) := by decide +kernel
theorem dX4_linkLines_19 : decode cX4_linkLines 19 = .ok (.iload_n 1, 1) := by decide +kernel
theorem dX4_linkLines_20 : decode cX4_linkLines 20 = .ok (.invokevirtual 167, 3) := by decide +kernel
theorem dX4_linkLines_23 : decode cX4_linkLines 23 = .ok (.iinc 1 1, 3) := by decide +kernel
theorem dX4_linkLines_26 : decode cX4_linkLines 26 = .ok (.goto (-24), 3) := by decide +kernel
theorem dX4_linkLines_29 : decode cX4_linkLines 29 = .ok (.iconst 0, 1) := by decide +kernel
theorem dX4_linkLines_30 : decode cX4_linkLines 30 = .ok (.istore_n 1, 1) := by decide +kernel
theorem dX4_linkLines_31 : decode cX4_linkLines 31 = .ok (.iload_n 1, 1) := by decide +kernel
theorem dX4_linkLines_32 : decode cX4_linkLines 32 = .ok (.aload_n 0, 1) := by decide +kernel
theorem dX4_linkLines_33 : decode cX4_linkLines 33 = .ok (.getfield 9, 3) := by decide +kernel
theorem dX4_linkLines_36 : decode cX4_linkLines 36 = .ok (.getfield 170, 3) := by decide +kernel
theorem dX4_linkLines_39 : decode cX4_linkLines 39 = .ok (.if_icmp .ge 34, 3) := by decide +kernel
theorem dX4_linkLines_42 : decode cX4_linkLines 42 = .ok (.aload_n 0, 1) := by decide +kernel
theorem dX4_linkLines_43 : decode cX4_linkLines 43 = .ok (.iload_n 1, 1) := by decide +kernel
theorem dX4_linkLines_44 : decode cX4_linkLines 44 = .ok (.invokevirtual 173, 3) := by decide +kernel
theorem dX4_linkLines_47 : decode cX4_linkLines 47 = .ok (.ifCond .eq 20, 3) := by decide +kernel
theorem dX4_linkLines_67 : decode cX4_linkLines 67 = .ok (.iinc 1 1, 3) := by decide +kernel
theorem dX4_linkLines_70 : decode cX4_linkLines 70 = .ok (.goto (-39), 3) := by decide +kernel
theorem dX4_linkLines_73 : decode cX4_linkLines 73 = .ok (.return_, 1) := by decide +kernel
def rpX4_linkLines : List Nat := [0, 1, 2, 3, 4, 7, 10, 13, 14, 15, 18, 19, 20, 23, 26, 29, 30, 31, 32, 33, 36, 39, 42, 43, 44, 47, 50, 67, 70, 73]
noncomputable def rcX4_linkLines : List rz_B := [rz_cst 0, rz_istore 1, rz_iload 1, rz_aload 0, rz_getf (Nat.add (Nat.mul 256 6) 1) 0 rz_r, rz_getf (Nat.add (Nat.mul 256 9) 1) 9 rz_i, rz_icmpge 15, rz_aload 0, rz_iload 1, rz_callVv 1 (Nat.add (Nat.mul 256 6) 1) rgX4_linkLabels, rz_aload 0, rz_iload 1, rz_callVv 1 (Nat.add (Nat.mul 256 6) 1) rgX4_linkCatches, rz_iinc 1 1, rz_goto 2, rz_cst 0, rz_istore 1, rz_iload 1, rz_aload 0, rz_getf (Nat.add (Nat.mul 256 6) 1) 0 rz_r, rz_getf (Nat.add (Nat.mul 256 9) 1) 13 rz_i, rz_icmpge 29, rz_aload 0, rz_iload 1, rz_callV 1 (Nat.add (Nat.mul 256 6) 1) rgX4_isLineWrong, rz_ifeq 27, rz_no, rz_iinc 1 1, rz_goto 17, rz_vret]
noncomputable def rgX4_linkLines : rz_L → rz_M → rz_Z → Bool := rz_go rcX4_linkLines 2 1000000
def rrX4_linkLines : Room := { frames := 5, cells := 0, slots := 0, locals := 145 }
theorem rmX4_linkLines (l : Launch) {G : rz_G} (hG : rz_Gd G) (vs : rz_L) (M : rz_M) (Z : rz_Z) (hn : vs.length = 1) (h : rgX4_linkLines vs M Z = true) : Met l yX4_linkLines (Cond.code yX4_linkLines cX4_linkLines 2 none :: rz_TB) rrX4_linkLines (rz_Pre G vs M) (rz_Qv G M.2 Z) 0 0 (fun q => rz_b G ≤ q) := by
  obtain ⟨D, tc, ad, b, xs, rfl⟩ := id hG
  refine rz_body (pcs := rpX4_linkLines) (by decide) rfl (by rw [hn]; decide) h ?_
  intro p e R s m args below meth c hC
  obtain ⟨hx, hb, hml, hr, hlk, ho, hts, hKn, hRm⟩ := id hC
  obtain ⟨hK, hA, hSt⟩ := id hKn
  have hw : ∀ {i j : Nat} {ws : List Cond} {w : Cond}, rz_WW[i]? = some ws → ws[j]? = some w → w.before args s = true := fun h1 h2 => hts _ (List.mem_cons_of_mem _ (rz_mem h1 h2))
  refine rz_All_c (i := 0) (fun k J hk hJ => rz_iconst_ok (pc := 0) hx hb dX4_linkLines_0 rfl hk) ?_
  refine rz_All_c (i := 1) (fun k J hk hJ => rz_istore_n_ok (pc := 1) hx hb dX4_linkLines_1 rfl hk) ?_
  refine rz_All_c (i := 2) (fun k J hk hJ => rz_iload_n_ok (pc := 2) hx hb dX4_linkLines_2 rfl hk) ?_
  refine rz_All_c (i := 3) (fun k J hk hJ => rz_aload_n_ok (pc := 3) hx hb dX4_linkLines_3 rfl hk) ?_
  refine rz_All_c (i := 4) (fun k J hk hJ => rz_getf_ok (pc := 4) (own := RX4) (ref := "ThreadJudge$Linker") (C := RX4) (T := TX4) (N := 4) (ci := 6) (index := 9) (f := 0) (t := 2) (Ts := Cond.code yX4_linkLines cX4_linkLines 2 none :: rz_TB) hx hb hts rz_in6 ho hK rfl (by decide) rfl (fun _ => rfl) (hw (i := 16) (j := 3) rfl rfl) (fun _ z => z) dX4_linkLines_4 hk) ?_
  refine rz_All_c (i := 5) (fun k J hk hJ => rz_getf_ok (pc := 7) (own := RX4) (ref := "ThreadJudge$Program") (C := RX7) (T := TX7) (N := 22) (ci := 9) (index := 92) (f := 9) (t := 0) (Ts := Cond.code yX4_linkLines cX4_linkLines 2 none :: rz_TB) hx hb hts rz_in9 ho hK rfl (by decide) rfl (fun _ => rfl) (hw (i := 17) (j := 12) rfl rfl) (fun _ z => z) dX4_linkLines_7 hk) ?_
  refine rz_All_c (i := 6) (fun k J hk hJ => rz_icmpge_ok (pc := 10) hx hb dX4_linkLines_10 rfl hk (hJ 15)) ?_
  refine rz_All_c (i := 7) (fun k J hk hJ => rz_aload_n_ok (pc := 13) hx hb dX4_linkLines_13 rfl hk) ?_
  refine rz_All_c (i := 8) (fun k J hk hJ => rz_iload_n_ok (pc := 14) hx hb dX4_linkLines_14 rfl hk) ?_
  refine rz_All_c (i := 9) (fun k J hk hJ => rz_callVv_ok (pc := 15) (own := RX4) (C := RX4) (T0 := TX4) (N0 := 4) hC rfl (rmX4_linkLabels l hG) (rz_cwV 1 hC rz_good (rz_mem (i := 21) (j := 12) rfl rfl) (rz_mem (i := 21) (j := 13) rfl rfl) (rz_mem (i := 21) (j := 14) rfl rfl) (rz_mem (i := 15) (j := 19) rfl rfl) (rz_mem (i := 21) (j := 15) rfl rfl) ⟨rfl, by decide, by decide, by decide +kernel⟩ rfl rfl ⟨by decide, by decide⟩) rfl dX4_linkLines_15 hk) ?_
  refine rz_All_c (i := 10) (fun k J hk hJ => rz_aload_n_ok (pc := 18) hx hb dX4_linkLines_18 rfl hk) ?_
  refine rz_All_c (i := 11) (fun k J hk hJ => rz_iload_n_ok (pc := 19) hx hb dX4_linkLines_19 rfl hk) ?_
  refine rz_All_c (i := 12) (fun k J hk hJ => rz_callVv_ok (pc := 20) (own := RX4) (C := RX4) (T0 := TX4) (N0 := 4) hC rfl (rmX4_linkCatches l hG) (rz_cwV 1 hC rz_good (rz_mem (i := 21) (j := 21) rfl rfl) (rz_mem (i := 21) (j := 22) rfl rfl) (rz_mem (i := 21) (j := 23) rfl rfl) (rz_mem (i := 15) (j := 19) rfl rfl) (rz_mem (i := 22) (j := 0) rfl rfl) ⟨rfl, by decide, by decide, by decide +kernel⟩ rfl rfl ⟨by decide, by decide⟩) rfl dX4_linkLines_20 hk) ?_
  refine rz_All_c (i := 13) (fun k J hk hJ => rz_iinc_ok (pc := 23) hx hb dX4_linkLines_23 (by decide) hk) ?_
  refine rz_All_c (i := 14) (fun k J hk hJ => rz_goto_ok (pc := 26) hx hb dX4_linkLines_26 rfl (hJ 2)) ?_
  refine rz_All_c (i := 15) (fun k J hk hJ => rz_iconst_ok (pc := 29) hx hb dX4_linkLines_29 rfl hk) ?_
  refine rz_All_c (i := 16) (fun k J hk hJ => rz_istore_n_ok (pc := 30) hx hb dX4_linkLines_30 rfl hk) ?_
  refine rz_All_c (i := 17) (fun k J hk hJ => rz_iload_n_ok (pc := 31) hx hb dX4_linkLines_31 rfl hk) ?_
  refine rz_All_c (i := 18) (fun k J hk hJ => rz_aload_n_ok (pc := 32) hx hb dX4_linkLines_32 rfl hk) ?_
  refine rz_All_c (i := 19) (fun k J hk hJ => rz_getf_ok (pc := 33) (own := RX4) (ref := "ThreadJudge$Linker") (C := RX4) (T := TX4) (N := 4) (ci := 6) (index := 9) (f := 0) (t := 2) (Ts := Cond.code yX4_linkLines cX4_linkLines 2 none :: rz_TB) hx hb hts rz_in6 ho hK rfl (by decide) rfl (fun _ => rfl) (hw (i := 16) (j := 3) rfl rfl) (fun _ z => z) dX4_linkLines_33 hk) ?_
  refine rz_All_c (i := 20) (fun k J hk hJ => rz_getf_ok (pc := 36) (own := RX4) (ref := "ThreadJudge$Program") (C := RX7) (T := TX7) (N := 22) (ci := 9) (index := 170) (f := 13) (t := 0) (Ts := Cond.code yX4_linkLines cX4_linkLines 2 none :: rz_TB) hx hb hts rz_in9 ho hK rfl (by decide) rfl (fun _ => rfl) (hw (i := 21) (j := 10) rfl rfl) (fun _ z => z) dX4_linkLines_36 hk) ?_
  refine rz_All_c (i := 21) (fun k J hk hJ => rz_icmpge_ok (pc := 39) hx hb dX4_linkLines_39 rfl hk (hJ 29)) ?_
  refine rz_All_c (i := 22) (fun k J hk hJ => rz_aload_n_ok (pc := 42) hx hb dX4_linkLines_42 rfl hk) ?_
  refine rz_All_c (i := 23) (fun k J hk hJ => rz_iload_n_ok (pc := 43) hx hb dX4_linkLines_43 rfl hk) ?_
  refine rz_All_c (i := 24) (fun k J hk hJ => rz_callV_ok (pc := 44) (own := RX4) (C := RX4) (T0 := TX4) (N0 := 4) hC rfl (rmX4_isLineWrong l hG) (rz_cwV 1 hC rz_good (rz_mem (i := 22) (j := 2) rfl rfl) (rz_mem (i := 22) (j := 3) rfl rfl) (rz_mem (i := 22) (j := 4) rfl rfl) (rz_mem (i := 15) (j := 19) rfl rfl) (rz_mem (i := 22) (j := 5) rfl rfl) ⟨rfl, by decide, by decide, by decide +kernel⟩ rfl rfl ⟨by decide, by decide⟩) rfl dX4_linkLines_44 hk) ?_
  refine rz_All_c (i := 25) (fun k J hk hJ => rz_ifeq_ok (pc := 47) hx hb dX4_linkLines_47 rfl hk (hJ 27)) ?_
  refine rz_All_c (i := 26) (fun k J hk hJ => rz_no_ok) ?_
  refine rz_All_c (i := 27) (fun k J hk hJ => rz_iinc_ok (pc := 67) hx hb dX4_linkLines_67 (by decide) hk) ?_
  refine rz_All_c (i := 28) (fun k J hk hJ => rz_goto_ok (pc := 70) hx hb dX4_linkLines_70 rfl (hJ 17)) ?_
  refine rz_All_c (i := 29) (fun k J hk hJ => rz_vret_ok (pc := 73) hC dX4_linkLines_73) ?_
  exact trivial
theorem dX4_linkMembers_0 : decode cX4_linkMembers 0 = .ok (.iconst 1, 1) := by decide +kernel
theorem dX4_linkMembers_1 : decode cX4_linkMembers 1 = .ok (.istore_n 1, 1) := by decide +kernel
theorem dX4_linkMembers_2 : decode cX4_linkMembers 2 = .ok (.iload_n 1, 1) := by decide +kernel
theorem dX4_linkMembers_3 : decode cX4_linkMembers 3 = .ok (.aload_n 0, 1) := by decide +kernel
theorem dX4_linkMembers_4 : decode cX4_linkMembers 4 = .ok (.getfield 9, 3) := by decide +kernel
theorem dX4_linkMembers_7 : decode cX4_linkMembers 7 = .ok (.getfield 83, 3) := by decide +kernel
theorem dX4_linkMembers_10 : decode cX4_linkMembers 10 = .ok (.if_icmp .ge 34, 3) := by decide +kernel
theorem dX4_linkMembers_44 : decode cX4_linkMembers 44 = .ok (.bipush 17, 2) := by decide +kernel
theorem dX4_linkMembers_46 : decode cX4_linkMembers 46 = .ok (.istore_n 1, 1) := by decide +kernel
theorem dX4_linkMembers_47 : decode cX4_linkMembers 47 = .ok (.iload_n 1, 1) := by decide +kernel
theorem dX4_linkMembers_48 : decode cX4_linkMembers 48 = .ok (.aload_n 0, 1) := by decide +kernel
theorem dX4_linkMembers_49 : decode cX4_linkMembers 49 = .ok (.getfield 9, 3) := by decide +kernel
theorem dX4_linkMembers_52 : decode cX4_linkMembers 52 = .ok (.getfield 92, 3) := by decide +kernel
theorem dX4_linkMembers_55 : decode cX4_linkMembers 55 = .ok (.if_icmp .ge 58, 3) := by decide +kernel
theorem dX4_linkMembers_113 : decode cX4_linkMembers 113 = .ok (.bipush 19, 2) := by decide +kernel
theorem dX4_linkMembers_115 : decode cX4_linkMembers 115 = .ok (.istore_n 1, 1) := by decide +kernel
theorem dX4_linkMembers_116 : decode cX4_linkMembers 116 = .ok (.iload_n 1, 1) := by decide +kernel
theorem dX4_linkMembers_117 : decode cX4_linkMembers 117 = .ok (.aload_n 0, 1) := by decide +kernel
theorem dX4_linkMembers_118 : decode cX4_linkMembers 118 = .ok (.getfield 9, 3) := by decide +kernel
theorem dX4_linkMembers_121 : decode cX4_linkMembers 121 = .ok (.getfield 45, 3) := by decide +kernel
theorem dX4_linkMembers_124 : decode cX4_linkMembers 124 = .ok (.if_icmp .ge 34, 3) := by decide +kernel
theorem dX4_linkMembers_158 : decode cX4_linkMembers 158 = .ok (.return_, 1) := by decide +kernel
def rpX4_linkMembers : List Nat := [0, 1, 2, 3, 4, 7, 10, 13, 44, 46, 47, 48, 49, 52, 55, 58, 113, 115, 116, 117, 118, 121, 124, 127, 158]
noncomputable def rcX4_linkMembers : List rz_B := [rz_cst 1, rz_istore 1, rz_iload 1, rz_aload 0, rz_getf (Nat.add (Nat.mul 256 6) 1) 0 rz_r, rz_getf (Nat.add (Nat.mul 256 9) 1) 7 rz_i, rz_icmpge 8, rz_no, rz_cst 17, rz_istore 1, rz_iload 1, rz_aload 0, rz_getf (Nat.add (Nat.mul 256 6) 1) 0 rz_r, rz_getf (Nat.add (Nat.mul 256 9) 1) 9 rz_i, rz_icmpge 16, rz_no, rz_cst 19, rz_istore 1, rz_iload 1, rz_aload 0, rz_getf (Nat.add (Nat.mul 256 6) 1) 0 rz_r, rz_getf (Nat.add (Nat.mul 256 9) 1) 2 rz_i, rz_icmpge 24, rz_no, rz_vret]
noncomputable def rgX4_linkMembers : rz_L → rz_M → rz_Z → Bool := rz_go rcX4_linkMembers 2 1000000
def rrX4_linkMembers : Room := { frames := 0, cells := 0, slots := 0, locals := 0 }
theorem rmX4_linkMembers (l : Launch) {G : rz_G} (hG : rz_Gd G) (vs : rz_L) (M : rz_M) (Z : rz_Z) (hn : vs.length = 1) (h : rgX4_linkMembers vs M Z = true) : Met l yX4_linkMembers (Cond.code yX4_linkMembers cX4_linkMembers 2 none :: rz_TB) rrX4_linkMembers (rz_Pre G vs M) (rz_Qv G M.2 Z) 0 0 (fun q => rz_b G ≤ q) := by
  obtain ⟨D, tc, ad, b, xs, rfl⟩ := id hG
  refine rz_body (pcs := rpX4_linkMembers) (by decide) rfl (by rw [hn]; decide) h ?_
  intro p e R s m args below meth c hC
  obtain ⟨hx, hb, hml, hr, hlk, ho, hts, hKn, hRm⟩ := id hC
  obtain ⟨hK, hA, hSt⟩ := id hKn
  have hw : ∀ {i j : Nat} {ws : List Cond} {w : Cond}, rz_WW[i]? = some ws → ws[j]? = some w → w.before args s = true := fun h1 h2 => hts _ (List.mem_cons_of_mem _ (rz_mem h1 h2))
  refine rz_All_c (i := 0) (fun k J hk hJ => rz_iconst_ok (pc := 0) hx hb dX4_linkMembers_0 rfl hk) ?_
  refine rz_All_c (i := 1) (fun k J hk hJ => rz_istore_n_ok (pc := 1) hx hb dX4_linkMembers_1 rfl hk) ?_
  refine rz_All_c (i := 2) (fun k J hk hJ => rz_iload_n_ok (pc := 2) hx hb dX4_linkMembers_2 rfl hk) ?_
  refine rz_All_c (i := 3) (fun k J hk hJ => rz_aload_n_ok (pc := 3) hx hb dX4_linkMembers_3 rfl hk) ?_
  refine rz_All_c (i := 4) (fun k J hk hJ => rz_getf_ok (pc := 4) (own := RX4) (ref := "ThreadJudge$Linker") (C := RX4) (T := TX4) (N := 4) (ci := 6) (index := 9) (f := 0) (t := 2) (Ts := Cond.code yX4_linkMembers cX4_linkMembers 2 none :: rz_TB) hx hb hts rz_in6 ho hK rfl (by decide) rfl (fun _ => rfl) (hw (i := 16) (j := 3) rfl rfl) (fun _ z => z) dX4_linkMembers_4 hk) ?_
  refine rz_All_c (i := 5) (fun k J hk hJ => rz_getf_ok (pc := 7) (own := RX4) (ref := "ThreadJudge$Program") (C := RX7) (T := TX7) (N := 22) (ci := 9) (index := 83) (f := 7) (t := 0) (Ts := Cond.code yX4_linkMembers cX4_linkMembers 2 none :: rz_TB) hx hb hts rz_in9 ho hK rfl (by decide) rfl (fun _ => rfl) (hw (i := 17) (j := 10) rfl rfl) (fun _ z => z) dX4_linkMembers_7 hk) ?_
  refine rz_All_c (i := 6) (fun k J hk hJ => rz_icmpge_ok (pc := 10) hx hb dX4_linkMembers_10 rfl hk (hJ 8)) ?_
  refine rz_All_c (i := 7) (fun k J hk hJ => rz_no_ok) ?_
  refine rz_All_c (i := 8) (fun k J hk hJ => rz_bipush_ok (pc := 44) hx hb dX4_linkMembers_44 (by decide) hk) ?_
  refine rz_All_c (i := 9) (fun k J hk hJ => rz_istore_n_ok (pc := 46) hx hb dX4_linkMembers_46 rfl hk) ?_
  refine rz_All_c (i := 10) (fun k J hk hJ => rz_iload_n_ok (pc := 47) hx hb dX4_linkMembers_47 rfl hk) ?_
  refine rz_All_c (i := 11) (fun k J hk hJ => rz_aload_n_ok (pc := 48) hx hb dX4_linkMembers_48 rfl hk) ?_
  refine rz_All_c (i := 12) (fun k J hk hJ => rz_getf_ok (pc := 49) (own := RX4) (ref := "ThreadJudge$Linker") (C := RX4) (T := TX4) (N := 4) (ci := 6) (index := 9) (f := 0) (t := 2) (Ts := Cond.code yX4_linkMembers cX4_linkMembers 2 none :: rz_TB) hx hb hts rz_in6 ho hK rfl (by decide) rfl (fun _ => rfl) (hw (i := 16) (j := 3) rfl rfl) (fun _ z => z) dX4_linkMembers_49 hk) ?_
  refine rz_All_c (i := 13) (fun k J hk hJ => rz_getf_ok (pc := 52) (own := RX4) (ref := "ThreadJudge$Program") (C := RX7) (T := TX7) (N := 22) (ci := 9) (index := 92) (f := 9) (t := 0) (Ts := Cond.code yX4_linkMembers cX4_linkMembers 2 none :: rz_TB) hx hb hts rz_in9 ho hK rfl (by decide) rfl (fun _ => rfl) (hw (i := 17) (j := 12) rfl rfl) (fun _ z => z) dX4_linkMembers_52 hk) ?_
  refine rz_All_c (i := 14) (fun k J hk hJ => rz_icmpge_ok (pc := 55) hx hb dX4_linkMembers_55 rfl hk (hJ 16)) ?_
  refine rz_All_c (i := 15) (fun k J hk hJ => rz_no_ok) ?_
  refine rz_All_c (i := 16) (fun k J hk hJ => rz_bipush_ok (pc := 113) hx hb dX4_linkMembers_113 (by decide) hk) ?_
  refine rz_All_c (i := 17) (fun k J hk hJ => rz_istore_n_ok (pc := 115) hx hb dX4_linkMembers_115 rfl hk) ?_
  refine rz_All_c (i := 18) (fun k J hk hJ => rz_iload_n_ok (pc := 116) hx hb dX4_linkMembers_116 rfl hk) ?_
  refine rz_All_c (i := 19) (fun k J hk hJ => rz_aload_n_ok (pc := 117) hx hb dX4_linkMembers_117 rfl hk) ?_
  refine rz_All_c (i := 20) (fun k J hk hJ => rz_getf_ok (pc := 118) (own := RX4) (ref := "ThreadJudge$Linker") (C := RX4) (T := TX4) (N := 4) (ci := 6) (index := 9) (f := 0) (t := 2) (Ts := Cond.code yX4_linkMembers cX4_linkMembers 2 none :: rz_TB) hx hb hts rz_in6 ho hK rfl (by decide) rfl (fun _ => rfl) (hw (i := 16) (j := 3) rfl rfl) (fun _ z => z) dX4_linkMembers_118 hk) ?_
  refine rz_All_c (i := 21) (fun k J hk hJ => rz_getf_ok (pc := 121) (own := RX4) (ref := "ThreadJudge$Program") (C := RX7) (T := TX7) (N := 22) (ci := 9) (index := 45) (f := 2) (t := 0) (Ts := Cond.code yX4_linkMembers cX4_linkMembers 2 none :: rz_TB) hx hb hts rz_in9 ho hK rfl (by decide) rfl (fun _ => rfl) (hw (i := 16) (j := 4) rfl rfl) (fun _ z => z) dX4_linkMembers_121 hk) ?_
  refine rz_All_c (i := 22) (fun k J hk hJ => rz_icmpge_ok (pc := 124) hx hb dX4_linkMembers_124 rfl hk (hJ 24)) ?_
  refine rz_All_c (i := 23) (fun k J hk hJ => rz_no_ok) ?_
  refine rz_All_c (i := 24) (fun k J hk hJ => rz_vret_ok (pc := 158) hC dX4_linkMembers_158) ?_
  exact trivial
theorem dX4_resolveTypes_0 : decode cX4_resolveTypes 0 = .ok (.iconst 0, 1) := by decide +kernel
theorem dX4_resolveTypes_1 : decode cX4_resolveTypes 1 = .ok (.istore_n 1, 1) := by decide +kernel
theorem dX4_resolveTypes_2 : decode cX4_resolveTypes 2 = .ok (.iload_n 1, 1) := by decide +kernel
theorem dX4_resolveTypes_3 : decode cX4_resolveTypes 3 = .ok (.aload_n 0, 1) := by decide +kernel
theorem dX4_resolveTypes_4 : decode cX4_resolveTypes 4 = .ok (.getfield 9, 3) := by decide +kernel
theorem dX4_resolveTypes_7 : decode cX4_resolveTypes 7 = .ok (.getfield 83, 3) := by decide +kernel
theorem dX4_resolveTypes_10 : decode cX4_resolveTypes 10 = .ok (.if_icmp .ge 35, 3) := by decide +kernel
theorem dX4_resolveTypes_13 : decode cX4_resolveTypes 13 = .ok (.aload_n 0, 1) := by decide +kernel
theorem dX4_resolveTypes_14 : decode cX4_resolveTypes 14 = .ok (.getfield 9, 3) := by decide +kernel
theorem dX4_resolveTypes_17 : decode cX4_resolveTypes 17 = .ok (.getfield 86, 3) := by decide +kernel
theorem dX4_resolveTypes_20 : decode cX4_resolveTypes 20 = .ok (.iconst 3, 1) := by decide +kernel
theorem dX4_resolveTypes_21 : decode cX4_resolveTypes 21 = .ok (.aaload, 1) := by decide +kernel
theorem dX4_resolveTypes_22 : decode cX4_resolveTypes 22 = .ok (.iload_n 1, 1) := by decide +kernel
theorem dX4_resolveTypes_23 : decode cX4_resolveTypes 23 = .ok (.aload_n 0, 1) := by decide +kernel
theorem dX4_resolveTypes_24 : decode cX4_resolveTypes 24 = .ok (.aload_n 0, 1) := by decide +kernel
theorem dX4_resolveTypes_25 : decode cX4_resolveTypes 25 = .ok (.getfield 9, 3) := by decide +kernel
theorem dX4_resolveTypes_28 : decode cX4_resolveTypes 28 = .ok (.getfield 86, 3) := by decide +kernel
theorem dX4_resolveTypes_31 : decode cX4_resolveTypes 31 = .ok (.iconst 3, 1) := by decide +kernel
theorem dX4_resolveTypes_32 : decode cX4_resolveTypes 32 = .ok (.aaload, 1) := by decide +kernel
theorem dX4_resolveTypes_33 : decode cX4_resolveTypes 33 = .ok (.iload_n 1, 1) := by decide +kernel
theorem dX4_resolveTypes_34 : decode cX4_resolveTypes 34 = .ok (.iaload, 1) := by decide +kernel
theorem dX4_resolveTypes_35 : decode cX4_resolveTypes 35 = .ok (.invokevirtual 89, 3) := by decide +kernel
theorem dX4_resolveTypes_38 : decode cX4_resolveTypes 38 = .ok (.iastore, 1) := by decide +kernel
theorem dX4_resolveTypes_39 : decode cX4_resolveTypes 39 = .ok (.iinc 1 1, 3) := by decide +kernel
theorem dX4_resolveTypes_42 : decode cX4_resolveTypes 42 = .ok (.goto (-40), 3) := by decide +kernel
theorem dX4_resolveTypes_45 : decode cX4_resolveTypes 45 = .ok (.iconst 0, 1) := by decide +kernel
theorem dX4_resolveTypes_46 : decode cX4_resolveTypes 46 = .ok (.istore_n 1, 1) := by decide +kernel
theorem dX4_resolveTypes_47 : decode cX4_resolveTypes 47 = .ok (.iload_n 1, 1) := by decide +kernel
theorem dX4_resolveTypes_48 : decode cX4_resolveTypes 48 = .ok (.aload_n 0, 1) := by decide +kernel
theorem dX4_resolveTypes_49 : decode cX4_resolveTypes 49 = .ok (.getfield 9, 3) := by decide +kernel
theorem dX4_resolveTypes_52 : decode cX4_resolveTypes 52 = .ok (.getfield 92, 3) := by decide +kernel
theorem dX4_resolveTypes_55 : decode cX4_resolveTypes 55 = .ok (.if_icmp .ge 176, 3) := by decide +kernel
theorem dX4_resolveTypes_58 : decode cX4_resolveTypes 58 = .ok (.aload_n 0, 1) := by decide +kernel
theorem dX4_resolveTypes_59 : decode cX4_resolveTypes 59 = .ok (.getfield 9, 3) := by decide +kernel
theorem dX4_resolveTypes_62 : decode cX4_resolveTypes 62 = .ok (.getfield 95, 3) := by decide +kernel
theorem dX4_resolveTypes_65 : decode cX4_resolveTypes 65 = .ok (.iconst 3, 1) := by decide +kernel
theorem dX4_resolveTypes_66 : decode cX4_resolveTypes 66 = .ok (.aaload, 1) := by decide +kernel
theorem dX4_resolveTypes_67 : decode cX4_resolveTypes 67 = .ok (.iload_n 1, 1) := by decide +kernel
theorem dX4_resolveTypes_68 : decode cX4_resolveTypes 68 = .ok (.aload_n 0, 1) := by decide +kernel
theorem dX4_resolveTypes_69 : decode cX4_resolveTypes 69 = .ok (.aload_n 0, 1) := by decide +kernel
theorem dX4_resolveTypes_70 : decode cX4_resolveTypes 70 = .ok (.getfield 9, 3) := by decide +kernel
theorem dX4_resolveTypes_73 : decode cX4_resolveTypes 73 = .ok (.getfield 95, 3) := by decide +kernel
theorem dX4_resolveTypes_76 : decode cX4_resolveTypes 76 = .ok (.iconst 3, 1) := by decide +kernel
theorem dX4_resolveTypes_77 : decode cX4_resolveTypes 77 = .ok (.aaload, 1) := by decide +kernel
theorem dX4_resolveTypes_78 : decode cX4_resolveTypes 78 = .ok (.iload_n 1, 1) := by decide +kernel
theorem dX4_resolveTypes_79 : decode cX4_resolveTypes 79 = .ok (.iaload, 1) := by decide +kernel
theorem dX4_resolveTypes_80 : decode cX4_resolveTypes 80 = .ok (.invokevirtual 89, 3) := by decide +kernel
theorem dX4_resolveTypes_83 : decode cX4_resolveTypes 83 = .ok (.iastore, 1) := by decide +kernel
theorem dX4_resolveTypes_84 : decode cX4_resolveTypes 84 = .ok (.iload_n 1, 1) := by decide +kernel
theorem dX4_resolveTypes_85 : decode cX4_resolveTypes 85 = .ok (.bipush 6, 2) := by decide +kernel
theorem dX4_resolveTypes_87 : decode cX4_resolveTypes 87 = .ok (.imul, 1) := by decide +kernel
theorem dX4_resolveTypes_88 : decode cX4_resolveTypes 88 = .ok (.istore_n 2, 1) := by decide +kernel
theorem dX4_resolveTypes_89 : decode cX4_resolveTypes 89 = .ok (.iload_n 2, 1) := by decide +kernel
theorem dX4_resolveTypes_90 : decode cX4_resolveTypes 90 = .ok (.iload_n 1, 1) := by decide +kernel
theorem dX4_resolveTypes_91 : decode cX4_resolveTypes 91 = .ok (.bipush 6, 2) := by decide +kernel
theorem dX4_resolveTypes_93 : decode cX4_resolveTypes 93 = .ok (.imul, 1) := by decide +kernel
theorem dX4_resolveTypes_94 : decode cX4_resolveTypes 94 = .ok (.aload_n 0, 1) := by decide +kernel
theorem dX4_resolveTypes_95 : decode cX4_resolveTypes 95 = .ok (.getfield 9, 3) := by decide +kernel
theorem dX4_resolveTypes_98 : decode cX4_resolveTypes 98 = .ok (.getfield 95, 3) := by decide +kernel
theorem dX4_resolveTypes_101 : decode cX4_resolveTypes 101 = .ok (.iconst 5, 1) := by decide +kernel
theorem dX4_resolveTypes_102 : decode cX4_resolveTypes 102 = .ok (.aaload, 1) := by decide +kernel
theorem dX4_resolveTypes_103 : decode cX4_resolveTypes 103 = .ok (.iload_n 1, 1) := by decide +kernel
theorem dX4_resolveTypes_104 : decode cX4_resolveTypes 104 = .ok (.iaload, 1) := by decide +kernel
theorem dX4_resolveTypes_105 : decode cX4_resolveTypes 105 = .ok (.iadd, 1) := by decide +kernel
theorem dX4_resolveTypes_106 : decode cX4_resolveTypes 106 = .ok (.if_icmp .ge 31, 3) := by decide +kernel
theorem dX4_resolveTypes_109 : decode cX4_resolveTypes 109 = .ok (.aload_n 0, 1) := by decide +kernel
theorem dX4_resolveTypes_110 : decode cX4_resolveTypes 110 = .ok (.getfield 9, 3) := by decide +kernel
theorem dX4_resolveTypes_113 : decode cX4_resolveTypes 113 = .ok (.getfield 98, 3) := by decide +kernel
theorem dX4_resolveTypes_116 : decode cX4_resolveTypes 116 = .ok (.iload_n 2, 1) := by decide +kernel
theorem dX4_resolveTypes_117 : decode cX4_resolveTypes 117 = .ok (.aload_n 0, 1) := by decide +kernel
theorem dX4_resolveTypes_118 : decode cX4_resolveTypes 118 = .ok (.aload_n 0, 1) := by decide +kernel
theorem dX4_resolveTypes_119 : decode cX4_resolveTypes 119 = .ok (.getfield 9, 3) := by decide +kernel
theorem dX4_resolveTypes_122 : decode cX4_resolveTypes 122 = .ok (.getfield 98, 3) := by decide +kernel
theorem dX4_resolveTypes_125 : decode cX4_resolveTypes 125 = .ok (.iload_n 2, 1) := by decide +kernel
theorem dX4_resolveTypes_126 : decode cX4_resolveTypes 126 = .ok (.iaload, 1) := by decide +kernel
theorem dX4_resolveTypes_127 : decode cX4_resolveTypes 127 = .ok (.invokevirtual 89, 3) := by decide +kernel
theorem dX4_resolveTypes_130 : decode cX4_resolveTypes 130 = .ok (.iastore, 1) := by decide +kernel
theorem dX4_resolveTypes_131 : decode cX4_resolveTypes 131 = .ok (.iinc 2 1, 3) := by decide +kernel
theorem dX4_resolveTypes_134 : decode cX4_resolveTypes 134 = .ok (.goto (-45), 3) := by decide +kernel
theorem dX4_resolveTypes_137 : decode cX4_resolveTypes 137 = .ok (.aload_n 0, 1) := by decide +kernel
theorem dX4_resolveTypes_138 : decode cX4_resolveTypes 138 = .ok (.getfield 9, 3) := by decide +kernel
theorem dX4_resolveTypes_141 : decode cX4_resolveTypes 141 = .ok (.getfield 95, 3) := by decide +kernel
theorem dX4_resolveTypes_144 : decode cX4_resolveTypes 144 = .ok (.bipush 12, 2) := by decide +kernel
theorem dX4_resolveTypes_146 : decode cX4_resolveTypes 146 = .ok (.aaload, 1) := by decide +kernel
theorem dX4_resolveTypes_147 : decode cX4_resolveTypes 147 = .ok (.iload_n 1, 1) := by decide +kernel
theorem dX4_resolveTypes_148 : decode cX4_resolveTypes 148 = .ok (.aload_n 0, 1) := by decide +kernel
theorem dX4_resolveTypes_149 : decode cX4_resolveTypes 149 = .ok (.aload_n 0, 1) := by decide +kernel
theorem dX4_resolveTypes_150 : decode cX4_resolveTypes 150 = .ok (.getfield 9, 3) := by decide +kernel
theorem dX4_resolveTypes_153 : decode cX4_resolveTypes 153 = .ok (.getfield 95, 3) := by decide +kernel
theorem dX4_resolveTypes_156 : decode cX4_resolveTypes 156 = .ok (.iconst 0, 1) := by decide +kernel
theorem dX4_resolveTypes_157 : decode cX4_resolveTypes 157 = .ok (.aaload, 1) := by decide +kernel
theorem dX4_resolveTypes_158 : decode cX4_resolveTypes 158 = .ok (.iload_n 1, 1) := by decide +kernel
theorem dX4_resolveTypes_159 : decode cX4_resolveTypes 159 = .ok (.iaload, 1) := by decide +kernel
theorem dX4_resolveTypes_160 : decode cX4_resolveTypes 160 = .ok (.aload_n 0, 1) := by decide +kernel
theorem dX4_resolveTypes_161 : decode cX4_resolveTypes 161 = .ok (.getfield 9, 3) := by decide +kernel
theorem dX4_resolveTypes_164 : decode cX4_resolveTypes 164 = .ok (.getfield 98, 3) := by decide +kernel
theorem dX4_resolveTypes_167 : decode cX4_resolveTypes 167 = .ok (.iload_n 1, 1) := by decide +kernel
theorem dX4_resolveTypes_168 : decode cX4_resolveTypes 168 = .ok (.bipush 6, 2) := by decide +kernel
theorem dX4_resolveTypes_170 : decode cX4_resolveTypes 170 = .ok (.imul, 1) := by decide +kernel
theorem dX4_resolveTypes_171 : decode cX4_resolveTypes 171 = .ok (.aload_n 0, 1) := by decide +kernel
theorem dX4_resolveTypes_172 : decode cX4_resolveTypes 172 = .ok (.getfield 9, 3) := by decide +kernel
theorem dX4_resolveTypes_175 : decode cX4_resolveTypes 175 = .ok (.getfield 95, 3) := by decide +kernel
theorem dX4_resolveTypes_178 : decode cX4_resolveTypes 178 = .ok (.iconst 5, 1) := by decide +kernel
theorem dX4_resolveTypes_179 : decode cX4_resolveTypes 179 = .ok (.aaload, 1) := by decide +kernel
theorem dX4_resolveTypes_180 : decode cX4_resolveTypes 180 = .ok (.iload_n 1, 1) := by decide +kernel
theorem dX4_resolveTypes_181 : decode cX4_resolveTypes 181 = .ok (.iaload, 1) := by decide +kernel
theorem dX4_resolveTypes_182 : decode cX4_resolveTypes 182 = .ok (.invokevirtual 101, 3) := by decide +kernel
theorem dX4_resolveTypes_185 : decode cX4_resolveTypes 185 = .ok (.iastore, 1) := by decide +kernel
theorem dX4_resolveTypes_186 : decode cX4_resolveTypes 186 = .ok (.aload_n 0, 1) := by decide +kernel
theorem dX4_resolveTypes_187 : decode cX4_resolveTypes 187 = .ok (.getfield 9, 3) := by decide +kernel
theorem dX4_resolveTypes_190 : decode cX4_resolveTypes 190 = .ok (.getfield 95, 3) := by decide +kernel
theorem dX4_resolveTypes_193 : decode cX4_resolveTypes 193 = .ok (.iconst 0, 1) := by decide +kernel
theorem dX4_resolveTypes_194 : decode cX4_resolveTypes 194 = .ok (.aaload, 1) := by decide +kernel
theorem dX4_resolveTypes_195 : decode cX4_resolveTypes 195 = .ok (.iload_n 1, 1) := by decide +kernel
theorem dX4_resolveTypes_196 : decode cX4_resolveTypes 196 = .ok (.iaload, 1) := by decide +kernel
theorem dX4_resolveTypes_197 : decode cX4_resolveTypes 197 = .ok (.bipush 74, 2) := by decide +kernel
theorem dX4_resolveTypes_199 : decode cX4_resolveTypes 199 = .ok (.if_icmp .ne 26, 3) := by decide +kernel
theorem dX4_resolveTypes_225 : decode cX4_resolveTypes 225 = .ok (.iinc 1 1, 3) := by decide +kernel
theorem dX4_resolveTypes_228 : decode cX4_resolveTypes 228 = .ok (.goto (-181), 3) := by decide +kernel
theorem dX4_resolveTypes_231 : decode cX4_resolveTypes 231 = .ok (.return_, 1) := by decide +kernel
def rpX4_resolveTypes : List Nat := [0, 1, 2, 3, 4, 7, 10, 13, 14, 17, 20, 21, 22, 23, 24, 25, 28, 31, 32, 33, 34, 35, 38, 39, 42, 45, 46, 47, 48, 49, 52, 55, 58, 59, 62, 65, 66, 67, 68, 69, 70, 73, 76, 77, 78, 79, 80, 83, 84, 85, 87, 88, 89, 90, 91, 93, 94, 95, 98, 101, 102, 103, 104, 105, 106, 109, 110, 113, 116, 117, 118, 119, 122, 125, 126, 127, 130, 131, 134, 137, 138, 141, 144, 146, 147, 148, 149, 150, 153, 156, 157, 158, 159, 160, 161, 164, 167, 168, 170, 171, 172, 175, 178, 179, 180, 181, 182, 185, 186, 187, 190, 193, 194, 195, 196, 197, 199, 202, 225, 228, 231]
noncomputable def rcX4_resolveTypes : List rz_B := [rz_cst 0, rz_istore 1, rz_iload 1, rz_aload 0, rz_getf (Nat.add (Nat.mul 256 6) 1) 0 rz_r, rz_getf (Nat.add (Nat.mul 256 9) 1) 7 rz_i, rz_icmpge 25, rz_aload 0, rz_getf (Nat.add (Nat.mul 256 6) 1) 0 rz_r, rz_getf (Nat.add (Nat.mul 256 9) 1) 8 rz_r, rz_cst 3, rz_aald, rz_iload 1, rz_aload 0, rz_aload 0, rz_getf (Nat.add (Nat.mul 256 6) 1) 0 rz_r, rz_getf (Nat.add (Nat.mul 256 9) 1) 8 rz_r, rz_cst 3, rz_aald, rz_iload 1, rz_iald, rz_callV 1 (Nat.add (Nat.mul 256 6) 1) rgX4_resolve, rz_iast, rz_iinc 1 1, rz_goto 2, rz_cst 0, rz_istore 1, rz_iload 1, rz_aload 0, rz_getf (Nat.add (Nat.mul 256 6) 1) 0 rz_r, rz_getf (Nat.add (Nat.mul 256 9) 1) 9 rz_i, rz_icmpge 120, rz_aload 0, rz_getf (Nat.add (Nat.mul 256 6) 1) 0 rz_r, rz_getf (Nat.add (Nat.mul 256 9) 1) 10 rz_r, rz_cst 3, rz_aald, rz_iload 1, rz_aload 0, rz_aload 0, rz_getf (Nat.add (Nat.mul 256 6) 1) 0 rz_r, rz_getf (Nat.add (Nat.mul 256 9) 1) 10 rz_r, rz_cst 3, rz_aald, rz_iload 1, rz_iald, rz_callV 1 (Nat.add (Nat.mul 256 6) 1) rgX4_resolve, rz_iast, rz_iload 1, rz_cst 6, rz_imul, rz_istore 2, rz_iload 2, rz_iload 1, rz_cst 6, rz_imul, rz_aload 0, rz_getf (Nat.add (Nat.mul 256 6) 1) 0 rz_r, rz_getf (Nat.add (Nat.mul 256 9) 1) 10 rz_r, rz_cst 5, rz_aald, rz_iload 1, rz_iald, rz_iadd, rz_icmpge 79, rz_aload 0, rz_getf (Nat.add (Nat.mul 256 6) 1) 0 rz_r, rz_getf (Nat.add (Nat.mul 256 9) 1) 11 rz_r, rz_iload 2, rz_aload 0, rz_aload 0, rz_getf (Nat.add (Nat.mul 256 6) 1) 0 rz_r, rz_getf (Nat.add (Nat.mul 256 9) 1) 11 rz_r, rz_iload 2, rz_iald, rz_callV 1 (Nat.add (Nat.mul 256 6) 1) rgX4_resolve, rz_iast, rz_iinc 2 1, rz_goto 52, rz_aload 0, rz_getf (Nat.add (Nat.mul 256 6) 1) 0 rz_r, rz_getf (Nat.add (Nat.mul 256 9) 1) 10 rz_r, rz_cst 12, rz_aald, rz_iload 1, rz_aload 0, rz_aload 0, rz_getf (Nat.add (Nat.mul 256 6) 1) 0 rz_r, rz_getf (Nat.add (Nat.mul 256 9) 1) 10 rz_r, rz_cst 0, rz_aald, rz_iload 1, rz_iald, rz_aload 0, rz_getf (Nat.add (Nat.mul 256 6) 1) 0 rz_r, rz_getf (Nat.add (Nat.mul 256 9) 1) 11 rz_r, rz_iload 1, rz_cst 6, rz_imul, rz_aload 0, rz_getf (Nat.add (Nat.mul 256 6) 1) 0 rz_r, rz_getf (Nat.add (Nat.mul 256 9) 1) 10 rz_r, rz_cst 5, rz_aald, rz_iload 1, rz_iald, rz_callV 4 (Nat.add (Nat.mul 256 6) 1) rgX4_signOf, rz_iast, rz_aload 0, rz_getf (Nat.add (Nat.mul 256 6) 1) 0 rz_r, rz_getf (Nat.add (Nat.mul 256 9) 1) 10 rz_r, rz_cst 0, rz_aald, rz_iload 1, rz_iald, rz_cst 74, rz_icmpne 118, rz_no, rz_iinc 1 1, rz_goto 27, rz_vret]
noncomputable def rgX4_resolveTypes : rz_L → rz_M → rz_Z → Bool := rz_go rcX4_resolveTypes 3 1000000
def rrX4_resolveTypes : Room := { frames := 2, cells := 0, slots := 0, locals := 46 }
theorem rmX4_resolveTypes (l : Launch) {G : rz_G} (hG : rz_Gd G) (vs : rz_L) (M : rz_M) (Z : rz_Z) (hn : vs.length = 1) (h : rgX4_resolveTypes vs M Z = true) : Met l yX4_resolveTypes (Cond.code yX4_resolveTypes cX4_resolveTypes 3 none :: rz_TB) rrX4_resolveTypes (rz_Pre G vs M) (rz_Qv G M.2 Z) 0 0 (fun q => rz_b G ≤ q) := by
  obtain ⟨D, tc, ad, b, xs, rfl⟩ := id hG
  refine rz_body (pcs := rpX4_resolveTypes) (by decide) rfl (by rw [hn]; decide) h ?_
  intro p e R s m args below meth c hC
  obtain ⟨hx, hb, hml, hr, hlk, ho, hts, hKn, hRm⟩ := id hC
  obtain ⟨hK, hA, hSt⟩ := id hKn
  have hw : ∀ {i j : Nat} {ws : List Cond} {w : Cond}, rz_WW[i]? = some ws → ws[j]? = some w → w.before args s = true := fun h1 h2 => hts _ (List.mem_cons_of_mem _ (rz_mem h1 h2))
  refine rz_All_c (i := 0) (fun k J hk hJ => rz_iconst_ok (pc := 0) hx hb dX4_resolveTypes_0 rfl hk) ?_
  refine rz_All_c (i := 1) (fun k J hk hJ => rz_istore_n_ok (pc := 1) hx hb dX4_resolveTypes_1 rfl hk) ?_
  refine rz_All_c (i := 2) (fun k J hk hJ => rz_iload_n_ok (pc := 2) hx hb dX4_resolveTypes_2 rfl hk) ?_
  refine rz_All_c (i := 3) (fun k J hk hJ => rz_aload_n_ok (pc := 3) hx hb dX4_resolveTypes_3 rfl hk) ?_
  refine rz_All_c (i := 4) (fun k J hk hJ => rz_getf_ok (pc := 4) (own := RX4) (ref := "ThreadJudge$Linker") (C := RX4) (T := TX4) (N := 4) (ci := 6) (index := 9) (f := 0) (t := 2) (Ts := Cond.code yX4_resolveTypes cX4_resolveTypes 3 none :: rz_TB) hx hb hts rz_in6 ho hK rfl (by decide) rfl (fun _ => rfl) (hw (i := 16) (j := 3) rfl rfl) (fun _ z => z) dX4_resolveTypes_4 hk) ?_
  refine rz_All_c (i := 5) (fun k J hk hJ => rz_getf_ok (pc := 7) (own := RX4) (ref := "ThreadJudge$Program") (C := RX7) (T := TX7) (N := 22) (ci := 9) (index := 83) (f := 7) (t := 0) (Ts := Cond.code yX4_resolveTypes cX4_resolveTypes 3 none :: rz_TB) hx hb hts rz_in9 ho hK rfl (by decide) rfl (fun _ => rfl) (hw (i := 17) (j := 10) rfl rfl) (fun _ z => z) dX4_resolveTypes_7 hk) ?_
  refine rz_All_c (i := 6) (fun k J hk hJ => rz_icmpge_ok (pc := 10) hx hb dX4_resolveTypes_10 rfl hk (hJ 25)) ?_
  refine rz_All_c (i := 7) (fun k J hk hJ => rz_aload_n_ok (pc := 13) hx hb dX4_resolveTypes_13 rfl hk) ?_
  refine rz_All_c (i := 8) (fun k J hk hJ => rz_getf_ok (pc := 14) (own := RX4) (ref := "ThreadJudge$Linker") (C := RX4) (T := TX4) (N := 4) (ci := 6) (index := 9) (f := 0) (t := 2) (Ts := Cond.code yX4_resolveTypes cX4_resolveTypes 3 none :: rz_TB) hx hb hts rz_in6 ho hK rfl (by decide) rfl (fun _ => rfl) (hw (i := 16) (j := 3) rfl rfl) (fun _ z => z) dX4_resolveTypes_14 hk) ?_
  refine rz_All_c (i := 9) (fun k J hk hJ => rz_getf_ok (pc := 17) (own := RX4) (ref := "ThreadJudge$Program") (C := RX7) (T := TX7) (N := 22) (ci := 9) (index := 86) (f := 8) (t := 2) (Ts := Cond.code yX4_resolveTypes cX4_resolveTypes 3 none :: rz_TB) hx hb hts rz_in9 ho hK rfl (by decide) rfl (fun _ => rfl) (hw (i := 17) (j := 11) rfl rfl) (fun _ z => z) dX4_resolveTypes_17 hk) ?_
  refine rz_All_c (i := 10) (fun k J hk hJ => rz_iconst_ok (pc := 20) hx hb dX4_resolveTypes_20 rfl hk) ?_
  refine rz_All_c (i := 11) (fun k J hk hJ => rz_aald_ok (pc := 21) hx hb hK dX4_resolveTypes_21 hk) ?_
  refine rz_All_c (i := 12) (fun k J hk hJ => rz_iload_n_ok (pc := 22) hx hb dX4_resolveTypes_22 rfl hk) ?_
  refine rz_All_c (i := 13) (fun k J hk hJ => rz_aload_n_ok (pc := 23) hx hb dX4_resolveTypes_23 rfl hk) ?_
  refine rz_All_c (i := 14) (fun k J hk hJ => rz_aload_n_ok (pc := 24) hx hb dX4_resolveTypes_24 rfl hk) ?_
  refine rz_All_c (i := 15) (fun k J hk hJ => rz_getf_ok (pc := 25) (own := RX4) (ref := "ThreadJudge$Linker") (C := RX4) (T := TX4) (N := 4) (ci := 6) (index := 9) (f := 0) (t := 2) (Ts := Cond.code yX4_resolveTypes cX4_resolveTypes 3 none :: rz_TB) hx hb hts rz_in6 ho hK rfl (by decide) rfl (fun _ => rfl) (hw (i := 16) (j := 3) rfl rfl) (fun _ z => z) dX4_resolveTypes_25 hk) ?_
  refine rz_All_c (i := 16) (fun k J hk hJ => rz_getf_ok (pc := 28) (own := RX4) (ref := "ThreadJudge$Program") (C := RX7) (T := TX7) (N := 22) (ci := 9) (index := 86) (f := 8) (t := 2) (Ts := Cond.code yX4_resolveTypes cX4_resolveTypes 3 none :: rz_TB) hx hb hts rz_in9 ho hK rfl (by decide) rfl (fun _ => rfl) (hw (i := 17) (j := 11) rfl rfl) (fun _ z => z) dX4_resolveTypes_28 hk) ?_
  refine rz_All_c (i := 17) (fun k J hk hJ => rz_iconst_ok (pc := 31) hx hb dX4_resolveTypes_31 rfl hk) ?_
  refine rz_All_c (i := 18) (fun k J hk hJ => rz_aald_ok (pc := 32) hx hb hK dX4_resolveTypes_32 hk) ?_
  refine rz_All_c (i := 19) (fun k J hk hJ => rz_iload_n_ok (pc := 33) hx hb dX4_resolveTypes_33 rfl hk) ?_
  refine rz_All_c (i := 20) (fun k J hk hJ => rz_iald_ok (pc := 34) hx hb hK dX4_resolveTypes_34 hk) ?_
  refine rz_All_c (i := 21) (fun k J hk hJ => rz_callV_ok (pc := 35) (own := RX4) (C := RX4) (T0 := TX4) (N0 := 4) hC rfl (rmX4_resolve l hG) (rz_cwV 1 hC rz_good (rz_mem (i := 17) (j := 15) rfl rfl) (rz_mem (i := 17) (j := 16) rfl rfl) (rz_mem (i := 17) (j := 17) rfl rfl) (rz_mem (i := 15) (j := 19) rfl rfl) (rz_mem (i := 17) (j := 18) rfl rfl) ⟨rfl, by decide, by decide, by decide +kernel⟩ rfl rfl ⟨by decide, by decide⟩) rfl dX4_resolveTypes_35 hk) ?_
  refine rz_All_c (i := 22) (fun k J hk hJ => rz_iast_ok (pc := 38) hx hb hK hA dX4_resolveTypes_38 hk) ?_
  refine rz_All_c (i := 23) (fun k J hk hJ => rz_iinc_ok (pc := 39) hx hb dX4_resolveTypes_39 (by decide) hk) ?_
  refine rz_All_c (i := 24) (fun k J hk hJ => rz_goto_ok (pc := 42) hx hb dX4_resolveTypes_42 rfl (hJ 2)) ?_
  refine rz_All_c (i := 25) (fun k J hk hJ => rz_iconst_ok (pc := 45) hx hb dX4_resolveTypes_45 rfl hk) ?_
  refine rz_All_c (i := 26) (fun k J hk hJ => rz_istore_n_ok (pc := 46) hx hb dX4_resolveTypes_46 rfl hk) ?_
  refine rz_All_c (i := 27) (fun k J hk hJ => rz_iload_n_ok (pc := 47) hx hb dX4_resolveTypes_47 rfl hk) ?_
  refine rz_All_c (i := 28) (fun k J hk hJ => rz_aload_n_ok (pc := 48) hx hb dX4_resolveTypes_48 rfl hk) ?_
  refine rz_All_c (i := 29) (fun k J hk hJ => rz_getf_ok (pc := 49) (own := RX4) (ref := "ThreadJudge$Linker") (C := RX4) (T := TX4) (N := 4) (ci := 6) (index := 9) (f := 0) (t := 2) (Ts := Cond.code yX4_resolveTypes cX4_resolveTypes 3 none :: rz_TB) hx hb hts rz_in6 ho hK rfl (by decide) rfl (fun _ => rfl) (hw (i := 16) (j := 3) rfl rfl) (fun _ z => z) dX4_resolveTypes_49 hk) ?_
  refine rz_All_c (i := 30) (fun k J hk hJ => rz_getf_ok (pc := 52) (own := RX4) (ref := "ThreadJudge$Program") (C := RX7) (T := TX7) (N := 22) (ci := 9) (index := 92) (f := 9) (t := 0) (Ts := Cond.code yX4_resolveTypes cX4_resolveTypes 3 none :: rz_TB) hx hb hts rz_in9 ho hK rfl (by decide) rfl (fun _ => rfl) (hw (i := 17) (j := 12) rfl rfl) (fun _ z => z) dX4_resolveTypes_52 hk) ?_
  refine rz_All_c (i := 31) (fun k J hk hJ => rz_icmpge_ok (pc := 55) hx hb dX4_resolveTypes_55 rfl hk (hJ 120)) ?_
  refine rz_All_c (i := 32) (fun k J hk hJ => rz_aload_n_ok (pc := 58) hx hb dX4_resolveTypes_58 rfl hk) ?_
  refine rz_All_c (i := 33) (fun k J hk hJ => rz_getf_ok (pc := 59) (own := RX4) (ref := "ThreadJudge$Linker") (C := RX4) (T := TX4) (N := 4) (ci := 6) (index := 9) (f := 0) (t := 2) (Ts := Cond.code yX4_resolveTypes cX4_resolveTypes 3 none :: rz_TB) hx hb hts rz_in6 ho hK rfl (by decide) rfl (fun _ => rfl) (hw (i := 16) (j := 3) rfl rfl) (fun _ z => z) dX4_resolveTypes_59 hk) ?_
  refine rz_All_c (i := 34) (fun k J hk hJ => rz_getf_ok (pc := 62) (own := RX4) (ref := "ThreadJudge$Program") (C := RX7) (T := TX7) (N := 22) (ci := 9) (index := 95) (f := 10) (t := 2) (Ts := Cond.code yX4_resolveTypes cX4_resolveTypes 3 none :: rz_TB) hx hb hts rz_in9 ho hK rfl (by decide) rfl (fun _ => rfl) (hw (i := 17) (j := 13) rfl rfl) (fun _ z => z) dX4_resolveTypes_62 hk) ?_
  refine rz_All_c (i := 35) (fun k J hk hJ => rz_iconst_ok (pc := 65) hx hb dX4_resolveTypes_65 rfl hk) ?_
  refine rz_All_c (i := 36) (fun k J hk hJ => rz_aald_ok (pc := 66) hx hb hK dX4_resolveTypes_66 hk) ?_
  refine rz_All_c (i := 37) (fun k J hk hJ => rz_iload_n_ok (pc := 67) hx hb dX4_resolveTypes_67 rfl hk) ?_
  refine rz_All_c (i := 38) (fun k J hk hJ => rz_aload_n_ok (pc := 68) hx hb dX4_resolveTypes_68 rfl hk) ?_
  refine rz_All_c (i := 39) (fun k J hk hJ => rz_aload_n_ok (pc := 69) hx hb dX4_resolveTypes_69 rfl hk) ?_
  refine rz_All_c (i := 40) (fun k J hk hJ => rz_getf_ok (pc := 70) (own := RX4) (ref := "ThreadJudge$Linker") (C := RX4) (T := TX4) (N := 4) (ci := 6) (index := 9) (f := 0) (t := 2) (Ts := Cond.code yX4_resolveTypes cX4_resolveTypes 3 none :: rz_TB) hx hb hts rz_in6 ho hK rfl (by decide) rfl (fun _ => rfl) (hw (i := 16) (j := 3) rfl rfl) (fun _ z => z) dX4_resolveTypes_70 hk) ?_
  refine rz_All_c (i := 41) (fun k J hk hJ => rz_getf_ok (pc := 73) (own := RX4) (ref := "ThreadJudge$Program") (C := RX7) (T := TX7) (N := 22) (ci := 9) (index := 95) (f := 10) (t := 2) (Ts := Cond.code yX4_resolveTypes cX4_resolveTypes 3 none :: rz_TB) hx hb hts rz_in9 ho hK rfl (by decide) rfl (fun _ => rfl) (hw (i := 17) (j := 13) rfl rfl) (fun _ z => z) dX4_resolveTypes_73 hk) ?_
  refine rz_All_c (i := 42) (fun k J hk hJ => rz_iconst_ok (pc := 76) hx hb dX4_resolveTypes_76 rfl hk) ?_
  refine rz_All_c (i := 43) (fun k J hk hJ => rz_aald_ok (pc := 77) hx hb hK dX4_resolveTypes_77 hk) ?_
  refine rz_All_c (i := 44) (fun k J hk hJ => rz_iload_n_ok (pc := 78) hx hb dX4_resolveTypes_78 rfl hk) ?_
  refine rz_All_c (i := 45) (fun k J hk hJ => rz_iald_ok (pc := 79) hx hb hK dX4_resolveTypes_79 hk) ?_
  refine rz_All_c (i := 46) (fun k J hk hJ => rz_callV_ok (pc := 80) (own := RX4) (C := RX4) (T0 := TX4) (N0 := 4) hC rfl (rmX4_resolve l hG) (rz_cwV 1 hC rz_good (rz_mem (i := 17) (j := 15) rfl rfl) (rz_mem (i := 17) (j := 16) rfl rfl) (rz_mem (i := 17) (j := 17) rfl rfl) (rz_mem (i := 15) (j := 19) rfl rfl) (rz_mem (i := 17) (j := 18) rfl rfl) ⟨rfl, by decide, by decide, by decide +kernel⟩ rfl rfl ⟨by decide, by decide⟩) rfl dX4_resolveTypes_80 hk) ?_
  refine rz_All_c (i := 47) (fun k J hk hJ => rz_iast_ok (pc := 83) hx hb hK hA dX4_resolveTypes_83 hk) ?_
  refine rz_All_c (i := 48) (fun k J hk hJ => rz_iload_n_ok (pc := 84) hx hb dX4_resolveTypes_84 rfl hk) ?_
  refine rz_All_c (i := 49) (fun k J hk hJ => rz_bipush_ok (pc := 85) hx hb dX4_resolveTypes_85 (by decide) hk) ?_
  refine rz_All_c (i := 50) (fun k J hk hJ => rz_imul_ok (pc := 87) hx hb dX4_resolveTypes_87 hk) ?_
  refine rz_All_c (i := 51) (fun k J hk hJ => rz_istore_n_ok (pc := 88) hx hb dX4_resolveTypes_88 rfl hk) ?_
  refine rz_All_c (i := 52) (fun k J hk hJ => rz_iload_n_ok (pc := 89) hx hb dX4_resolveTypes_89 rfl hk) ?_
  refine rz_All_c (i := 53) (fun k J hk hJ => rz_iload_n_ok (pc := 90) hx hb dX4_resolveTypes_90 rfl hk) ?_
  refine rz_All_c (i := 54) (fun k J hk hJ => rz_bipush_ok (pc := 91) hx hb dX4_resolveTypes_91 (by decide) hk) ?_
  refine rz_All_c (i := 55) (fun k J hk hJ => rz_imul_ok (pc := 93) hx hb dX4_resolveTypes_93 hk) ?_
  refine rz_All_c (i := 56) (fun k J hk hJ => rz_aload_n_ok (pc := 94) hx hb dX4_resolveTypes_94 rfl hk) ?_
  refine rz_All_c (i := 57) (fun k J hk hJ => rz_getf_ok (pc := 95) (own := RX4) (ref := "ThreadJudge$Linker") (C := RX4) (T := TX4) (N := 4) (ci := 6) (index := 9) (f := 0) (t := 2) (Ts := Cond.code yX4_resolveTypes cX4_resolveTypes 3 none :: rz_TB) hx hb hts rz_in6 ho hK rfl (by decide) rfl (fun _ => rfl) (hw (i := 16) (j := 3) rfl rfl) (fun _ z => z) dX4_resolveTypes_95 hk) ?_
  refine rz_All_c (i := 58) (fun k J hk hJ => rz_getf_ok (pc := 98) (own := RX4) (ref := "ThreadJudge$Program") (C := RX7) (T := TX7) (N := 22) (ci := 9) (index := 95) (f := 10) (t := 2) (Ts := Cond.code yX4_resolveTypes cX4_resolveTypes 3 none :: rz_TB) hx hb hts rz_in9 ho hK rfl (by decide) rfl (fun _ => rfl) (hw (i := 17) (j := 13) rfl rfl) (fun _ z => z) dX4_resolveTypes_98 hk) ?_
  refine rz_All_c (i := 59) (fun k J hk hJ => rz_iconst_ok (pc := 101) hx hb dX4_resolveTypes_101 rfl hk) ?_
  refine rz_All_c (i := 60) (fun k J hk hJ => rz_aald_ok (pc := 102) hx hb hK dX4_resolveTypes_102 hk) ?_
  refine rz_All_c (i := 61) (fun k J hk hJ => rz_iload_n_ok (pc := 103) hx hb dX4_resolveTypes_103 rfl hk) ?_
  refine rz_All_c (i := 62) (fun k J hk hJ => rz_iald_ok (pc := 104) hx hb hK dX4_resolveTypes_104 hk) ?_
  refine rz_All_c (i := 63) (fun k J hk hJ => rz_iadd_ok (pc := 105) hx hb dX4_resolveTypes_105 hk) ?_
  refine rz_All_c (i := 64) (fun k J hk hJ => rz_icmpge_ok (pc := 106) hx hb dX4_resolveTypes_106 rfl hk (hJ 79)) ?_
  refine rz_All_c (i := 65) (fun k J hk hJ => rz_aload_n_ok (pc := 109) hx hb dX4_resolveTypes_109 rfl hk) ?_
  refine rz_All_c (i := 66) (fun k J hk hJ => rz_getf_ok (pc := 110) (own := RX4) (ref := "ThreadJudge$Linker") (C := RX4) (T := TX4) (N := 4) (ci := 6) (index := 9) (f := 0) (t := 2) (Ts := Cond.code yX4_resolveTypes cX4_resolveTypes 3 none :: rz_TB) hx hb hts rz_in6 ho hK rfl (by decide) rfl (fun _ => rfl) (hw (i := 16) (j := 3) rfl rfl) (fun _ z => z) dX4_resolveTypes_110 hk) ?_
  refine rz_All_c (i := 67) (fun k J hk hJ => rz_getf_ok (pc := 113) (own := RX4) (ref := "ThreadJudge$Program") (C := RX7) (T := TX7) (N := 22) (ci := 9) (index := 98) (f := 11) (t := 2) (Ts := Cond.code yX4_resolveTypes cX4_resolveTypes 3 none :: rz_TB) hx hb hts rz_in9 ho hK rfl (by decide) rfl (fun _ => rfl) (hw (i := 17) (j := 14) rfl rfl) (fun _ z => z) dX4_resolveTypes_113 hk) ?_
  refine rz_All_c (i := 68) (fun k J hk hJ => rz_iload_n_ok (pc := 116) hx hb dX4_resolveTypes_116 rfl hk) ?_
  refine rz_All_c (i := 69) (fun k J hk hJ => rz_aload_n_ok (pc := 117) hx hb dX4_resolveTypes_117 rfl hk) ?_
  refine rz_All_c (i := 70) (fun k J hk hJ => rz_aload_n_ok (pc := 118) hx hb dX4_resolveTypes_118 rfl hk) ?_
  refine rz_All_c (i := 71) (fun k J hk hJ => rz_getf_ok (pc := 119) (own := RX4) (ref := "ThreadJudge$Linker") (C := RX4) (T := TX4) (N := 4) (ci := 6) (index := 9) (f := 0) (t := 2) (Ts := Cond.code yX4_resolveTypes cX4_resolveTypes 3 none :: rz_TB) hx hb hts rz_in6 ho hK rfl (by decide) rfl (fun _ => rfl) (hw (i := 16) (j := 3) rfl rfl) (fun _ z => z) dX4_resolveTypes_119 hk) ?_
  refine rz_All_c (i := 72) (fun k J hk hJ => rz_getf_ok (pc := 122) (own := RX4) (ref := "ThreadJudge$Program") (C := RX7) (T := TX7) (N := 22) (ci := 9) (index := 98) (f := 11) (t := 2) (Ts := Cond.code yX4_resolveTypes cX4_resolveTypes 3 none :: rz_TB) hx hb hts rz_in9 ho hK rfl (by decide) rfl (fun _ => rfl) (hw (i := 17) (j := 14) rfl rfl) (fun _ z => z) dX4_resolveTypes_122 hk) ?_
  refine rz_All_c (i := 73) (fun k J hk hJ => rz_iload_n_ok (pc := 125) hx hb dX4_resolveTypes_125 rfl hk) ?_
  refine rz_All_c (i := 74) (fun k J hk hJ => rz_iald_ok (pc := 126) hx hb hK dX4_resolveTypes_126 hk) ?_
  refine rz_All_c (i := 75) (fun k J hk hJ => rz_callV_ok (pc := 127) (own := RX4) (C := RX4) (T0 := TX4) (N0 := 4) hC rfl (rmX4_resolve l hG) (rz_cwV 1 hC rz_good (rz_mem (i := 17) (j := 15) rfl rfl) (rz_mem (i := 17) (j := 16) rfl rfl) (rz_mem (i := 17) (j := 17) rfl rfl) (rz_mem (i := 15) (j := 19) rfl rfl) (rz_mem (i := 17) (j := 18) rfl rfl) ⟨rfl, by decide, by decide, by decide +kernel⟩ rfl rfl ⟨by decide, by decide⟩) rfl dX4_resolveTypes_127 hk) ?_
  refine rz_All_c (i := 76) (fun k J hk hJ => rz_iast_ok (pc := 130) hx hb hK hA dX4_resolveTypes_130 hk) ?_
  refine rz_All_c (i := 77) (fun k J hk hJ => rz_iinc_ok (pc := 131) hx hb dX4_resolveTypes_131 (by decide) hk) ?_
  refine rz_All_c (i := 78) (fun k J hk hJ => rz_goto_ok (pc := 134) hx hb dX4_resolveTypes_134 rfl (hJ 52)) ?_
  refine rz_All_c (i := 79) (fun k J hk hJ => rz_aload_n_ok (pc := 137) hx hb dX4_resolveTypes_137 rfl hk) ?_
  refine rz_All_c (i := 80) (fun k J hk hJ => rz_getf_ok (pc := 138) (own := RX4) (ref := "ThreadJudge$Linker") (C := RX4) (T := TX4) (N := 4) (ci := 6) (index := 9) (f := 0) (t := 2) (Ts := Cond.code yX4_resolveTypes cX4_resolveTypes 3 none :: rz_TB) hx hb hts rz_in6 ho hK rfl (by decide) rfl (fun _ => rfl) (hw (i := 16) (j := 3) rfl rfl) (fun _ z => z) dX4_resolveTypes_138 hk) ?_
  refine rz_All_c (i := 81) (fun k J hk hJ => rz_getf_ok (pc := 141) (own := RX4) (ref := "ThreadJudge$Program") (C := RX7) (T := TX7) (N := 22) (ci := 9) (index := 95) (f := 10) (t := 2) (Ts := Cond.code yX4_resolveTypes cX4_resolveTypes 3 none :: rz_TB) hx hb hts rz_in9 ho hK rfl (by decide) rfl (fun _ => rfl) (hw (i := 17) (j := 13) rfl rfl) (fun _ z => z) dX4_resolveTypes_141 hk) ?_
  refine rz_All_c (i := 82) (fun k J hk hJ => rz_bipush_ok (pc := 144) hx hb dX4_resolveTypes_144 (by decide) hk) ?_
  refine rz_All_c (i := 83) (fun k J hk hJ => rz_aald_ok (pc := 146) hx hb hK dX4_resolveTypes_146 hk) ?_
  refine rz_All_c (i := 84) (fun k J hk hJ => rz_iload_n_ok (pc := 147) hx hb dX4_resolveTypes_147 rfl hk) ?_
  refine rz_All_c (i := 85) (fun k J hk hJ => rz_aload_n_ok (pc := 148) hx hb dX4_resolveTypes_148 rfl hk) ?_
  refine rz_All_c (i := 86) (fun k J hk hJ => rz_aload_n_ok (pc := 149) hx hb dX4_resolveTypes_149 rfl hk) ?_
  refine rz_All_c (i := 87) (fun k J hk hJ => rz_getf_ok (pc := 150) (own := RX4) (ref := "ThreadJudge$Linker") (C := RX4) (T := TX4) (N := 4) (ci := 6) (index := 9) (f := 0) (t := 2) (Ts := Cond.code yX4_resolveTypes cX4_resolveTypes 3 none :: rz_TB) hx hb hts rz_in6 ho hK rfl (by decide) rfl (fun _ => rfl) (hw (i := 16) (j := 3) rfl rfl) (fun _ z => z) dX4_resolveTypes_150 hk) ?_
  refine rz_All_c (i := 88) (fun k J hk hJ => rz_getf_ok (pc := 153) (own := RX4) (ref := "ThreadJudge$Program") (C := RX7) (T := TX7) (N := 22) (ci := 9) (index := 95) (f := 10) (t := 2) (Ts := Cond.code yX4_resolveTypes cX4_resolveTypes 3 none :: rz_TB) hx hb hts rz_in9 ho hK rfl (by decide) rfl (fun _ => rfl) (hw (i := 17) (j := 13) rfl rfl) (fun _ z => z) dX4_resolveTypes_153 hk) ?_
  refine rz_All_c (i := 89) (fun k J hk hJ => rz_iconst_ok (pc := 156) hx hb dX4_resolveTypes_156 rfl hk) ?_
  refine rz_All_c (i := 90) (fun k J hk hJ => rz_aald_ok (pc := 157) hx hb hK dX4_resolveTypes_157 hk) ?_
  refine rz_All_c (i := 91) (fun k J hk hJ => rz_iload_n_ok (pc := 158) hx hb dX4_resolveTypes_158 rfl hk) ?_
  refine rz_All_c (i := 92) (fun k J hk hJ => rz_iald_ok (pc := 159) hx hb hK dX4_resolveTypes_159 hk) ?_
  refine rz_All_c (i := 93) (fun k J hk hJ => rz_aload_n_ok (pc := 160) hx hb dX4_resolveTypes_160 rfl hk) ?_
  refine rz_All_c (i := 94) (fun k J hk hJ => rz_getf_ok (pc := 161) (own := RX4) (ref := "ThreadJudge$Linker") (C := RX4) (T := TX4) (N := 4) (ci := 6) (index := 9) (f := 0) (t := 2) (Ts := Cond.code yX4_resolveTypes cX4_resolveTypes 3 none :: rz_TB) hx hb hts rz_in6 ho hK rfl (by decide) rfl (fun _ => rfl) (hw (i := 16) (j := 3) rfl rfl) (fun _ z => z) dX4_resolveTypes_161 hk) ?_
  refine rz_All_c (i := 95) (fun k J hk hJ => rz_getf_ok (pc := 164) (own := RX4) (ref := "ThreadJudge$Program") (C := RX7) (T := TX7) (N := 22) (ci := 9) (index := 98) (f := 11) (t := 2) (Ts := Cond.code yX4_resolveTypes cX4_resolveTypes 3 none :: rz_TB) hx hb hts rz_in9 ho hK rfl (by decide) rfl (fun _ => rfl) (hw (i := 17) (j := 14) rfl rfl) (fun _ z => z) dX4_resolveTypes_164 hk) ?_
  refine rz_All_c (i := 96) (fun k J hk hJ => rz_iload_n_ok (pc := 167) hx hb dX4_resolveTypes_167 rfl hk) ?_
  refine rz_All_c (i := 97) (fun k J hk hJ => rz_bipush_ok (pc := 168) hx hb dX4_resolveTypes_168 (by decide) hk) ?_
  refine rz_All_c (i := 98) (fun k J hk hJ => rz_imul_ok (pc := 170) hx hb dX4_resolveTypes_170 hk) ?_
  refine rz_All_c (i := 99) (fun k J hk hJ => rz_aload_n_ok (pc := 171) hx hb dX4_resolveTypes_171 rfl hk) ?_
  refine rz_All_c (i := 100) (fun k J hk hJ => rz_getf_ok (pc := 172) (own := RX4) (ref := "ThreadJudge$Linker") (C := RX4) (T := TX4) (N := 4) (ci := 6) (index := 9) (f := 0) (t := 2) (Ts := Cond.code yX4_resolveTypes cX4_resolveTypes 3 none :: rz_TB) hx hb hts rz_in6 ho hK rfl (by decide) rfl (fun _ => rfl) (hw (i := 16) (j := 3) rfl rfl) (fun _ z => z) dX4_resolveTypes_172 hk) ?_
  refine rz_All_c (i := 101) (fun k J hk hJ => rz_getf_ok (pc := 175) (own := RX4) (ref := "ThreadJudge$Program") (C := RX7) (T := TX7) (N := 22) (ci := 9) (index := 95) (f := 10) (t := 2) (Ts := Cond.code yX4_resolveTypes cX4_resolveTypes 3 none :: rz_TB) hx hb hts rz_in9 ho hK rfl (by decide) rfl (fun _ => rfl) (hw (i := 17) (j := 13) rfl rfl) (fun _ z => z) dX4_resolveTypes_175 hk) ?_
  refine rz_All_c (i := 102) (fun k J hk hJ => rz_iconst_ok (pc := 178) hx hb dX4_resolveTypes_178 rfl hk) ?_
  refine rz_All_c (i := 103) (fun k J hk hJ => rz_aald_ok (pc := 179) hx hb hK dX4_resolveTypes_179 hk) ?_
  refine rz_All_c (i := 104) (fun k J hk hJ => rz_iload_n_ok (pc := 180) hx hb dX4_resolveTypes_180 rfl hk) ?_
  refine rz_All_c (i := 105) (fun k J hk hJ => rz_iald_ok (pc := 181) hx hb hK dX4_resolveTypes_181 hk) ?_
  refine rz_All_c (i := 106) (fun k J hk hJ => rz_callV_ok (pc := 182) (own := RX4) (C := RX4) (T0 := TX4) (N0 := 4) hC rfl (rmX4_signOf l hG) (rz_cwV 4 hC rz_good (rz_mem (i := 17) (j := 19) rfl rfl) (rz_mem (i := 17) (j := 20) rfl rfl) (rz_mem (i := 17) (j := 21) rfl rfl) (rz_mem (i := 15) (j := 19) rfl rfl) (rz_mem (i := 17) (j := 22) rfl rfl) ⟨rfl, by decide, by decide, by decide +kernel⟩ rfl rfl ⟨by decide, by decide⟩) rfl dX4_resolveTypes_182 hk) ?_
  refine rz_All_c (i := 107) (fun k J hk hJ => rz_iast_ok (pc := 185) hx hb hK hA dX4_resolveTypes_185 hk) ?_
  refine rz_All_c (i := 108) (fun k J hk hJ => rz_aload_n_ok (pc := 186) hx hb dX4_resolveTypes_186 rfl hk) ?_
  refine rz_All_c (i := 109) (fun k J hk hJ => rz_getf_ok (pc := 187) (own := RX4) (ref := "ThreadJudge$Linker") (C := RX4) (T := TX4) (N := 4) (ci := 6) (index := 9) (f := 0) (t := 2) (Ts := Cond.code yX4_resolveTypes cX4_resolveTypes 3 none :: rz_TB) hx hb hts rz_in6 ho hK rfl (by decide) rfl (fun _ => rfl) (hw (i := 16) (j := 3) rfl rfl) (fun _ z => z) dX4_resolveTypes_187 hk) ?_
  refine rz_All_c (i := 110) (fun k J hk hJ => rz_getf_ok (pc := 190) (own := RX4) (ref := "ThreadJudge$Program") (C := RX7) (T := TX7) (N := 22) (ci := 9) (index := 95) (f := 10) (t := 2) (Ts := Cond.code yX4_resolveTypes cX4_resolveTypes 3 none :: rz_TB) hx hb hts rz_in9 ho hK rfl (by decide) rfl (fun _ => rfl) (hw (i := 17) (j := 13) rfl rfl) (fun _ z => z) dX4_resolveTypes_190 hk) ?_
  refine rz_All_c (i := 111) (fun k J hk hJ => rz_iconst_ok (pc := 193) hx hb dX4_resolveTypes_193 rfl hk) ?_
  refine rz_All_c (i := 112) (fun k J hk hJ => rz_aald_ok (pc := 194) hx hb hK dX4_resolveTypes_194 hk) ?_
  refine rz_All_c (i := 113) (fun k J hk hJ => rz_iload_n_ok (pc := 195) hx hb dX4_resolveTypes_195 rfl hk) ?_
  refine rz_All_c (i := 114) (fun k J hk hJ => rz_iald_ok (pc := 196) hx hb hK dX4_resolveTypes_196 hk) ?_
  refine rz_All_c (i := 115) (fun k J hk hJ => rz_bipush_ok (pc := 197) hx hb dX4_resolveTypes_197 (by decide) hk) ?_
  refine rz_All_c (i := 116) (fun k J hk hJ => rz_icmpne_ok (pc := 199) hx hb dX4_resolveTypes_199 rfl hk (hJ 118)) ?_
  refine rz_All_c (i := 117) (fun k J hk hJ => rz_no_ok) ?_
  refine rz_All_c (i := 118) (fun k J hk hJ => rz_iinc_ok (pc := 225) hx hb dX4_resolveTypes_225 (by decide) hk) ?_
  refine rz_All_c (i := 119) (fun k J hk hJ => rz_goto_ok (pc := 228) hx hb dX4_resolveTypes_228 rfl (hJ 27)) ?_
  refine rz_All_c (i := 120) (fun k J hk hJ => rz_vret_ok (pc := 231) hC dX4_resolveTypes_231) ?_
  exact trivial
theorem dX4_link_0 : decode cX4_link 0 = .ok (.aload_n 0, 1) := by decide +kernel
theorem dX4_link_1 : decode cX4_link 1 = .ok (.iconst 0, 1) := by decide +kernel
theorem dX4_link_2 : decode cX4_link 2 = .ok (.putfield 19, 3) := by decide +kernel
theorem dX4_link_5 : decode cX4_link 5 = .ok (.aload_n 0, 1) := by decide +kernel
theorem dX4_link_6 : decode cX4_link 6 = .ok (.iconst (-1), 1) := by decide +kernel
theorem dX4_link_7 : decode cX4_link 7 = .ok (.putfield 23, 3) := by decide +kernel
theorem dX4_link_10 : decode cX4_link 10 = .ok (.aload_n 0, 1) := by decide +kernel
theorem dX4_link_11 : decode cX4_link 11 = .ok (.invokevirtual 26, 3) := by decide +kernel
theorem dX4_link_14 : decode cX4_link 14 = .ok (.aload_n 0, 1) := by decide +kernel
theorem dX4_link_15 : decode cX4_link 15 = .ok (.getfield 19, 3) := by decide +kernel
theorem dX4_link_18 : decode cX4_link 18 = .ok (.ifCond .ne 11, 3) := by decide +kernel
theorem dX4_link_21 : decode cX4_link 21 = .ok (.aload_n 0, 1) := by decide +kernel
theorem dX4_link_22 : decode cX4_link 22 = .ok (.invokevirtual 29, 3) := by decide +kernel
theorem dX4_link_25 : decode cX4_link 25 = .ok (.aload_n 0, 1) := by decide +kernel
theorem dX4_link_26 : decode cX4_link 26 = .ok (.invokevirtual 32, 3) := by decide +kernel
theorem dX4_link_29 : decode cX4_link 29 = .ok (.aload_n 0, 1) := by decide +kernel
theorem dX4_link_30 : decode cX4_link 30 = .ok (.getfield 19, 3) := by decide +kernel
theorem dX4_link_33 : decode cX4_link 33 = .ok (.ifCond .ne 11, 3) := by decide +kernel
theorem dX4_link_36 : decode cX4_link 36 = .ok (.aload_n 0, 1) := by decide +kernel
theorem dX4_link_37 : decode cX4_link 37 = .ok (.invokevirtual 35, 3) := by decide +kernel
theorem dX4_link_40 : decode cX4_link 40 = .ok (.aload_n 0, 1) := by decide +kernel
theorem dX4_link_41 : decode cX4_link 41 = .ok (.invokevirtual 38, 3) := by decide +kernel
theorem dX4_link_44 : decode cX4_link 44 = .ok (.aload_n 0, 1) := by decide +kernel
theorem dX4_link_45 : decode cX4_link 45 = .ok (.getfield 19, 3) := by decide +kernel
theorem dX4_link_48 : decode cX4_link 48 = .ok (.ifCond .ne 8, 3) := by decide +kernel
theorem dX4_link_51 : decode cX4_link 51 = .ok (.aload_n 0, 1) := by decide +kernel
theorem dX4_link_52 : decode cX4_link 52 = .ok (.iload_n 1, 1) := by decide +kernel
theorem dX4_link_53 : decode cX4_link 53 = .ok (.invokevirtual 41, 3) := by decide +kernel
theorem dX4_link_56 : decode cX4_link 56 = .ok (.aload_n 0, 1) := by decide +kernel
theorem dX4_link_57 : decode cX4_link 57 = .ok (.getfield 19, 3) := by decide +kernel
theorem dX4_link_60 : decode cX4_link 60 = .ok (.ifCond .ne 7, 3) := by decide +kernel
theorem dX4_link_67 : decode cX4_link 67 = .ok (.iconst 0, 1) := by decide +kernel
theorem dX4_link_68 : decode cX4_link 68 = .ok (.ireturn, 1) := by decide +kernel
def rpX4_link : List Nat := [0, 1, 2, 5, 6, 7, 10, 11, 14, 15, 18, 21, 22, 25, 26, 29, 30, 33, 36, 37, 40, 41, 44, 45, 48, 51, 52, 53, 56, 57, 60, 63, 67, 68]
noncomputable def rcX4_link : List rz_B := [rz_aload 0, rz_cst 0, rz_putf (Nat.add (Nat.mul 256 6) 1) 2 rz_unI, rz_aload 0, rz_cst 4294967295, rz_putf (Nat.add (Nat.mul 256 6) 1) 3 rz_unI, rz_aload 0, rz_callVv 0 (Nat.add (Nat.mul 256 6) 1) rgX4_linkClasses, rz_aload 0, rz_getf (Nat.add (Nat.mul 256 6) 1) 2 rz_i, rz_ifne 15, rz_aload 0, rz_callVv 0 (Nat.add (Nat.mul 256 6) 1) rgX4_resolveTypes, rz_aload 0, rz_callVv 0 (Nat.add (Nat.mul 256 6) 1) rgX4_linkMembers, rz_aload 0, rz_getf (Nat.add (Nat.mul 256 6) 1) 2 rz_i, rz_ifne 22, rz_aload 0, rz_callVv 0 (Nat.add (Nat.mul 256 6) 1) rgX4_chooseAll, rz_aload 0, rz_callVv 0 (Nat.add (Nat.mul 256 6) 1) rgX4_linkLines, rz_aload 0, rz_getf (Nat.add (Nat.mul 256 6) 1) 2 rz_i, rz_ifne 28, rz_aload 0, rz_iload 1, rz_callVv 1 (Nat.add (Nat.mul 256 6) 1) rgX4_findMain, rz_aload 0, rz_getf (Nat.add (Nat.mul 256 6) 1) 2 rz_i, rz_ifne 32, rz_no, rz_cst 0, rz_zret]
noncomputable def rgX4_link : rz_L → rz_M → rz_Z → Bool := rz_go rcX4_link 2 1000000
def rrX4_link : Room := { frames := 6, cells := 0, slots := 0, locals := 166 }
theorem rmX4_link (l : Launch) {G : rz_G} (hG : rz_Gd G) (vs : rz_L) (M : rz_M) (Z : rz_Z) (hn : vs.length = 2) (h : rgX4_link vs M Z = true) : Met l yX4_link (Cond.code yX4_link cX4_link 2 (some .boolean) :: rz_TB) rrX4_link (rz_Pre G vs M) (rz_Qi G M.2 Z) 0 0 (fun q => rz_b G ≤ q) := by
  obtain ⟨D, tc, ad, b, xs, rfl⟩ := id hG
  refine rz_body (pcs := rpX4_link) (by decide) rfl (by rw [hn]; decide) h ?_
  intro p e R s m args below meth c hC
  obtain ⟨hx, hb, hml, hr, hlk, ho, hts, hKn, hRm⟩ := id hC
  obtain ⟨hK, hA, hSt⟩ := id hKn
  have hw : ∀ {i j : Nat} {ws : List Cond} {w : Cond}, rz_WW[i]? = some ws → ws[j]? = some w → w.before args s = true := fun h1 h2 => hts _ (List.mem_cons_of_mem _ (rz_mem h1 h2))
  refine rz_All_c (i := 0) (fun k J hk hJ => rz_aload_n_ok (pc := 0) hx hb dX4_link_0 rfl hk) ?_
  refine rz_All_c (i := 1) (fun k J hk hJ => rz_iconst_ok (pc := 1) hx hb dX4_link_1 rfl hk) ?_
  refine rz_All_c (i := 2) (fun k J hk hJ => rz_putf_ok (pc := 2) (own := RX4) (ref := "ThreadJudge$Linker") (C := RX4) (T := TX4) (N := 4) (ci := 6) (index := 19) (f := 2) (t := 0) (Ts := Cond.code yX4_link cX4_link 2 (some .boolean) :: rz_TB) hx hb hts rz_in6 tyX4 tyX4_ok nmX4 ho hK hA rfl (by decide) rfl (rz_UnI _) rfl (tyX4_ok 2 (by decide)) (hw (i := 15) (j := 21) rfl rfl) (fun _ z => z) dX4_link_2 hk) ?_
  refine rz_All_c (i := 3) (fun k J hk hJ => rz_aload_n_ok (pc := 5) hx hb dX4_link_5 rfl hk) ?_
  refine rz_All_c (i := 4) (fun k J hk hJ => rz_iconst_ok (pc := 6) hx hb dX4_link_6 rfl hk) ?_
  refine rz_All_c (i := 5) (fun k J hk hJ => rz_putf_ok (pc := 7) (own := RX4) (ref := "ThreadJudge$Linker") (C := RX4) (T := TX4) (N := 4) (ci := 6) (index := 23) (f := 3) (t := 0) (Ts := Cond.code yX4_link cX4_link 2 (some .boolean) :: rz_TB) hx hb hts rz_in6 tyX4 tyX4_ok nmX4 ho hK hA rfl (by decide) rfl (rz_UnI _) rfl (tyX4_ok 3 (by decide)) (hw (i := 15) (j := 22) rfl rfl) (fun _ z => z) dX4_link_7 hk) ?_
  refine rz_All_c (i := 6) (fun k J hk hJ => rz_aload_n_ok (pc := 10) hx hb dX4_link_10 rfl hk) ?_
  refine rz_All_c (i := 7) (fun k J hk hJ => rz_callVv_ok (pc := 11) (own := RX4) (C := RX4) (T0 := TX4) (N0 := 4) hC rfl (rmX4_linkClasses l hG) (rz_cwV 0 hC rz_good (rz_mem (i := 15) (j := 23) rfl rfl) (rz_mem (i := 16) (j := 0) rfl rfl) (rz_mem (i := 16) (j := 1) rfl rfl) (rz_mem (i := 15) (j := 19) rfl rfl) (rz_mem (i := 16) (j := 2) rfl rfl) ⟨rfl, by decide, by decide, by decide +kernel⟩ rfl rfl ⟨by decide, by decide⟩) rfl dX4_link_11 hk) ?_
  refine rz_All_c (i := 8) (fun k J hk hJ => rz_aload_n_ok (pc := 14) hx hb dX4_link_14 rfl hk) ?_
  refine rz_All_c (i := 9) (fun k J hk hJ => rz_getf_ok (pc := 15) (own := RX4) (ref := "ThreadJudge$Linker") (C := RX4) (T := TX4) (N := 4) (ci := 6) (index := 19) (f := 2) (t := 0) (Ts := Cond.code yX4_link cX4_link 2 (some .boolean) :: rz_TB) hx hb hts rz_in6 ho hK rfl (by decide) rfl (fun _ => rfl) (hw (i := 15) (j := 21) rfl rfl) (fun _ z => z) dX4_link_15 hk) ?_
  refine rz_All_c (i := 10) (fun k J hk hJ => rz_ifne_ok (pc := 18) hx hb dX4_link_18 rfl hk (hJ 15)) ?_
  refine rz_All_c (i := 11) (fun k J hk hJ => rz_aload_n_ok (pc := 21) hx hb dX4_link_21 rfl hk) ?_
  refine rz_All_c (i := 12) (fun k J hk hJ => rz_callVv_ok (pc := 22) (own := RX4) (C := RX4) (T0 := TX4) (N0 := 4) hC rfl (rmX4_resolveTypes l hG) (rz_cwV 0 hC rz_good (rz_mem (i := 17) (j := 6) rfl rfl) (rz_mem (i := 17) (j := 7) rfl rfl) (rz_mem (i := 17) (j := 8) rfl rfl) (rz_mem (i := 15) (j := 19) rfl rfl) (rz_mem (i := 17) (j := 9) rfl rfl) ⟨rfl, by decide, by decide, by decide +kernel⟩ rfl rfl ⟨by decide, by decide⟩) rfl dX4_link_22 hk) ?_
  refine rz_All_c (i := 13) (fun k J hk hJ => rz_aload_n_ok (pc := 25) hx hb dX4_link_25 rfl hk) ?_
  refine rz_All_c (i := 14) (fun k J hk hJ => rz_callVv_ok (pc := 26) (own := RX4) (C := RX4) (T0 := TX4) (N0 := 4) hC rfl (rmX4_linkMembers l hG) (rz_cwV 0 hC rz_good (rz_mem (i := 17) (j := 23) rfl rfl) (rz_mem (i := 18) (j := 0) rfl rfl) (rz_mem (i := 18) (j := 1) rfl rfl) (rz_mem (i := 15) (j := 19) rfl rfl) (rz_mem (i := 18) (j := 2) rfl rfl) ⟨rfl, by decide, by decide, by decide +kernel⟩ rfl rfl ⟨by decide, by decide⟩) rfl dX4_link_26 hk) ?_
  refine rz_All_c (i := 15) (fun k J hk hJ => rz_aload_n_ok (pc := 29) hx hb dX4_link_29 rfl hk) ?_
  refine rz_All_c (i := 16) (fun k J hk hJ => rz_getf_ok (pc := 30) (own := RX4) (ref := "ThreadJudge$Linker") (C := RX4) (T := TX4) (N := 4) (ci := 6) (index := 19) (f := 2) (t := 0) (Ts := Cond.code yX4_link cX4_link 2 (some .boolean) :: rz_TB) hx hb hts rz_in6 ho hK rfl (by decide) rfl (fun _ => rfl) (hw (i := 15) (j := 21) rfl rfl) (fun _ z => z) dX4_link_30 hk) ?_
  refine rz_All_c (i := 17) (fun k J hk hJ => rz_ifne_ok (pc := 33) hx hb dX4_link_33 rfl hk (hJ 22)) ?_
  refine rz_All_c (i := 18) (fun k J hk hJ => rz_aload_n_ok (pc := 36) hx hb dX4_link_36 rfl hk) ?_
  refine rz_All_c (i := 19) (fun k J hk hJ => rz_callVv_ok (pc := 37) (own := RX4) (C := RX4) (T0 := TX4) (N0 := 4) hC rfl (rmX4_chooseAll l hG) (rz_cwV 0 hC rz_good (rz_mem (i := 20) (j := 9) rfl rfl) (rz_mem (i := 20) (j := 10) rfl rfl) (rz_mem (i := 20) (j := 11) rfl rfl) (rz_mem (i := 15) (j := 19) rfl rfl) (rz_mem (i := 20) (j := 12) rfl rfl) ⟨rfl, by decide, by decide, by decide +kernel⟩ rfl rfl ⟨by decide, by decide⟩) rfl dX4_link_37 hk) ?_
  refine rz_All_c (i := 20) (fun k J hk hJ => rz_aload_n_ok (pc := 40) hx hb dX4_link_40 rfl hk) ?_
  refine rz_All_c (i := 21) (fun k J hk hJ => rz_callVv_ok (pc := 41) (own := RX4) (C := RX4) (T0 := TX4) (N0 := 4) hC rfl (rmX4_linkLines l hG) (rz_cwV 0 hC rz_good (rz_mem (i := 21) (j := 6) rfl rfl) (rz_mem (i := 21) (j := 7) rfl rfl) (rz_mem (i := 21) (j := 8) rfl rfl) (rz_mem (i := 15) (j := 19) rfl rfl) (rz_mem (i := 21) (j := 9) rfl rfl) ⟨rfl, by decide, by decide, by decide +kernel⟩ rfl rfl ⟨by decide, by decide⟩) rfl dX4_link_41 hk) ?_
  refine rz_All_c (i := 22) (fun k J hk hJ => rz_aload_n_ok (pc := 44) hx hb dX4_link_44 rfl hk) ?_
  refine rz_All_c (i := 23) (fun k J hk hJ => rz_getf_ok (pc := 45) (own := RX4) (ref := "ThreadJudge$Linker") (C := RX4) (T := TX4) (N := 4) (ci := 6) (index := 19) (f := 2) (t := 0) (Ts := Cond.code yX4_link cX4_link 2 (some .boolean) :: rz_TB) hx hb hts rz_in6 ho hK rfl (by decide) rfl (fun _ => rfl) (hw (i := 15) (j := 21) rfl rfl) (fun _ z => z) dX4_link_45 hk) ?_
  refine rz_All_c (i := 24) (fun k J hk hJ => rz_ifne_ok (pc := 48) hx hb dX4_link_48 rfl hk (hJ 28)) ?_
  refine rz_All_c (i := 25) (fun k J hk hJ => rz_aload_n_ok (pc := 51) hx hb dX4_link_51 rfl hk) ?_
  refine rz_All_c (i := 26) (fun k J hk hJ => rz_iload_n_ok (pc := 52) hx hb dX4_link_52 rfl hk) ?_
  refine rz_All_c (i := 27) (fun k J hk hJ => rz_callVv_ok (pc := 53) (own := RX4) (C := RX4) (T0 := TX4) (N0 := 4) hC rfl (rmX4_findMain l hG) (rz_cwV 1 hC rz_good (rz_mem (i := 24) (j := 4) rfl rfl) (rz_mem (i := 24) (j := 5) rfl rfl) (rz_mem (i := 24) (j := 6) rfl rfl) (rz_mem (i := 15) (j := 19) rfl rfl) (rz_mem (i := 24) (j := 7) rfl rfl) ⟨rfl, by decide, by decide, by decide +kernel⟩ rfl rfl ⟨by decide, by decide⟩) rfl dX4_link_53 hk) ?_
  refine rz_All_c (i := 28) (fun k J hk hJ => rz_aload_n_ok (pc := 56) hx hb dX4_link_56 rfl hk) ?_
  refine rz_All_c (i := 29) (fun k J hk hJ => rz_getf_ok (pc := 57) (own := RX4) (ref := "ThreadJudge$Linker") (C := RX4) (T := TX4) (N := 4) (ci := 6) (index := 19) (f := 2) (t := 0) (Ts := Cond.code yX4_link cX4_link 2 (some .boolean) :: rz_TB) hx hb hts rz_in6 ho hK rfl (by decide) rfl (fun _ => rfl) (hw (i := 15) (j := 21) rfl rfl) (fun _ z => z) dX4_link_57 hk) ?_
  refine rz_All_c (i := 30) (fun k J hk hJ => rz_ifne_ok (pc := 60) hx hb dX4_link_60 rfl hk (hJ 32)) ?_
  refine rz_All_c (i := 31) (fun k J hk hJ => rz_no_ok) ?_
  refine rz_All_c (i := 32) (fun k J hk hJ => rz_iconst_ok (pc := 67) hx hb dX4_link_67 rfl hk) ?_
  refine rz_All_c (i := 33) (fun k J hk hJ => rz_zret_ok (pc := 68) hC dX4_link_68) ?_
  exact trivial
theorem dX7_clean_0 : decode cX7_clean 0 = .ok (.aload_n 0, 1) := by decide +kernel
theorem dX7_clean_1 : decode cX7_clean 1 = .ok (.iconst 0, 1) := by decide +kernel
theorem dX7_clean_2 : decode cX7_clean 2 = .ok (.putfield 54, 3) := by decide +kernel
theorem dX7_clean_5 : decode cX7_clean 5 = .ok (.aload_n 0, 1) := by decide +kernel
theorem dX7_clean_6 : decode cX7_clean 6 = .ok (.iconst (-1), 1) := by decide +kernel
theorem dX7_clean_7 : decode cX7_clean 7 = .ok (.putfield 58, 3) := by decide +kernel
theorem dX7_clean_10 : decode cX7_clean 10 = .ok (.aload_n 0, 1) := by decide +kernel
theorem dX7_clean_11 : decode cX7_clean 11 = .ok (.iconst 0, 1) := by decide +kernel
theorem dX7_clean_12 : decode cX7_clean 12 = .ok (.putfield 62, 3) := by decide +kernel
theorem dX7_clean_15 : decode cX7_clean 15 = .ok (.aload_n 0, 1) := by decide +kernel
theorem dX7_clean_16 : decode cX7_clean 16 = .ok (.iconst 0, 1) := by decide +kernel
theorem dX7_clean_17 : decode cX7_clean 17 = .ok (.putfield 65, 3) := by decide +kernel
theorem dX7_clean_20 : decode cX7_clean 20 = .ok (.aload_n 0, 1) := by decide +kernel
theorem dX7_clean_21 : decode cX7_clean 21 = .ok (.iconst 0, 1) := by decide +kernel
theorem dX7_clean_22 : decode cX7_clean 22 = .ok (.putfield 68, 3) := by decide +kernel
theorem dX7_clean_25 : decode cX7_clean 25 = .ok (.aload_n 0, 1) := by decide +kernel
theorem dX7_clean_26 : decode cX7_clean 26 = .ok (.iconst 0, 1) := by decide +kernel
theorem dX7_clean_27 : decode cX7_clean 27 = .ok (.putfield 71, 3) := by decide +kernel
theorem dX7_clean_30 : decode cX7_clean 30 = .ok (.aload_n 0, 1) := by decide +kernel
theorem dX7_clean_31 : decode cX7_clean 31 = .ok (.iconst 0, 1) := by decide +kernel
theorem dX7_clean_32 : decode cX7_clean 32 = .ok (.putfield 74, 3) := by decide +kernel
theorem dX7_clean_35 : decode cX7_clean 35 = .ok (.aload_n 0, 1) := by decide +kernel
theorem dX7_clean_36 : decode cX7_clean 36 = .ok (.iconst 0, 1) := by decide +kernel
theorem dX7_clean_37 : decode cX7_clean 37 = .ok (.putfield 77, 3) := by decide +kernel
theorem dX7_clean_40 : decode cX7_clean 40 = .ok (.aload_n 0, 1) := by decide +kernel
theorem dX7_clean_41 : decode cX7_clean 41 = .ok (.iconst 0, 1) := by decide +kernel
theorem dX7_clean_42 : decode cX7_clean 42 = .ok (.putfield 80, 3) := by decide +kernel
theorem dX7_clean_45 : decode cX7_clean 45 = .ok (.return_, 1) := by decide +kernel
def rpX7_clean : List Nat := [0, 1, 2, 5, 6, 7, 10, 11, 12, 15, 16, 17, 20, 21, 22, 25, 26, 27, 30, 31, 32, 35, 36, 37, 40, 41, 42, 45]
noncomputable def rcX7_clean : List rz_B := [rz_aload 0, rz_cst 0, rz_putf (Nat.add (Nat.mul 256 9) 1) 0 rz_unZ, rz_aload 0, rz_cst 4294967295, rz_putf (Nat.add (Nat.mul 256 9) 1) 1 rz_unI, rz_aload 0, rz_cst 0, rz_putf (Nat.add (Nat.mul 256 9) 1) 2 rz_unI, rz_aload 0, rz_cst 0, rz_putf (Nat.add (Nat.mul 256 9) 1) 7 rz_unI, rz_aload 0, rz_cst 0, rz_putf (Nat.add (Nat.mul 256 9) 1) 9 rz_unI, rz_aload 0, rz_cst 0, rz_putf (Nat.add (Nat.mul 256 9) 1) 13 rz_unI, rz_aload 0, rz_cst 0, rz_putf (Nat.add (Nat.mul 256 9) 1) 16 rz_unI, rz_aload 0, rz_cst 0, rz_putf (Nat.add (Nat.mul 256 9) 1) 18 rz_unI, rz_aload 0, rz_cst 0, rz_putf (Nat.add (Nat.mul 256 9) 1) 20 rz_unI, rz_vret]
noncomputable def rgX7_clean : rz_L → rz_M → rz_Z → Bool := rz_go rcX7_clean 1 1000000
def rrX7_clean : Room := { frames := 0, cells := 0, slots := 0, locals := 0 }
theorem rmX7_clean (l : Launch) {G : rz_G} (hG : rz_Gd G) (vs : rz_L) (M : rz_M) (Z : rz_Z) (hn : vs.length = 1) (h : rgX7_clean vs M Z = true) : Met l yX7_clean (Cond.code yX7_clean cX7_clean 1 none :: rz_TB) rrX7_clean (rz_Pre G vs M) (rz_Qv G M.2 Z) 0 0 (fun q => rz_b G ≤ q) := by
  obtain ⟨D, tc, ad, b, xs, rfl⟩ := id hG
  refine rz_body (pcs := rpX7_clean) (by decide) rfl (by rw [hn]; decide) h ?_
  intro p e R s m args below meth c hC
  obtain ⟨hx, hb, hml, hr, hlk, ho, hts, hKn, hRm⟩ := id hC
  obtain ⟨hK, hA, hSt⟩ := id hKn
  have hw : ∀ {i j : Nat} {ws : List Cond} {w : Cond}, rz_WW[i]? = some ws → ws[j]? = some w → w.before args s = true := fun h1 h2 => hts _ (List.mem_cons_of_mem _ (rz_mem h1 h2))
  refine rz_All_c (i := 0) (fun k J hk hJ => rz_aload_n_ok (pc := 0) hx hb dX7_clean_0 rfl hk) ?_
  refine rz_All_c (i := 1) (fun k J hk hJ => rz_iconst_ok (pc := 1) hx hb dX7_clean_1 rfl hk) ?_
  refine rz_All_c (i := 2) (fun k J hk hJ => rz_putf_ok (pc := 2) (own := RX7) (ref := "ThreadJudge$Program") (C := RX7) (T := TX7) (N := 22) (ci := 9) (index := 54) (f := 0) (t := 0) (Ts := Cond.code yX7_clean cX7_clean 1 none :: rz_TB) hx hb hts rz_in9 tyX7 tyX7_ok nmX7 ho hK hA rfl (by decide) rfl (rz_UnZ _) rfl (tyX7_ok 0 (by decide)) (hw (i := 1) (j := 2) rfl rfl) (fun _ z => z) dX7_clean_2 hk) ?_
  refine rz_All_c (i := 3) (fun k J hk hJ => rz_aload_n_ok (pc := 5) hx hb dX7_clean_5 rfl hk) ?_
  refine rz_All_c (i := 4) (fun k J hk hJ => rz_iconst_ok (pc := 6) hx hb dX7_clean_6 rfl hk) ?_
  refine rz_All_c (i := 5) (fun k J hk hJ => rz_putf_ok (pc := 7) (own := RX7) (ref := "ThreadJudge$Program") (C := RX7) (T := TX7) (N := 22) (ci := 9) (index := 58) (f := 1) (t := 0) (Ts := Cond.code yX7_clean cX7_clean 1 none :: rz_TB) hx hb hts rz_in9 tyX7 tyX7_ok nmX7 ho hK hA rfl (by decide) rfl (rz_UnI _) rfl (tyX7_ok 1 (by decide)) (hw (i := 1) (j := 3) rfl rfl) (fun _ z => z) dX7_clean_7 hk) ?_
  refine rz_All_c (i := 6) (fun k J hk hJ => rz_aload_n_ok (pc := 10) hx hb dX7_clean_10 rfl hk) ?_
  refine rz_All_c (i := 7) (fun k J hk hJ => rz_iconst_ok (pc := 11) hx hb dX7_clean_11 rfl hk) ?_
  refine rz_All_c (i := 8) (fun k J hk hJ => rz_putf_ok (pc := 12) (own := RX7) (ref := "ThreadJudge$Program") (C := RX7) (T := TX7) (N := 22) (ci := 9) (index := 62) (f := 2) (t := 0) (Ts := Cond.code yX7_clean cX7_clean 1 none :: rz_TB) hx hb hts rz_in9 tyX7 tyX7_ok nmX7 ho hK hA rfl (by decide) rfl (rz_UnI _) rfl (tyX7_ok 2 (by decide)) (hw (i := 1) (j := 4) rfl rfl) (fun _ z => z) dX7_clean_12 hk) ?_
  refine rz_All_c (i := 9) (fun k J hk hJ => rz_aload_n_ok (pc := 15) hx hb dX7_clean_15 rfl hk) ?_
  refine rz_All_c (i := 10) (fun k J hk hJ => rz_iconst_ok (pc := 16) hx hb dX7_clean_16 rfl hk) ?_
  refine rz_All_c (i := 11) (fun k J hk hJ => rz_putf_ok (pc := 17) (own := RX7) (ref := "ThreadJudge$Program") (C := RX7) (T := TX7) (N := 22) (ci := 9) (index := 65) (f := 7) (t := 0) (Ts := Cond.code yX7_clean cX7_clean 1 none :: rz_TB) hx hb hts rz_in9 tyX7 tyX7_ok nmX7 ho hK hA rfl (by decide) rfl (rz_UnI _) rfl (tyX7_ok 7 (by decide)) (hw (i := 1) (j := 5) rfl rfl) (fun _ z => z) dX7_clean_17 hk) ?_
  refine rz_All_c (i := 12) (fun k J hk hJ => rz_aload_n_ok (pc := 20) hx hb dX7_clean_20 rfl hk) ?_
  refine rz_All_c (i := 13) (fun k J hk hJ => rz_iconst_ok (pc := 21) hx hb dX7_clean_21 rfl hk) ?_
  refine rz_All_c (i := 14) (fun k J hk hJ => rz_putf_ok (pc := 22) (own := RX7) (ref := "ThreadJudge$Program") (C := RX7) (T := TX7) (N := 22) (ci := 9) (index := 68) (f := 9) (t := 0) (Ts := Cond.code yX7_clean cX7_clean 1 none :: rz_TB) hx hb hts rz_in9 tyX7 tyX7_ok nmX7 ho hK hA rfl (by decide) rfl (rz_UnI _) rfl (tyX7_ok 9 (by decide)) (hw (i := 1) (j := 6) rfl rfl) (fun _ z => z) dX7_clean_22 hk) ?_
  refine rz_All_c (i := 15) (fun k J hk hJ => rz_aload_n_ok (pc := 25) hx hb dX7_clean_25 rfl hk) ?_
  refine rz_All_c (i := 16) (fun k J hk hJ => rz_iconst_ok (pc := 26) hx hb dX7_clean_26 rfl hk) ?_
  refine rz_All_c (i := 17) (fun k J hk hJ => rz_putf_ok (pc := 27) (own := RX7) (ref := "ThreadJudge$Program") (C := RX7) (T := TX7) (N := 22) (ci := 9) (index := 71) (f := 13) (t := 0) (Ts := Cond.code yX7_clean cX7_clean 1 none :: rz_TB) hx hb hts rz_in9 tyX7 tyX7_ok nmX7 ho hK hA rfl (by decide) rfl (rz_UnI _) rfl (tyX7_ok 13 (by decide)) (hw (i := 1) (j := 7) rfl rfl) (fun _ z => z) dX7_clean_27 hk) ?_
  refine rz_All_c (i := 18) (fun k J hk hJ => rz_aload_n_ok (pc := 30) hx hb dX7_clean_30 rfl hk) ?_
  refine rz_All_c (i := 19) (fun k J hk hJ => rz_iconst_ok (pc := 31) hx hb dX7_clean_31 rfl hk) ?_
  refine rz_All_c (i := 20) (fun k J hk hJ => rz_putf_ok (pc := 32) (own := RX7) (ref := "ThreadJudge$Program") (C := RX7) (T := TX7) (N := 22) (ci := 9) (index := 74) (f := 16) (t := 0) (Ts := Cond.code yX7_clean cX7_clean 1 none :: rz_TB) hx hb hts rz_in9 tyX7 tyX7_ok nmX7 ho hK hA rfl (by decide) rfl (rz_UnI _) rfl (tyX7_ok 16 (by decide)) (hw (i := 1) (j := 8) rfl rfl) (fun _ z => z) dX7_clean_32 hk) ?_
  refine rz_All_c (i := 21) (fun k J hk hJ => rz_aload_n_ok (pc := 35) hx hb dX7_clean_35 rfl hk) ?_
  refine rz_All_c (i := 22) (fun k J hk hJ => rz_iconst_ok (pc := 36) hx hb dX7_clean_36 rfl hk) ?_
  refine rz_All_c (i := 23) (fun k J hk hJ => rz_putf_ok (pc := 37) (own := RX7) (ref := "ThreadJudge$Program") (C := RX7) (T := TX7) (N := 22) (ci := 9) (index := 77) (f := 18) (t := 0) (Ts := Cond.code yX7_clean cX7_clean 1 none :: rz_TB) hx hb hts rz_in9 tyX7 tyX7_ok nmX7 ho hK hA rfl (by decide) rfl (rz_UnI _) rfl (tyX7_ok 18 (by decide)) (hw (i := 1) (j := 9) rfl rfl) (fun _ z => z) dX7_clean_37 hk) ?_
  refine rz_All_c (i := 24) (fun k J hk hJ => rz_aload_n_ok (pc := 40) hx hb dX7_clean_40 rfl hk) ?_
  refine rz_All_c (i := 25) (fun k J hk hJ => rz_iconst_ok (pc := 41) hx hb dX7_clean_41 rfl hk) ?_
  refine rz_All_c (i := 26) (fun k J hk hJ => rz_putf_ok (pc := 42) (own := RX7) (ref := "ThreadJudge$Program") (C := RX7) (T := TX7) (N := 22) (ci := 9) (index := 80) (f := 20) (t := 0) (Ts := Cond.code yX7_clean cX7_clean 1 none :: rz_TB) hx hb hts rz_in9 tyX7 tyX7_ok nmX7 ho hK hA rfl (by decide) rfl (rz_UnI _) rfl (tyX7_ok 20 (by decide)) (hw (i := 1) (j := 10) rfl rfl) (fun _ z => z) dX7_clean_42 hk) ?_
  refine rz_All_c (i := 27) (fun k J hk hJ => rz_vret_ok (pc := 45) hC dX7_clean_45) ?_
  exact trivial
theorem dX8_forget_0 : decode cX8_forget 0 = .ok (.aload_n 0, 1) := by decide +kernel
theorem dX8_forget_1 : decode cX8_forget 1 = .ok (.iconst 0, 1) := by decide +kernel
theorem dX8_forget_2 : decode cX8_forget 2 = .ok (.putfield 54, 3) := by decide +kernel
theorem dX8_forget_5 : decode cX8_forget 5 = .ok (.aload_n 0, 1) := by decide +kernel
theorem dX8_forget_6 : decode cX8_forget 6 = .ok (.getfield 15, 3) := by decide +kernel
theorem dX8_forget_9 : decode cX8_forget 9 = .ok (.iconst 0, 1) := by decide +kernel
theorem dX8_forget_10 : decode cX8_forget 10 = .ok (.lconst 0, 1) := by decide +kernel
theorem dX8_forget_11 : decode cX8_forget 11 = .ok (.lastore, 1) := by decide +kernel
theorem dX8_forget_12 : decode cX8_forget 12 = .ok (.aload_n 0, 1) := by decide +kernel
theorem dX8_forget_13 : decode cX8_forget 13 = .ok (.getfield 15, 3) := by decide +kernel
theorem dX8_forget_16 : decode cX8_forget 16 = .ok (.iconst 1, 1) := by decide +kernel
theorem dX8_forget_17 : decode cX8_forget 17 = .ok (.lconst 0, 1) := by decide +kernel
theorem dX8_forget_18 : decode cX8_forget 18 = .ok (.lastore, 1) := by decide +kernel
theorem dX8_forget_19 : decode cX8_forget 19 = .ok (.return_, 1) := by decide +kernel
def rpX8_forget : List Nat := [0, 1, 2, 5, 6, 9, 10, 11, 12, 13, 16, 17, 18, 19]
noncomputable def rcX8_forget : List rz_B := [rz_aload 0, rz_cst 0, rz_putf (Nat.add (Nat.mul 256 10) 1) 7 rz_unI, rz_aload 0, rz_getf (Nat.add (Nat.mul 256 10) 1) 6 rz_r, rz_cst 0, rz_lcst 0, rz_last, rz_aload 0, rz_getf (Nat.add (Nat.mul 256 10) 1) 6 rz_r, rz_cst 1, rz_lcst 0, rz_last, rz_vret]
noncomputable def rgX8_forget : rz_L → rz_M → rz_Z → Bool := rz_go rcX8_forget 1 1000000
def rrX8_forget : Room := { frames := 0, cells := 0, slots := 0, locals := 0 }
theorem rmX8_forget (l : Launch) {G : rz_G} (hG : rz_Gd G) (vs : rz_L) (M : rz_M) (Z : rz_Z) (hn : vs.length = 1) (h : rgX8_forget vs M Z = true) : Met l yX8_forget (Cond.code yX8_forget cX8_forget 1 none :: rz_TB) rrX8_forget (rz_Pre G vs M) (rz_Qv G M.2 Z) 0 0 (fun q => rz_b G ≤ q) := by
  obtain ⟨D, tc, ad, b, xs, rfl⟩ := id hG
  refine rz_body (pcs := rpX8_forget) (by decide) rfl (by rw [hn]; decide) h ?_
  intro p e R s m args below meth c hC
  obtain ⟨hx, hb, hml, hr, hlk, ho, hts, hKn, hRm⟩ := id hC
  obtain ⟨hK, hA, hSt⟩ := id hKn
  have hw : ∀ {i j : Nat} {ws : List Cond} {w : Cond}, rz_WW[i]? = some ws → ws[j]? = some w → w.before args s = true := fun h1 h2 => hts _ (List.mem_cons_of_mem _ (rz_mem h1 h2))
  refine rz_All_c (i := 0) (fun k J hk hJ => rz_aload_n_ok (pc := 0) hx hb dX8_forget_0 rfl hk) ?_
  refine rz_All_c (i := 1) (fun k J hk hJ => rz_iconst_ok (pc := 1) hx hb dX8_forget_1 rfl hk) ?_
  refine rz_All_c (i := 2) (fun k J hk hJ => rz_putf_ok (pc := 2) (own := RX8) (ref := "ThreadJudge$Question") (C := RX8) (T := TX8) (N := 18) (ci := 10) (index := 54) (f := 7) (t := 0) (Ts := Cond.code yX8_forget cX8_forget 1 none :: rz_TB) hx hb hts rz_in10 tyX8 tyX8_ok nmX8 ho hK hA rfl (by decide) rfl (rz_UnI _) rfl (tyX8_ok 7 (by decide)) (hw (i := 1) (j := 16) rfl rfl) (fun _ z => z) dX8_forget_2 hk) ?_
  refine rz_All_c (i := 3) (fun k J hk hJ => rz_aload_n_ok (pc := 5) hx hb dX8_forget_5 rfl hk) ?_
  refine rz_All_c (i := 4) (fun k J hk hJ => rz_getf_ok (pc := 6) (own := RX8) (ref := "ThreadJudge$Question") (C := RX8) (T := TX8) (N := 18) (ci := 10) (index := 15) (f := 6) (t := 2) (Ts := Cond.code yX8_forget cX8_forget 1 none :: rz_TB) hx hb hts rz_in10 ho hK rfl (by decide) rfl (fun _ => rfl) (hw (i := 1) (j := 17) rfl rfl) (fun _ z => z) dX8_forget_6 hk) ?_
  refine rz_All_c (i := 5) (fun k J hk hJ => rz_iconst_ok (pc := 9) hx hb dX8_forget_9 rfl hk) ?_
  refine rz_All_c (i := 6) (fun k J hk hJ => rz_lconst_ok (pc := 10) hx hb dX8_forget_10 rfl hk) ?_
  refine rz_All_c (i := 7) (fun k J hk hJ => rz_last_ok (pc := 11) hx hb hK hA dX8_forget_11 hk) ?_
  refine rz_All_c (i := 8) (fun k J hk hJ => rz_aload_n_ok (pc := 12) hx hb dX8_forget_12 rfl hk) ?_
  refine rz_All_c (i := 9) (fun k J hk hJ => rz_getf_ok (pc := 13) (own := RX8) (ref := "ThreadJudge$Question") (C := RX8) (T := TX8) (N := 18) (ci := 10) (index := 15) (f := 6) (t := 2) (Ts := Cond.code yX8_forget cX8_forget 1 none :: rz_TB) hx hb hts rz_in10 ho hK rfl (by decide) rfl (fun _ => rfl) (hw (i := 1) (j := 17) rfl rfl) (fun _ z => z) dX8_forget_13 hk) ?_
  refine rz_All_c (i := 10) (fun k J hk hJ => rz_iconst_ok (pc := 16) hx hb dX8_forget_16 rfl hk) ?_
  refine rz_All_c (i := 11) (fun k J hk hJ => rz_lconst_ok (pc := 17) hx hb dX8_forget_17 rfl hk) ?_
  refine rz_All_c (i := 12) (fun k J hk hJ => rz_last_ok (pc := 18) hx hb hK hA dX8_forget_18 hk) ?_
  refine rz_All_c (i := 13) (fun k J hk hJ => rz_vret_ok (pc := 19) hC dX8_forget_19) ?_
  exact trivial
theorem dX9_bucket_0 : decode cX9_bucket 0 = .ok (.iconst 0, 1) := by decide +kernel
theorem dX9_bucket_1 : decode cX9_bucket 1 = .ok (.istore_n 3, 1) := by decide +kernel
theorem dX9_bucket_2 : decode cX9_bucket 2 = .ok (.iload_n 1, 1) := by decide +kernel
theorem dX9_bucket_3 : decode cX9_bucket 3 = .ok (.istore 4, 2) := by decide +kernel
theorem dX9_bucket_5 : decode cX9_bucket 5 = .ok (.iload 4, 2) := by decide +kernel
theorem dX9_bucket_7 : decode cX9_bucket 7 = .ok (.iload_n 2, 1) := by decide +kernel
theorem dX9_bucket_8 : decode cX9_bucket 8 = .ok (.if_icmp .ge 19, 3) := by decide +kernel
theorem dX9_bucket_11 : decode cX9_bucket 11 = .ok (.iload_n 3, 1) := by decide +kernel
theorem dX9_bucket_12 : decode cX9_bucket 12 = .ok (.bipush 31, 2) := by decide +kernel
theorem dX9_bucket_14 : decode cX9_bucket 14 = .ok (.imul, 1) := by decide +kernel
theorem dX9_bucket_15 : decode cX9_bucket 15 = .ok (.aload_n 0, 1) := by decide +kernel
theorem dX9_bucket_16 : decode cX9_bucket 16 = .ok (.iload 4, 2) := by decide +kernel
theorem dX9_bucket_18 : decode cX9_bucket 18 = .ok (.caload, 1) := by decide +kernel
theorem dX9_bucket_19 : decode cX9_bucket 19 = .ok (.iadd, 1) := by decide +kernel
theorem dX9_bucket_20 : decode cX9_bucket 20 = .ok (.istore_n 3, 1) := by decide +kernel
theorem dX9_bucket_21 : decode cX9_bucket 21 = .ok (.iinc 4 1, 3) := by decide +kernel
theorem dX9_bucket_24 : decode cX9_bucket 24 = .ok (.goto (-19), 3) := by decide +kernel
theorem dX9_bucket_27 : decode cX9_bucket 27 = .ok (.iload_n 3, 1) := by decide +kernel
theorem dX9_bucket_28 : decode cX9_bucket 28 = .ok (.sipush 4095, 3) := by decide +kernel
theorem dX9_bucket_31 : decode cX9_bucket 31 = .ok (.iand, 1) := by decide +kernel
theorem dX9_bucket_32 : decode cX9_bucket 32 = .ok (.ireturn, 1) := by decide +kernel
def rpX9_bucket : List Nat := [0, 1, 2, 3, 5, 7, 8, 11, 12, 14, 15, 16, 18, 19, 20, 21, 24, 27, 28, 31, 32]
noncomputable def rcX9_bucket : List rz_B := [rz_cst 0, rz_istore 3, rz_iload 1, rz_istore 4, rz_iload 4, rz_iload 2, rz_icmpge 17, rz_iload 3, rz_cst 31, rz_imul, rz_aload 0, rz_iload 4, rz_cald, rz_iadd, rz_istore 3, rz_iinc 4 1, rz_goto 4, rz_iload 3, rz_cst 4095, rz_iand, rz_iret]
noncomputable def rgX9_bucket : rz_L → rz_M → rz_Z → Bool := rz_go rcX9_bucket 5 1000000
def rrX9_bucket : Room := { frames := 0, cells := 0, slots := 0, locals := 0 }
theorem rmX9_bucket (l : Launch) {G : rz_G} (hG : rz_Gd G) (vs : rz_L) (M : rz_M) (Z : rz_Z) (hn : vs.length = 3) (h : rgX9_bucket vs M Z = true) : Met l yX9_bucket (Cond.code yX9_bucket cX9_bucket 5 (some .int) :: rz_TB) rrX9_bucket (rz_Pre G vs M) (rz_Qi G M.2 Z) 0 0 (fun q => rz_b G ≤ q) := by
  obtain ⟨D, tc, ad, b, xs, rfl⟩ := id hG
  refine rz_body (pcs := rpX9_bucket) (by decide) rfl (by rw [hn]; decide) h ?_
  intro p e R s m args below meth c hC
  obtain ⟨hx, hb, hml, hr, hlk, ho, hts, hKn, hRm⟩ := id hC
  obtain ⟨hK, hA, hSt⟩ := id hKn
  have hw : ∀ {i j : Nat} {ws : List Cond} {w : Cond}, rz_WW[i]? = some ws → ws[j]? = some w → w.before args s = true := fun h1 h2 => hts _ (List.mem_cons_of_mem _ (rz_mem h1 h2))
  refine rz_All_c (i := 0) (fun k J hk hJ => rz_iconst_ok (pc := 0) hx hb dX9_bucket_0 rfl hk) ?_
  refine rz_All_c (i := 1) (fun k J hk hJ => rz_istore_n_ok (pc := 1) hx hb dX9_bucket_1 rfl hk) ?_
  refine rz_All_c (i := 2) (fun k J hk hJ => rz_iload_n_ok (pc := 2) hx hb dX9_bucket_2 rfl hk) ?_
  refine rz_All_c (i := 3) (fun k J hk hJ => rz_istore_ok (pc := 3) hx hb dX9_bucket_3 hk) ?_
  refine rz_All_c (i := 4) (fun k J hk hJ => rz_iload_ok (pc := 5) hx hb dX9_bucket_5 hk) ?_
  refine rz_All_c (i := 5) (fun k J hk hJ => rz_iload_n_ok (pc := 7) hx hb dX9_bucket_7 rfl hk) ?_
  refine rz_All_c (i := 6) (fun k J hk hJ => rz_icmpge_ok (pc := 8) hx hb dX9_bucket_8 rfl hk (hJ 17)) ?_
  refine rz_All_c (i := 7) (fun k J hk hJ => rz_iload_n_ok (pc := 11) hx hb dX9_bucket_11 rfl hk) ?_
  refine rz_All_c (i := 8) (fun k J hk hJ => rz_bipush_ok (pc := 12) hx hb dX9_bucket_12 (by decide) hk) ?_
  refine rz_All_c (i := 9) (fun k J hk hJ => rz_imul_ok (pc := 14) hx hb dX9_bucket_14 hk) ?_
  refine rz_All_c (i := 10) (fun k J hk hJ => rz_aload_n_ok (pc := 15) hx hb dX9_bucket_15 rfl hk) ?_
  refine rz_All_c (i := 11) (fun k J hk hJ => rz_iload_ok (pc := 16) hx hb dX9_bucket_16 hk) ?_
  refine rz_All_c (i := 12) (fun k J hk hJ => rz_cald_ok (pc := 18) hx hb hK dX9_bucket_18 hk) ?_
  refine rz_All_c (i := 13) (fun k J hk hJ => rz_iadd_ok (pc := 19) hx hb dX9_bucket_19 hk) ?_
  refine rz_All_c (i := 14) (fun k J hk hJ => rz_istore_n_ok (pc := 20) hx hb dX9_bucket_20 rfl hk) ?_
  refine rz_All_c (i := 15) (fun k J hk hJ => rz_iinc_ok (pc := 21) hx hb dX9_bucket_21 (by decide) hk) ?_
  refine rz_All_c (i := 16) (fun k J hk hJ => rz_goto_ok (pc := 24) hx hb dX9_bucket_24 rfl (hJ 4)) ?_
  refine rz_All_c (i := 17) (fun k J hk hJ => rz_iload_n_ok (pc := 27) hx hb dX9_bucket_27 rfl hk) ?_
  refine rz_All_c (i := 18) (fun k J hk hJ => rz_sipush_ok (pc := 28) hx hb dX9_bucket_28 (by decide) hk) ?_
  refine rz_All_c (i := 19) (fun k J hk hJ => rz_iand_ok (pc := 31) hx hb dX9_bucket_31 hk) ?_
  refine rz_All_c (i := 20) (fun k J hk hJ => rz_iret_ok (pc := 32) hC dX9_bucket_32) ?_
  exact trivial
theorem dX9_alike_0 : decode cX9_alike 0 = .ok (.iconst 0, 1) := by decide +kernel
theorem dX9_alike_1 : decode cX9_alike 1 = .ok (.istore 4, 2) := by decide +kernel
theorem dX9_alike_3 : decode cX9_alike 3 = .ok (.iload 4, 2) := by decide +kernel
theorem dX9_alike_5 : decode cX9_alike 5 = .ok (.aload_n 0, 1) := by decide +kernel
theorem dX9_alike_6 : decode cX9_alike 6 = .ok (.getfield 19, 3) := by decide +kernel
theorem dX9_alike_9 : decode cX9_alike 9 = .ok (.iload_n 1, 1) := by decide +kernel
theorem dX9_alike_10 : decode cX9_alike 10 = .ok (.iaload, 1) := by decide +kernel
theorem dX9_alike_11 : decode cX9_alike 11 = .ok (.if_icmp .ge 34, 3) := by decide +kernel
theorem dX9_alike_14 : decode cX9_alike 14 = .ok (.aload_n 0, 1) := by decide +kernel
theorem dX9_alike_15 : decode cX9_alike 15 = .ok (.getfield 11, 3) := by decide +kernel
theorem dX9_alike_18 : decode cX9_alike 18 = .ok (.aload_n 0, 1) := by decide +kernel
theorem dX9_alike_19 : decode cX9_alike 19 = .ok (.getfield 15, 3) := by decide +kernel
theorem dX9_alike_22 : decode cX9_alike 22 = .ok (.iload_n 1, 1) := by decide +kernel
theorem dX9_alike_23 : decode cX9_alike 23 = .ok (.iaload, 1) := by decide +kernel
theorem dX9_alike_24 : decode cX9_alike 24 = .ok (.iload 4, 2) := by decide +kernel
theorem dX9_alike_26 : decode cX9_alike 26 = .ok (.iadd, 1) := by decide +kernel
theorem dX9_alike_27 : decode cX9_alike 27 = .ok (.caload, 1) := by decide +kernel
theorem dX9_alike_28 : decode cX9_alike 28 = .ok (.aload_n 2, 1) := by decide +kernel
theorem dX9_alike_29 : decode cX9_alike 29 = .ok (.iload_n 3, 1) := by decide +kernel
theorem dX9_alike_30 : decode cX9_alike 30 = .ok (.iload 4, 2) := by decide +kernel
theorem dX9_alike_32 : decode cX9_alike 32 = .ok (.iadd, 1) := by decide +kernel
theorem dX9_alike_33 : decode cX9_alike 33 = .ok (.caload, 1) := by decide +kernel
theorem dX9_alike_34 : decode cX9_alike 34 = .ok (.if_icmp .eq 5, 3) := by decide +kernel
theorem dX9_alike_37 : decode cX9_alike 37 = .ok (.iconst 0, 1) := by decide +kernel
theorem dX9_alike_38 : decode cX9_alike 38 = .ok (.ireturn, 1) := by decide +kernel
theorem dX9_alike_39 : decode cX9_alike 39 = .ok (.iinc 4 1, 3) := by decide +kernel
theorem dX9_alike_42 : decode cX9_alike 42 = .ok (.goto (-39), 3) := by decide +kernel
theorem dX9_alike_45 : decode cX9_alike 45 = .ok (.iconst 1, 1) := by decide +kernel
theorem dX9_alike_46 : decode cX9_alike 46 = .ok (.ireturn, 1) := by decide +kernel
def rpX9_alike : List Nat := [0, 1, 3, 5, 6, 9, 10, 11, 14, 15, 18, 19, 22, 23, 24, 26, 27, 28, 29, 30, 32, 33, 34, 37, 38, 39, 42, 45, 46]
noncomputable def rcX9_alike : List rz_B := [rz_cst 0, rz_istore 4, rz_iload 4, rz_aload 0, rz_getf (Nat.add (Nat.mul 256 11) 1) 5 rz_r, rz_iload 1, rz_iald, rz_icmpge 27, rz_aload 0, rz_getf (Nat.add (Nat.mul 256 11) 1) 3 rz_r, rz_aload 0, rz_getf (Nat.add (Nat.mul 256 11) 1) 4 rz_r, rz_iload 1, rz_iald, rz_iload 4, rz_iadd, rz_cald, rz_aload 2, rz_iload 3, rz_iload 4, rz_iadd, rz_cald, rz_icmpeq 25, rz_cst 0, rz_zret, rz_iinc 4 1, rz_goto 2, rz_cst 1, rz_zret]
noncomputable def rgX9_alike : rz_L → rz_M → rz_Z → Bool := rz_go rcX9_alike 5 1000000
def rrX9_alike : Room := { frames := 0, cells := 0, slots := 0, locals := 0 }
theorem rmX9_alike (l : Launch) {G : rz_G} (hG : rz_Gd G) (vs : rz_L) (M : rz_M) (Z : rz_Z) (hn : vs.length = 4) (h : rgX9_alike vs M Z = true) : Met l yX9_alike (Cond.code yX9_alike cX9_alike 5 (some .boolean) :: rz_TB) rrX9_alike (rz_Pre G vs M) (rz_Qi G M.2 Z) 0 0 (fun q => rz_b G ≤ q) := by
  obtain ⟨D, tc, ad, b, xs, rfl⟩ := id hG
  refine rz_body (pcs := rpX9_alike) (by decide) rfl (by rw [hn]; decide) h ?_
  intro p e R s m args below meth c hC
  obtain ⟨hx, hb, hml, hr, hlk, ho, hts, hKn, hRm⟩ := id hC
  obtain ⟨hK, hA, hSt⟩ := id hKn
  have hw : ∀ {i j : Nat} {ws : List Cond} {w : Cond}, rz_WW[i]? = some ws → ws[j]? = some w → w.before args s = true := fun h1 h2 => hts _ (List.mem_cons_of_mem _ (rz_mem h1 h2))
  refine rz_All_c (i := 0) (fun k J hk hJ => rz_iconst_ok (pc := 0) hx hb dX9_alike_0 rfl hk) ?_
  refine rz_All_c (i := 1) (fun k J hk hJ => rz_istore_ok (pc := 1) hx hb dX9_alike_1 hk) ?_
  refine rz_All_c (i := 2) (fun k J hk hJ => rz_iload_ok (pc := 3) hx hb dX9_alike_3 hk) ?_
  refine rz_All_c (i := 3) (fun k J hk hJ => rz_aload_n_ok (pc := 5) hx hb dX9_alike_5 rfl hk) ?_
  refine rz_All_c (i := 4) (fun k J hk hJ => rz_getf_ok (pc := 6) (own := RX9) (ref := "ThreadJudge$Reader") (C := RX9) (T := TX9) (N := 19) (ci := 11) (index := 19) (f := 5) (t := 2) (Ts := Cond.code yX9_alike cX9_alike 5 (some .boolean) :: rz_TB) hx hb hts rz_in11 ho hK rfl (by decide) rfl (fun _ => rfl) (hw (i := 2) (j := 13) rfl rfl) (fun _ z => z) dX9_alike_6 hk) ?_
  refine rz_All_c (i := 5) (fun k J hk hJ => rz_iload_n_ok (pc := 9) hx hb dX9_alike_9 rfl hk) ?_
  refine rz_All_c (i := 6) (fun k J hk hJ => rz_iald_ok (pc := 10) hx hb hK dX9_alike_10 hk) ?_
  refine rz_All_c (i := 7) (fun k J hk hJ => rz_icmpge_ok (pc := 11) hx hb dX9_alike_11 rfl hk (hJ 27)) ?_
  refine rz_All_c (i := 8) (fun k J hk hJ => rz_aload_n_ok (pc := 14) hx hb dX9_alike_14 rfl hk) ?_
  refine rz_All_c (i := 9) (fun k J hk hJ => rz_getf_ok (pc := 15) (own := RX9) (ref := "ThreadJudge$Reader") (C := RX9) (T := TX9) (N := 19) (ci := 11) (index := 11) (f := 3) (t := 2) (Ts := Cond.code yX9_alike cX9_alike 5 (some .boolean) :: rz_TB) hx hb hts rz_in11 ho hK rfl (by decide) rfl (fun _ => rfl) (hw (i := 2) (j := 14) rfl rfl) (fun _ z => z) dX9_alike_15 hk) ?_
  refine rz_All_c (i := 10) (fun k J hk hJ => rz_aload_n_ok (pc := 18) hx hb dX9_alike_18 rfl hk) ?_
  refine rz_All_c (i := 11) (fun k J hk hJ => rz_getf_ok (pc := 19) (own := RX9) (ref := "ThreadJudge$Reader") (C := RX9) (T := TX9) (N := 19) (ci := 11) (index := 15) (f := 4) (t := 2) (Ts := Cond.code yX9_alike cX9_alike 5 (some .boolean) :: rz_TB) hx hb hts rz_in11 ho hK rfl (by decide) rfl (fun _ => rfl) (hw (i := 2) (j := 12) rfl rfl) (fun _ z => z) dX9_alike_19 hk) ?_
  refine rz_All_c (i := 12) (fun k J hk hJ => rz_iload_n_ok (pc := 22) hx hb dX9_alike_22 rfl hk) ?_
  refine rz_All_c (i := 13) (fun k J hk hJ => rz_iald_ok (pc := 23) hx hb hK dX9_alike_23 hk) ?_
  refine rz_All_c (i := 14) (fun k J hk hJ => rz_iload_ok (pc := 24) hx hb dX9_alike_24 hk) ?_
  refine rz_All_c (i := 15) (fun k J hk hJ => rz_iadd_ok (pc := 26) hx hb dX9_alike_26 hk) ?_
  refine rz_All_c (i := 16) (fun k J hk hJ => rz_cald_ok (pc := 27) hx hb hK dX9_alike_27 hk) ?_
  refine rz_All_c (i := 17) (fun k J hk hJ => rz_aload_n_ok (pc := 28) hx hb dX9_alike_28 rfl hk) ?_
  refine rz_All_c (i := 18) (fun k J hk hJ => rz_iload_n_ok (pc := 29) hx hb dX9_alike_29 rfl hk) ?_
  refine rz_All_c (i := 19) (fun k J hk hJ => rz_iload_ok (pc := 30) hx hb dX9_alike_30 hk) ?_
  refine rz_All_c (i := 20) (fun k J hk hJ => rz_iadd_ok (pc := 32) hx hb dX9_alike_32 hk) ?_
  refine rz_All_c (i := 21) (fun k J hk hJ => rz_cald_ok (pc := 33) hx hb hK dX9_alike_33 hk) ?_
  refine rz_All_c (i := 22) (fun k J hk hJ => rz_icmpeq_ok (pc := 34) hx hb dX9_alike_34 rfl hk (hJ 25)) ?_
  refine rz_All_c (i := 23) (fun k J hk hJ => rz_iconst_ok (pc := 37) hx hb dX9_alike_37 rfl hk) ?_
  refine rz_All_c (i := 24) (fun k J hk hJ => rz_zret_ok (pc := 38) hC dX9_alike_38) ?_
  refine rz_All_c (i := 25) (fun k J hk hJ => rz_iinc_ok (pc := 39) hx hb dX9_alike_39 (by decide) hk) ?_
  refine rz_All_c (i := 26) (fun k J hk hJ => rz_goto_ok (pc := 42) hx hb dX9_alike_42 rfl (hJ 2)) ?_
  refine rz_All_c (i := 27) (fun k J hk hJ => rz_iconst_ok (pc := 45) hx hb dX9_alike_45 rfl hk) ?_
  refine rz_All_c (i := 28) (fun k J hk hJ => rz_zret_ok (pc := 46) hC dX9_alike_46) ?_
  exact trivial
