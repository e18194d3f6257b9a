/-! Methods: handlers, facts, contracts. -/
theorem dX9_isInWord_0 : decode cX9_isInWord 0 = .ok (.iload_n 0, 1) := by decide +kernel
theorem dX9_isInWord_1 : decode cX9_isInWord 1 = .ok (.invokestatic 122, 3) := by decide +kernel
theorem dX9_isInWord_4 : decode cX9_isInWord 4 = .ok (.ifCond .eq 9, 3) := by decide +kernel
theorem dX9_isInWord_7 : decode cX9_isInWord 7 = .ok (.iload_n 0, 1) := by decide +kernel
theorem dX9_isInWord_8 : decode cX9_isInWord 8 = .ok (.bipush 60, 2) := by decide +kernel
theorem dX9_isInWord_10 : decode cX9_isInWord 10 = .ok (.if_icmp .ne 16, 3) := by decide +kernel
theorem dX9_isInWord_13 : decode cX9_isInWord 13 = .ok (.iload_n 0, 1) := by decide +kernel
theorem dX9_isInWord_14 : decode cX9_isInWord 14 = .ok (.invokestatic 126, 3) := by decide +kernel
theorem dX9_isInWord_17 : decode cX9_isInWord 17 = .ok (.ifCond .ne 9, 3) := by decide +kernel
theorem dX9_isInWord_20 : decode cX9_isInWord 20 = .ok (.iload_n 0, 1) := by decide +kernel
theorem dX9_isInWord_21 : decode cX9_isInWord 21 = .ok (.bipush 62, 2) := by decide +kernel
theorem dX9_isInWord_23 : decode cX9_isInWord 23 = .ok (.if_icmp .ne 7, 3) := by decide +kernel
theorem dX9_isInWord_26 : decode cX9_isInWord 26 = .ok (.iconst 1, 1) := by decide +kernel
theorem dX9_isInWord_27 : decode cX9_isInWord 27 = .ok (.goto 4, 3) := by decide +kernel
theorem dX9_isInWord_30 : decode cX9_isInWord 30 = .ok (.iconst 0, 1) := by decide +kernel
theorem dX9_isInWord_31 : decode cX9_isInWord 31 = .ok (.ireturn, 1) := by decide +kernel
def rpX9_isInWord : List Nat := [0, 1, 4, 7, 8, 10, 13, 14, 17, 20, 21, 23, 26, 27, 30, 31]
noncomputable def rcX9_isInWord : List rz_B := [rz_iload 0, rz_callS 1 rgX9_opensWord, rz_ifeq 6, rz_iload 0, rz_cst 60, rz_icmpne 12, rz_iload 0, rz_callS 1 rgX9_isDigit, rz_ifne 12, rz_iload 0, rz_cst 62, rz_icmpne 14, rz_cst 1, rz_goto 15, rz_cst 0, rz_zret]
noncomputable def rgX9_isInWord : rz_L → rz_M → rz_Z → Bool := rz_go rcX9_isInWord 1 1000000
def rrX9_isInWord : Room := { frames := 1, cells := 0, slots := 0, locals := 20 }
theorem rmX9_isInWord (l : Launch) {G : rz_G} (hG : rz_Gd G) (vs : rz_L) (M : rz_M) (Z : rz_Z) (hn : vs.length = 1) (h : rgX9_isInWord vs M Z = true) : Met l yX9_isInWord (Cond.code yX9_isInWord cX9_isInWord 1 (some .boolean) :: rz_TB) rrX9_isInWord (rz_Pre G vs M) (rz_Qi G M.2 Z) 0 0 (fun q => rz_b G ≤ q) := by
  obtain ⟨D, tc, ad, b, xs, rfl⟩ := id hG
  refine rz_body (pcs := rpX9_isInWord) (by decide) rfl (by rw [hn]; decide) h ?_
  intro p e R s m args below meth c hC
  obtain ⟨hx, hb, hml, hr, hlk, ho, hts, hKn, hRm⟩ := id hC
  obtain ⟨hK, hA, hSt⟩ := id hKn
  have hw : ∀ {i j : Nat} {ws : List Cond} {w : Cond}, rz_WW[i]? = some ws → ws[j]? = some w → w.before args s = true := fun h1 h2 => hts _ (List.mem_cons_of_mem _ (rz_mem h1 h2))
  refine rz_All_c (i := 0) (fun k J hk hJ => rz_iload_n_ok (pc := 0) hx hb dX9_isInWord_0 rfl hk) ?_
  refine rz_All_c (i := 1) (fun k J hk hJ => rz_callS_ok (pc := 1) (own := RX9) hC rfl (rmX9_opensWord l hG) (rz_cwS 1 hC rz_good (rz_mem (i := 4) (j := 9) rfl rfl) (rz_mem (i := 4) (j := 10) rfl rfl) (rz_mem (i := 1) (j := 21) rfl rfl) (rz_mem (i := 4) (j := 11) rfl rfl) ⟨rfl, by decide, by decide, by decide +kernel⟩ rfl rfl ⟨by decide, by decide⟩) dX9_isInWord_1 hk) ?_
  refine rz_All_c (i := 2) (fun k J hk hJ => rz_ifeq_ok (pc := 4) hx hb dX9_isInWord_4 rfl hk (hJ 6)) ?_
  refine rz_All_c (i := 3) (fun k J hk hJ => rz_iload_n_ok (pc := 7) hx hb dX9_isInWord_7 rfl hk) ?_
  refine rz_All_c (i := 4) (fun k J hk hJ => rz_bipush_ok (pc := 8) hx hb dX9_isInWord_8 (by decide) hk) ?_
  refine rz_All_c (i := 5) (fun k J hk hJ => rz_icmpne_ok (pc := 10) hx hb dX9_isInWord_10 rfl hk (hJ 12)) ?_
  refine rz_All_c (i := 6) (fun k J hk hJ => rz_iload_n_ok (pc := 13) hx hb dX9_isInWord_13 rfl hk) ?_
  refine rz_All_c (i := 7) (fun k J hk hJ => rz_callS_ok (pc := 14) (own := RX9) hC rfl (rmX9_isDigit l hG) (rz_cwS 1 hC rz_good (rz_mem (i := 4) (j := 15) rfl rfl) (rz_mem (i := 4) (j := 16) rfl rfl) (rz_mem (i := 1) (j := 21) rfl rfl) (rz_mem (i := 4) (j := 17) rfl rfl) ⟨rfl, by decide, by decide, by decide +kernel⟩ rfl rfl ⟨by decide, by decide⟩) dX9_isInWord_14 hk) ?_
  refine rz_All_c (i := 8) (fun k J hk hJ => rz_ifne_ok (pc := 17) hx hb dX9_isInWord_17 rfl hk (hJ 12)) ?_
  refine rz_All_c (i := 9) (fun k J hk hJ => rz_iload_n_ok (pc := 20) hx hb dX9_isInWord_20 rfl hk) ?_
  refine rz_All_c (i := 10) (fun k J hk hJ => rz_bipush_ok (pc := 21) hx hb dX9_isInWord_21 (by decide) hk) ?_
  refine rz_All_c (i := 11) (fun k J hk hJ => rz_icmpne_ok (pc := 23) hx hb dX9_isInWord_23 rfl hk (hJ 14)) ?_
  refine rz_All_c (i := 12) (fun k J hk hJ => rz_iconst_ok (pc := 26) hx hb dX9_isInWord_26 rfl hk) ?_
  refine rz_All_c (i := 13) (fun k J hk hJ => rz_goto_ok (pc := 27) hx hb dX9_isInWord_27 rfl (hJ 15)) ?_
  refine rz_All_c (i := 14) (fun k J hk hJ => rz_iconst_ok (pc := 30) hx hb dX9_isInWord_30 rfl hk) ?_
  refine rz_All_c (i := 15) (fun k J hk hJ => rz_zret_ok (pc := 31) hC dX9_isInWord_31) ?_
  exact trivial
theorem dX9_take_0 : decode cX9_take 0 = .ok (.aload_n 0, 1) := by decide +kernel
theorem dX9_take_1 : decode cX9_take 1 = .ok (.iload_n 1, 1) := by decide +kernel
theorem dX9_take_2 : decode cX9_take 2 = .ok (.iload_n 2, 1) := by decide +kernel
theorem dX9_take_3 : decode cX9_take 3 = .ok (.iload 4, 2) := by decide +kernel
theorem dX9_take_5 : decode cX9_take 5 = .ok (.invokevirtual 142, 3) := by decide +kernel
theorem dX9_take_8 : decode cX9_take 8 = .ok (.iload_n 3, 1) := by decide +kernel
theorem dX9_take_9 : decode cX9_take 9 = .ok (.ireturn, 1) := by decide +kernel
def rpX9_take : List Nat := [0, 1, 2, 3, 5, 8, 9]
noncomputable def rcX9_take : List rz_B := [rz_aload 0, rz_iload 1, rz_iload 2, rz_iload 4, rz_callVv 3 (Nat.add (Nat.mul 256 11) 1) rgX9_token, rz_iload 3, rz_iret]
noncomputable def rgX9_take : rz_L → rz_M → rz_Z → Bool := rz_go rcX9_take 5 1000000
def rrX9_take : Room := { frames := 1, cells := 0, slots := 0, locals := 23 }
theorem rmX9_take (l : Launch) {G : rz_G} (hG : rz_Gd G) (vs : rz_L) (M : rz_M) (Z : rz_Z) (hn : vs.length = 5) (h : rgX9_take vs M Z = true) : Met l yX9_take (Cond.code yX9_take cX9_take 5 (some .int) :: rz_TB) rrX9_take (rz_Pre G vs M) (rz_Qi G M.2 Z) 0 0 (fun q => rz_b G ≤ q) := by
  obtain ⟨D, tc, ad, b, xs, rfl⟩ := id hG
  refine rz_body (pcs := rpX9_take) (by decide) rfl (by rw [hn]; decide) h ?_
  intro p e R s m args below meth c hC
  obtain ⟨hx, hb, hml, hr, hlk, ho, hts, hKn, hRm⟩ := id hC
  obtain ⟨hK, hA, hSt⟩ := id hKn
  have hw : ∀ {i j : Nat} {ws : List Cond} {w : Cond}, rz_WW[i]? = some ws → ws[j]? = some w → w.before args s = true := fun h1 h2 => hts _ (List.mem_cons_of_mem _ (rz_mem h1 h2))
  refine rz_All_c (i := 0) (fun k J hk hJ => rz_aload_n_ok (pc := 0) hx hb dX9_take_0 rfl hk) ?_
  refine rz_All_c (i := 1) (fun k J hk hJ => rz_iload_n_ok (pc := 1) hx hb dX9_take_1 rfl hk) ?_
  refine rz_All_c (i := 2) (fun k J hk hJ => rz_iload_n_ok (pc := 2) hx hb dX9_take_2 rfl hk) ?_
  refine rz_All_c (i := 3) (fun k J hk hJ => rz_iload_ok (pc := 3) hx hb dX9_take_3 hk) ?_
  refine rz_All_c (i := 4) (fun k J hk hJ => rz_callVv_ok (pc := 5) (own := RX9) (C := RX9) (T0 := TX9) (N0 := 19) hC rfl (rmX9_token l hG) (rz_cwV 3 hC rz_good (rz_mem (i := 4) (j := 22) rfl rfl) (rz_mem (i := 4) (j := 23) rfl rfl) (rz_mem (i := 5) (j := 0) rfl rfl) (rz_mem (i := 1) (j := 21) rfl rfl) (rz_mem (i := 5) (j := 1) rfl rfl) ⟨rfl, by decide, by decide, by decide +kernel⟩ rfl rfl ⟨by decide, by decide⟩) rfl dX9_take_5 hk) ?_
  refine rz_All_c (i := 5) (fun k J hk hJ => rz_iload_n_ok (pc := 8) hx hb dX9_take_8 rfl hk) ?_
  refine rz_All_c (i := 6) (fun k J hk hJ => rz_iret_ok (pc := 9) hC dX9_take_9) ?_
  exact trivial
theorem dJ0_coder_7d493_0 : decode cJ0_coder_7d493 0 = .ok (.getstatic 38, 3) := by decide +kernel
theorem dJ0_coder_7d493_3 : decode cJ0_coder_7d493 3 = .ok (.ifCond .eq 10, 3) := by decide +kernel
theorem dJ0_coder_7d493_6 : decode cJ0_coder_7d493 6 = .ok (.aload_n 0, 1) := by decide +kernel
theorem dJ0_coder_7d493_7 : decode cJ0_coder_7d493 7 = .ok (.getfield 15, 3) := by decide +kernel
theorem dJ0_coder_7d493_10 : decode cJ0_coder_7d493 10 = .ok (.goto 4, 3) := by decide +kernel
theorem dJ0_coder_7d493_14 : decode cJ0_coder_7d493 14 = .ok (.ireturn, 1) := by decide +kernel
def rpJ0_coder_7d493 : List Nat := [0, 3, 6, 7, 10, 13, 14]
noncomputable def rcJ0_coder_7d493 : List rz_B := [rz_cst 1, rz_ifeq 5, rz_aload 0, rz_tcod, rz_goto 6, rz_no, rz_bret]
noncomputable def rgJ0_coder_7d493 : rz_L → rz_M → rz_Z → Bool := rz_go rcJ0_coder_7d493 1 1000000
def rrJ0_coder_7d493 : Room := { frames := 0, cells := 0, slots := 0, locals := 0 }
theorem rmJ0_coder_7d493 (l : Launch) {G : rz_G} (hG : rz_Gd G) (vs : rz_L) (M : rz_M) (Z : rz_Z) (hn : vs.length = 1) (h : rgJ0_coder_7d493 vs M Z = true) : Met l yJ0_coder_7d493 (Cond.code yJ0_coder_7d493 cJ0_coder_7d493 1 (some .byte) :: rz_TB) rrJ0_coder_7d493 (rz_Pre G vs M) (rz_Qi G M.2 Z) 0 0 (fun q => rz_b G ≤ q) := by
  obtain ⟨D, tc, ad, b, xs, rfl⟩ := id hG
  refine rz_body (pcs := rpJ0_coder_7d493) (by decide) rfl (by rw [hn]; decide) h ?_
  intro p e R s m args below meth c hC
  obtain ⟨hx, hb, hml, hr, hlk, ho, hts, hKn, hRm⟩ := id hC
  obtain ⟨hK, hA, hSt⟩ := id hKn
  have hw : ∀ {i j : Nat} {ws : List Cond} {w : Cond}, rz_WW[i]? = some ws → ws[j]? = some w → w.before args s = true := fun h1 h2 => hts _ (List.mem_cons_of_mem _ (rz_mem h1 h2))
  refine rz_All_c (i := 0) (fun k J hk hJ => rz_gets_ok (pc := 0) (own := RJ0) (ref := "java/lang/String") (index := 38) hx hb hSt.2.2.2.1 rfl ho (hw (i := 6) (j := 10) rfl rfl) (fun _ z => z) dJ0_coder_7d493_0 hk) ?_
  refine rz_All_c (i := 1) (fun k J hk hJ => rz_ifeq_ok (pc := 3) hx hb dJ0_coder_7d493_3 rfl hk (hJ 5)) ?_
  refine rz_All_c (i := 2) (fun k J hk hJ => rz_aload_n_ok (pc := 6) hx hb dJ0_coder_7d493_6 rfl hk) ?_
  refine rz_All_c (i := 3) (fun k J hk hJ => rz_tcod_ok (pc := 7) (own := RJ0) (ref := "java/lang/String") (index := 15) hx hb hSt ho (hw (i := 6) (j := 11) rfl rfl) (fun _ z => z) dJ0_coder_7d493_7 hk) ?_
  refine rz_All_c (i := 4) (fun k J hk hJ => rz_goto_ok (pc := 10) hx hb dJ0_coder_7d493_10 rfl (hJ 6)) ?_
  refine rz_All_c (i := 5) (fun k J hk hJ => rz_no_ok) ?_
  refine rz_All_c (i := 6) (fun k J hk hJ => rz_bret_ok (pc := 14) (rt := none) hC dJ0_coder_7d493_14) ?_
  exact trivial
theorem dJ0_length_8abf5_0 : decode cJ0_length_8abf5 0 = .ok (.aload_n 0, 1) := by decide +kernel
theorem dJ0_length_8abf5_1 : decode cJ0_length_8abf5 1 = .ok (.getfield 9, 3) := by decide +kernel
theorem dJ0_length_8abf5_4 : decode cJ0_length_8abf5 4 = .ok (.arraylength, 1) := by decide +kernel
theorem dJ0_length_8abf5_5 : decode cJ0_length_8abf5 5 = .ok (.aload_n 0, 1) := by decide +kernel
theorem dJ0_length_8abf5_6 : decode cJ0_length_8abf5 6 = .ok (.invokevirtual 335, 3) := by decide +kernel
theorem dJ0_length_8abf5_9 : decode cJ0_length_8abf5 9 = .ok (.ishr, 1) := by decide +kernel
theorem dJ0_length_8abf5_10 : decode cJ0_length_8abf5 10 = .ok (.ireturn, 1) := by decide +kernel
def rpJ0_length_8abf5 : List Nat := [0, 1, 4, 5, 6, 9, 10]
noncomputable def rcJ0_length_8abf5 : List rz_B := [rz_aload 0, rz_tval, rz_tlen, rz_aload 0, rz_callT 0 rgJ0_coder_7d493, rz_ishr, rz_iret]
noncomputable def rgJ0_length_8abf5 : rz_L → rz_M → rz_Z → Bool := rz_go rcJ0_length_8abf5 1 1000000
def rrJ0_length_8abf5 : Room := { frames := 1, cells := 0, slots := 0, locals := 20 }
theorem rmJ0_length_8abf5 (l : Launch) {G : rz_G} (hG : rz_Gd G) (vs : rz_L) (M : rz_M) (Z : rz_Z) (hn : vs.length = 1) (h : rgJ0_length_8abf5 vs M Z = true) : Met l yJ0_length_8abf5 (Cond.code yJ0_length_8abf5 cJ0_length_8abf5 1 (some .int) :: rz_TB) rrJ0_length_8abf5 (rz_Pre G vs M) (rz_Qi G M.2 Z) 0 0 (fun q => rz_b G ≤ q) := by
  obtain ⟨D, tc, ad, b, xs, rfl⟩ := id hG
  refine rz_body (pcs := rpJ0_length_8abf5) (by decide) rfl (by rw [hn]; decide) h ?_
  intro p e R s m args below meth c hC
  obtain ⟨hx, hb, hml, hr, hlk, ho, hts, hKn, hRm⟩ := id hC
  obtain ⟨hK, hA, hSt⟩ := id hKn
  have hw : ∀ {i j : Nat} {ws : List Cond} {w : Cond}, rz_WW[i]? = some ws → ws[j]? = some w → w.before args s = true := fun h1 h2 => hts _ (List.mem_cons_of_mem _ (rz_mem h1 h2))
  refine rz_All_c (i := 0) (fun k J hk hJ => rz_aload_n_ok (pc := 0) hx hb dJ0_length_8abf5_0 rfl hk) ?_
  refine rz_All_c (i := 1) (fun k J hk hJ => rz_tval_ok (pc := 1) (own := RJ0) (ref := "java/lang/String") (index := 9) hx hb hSt ho (hw (i := 6) (j := 5) rfl rfl) (fun _ z => z) dJ0_length_8abf5_1 hk) ?_
  refine rz_All_c (i := 2) (fun k J hk hJ => rz_tlen_ok (pc := 4) hx hb hSt dJ0_length_8abf5_4 hk) ?_
  refine rz_All_c (i := 3) (fun k J hk hJ => rz_aload_n_ok (pc := 5) hx hb dJ0_length_8abf5_5 rfl hk) ?_
  refine rz_All_c (i := 4) (fun k J hk hJ => rz_callT_ok (pc := 6) (own := RJ0) hC rfl (rmJ0_coder_7d493 l hG) (rz_cwV 0 hC rz_good (rz_mem (i := 6) (j := 16) rfl rfl) (rz_mem (i := 6) (j := 17) rfl rfl) (rz_mem (i := 6) (j := 18) rfl rfl) (rz_mem (i := 5) (j := 23) rfl rfl) (rz_mem (i := 6) (j := 19) rfl rfl) ⟨rfl, by decide, by decide, by decide +kernel⟩ rfl rfl ⟨by decide, by decide⟩) dJ0_length_8abf5_6 hk) ?_
  refine rz_All_c (i := 5) (fun k J hk hJ => rz_ishr_ok (pc := 9) hx hb dJ0_length_8abf5_9 hk) ?_
  refine rz_All_c (i := 6) (fun k J hk hJ => rz_iret_ok (pc := 10) hC dJ0_length_8abf5_10) ?_
  exact trivial
theorem dJ1_canEncode_9a6ad_0 : decode cJ1_canEncode_9a6ad 0 = .ok (.iload_n 0, 1) := by decide +kernel
theorem dJ1_canEncode_9a6ad_1 : decode cJ1_canEncode_9a6ad 1 = .ok (.ifCond .lt 14, 3) := by decide +kernel
theorem dJ1_canEncode_9a6ad_4 : decode cJ1_canEncode_9a6ad 4 = .ok (.iload_n 0, 1) := by decide +kernel
theorem dJ1_canEncode_9a6ad_5 : decode cJ1_canEncode_9a6ad 5 = .ok (.sipush 255, 3) := by decide +kernel
theorem dJ1_canEncode_9a6ad_8 : decode cJ1_canEncode_9a6ad 8 = .ok (.if_icmp .gt 7, 3) := by decide +kernel
theorem dJ1_canEncode_9a6ad_11 : decode cJ1_canEncode_9a6ad 11 = .ok (.iconst 1, 1) := by decide +kernel
theorem dJ1_canEncode_9a6ad_12 : decode cJ1_canEncode_9a6ad 12 = .ok (.goto 4, 3) := by decide +kernel
theorem dJ1_canEncode_9a6ad_16 : decode cJ1_canEncode_9a6ad 16 = .ok (.ireturn, 1) := by decide +kernel
def rpJ1_canEncode_9a6ad : List Nat := [0, 1, 4, 5, 8, 11, 12, 15, 16]
noncomputable def rcJ1_canEncode_9a6ad : List rz_B := [rz_iload 0, rz_iflt 7, rz_iload 0, rz_cst 255, rz_icmpgt 7, rz_cst 1, rz_goto 8, rz_no, rz_zret]
noncomputable def rgJ1_canEncode_9a6ad : rz_L → rz_M → rz_Z → Bool := rz_go rcJ1_canEncode_9a6ad 1 1000000
def rrJ1_canEncode_9a6ad : Room := { frames := 0, cells := 0, slots := 0, locals := 0 }
theorem rmJ1_canEncode_9a6ad (l : Launch) {G : rz_G} (hG : rz_Gd G) (vs : rz_L) (M : rz_M) (Z : rz_Z) (hn : vs.length = 1) (h : rgJ1_canEncode_9a6ad vs M Z = true) : Met l yJ1_canEncode_9a6ad (Cond.code yJ1_canEncode_9a6ad cJ1_canEncode_9a6ad 1 (some .boolean) :: rz_TB) rrJ1_canEncode_9a6ad (rz_Pre G vs M) (rz_Qi G M.2 Z) 0 0 (fun q => rz_b G ≤ q) := by
  obtain ⟨D, tc, ad, b, xs, rfl⟩ := id hG
  refine rz_body (pcs := rpJ1_canEncode_9a6ad) (by decide) rfl (by rw [hn]; decide) h ?_
  intro p e R s m args below meth c hC
  obtain ⟨hx, hb, hml, hr, hlk, ho, hts, hKn, hRm⟩ := id hC
  obtain ⟨hK, hA, hSt⟩ := id hKn
  have hw : ∀ {i j : Nat} {ws : List Cond} {w : Cond}, rz_WW[i]? = some ws → ws[j]? = some w → w.before args s = true := fun h1 h2 => hts _ (List.mem_cons_of_mem _ (rz_mem h1 h2))
  refine rz_All_c (i := 0) (fun k J hk hJ => rz_iload_n_ok (pc := 0) hx hb dJ1_canEncode_9a6ad_0 rfl hk) ?_
  refine rz_All_c (i := 1) (fun k J hk hJ => rz_iflt_ok (pc := 1) hx hb dJ1_canEncode_9a6ad_1 rfl hk (hJ 7)) ?_
  refine rz_All_c (i := 2) (fun k J hk hJ => rz_iload_n_ok (pc := 4) hx hb dJ1_canEncode_9a6ad_4 rfl hk) ?_
  refine rz_All_c (i := 3) (fun k J hk hJ => rz_sipush_ok (pc := 5) hx hb dJ1_canEncode_9a6ad_5 (by decide) hk) ?_
  refine rz_All_c (i := 4) (fun k J hk hJ => rz_icmpgt_ok (pc := 8) hx hb dJ1_canEncode_9a6ad_8 rfl hk (hJ 7)) ?_
  refine rz_All_c (i := 5) (fun k J hk hJ => rz_iconst_ok (pc := 11) hx hb dJ1_canEncode_9a6ad_11 rfl hk) ?_
  refine rz_All_c (i := 6) (fun k J hk hJ => rz_goto_ok (pc := 12) hx hb dJ1_canEncode_9a6ad_12 rfl (hJ 8)) ?_
  refine rz_All_c (i := 7) (fun k J hk hJ => rz_no_ok) ?_
  refine rz_All_c (i := 8) (fun k J hk hJ => rz_zret_ok (pc := 16) hC dJ1_canEncode_9a6ad_16) ?_
  exact trivial
theorem dJ1_indexOfChar_4cfef_0 : decode cJ1_indexOfChar_4cfef 0 = .ok (.iload_n 1, 1) := by decide +kernel
theorem dJ1_indexOfChar_4cfef_1 : decode cJ1_indexOfChar_4cfef 1 = .ok (.i2b, 1) := by decide +kernel
theorem dJ1_indexOfChar_4cfef_2 : decode cJ1_indexOfChar_4cfef 2 = .ok (.istore 4, 2) := by decide +kernel
theorem dJ1_indexOfChar_4cfef_4 : decode cJ1_indexOfChar_4cfef 4 = .ok (.iload_n 2, 1) := by decide +kernel
theorem dJ1_indexOfChar_4cfef_5 : decode cJ1_indexOfChar_4cfef 5 = .ok (.istore 5, 2) := by decide +kernel
theorem dJ1_indexOfChar_4cfef_7 : decode cJ1_indexOfChar_4cfef 7 = .ok (.iload 5, 2) := by decide +kernel
theorem dJ1_indexOfChar_4cfef_9 : decode cJ1_indexOfChar_4cfef 9 = .ok (.iload_n 3, 1) := by decide +kernel
theorem dJ1_indexOfChar_4cfef_10 : decode cJ1_indexOfChar_4cfef 10 = .ok (.if_icmp .ge 21, 3) := by decide +kernel
theorem dJ1_indexOfChar_4cfef_13 : decode cJ1_indexOfChar_4cfef 13 = .ok (.aload_n 0, 1) := by decide +kernel
theorem dJ1_indexOfChar_4cfef_14 : decode cJ1_indexOfChar_4cfef 14 = .ok (.iload 5, 2) := by decide +kernel
theorem dJ1_indexOfChar_4cfef_16 : decode cJ1_indexOfChar_4cfef 16 = .ok (.baload, 1) := by decide +kernel
theorem dJ1_indexOfChar_4cfef_17 : decode cJ1_indexOfChar_4cfef 17 = .ok (.iload 4, 2) := by decide +kernel
theorem dJ1_indexOfChar_4cfef_19 : decode cJ1_indexOfChar_4cfef 19 = .ok (.if_icmp .ne 6, 3) := by decide +kernel
theorem dJ1_indexOfChar_4cfef_22 : decode cJ1_indexOfChar_4cfef 22 = .ok (.iload 5, 2) := by decide +kernel
theorem dJ1_indexOfChar_4cfef_24 : decode cJ1_indexOfChar_4cfef 24 = .ok (.ireturn, 1) := by decide +kernel
theorem dJ1_indexOfChar_4cfef_25 : decode cJ1_indexOfChar_4cfef 25 = .ok (.iinc 5 1, 3) := by decide +kernel
theorem dJ1_indexOfChar_4cfef_28 : decode cJ1_indexOfChar_4cfef 28 = .ok (.goto (-21), 3) := by decide +kernel
def rpJ1_indexOfChar_4cfef : List Nat := [0, 1, 2, 4, 5, 7, 9, 10, 13, 14, 16, 17, 19, 22, 24, 25, 28, 31]
noncomputable def rcJ1_indexOfChar_4cfef : List rz_B := [rz_iload 1, rz_i2b, rz_istore 4, rz_iload 2, rz_istore 5, rz_iload 5, rz_iload 3, rz_icmpge 17, rz_aload 0, rz_iload 5, rz_tbld, rz_iload 4, rz_icmpne 15, rz_iload 5, rz_iret, rz_iinc 5 1, rz_goto 5, rz_no]
noncomputable def rgJ1_indexOfChar_4cfef : rz_L → rz_M → rz_Z → Bool := rz_go rcJ1_indexOfChar_4cfef 6 1000000
def rrJ1_indexOfChar_4cfef : Room := { frames := 0, cells := 0, slots := 0, locals := 0 }
theorem rmJ1_indexOfChar_4cfef (l : Launch) {G : rz_G} (hG : rz_Gd G) (vs : rz_L) (M : rz_M) (Z : rz_Z) (hn : vs.length = 4) (h : rgJ1_indexOfChar_4cfef vs M Z = true) : Met l yJ1_indexOfChar_4cfef (Cond.code yJ1_indexOfChar_4cfef cJ1_indexOfChar_4cfef 6 (some .int) :: rz_TB) rrJ1_indexOfChar_4cfef (rz_Pre G vs M) (rz_Qi G M.2 Z) 0 0 (fun q => rz_b G ≤ q) := by
  obtain ⟨D, tc, ad, b, xs, rfl⟩ := id hG
  refine rz_body (pcs := rpJ1_indexOfChar_4cfef) (by decide) rfl (by rw [hn]; decide) h ?_
  intro p e R s m args below meth c hC
  obtain ⟨hx, hb, hml, hr, hlk, ho, hts, hKn, hRm⟩ := id hC
  obtain ⟨hK, hA, hSt⟩ := id hKn
  have hw : ∀ {i j : Nat} {ws : List Cond} {w : Cond}, rz_WW[i]? = some ws → ws[j]? = some w → w.before args s = true := fun h1 h2 => hts _ (List.mem_cons_of_mem _ (rz_mem h1 h2))
  refine rz_All_c (i := 0) (fun k J hk hJ => rz_iload_n_ok (pc := 0) hx hb dJ1_indexOfChar_4cfef_0 rfl hk) ?_
  refine rz_All_c (i := 1) (fun k J hk hJ => rz_i2b_ok (pc := 1) hx hb dJ1_indexOfChar_4cfef_1 hk) ?_
  refine rz_All_c (i := 2) (fun k J hk hJ => rz_istore_ok (pc := 2) hx hb dJ1_indexOfChar_4cfef_2 hk) ?_
  refine rz_All_c (i := 3) (fun k J hk hJ => rz_iload_n_ok (pc := 4) hx hb dJ1_indexOfChar_4cfef_4 rfl hk) ?_
  refine rz_All_c (i := 4) (fun k J hk hJ => rz_istore_ok (pc := 5) hx hb dJ1_indexOfChar_4cfef_5 hk) ?_
  refine rz_All_c (i := 5) (fun k J hk hJ => rz_iload_ok (pc := 7) hx hb dJ1_indexOfChar_4cfef_7 hk) ?_
  refine rz_All_c (i := 6) (fun k J hk hJ => rz_iload_n_ok (pc := 9) hx hb dJ1_indexOfChar_4cfef_9 rfl hk) ?_
  refine rz_All_c (i := 7) (fun k J hk hJ => rz_icmpge_ok (pc := 10) hx hb dJ1_indexOfChar_4cfef_10 rfl hk (hJ 17)) ?_
  refine rz_All_c (i := 8) (fun k J hk hJ => rz_aload_n_ok (pc := 13) hx hb dJ1_indexOfChar_4cfef_13 rfl hk) ?_
  refine rz_All_c (i := 9) (fun k J hk hJ => rz_iload_ok (pc := 14) hx hb dJ1_indexOfChar_4cfef_14 hk) ?_
  refine rz_All_c (i := 10) (fun k J hk hJ => rz_tbld_ok (pc := 16) hx hb hSt dJ1_indexOfChar_4cfef_16 hk) ?_
  refine rz_All_c (i := 11) (fun k J hk hJ => rz_iload_ok (pc := 17) hx hb dJ1_indexOfChar_4cfef_17 hk) ?_
  refine rz_All_c (i := 12) (fun k J hk hJ => rz_icmpne_ok (pc := 19) hx hb dJ1_indexOfChar_4cfef_19 rfl hk (hJ 15)) ?_
  refine rz_All_c (i := 13) (fun k J hk hJ => rz_iload_ok (pc := 22) hx hb dJ1_indexOfChar_4cfef_22 hk) ?_
  refine rz_All_c (i := 14) (fun k J hk hJ => rz_iret_ok (pc := 24) hC dJ1_indexOfChar_4cfef_24) ?_
  refine rz_All_c (i := 15) (fun k J hk hJ => rz_iinc_ok (pc := 25) hx hb dJ1_indexOfChar_4cfef_25 (by decide) hk) ?_
  refine rz_All_c (i := 16) (fun k J hk hJ => rz_goto_ok (pc := 28) hx hb dJ1_indexOfChar_4cfef_28 rfl (hJ 5)) ?_
  refine rz_All_c (i := 17) (fun k J hk hJ => rz_no_ok) ?_
  exact trivial
theorem dJ1_indexOf_4cfef_0 : decode cJ1_indexOf_4cfef 0 = .ok (.iload_n 1, 1) := by decide +kernel
theorem dJ1_indexOf_4cfef_1 : decode cJ1_indexOf_4cfef 1 = .ok (.invokestatic 88, 3) := by decide +kernel
theorem dJ1_indexOf_4cfef_4 : decode cJ1_indexOf_4cfef 4 = .ok (.ifCond .ne 5, 3) := by decide +kernel
theorem dJ1_indexOf_4cfef_9 : decode cJ1_indexOf_4cfef 9 = .ok (.iload_n 2, 1) := by decide +kernel
theorem dJ1_indexOf_4cfef_10 : decode cJ1_indexOf_4cfef 10 = .ok (.iconst 0, 1) := by decide +kernel
theorem dJ1_indexOf_4cfef_11 : decode cJ1_indexOf_4cfef 11 = .ok (.invokestatic 92, 3) := by decide +kernel
theorem dJ1_indexOf_4cfef_14 : decode cJ1_indexOf_4cfef 14 = .ok (.istore_n 2, 1) := by decide +kernel
theorem dJ1_indexOf_4cfef_15 : decode cJ1_indexOf_4cfef 15 = .ok (.iload_n 3, 1) := by decide +kernel
theorem dJ1_indexOf_4cfef_16 : decode cJ1_indexOf_4cfef 16 = .ok (.aload_n 0, 1) := by decide +kernel
theorem dJ1_indexOf_4cfef_17 : decode cJ1_indexOf_4cfef 17 = .ok (.arraylength, 1) := by decide +kernel
theorem dJ1_indexOf_4cfef_18 : decode cJ1_indexOf_4cfef 18 = .ok (.invokestatic 38, 3) := by decide +kernel
theorem dJ1_indexOf_4cfef_21 : decode cJ1_indexOf_4cfef 21 = .ok (.istore_n 3, 1) := by decide +kernel
theorem dJ1_indexOf_4cfef_22 : decode cJ1_indexOf_4cfef 22 = .ok (.iload_n 2, 1) := by decide +kernel
theorem dJ1_indexOf_4cfef_23 : decode cJ1_indexOf_4cfef 23 = .ok (.iload_n 3, 1) := by decide +kernel
theorem dJ1_indexOf_4cfef_24 : decode cJ1_indexOf_4cfef 24 = .ok (.if_icmp .lt 5, 3) := by decide +kernel
theorem dJ1_indexOf_4cfef_29 : decode cJ1_indexOf_4cfef 29 = .ok (.aload_n 0, 1) := by decide +kernel
theorem dJ1_indexOf_4cfef_30 : decode cJ1_indexOf_4cfef 30 = .ok (.iload_n 1, 1) := by decide +kernel
theorem dJ1_indexOf_4cfef_31 : decode cJ1_indexOf_4cfef 31 = .ok (.iload_n 2, 1) := by decide +kernel
theorem dJ1_indexOf_4cfef_32 : decode cJ1_indexOf_4cfef 32 = .ok (.iload_n 3, 1) := by decide +kernel
theorem dJ1_indexOf_4cfef_33 : decode cJ1_indexOf_4cfef 33 = .ok (.invokestatic 95, 3) := by decide +kernel
theorem dJ1_indexOf_4cfef_36 : decode cJ1_indexOf_4cfef 36 = .ok (.ireturn, 1) := by decide +kernel
def rpJ1_indexOf_4cfef : List Nat := [0, 1, 4, 7, 9, 10, 11, 14, 15, 16, 17, 18, 21, 22, 23, 24, 27, 29, 30, 31, 32, 33, 36]
noncomputable def rcJ1_indexOf_4cfef : List rz_B := [rz_iload 1, rz_callS 1 rgJ1_canEncode_9a6ad, rz_ifne 4, rz_no, rz_iload 2, rz_cst 0, rz_imax, rz_istore 2, rz_iload 3, rz_aload 0, rz_tlen, rz_imin, rz_istore 3, rz_iload 2, rz_iload 3, rz_icmplt 17, rz_no, rz_aload 0, rz_iload 1, rz_iload 2, rz_iload 3, rz_callS 4 rgJ1_indexOfChar_4cfef, rz_iret]
noncomputable def rgJ1_indexOf_4cfef : rz_L → rz_M → rz_Z → Bool := rz_go rcJ1_indexOf_4cfef 4 1000000
def rrJ1_indexOf_4cfef : Room := { frames := 1, cells := 0, slots := 0, locals := 60 }
theorem rmJ1_indexOf_4cfef (l : Launch) {G : rz_G} (hG : rz_Gd G) (vs : rz_L) (M : rz_M) (Z : rz_Z) (hn : vs.length = 4) (h : rgJ1_indexOf_4cfef vs M Z = true) : Met l yJ1_indexOf_4cfef (Cond.code yJ1_indexOf_4cfef cJ1_indexOf_4cfef 4 (some .int) :: rz_TB) rrJ1_indexOf_4cfef (rz_Pre G vs M) (rz_Qi G M.2 Z) 0 0 (fun q => rz_b G ≤ q) := by
  obtain ⟨D, tc, ad, b, xs, rfl⟩ := id hG
  refine rz_body (pcs := rpJ1_indexOf_4cfef) (by decide) rfl (by rw [hn]; decide) h ?_
  intro p e R s m args below meth c hC
  obtain ⟨hx, hb, hml, hr, hlk, ho, hts, hKn, hRm⟩ := id hC
  obtain ⟨hK, hA, hSt⟩ := id hKn
  have hw : ∀ {i j : Nat} {ws : List Cond} {w : Cond}, rz_WW[i]? = some ws → ws[j]? = some w → w.before args s = true := fun h1 h2 => hts _ (List.mem_cons_of_mem _ (rz_mem h1 h2))
  refine rz_All_c (i := 0) (fun k J hk hJ => rz_iload_n_ok (pc := 0) hx hb dJ1_indexOf_4cfef_0 rfl hk) ?_
  refine rz_All_c (i := 1) (fun k J hk hJ => rz_callS_ok (pc := 1) (own := RJ1) hC rfl (rmJ1_canEncode_9a6ad l hG) (rz_cwS 1 hC rz_good (rz_mem (i := 7) (j := 6) rfl rfl) (rz_mem (i := 7) (j := 7) rfl rfl) (rz_mem (i := 6) (j := 22) rfl rfl) (rz_mem (i := 7) (j := 8) rfl rfl) ⟨rfl, by decide, by decide, by decide +kernel⟩ rfl rfl ⟨by decide, by decide⟩) dJ1_indexOf_4cfef_1 hk) ?_
  refine rz_All_c (i := 2) (fun k J hk hJ => rz_ifne_ok (pc := 4) hx hb dJ1_indexOf_4cfef_4 rfl hk (hJ 4)) ?_
  refine rz_All_c (i := 3) (fun k J hk hJ => rz_no_ok) ?_
  refine rz_All_c (i := 4) (fun k J hk hJ => rz_iload_n_ok (pc := 9) hx hb dJ1_indexOf_4cfef_9 rfl hk) ?_
  refine rz_All_c (i := 5) (fun k J hk hJ => rz_iconst_ok (pc := 10) hx hb dJ1_indexOf_4cfef_10 rfl hk) ?_
  refine rz_All_c (i := 6) (fun k J hk hJ => rz_imax_ok (pc := 11) (own := RJ1) hx hb hml ho (hw (i := 7) (j := 0) rfl rfl) (hw (i := 7) (j := 1) rfl rfl) (hw (i := 5) (j := 16) rfl rfl) (hw (i := 7) (j := 2) rfl rfl) (by rw [hRm]; decide) (by rw [hRm]; decide) dJ1_indexOf_4cfef_11 hk) ?_
  refine rz_All_c (i := 7) (fun k J hk hJ => rz_istore_n_ok (pc := 14) hx hb dJ1_indexOf_4cfef_14 rfl hk) ?_
  refine rz_All_c (i := 8) (fun k J hk hJ => rz_iload_n_ok (pc := 15) hx hb dJ1_indexOf_4cfef_15 rfl hk) ?_
  refine rz_All_c (i := 9) (fun k J hk hJ => rz_aload_n_ok (pc := 16) hx hb dJ1_indexOf_4cfef_16 rfl hk) ?_
  refine rz_All_c (i := 10) (fun k J hk hJ => rz_tlen_ok (pc := 17) hx hb hSt dJ1_indexOf_4cfef_17 hk) ?_
  refine rz_All_c (i := 11) (fun k J hk hJ => rz_imin_ok (pc := 18) (own := RJ1) hx hb hml ho (hw (i := 7) (j := 3) rfl rfl) (hw (i := 7) (j := 4) rfl rfl) (hw (i := 5) (j := 16) rfl rfl) (hw (i := 7) (j := 5) rfl rfl) (by rw [hRm]; decide) (by rw [hRm]; decide) dJ1_indexOf_4cfef_18 hk) ?_
  refine rz_All_c (i := 12) (fun k J hk hJ => rz_istore_n_ok (pc := 21) hx hb dJ1_indexOf_4cfef_21 rfl hk) ?_
  refine rz_All_c (i := 13) (fun k J hk hJ => rz_iload_n_ok (pc := 22) hx hb dJ1_indexOf_4cfef_22 rfl hk) ?_
  refine rz_All_c (i := 14) (fun k J hk hJ => rz_iload_n_ok (pc := 23) hx hb dJ1_indexOf_4cfef_23 rfl hk) ?_
  refine rz_All_c (i := 15) (fun k J hk hJ => rz_icmplt_ok (pc := 24) hx hb dJ1_indexOf_4cfef_24 rfl hk (hJ 17)) ?_
  refine rz_All_c (i := 16) (fun k J hk hJ => rz_no_ok) ?_
  refine rz_All_c (i := 17) (fun k J hk hJ => rz_aload_n_ok (pc := 29) hx hb dJ1_indexOf_4cfef_29 rfl hk) ?_
  refine rz_All_c (i := 18) (fun k J hk hJ => rz_iload_n_ok (pc := 30) hx hb dJ1_indexOf_4cfef_30 rfl hk) ?_
  refine rz_All_c (i := 19) (fun k J hk hJ => rz_iload_n_ok (pc := 31) hx hb dJ1_indexOf_4cfef_31 rfl hk) ?_
  refine rz_All_c (i := 20) (fun k J hk hJ => rz_iload_n_ok (pc := 32) hx hb dJ1_indexOf_4cfef_32 rfl hk) ?_
  refine rz_All_c (i := 21) (fun k J hk hJ => rz_callS_ok (pc := 33) (own := RJ1) hC rfl (rmJ1_indexOfChar_4cfef l hG) (rz_cwS 4 hC rz_good (rz_mem (i := 7) (j := 9) rfl rfl) (rz_mem (i := 7) (j := 10) rfl rfl) (rz_mem (i := 6) (j := 22) rfl rfl) (rz_mem (i := 7) (j := 11) rfl rfl) ⟨rfl, by decide, by decide, by decide +kernel⟩ rfl rfl ⟨by decide, by decide⟩) dJ1_indexOf_4cfef_33 hk) ?_
  refine rz_All_c (i := 22) (fun k J hk hJ => rz_iret_ok (pc := 36) hC dJ1_indexOf_4cfef_36) ?_
  exact trivial
theorem dJ0_indexOf_7cf53_0 : decode cJ0_indexOf_7cf53 0 = .ok (.aload_n 0, 1) := by decide +kernel
theorem dJ0_indexOf_7cf53_1 : decode cJ0_indexOf_7cf53 1 = .ok (.invokevirtual 492, 3) := by decide +kernel
theorem dJ0_indexOf_7cf53_4 : decode cJ0_indexOf_7cf53 4 = .ok (.ifCond .eq 19, 3) := by decide +kernel
theorem dJ0_indexOf_7cf53_7 : decode cJ0_indexOf_7cf53 7 = .ok (.aload_n 0, 1) := by decide +kernel
theorem dJ0_indexOf_7cf53_8 : decode cJ0_indexOf_7cf53 8 = .ok (.getfield 9, 3) := by decide +kernel
theorem dJ0_indexOf_7cf53_11 : decode cJ0_indexOf_7cf53 11 = .ok (.iload_n 1, 1) := by decide +kernel
theorem dJ0_indexOf_7cf53_12 : decode cJ0_indexOf_7cf53 12 = .ok (.iload_n 2, 1) := by decide +kernel
theorem dJ0_indexOf_7cf53_13 : decode cJ0_indexOf_7cf53 13 = .ok (.aload_n 0, 1) := by decide +kernel
theorem dJ0_indexOf_7cf53_14 : decode cJ0_indexOf_7cf53 14 = .ok (.invokevirtual 505, 3) := by decide +kernel
theorem dJ0_indexOf_7cf53_17 : decode cJ0_indexOf_7cf53 17 = .ok (.invokestatic 637, 3) := by decide +kernel
theorem dJ0_indexOf_7cf53_20 : decode cJ0_indexOf_7cf53 20 = .ok (.goto 16, 3) := by decide +kernel
theorem dJ0_indexOf_7cf53_36 : decode cJ0_indexOf_7cf53 36 = .ok (.ireturn, 1) := by decide +kernel
def rpJ0_indexOf_7cf53 : List Nat := [0, 1, 4, 7, 8, 11, 12, 13, 14, 17, 20, 23, 36]
noncomputable def rcJ0_indexOf_7cf53 : List rz_B := [rz_aload 0, rz_callT 0 rgJ0_isLatin1_aae02, rz_ifeq 11, rz_aload 0, rz_tval, rz_iload 1, rz_iload 2, rz_aload 0, rz_callT 0 rgJ0_length_8abf5, rz_callS 4 rgJ1_indexOf_4cfef, rz_goto 12, rz_no, rz_iret]
noncomputable def rgJ0_indexOf_7cf53 : rz_L → rz_M → rz_Z → Bool := rz_go rcJ0_indexOf_7cf53 3 1000000
def rrJ0_indexOf_7cf53 : Room := { frames := 2, cells := 0, slots := 0, locals := 83 }
theorem rmJ0_indexOf_7cf53 (l : Launch) {G : rz_G} (hG : rz_Gd G) (vs : rz_L) (M : rz_M) (Z : rz_Z) (hn : vs.length = 3) (h : rgJ0_indexOf_7cf53 vs M Z = true) : Met l yJ0_indexOf_7cf53 (Cond.code yJ0_indexOf_7cf53 cJ0_indexOf_7cf53 3 (some .int) :: rz_TB) rrJ0_indexOf_7cf53 (rz_Pre G vs M) (rz_Qi G M.2 Z) 0 0 (fun q => rz_b G ≤ q) := by
  obtain ⟨D, tc, ad, b, xs, rfl⟩ := id hG
  refine rz_body (pcs := rpJ0_indexOf_7cf53) (by decide) rfl (by rw [hn]; decide) h ?_
  intro p e R s m args below meth c hC
  obtain ⟨hx, hb, hml, hr, hlk, ho, hts, hKn, hRm⟩ := id hC
  obtain ⟨hK, hA, hSt⟩ := id hKn
  have hw : ∀ {i j : Nat} {ws : List Cond} {w : Cond}, rz_WW[i]? = some ws → ws[j]? = some w → w.before args s = true := fun h1 h2 => hts _ (List.mem_cons_of_mem _ (rz_mem h1 h2))
  refine rz_All_c (i := 0) (fun k J hk hJ => rz_aload_n_ok (pc := 0) hx hb dJ0_indexOf_7cf53_0 rfl hk) ?_
  refine rz_All_c (i := 1) (fun k J hk hJ => rz_callT_ok (pc := 1) (own := RJ0) hC rfl (rmJ0_isLatin1_aae02 l hG) (rz_cwV 0 hC rz_good (rz_mem (i := 6) (j := 6) rfl rfl) (rz_mem (i := 6) (j := 7) rfl rfl) (rz_mem (i := 6) (j := 8) rfl rfl) (rz_mem (i := 5) (j := 23) rfl rfl) (rz_mem (i := 6) (j := 9) rfl rfl) ⟨rfl, by decide, by decide, by decide +kernel⟩ rfl rfl ⟨by decide, by decide⟩) dJ0_indexOf_7cf53_1 hk) ?_
  refine rz_All_c (i := 2) (fun k J hk hJ => rz_ifeq_ok (pc := 4) hx hb dJ0_indexOf_7cf53_4 rfl hk (hJ 11)) ?_
  refine rz_All_c (i := 3) (fun k J hk hJ => rz_aload_n_ok (pc := 7) hx hb dJ0_indexOf_7cf53_7 rfl hk) ?_
  refine rz_All_c (i := 4) (fun k J hk hJ => rz_tval_ok (pc := 8) (own := RJ0) (ref := "java/lang/String") (index := 9) hx hb hSt ho (hw (i := 6) (j := 5) rfl rfl) (fun _ z => z) dJ0_indexOf_7cf53_8 hk) ?_
  refine rz_All_c (i := 5) (fun k J hk hJ => rz_iload_n_ok (pc := 11) hx hb dJ0_indexOf_7cf53_11 rfl hk) ?_
  refine rz_All_c (i := 6) (fun k J hk hJ => rz_iload_n_ok (pc := 12) hx hb dJ0_indexOf_7cf53_12 rfl hk) ?_
  refine rz_All_c (i := 7) (fun k J hk hJ => rz_aload_n_ok (pc := 13) hx hb dJ0_indexOf_7cf53_13 rfl hk) ?_
  refine rz_All_c (i := 8) (fun k J hk hJ => rz_callT_ok (pc := 14) (own := RJ0) hC rfl (rmJ0_length_8abf5 l hG) (rz_cwV 0 hC rz_good (rz_mem (i := 6) (j := 12) rfl rfl) (rz_mem (i := 6) (j := 13) rfl rfl) (rz_mem (i := 6) (j := 14) rfl rfl) (rz_mem (i := 5) (j := 23) rfl rfl) (rz_mem (i := 6) (j := 15) rfl rfl) ⟨rfl, by decide, by decide, by decide +kernel⟩ rfl rfl ⟨by decide, by decide⟩) dJ0_indexOf_7cf53_14 hk) ?_
  refine rz_All_c (i := 9) (fun k J hk hJ => rz_callS_ok (pc := 17) (own := RJ0) hC rfl (rmJ1_indexOf_4cfef l hG) (rz_cwX 4 hC rz_good (rz_mem (i := 6) (j := 20) rfl rfl) (rz_mem (i := 6) (j := 21) rfl rfl) (rz_mem (i := 6) (j := 22) rfl rfl) (rz_mem (i := 6) (j := 23) rfl rfl) ⟨by decide, by decide, by decide +kernel⟩ rfl rfl ⟨by decide, by decide⟩) dJ0_indexOf_7cf53_17 hk) ?_
  refine rz_All_c (i := 10) (fun k J hk hJ => rz_goto_ok (pc := 20) hx hb dJ0_indexOf_7cf53_20 rfl (hJ 12)) ?_
  refine rz_All_c (i := 11) (fun k J hk hJ => rz_no_ok) ?_
  refine rz_All_c (i := 12) (fun k J hk hJ => rz_iret_ok (pc := 36) hC dJ0_indexOf_7cf53_36) ?_
  exact trivial
theorem dJ0_indexOf_0f7a4_0 : decode cJ0_indexOf_0f7a4 0 = .ok (.aload_n 0, 1) := by decide +kernel
theorem dJ0_indexOf_0f7a4_1 : decode cJ0_indexOf_0f7a4 1 = .ok (.iload_n 1, 1) := by decide +kernel
theorem dJ0_indexOf_0f7a4_2 : decode cJ0_indexOf_0f7a4 2 = .ok (.iconst 0, 1) := by decide +kernel
theorem dJ0_indexOf_0f7a4_3 : decode cJ0_indexOf_0f7a4 3 = .ok (.invokevirtual 633, 3) := by decide +kernel
theorem dJ0_indexOf_0f7a4_6 : decode cJ0_indexOf_0f7a4 6 = .ok (.ireturn, 1) := by decide +kernel
def rpJ0_indexOf_0f7a4 : List Nat := [0, 1, 2, 3, 6]
noncomputable def rcJ0_indexOf_0f7a4 : List rz_B := [rz_aload 0, rz_iload 1, rz_cst 0, rz_callT 2 rgJ0_indexOf_7cf53, rz_iret]
noncomputable def rgJ0_indexOf_0f7a4 : rz_L → rz_M → rz_Z → Bool := rz_go rcJ0_indexOf_0f7a4 2 1000000
def rrJ0_indexOf_0f7a4 : Room := { frames := 3, cells := 0, slots := 0, locals := 105 }
theorem rmJ0_indexOf_0f7a4 (l : Launch) {G : rz_G} (hG : rz_Gd G) (vs : rz_L) (M : rz_M) (Z : rz_Z) (hn : vs.length = 2) (h : rgJ0_indexOf_0f7a4 vs M Z = true) : Met l yJ0_indexOf_0f7a4 (Cond.code yJ0_indexOf_0f7a4 cJ0_indexOf_0f7a4 2 (some .int) :: rz_TB) rrJ0_indexOf_0f7a4 (rz_Pre G vs M) (rz_Qi G M.2 Z) 0 0 (fun q => rz_b G ≤ q) := by
  obtain ⟨D, tc, ad, b, xs, rfl⟩ := id hG
  refine rz_body (pcs := rpJ0_indexOf_0f7a4) (by decide) rfl (by rw [hn]; decide) h ?_
  intro p e R s m args below meth c hC
  obtain ⟨hx, hb, hml, hr, hlk, ho, hts, hKn, hRm⟩ := id hC
  obtain ⟨hK, hA, hSt⟩ := id hKn
  have hw : ∀ {i j : Nat} {ws : List Cond} {w : Cond}, rz_WW[i]? = some ws → ws[j]? = some w → w.before args s = true := fun h1 h2 => hts _ (List.mem_cons_of_mem _ (rz_mem h1 h2))
  refine rz_All_c (i := 0) (fun k J hk hJ => rz_aload_n_ok (pc := 0) hx hb dJ0_indexOf_0f7a4_0 rfl hk) ?_
  refine rz_All_c (i := 1) (fun k J hk hJ => rz_iload_n_ok (pc := 1) hx hb dJ0_indexOf_0f7a4_1 rfl hk) ?_
  refine rz_All_c (i := 2) (fun k J hk hJ => rz_iconst_ok (pc := 2) hx hb dJ0_indexOf_0f7a4_2 rfl hk) ?_
  refine rz_All_c (i := 3) (fun k J hk hJ => rz_callT_ok (pc := 3) (own := RJ0) hC rfl (rmJ0_indexOf_7cf53 l hG) (rz_cwV 2 hC rz_good (rz_mem (i := 6) (j := 1) rfl rfl) (rz_mem (i := 6) (j := 2) rfl rfl) (rz_mem (i := 6) (j := 3) rfl rfl) (rz_mem (i := 5) (j := 23) rfl rfl) (rz_mem (i := 6) (j := 4) rfl rfl) ⟨rfl, by decide, by decide, by decide +kernel⟩ rfl rfl ⟨by decide, by decide⟩) dJ0_indexOf_0f7a4_3 hk) ?_
  refine rz_All_c (i := 4) (fun k J hk hJ => rz_iret_ok (pc := 6) hC dJ0_indexOf_0f7a4_6) ?_
  exact trivial
theorem dX9_cutOne_0 : decode cX9_cutOne 0 = .ok (.aload_n 0, 1) := by decide +kernel
theorem dX9_cutOne_1 : decode cX9_cutOne 1 = .ok (.getfield 83, 3) := by decide +kernel
theorem dX9_cutOne_4 : decode cX9_cutOne 4 = .ok (.iload_n 1, 1) := by decide +kernel
theorem dX9_cutOne_5 : decode cX9_cutOne 5 = .ok (.caload, 1) := by decide +kernel
theorem dX9_cutOne_6 : decode cX9_cutOne 6 = .ok (.istore_n 2, 1) := by decide +kernel
theorem dX9_cutOne_7 : decode cX9_cutOne 7 = .ok (.iload_n 2, 1) := by decide +kernel
theorem dX9_cutOne_8 : decode cX9_cutOne 8 = .ok (.invokestatic 122, 3) := by decide +kernel
theorem dX9_cutOne_11 : decode cX9_cutOne 11 = .ok (.ifCond .eq 67, 3) := by decide +kernel
theorem dX9_cutOne_14 : decode cX9_cutOne 14 = .ok (.iload_n 1, 1) := by decide +kernel
theorem dX9_cutOne_15 : decode cX9_cutOne 15 = .ok (.iconst 1, 1) := by decide +kernel
theorem dX9_cutOne_16 : decode cX9_cutOne 16 = .ok (.iadd, 1) := by decide +kernel
theorem dX9_cutOne_17 : decode cX9_cutOne 17 = .ok (.istore_n 3, 1) := by decide +kernel
theorem dX9_cutOne_18 : decode cX9_cutOne 18 = .ok (.iload_n 3, 1) := by decide +kernel
theorem dX9_cutOne_19 : decode cX9_cutOne 19 = .ok (.aload_n 0, 1) := by decide +kernel
theorem dX9_cutOne_20 : decode cX9_cutOne 20 = .ok (.getfield 132, 3) := by decide +kernel
theorem dX9_cutOne_23 : decode cX9_cutOne 23 = .ok (.if_icmp .ge 21, 3) := by decide +kernel
theorem dX9_cutOne_26 : decode cX9_cutOne 26 = .ok (.aload_n 0, 1) := by decide +kernel
theorem dX9_cutOne_27 : decode cX9_cutOne 27 = .ok (.getfield 83, 3) := by decide +kernel
theorem dX9_cutOne_30 : decode cX9_cutOne 30 = .ok (.iload_n 3, 1) := by decide +kernel
theorem dX9_cutOne_31 : decode cX9_cutOne 31 = .ok (.caload, 1) := by decide +kernel
theorem dX9_cutOne_32 : decode cX9_cutOne 32 = .ok (.invokestatic 149, 3) := by decide +kernel
theorem dX9_cutOne_35 : decode cX9_cutOne 35 = .ok (.ifCond .eq 9, 3) := by decide +kernel
theorem dX9_cutOne_38 : decode cX9_cutOne 38 = .ok (.iinc 3 1, 3) := by decide +kernel
theorem dX9_cutOne_41 : decode cX9_cutOne 41 = .ok (.goto (-23), 3) := by decide +kernel
theorem dX9_cutOne_44 : decode cX9_cutOne 44 = .ok (.iload_n 3, 1) := by decide +kernel
theorem dX9_cutOne_45 : decode cX9_cutOne 45 = .ok (.iload_n 1, 1) := by decide +kernel
theorem dX9_cutOne_46 : decode cX9_cutOne 46 = .ok (.isub, 1) := by decide +kernel
theorem dX9_cutOne_47 : decode cX9_cutOne 47 = .ok (.bipush 24, 2) := by decide +kernel
theorem dX9_cutOne_49 : decode cX9_cutOne 49 = .ok (.if_icmp .le 11, 3) := by decide +kernel
theorem dX9_cutOne_60 : decode cX9_cutOne 60 = .ok (.aload_n 0, 1) := by decide +kernel
theorem dX9_cutOne_61 : decode cX9_cutOne 61 = .ok (.iconst 1, 1) := by decide +kernel
theorem dX9_cutOne_62 : decode cX9_cutOne 62 = .ok (.iload_n 1, 1) := by decide +kernel
theorem dX9_cutOne_63 : decode cX9_cutOne 63 = .ok (.iload_n 3, 1) := by decide +kernel
theorem dX9_cutOne_64 : decode cX9_cutOne 64 = .ok (.aload_n 0, 1) := by decide +kernel
theorem dX9_cutOne_65 : decode cX9_cutOne 65 = .ok (.aload_n 0, 1) := by decide +kernel
theorem dX9_cutOne_66 : decode cX9_cutOne 66 = .ok (.getfield 83, 3) := by decide +kernel
theorem dX9_cutOne_69 : decode cX9_cutOne 69 = .ok (.iload_n 1, 1) := by decide +kernel
theorem dX9_cutOne_70 : decode cX9_cutOne 70 = .ok (.iload_n 3, 1) := by decide +kernel
theorem dX9_cutOne_71 : decode cX9_cutOne 71 = .ok (.invokevirtual 102, 3) := by decide +kernel
theorem dX9_cutOne_74 : decode cX9_cutOne 74 = .ok (.invokevirtual 155, 3) := by decide +kernel
theorem dX9_cutOne_77 : decode cX9_cutOne 77 = .ok (.ireturn, 1) := by decide +kernel
theorem dX9_cutOne_78 : decode cX9_cutOne 78 = .ok (.iload_n 2, 1) := by decide +kernel
theorem dX9_cutOne_79 : decode cX9_cutOne 79 = .ok (.bipush 34, 2) := by decide +kernel
theorem dX9_cutOne_81 : decode cX9_cutOne 81 = .ok (.if_icmp .ne 125, 3) := by decide +kernel
theorem dX9_cutOne_206 : decode cX9_cutOne 206 = .ok (.iload_n 2, 1) := by decide +kernel
theorem dX9_cutOne_207 : decode cX9_cutOne 207 = .ok (.invokestatic 126, 3) := by decide +kernel
theorem dX9_cutOne_210 : decode cX9_cutOne 210 = .ok (.ifCond .ne 9, 3) := by decide +kernel
theorem dX9_cutOne_213 : decode cX9_cutOne 213 = .ok (.iload_n 2, 1) := by decide +kernel
theorem dX9_cutOne_214 : decode cX9_cutOne 214 = .ok (.bipush 45, 2) := by decide +kernel
theorem dX9_cutOne_216 : decode cX9_cutOne 216 = .ok (.if_icmp .ne 9, 3) := by decide +kernel
theorem dX9_cutOne_219 : decode cX9_cutOne 219 = .ok (.aload_n 0, 1) := by decide +kernel
theorem dX9_cutOne_220 : decode cX9_cutOne 220 = .ok (.iload_n 1, 1) := by decide +kernel
theorem dX9_cutOne_221 : decode cX9_cutOne 221 = .ok (.invokevirtual 159, 3) := by decide +kernel
theorem dX9_cutOne_224 : decode cX9_cutOne 224 = .ok (.ireturn, 1) := by decide +kernel
theorem dX9_cutOne_225 : decode cX9_cutOne 225 = .ok (.ldc 162, 2) := by decide +kernel
theorem dX9_cutOne_227 : decode cX9_cutOne 227 = .ok (.iload_n 2, 1) := by decide +kernel
theorem dX9_cutOne_228 : decode cX9_cutOne 228 = .ok (.invokevirtual 164, 3) := by decide +kernel
theorem dX9_cutOne_231 : decode cX9_cutOne 231 = .ok (.ifCond .lt 16, 3) := by decide +kernel
theorem dX9_cutOne_234 : decode cX9_cutOne 234 = .ok (.aload_n 0, 1) := by decide +kernel
theorem dX9_cutOne_235 : decode cX9_cutOne 235 = .ok (.iconst 4, 1) := by decide +kernel
theorem dX9_cutOne_236 : decode cX9_cutOne 236 = .ok (.iload_n 1, 1) := by decide +kernel
theorem dX9_cutOne_237 : decode cX9_cutOne 237 = .ok (.iload_n 1, 1) := by decide +kernel
theorem dX9_cutOne_238 : decode cX9_cutOne 238 = .ok (.iconst 1, 1) := by decide +kernel
theorem dX9_cutOne_239 : decode cX9_cutOne 239 = .ok (.iadd, 1) := by decide +kernel
theorem dX9_cutOne_240 : decode cX9_cutOne 240 = .ok (.iload_n 2, 1) := by decide +kernel
theorem dX9_cutOne_241 : decode cX9_cutOne 241 = .ok (.invokevirtual 155, 3) := by decide +kernel
theorem dX9_cutOne_244 : decode cX9_cutOne 244 = .ok (.goto 8, 3) := by decide +kernel
theorem dX9_cutOne_252 : decode cX9_cutOne 252 = .ok (.ireturn, 1) := by decide +kernel
def rpX9_cutOne : List Nat := [0, 1, 4, 5, 6, 7, 8, 11, 14, 15, 16, 17, 18, 19, 20, 23, 26, 27, 30, 31, 32, 35, 38, 41, 44, 45, 46, 47, 49, 52, 60, 61, 62, 63, 64, 65, 66, 69, 70, 71, 74, 77, 78, 79, 81, 84, 206, 207, 210, 213, 214, 216, 219, 220, 221, 224, 225, 227, 228, 231, 234, 235, 236, 237, 238, 239, 240, 241, 244, 247, 252]
noncomputable def rcX9_cutOne : List rz_B := [rz_aload 0, rz_getf (Nat.add (Nat.mul 256 11) 1) 9 rz_r, rz_iload 1, rz_cald, rz_istore 2, rz_iload 2, rz_callS 1 rgX9_opensWord, rz_ifeq 42, rz_iload 1, rz_cst 1, rz_iadd, rz_istore 3, rz_iload 3, rz_aload 0, rz_getf (Nat.add (Nat.mul 256 11) 1) 10 rz_i, rz_icmpge 24, rz_aload 0, rz_getf (Nat.add (Nat.mul 256 11) 1) 9 rz_r, rz_iload 3, rz_cald, rz_callS 1 rgX9_isInWord, rz_ifeq 24, rz_iinc 3 1, rz_goto 12, rz_iload 3, rz_iload 1, rz_isub, rz_cst 24, rz_icmple 30, rz_no, rz_aload 0, rz_cst 1, rz_iload 1, rz_iload 3, rz_aload 0, rz_aload 0, rz_getf (Nat.add (Nat.mul 256 11) 1) 9 rz_r, rz_iload 1, rz_iload 3, rz_callV 3 (Nat.add (Nat.mul 256 11) 1) rgX9_intern, rz_callV 4 (Nat.add (Nat.mul 256 11) 1) rgX9_take, rz_iret, rz_iload 2, rz_cst 34, rz_icmpne 46, rz_no, rz_iload 2, rz_callS 1 rgX9_isDigit, rz_ifne 52, rz_iload 2, rz_cst 45, rz_icmpne 56, rz_aload 0, rz_iload 1, rz_callV 1 (Nat.add (Nat.mul 256 11) 1) rgX9_cutNumber, rz_iret, rz_txt 1000009, rz_iload 2, rz_callT 1 rgJ0_indexOf_0f7a4, rz_iflt 69, rz_aload 0, rz_cst 4, rz_iload 1, rz_iload 1, rz_cst 1, rz_iadd, rz_iload 2, rz_callV 4 (Nat.add (Nat.mul 256 11) 1) rgX9_take, rz_goto 70, rz_no, rz_iret]
noncomputable def rgX9_cutOne : rz_L → rz_M → rz_Z → Bool := rz_go rcX9_cutOne 5 1000000
def rrX9_cutOne : Room := { frames := 4, cells := 0, slots := 0, locals := 126 }
theorem rmX9_cutOne (l : Launch) {G : rz_G} (hG : rz_Gd G) (vs : rz_L) (M : rz_M) (Z : rz_Z) (hn : vs.length = 2) (h : rgX9_cutOne vs M Z = true) : Met l yX9_cutOne (Cond.code yX9_cutOne cX9_cutOne 5 (some .int) :: rz_TB) rrX9_cutOne (rz_Pre G vs M) (rz_Qi G M.2 Z) 0 0 (fun q => rz_b G ≤ q) := by
  obtain ⟨D, tc, ad, b, xs, rfl⟩ := id hG
  refine rz_body (pcs := rpX9_cutOne) (by decide) rfl (by rw [hn]; decide) h ?_
  intro p e R s m args below meth c hC
  obtain ⟨hx, hb, hml, hr, hlk, ho, hts, hKn, hRm⟩ := id hC
  obtain ⟨hK, hA, hSt⟩ := id hKn
  have hw : ∀ {i j : Nat} {ws : List Cond} {w : Cond}, rz_WW[i]? = some ws → ws[j]? = some w → w.before args s = true := fun h1 h2 => hts _ (List.mem_cons_of_mem _ (rz_mem h1 h2))
  refine rz_All_c (i := 0) (fun k J hk hJ => rz_aload_n_ok (pc := 0) hx hb dX9_cutOne_0 rfl hk) ?_
  refine rz_All_c (i := 1) (fun k J hk hJ => rz_getf_ok (pc := 1) (own := RX9) (ref := "ThreadJudge$Reader") (C := RX9) (T := TX9) (N := 19) (ci := 11) (index := 83) (f := 9) (t := 2) (Ts := Cond.code yX9_cutOne cX9_cutOne 5 (some .int) :: rz_TB) hx hb hts rz_in11 ho hK rfl (by decide) rfl (fun _ => rfl) (hw (i := 3) (j := 20) rfl rfl) (fun _ z => z) dX9_cutOne_1 hk) ?_
  refine rz_All_c (i := 2) (fun k J hk hJ => rz_iload_n_ok (pc := 4) hx hb dX9_cutOne_4 rfl hk) ?_
  refine rz_All_c (i := 3) (fun k J hk hJ => rz_cald_ok (pc := 5) hx hb hK dX9_cutOne_5 hk) ?_
  refine rz_All_c (i := 4) (fun k J hk hJ => rz_istore_n_ok (pc := 6) hx hb dX9_cutOne_6 rfl hk) ?_
  refine rz_All_c (i := 5) (fun k J hk hJ => rz_iload_n_ok (pc := 7) hx hb dX9_cutOne_7 rfl hk) ?_
  refine rz_All_c (i := 6) (fun k J hk hJ => rz_callS_ok (pc := 8) (own := RX9) hC rfl (rmX9_opensWord l hG) (rz_cwS 1 hC rz_good (rz_mem (i := 4) (j := 9) rfl rfl) (rz_mem (i := 4) (j := 10) rfl rfl) (rz_mem (i := 1) (j := 21) rfl rfl) (rz_mem (i := 4) (j := 11) rfl rfl) ⟨rfl, by decide, by decide, by decide +kernel⟩ rfl rfl ⟨by decide, by decide⟩) dX9_cutOne_8 hk) ?_
  refine rz_All_c (i := 7) (fun k J hk hJ => rz_ifeq_ok (pc := 11) hx hb dX9_cutOne_11 rfl hk (hJ 42)) ?_
  refine rz_All_c (i := 8) (fun k J hk hJ => rz_iload_n_ok (pc := 14) hx hb dX9_cutOne_14 rfl hk) ?_
  refine rz_All_c (i := 9) (fun k J hk hJ => rz_iconst_ok (pc := 15) hx hb dX9_cutOne_15 rfl hk) ?_
  refine rz_All_c (i := 10) (fun k J hk hJ => rz_iadd_ok (pc := 16) hx hb dX9_cutOne_16 hk) ?_
  refine rz_All_c (i := 11) (fun k J hk hJ => rz_istore_n_ok (pc := 17) hx hb dX9_cutOne_17 rfl hk) ?_
  refine rz_All_c (i := 12) (fun k J hk hJ => rz_iload_n_ok (pc := 18) hx hb dX9_cutOne_18 rfl hk) ?_
  refine rz_All_c (i := 13) (fun k J hk hJ => rz_aload_n_ok (pc := 19) hx hb dX9_cutOne_19 rfl hk) ?_
  refine rz_All_c (i := 14) (fun k J hk hJ => rz_getf_ok (pc := 20) (own := RX9) (ref := "ThreadJudge$Reader") (C := RX9) (T := TX9) (N := 19) (ci := 11) (index := 132) (f := 10) (t := 0) (Ts := Cond.code yX9_cutOne cX9_cutOne 5 (some .int) :: rz_TB) hx hb hts rz_in11 ho hK rfl (by decide) rfl (fun _ => rfl) (hw (i := 3) (j := 21) rfl rfl) (fun _ z => z) dX9_cutOne_20 hk) ?_
  refine rz_All_c (i := 15) (fun k J hk hJ => rz_icmpge_ok (pc := 23) hx hb dX9_cutOne_23 rfl hk (hJ 24)) ?_
  refine rz_All_c (i := 16) (fun k J hk hJ => rz_aload_n_ok (pc := 26) hx hb dX9_cutOne_26 rfl hk) ?_
  refine rz_All_c (i := 17) (fun k J hk hJ => rz_getf_ok (pc := 27) (own := RX9) (ref := "ThreadJudge$Reader") (C := RX9) (T := TX9) (N := 19) (ci := 11) (index := 83) (f := 9) (t := 2) (Ts := Cond.code yX9_cutOne cX9_cutOne 5 (some .int) :: rz_TB) hx hb hts rz_in11 ho hK rfl (by decide) rfl (fun _ => rfl) (hw (i := 3) (j := 20) rfl rfl) (fun _ z => z) dX9_cutOne_27 hk) ?_
  refine rz_All_c (i := 18) (fun k J hk hJ => rz_iload_n_ok (pc := 30) hx hb dX9_cutOne_30 rfl hk) ?_
  refine rz_All_c (i := 19) (fun k J hk hJ => rz_cald_ok (pc := 31) hx hb hK dX9_cutOne_31 hk) ?_
  refine rz_All_c (i := 20) (fun k J hk hJ => rz_callS_ok (pc := 32) (own := RX9) hC rfl (rmX9_isInWord l hG) (rz_cwS 1 hC rz_good (rz_mem (i := 4) (j := 12) rfl rfl) (rz_mem (i := 4) (j := 13) rfl rfl) (rz_mem (i := 1) (j := 21) rfl rfl) (rz_mem (i := 4) (j := 14) rfl rfl) ⟨rfl, by decide, by decide, by decide +kernel⟩ rfl rfl ⟨by decide, by decide⟩) dX9_cutOne_32 hk) ?_
  refine rz_All_c (i := 21) (fun k J hk hJ => rz_ifeq_ok (pc := 35) hx hb dX9_cutOne_35 rfl hk (hJ 24)) ?_
  refine rz_All_c (i := 22) (fun k J hk hJ => rz_iinc_ok (pc := 38) hx hb dX9_cutOne_38 (by decide) hk) ?_
  refine rz_All_c (i := 23) (fun k J hk hJ => rz_goto_ok (pc := 41) hx hb dX9_cutOne_41 rfl (hJ 12)) ?_
  refine rz_All_c (i := 24) (fun k J hk hJ => rz_iload_n_ok (pc := 44) hx hb dX9_cutOne_44 rfl hk) ?_
  refine rz_All_c (i := 25) (fun k J hk hJ => rz_iload_n_ok (pc := 45) hx hb dX9_cutOne_45 rfl hk) ?_
  refine rz_All_c (i := 26) (fun k J hk hJ => rz_isub_ok (pc := 46) hx hb dX9_cutOne_46 hk) ?_
  refine rz_All_c (i := 27) (fun k J hk hJ => rz_bipush_ok (pc := 47) hx hb dX9_cutOne_47 (by decide) hk) ?_
  refine rz_All_c (i := 28) (fun k J hk hJ => rz_icmple_ok (pc := 49) hx hb dX9_cutOne_49 rfl hk (hJ 30)) ?_
  refine rz_All_c (i := 29) (fun k J hk hJ => rz_no_ok) ?_
  refine rz_All_c (i := 30) (fun k J hk hJ => rz_aload_n_ok (pc := 60) hx hb dX9_cutOne_60 rfl hk) ?_
  refine rz_All_c (i := 31) (fun k J hk hJ => rz_iconst_ok (pc := 61) hx hb dX9_cutOne_61 rfl hk) ?_
  refine rz_All_c (i := 32) (fun k J hk hJ => rz_iload_n_ok (pc := 62) hx hb dX9_cutOne_62 rfl hk) ?_
  refine rz_All_c (i := 33) (fun k J hk hJ => rz_iload_n_ok (pc := 63) hx hb dX9_cutOne_63 rfl hk) ?_
  refine rz_All_c (i := 34) (fun k J hk hJ => rz_aload_n_ok (pc := 64) hx hb dX9_cutOne_64 rfl hk) ?_
  refine rz_All_c (i := 35) (fun k J hk hJ => rz_aload_n_ok (pc := 65) hx hb dX9_cutOne_65 rfl hk) ?_
  refine rz_All_c (i := 36) (fun k J hk hJ => rz_getf_ok (pc := 66) (own := RX9) (ref := "ThreadJudge$Reader") (C := RX9) (T := TX9) (N := 19) (ci := 11) (index := 83) (f := 9) (t := 2) (Ts := Cond.code yX9_cutOne cX9_cutOne 5 (some .int) :: rz_TB) hx hb hts rz_in11 ho hK rfl (by decide) rfl (fun _ => rfl) (hw (i := 3) (j := 20) rfl rfl) (fun _ z => z) dX9_cutOne_66 hk) ?_
  refine rz_All_c (i := 37) (fun k J hk hJ => rz_iload_n_ok (pc := 69) hx hb dX9_cutOne_69 rfl hk) ?_
  refine rz_All_c (i := 38) (fun k J hk hJ => rz_iload_n_ok (pc := 70) hx hb dX9_cutOne_70 rfl hk) ?_
  refine rz_All_c (i := 39) (fun k J hk hJ => rz_callV_ok (pc := 71) (own := RX9) (C := RX9) (T0 := TX9) (N0 := 19) hC rfl (rmX9_intern l hG) (rz_cwV 3 hC rz_good (rz_mem (i := 2) (j := 8) rfl rfl) (rz_mem (i := 2) (j := 9) rfl rfl) (rz_mem (i := 2) (j := 10) rfl rfl) (rz_mem (i := 1) (j := 21) rfl rfl) (rz_mem (i := 2) (j := 11) rfl rfl) ⟨rfl, by decide, by decide, by decide +kernel⟩ rfl rfl ⟨by decide, by decide⟩) rfl dX9_cutOne_71 hk) ?_
  refine rz_All_c (i := 40) (fun k J hk hJ => rz_callV_ok (pc := 74) (own := RX9) (C := RX9) (T0 := TX9) (N0 := 19) hC rfl (rmX9_take l hG) (rz_cwV 4 hC rz_good (rz_mem (i := 5) (j := 3) rfl rfl) (rz_mem (i := 5) (j := 4) rfl rfl) (rz_mem (i := 5) (j := 5) rfl rfl) (rz_mem (i := 1) (j := 21) rfl rfl) (rz_mem (i := 5) (j := 6) rfl rfl) ⟨rfl, by decide, by decide, by decide +kernel⟩ rfl rfl ⟨by decide, by decide⟩) rfl dX9_cutOne_74 hk) ?_
  refine rz_All_c (i := 41) (fun k J hk hJ => rz_iret_ok (pc := 77) hC dX9_cutOne_77) ?_
  refine rz_All_c (i := 42) (fun k J hk hJ => rz_iload_n_ok (pc := 78) hx hb dX9_cutOne_78 rfl hk) ?_
  refine rz_All_c (i := 43) (fun k J hk hJ => rz_bipush_ok (pc := 79) hx hb dX9_cutOne_79 (by decide) hk) ?_
  refine rz_All_c (i := 44) (fun k J hk hJ => rz_icmpne_ok (pc := 81) hx hb dX9_cutOne_81 rfl hk (hJ 46)) ?_
  refine rz_All_c (i := 45) (fun k J hk hJ => rz_no_ok) ?_
  refine rz_All_c (i := 46) (fun k J hk hJ => rz_iload_n_ok (pc := 206) hx hb dX9_cutOne_206 rfl hk) ?_
  refine rz_All_c (i := 47) (fun k J hk hJ => rz_callS_ok (pc := 207) (own := RX9) hC rfl (rmX9_isDigit l hG) (rz_cwS 1 hC rz_good (rz_mem (i := 4) (j := 15) rfl rfl) (rz_mem (i := 4) (j := 16) rfl rfl) (rz_mem (i := 1) (j := 21) rfl rfl) (rz_mem (i := 4) (j := 17) rfl rfl) ⟨rfl, by decide, by decide, by decide +kernel⟩ rfl rfl ⟨by decide, by decide⟩) dX9_cutOne_207 hk) ?_
  refine rz_All_c (i := 48) (fun k J hk hJ => rz_ifne_ok (pc := 210) hx hb dX9_cutOne_210 rfl hk (hJ 52)) ?_
  refine rz_All_c (i := 49) (fun k J hk hJ => rz_iload_n_ok (pc := 213) hx hb dX9_cutOne_213 rfl hk) ?_
  refine rz_All_c (i := 50) (fun k J hk hJ => rz_bipush_ok (pc := 214) hx hb dX9_cutOne_214 (by decide) hk) ?_
  refine rz_All_c (i := 51) (fun k J hk hJ => rz_icmpne_ok (pc := 216) hx hb dX9_cutOne_216 rfl hk (hJ 56)) ?_
  refine rz_All_c (i := 52) (fun k J hk hJ => rz_aload_n_ok (pc := 219) hx hb dX9_cutOne_219 rfl hk) ?_
  refine rz_All_c (i := 53) (fun k J hk hJ => rz_iload_n_ok (pc := 220) hx hb dX9_cutOne_220 rfl hk) ?_
  refine rz_All_c (i := 54) (fun k J hk hJ => rz_callV_ok (pc := 221) (own := RX9) (C := RX9) (T0 := TX9) (N0 := 19) hC rfl (rmX9_cutNumber l hG) (rz_cwV 1 hC rz_good (rz_mem (i := 5) (j := 7) rfl rfl) (rz_mem (i := 5) (j := 8) rfl rfl) (rz_mem (i := 5) (j := 9) rfl rfl) (rz_mem (i := 1) (j := 21) rfl rfl) (rz_mem (i := 5) (j := 10) rfl rfl) ⟨rfl, by decide, by decide, by decide +kernel⟩ rfl rfl ⟨by decide, by decide⟩) rfl dX9_cutOne_221 hk) ?_
  refine rz_All_c (i := 55) (fun k J hk hJ => rz_iret_ok (pc := 224) hC dX9_cutOne_224) ?_
  refine rz_All_c (i := 56) (fun k J hk hJ => rz_ldcS_ok (pc := 225) (i := 8) hx hb (hSt.2.1 ("ThreadJudge$Reader", 162, "{}()[];:,.", 8) (List.mem_of_getElem? (i := 8) rfl)) ho dX9_cutOne_225 hk) ?_
  refine rz_All_c (i := 57) (fun k J hk hJ => rz_iload_n_ok (pc := 227) hx hb dX9_cutOne_227 rfl hk) ?_
  refine rz_All_c (i := 58) (fun k J hk hJ => rz_callT_ok (pc := 228) (own := RX9) hC rfl (rmJ0_indexOf_0f7a4 l hG) (rz_cwV 1 hC rz_good (rz_mem (i := 5) (j := 20) rfl rfl) (rz_mem (i := 5) (j := 21) rfl rfl) (rz_mem (i := 5) (j := 22) rfl rfl) (rz_mem (i := 5) (j := 23) rfl rfl) (rz_mem (i := 6) (j := 0) rfl rfl) ⟨rfl, by decide, by decide, by decide +kernel⟩ rfl rfl ⟨by decide, by decide⟩) dX9_cutOne_228 hk) ?_
  refine rz_All_c (i := 59) (fun k J hk hJ => rz_iflt_ok (pc := 231) hx hb dX9_cutOne_231 rfl hk (hJ 69)) ?_
  refine rz_All_c (i := 60) (fun k J hk hJ => rz_aload_n_ok (pc := 234) hx hb dX9_cutOne_234 rfl hk) ?_
  refine rz_All_c (i := 61) (fun k J hk hJ => rz_iconst_ok (pc := 235) hx hb dX9_cutOne_235 rfl hk) ?_
  refine rz_All_c (i := 62) (fun k J hk hJ => rz_iload_n_ok (pc := 236) hx hb dX9_cutOne_236 rfl hk) ?_
  refine rz_All_c (i := 63) (fun k J hk hJ => rz_iload_n_ok (pc := 237) hx hb dX9_cutOne_237 rfl hk) ?_
  refine rz_All_c (i := 64) (fun k J hk hJ => rz_iconst_ok (pc := 238) hx hb dX9_cutOne_238 rfl hk) ?_
  refine rz_All_c (i := 65) (fun k J hk hJ => rz_iadd_ok (pc := 239) hx hb dX9_cutOne_239 hk) ?_
  refine rz_All_c (i := 66) (fun k J hk hJ => rz_iload_n_ok (pc := 240) hx hb dX9_cutOne_240 rfl hk) ?_
  refine rz_All_c (i := 67) (fun k J hk hJ => rz_callV_ok (pc := 241) (own := RX9) (C := RX9) (T0 := TX9) (N0 := 19) hC rfl (rmX9_take l hG) (rz_cwV 4 hC rz_good (rz_mem (i := 5) (j := 3) rfl rfl) (rz_mem (i := 5) (j := 4) rfl rfl) (rz_mem (i := 5) (j := 5) rfl rfl) (rz_mem (i := 1) (j := 21) rfl rfl) (rz_mem (i := 5) (j := 6) rfl rfl) ⟨rfl, by decide, by decide, by decide +kernel⟩ rfl rfl ⟨by decide, by decide⟩) rfl dX9_cutOne_241 hk) ?_
  refine rz_All_c (i := 68) (fun k J hk hJ => rz_goto_ok (pc := 244) hx hb dX9_cutOne_244 rfl (hJ 70)) ?_
  refine rz_All_c (i := 69) (fun k J hk hJ => rz_no_ok) ?_
  refine rz_All_c (i := 70) (fun k J hk hJ => rz_iret_ok (pc := 252) hC dX9_cutOne_252) ?_
  exact trivial
theorem dX9_isBlank_0 : decode cX9_isBlank 0 = .ok (.iload_n 0, 1) := by decide +kernel
theorem dX9_isBlank_1 : decode cX9_isBlank 1 = .ok (.bipush 9, 2) := by decide +kernel
theorem dX9_isBlank_3 : decode cX9_isBlank 3 = .ok (.if_icmp .eq 21, 3) := by decide +kernel
theorem dX9_isBlank_6 : decode cX9_isBlank 6 = .ok (.iload_n 0, 1) := by decide +kernel
theorem dX9_isBlank_7 : decode cX9_isBlank 7 = .ok (.bipush 10, 2) := by decide +kernel
theorem dX9_isBlank_9 : decode cX9_isBlank 9 = .ok (.if_icmp .eq 15, 3) := by decide +kernel
theorem dX9_isBlank_12 : decode cX9_isBlank 12 = .ok (.iload_n 0, 1) := by decide +kernel
theorem dX9_isBlank_13 : decode cX9_isBlank 13 = .ok (.bipush 13, 2) := by decide +kernel
theorem dX9_isBlank_15 : decode cX9_isBlank 15 = .ok (.if_icmp .eq 9, 3) := by decide +kernel
theorem dX9_isBlank_18 : decode cX9_isBlank 18 = .ok (.iload_n 0, 1) := by decide +kernel
theorem dX9_isBlank_19 : decode cX9_isBlank 19 = .ok (.bipush 32, 2) := by decide +kernel
theorem dX9_isBlank_21 : decode cX9_isBlank 21 = .ok (.if_icmp .ne 7, 3) := by decide +kernel
theorem dX9_isBlank_24 : decode cX9_isBlank 24 = .ok (.iconst 1, 1) := by decide +kernel
theorem dX9_isBlank_25 : decode cX9_isBlank 25 = .ok (.goto 4, 3) := by decide +kernel
theorem dX9_isBlank_28 : decode cX9_isBlank 28 = .ok (.iconst 0, 1) := by decide +kernel
theorem dX9_isBlank_29 : decode cX9_isBlank 29 = .ok (.ireturn, 1) := by decide +kernel
def rpX9_isBlank : List Nat := [0, 1, 3, 6, 7, 9, 12, 13, 15, 18, 19, 21, 24, 25, 28, 29]
noncomputable def rcX9_isBlank : List rz_B := [rz_iload 0, rz_cst 9, rz_icmpeq 12, rz_iload 0, rz_cst 10, rz_icmpeq 12, rz_iload 0, rz_cst 13, rz_icmpeq 12, rz_iload 0, rz_cst 32, rz_icmpne 14, rz_cst 1, rz_goto 15, rz_cst 0, rz_zret]
noncomputable def rgX9_isBlank : rz_L → rz_M → rz_Z → Bool := rz_go rcX9_isBlank 1 1000000
def rrX9_isBlank : Room := { frames := 0, cells := 0, slots := 0, locals := 0 }
theorem rmX9_isBlank (l : Launch) {G : rz_G} (hG : rz_Gd G) (vs : rz_L) (M : rz_M) (Z : rz_Z) (hn : vs.length = 1) (h : rgX9_isBlank vs M Z = true) : Met l yX9_isBlank (Cond.code yX9_isBlank cX9_isBlank 1 (some .boolean) :: rz_TB) rrX9_isBlank (rz_Pre G vs M) (rz_Qi G M.2 Z) 0 0 (fun q => rz_b G ≤ q) := by
  obtain ⟨D, tc, ad, b, xs, rfl⟩ := id hG
  refine rz_body (pcs := rpX9_isBlank) (by decide) rfl (by rw [hn]; decide) h ?_
  intro p e R s m args below meth c hC
  obtain ⟨hx, hb, hml, hr, hlk, ho, hts, hKn, hRm⟩ := id hC
  obtain ⟨hK, hA, hSt⟩ := id hKn
  have hw : ∀ {i j : Nat} {ws : List Cond} {w : Cond}, rz_WW[i]? = some ws → ws[j]? = some w → w.before args s = true := fun h1 h2 => hts _ (List.mem_cons_of_mem _ (rz_mem h1 h2))
  refine rz_All_c (i := 0) (fun k J hk hJ => rz_iload_n_ok (pc := 0) hx hb dX9_isBlank_0 rfl hk) ?_
  refine rz_All_c (i := 1) (fun k J hk hJ => rz_bipush_ok (pc := 1) hx hb dX9_isBlank_1 (by decide) hk) ?_
  refine rz_All_c (i := 2) (fun k J hk hJ => rz_icmpeq_ok (pc := 3) hx hb dX9_isBlank_3 rfl hk (hJ 12)) ?_
  refine rz_All_c (i := 3) (fun k J hk hJ => rz_iload_n_ok (pc := 6) hx hb dX9_isBlank_6 rfl hk) ?_
  refine rz_All_c (i := 4) (fun k J hk hJ => rz_bipush_ok (pc := 7) hx hb dX9_isBlank_7 (by decide) hk) ?_
  refine rz_All_c (i := 5) (fun k J hk hJ => rz_icmpeq_ok (pc := 9) hx hb dX9_isBlank_9 rfl hk (hJ 12)) ?_
  refine rz_All_c (i := 6) (fun k J hk hJ => rz_iload_n_ok (pc := 12) hx hb dX9_isBlank_12 rfl hk) ?_
  refine rz_All_c (i := 7) (fun k J hk hJ => rz_bipush_ok (pc := 13) hx hb dX9_isBlank_13 (by decide) hk) ?_
  refine rz_All_c (i := 8) (fun k J hk hJ => rz_icmpeq_ok (pc := 15) hx hb dX9_isBlank_15 rfl hk (hJ 12)) ?_
  refine rz_All_c (i := 9) (fun k J hk hJ => rz_iload_n_ok (pc := 18) hx hb dX9_isBlank_18 rfl hk) ?_
  refine rz_All_c (i := 10) (fun k J hk hJ => rz_bipush_ok (pc := 19) hx hb dX9_isBlank_19 (by decide) hk) ?_
  refine rz_All_c (i := 11) (fun k J hk hJ => rz_icmpne_ok (pc := 21) hx hb dX9_isBlank_21 rfl hk (hJ 14)) ?_
  refine rz_All_c (i := 12) (fun k J hk hJ => rz_iconst_ok (pc := 24) hx hb dX9_isBlank_24 rfl hk) ?_
  refine rz_All_c (i := 13) (fun k J hk hJ => rz_goto_ok (pc := 25) hx hb dX9_isBlank_25 rfl (hJ 15)) ?_
  refine rz_All_c (i := 14) (fun k J hk hJ => rz_iconst_ok (pc := 28) hx hb dX9_isBlank_28 rfl hk) ?_
  refine rz_All_c (i := 15) (fun k J hk hJ => rz_zret_ok (pc := 29) hC dX9_isBlank_29) ?_
  exact trivial
theorem dX9_pastBlanks_0 : decode cX9_pastBlanks 0 = .ok (.iload_n 1, 1) := by decide +kernel
theorem dX9_pastBlanks_1 : decode cX9_pastBlanks 1 = .ok (.istore_n 2, 1) := by decide +kernel
theorem dX9_pastBlanks_2 : decode cX9_pastBlanks 2 = .ok (.iconst 0, 1) := by decide +kernel
theorem dX9_pastBlanks_3 : decode cX9_pastBlanks 3 = .ok (.istore_n 3, 1) := by decide +kernel
theorem dX9_pastBlanks_4 : decode cX9_pastBlanks 4 = .ok (.iload_n 2, 1) := by decide +kernel
theorem dX9_pastBlanks_5 : decode cX9_pastBlanks 5 = .ok (.aload_n 0, 1) := by decide +kernel
theorem dX9_pastBlanks_6 : decode cX9_pastBlanks 6 = .ok (.getfield 132, 3) := by decide +kernel
theorem dX9_pastBlanks_9 : decode cX9_pastBlanks 9 = .ok (.if_icmp .ge 68, 3) := by decide +kernel
theorem dX9_pastBlanks_12 : decode cX9_pastBlanks 12 = .ok (.iload_n 3, 1) := by decide +kernel
theorem dX9_pastBlanks_13 : decode cX9_pastBlanks 13 = .ok (.ifCond .ne 26, 3) := by decide +kernel
theorem dX9_pastBlanks_16 : decode cX9_pastBlanks 16 = .ok (.aload_n 0, 1) := by decide +kernel
theorem dX9_pastBlanks_17 : decode cX9_pastBlanks 17 = .ok (.getfield 83, 3) := by decide +kernel
theorem dX9_pastBlanks_20 : decode cX9_pastBlanks 20 = .ok (.iload_n 2, 1) := by decide +kernel
theorem dX9_pastBlanks_21 : decode cX9_pastBlanks 21 = .ok (.caload, 1) := by decide +kernel
theorem dX9_pastBlanks_22 : decode cX9_pastBlanks 22 = .ok (.bipush 35, 2) := by decide +kernel
theorem dX9_pastBlanks_24 : decode cX9_pastBlanks 24 = .ok (.if_icmp .eq 15, 3) := by decide +kernel
theorem dX9_pastBlanks_27 : decode cX9_pastBlanks 27 = .ok (.aload_n 0, 1) := by decide +kernel
theorem dX9_pastBlanks_28 : decode cX9_pastBlanks 28 = .ok (.getfield 83, 3) := by decide +kernel
theorem dX9_pastBlanks_31 : decode cX9_pastBlanks 31 = .ok (.iload_n 2, 1) := by decide +kernel
theorem dX9_pastBlanks_32 : decode cX9_pastBlanks 32 = .ok (.caload, 1) := by decide +kernel
theorem dX9_pastBlanks_33 : decode cX9_pastBlanks 33 = .ok (.invokestatic 146, 3) := by decide +kernel
theorem dX9_pastBlanks_36 : decode cX9_pastBlanks 36 = .ok (.ifCond .eq 41, 3) := by decide +kernel
theorem dX9_pastBlanks_39 : decode cX9_pastBlanks 39 = .ok (.aload_n 0, 1) := by decide +kernel
theorem dX9_pastBlanks_40 : decode cX9_pastBlanks 40 = .ok (.getfield 83, 3) := by decide +kernel
theorem dX9_pastBlanks_43 : decode cX9_pastBlanks 43 = .ok (.iload_n 2, 1) := by decide +kernel
theorem dX9_pastBlanks_44 : decode cX9_pastBlanks 44 = .ok (.caload, 1) := by decide +kernel
theorem dX9_pastBlanks_45 : decode cX9_pastBlanks 45 = .ok (.bipush 35, 2) := by decide +kernel
theorem dX9_pastBlanks_47 : decode cX9_pastBlanks 47 = .ok (.if_icmp .eq 18, 3) := by decide +kernel
theorem dX9_pastBlanks_50 : decode cX9_pastBlanks 50 = .ok (.iload_n 3, 1) := by decide +kernel
theorem dX9_pastBlanks_51 : decode cX9_pastBlanks 51 = .ok (.ifCond .eq 18, 3) := by decide +kernel
theorem dX9_pastBlanks_69 : decode cX9_pastBlanks 69 = .ok (.iconst 0, 1) := by decide +kernel
theorem dX9_pastBlanks_70 : decode cX9_pastBlanks 70 = .ok (.istore_n 3, 1) := by decide +kernel
theorem dX9_pastBlanks_71 : decode cX9_pastBlanks 71 = .ok (.iinc 2 1, 3) := by decide +kernel
theorem dX9_pastBlanks_74 : decode cX9_pastBlanks 74 = .ok (.goto (-70), 3) := by decide +kernel
theorem dX9_pastBlanks_77 : decode cX9_pastBlanks 77 = .ok (.iload_n 2, 1) := by decide +kernel
theorem dX9_pastBlanks_78 : decode cX9_pastBlanks 78 = .ok (.ireturn, 1) := by decide +kernel
def rpX9_pastBlanks : List Nat := [0, 1, 2, 3, 4, 5, 6, 9, 12, 13, 16, 17, 20, 21, 22, 24, 27, 28, 31, 32, 33, 36, 39, 40, 43, 44, 45, 47, 50, 51, 54, 65, 69, 70, 71, 74, 77, 78]
noncomputable def rcX9_pastBlanks : List rz_B := [rz_iload 1, rz_istore 2, rz_cst 0, rz_istore 3, rz_iload 2, rz_aload 0, rz_getf (Nat.add (Nat.mul 256 11) 1) 10 rz_i, rz_icmpge 36, rz_iload 3, rz_ifne 22, rz_aload 0, rz_getf (Nat.add (Nat.mul 256 11) 1) 9 rz_r, rz_iload 2, rz_cald, rz_cst 35, rz_icmpeq 22, rz_aload 0, rz_getf (Nat.add (Nat.mul 256 11) 1) 9 rz_r, rz_iload 2, rz_cald, rz_callS 1 rgX9_isBlank, rz_ifeq 36, rz_aload 0, rz_getf (Nat.add (Nat.mul 256 11) 1) 9 rz_r, rz_iload 2, rz_cald, rz_cst 35, rz_icmpeq 31, rz_iload 3, rz_ifeq 32, rz_no, rz_no, rz_cst 0, rz_istore 3, rz_iinc 2 1, rz_goto 4, rz_iload 2, rz_iret]
noncomputable def rgX9_pastBlanks : rz_L → rz_M → rz_Z → Bool := rz_go rcX9_pastBlanks 4 1000000
def rrX9_pastBlanks : Room := { frames := 1, cells := 0, slots := 0, locals := 20 }
theorem rmX9_pastBlanks (l : Launch) {G : rz_G} (hG : rz_Gd G) (vs : rz_L) (M : rz_M) (Z : rz_Z) (hn : vs.length = 2) (h : rgX9_pastBlanks vs M Z = true) : Met l yX9_pastBlanks (Cond.code yX9_pastBlanks cX9_pastBlanks 4 (some .int) :: rz_TB) rrX9_pastBlanks (rz_Pre G vs M) (rz_Qi G M.2 Z) 0 0 (fun q => rz_b G ≤ q) := by
  obtain ⟨D, tc, ad, b, xs, rfl⟩ := id hG
  refine rz_body (pcs := rpX9_pastBlanks) (by decide) rfl (by rw [hn]; decide) h ?_
  intro p e R s m args below meth c hC
  obtain ⟨hx, hb, hml, hr, hlk, ho, hts, hKn, hRm⟩ := id hC
  obtain ⟨hK, hA, hSt⟩ := id hKn
  have hw : ∀ {i j : Nat} {ws : List Cond} {w : Cond}, rz_WW[i]? = some ws → ws[j]? = some w → w.before args s = true := fun h1 h2 => hts _ (List.mem_cons_of_mem _ (rz_mem h1 h2))
  refine rz_All_c (i := 0) (fun k J hk hJ => rz_iload_n_ok (pc := 0) hx hb dX9_pastBlanks_0 rfl hk) ?_
  refine rz_All_c (i := 1) (fun k J hk hJ => rz_istore_n_ok (pc := 1) hx hb dX9_pastBlanks_1 rfl hk) ?_
  refine rz_All_c (i := 2) (fun k J hk hJ => rz_iconst_ok (pc := 2) hx hb dX9_pastBlanks_2 rfl hk) ?_
  refine rz_All_c (i := 3) (fun k J hk hJ => rz_istore_n_ok (pc := 3) hx hb dX9_pastBlanks_3 rfl hk) ?_
  refine rz_All_c (i := 4) (fun k J hk hJ => rz_iload_n_ok (pc := 4) hx hb dX9_pastBlanks_4 rfl hk) ?_
  refine rz_All_c (i := 5) (fun k J hk hJ => rz_aload_n_ok (pc := 5) hx hb dX9_pastBlanks_5 rfl hk) ?_
  refine rz_All_c (i := 6) (fun k J hk hJ => rz_getf_ok (pc := 6) (own := RX9) (ref := "ThreadJudge$Reader") (C := RX9) (T := TX9) (N := 19) (ci := 11) (index := 132) (f := 10) (t := 0) (Ts := Cond.code yX9_pastBlanks cX9_pastBlanks 4 (some .int) :: rz_TB) hx hb hts rz_in11 ho hK rfl (by decide) rfl (fun _ => rfl) (hw (i := 3) (j := 21) rfl rfl) (fun _ z => z) dX9_pastBlanks_6 hk) ?_
  refine rz_All_c (i := 7) (fun k J hk hJ => rz_icmpge_ok (pc := 9) hx hb dX9_pastBlanks_9 rfl hk (hJ 36)) ?_
  refine rz_All_c (i := 8) (fun k J hk hJ => rz_iload_n_ok (pc := 12) hx hb dX9_pastBlanks_12 rfl hk) ?_
  refine rz_All_c (i := 9) (fun k J hk hJ => rz_ifne_ok (pc := 13) hx hb dX9_pastBlanks_13 rfl hk (hJ 22)) ?_
  refine rz_All_c (i := 10) (fun k J hk hJ => rz_aload_n_ok (pc := 16) hx hb dX9_pastBlanks_16 rfl hk) ?_
  refine rz_All_c (i := 11) (fun k J hk hJ => rz_getf_ok (pc := 17) (own := RX9) (ref := "ThreadJudge$Reader") (C := RX9) (T := TX9) (N := 19) (ci := 11) (index := 83) (f := 9) (t := 2) (Ts := Cond.code yX9_pastBlanks cX9_pastBlanks 4 (some .int) :: rz_TB) hx hb hts rz_in11 ho hK rfl (by decide) rfl (fun _ => rfl) (hw (i := 3) (j := 20) rfl rfl) (fun _ z => z) dX9_pastBlanks_17 hk) ?_
  refine rz_All_c (i := 12) (fun k J hk hJ => rz_iload_n_ok (pc := 20) hx hb dX9_pastBlanks_20 rfl hk) ?_
  refine rz_All_c (i := 13) (fun k J hk hJ => rz_cald_ok (pc := 21) hx hb hK dX9_pastBlanks_21 hk) ?_
  refine rz_All_c (i := 14) (fun k J hk hJ => rz_bipush_ok (pc := 22) hx hb dX9_pastBlanks_22 (by decide) hk) ?_
  refine rz_All_c (i := 15) (fun k J hk hJ => rz_icmpeq_ok (pc := 24) hx hb dX9_pastBlanks_24 rfl hk (hJ 22)) ?_
  refine rz_All_c (i := 16) (fun k J hk hJ => rz_aload_n_ok (pc := 27) hx hb dX9_pastBlanks_27 rfl hk) ?_
  refine rz_All_c (i := 17) (fun k J hk hJ => rz_getf_ok (pc := 28) (own := RX9) (ref := "ThreadJudge$Reader") (C := RX9) (T := TX9) (N := 19) (ci := 11) (index := 83) (f := 9) (t := 2) (Ts := Cond.code yX9_pastBlanks cX9_pastBlanks 4 (some .int) :: rz_TB) hx hb hts rz_in11 ho hK rfl (by decide) rfl (fun _ => rfl) (hw (i := 3) (j := 20) rfl rfl) (fun _ z => z) dX9_pastBlanks_28 hk) ?_
  refine rz_All_c (i := 18) (fun k J hk hJ => rz_iload_n_ok (pc := 31) hx hb dX9_pastBlanks_31 rfl hk) ?_
  refine rz_All_c (i := 19) (fun k J hk hJ => rz_cald_ok (pc := 32) hx hb hK dX9_pastBlanks_32 hk) ?_
  refine rz_All_c (i := 20) (fun k J hk hJ => rz_callS_ok (pc := 33) (own := RX9) hC rfl (rmX9_isBlank l hG) (rz_cwS 1 hC rz_good (rz_mem (i := 4) (j := 2) rfl rfl) (rz_mem (i := 4) (j := 3) rfl rfl) (rz_mem (i := 1) (j := 21) rfl rfl) (rz_mem (i := 4) (j := 4) rfl rfl) ⟨rfl, by decide, by decide, by decide +kernel⟩ rfl rfl ⟨by decide, by decide⟩) dX9_pastBlanks_33 hk) ?_
  refine rz_All_c (i := 21) (fun k J hk hJ => rz_ifeq_ok (pc := 36) hx hb dX9_pastBlanks_36 rfl hk (hJ 36)) ?_
  refine rz_All_c (i := 22) (fun k J hk hJ => rz_aload_n_ok (pc := 39) hx hb dX9_pastBlanks_39 rfl hk) ?_
  refine rz_All_c (i := 23) (fun k J hk hJ => rz_getf_ok (pc := 40) (own := RX9) (ref := "ThreadJudge$Reader") (C := RX9) (T := TX9) (N := 19) (ci := 11) (index := 83) (f := 9) (t := 2) (Ts := Cond.code yX9_pastBlanks cX9_pastBlanks 4 (some .int) :: rz_TB) hx hb hts rz_in11 ho hK rfl (by decide) rfl (fun _ => rfl) (hw (i := 3) (j := 20) rfl rfl) (fun _ z => z) dX9_pastBlanks_40 hk) ?_
  refine rz_All_c (i := 24) (fun k J hk hJ => rz_iload_n_ok (pc := 43) hx hb dX9_pastBlanks_43 rfl hk) ?_
  refine rz_All_c (i := 25) (fun k J hk hJ => rz_cald_ok (pc := 44) hx hb hK dX9_pastBlanks_44 hk) ?_
  refine rz_All_c (i := 26) (fun k J hk hJ => rz_bipush_ok (pc := 45) hx hb dX9_pastBlanks_45 (by decide) hk) ?_
  refine rz_All_c (i := 27) (fun k J hk hJ => rz_icmpeq_ok (pc := 47) hx hb dX9_pastBlanks_47 rfl hk (hJ 31)) ?_
  refine rz_All_c (i := 28) (fun k J hk hJ => rz_iload_n_ok (pc := 50) hx hb dX9_pastBlanks_50 rfl hk) ?_
  refine rz_All_c (i := 29) (fun k J hk hJ => rz_ifeq_ok (pc := 51) hx hb dX9_pastBlanks_51 rfl hk (hJ 32)) ?_
  refine rz_All_c (i := 30) (fun k J hk hJ => rz_no_ok) ?_
  refine rz_All_c (i := 31) (fun k J hk hJ => rz_no_ok) ?_
  refine rz_All_c (i := 32) (fun k J hk hJ => rz_iconst_ok (pc := 69) hx hb dX9_pastBlanks_69 rfl hk) ?_
  refine rz_All_c (i := 33) (fun k J hk hJ => rz_istore_n_ok (pc := 70) hx hb dX9_pastBlanks_70 rfl hk) ?_
  refine rz_All_c (i := 34) (fun k J hk hJ => rz_iinc_ok (pc := 71) hx hb dX9_pastBlanks_71 (by decide) hk) ?_
  refine rz_All_c (i := 35) (fun k J hk hJ => rz_goto_ok (pc := 74) hx hb dX9_pastBlanks_74 rfl (hJ 4)) ?_
  refine rz_All_c (i := 36) (fun k J hk hJ => rz_iload_n_ok (pc := 77) hx hb dX9_pastBlanks_77 rfl hk) ?_
  refine rz_All_c (i := 37) (fun k J hk hJ => rz_iret_ok (pc := 78) hC dX9_pastBlanks_78) ?_
  exact trivial
theorem dX9_cut_0 : decode cX9_cut 0 = .ok (.aload_n 0, 1) := by decide +kernel
theorem dX9_cut_1 : decode cX9_cut 1 = .ok (.aload_n 1, 1) := by decide +kernel
theorem dX9_cut_2 : decode cX9_cut 2 = .ok (.putfield 83, 3) := by decide +kernel
theorem dX9_cut_5 : decode cX9_cut 5 = .ok (.aload_n 0, 1) := by decide +kernel
theorem dX9_cut_6 : decode cX9_cut 6 = .ok (.iload_n 2, 1) := by decide +kernel
theorem dX9_cut_7 : decode cX9_cut 7 = .ok (.putfield 132, 3) := by decide +kernel
theorem dX9_cut_10 : decode cX9_cut 10 = .ok (.aload_n 0, 1) := by decide +kernel
theorem dX9_cut_11 : decode cX9_cut 11 = .ok (.iconst 0, 1) := by decide +kernel
theorem dX9_cut_12 : decode cX9_cut 12 = .ok (.putfield 129, 3) := by decide +kernel
theorem dX9_cut_15 : decode cX9_cut 15 = .ok (.aload_n 0, 1) := by decide +kernel
theorem dX9_cut_16 : decode cX9_cut 16 = .ok (.iconst 0, 1) := by decide +kernel
theorem dX9_cut_17 : decode cX9_cut 17 = .ok (.invokevirtual 135, 3) := by decide +kernel
theorem dX9_cut_20 : decode cX9_cut 20 = .ok (.istore_n 3, 1) := by decide +kernel
theorem dX9_cut_21 : decode cX9_cut 21 = .ok (.iconst 0, 1) := by decide +kernel
theorem dX9_cut_22 : decode cX9_cut 22 = .ok (.istore 4, 2) := by decide +kernel
theorem dX9_cut_24 : decode cX9_cut 24 = .ok (.iload 4, 2) := by decide +kernel
theorem dX9_cut_26 : decode cX9_cut 26 = .ok (.iload_n 2, 1) := by decide +kernel
theorem dX9_cut_27 : decode cX9_cut 27 = .ok (.if_icmp .ge 37, 3) := by decide +kernel
theorem dX9_cut_30 : decode cX9_cut 30 = .ok (.iload_n 3, 1) := by decide +kernel
theorem dX9_cut_31 : decode cX9_cut 31 = .ok (.ifCond .lt 33, 3) := by decide +kernel
theorem dX9_cut_34 : decode cX9_cut 34 = .ok (.iload_n 3, 1) := by decide +kernel
theorem dX9_cut_35 : decode cX9_cut 35 = .ok (.aload_n 0, 1) := by decide +kernel
theorem dX9_cut_36 : decode cX9_cut 36 = .ok (.getfield 132, 3) := by decide +kernel
theorem dX9_cut_39 : decode cX9_cut 39 = .ok (.if_icmp .ge 25, 3) := by decide +kernel
theorem dX9_cut_42 : decode cX9_cut 42 = .ok (.aload_n 0, 1) := by decide +kernel
theorem dX9_cut_43 : decode cX9_cut 43 = .ok (.iload_n 3, 1) := by decide +kernel
theorem dX9_cut_44 : decode cX9_cut 44 = .ok (.invokevirtual 139, 3) := by decide +kernel
theorem dX9_cut_47 : decode cX9_cut 47 = .ok (.istore_n 3, 1) := by decide +kernel
theorem dX9_cut_48 : decode cX9_cut 48 = .ok (.iload_n 3, 1) := by decide +kernel
theorem dX9_cut_49 : decode cX9_cut 49 = .ok (.ifCond .lt 9, 3) := by decide +kernel
theorem dX9_cut_52 : decode cX9_cut 52 = .ok (.aload_n 0, 1) := by decide +kernel
theorem dX9_cut_53 : decode cX9_cut 53 = .ok (.iload_n 3, 1) := by decide +kernel
theorem dX9_cut_54 : decode cX9_cut 54 = .ok (.invokevirtual 135, 3) := by decide +kernel
theorem dX9_cut_57 : decode cX9_cut 57 = .ok (.istore_n 3, 1) := by decide +kernel
theorem dX9_cut_58 : decode cX9_cut 58 = .ok (.iinc 4 1, 3) := by decide +kernel
theorem dX9_cut_61 : decode cX9_cut 61 = .ok (.goto (-37), 3) := by decide +kernel
theorem dX9_cut_64 : decode cX9_cut 64 = .ok (.aload_n 0, 1) := by decide +kernel
theorem dX9_cut_65 : decode cX9_cut 65 = .ok (.iconst 0, 1) := by decide +kernel
theorem dX9_cut_66 : decode cX9_cut 66 = .ok (.aload_n 0, 1) := by decide +kernel
theorem dX9_cut_67 : decode cX9_cut 67 = .ok (.getfield 132, 3) := by decide +kernel
theorem dX9_cut_70 : decode cX9_cut 70 = .ok (.iconst 0, 1) := by decide +kernel
theorem dX9_cut_71 : decode cX9_cut 71 = .ok (.invokevirtual 142, 3) := by decide +kernel
theorem dX9_cut_74 : decode cX9_cut 74 = .ok (.return_, 1) := by decide +kernel
def rpX9_cut : List Nat := [0, 1, 2, 5, 6, 7, 10, 11, 12, 15, 16, 17, 20, 21, 22, 24, 26, 27, 30, 31, 34, 35, 36, 39, 42, 43, 44, 47, 48, 49, 52, 53, 54, 57, 58, 61, 64, 65, 66, 67, 70, 71, 74]
noncomputable def rcX9_cut : List rz_B := [rz_aload 0, rz_aload 1, rz_putf (Nat.add (Nat.mul 256 11) 1) 9 rz_unR, rz_aload 0, rz_iload 2, rz_putf (Nat.add (Nat.mul 256 11) 1) 10 rz_unI, rz_aload 0, rz_cst 0, rz_putf (Nat.add (Nat.mul 256 11) 1) 14 rz_unI, rz_aload 0, rz_cst 0, rz_callV 1 (Nat.add (Nat.mul 256 11) 1) rgX9_pastBlanks, rz_istore 3, rz_cst 0, rz_istore 4, rz_iload 4, rz_iload 2, rz_icmpge 36, rz_iload 3, rz_iflt 36, rz_iload 3, rz_aload 0, rz_getf (Nat.add (Nat.mul 256 11) 1) 10 rz_i, rz_icmpge 36, rz_aload 0, rz_iload 3, rz_callV 1 (Nat.add (Nat.mul 256 11) 1) rgX9_cutOne, rz_istore 3, rz_iload 3, rz_iflt 34, rz_aload 0, rz_iload 3, rz_callV 1 (Nat.add (Nat.mul 256 11) 1) rgX9_pastBlanks, rz_istore 3, rz_iinc 4 1, rz_goto 15, rz_aload 0, rz_cst 0, rz_aload 0, rz_getf (Nat.add (Nat.mul 256 11) 1) 10 rz_i, rz_cst 0, rz_callVv 3 (Nat.add (Nat.mul 256 11) 1) rgX9_token, rz_vret]
noncomputable def rgX9_cut : rz_L → rz_M → rz_Z → Bool := rz_go rcX9_cut 5 1000000
def rrX9_cut : Room := { frames := 5, cells := 0, slots := 0, locals := 150 }
theorem rmX9_cut (l : Launch) {G : rz_G} (hG : rz_Gd G) (vs : rz_L) (M : rz_M) (Z : rz_Z) (hn : vs.length = 3) (h : rgX9_cut vs M Z = true) : Met l yX9_cut (Cond.code yX9_cut cX9_cut 5 none :: rz_TB) rrX9_cut (rz_Pre G vs M) (rz_Qv G M.2 Z) 0 0 (fun q => rz_b G ≤ q) := by
  obtain ⟨D, tc, ad, b, xs, rfl⟩ := id hG
  refine rz_body (pcs := rpX9_cut) (by decide) rfl (by rw [hn]; decide) h ?_
  intro p e R s m args below meth c hC
  obtain ⟨hx, hb, hml, hr, hlk, ho, hts, hKn, hRm⟩ := id hC
  obtain ⟨hK, hA, hSt⟩ := id hKn
  have hw : ∀ {i j : Nat} {ws : List Cond} {w : Cond}, rz_WW[i]? = some ws → ws[j]? = some w → w.before args s = true := fun h1 h2 => hts _ (List.mem_cons_of_mem _ (rz_mem h1 h2))
  refine rz_All_c (i := 0) (fun k J hk hJ => rz_aload_n_ok (pc := 0) hx hb dX9_cut_0 rfl hk) ?_
  refine rz_All_c (i := 1) (fun k J hk hJ => rz_aload_n_ok (pc := 1) hx hb dX9_cut_1 rfl hk) ?_
  refine rz_All_c (i := 2) (fun k J hk hJ => rz_putf_ok (pc := 2) (own := RX9) (ref := "ThreadJudge$Reader") (C := RX9) (T := TX9) (N := 19) (ci := 11) (index := 83) (f := 9) (t := 2) (Ts := Cond.code yX9_cut cX9_cut 5 none :: rz_TB) hx hb hts rz_in11 tyX9 tyX9_ok nmX9 ho hK hA rfl (by decide) rfl (rz_UnR _ (Or.inr ⟨_, rfl⟩)) rfl (tyX9_ok 9 (by decide)) (hw (i := 3) (j := 20) rfl rfl) (fun _ z => z) dX9_cut_2 hk) ?_
  refine rz_All_c (i := 3) (fun k J hk hJ => rz_aload_n_ok (pc := 5) hx hb dX9_cut_5 rfl hk) ?_
  refine rz_All_c (i := 4) (fun k J hk hJ => rz_iload_n_ok (pc := 6) hx hb dX9_cut_6 rfl hk) ?_
  refine rz_All_c (i := 5) (fun k J hk hJ => rz_putf_ok (pc := 7) (own := RX9) (ref := "ThreadJudge$Reader") (C := RX9) (T := TX9) (N := 19) (ci := 11) (index := 132) (f := 10) (t := 0) (Ts := Cond.code yX9_cut cX9_cut 5 none :: rz_TB) hx hb hts rz_in11 tyX9 tyX9_ok nmX9 ho hK hA rfl (by decide) rfl (rz_UnI _) rfl (tyX9_ok 10 (by decide)) (hw (i := 3) (j := 21) rfl rfl) (fun _ z => z) dX9_cut_7 hk) ?_
  refine rz_All_c (i := 6) (fun k J hk hJ => rz_aload_n_ok (pc := 10) hx hb dX9_cut_10 rfl hk) ?_
  refine rz_All_c (i := 7) (fun k J hk hJ => rz_iconst_ok (pc := 11) hx hb dX9_cut_11 rfl hk) ?_
  refine rz_All_c (i := 8) (fun k J hk hJ => rz_putf_ok (pc := 12) (own := RX9) (ref := "ThreadJudge$Reader") (C := RX9) (T := TX9) (N := 19) (ci := 11) (index := 129) (f := 14) (t := 0) (Ts := Cond.code yX9_cut cX9_cut 5 none :: rz_TB) hx hb hts rz_in11 tyX9 tyX9_ok nmX9 ho hK hA rfl (by decide) rfl (rz_UnI _) rfl (tyX9_ok 14 (by decide)) (hw (i := 3) (j := 13) rfl rfl) (fun _ z => z) dX9_cut_12 hk) ?_
  refine rz_All_c (i := 9) (fun k J hk hJ => rz_aload_n_ok (pc := 15) hx hb dX9_cut_15 rfl hk) ?_
  refine rz_All_c (i := 10) (fun k J hk hJ => rz_iconst_ok (pc := 16) hx hb dX9_cut_16 rfl hk) ?_
  refine rz_All_c (i := 11) (fun k J hk hJ => rz_callV_ok (pc := 17) (own := RX9) (C := RX9) (T0 := TX9) (N0 := 19) hC rfl (rmX9_pastBlanks l hG) (rz_cwV 1 hC rz_good (rz_mem (i := 3) (j := 22) rfl rfl) (rz_mem (i := 3) (j := 23) rfl rfl) (rz_mem (i := 4) (j := 0) rfl rfl) (rz_mem (i := 1) (j := 21) rfl rfl) (rz_mem (i := 4) (j := 1) rfl rfl) ⟨rfl, by decide, by decide, by decide +kernel⟩ rfl rfl ⟨by decide, by decide⟩) rfl dX9_cut_17 hk) ?_
  refine rz_All_c (i := 12) (fun k J hk hJ => rz_istore_n_ok (pc := 20) hx hb dX9_cut_20 rfl hk) ?_
  refine rz_All_c (i := 13) (fun k J hk hJ => rz_iconst_ok (pc := 21) hx hb dX9_cut_21 rfl hk) ?_
  refine rz_All_c (i := 14) (fun k J hk hJ => rz_istore_ok (pc := 22) hx hb dX9_cut_22 hk) ?_
  refine rz_All_c (i := 15) (fun k J hk hJ => rz_iload_ok (pc := 24) hx hb dX9_cut_24 hk) ?_
  refine rz_All_c (i := 16) (fun k J hk hJ => rz_iload_n_ok (pc := 26) hx hb dX9_cut_26 rfl hk) ?_
  refine rz_All_c (i := 17) (fun k J hk hJ => rz_icmpge_ok (pc := 27) hx hb dX9_cut_27 rfl hk (hJ 36)) ?_
  refine rz_All_c (i := 18) (fun k J hk hJ => rz_iload_n_ok (pc := 30) hx hb dX9_cut_30 rfl hk) ?_
  refine rz_All_c (i := 19) (fun k J hk hJ => rz_iflt_ok (pc := 31) hx hb dX9_cut_31 rfl hk (hJ 36)) ?_
  refine rz_All_c (i := 20) (fun k J hk hJ => rz_iload_n_ok (pc := 34) hx hb dX9_cut_34 rfl hk) ?_
  refine rz_All_c (i := 21) (fun k J hk hJ => rz_aload_n_ok (pc := 35) hx hb dX9_cut_35 rfl hk) ?_
  refine rz_All_c (i := 22) (fun k J hk hJ => rz_getf_ok (pc := 36) (own := RX9) (ref := "ThreadJudge$Reader") (C := RX9) (T := TX9) (N := 19) (ci := 11) (index := 132) (f := 10) (t := 0) (Ts := Cond.code yX9_cut cX9_cut 5 none :: rz_TB) hx hb hts rz_in11 ho hK rfl (by decide) rfl (fun _ => rfl) (hw (i := 3) (j := 21) rfl rfl) (fun _ z => z) dX9_cut_36 hk) ?_
  refine rz_All_c (i := 23) (fun k J hk hJ => rz_icmpge_ok (pc := 39) hx hb dX9_cut_39 rfl hk (hJ 36)) ?_
  refine rz_All_c (i := 24) (fun k J hk hJ => rz_aload_n_ok (pc := 42) hx hb dX9_cut_42 rfl hk) ?_
  refine rz_All_c (i := 25) (fun k J hk hJ => rz_iload_n_ok (pc := 43) hx hb dX9_cut_43 rfl hk) ?_
  refine rz_All_c (i := 26) (fun k J hk hJ => rz_callV_ok (pc := 44) (own := RX9) (C := RX9) (T0 := TX9) (N0 := 19) hC rfl (rmX9_cutOne l hG) (rz_cwV 1 hC rz_good (rz_mem (i := 4) (j := 5) rfl rfl) (rz_mem (i := 4) (j := 6) rfl rfl) (rz_mem (i := 4) (j := 7) rfl rfl) (rz_mem (i := 1) (j := 21) rfl rfl) (rz_mem (i := 4) (j := 8) rfl rfl) ⟨rfl, by decide, by decide, by decide +kernel⟩ rfl rfl ⟨by decide, by decide⟩) rfl dX9_cut_44 hk) ?_
  refine rz_All_c (i := 27) (fun k J hk hJ => rz_istore_n_ok (pc := 47) hx hb dX9_cut_47 rfl hk) ?_
  refine rz_All_c (i := 28) (fun k J hk hJ => rz_iload_n_ok (pc := 48) hx hb dX9_cut_48 rfl hk) ?_
  refine rz_All_c (i := 29) (fun k J hk hJ => rz_iflt_ok (pc := 49) hx hb dX9_cut_49 rfl hk (hJ 34)) ?_
  refine rz_All_c (i := 30) (fun k J hk hJ => rz_aload_n_ok (pc := 52) hx hb dX9_cut_52 rfl hk) ?_
  refine rz_All_c (i := 31) (fun k J hk hJ => rz_iload_n_ok (pc := 53) hx hb dX9_cut_53 rfl hk) ?_
  refine rz_All_c (i := 32) (fun k J hk hJ => rz_callV_ok (pc := 54) (own := RX9) (C := RX9) (T0 := TX9) (N0 := 19) hC rfl (rmX9_pastBlanks l hG) (rz_cwV 1 hC rz_good (rz_mem (i := 3) (j := 22) rfl rfl) (rz_mem (i := 3) (j := 23) rfl rfl) (rz_mem (i := 4) (j := 0) rfl rfl) (rz_mem (i := 1) (j := 21) rfl rfl) (rz_mem (i := 4) (j := 1) rfl rfl) ⟨rfl, by decide, by decide, by decide +kernel⟩ rfl rfl ⟨by decide, by decide⟩) rfl dX9_cut_54 hk) ?_
  refine rz_All_c (i := 33) (fun k J hk hJ => rz_istore_n_ok (pc := 57) hx hb dX9_cut_57 rfl hk) ?_
  refine rz_All_c (i := 34) (fun k J hk hJ => rz_iinc_ok (pc := 58) hx hb dX9_cut_58 (by decide) hk) ?_
  refine rz_All_c (i := 35) (fun k J hk hJ => rz_goto_ok (pc := 61) hx hb dX9_cut_61 rfl (hJ 15)) ?_
  refine rz_All_c (i := 36) (fun k J hk hJ => rz_aload_n_ok (pc := 64) hx hb dX9_cut_64 rfl hk) ?_
  refine rz_All_c (i := 37) (fun k J hk hJ => rz_iconst_ok (pc := 65) hx hb dX9_cut_65 rfl hk) ?_
  refine rz_All_c (i := 38) (fun k J hk hJ => rz_aload_n_ok (pc := 66) hx hb dX9_cut_66 rfl hk) ?_
  refine rz_All_c (i := 39) (fun k J hk hJ => rz_getf_ok (pc := 67) (own := RX9) (ref := "ThreadJudge$Reader") (C := RX9) (T := TX9) (N := 19) (ci := 11) (index := 132) (f := 10) (t := 0) (Ts := Cond.code yX9_cut cX9_cut 5 none :: rz_TB) hx hb hts rz_in11 ho hK rfl (by decide) rfl (fun _ => rfl) (hw (i := 3) (j := 21) rfl rfl) (fun _ z => z) dX9_cut_67 hk) ?_
  refine rz_All_c (i := 40) (fun k J hk hJ => rz_iconst_ok (pc := 70) hx hb dX9_cut_70 rfl hk) ?_
  refine rz_All_c (i := 41) (fun k J hk hJ => rz_callVv_ok (pc := 71) (own := RX9) (C := RX9) (T0 := TX9) (N0 := 19) hC rfl (rmX9_token l hG) (rz_cwV 3 hC rz_good (rz_mem (i := 4) (j := 22) rfl rfl) (rz_mem (i := 4) (j := 23) rfl rfl) (rz_mem (i := 5) (j := 0) rfl rfl) (rz_mem (i := 1) (j := 21) rfl rfl) (rz_mem (i := 5) (j := 1) rfl rfl) ⟨rfl, by decide, by decide, by decide +kernel⟩ rfl rfl ⟨by decide, by decide⟩) rfl dX9_cut_71 hk) ?_
  refine rz_All_c (i := 42) (fun k J hk hJ => rz_vret_ok (pc := 74) hC dX9_cut_74) ?_
  exact trivial
theorem dX9_isName_0 : decode cX9_isName 0 = .ok (.aload_n 0, 1) := by decide +kernel
theorem dX9_isName_1 : decode cX9_isName 1 = .ok (.getfield 28, 3) := by decide +kernel
theorem dX9_isName_4 : decode cX9_isName 4 = .ok (.aload_n 0, 1) := by decide +kernel
theorem dX9_isName_5 : decode cX9_isName 5 = .ok (.getfield 187, 3) := by decide +kernel
theorem dX9_isName_8 : decode cX9_isName 8 = .ok (.iaload, 1) := by decide +kernel
theorem dX9_isName_9 : decode cX9_isName 9 = .ok (.iconst 1, 1) := by decide +kernel
theorem dX9_isName_10 : decode cX9_isName 10 = .ok (.if_icmp .ne 21, 3) := by decide +kernel
theorem dX9_isName_13 : decode cX9_isName 13 = .ok (.aload_n 0, 1) := by decide +kernel
theorem dX9_isName_14 : decode cX9_isName 14 = .ok (.getfield 34, 3) := by decide +kernel
theorem dX9_isName_17 : decode cX9_isName 17 = .ok (.aload_n 0, 1) := by decide +kernel
theorem dX9_isName_18 : decode cX9_isName 18 = .ok (.getfield 187, 3) := by decide +kernel
theorem dX9_isName_21 : decode cX9_isName 21 = .ok (.iaload, 1) := by decide +kernel
theorem dX9_isName_22 : decode cX9_isName 22 = .ok (.bipush 73, 2) := by decide +kernel
theorem dX9_isName_24 : decode cX9_isName 24 = .ok (.if_icmp .lt 7, 3) := by decide +kernel
theorem dX9_isName_27 : decode cX9_isName 27 = .ok (.iconst 1, 1) := by decide +kernel
theorem dX9_isName_28 : decode cX9_isName 28 = .ok (.goto 4, 3) := by decide +kernel
theorem dX9_isName_31 : decode cX9_isName 31 = .ok (.iconst 0, 1) := by decide +kernel
theorem dX9_isName_32 : decode cX9_isName 32 = .ok (.ireturn, 1) := by decide +kernel
def rpX9_isName : List Nat := [0, 1, 4, 5, 8, 9, 10, 13, 14, 17, 18, 21, 22, 24, 27, 28, 31, 32]
noncomputable def rcX9_isName : List rz_B := [rz_aload 0, rz_getf (Nat.add (Nat.mul 256 11) 1) 11 rz_r, rz_aload 0, rz_getf (Nat.add (Nat.mul 256 11) 1) 15 rz_i, rz_iald, rz_cst 1, rz_icmpne 16, rz_aload 0, rz_getf (Nat.add (Nat.mul 256 11) 1) 13 rz_r, rz_aload 0, rz_getf (Nat.add (Nat.mul 256 11) 1) 15 rz_i, rz_iald, rz_cst 73, rz_icmplt 16, rz_cst 1, rz_goto 17, rz_cst 0, rz_zret]
noncomputable def rgX9_isName : rz_L → rz_M → rz_Z → Bool := rz_go rcX9_isName 1 1000000
def rrX9_isName : Room := { frames := 0, cells := 0, slots := 0, locals := 0 }
theorem rmX9_isName (l : Launch) {G : rz_G} (hG : rz_Gd G) (vs : rz_L) (M : rz_M) (Z : rz_Z) (hn : vs.length = 1) (h : rgX9_isName vs M Z = true) : Met l yX9_isName (Cond.code yX9_isName cX9_isName 1 (some .boolean) :: rz_TB) rrX9_isName (rz_Pre G vs M) (rz_Qi G M.2 Z) 0 0 (fun q => rz_b G ≤ q) := by
  obtain ⟨D, tc, ad, b, xs, rfl⟩ := id hG
  refine rz_body (pcs := rpX9_isName) (by decide) rfl (by rw [hn]; decide) h ?_
  intro p e R s m args below meth c hC
  obtain ⟨hx, hb, hml, hr, hlk, ho, hts, hKn, hRm⟩ := id hC
  obtain ⟨hK, hA, hSt⟩ := id hKn
  have hw : ∀ {i j : Nat} {ws : List Cond} {w : Cond}, rz_WW[i]? = some ws → ws[j]? = some w → w.before args s = true := fun h1 h2 => hts _ (List.mem_cons_of_mem _ (rz_mem h1 h2))
  refine rz_All_c (i := 0) (fun k J hk hJ => rz_aload_n_ok (pc := 0) hx hb dX9_isName_0 rfl hk) ?_
  refine rz_All_c (i := 1) (fun k J hk hJ => rz_getf_ok (pc := 1) (own := RX9) (ref := "ThreadJudge$Reader") (C := RX9) (T := TX9) (N := 19) (ci := 11) (index := 28) (f := 11) (t := 2) (Ts := Cond.code yX9_isName cX9_isName 1 (some .boolean) :: rz_TB) hx hb hts rz_in11 ho hK rfl (by decide) rfl (fun _ => rfl) (hw (i := 3) (j := 14) rfl rfl) (fun _ z => z) dX9_isName_1 hk) ?_
  refine rz_All_c (i := 2) (fun k J hk hJ => rz_aload_n_ok (pc := 4) hx hb dX9_isName_4 rfl hk) ?_
  refine rz_All_c (i := 3) (fun k J hk hJ => rz_getf_ok (pc := 5) (own := RX9) (ref := "ThreadJudge$Reader") (C := RX9) (T := TX9) (N := 19) (ci := 11) (index := 187) (f := 15) (t := 0) (Ts := Cond.code yX9_isName cX9_isName 1 (some .boolean) :: rz_TB) hx hb hts rz_in11 ho hK rfl (by decide) rfl (fun _ => rfl) (hw (i := 3) (j := 11) rfl rfl) (fun _ z => z) dX9_isName_5 hk) ?_
  refine rz_All_c (i := 4) (fun k J hk hJ => rz_iald_ok (pc := 8) hx hb hK dX9_isName_8 hk) ?_
  refine rz_All_c (i := 5) (fun k J hk hJ => rz_iconst_ok (pc := 9) hx hb dX9_isName_9 rfl hk) ?_
  refine rz_All_c (i := 6) (fun k J hk hJ => rz_icmpne_ok (pc := 10) hx hb dX9_isName_10 rfl hk (hJ 16)) ?_
  refine rz_All_c (i := 7) (fun k J hk hJ => rz_aload_n_ok (pc := 13) hx hb dX9_isName_13 rfl hk) ?_
  refine rz_All_c (i := 8) (fun k J hk hJ => rz_getf_ok (pc := 14) (own := RX9) (ref := "ThreadJudge$Reader") (C := RX9) (T := TX9) (N := 19) (ci := 11) (index := 34) (f := 13) (t := 2) (Ts := Cond.code yX9_isName cX9_isName 1 (some .boolean) :: rz_TB) hx hb hts rz_in11 ho hK rfl (by decide) rfl (fun _ => rfl) (hw (i := 5) (j := 2) rfl rfl) (fun _ z => z) dX9_isName_14 hk) ?_
  refine rz_All_c (i := 9) (fun k J hk hJ => rz_aload_n_ok (pc := 17) hx hb dX9_isName_17 rfl hk) ?_
  refine rz_All_c (i := 10) (fun k J hk hJ => rz_getf_ok (pc := 18) (own := RX9) (ref := "ThreadJudge$Reader") (C := RX9) (T := TX9) (N := 19) (ci := 11) (index := 187) (f := 15) (t := 0) (Ts := Cond.code yX9_isName cX9_isName 1 (some .boolean) :: rz_TB) hx hb hts rz_in11 ho hK rfl (by decide) rfl (fun _ => rfl) (hw (i := 3) (j := 11) rfl rfl) (fun _ z => z) dX9_isName_18 hk) ?_
  refine rz_All_c (i := 11) (fun k J hk hJ => rz_iald_ok (pc := 21) hx hb hK dX9_isName_21 hk) ?_
  refine rz_All_c (i := 12) (fun k J hk hJ => rz_bipush_ok (pc := 22) hx hb dX9_isName_22 (by decide) hk) ?_
  refine rz_All_c (i := 13) (fun k J hk hJ => rz_icmplt_ok (pc := 24) hx hb dX9_isName_24 rfl hk (hJ 16)) ?_
  refine rz_All_c (i := 14) (fun k J hk hJ => rz_iconst_ok (pc := 27) hx hb dX9_isName_27 rfl hk) ?_
  refine rz_All_c (i := 15) (fun k J hk hJ => rz_goto_ok (pc := 28) hx hb dX9_isName_28 rfl (hJ 17)) ?_
  refine rz_All_c (i := 16) (fun k J hk hJ => rz_iconst_ok (pc := 31) hx hb dX9_isName_31 rfl hk) ?_
  refine rz_All_c (i := 17) (fun k J hk hJ => rz_zret_ok (pc := 32) hC dX9_isName_32) ?_
  exact trivial
theorem dX9_isSign_0 : decode cX9_isSign 0 = .ok (.aload_n 0, 1) := by decide +kernel
theorem dX9_isSign_1 : decode cX9_isSign 1 = .ok (.getfield 28, 3) := by decide +kernel
theorem dX9_isSign_4 : decode cX9_isSign 4 = .ok (.aload_n 0, 1) := by decide +kernel
theorem dX9_isSign_5 : decode cX9_isSign 5 = .ok (.getfield 187, 3) := by decide +kernel
theorem dX9_isSign_8 : decode cX9_isSign 8 = .ok (.iaload, 1) := by decide +kernel
theorem dX9_isSign_9 : decode cX9_isSign 9 = .ok (.iconst 4, 1) := by decide +kernel
theorem dX9_isSign_10 : decode cX9_isSign 10 = .ok (.if_icmp .ne 20, 3) := by decide +kernel
theorem dX9_isSign_13 : decode cX9_isSign 13 = .ok (.aload_n 0, 1) := by decide +kernel
theorem dX9_isSign_14 : decode cX9_isSign 14 = .ok (.getfield 34, 3) := by decide +kernel
theorem dX9_isSign_17 : decode cX9_isSign 17 = .ok (.aload_n 0, 1) := by decide +kernel
theorem dX9_isSign_18 : decode cX9_isSign 18 = .ok (.getfield 187, 3) := by decide +kernel
theorem dX9_isSign_21 : decode cX9_isSign 21 = .ok (.iaload, 1) := by decide +kernel
theorem dX9_isSign_22 : decode cX9_isSign 22 = .ok (.iload_n 1, 1) := by decide +kernel
theorem dX9_isSign_23 : decode cX9_isSign 23 = .ok (.if_icmp .ne 7, 3) := by decide +kernel
theorem dX9_isSign_26 : decode cX9_isSign 26 = .ok (.iconst 1, 1) := by decide +kernel
theorem dX9_isSign_27 : decode cX9_isSign 27 = .ok (.goto 4, 3) := by decide +kernel
theorem dX9_isSign_30 : decode cX9_isSign 30 = .ok (.iconst 0, 1) := by decide +kernel
theorem dX9_isSign_31 : decode cX9_isSign 31 = .ok (.ireturn, 1) := by decide +kernel
def rpX9_isSign : List Nat := [0, 1, 4, 5, 8, 9, 10, 13, 14, 17, 18, 21, 22, 23, 26, 27, 30, 31]
noncomputable def rcX9_isSign : List rz_B := [rz_aload 0, rz_getf (Nat.add (Nat.mul 256 11) 1) 11 rz_r, rz_aload 0, rz_getf (Nat.add (Nat.mul 256 11) 1) 15 rz_i, rz_iald, rz_cst 4, rz_icmpne 16, rz_aload 0, rz_getf (Nat.add (Nat.mul 256 11) 1) 13 rz_r, rz_aload 0, rz_getf (Nat.add (Nat.mul 256 11) 1) 15 rz_i, rz_iald, rz_iload 1, rz_icmpne 16, rz_cst 1, rz_goto 17, rz_cst 0, rz_zret]
noncomputable def rgX9_isSign : rz_L → rz_M → rz_Z → Bool := rz_go rcX9_isSign 2 1000000
def rrX9_isSign : Room := { frames := 0, cells := 0, slots := 0, locals := 0 }
theorem rmX9_isSign (l : Launch) {G : rz_G} (hG : rz_Gd G) (vs : rz_L) (M : rz_M) (Z : rz_Z) (hn : vs.length = 2) (h : rgX9_isSign vs M Z = true) : Met l yX9_isSign (Cond.code yX9_isSign cX9_isSign 2 (some .boolean) :: rz_TB) rrX9_isSign (rz_Pre G vs M) (rz_Qi G M.2 Z) 0 0 (fun q => rz_b G ≤ q) := by
  obtain ⟨D, tc, ad, b, xs, rfl⟩ := id hG
  refine rz_body (pcs := rpX9_isSign) (by decide) rfl (by rw [hn]; decide) h ?_
  intro p e R s m args below meth c hC
  obtain ⟨hx, hb, hml, hr, hlk, ho, hts, hKn, hRm⟩ := id hC
  obtain ⟨hK, hA, hSt⟩ := id hKn
  have hw : ∀ {i j : Nat} {ws : List Cond} {w : Cond}, rz_WW[i]? = some ws → ws[j]? = some w → w.before args s = true := fun h1 h2 => hts _ (List.mem_cons_of_mem _ (rz_mem h1 h2))
  refine rz_All_c (i := 0) (fun k J hk hJ => rz_aload_n_ok (pc := 0) hx hb dX9_isSign_0 rfl hk) ?_
  refine rz_All_c (i := 1) (fun k J hk hJ => rz_getf_ok (pc := 1) (own := RX9) (ref := "ThreadJudge$Reader") (C := RX9) (T := TX9) (N := 19) (ci := 11) (index := 28) (f := 11) (t := 2) (Ts := Cond.code yX9_isSign cX9_isSign 2 (some .boolean) :: rz_TB) hx hb hts rz_in11 ho hK rfl (by decide) rfl (fun _ => rfl) (hw (i := 3) (j := 14) rfl rfl) (fun _ z => z) dX9_isSign_1 hk) ?_
  refine rz_All_c (i := 2) (fun k J hk hJ => rz_aload_n_ok (pc := 4) hx hb dX9_isSign_4 rfl hk) ?_
  refine rz_All_c (i := 3) (fun k J hk hJ => rz_getf_ok (pc := 5) (own := RX9) (ref := "ThreadJudge$Reader") (C := RX9) (T := TX9) (N := 19) (ci := 11) (index := 187) (f := 15) (t := 0) (Ts := Cond.code yX9_isSign cX9_isSign 2 (some .boolean) :: rz_TB) hx hb hts rz_in11 ho hK rfl (by decide) rfl (fun _ => rfl) (hw (i := 3) (j := 11) rfl rfl) (fun _ z => z) dX9_isSign_5 hk) ?_
  refine rz_All_c (i := 4) (fun k J hk hJ => rz_iald_ok (pc := 8) hx hb hK dX9_isSign_8 hk) ?_
  refine rz_All_c (i := 5) (fun k J hk hJ => rz_iconst_ok (pc := 9) hx hb dX9_isSign_9 rfl hk) ?_
  refine rz_All_c (i := 6) (fun k J hk hJ => rz_icmpne_ok (pc := 10) hx hb dX9_isSign_10 rfl hk (hJ 16)) ?_
  refine rz_All_c (i := 7) (fun k J hk hJ => rz_aload_n_ok (pc := 13) hx hb dX9_isSign_13 rfl hk) ?_
  refine rz_All_c (i := 8) (fun k J hk hJ => rz_getf_ok (pc := 14) (own := RX9) (ref := "ThreadJudge$Reader") (C := RX9) (T := TX9) (N := 19) (ci := 11) (index := 34) (f := 13) (t := 2) (Ts := Cond.code yX9_isSign cX9_isSign 2 (some .boolean) :: rz_TB) hx hb hts rz_in11 ho hK rfl (by decide) rfl (fun _ => rfl) (hw (i := 5) (j := 2) rfl rfl) (fun _ z => z) dX9_isSign_14 hk) ?_
  refine rz_All_c (i := 9) (fun k J hk hJ => rz_aload_n_ok (pc := 17) hx hb dX9_isSign_17 rfl hk) ?_
  refine rz_All_c (i := 10) (fun k J hk hJ => rz_getf_ok (pc := 18) (own := RX9) (ref := "ThreadJudge$Reader") (C := RX9) (T := TX9) (N := 19) (ci := 11) (index := 187) (f := 15) (t := 0) (Ts := Cond.code yX9_isSign cX9_isSign 2 (some .boolean) :: rz_TB) hx hb hts rz_in11 ho hK rfl (by decide) rfl (fun _ => rfl) (hw (i := 3) (j := 11) rfl rfl) (fun _ z => z) dX9_isSign_18 hk) ?_
  refine rz_All_c (i := 11) (fun k J hk hJ => rz_iald_ok (pc := 21) hx hb hK dX9_isSign_21 hk) ?_
  refine rz_All_c (i := 12) (fun k J hk hJ => rz_iload_n_ok (pc := 22) hx hb dX9_isSign_22 rfl hk) ?_
  refine rz_All_c (i := 13) (fun k J hk hJ => rz_icmpne_ok (pc := 23) hx hb dX9_isSign_23 rfl hk (hJ 16)) ?_
  refine rz_All_c (i := 14) (fun k J hk hJ => rz_iconst_ok (pc := 26) hx hb dX9_isSign_26 rfl hk) ?_
  refine rz_All_c (i := 15) (fun k J hk hJ => rz_goto_ok (pc := 27) hx hb dX9_isSign_27 rfl (hJ 17)) ?_
  refine rz_All_c (i := 16) (fun k J hk hJ => rz_iconst_ok (pc := 30) hx hb dX9_isSign_30 rfl hk) ?_
  refine rz_All_c (i := 17) (fun k J hk hJ => rz_zret_ok (pc := 31) hC dX9_isSign_31) ?_
  exact trivial
theorem dX9_isWord_0 : decode cX9_isWord 0 = .ok (.aload_n 0, 1) := by decide +kernel
theorem dX9_isWord_1 : decode cX9_isWord 1 = .ok (.getfield 28, 3) := by decide +kernel
theorem dX9_isWord_4 : decode cX9_isWord 4 = .ok (.aload_n 0, 1) := by decide +kernel
theorem dX9_isWord_5 : decode cX9_isWord 5 = .ok (.getfield 187, 3) := by decide +kernel
theorem dX9_isWord_8 : decode cX9_isWord 8 = .ok (.iaload, 1) := by decide +kernel
theorem dX9_isWord_9 : decode cX9_isWord 9 = .ok (.iconst 1, 1) := by decide +kernel
theorem dX9_isWord_10 : decode cX9_isWord 10 = .ok (.if_icmp .ne 20, 3) := by decide +kernel
theorem dX9_isWord_13 : decode cX9_isWord 13 = .ok (.aload_n 0, 1) := by decide +kernel
theorem dX9_isWord_14 : decode cX9_isWord 14 = .ok (.getfield 34, 3) := by decide +kernel
theorem dX9_isWord_17 : decode cX9_isWord 17 = .ok (.aload_n 0, 1) := by decide +kernel
theorem dX9_isWord_18 : decode cX9_isWord 18 = .ok (.getfield 187, 3) := by decide +kernel
theorem dX9_isWord_21 : decode cX9_isWord 21 = .ok (.iaload, 1) := by decide +kernel
theorem dX9_isWord_22 : decode cX9_isWord 22 = .ok (.iload_n 1, 1) := by decide +kernel
theorem dX9_isWord_23 : decode cX9_isWord 23 = .ok (.if_icmp .ne 7, 3) := by decide +kernel
theorem dX9_isWord_26 : decode cX9_isWord 26 = .ok (.iconst 1, 1) := by decide +kernel
theorem dX9_isWord_27 : decode cX9_isWord 27 = .ok (.goto 4, 3) := by decide +kernel
theorem dX9_isWord_30 : decode cX9_isWord 30 = .ok (.iconst 0, 1) := by decide +kernel
theorem dX9_isWord_31 : decode cX9_isWord 31 = .ok (.ireturn, 1) := by decide +kernel
def rpX9_isWord : List Nat := [0, 1, 4, 5, 8, 9, 10, 13, 14, 17, 18, 21, 22, 23, 26, 27, 30, 31]
noncomputable def rcX9_isWord : List rz_B := [rz_aload 0, rz_getf (Nat.add (Nat.mul 256 11) 1) 11 rz_r, rz_aload 0, rz_getf (Nat.add (Nat.mul 256 11) 1) 15 rz_i, rz_iald, rz_cst 1, rz_icmpne 16, rz_aload 0, rz_getf (Nat.add (Nat.mul 256 11) 1) 13 rz_r, rz_aload 0, rz_getf (Nat.add (Nat.mul 256 11) 1) 15 rz_i, rz_iald, rz_iload 1, rz_icmpne 16, rz_cst 1, rz_goto 17, rz_cst 0, rz_zret]
noncomputable def rgX9_isWord : rz_L → rz_M → rz_Z → Bool := rz_go rcX9_isWord 2 1000000
def rrX9_isWord : Room := { frames := 0, cells := 0, slots := 0, locals := 0 }
theorem rmX9_isWord (l : Launch) {G : rz_G} (hG : rz_Gd G) (vs : rz_L) (M : rz_M) (Z : rz_Z) (hn : vs.length = 2) (h : rgX9_isWord vs M Z = true) : Met l yX9_isWord (Cond.code yX9_isWord cX9_isWord 2 (some .boolean) :: rz_TB) rrX9_isWord (rz_Pre G vs M) (rz_Qi G M.2 Z) 0 0 (fun q => rz_b G ≤ q) := by
  obtain ⟨D, tc, ad, b, xs, rfl⟩ := id hG
  refine rz_body (pcs := rpX9_isWord) (by decide) rfl (by rw [hn]; decide) h ?_
  intro p e R s m args below meth c hC
  obtain ⟨hx, hb, hml, hr, hlk, ho, hts, hKn, hRm⟩ := id hC
  obtain ⟨hK, hA, hSt⟩ := id hKn
  have hw : ∀ {i j : Nat} {ws : List Cond} {w : Cond}, rz_WW[i]? = some ws → ws[j]? = some w → w.before args s = true := fun h1 h2 => hts _ (List.mem_cons_of_mem _ (rz_mem h1 h2))
  refine rz_All_c (i := 0) (fun k J hk hJ => rz_aload_n_ok (pc := 0) hx hb dX9_isWord_0 rfl hk) ?_
  refine rz_All_c (i := 1) (fun k J hk hJ => rz_getf_ok (pc := 1) (own := RX9) (ref := "ThreadJudge$Reader") (C := RX9) (T := TX9) (N := 19) (ci := 11) (index := 28) (f := 11) (t := 2) (Ts := Cond.code yX9_isWord cX9_isWord 2 (some .boolean) :: rz_TB) hx hb hts rz_in11 ho hK rfl (by decide) rfl (fun _ => rfl) (hw (i := 3) (j := 14) rfl rfl) (fun _ z => z) dX9_isWord_1 hk) ?_
  refine rz_All_c (i := 2) (fun k J hk hJ => rz_aload_n_ok (pc := 4) hx hb dX9_isWord_4 rfl hk) ?_
  refine rz_All_c (i := 3) (fun k J hk hJ => rz_getf_ok (pc := 5) (own := RX9) (ref := "ThreadJudge$Reader") (C := RX9) (T := TX9) (N := 19) (ci := 11) (index := 187) (f := 15) (t := 0) (Ts := Cond.code yX9_isWord cX9_isWord 2 (some .boolean) :: rz_TB) hx hb hts rz_in11 ho hK rfl (by decide) rfl (fun _ => rfl) (hw (i := 3) (j := 11) rfl rfl) (fun _ z => z) dX9_isWord_5 hk) ?_
  refine rz_All_c (i := 4) (fun k J hk hJ => rz_iald_ok (pc := 8) hx hb hK dX9_isWord_8 hk) ?_
  refine rz_All_c (i := 5) (fun k J hk hJ => rz_iconst_ok (pc := 9) hx hb dX9_isWord_9 rfl hk) ?_
  refine rz_All_c (i := 6) (fun k J hk hJ => rz_icmpne_ok (pc := 10) hx hb dX9_isWord_10 rfl hk (hJ 16)) ?_
  refine rz_All_c (i := 7) (fun k J hk hJ => rz_aload_n_ok (pc := 13) hx hb dX9_isWord_13 rfl hk) ?_
  refine rz_All_c (i := 8) (fun k J hk hJ => rz_getf_ok (pc := 14) (own := RX9) (ref := "ThreadJudge$Reader") (C := RX9) (T := TX9) (N := 19) (ci := 11) (index := 34) (f := 13) (t := 2) (Ts := Cond.code yX9_isWord cX9_isWord 2 (some .boolean) :: rz_TB) hx hb hts rz_in11 ho hK rfl (by decide) rfl (fun _ => rfl) (hw (i := 5) (j := 2) rfl rfl) (fun _ z => z) dX9_isWord_14 hk) ?_
  refine rz_All_c (i := 9) (fun k J hk hJ => rz_aload_n_ok (pc := 17) hx hb dX9_isWord_17 rfl hk) ?_
  refine rz_All_c (i := 10) (fun k J hk hJ => rz_getf_ok (pc := 18) (own := RX9) (ref := "ThreadJudge$Reader") (C := RX9) (T := TX9) (N := 19) (ci := 11) (index := 187) (f := 15) (t := 0) (Ts := Cond.code yX9_isWord cX9_isWord 2 (some .boolean) :: rz_TB) hx hb hts rz_in11 ho hK rfl (by decide) rfl (fun _ => rfl) (hw (i := 3) (j := 11) rfl rfl) (fun _ z => z) dX9_isWord_18 hk) ?_
  refine rz_All_c (i := 11) (fun k J hk hJ => rz_iald_ok (pc := 21) hx hb hK dX9_isWord_21 hk) ?_
  refine rz_All_c (i := 12) (fun k J hk hJ => rz_iload_n_ok (pc := 22) hx hb dX9_isWord_22 rfl hk) ?_
  refine rz_All_c (i := 13) (fun k J hk hJ => rz_icmpne_ok (pc := 23) hx hb dX9_isWord_23 rfl hk (hJ 16)) ?_
  refine rz_All_c (i := 14) (fun k J hk hJ => rz_iconst_ok (pc := 26) hx hb dX9_isWord_26 rfl hk) ?_
  refine rz_All_c (i := 15) (fun k J hk hJ => rz_goto_ok (pc := 27) hx hb dX9_isWord_27 rfl (hJ 17)) ?_
  refine rz_All_c (i := 16) (fun k J hk hJ => rz_iconst_ok (pc := 30) hx hb dX9_isWord_30 rfl hk) ?_
  refine rz_All_c (i := 17) (fun k J hk hJ => rz_zret_ok (pc := 31) hC dX9_isWord_31) ?_
  exact trivial
theorem dX9_spot_0 : decode cX9_spot 0 = .ok (.aload_n 0, 1) := by decide +kernel
theorem dX9_spot_1 : decode cX9_spot 1 = .ok (.getfield 83, 3) := by decide +kernel
theorem dX9_spot_4 : decode cX9_spot 4 = .ok (.aload_n 0, 1) := by decide +kernel
theorem dX9_spot_5 : decode cX9_spot 5 = .ok (.getfield 80, 3) := by decide +kernel
theorem dX9_spot_8 : decode cX9_spot 8 = .ok (.if_acmp .ne 7, 3) := by decide +kernel
theorem dX9_spot_11 : decode cX9_spot 11 = .ok (.iconst (-1), 1) := by decide +kernel
theorem dX9_spot_12 : decode cX9_spot 12 = .ok (.goto 12, 3) := by decide +kernel
theorem dX9_spot_24 : decode cX9_spot 24 = .ok (.ireturn, 1) := by decide +kernel
def rpX9_spot : List Nat := [0, 1, 4, 5, 8, 11, 12, 15, 24]
noncomputable def rcX9_spot : List rz_B := [rz_aload 0, rz_getf (Nat.add (Nat.mul 256 11) 1) 9 rz_r, rz_aload 0, rz_getf (Nat.add (Nat.mul 256 11) 1) 2 rz_r, rz_acmpne 7, rz_cst 4294967295, rz_goto 8, rz_no, rz_iret]
noncomputable def rgX9_spot : rz_L → rz_M → rz_Z → Bool := rz_go rcX9_spot 1 1000000
def rrX9_spot : Room := { frames := 0, cells := 0, slots := 0, locals := 0 }
theorem rmX9_spot (l : Launch) {G : rz_G} (hG : rz_Gd G) (vs : rz_L) (M : rz_M) (Z : rz_Z) (hn : vs.length = 1) (h : rgX9_spot vs M Z = true) : Met l yX9_spot (Cond.code yX9_spot cX9_spot 1 (some .int) :: rz_TB) rrX9_spot (rz_Pre G vs M) (rz_Qi G M.2 Z) 0 0 (fun q => rz_b G ≤ q) := by
  obtain ⟨D, tc, ad, b, xs, rfl⟩ := id hG
  refine rz_body (pcs := rpX9_spot) (by decide) rfl (by rw [hn]; decide) h ?_
  intro p e R s m args below meth c hC
  obtain ⟨hx, hb, hml, hr, hlk, ho, hts, hKn, hRm⟩ := id hC
  obtain ⟨hK, hA, hSt⟩ := id hKn
  have hw : ∀ {i j : Nat} {ws : List Cond} {w : Cond}, rz_WW[i]? = some ws → ws[j]? = some w → w.before args s = true := fun h1 h2 => hts _ (List.mem_cons_of_mem _ (rz_mem h1 h2))
  refine rz_All_c (i := 0) (fun k J hk hJ => rz_aload_n_ok (pc := 0) hx hb dX9_spot_0 rfl hk) ?_
  refine rz_All_c (i := 1) (fun k J hk hJ => rz_getf_ok (pc := 1) (own := RX9) (ref := "ThreadJudge$Reader") (C := RX9) (T := TX9) (N := 19) (ci := 11) (index := 83) (f := 9) (t := 2) (Ts := Cond.code yX9_spot cX9_spot 1 (some .int) :: rz_TB) hx hb hts rz_in11 ho hK rfl (by decide) rfl (fun _ => rfl) (hw (i := 3) (j := 20) rfl rfl) (fun _ z => z) dX9_spot_1 hk) ?_
  refine rz_All_c (i := 2) (fun k J hk hJ => rz_aload_n_ok (pc := 4) hx hb dX9_spot_4 rfl hk) ?_
  refine rz_All_c (i := 3) (fun k J hk hJ => rz_getf_ok (pc := 5) (own := RX9) (ref := "ThreadJudge$Reader") (C := RX9) (T := TX9) (N := 19) (ci := 11) (index := 80) (f := 2) (t := 2) (Ts := Cond.code yX9_spot cX9_spot 1 (some .int) :: rz_TB) hx hb hts rz_in11 ho hK rfl (by decide) rfl (fun _ => rfl) (hw (i := 10) (j := 18) rfl rfl) (fun _ z => z) dX9_spot_5 hk) ?_
  refine rz_All_c (i := 4) (fun k J hk hJ => rz_acmpne_ok (pc := 8) hx hb hA dX9_spot_8 rfl hk (hJ 7)) ?_
  refine rz_All_c (i := 5) (fun k J hk hJ => rz_iconst_ok (pc := 11) hx hb dX9_spot_11 rfl hk) ?_
  refine rz_All_c (i := 6) (fun k J hk hJ => rz_goto_ok (pc := 12) hx hb dX9_spot_12 rfl (hJ 8)) ?_
  refine rz_All_c (i := 7) (fun k J hk hJ => rz_no_ok) ?_
  refine rz_All_c (i := 8) (fun k J hk hJ => rz_iret_ok (pc := 24) hC dX9_spot_24) ?_
  exact trivial
theorem dX9_takeName_0 : decode cX9_takeName 0 = .ok (.aload_n 0, 1) := by decide +kernel
theorem dX9_takeName_1 : decode cX9_takeName 1 = .ok (.getfield 28, 3) := by decide +kernel
theorem dX9_takeName_4 : decode cX9_takeName 4 = .ok (.aload_n 0, 1) := by decide +kernel
theorem dX9_takeName_5 : decode cX9_takeName 5 = .ok (.getfield 187, 3) := by decide +kernel
theorem dX9_takeName_8 : decode cX9_takeName 8 = .ok (.iaload, 1) := by decide +kernel
theorem dX9_takeName_9 : decode cX9_takeName 9 = .ok (.iconst 1, 1) := by decide +kernel
theorem dX9_takeName_10 : decode cX9_takeName 10 = .ok (.if_icmp .ne 17, 3) := by decide +kernel
theorem dX9_takeName_13 : decode cX9_takeName 13 = .ok (.aload_n 0, 1) := by decide +kernel
theorem dX9_takeName_14 : decode cX9_takeName 14 = .ok (.getfield 34, 3) := by decide +kernel
theorem dX9_takeName_17 : decode cX9_takeName 17 = .ok (.aload_n 0, 1) := by decide +kernel
theorem dX9_takeName_18 : decode cX9_takeName 18 = .ok (.getfield 187, 3) := by decide +kernel
theorem dX9_takeName_21 : decode cX9_takeName 21 = .ok (.iaload, 1) := by decide +kernel
theorem dX9_takeName_22 : decode cX9_takeName 22 = .ok (.bipush 73, 2) := by decide +kernel
theorem dX9_takeName_24 : decode cX9_takeName 24 = .ok (.if_icmp .ge 5, 3) := by decide +kernel
theorem dX9_takeName_29 : decode cX9_takeName 29 = .ok (.aload_n 0, 1) := by decide +kernel
theorem dX9_takeName_30 : decode cX9_takeName 30 = .ok (.getfield 34, 3) := by decide +kernel
theorem dX9_takeName_33 : decode cX9_takeName 33 = .ok (.aload_n 0, 1) := by decide +kernel
theorem dX9_takeName_34 : decode cX9_takeName 34 = .ok (.dup, 1) := by decide +kernel
theorem dX9_takeName_35 : decode cX9_takeName 35 = .ok (.getfield 187, 3) := by decide +kernel
theorem dX9_takeName_38 : decode cX9_takeName 38 = .ok (.dup_x1, 1) := by decide +kernel
theorem dX9_takeName_39 : decode cX9_takeName 39 = .ok (.iconst 1, 1) := by decide +kernel
theorem dX9_takeName_40 : decode cX9_takeName 40 = .ok (.iadd, 1) := by decide +kernel
theorem dX9_takeName_41 : decode cX9_takeName 41 = .ok (.putfield 187, 3) := by decide +kernel
theorem dX9_takeName_44 : decode cX9_takeName 44 = .ok (.iaload, 1) := by decide +kernel
theorem dX9_takeName_45 : decode cX9_takeName 45 = .ok (.ireturn, 1) := by decide +kernel
def rpX9_takeName : List Nat := [0, 1, 4, 5, 8, 9, 10, 13, 14, 17, 18, 21, 22, 24, 27, 29, 30, 33, 34, 35, 38, 39, 40, 41, 44, 45]
noncomputable def rcX9_takeName : List rz_B := [rz_aload 0, rz_getf (Nat.add (Nat.mul 256 11) 1) 11 rz_r, rz_aload 0, rz_getf (Nat.add (Nat.mul 256 11) 1) 15 rz_i, rz_iald, rz_cst 1, rz_icmpne 14, rz_aload 0, rz_getf (Nat.add (Nat.mul 256 11) 1) 13 rz_r, rz_aload 0, rz_getf (Nat.add (Nat.mul 256 11) 1) 15 rz_i, rz_iald, rz_cst 73, rz_icmpge 15, rz_no, rz_aload 0, rz_getf (Nat.add (Nat.mul 256 11) 1) 13 rz_r, rz_aload 0, rz_dup, rz_getf (Nat.add (Nat.mul 256 11) 1) 15 rz_i, rz_dup_x1, rz_cst 1, rz_iadd, rz_putf (Nat.add (Nat.mul 256 11) 1) 15 rz_unI, rz_iald, rz_iret]
noncomputable def rgX9_takeName : rz_L → rz_M → rz_Z → Bool := rz_go rcX9_takeName 1 1000000
def rrX9_takeName : Room := { frames := 0, cells := 0, slots := 0, locals := 0 }
theorem rmX9_takeName (l : Launch) {G : rz_G} (hG : rz_Gd G) (vs : rz_L) (M : rz_M) (Z : rz_Z) (hn : vs.length = 1) (h : rgX9_takeName vs M Z = true) : Met l yX9_takeName (Cond.code yX9_takeName cX9_takeName 1 (some .int) :: rz_TB) rrX9_takeName (rz_Pre G vs M) (rz_Qi G M.2 Z) 0 0 (fun q => rz_b G ≤ q) := by
  obtain ⟨D, tc, ad, b, xs, rfl⟩ := id hG
  refine rz_body (pcs := rpX9_takeName) (by decide) rfl (by rw [hn]; decide) h ?_
  intro p e R s m args below meth c hC
  obtain ⟨hx, hb, hml, hr, hlk, ho, hts, hKn, hRm⟩ := id hC
  obtain ⟨hK, hA, hSt⟩ := id hKn
  have hw : ∀ {i j : Nat} {ws : List Cond} {w : Cond}, rz_WW[i]? = some ws → ws[j]? = some w → w.before args s = true := fun h1 h2 => hts _ (List.mem_cons_of_mem _ (rz_mem h1 h2))
  refine rz_All_c (i := 0) (fun k J hk hJ => rz_aload_n_ok (pc := 0) hx hb dX9_takeName_0 rfl hk) ?_
  refine rz_All_c (i := 1) (fun k J hk hJ => rz_getf_ok (pc := 1) (own := RX9) (ref := "ThreadJudge$Reader") (C := RX9) (T := TX9) (N := 19) (ci := 11) (index := 28) (f := 11) (t := 2) (Ts := Cond.code yX9_takeName cX9_takeName 1 (some .int) :: rz_TB) hx hb hts rz_in11 ho hK rfl (by decide) rfl (fun _ => rfl) (hw (i := 3) (j := 14) rfl rfl) (fun _ z => z) dX9_takeName_1 hk) ?_
  refine rz_All_c (i := 2) (fun k J hk hJ => rz_aload_n_ok (pc := 4) hx hb dX9_takeName_4 rfl hk) ?_
  refine rz_All_c (i := 3) (fun k J hk hJ => rz_getf_ok (pc := 5) (own := RX9) (ref := "ThreadJudge$Reader") (C := RX9) (T := TX9) (N := 19) (ci := 11) (index := 187) (f := 15) (t := 0) (Ts := Cond.code yX9_takeName cX9_takeName 1 (some .int) :: rz_TB) hx hb hts rz_in11 ho hK rfl (by decide) rfl (fun _ => rfl) (hw (i := 3) (j := 11) rfl rfl) (fun _ z => z) dX9_takeName_5 hk) ?_
  refine rz_All_c (i := 4) (fun k J hk hJ => rz_iald_ok (pc := 8) hx hb hK dX9_takeName_8 hk) ?_
  refine rz_All_c (i := 5) (fun k J hk hJ => rz_iconst_ok (pc := 9) hx hb dX9_takeName_9 rfl hk) ?_
  refine rz_All_c (i := 6) (fun k J hk hJ => rz_icmpne_ok (pc := 10) hx hb dX9_takeName_10 rfl hk (hJ 14)) ?_
  refine rz_All_c (i := 7) (fun k J hk hJ => rz_aload_n_ok (pc := 13) hx hb dX9_takeName_13 rfl hk) ?_
  refine rz_All_c (i := 8) (fun k J hk hJ => rz_getf_ok (pc := 14) (own := RX9) (ref := "ThreadJudge$Reader") (C := RX9) (T := TX9) (N := 19) (ci := 11) (index := 34) (f := 13) (t := 2) (Ts := Cond.code yX9_takeName cX9_takeName 1 (some .int) :: rz_TB) hx hb hts rz_in11 ho hK rfl (by decide) rfl (fun _ => rfl) (hw (i := 5) (j := 2) rfl rfl) (fun _ z => z) dX9_takeName_14 hk) ?_
  refine rz_All_c (i := 9) (fun k J hk hJ => rz_aload_n_ok (pc := 17) hx hb dX9_takeName_17 rfl hk) ?_
  refine rz_All_c (i := 10) (fun k J hk hJ => rz_getf_ok (pc := 18) (own := RX9) (ref := "ThreadJudge$Reader") (C := RX9) (T := TX9) (N := 19) (ci := 11) (index := 187) (f := 15) (t := 0) (Ts := Cond.code yX9_takeName cX9_takeName 1 (some .int) :: rz_TB) hx hb hts rz_in11 ho hK rfl (by decide) rfl (fun _ => rfl) (hw (i := 3) (j := 11) rfl rfl) (fun _ z => z) dX9_takeName_18 hk) ?_
  refine rz_All_c (i := 11) (fun k J hk hJ => rz_iald_ok (pc := 21) hx hb hK dX9_takeName_21 hk) ?_
  refine rz_All_c (i := 12) (fun k J hk hJ => rz_bipush_ok (pc := 22) hx hb dX9_takeName_22 (by decide) hk) ?_
  refine rz_All_c (i := 13) (fun k J hk hJ => rz_icmpge_ok (pc := 24) hx hb dX9_takeName_24 rfl hk (hJ 15)) ?_
  refine rz_All_c (i := 14) (fun k J hk hJ => rz_no_ok) ?_
  refine rz_All_c (i := 15) (fun k J hk hJ => rz_aload_n_ok (pc := 29) hx hb dX9_takeName_29 rfl hk) ?_
  refine rz_All_c (i := 16) (fun k J hk hJ => rz_getf_ok (pc := 30) (own := RX9) (ref := "ThreadJudge$Reader") (C := RX9) (T := TX9) (N := 19) (ci := 11) (index := 34) (f := 13) (t := 2) (Ts := Cond.code yX9_takeName cX9_takeName 1 (some .int) :: rz_TB) hx hb hts rz_in11 ho hK rfl (by decide) rfl (fun _ => rfl) (hw (i := 5) (j := 2) rfl rfl) (fun _ z => z) dX9_takeName_30 hk) ?_
  refine rz_All_c (i := 17) (fun k J hk hJ => rz_aload_n_ok (pc := 33) hx hb dX9_takeName_33 rfl hk) ?_
  refine rz_All_c (i := 18) (fun k J hk hJ => rz_dup_ok (pc := 34) hx hb dX9_takeName_34 hk) ?_
  refine rz_All_c (i := 19) (fun k J hk hJ => rz_getf_ok (pc := 35) (own := RX9) (ref := "ThreadJudge$Reader") (C := RX9) (T := TX9) (N := 19) (ci := 11) (index := 187) (f := 15) (t := 0) (Ts := Cond.code yX9_takeName cX9_takeName 1 (some .int) :: rz_TB) hx hb hts rz_in11 ho hK rfl (by decide) rfl (fun _ => rfl) (hw (i := 3) (j := 11) rfl rfl) (fun _ z => z) dX9_takeName_35 hk) ?_
  refine rz_All_c (i := 20) (fun k J hk hJ => rz_dup_x1_ok (pc := 38) hx hb dX9_takeName_38 hk) ?_
  refine rz_All_c (i := 21) (fun k J hk hJ => rz_iconst_ok (pc := 39) hx hb dX9_takeName_39 rfl hk) ?_
  refine rz_All_c (i := 22) (fun k J hk hJ => rz_iadd_ok (pc := 40) hx hb dX9_takeName_40 hk) ?_
  refine rz_All_c (i := 23) (fun k J hk hJ => rz_putf_ok (pc := 41) (own := RX9) (ref := "ThreadJudge$Reader") (C := RX9) (T := TX9) (N := 19) (ci := 11) (index := 187) (f := 15) (t := 0) (Ts := Cond.code yX9_takeName cX9_takeName 1 (some .int) :: rz_TB) hx hb hts rz_in11 tyX9 tyX9_ok nmX9 ho hK hA rfl (by decide) rfl (rz_UnI _) rfl (tyX9_ok 15 (by decide)) (hw (i := 3) (j := 11) rfl rfl) (fun _ z => z) dX9_takeName_41 hk) ?_
  refine rz_All_c (i := 24) (fun k J hk hJ => rz_iald_ok (pc := 44) hx hb hK dX9_takeName_44 hk) ?_
  refine rz_All_c (i := 25) (fun k J hk hJ => rz_iret_ok (pc := 45) hC dX9_takeName_45) ?_
  exact trivial
