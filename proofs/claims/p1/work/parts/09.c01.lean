/-! Constructors, and what they call: handlers, facts, contracts. -/
theorem dJ1_toChars_9d188_0 : decode cJ1_toChars_9d188 0 = .ok (.aload_n 0, 1) := by decide +kernel
theorem dJ1_toChars_9d188_1 : decode cJ1_toChars_9d188 1 = .ok (.arraylength, 1) := by decide +kernel
theorem dJ1_toChars_9d188_2 : decode cJ1_toChars_9d188 2 = .ok (.newarray .char, 2) := by decide +kernel
theorem dJ1_toChars_9d188_4 : decode cJ1_toChars_9d188 4 = .ok (.astore_n 1, 1) := by decide +kernel
theorem dJ1_toChars_9d188_5 : decode cJ1_toChars_9d188 5 = .ok (.aload_n 0, 1) := by decide +kernel
theorem dJ1_toChars_9d188_6 : decode cJ1_toChars_9d188 6 = .ok (.iconst 0, 1) := by decide +kernel
theorem dJ1_toChars_9d188_7 : decode cJ1_toChars_9d188 7 = .ok (.aload_n 1, 1) := by decide +kernel
theorem dJ1_toChars_9d188_8 : decode cJ1_toChars_9d188 8 = .ok (.iconst 0, 1) := by decide +kernel
theorem dJ1_toChars_9d188_9 : decode cJ1_toChars_9d188 9 = .ok (.aload_n 0, 1) := by decide +kernel
theorem dJ1_toChars_9d188_10 : decode cJ1_toChars_9d188 10 = .ok (.arraylength, 1) := by decide +kernel
theorem dJ1_toChars_9d188_11 : decode cJ1_toChars_9d188 11 = .ok (.invokestatic 13, 3) := by decide +kernel
theorem dJ1_toChars_9d188_14 : decode cJ1_toChars_9d188 14 = .ok (.aload_n 1, 1) := by decide +kernel
theorem dJ1_toChars_9d188_15 : decode cJ1_toChars_9d188 15 = .ok (.areturn, 1) := by decide +kernel
def rpJ1_toChars_9d188 : List Nat := [0, 1, 2, 4, 5, 6, 7, 8, 9, 10, 11, 14, 15]
def rzJ1_toChars_9d188 : List (Nat × Nat) := [(0, 0), (0, 0), (0, 0), (1, 2048), (1, 2048), (1, 2048), (1, 2048), (1, 2048), (1, 2048), (1, 2048), (1, 2048), (1, 2048), (1, 2048)]
noncomputable def rcJ1_toChars_9d188 : List rz_B := [rz_aload 0, rz_alen, rz_newa 5 2048, rz_astore 1, rz_aload 0, rz_cst 0, rz_aload 1, rz_cst 0, rz_aload 0, rz_alen, rz_callSv 5 rgJ1_inflate_03870, rz_aload 1, rz_aret]
noncomputable def rgJ1_toChars_9d188 : rz_L → rz_M → rz_Z → Bool := rz_go rcJ1_toChars_9d188 2 1000000
def rrJ1_toChars_9d188 : Room := { frames := 1, cells := 1, slots := 2048, locals := 25 }
theorem rmJ1_toChars_9d188 (l : Launch) {G : rz_G} (hG : rz_Gd G) (vs : rz_L) (M : rz_M) (Z : rz_Z) (hn : vs.length = 1) (h : rgJ1_toChars_9d188 vs M Z = true) : Met l yJ1_toChars_9d188 (Cond.code yJ1_toChars_9d188 cJ1_toChars_9d188 2 (some (.array .char)) :: rz_TB) rrJ1_toChars_9d188 (rz_Pre G vs M) (rz_Qr G M.2 Z) 1 2048 (fun q => rz_b G ≤ q) := by
  obtain ⟨D, tc, ad, b, xs, rfl⟩ := id hG
  refine rz_bodyM (pcs := rpJ1_toChars_9d188) (cz := rzJ1_toChars_9d188) (by decide) rfl rfl (by rw [hn]; decide) h ?_
  intro p e R s m args below meth c hC hmn
  obtain ⟨hx, hb, hml, hr, hlk, ho, hts, hKn, hRm⟩ := id hC
  obtain ⟨hK, hA, hSt⟩ := id hKn
  have hw : ∀ {i j : Nat} {ws : List Cond} {w : Cond}, rz_WW[i]? = some ws → ws[j]? = some w → w.before args s = true := fun h1 h2 => hts _ (List.mem_cons_of_mem _ (rz_mem h1 h2))
  refine rz_All_c (i := 0) (fun k J hk hJ => rz_aload_n_ok (pc := 0) hx hb dJ1_toChars_9d188_0 rfl hk) ?_
  refine rz_All_c (i := 1) (fun k J hk hJ => rz_alen_ok (pc := 1) hx hb hK dJ1_toChars_9d188_1 hk) ?_
  refine rz_All_c (i := 2) (fun k J hk hJ => rz_newa_char_ok (pc := 2) (nz0 := (0, 0)) (mx := 2048) hx hb hK hA (hw (i := 55) (j := 3) rfl rfl) (by decide) (by rw [hRm]; decide) dJ1_toChars_9d188_2 (rz_wid (by decide) hk)) ?_
  refine rz_All_c (i := 3) (fun k J hk hJ => rz_astore_n_ok (pc := 4) hx hb dJ1_toChars_9d188_4 rfl hk) ?_
  refine rz_All_c (i := 4) (fun k J hk hJ => rz_aload_n_ok (pc := 5) hx hb dJ1_toChars_9d188_5 rfl hk) ?_
  refine rz_All_c (i := 5) (fun k J hk hJ => rz_iconst_ok (pc := 6) hx hb dJ1_toChars_9d188_6 rfl hk) ?_
  refine rz_All_c (i := 6) (fun k J hk hJ => rz_aload_n_ok (pc := 7) hx hb dJ1_toChars_9d188_7 rfl hk) ?_
  refine rz_All_c (i := 7) (fun k J hk hJ => rz_iconst_ok (pc := 8) hx hb dJ1_toChars_9d188_8 rfl hk) ?_
  refine rz_All_c (i := 8) (fun k J hk hJ => rz_aload_n_ok (pc := 9) hx hb dJ1_toChars_9d188_9 rfl hk) ?_
  refine rz_All_c (i := 9) (fun k J hk hJ => rz_alen_ok (pc := 10) hx hb hK dJ1_toChars_9d188_10 hk) ?_
  refine rz_All_c (i := 10) (fun k J hk hJ => rz_callSv_ok (pc := 11) (nz0 := (1, 2048)) (nz1 := (1, 2048)) (own := RJ1) hC rfl (rmJ1_inflate_03870 l hG) (rz_cwS 5 hC rz_good (rz_mem (i := 68) (j := 15) rfl rfl) (rz_mem (i := 68) (j := 16) rfl rfl) (rz_mem (i := 6) (j := 22) rfl rfl) (rz_mem (i := 68) (j := 17) rfl rfl) ⟨rfl, by decide, by decide, by decide +kernel⟩ rfl rfl ⟨by decide, by decide⟩) dJ1_toChars_9d188_11 hk (by decide) (by rw [hRm]; decide)) ?_
  refine rz_All_c (i := 11) (fun k J hk hJ => rz_aload_n_ok (pc := 14) hx hb dJ1_toChars_9d188_14 rfl hk) ?_
  refine rz_All_c (i := 12) (fun k J hk hJ => rz_aret_ok (pc := 15) (nz0 := (1, 2048)) hC (Or.inr ⟨_, rfl⟩) dJ1_toChars_9d188_15 (by decide)) ?_
  exact trivial
theorem dJ0_toCharArray_70df3_0 : decode cJ0_toCharArray_70df3 0 = .ok (.aload_n 0, 1) := by decide +kernel
theorem dJ0_toCharArray_70df3_1 : decode cJ0_toCharArray_70df3 1 = .ok (.invokevirtual 492, 3) := by decide +kernel
theorem dJ0_toCharArray_70df3_4 : decode cJ0_toCharArray_70df3 4 = .ok (.ifCond .eq 13, 3) := by decide +kernel
theorem dJ0_toCharArray_70df3_7 : decode cJ0_toCharArray_70df3 7 = .ok (.aload_n 0, 1) := by decide +kernel
theorem dJ0_toCharArray_70df3_8 : decode cJ0_toCharArray_70df3 8 = .ok (.getfield 9, 3) := by decide +kernel
theorem dJ0_toCharArray_70df3_11 : decode cJ0_toCharArray_70df3 11 = .ok (.invokestatic 299, 3) := by decide +kernel
theorem dJ0_toCharArray_70df3_14 : decode cJ0_toCharArray_70df3 14 = .ok (.goto 10, 3) := by decide +kernel
theorem dJ0_toCharArray_70df3_24 : decode cJ0_toCharArray_70df3 24 = .ok (.areturn, 1) := by decide +kernel
def rpJ0_toCharArray_70df3 : List Nat := [0, 1, 4, 7, 8, 11, 14, 17, 24]
def rzJ0_toCharArray_70df3 : List (Nat × Nat) := [(0, 0), (0, 0), (0, 0), (0, 0), (0, 0), (0, 0), (1, 2048), (0, 0), (1, 2048)]
noncomputable def rcJ0_toCharArray_70df3 : List rz_B := [rz_aload 0, rz_callV 0 (Nat.add (Nat.mul 256 0) 1) rgJ0_isLatin1_aae02_c, rz_ifeq 7, rz_aload 0, rz_getf (Nat.add (Nat.mul 256 0) 1) 0 rz_r, rz_callS 1 rgJ1_toChars_9d188, rz_goto 8, rz_no, rz_aret]
noncomputable def rgJ0_toCharArray_70df3 : rz_L → rz_M → rz_Z → Bool := rz_go rcJ0_toCharArray_70df3 1 1000000
def rrJ0_toCharArray_70df3 : Room := { frames := 2, cells := 1, slots := 2048, locals := 46 }
theorem rmJ0_toCharArray_70df3 (l : Launch) {G : rz_G} (hG : rz_Gd G) (vs : rz_L) (M : rz_M) (Z : rz_Z) (hn : vs.length = 1) (h : rgJ0_toCharArray_70df3 vs M Z = true) : Met l yJ0_toCharArray_70df3 (Cond.code yJ0_toCharArray_70df3 cJ0_toCharArray_70df3 1 (some (.array .char)) :: rz_TB) rrJ0_toCharArray_70df3 (rz_Pre G vs M) (rz_Qr G M.2 Z) 1 2048 (fun q => rz_b G ≤ q) := by
  obtain ⟨D, tc, ad, b, xs, rfl⟩ := id hG
  refine rz_bodyM (pcs := rpJ0_toCharArray_70df3) (cz := rzJ0_toCharArray_70df3) (by decide) rfl rfl (by rw [hn]; decide) h ?_
  intro p e R s m args below meth c hC hmn
  obtain ⟨hx, hb, hml, hr, hlk, ho, hts, hKn, hRm⟩ := id hC
  obtain ⟨hK, hA, hSt⟩ := id hKn
  have hw : ∀ {i j : Nat} {ws : List Cond} {w : Cond}, rz_WW[i]? = some ws → ws[j]? = some w → w.before args s = true := fun h1 h2 => hts _ (List.mem_cons_of_mem _ (rz_mem h1 h2))
  refine rz_All_c (i := 0) (fun k J hk hJ => rz_aload_n_ok (pc := 0) hx hb dJ0_toCharArray_70df3_0 rfl hk) ?_
  refine rz_All_c (i := 1) (fun k J hk hJ => rz_callV_ok (pc := 1) (nz0 := (0, 0)) (nz1 := (0, 0)) (own := RJ0) (C := RJ0) (T0 := TJ0) (N0 := 4) (ci := 0) hC rfl (rmJ0_isLatin1_aae02_c l hG) (rz_cwV 0 hC rz_good (rz_mem (i := 6) (j := 6) rfl rfl) (rz_mem (i := 6) (j := 7) rfl rfl) (rz_mem (i := 6) (j := 8) rfl rfl) (rz_mem (i := 5) (j := 23) rfl rfl) (rz_mem (i := 6) (j := 9) rfl rfl) ⟨rfl, by decide, by decide, by decide +kernel⟩ rfl rfl ⟨by decide, by decide⟩) rfl dJ0_toCharArray_70df3_1 hk (by decide) (by rw [hRm]; decide)) ?_
  refine rz_All_c (i := 2) (fun k J hk hJ => rz_ifeq_ok (pc := 4) hx hb dJ0_toCharArray_70df3_4 rfl hk (hJ 7)) ?_
  refine rz_All_c (i := 3) (fun k J hk hJ => rz_aload_n_ok (pc := 7) hx hb dJ0_toCharArray_70df3_7 rfl hk) ?_
  refine rz_All_c (i := 4) (fun k J hk hJ => rz_getf_ok (pc := 8) (own := RJ0) (ref := "java/lang/String") (C := RJ0) (T := TJ0) (N := 4) (ci := 0) (index := 9) (f := 0) (t := 2) (Ts := Cond.code yJ0_toCharArray_70df3 cJ0_toCharArray_70df3 1 (some (.array .char)) :: rz_TB) hx hb hts rz_in0 ho hK rfl (by decide) rfl (fun _ => rfl) (hw (i := 6) (j := 5) rfl rfl) (fun _ z => z) dJ0_toCharArray_70df3_8 hk) ?_
  refine rz_All_c (i := 5) (fun k J hk hJ => rz_callSr_ok (pc := 11) (nz0 := (0, 0)) (nz1 := (1, 2048)) (own := RJ0) hC rfl (rmJ1_toChars_9d188 l hG) (rz_cwX 1 hC rz_good (rz_mem (i := 68) (j := 12) rfl rfl) (rz_mem (i := 68) (j := 13) rfl rfl) (rz_mem (i := 6) (j := 22) rfl rfl) (rz_mem (i := 68) (j := 14) rfl rfl) ⟨by decide, by decide, by decide +kernel⟩ rfl rfl ⟨by decide, by decide⟩) dJ0_toCharArray_70df3_11 hk (by decide) (by rw [hRm]; decide)) ?_
  refine rz_All_c (i := 6) (fun k J hk hJ => rz_goto_ok (pc := 14) hx hb dJ0_toCharArray_70df3_14 rfl (hJ 8)) ?_
  refine rz_All_c (i := 7) (fun k J hk hJ => rz_no_ok) ?_
  refine rz_All_c (i := 8) (fun k J hk hJ => rz_aret_ok (pc := 24) (nz0 := (1, 2048)) hC (Or.inr ⟨_, rfl⟩) dJ0_toCharArray_70df3_24 (by decide)) ?_
  exact trivial
theorem dJ5_init_d00df_0 : decode cJ5_init_d00df 0 = .ok (.aload_n 0, 1) := by decide +kernel
theorem dJ5_init_d00df_1 : decode cJ5_init_d00df 1 = .ok (.invokespecial 3, 3) := by decide +kernel
theorem dJ5_init_d00df_4 : decode cJ5_init_d00df 4 = .ok (.getstatic 18, 3) := by decide +kernel
theorem dJ5_init_d00df_7 : decode cJ5_init_d00df 7 = .ok (.ifCond .eq 18, 3) := by decide +kernel
theorem dJ5_init_d00df_10 : decode cJ5_init_d00df 10 = .ok (.aload_n 0, 1) := by decide +kernel
theorem dJ5_init_d00df_11 : decode cJ5_init_d00df 11 = .ok (.iload_n 1, 1) := by decide +kernel
theorem dJ5_init_d00df_12 : decode cJ5_init_d00df 12 = .ok (.newarray .byte, 2) := by decide +kernel
theorem dJ5_init_d00df_14 : decode cJ5_init_d00df 14 = .ok (.putfield 15, 3) := by decide +kernel
theorem dJ5_init_d00df_17 : decode cJ5_init_d00df 17 = .ok (.aload_n 0, 1) := by decide +kernel
theorem dJ5_init_d00df_18 : decode cJ5_init_d00df 18 = .ok (.iconst 0, 1) := by decide +kernel
theorem dJ5_init_d00df_19 : decode cJ5_init_d00df 19 = .ok (.putfield 22, 3) := by decide +kernel
theorem dJ5_init_d00df_22 : decode cJ5_init_d00df 22 = .ok (.goto 16, 3) := by decide +kernel
theorem dJ5_init_d00df_38 : decode cJ5_init_d00df 38 = .ok (.return_, 1) := by decide +kernel
def rpJ5_init_d00df : List Nat := [0, 1, 4, 7, 10, 11, 12, 14, 17, 18, 19, 22, 25, 38]
def rzJ5_init_d00df : List (Nat × Nat) := [(0, 0), (0, 0), (0, 0), (0, 0), (0, 0), (0, 0), (0, 0), (1, 2048), (1, 2048), (1, 2048), (1, 2048), (1, 2048), (0, 0), (1, 2048)]
noncomputable def rcJ5_init_d00df : List rz_B := [rz_aload 0, rz_obj, rz_cst 1, rz_ifeq 12, rz_aload 0, rz_iload 1, rz_newa 7 2048, rz_putf (Nat.add (Nat.mul 256 1) 1) 0 rz_unR, rz_aload 0, rz_cst 0, rz_putf (Nat.add (Nat.mul 256 1) 1) 1 rz_unB, rz_goto 13, rz_no, rz_vret]
noncomputable def rgJ5_init_d00df : rz_L → rz_M → rz_Z → Bool := rz_go rcJ5_init_d00df 2 1000000
def rrJ5_init_d00df : Room := { frames := 1, cells := 1, slots := 2048, locals := 60 }
theorem rmJ5_init_d00df (l : Launch) {G : rz_G} (hG : rz_Gd G) (vs : rz_L) (M : rz_M) (Z : rz_Z) (hn : vs.length = 2) (h : rgJ5_init_d00df vs M Z = true) : Met l yJ5_init_d00df (Cond.code yJ5_init_d00df cJ5_init_d00df 2 none :: rz_TB) rrJ5_init_d00df (rz_Pre G vs M) (rz_Qv G M.2 Z) 1 2048 (fun q => rz_b G ≤ q) := by
  obtain ⟨D, tc, ad, b, xs, rfl⟩ := id hG
  refine rz_bodyM (pcs := rpJ5_init_d00df) (cz := rzJ5_init_d00df) (by decide) rfl rfl (by rw [hn]; decide) h ?_
  intro p e R s m args below meth c hC hmn
  obtain ⟨hx, hb, hml, hr, hlk, ho, hts, hKn, hRm⟩ := id hC
  obtain ⟨hK, hA, hSt⟩ := id hKn
  have hw : ∀ {i j : Nat} {ws : List Cond} {w : Cond}, rz_WW[i]? = some ws → ws[j]? = some w → w.before args s = true := fun h1 h2 => hts _ (List.mem_cons_of_mem _ (rz_mem h1 h2))
  refine rz_All_c (i := 0) (fun k J hk hJ => rz_aload_n_ok (pc := 0) hx hb dJ5_init_d00df_0 rfl hk) ?_
  refine rz_All_c (i := 1) (fun k J hk hJ => rz_obj_ok (pc := 1) (own := RJ5) hx hb hml ho (hw (i := 59) (j := 0) rfl rfl) (hw (i := 55) (j := 1) rfl rfl) (hw (i := 55) (j := 2) rfl rfl) (by rw [hRm]; decide) (by rw [hRm]; decide) dJ5_init_d00df_1 hk) ?_
  refine rz_All_c (i := 2) (fun k J hk hJ => rz_gets_ok (pc := 4) (own := RJ5) (ref := "java/lang/String") (index := 18) hx hb hSt.2.2.2.1 rfl ho (hw (i := 59) (j := 1) rfl rfl) (fun _ z => z) dJ5_init_d00df_4 hk) ?_
  refine rz_All_c (i := 3) (fun k J hk hJ => rz_ifeq_ok (pc := 7) hx hb dJ5_init_d00df_7 rfl hk (hJ 12)) ?_
  refine rz_All_c (i := 4) (fun k J hk hJ => rz_aload_n_ok (pc := 10) hx hb dJ5_init_d00df_10 rfl hk) ?_
  refine rz_All_c (i := 5) (fun k J hk hJ => rz_iload_n_ok (pc := 11) hx hb dJ5_init_d00df_11 rfl hk) ?_
  refine rz_All_c (i := 6) (fun k J hk hJ => rz_newa_byte_ok (pc := 12) (nz0 := (0, 0)) (mx := 2048) hx hb hK hA (hw (i := 59) (j := 2) rfl rfl) (by decide) (by rw [hRm]; decide) dJ5_init_d00df_12 (rz_wid (by decide) hk)) ?_
  refine rz_All_c (i := 7) (fun k J hk hJ => rz_putf_ok (pc := 14) (own := RJ5) (ref := "java/lang/AbstractStringBuilder") (C := RJ4) (T := TJ4) (N := 4) (ci := 1) (index := 15) (f := 0) (t := 2) (Ts := Cond.code yJ5_init_d00df cJ5_init_d00df 2 none :: rz_TB) hx hb hts rz_in1 tyJ4 tyJ4_ok nmJ4 ho hK hA rfl (by decide) rfl (rz_UnR _ (Or.inr ⟨_, rfl⟩)) rfl (tyJ4_ok 0 (by decide)) (hw (i := 59) (j := 3) rfl rfl) (fun _ z => z) dJ5_init_d00df_14 hk) ?_
  refine rz_All_c (i := 8) (fun k J hk hJ => rz_aload_n_ok (pc := 17) hx hb dJ5_init_d00df_17 rfl hk) ?_
  refine rz_All_c (i := 9) (fun k J hk hJ => rz_iconst_ok (pc := 18) hx hb dJ5_init_d00df_18 rfl hk) ?_
  refine rz_All_c (i := 10) (fun k J hk hJ => rz_putf_ok (pc := 19) (own := RJ5) (ref := "java/lang/AbstractStringBuilder") (C := RJ4) (T := TJ4) (N := 4) (ci := 1) (index := 22) (f := 1) (t := 0) (Ts := Cond.code yJ5_init_d00df cJ5_init_d00df 2 none :: rz_TB) hx hb hts rz_in1 tyJ4 tyJ4_ok nmJ4 ho hK hA rfl (by decide) rfl (rz_UnB _) rfl (tyJ4_ok 1 (by decide)) (hw (i := 59) (j := 4) rfl rfl) (fun _ z => z) dJ5_init_d00df_19 hk) ?_
  refine rz_All_c (i := 11) (fun k J hk hJ => rz_goto_ok (pc := 22) hx hb dJ5_init_d00df_22 rfl (hJ 13)) ?_
  refine rz_All_c (i := 12) (fun k J hk hJ => rz_no_ok) ?_
  refine rz_All_c (i := 13) (fun k J hk hJ => rz_vret_ok (pc := 38) (nz0 := (1, 2048)) hC dJ5_init_d00df_38 (by decide)) ?_
  exact trivial
theorem dJ4_init_da8c8_0 : decode cJ4_init_da8c8 0 = .ok (.aload_n 0, 1) := by decide +kernel
theorem dJ4_init_da8c8_1 : decode cJ4_init_da8c8 1 = .ok (.bipush 16, 2) := by decide +kernel
theorem dJ4_init_da8c8_3 : decode cJ4_init_da8c8 3 = .ok (.invokespecial 1, 3) := by decide +kernel
theorem dJ4_init_da8c8_6 : decode cJ4_init_da8c8 6 = .ok (.return_, 1) := by decide +kernel
def rpJ4_init_da8c8 : List Nat := [0, 1, 3, 6]
def rzJ4_init_da8c8 : List (Nat × Nat) := [(0, 0), (0, 0), (0, 0), (1, 2048)]
noncomputable def rcJ4_init_da8c8 : List rz_B := [rz_aload 0, rz_cst 16, rz_callI 1 rgJ5_init_d00df, rz_vret]
noncomputable def rgJ4_init_da8c8 : rz_L → rz_M → rz_Z → Bool := rz_go rcJ4_init_da8c8 1 1000000
def rrJ4_init_da8c8 : Room := { frames := 2, cells := 1, slots := 2048, locals := 81 }
theorem rmJ4_init_da8c8 (l : Launch) {G : rz_G} (hG : rz_Gd G) (vs : rz_L) (M : rz_M) (Z : rz_Z) (hn : vs.length = 1) (h : rgJ4_init_da8c8 vs M Z = true) : Met l yJ4_init_da8c8 (Cond.code yJ4_init_da8c8 cJ4_init_da8c8 1 none :: rz_TB) rrJ4_init_da8c8 (rz_Pre G vs M) (rz_Qv G M.2 Z) 1 2048 (fun q => rz_b G ≤ q) := by
  obtain ⟨D, tc, ad, b, xs, rfl⟩ := id hG
  refine rz_bodyM (pcs := rpJ4_init_da8c8) (cz := rzJ4_init_da8c8) (by decide) rfl rfl (by rw [hn]; decide) h ?_
  intro p e R s m args below meth c hC hmn
  obtain ⟨hx, hb, hml, hr, hlk, ho, hts, hKn, hRm⟩ := id hC
  obtain ⟨hK, hA, hSt⟩ := id hKn
  have hw : ∀ {i j : Nat} {ws : List Cond} {w : Cond}, rz_WW[i]? = some ws → ws[j]? = some w → w.before args s = true := fun h1 h2 => hts _ (List.mem_cons_of_mem _ (rz_mem h1 h2))
  refine rz_All_c (i := 0) (fun k J hk hJ => rz_aload_n_ok (pc := 0) hx hb dJ4_init_da8c8_0 rfl hk) ?_
  refine rz_All_c (i := 1) (fun k J hk hJ => rz_bipush_ok (pc := 1) hx hb dJ4_init_da8c8_1 (by decide) hk) ?_
  refine rz_All_c (i := 2) (fun k J hk hJ => rz_callIv_ok (pc := 3) (nz0 := (0, 0)) (nz1 := (1, 2048)) (own := RJ4) hC rfl (rmJ5_init_d00df l hG) (rz_cwI 1 hC rz_good (rz_mem (i := 58) (j := 20) rfl rfl) (rz_mem (i := 58) (j := 21) rfl rfl) (rz_mem (i := 58) (j := 22) rfl rfl) (rz_mem (i := 58) (j := 23) rfl rfl) rfl ⟨by decide, by decide, by decide +kernel⟩ rfl rfl ⟨by decide, by decide⟩) dJ4_init_da8c8_3 hk (by decide) (by rw [hRm]; decide)) ?_
  refine rz_All_c (i := 3) (fun k J hk hJ => rz_vret_ok (pc := 6) (nz0 := (1, 2048)) hC dJ4_init_da8c8_6 (by decide)) ?_
  exact trivial
theorem dJ8_newLength_cabcc_0 : decode cJ8_newLength_cabcc 0 = .ok (.iload_n 0, 1) := by decide +kernel
theorem dJ8_newLength_cabcc_1 : decode cJ8_newLength_cabcc 1 = .ok (.iload_n 1, 1) := by decide +kernel
theorem dJ8_newLength_cabcc_2 : decode cJ8_newLength_cabcc 2 = .ok (.iload_n 2, 1) := by decide +kernel
theorem dJ8_newLength_cabcc_3 : decode cJ8_newLength_cabcc 3 = .ok (.invokestatic 194, 3) := by decide +kernel
theorem dJ8_newLength_cabcc_6 : decode cJ8_newLength_cabcc 6 = .ok (.iadd, 1) := by decide +kernel
theorem dJ8_newLength_cabcc_7 : decode cJ8_newLength_cabcc 7 = .ok (.istore_n 3, 1) := by decide +kernel
theorem dJ8_newLength_cabcc_8 : decode cJ8_newLength_cabcc 8 = .ok (.iconst 0, 1) := by decide +kernel
theorem dJ8_newLength_cabcc_9 : decode cJ8_newLength_cabcc 9 = .ok (.iload_n 3, 1) := by decide +kernel
theorem dJ8_newLength_cabcc_10 : decode cJ8_newLength_cabcc 10 = .ok (.if_icmp .ge 11, 3) := by decide +kernel
theorem dJ8_newLength_cabcc_13 : decode cJ8_newLength_cabcc 13 = .ok (.iload_n 3, 1) := by decide +kernel
theorem dJ8_newLength_cabcc_14 : decode cJ8_newLength_cabcc 14 = .ok (.ldc 200, 2) := by decide +kernel
theorem dJ8_newLength_cabcc_16 : decode cJ8_newLength_cabcc 16 = .ok (.if_icmp .gt 5, 3) := by decide +kernel
theorem dJ8_newLength_cabcc_19 : decode cJ8_newLength_cabcc 19 = .ok (.iload_n 3, 1) := by decide +kernel
theorem dJ8_newLength_cabcc_20 : decode cJ8_newLength_cabcc 20 = .ok (.ireturn, 1) := by decide +kernel
def rpJ8_newLength_cabcc : List Nat := [0, 1, 2, 3, 6, 7, 8, 9, 10, 13, 14, 16, 19, 20, 21]
def rzJ8_newLength_cabcc : List (Nat × Nat) := [(0, 0), (0, 0), (0, 0), (0, 0), (0, 0), (0, 0), (0, 0), (0, 0), (0, 0), (0, 0), (0, 0), (0, 0), (0, 0), (0, 0), (0, 0)]
noncomputable def rcJ8_newLength_cabcc : List rz_B := [rz_iload 0, rz_iload 1, rz_iload 2, rz_imax, rz_iadd, rz_istore 3, rz_cst 0, rz_iload 3, rz_icmpge 14, rz_iload 3, rz_cst 2147483639, rz_icmpgt 14, rz_iload 3, rz_iret, rz_no]
noncomputable def rgJ8_newLength_cabcc : rz_L → rz_M → rz_Z → Bool := rz_go rcJ8_newLength_cabcc 4 1000000
def rrJ8_newLength_cabcc : Room := { frames := 1, cells := 0, slots := 0, locals := 60 }
theorem rmJ8_newLength_cabcc (l : Launch) {G : rz_G} (hG : rz_Gd G) (vs : rz_L) (M : rz_M) (Z : rz_Z) (hn : vs.length = 3) (h : rgJ8_newLength_cabcc vs M Z = true) : Met l yJ8_newLength_cabcc (Cond.code yJ8_newLength_cabcc cJ8_newLength_cabcc 4 (some .int) :: rz_TB) rrJ8_newLength_cabcc (rz_Pre G vs M) (rz_Qi G M.2 Z) 0 0 (fun q => rz_b G ≤ q) := by
  obtain ⟨D, tc, ad, b, xs, rfl⟩ := id hG
  refine rz_bodyM (pcs := rpJ8_newLength_cabcc) (cz := rzJ8_newLength_cabcc) (by decide) rfl rfl (by rw [hn]; decide) h ?_
  intro p e R s m args below meth c hC hmn
  obtain ⟨hx, hb, hml, hr, hlk, ho, hts, hKn, hRm⟩ := id hC
  obtain ⟨hK, hA, hSt⟩ := id hKn
  have hw : ∀ {i j : Nat} {ws : List Cond} {w : Cond}, rz_WW[i]? = some ws → ws[j]? = some w → w.before args s = true := fun h1 h2 => hts _ (List.mem_cons_of_mem _ (rz_mem h1 h2))
  refine rz_All_c (i := 0) (fun k J hk hJ => rz_iload_n_ok (pc := 0) hx hb dJ8_newLength_cabcc_0 rfl hk) ?_
  refine rz_All_c (i := 1) (fun k J hk hJ => rz_iload_n_ok (pc := 1) hx hb dJ8_newLength_cabcc_1 rfl hk) ?_
  refine rz_All_c (i := 2) (fun k J hk hJ => rz_iload_n_ok (pc := 2) hx hb dJ8_newLength_cabcc_2 rfl hk) ?_
  refine rz_All_c (i := 3) (fun k J hk hJ => rz_imax_ok (pc := 3) (nz0 := (0, 0)) (own := RJ8) hx hb hml ho (hw (i := 60) (j := 19) rfl rfl) (hw (i := 7) (j := 1) rfl rfl) (hw (i := 5) (j := 16) rfl rfl) (hw (i := 7) (j := 2) rfl rfl) (by rw [hRm]; decide) (by rw [hRm]; decide) dJ8_newLength_cabcc_3 hk (by rw [hRm]; decide)) ?_
  refine rz_All_c (i := 4) (fun k J hk hJ => rz_iadd_ok (pc := 6) hx hb dJ8_newLength_cabcc_6 hk) ?_
  refine rz_All_c (i := 5) (fun k J hk hJ => rz_istore_n_ok (pc := 7) hx hb dJ8_newLength_cabcc_7 rfl hk) ?_
  refine rz_All_c (i := 6) (fun k J hk hJ => rz_iconst_ok (pc := 8) hx hb dJ8_newLength_cabcc_8 rfl hk) ?_
  refine rz_All_c (i := 7) (fun k J hk hJ => rz_iload_n_ok (pc := 9) hx hb dJ8_newLength_cabcc_9 rfl hk) ?_
  refine rz_All_c (i := 8) (fun k J hk hJ => rz_icmpge_ok (pc := 10) hx hb dJ8_newLength_cabcc_10 rfl hk (hJ 14)) ?_
  refine rz_All_c (i := 9) (fun k J hk hJ => rz_iload_n_ok (pc := 13) hx hb dJ8_newLength_cabcc_13 rfl hk) ?_
  refine rz_All_c (i := 10) (fun k J hk hJ => rz_ldc_ok (pc := 14) hx hb (own := RJ8) ho (hw (i := 60) (j := 23) rfl rfl) dJ8_newLength_cabcc_14 hk) ?_
  refine rz_All_c (i := 11) (fun k J hk hJ => rz_icmpgt_ok (pc := 16) hx hb dJ8_newLength_cabcc_16 rfl hk (hJ 14)) ?_
  refine rz_All_c (i := 12) (fun k J hk hJ => rz_iload_n_ok (pc := 19) hx hb dJ8_newLength_cabcc_19 rfl hk) ?_
  refine rz_All_c (i := 13) (fun k J hk hJ => rz_iret_ok (pc := 20) hC dJ8_newLength_cabcc_20) ?_
  refine rz_All_c (i := 14) (fun k J hk hJ => rz_no_ok) ?_
  exact trivial
theorem dJ5_newCapacity_0f7a4_0 : decode cJ5_newCapacity_0f7a4 0 = .ok (.aload_n 0, 1) := by decide +kernel
theorem dJ5_newCapacity_0f7a4_1 : decode cJ5_newCapacity_0f7a4 1 = .ok (.getfield 15, 3) := by decide +kernel
theorem dJ5_newCapacity_0f7a4_4 : decode cJ5_newCapacity_0f7a4 4 = .ok (.arraylength, 1) := by decide +kernel
theorem dJ5_newCapacity_0f7a4_5 : decode cJ5_newCapacity_0f7a4 5 = .ok (.istore_n 2, 1) := by decide +kernel
theorem dJ5_newCapacity_0f7a4_6 : decode cJ5_newCapacity_0f7a4 6 = .ok (.iload_n 1, 1) := by decide +kernel
theorem dJ5_newCapacity_0f7a4_7 : decode cJ5_newCapacity_0f7a4 7 = .ok (.aload_n 0, 1) := by decide +kernel
theorem dJ5_newCapacity_0f7a4_8 : decode cJ5_newCapacity_0f7a4 8 = .ok (.getfield 22, 3) := by decide +kernel
theorem dJ5_newCapacity_0f7a4_11 : decode cJ5_newCapacity_0f7a4 11 = .ok (.ishl, 1) := by decide +kernel
theorem dJ5_newCapacity_0f7a4_12 : decode cJ5_newCapacity_0f7a4 12 = .ok (.istore_n 3, 1) := by decide +kernel
theorem dJ5_newCapacity_0f7a4_13 : decode cJ5_newCapacity_0f7a4 13 = .ok (.iload_n 3, 1) := by decide +kernel
theorem dJ5_newCapacity_0f7a4_14 : decode cJ5_newCapacity_0f7a4 14 = .ok (.iload_n 2, 1) := by decide +kernel
theorem dJ5_newCapacity_0f7a4_15 : decode cJ5_newCapacity_0f7a4 15 = .ok (.isub, 1) := by decide +kernel
theorem dJ5_newCapacity_0f7a4_16 : decode cJ5_newCapacity_0f7a4 16 = .ok (.istore 4, 2) := by decide +kernel
theorem dJ5_newCapacity_0f7a4_18 : decode cJ5_newCapacity_0f7a4 18 = .ok (.iload_n 2, 1) := by decide +kernel
theorem dJ5_newCapacity_0f7a4_19 : decode cJ5_newCapacity_0f7a4 19 = .ok (.iload 4, 2) := by decide +kernel
theorem dJ5_newCapacity_0f7a4_21 : decode cJ5_newCapacity_0f7a4 21 = .ok (.iload_n 2, 1) := by decide +kernel
theorem dJ5_newCapacity_0f7a4_22 : decode cJ5_newCapacity_0f7a4 22 = .ok (.iconst 2, 1) := by decide +kernel
theorem dJ5_newCapacity_0f7a4_23 : decode cJ5_newCapacity_0f7a4 23 = .ok (.aload_n 0, 1) := by decide +kernel
theorem dJ5_newCapacity_0f7a4_24 : decode cJ5_newCapacity_0f7a4 24 = .ok (.getfield 22, 3) := by decide +kernel
theorem dJ5_newCapacity_0f7a4_27 : decode cJ5_newCapacity_0f7a4 27 = .ok (.ishl, 1) := by decide +kernel
theorem dJ5_newCapacity_0f7a4_28 : decode cJ5_newCapacity_0f7a4 28 = .ok (.iadd, 1) := by decide +kernel
theorem dJ5_newCapacity_0f7a4_29 : decode cJ5_newCapacity_0f7a4 29 = .ok (.invokestatic 114, 3) := by decide +kernel
theorem dJ5_newCapacity_0f7a4_32 : decode cJ5_newCapacity_0f7a4 32 = .ok (.istore 5, 2) := by decide +kernel
theorem dJ5_newCapacity_0f7a4_34 : decode cJ5_newCapacity_0f7a4 34 = .ok (.iload 5, 2) := by decide +kernel
theorem dJ5_newCapacity_0f7a4_36 : decode cJ5_newCapacity_0f7a4 36 = .ok (.ldc 39, 2) := by decide +kernel
theorem dJ5_newCapacity_0f7a4_38 : decode cJ5_newCapacity_0f7a4 38 = .ok (.if_icmp .ne 13, 3) := by decide +kernel
theorem dJ5_newCapacity_0f7a4_51 : decode cJ5_newCapacity_0f7a4 51 = .ok (.iload 5, 2) := by decide +kernel
theorem dJ5_newCapacity_0f7a4_53 : decode cJ5_newCapacity_0f7a4 53 = .ok (.aload_n 0, 1) := by decide +kernel
theorem dJ5_newCapacity_0f7a4_54 : decode cJ5_newCapacity_0f7a4 54 = .ok (.getfield 22, 3) := by decide +kernel
theorem dJ5_newCapacity_0f7a4_57 : decode cJ5_newCapacity_0f7a4 57 = .ok (.ishr, 1) := by decide +kernel
theorem dJ5_newCapacity_0f7a4_58 : decode cJ5_newCapacity_0f7a4 58 = .ok (.ireturn, 1) := by decide +kernel
def rpJ5_newCapacity_0f7a4 : List Nat := [0, 1, 4, 5, 6, 7, 8, 11, 12, 13, 14, 15, 16, 18, 19, 21, 22, 23, 24, 27, 28, 29, 32, 34, 36, 38, 41, 51, 53, 54, 57, 58]
def rzJ5_newCapacity_0f7a4 : List (Nat × Nat) := [(0, 0), (0, 0), (0, 0), (0, 0), (0, 0), (0, 0), (0, 0), (0, 0), (0, 0), (0, 0), (0, 0), (0, 0), (0, 0), (0, 0), (0, 0), (0, 0), (0, 0), (0, 0), (0, 0), (0, 0), (0, 0), (0, 0), (0, 0), (0, 0), (0, 0), (0, 0), (0, 0), (0, 0), (0, 0), (0, 0), (0, 0), (0, 0)]
noncomputable def rcJ5_newCapacity_0f7a4 : List rz_B := [rz_aload 0, rz_getf (Nat.add (Nat.mul 256 1) 1) 0 rz_r, rz_alen, rz_istore 2, rz_iload 1, rz_aload 0, rz_getf (Nat.add (Nat.mul 256 1) 1) 1 rz_i, rz_ishl, rz_istore 3, rz_iload 3, rz_iload 2, rz_isub, rz_istore 4, rz_iload 2, rz_iload 4, rz_iload 2, rz_cst 2, rz_aload 0, rz_getf (Nat.add (Nat.mul 256 1) 1) 1 rz_i, rz_ishl, rz_iadd, rz_callS 3 rgJ8_newLength_cabcc, rz_istore 5, rz_iload 5, rz_cst 2147483647, rz_icmpne 27, rz_no, rz_iload 5, rz_aload 0, rz_getf (Nat.add (Nat.mul 256 1) 1) 1 rz_i, rz_ishr, rz_iret]
noncomputable def rgJ5_newCapacity_0f7a4 : rz_L → rz_M → rz_Z → Bool := rz_go rcJ5_newCapacity_0f7a4 6 1000000
def rrJ5_newCapacity_0f7a4 : Room := { frames := 2, cells := 0, slots := 0, locals := 83 }
theorem rmJ5_newCapacity_0f7a4 (l : Launch) {G : rz_G} (hG : rz_Gd G) (vs : rz_L) (M : rz_M) (Z : rz_Z) (hn : vs.length = 2) (h : rgJ5_newCapacity_0f7a4 vs M Z = true) : Met l yJ5_newCapacity_0f7a4 (Cond.code yJ5_newCapacity_0f7a4 cJ5_newCapacity_0f7a4 6 (some .int) :: rz_TB) rrJ5_newCapacity_0f7a4 (rz_Pre G vs M) (rz_Qi G M.2 Z) 0 0 (fun q => rz_b G ≤ q) := by
  obtain ⟨D, tc, ad, b, xs, rfl⟩ := id hG
  refine rz_bodyM (pcs := rpJ5_newCapacity_0f7a4) (cz := rzJ5_newCapacity_0f7a4) (by decide) rfl rfl (by rw [hn]; decide) h ?_
  intro p e R s m args below meth c hC hmn
  obtain ⟨hx, hb, hml, hr, hlk, ho, hts, hKn, hRm⟩ := id hC
  obtain ⟨hK, hA, hSt⟩ := id hKn
  have hw : ∀ {i j : Nat} {ws : List Cond} {w : Cond}, rz_WW[i]? = some ws → ws[j]? = some w → w.before args s = true := fun h1 h2 => hts _ (List.mem_cons_of_mem _ (rz_mem h1 h2))
  refine rz_All_c (i := 0) (fun k J hk hJ => rz_aload_n_ok (pc := 0) hx hb dJ5_newCapacity_0f7a4_0 rfl hk) ?_
  refine rz_All_c (i := 1) (fun k J hk hJ => rz_getf_ok (pc := 1) (own := RJ5) (ref := "java/lang/AbstractStringBuilder") (C := RJ4) (T := TJ4) (N := 4) (ci := 1) (index := 15) (f := 0) (t := 2) (Ts := Cond.code yJ5_newCapacity_0f7a4 cJ5_newCapacity_0f7a4 6 (some .int) :: rz_TB) hx hb hts rz_in1 ho hK rfl (by decide) rfl (fun _ => rfl) (hw (i := 59) (j := 3) rfl rfl) (fun _ z => z) dJ5_newCapacity_0f7a4_1 hk) ?_
  refine rz_All_c (i := 2) (fun k J hk hJ => rz_alen_ok (pc := 4) hx hb hK dJ5_newCapacity_0f7a4_4 hk) ?_
  refine rz_All_c (i := 3) (fun k J hk hJ => rz_istore_n_ok (pc := 5) hx hb dJ5_newCapacity_0f7a4_5 rfl hk) ?_
  refine rz_All_c (i := 4) (fun k J hk hJ => rz_iload_n_ok (pc := 6) hx hb dJ5_newCapacity_0f7a4_6 rfl hk) ?_
  refine rz_All_c (i := 5) (fun k J hk hJ => rz_aload_n_ok (pc := 7) hx hb dJ5_newCapacity_0f7a4_7 rfl hk) ?_
  refine rz_All_c (i := 6) (fun k J hk hJ => rz_getf_ok (pc := 8) (own := RJ5) (ref := "java/lang/AbstractStringBuilder") (C := RJ4) (T := TJ4) (N := 4) (ci := 1) (index := 22) (f := 1) (t := 0) (Ts := Cond.code yJ5_newCapacity_0f7a4 cJ5_newCapacity_0f7a4 6 (some .int) :: rz_TB) hx hb hts rz_in1 ho hK rfl (by decide) rfl (fun _ => rfl) (hw (i := 59) (j := 4) rfl rfl) (fun _ z => z) dJ5_newCapacity_0f7a4_8 hk) ?_
  refine rz_All_c (i := 7) (fun k J hk hJ => rz_ishl_ok (pc := 11) hx hb dJ5_newCapacity_0f7a4_11 hk) ?_
  refine rz_All_c (i := 8) (fun k J hk hJ => rz_istore_n_ok (pc := 12) hx hb dJ5_newCapacity_0f7a4_12 rfl hk) ?_
  refine rz_All_c (i := 9) (fun k J hk hJ => rz_iload_n_ok (pc := 13) hx hb dJ5_newCapacity_0f7a4_13 rfl hk) ?_
  refine rz_All_c (i := 10) (fun k J hk hJ => rz_iload_n_ok (pc := 14) hx hb dJ5_newCapacity_0f7a4_14 rfl hk) ?_
  refine rz_All_c (i := 11) (fun k J hk hJ => rz_isub_ok (pc := 15) hx hb dJ5_newCapacity_0f7a4_15 hk) ?_
  refine rz_All_c (i := 12) (fun k J hk hJ => rz_istore_ok (pc := 16) hx hb dJ5_newCapacity_0f7a4_16 hk) ?_
  refine rz_All_c (i := 13) (fun k J hk hJ => rz_iload_n_ok (pc := 18) hx hb dJ5_newCapacity_0f7a4_18 rfl hk) ?_
  refine rz_All_c (i := 14) (fun k J hk hJ => rz_iload_ok (pc := 19) hx hb dJ5_newCapacity_0f7a4_19 hk) ?_
  refine rz_All_c (i := 15) (fun k J hk hJ => rz_iload_n_ok (pc := 21) hx hb dJ5_newCapacity_0f7a4_21 rfl hk) ?_
  refine rz_All_c (i := 16) (fun k J hk hJ => rz_iconst_ok (pc := 22) hx hb dJ5_newCapacity_0f7a4_22 rfl hk) ?_
  refine rz_All_c (i := 17) (fun k J hk hJ => rz_aload_n_ok (pc := 23) hx hb dJ5_newCapacity_0f7a4_23 rfl hk) ?_
  refine rz_All_c (i := 18) (fun k J hk hJ => rz_getf_ok (pc := 24) (own := RJ5) (ref := "java/lang/AbstractStringBuilder") (C := RJ4) (T := TJ4) (N := 4) (ci := 1) (index := 22) (f := 1) (t := 0) (Ts := Cond.code yJ5_newCapacity_0f7a4 cJ5_newCapacity_0f7a4 6 (some .int) :: rz_TB) hx hb hts rz_in1 ho hK rfl (by decide) rfl (fun _ => rfl) (hw (i := 59) (j := 4) rfl rfl) (fun _ z => z) dJ5_newCapacity_0f7a4_24 hk) ?_
  refine rz_All_c (i := 19) (fun k J hk hJ => rz_ishl_ok (pc := 27) hx hb dJ5_newCapacity_0f7a4_27 hk) ?_
  refine rz_All_c (i := 20) (fun k J hk hJ => rz_iadd_ok (pc := 28) hx hb dJ5_newCapacity_0f7a4_28 hk) ?_
  refine rz_All_c (i := 21) (fun k J hk hJ => rz_callS_ok (pc := 29) (nz0 := (0, 0)) (nz1 := (0, 0)) (own := RJ5) hC rfl (rmJ8_newLength_cabcc l hG) (rz_cwX 3 hC rz_good (rz_mem (i := 60) (j := 15) rfl rfl) (rz_mem (i := 60) (j := 16) rfl rfl) (rz_mem (i := 60) (j := 17) rfl rfl) (rz_mem (i := 60) (j := 18) rfl rfl) ⟨by decide, by decide, by decide +kernel⟩ rfl rfl ⟨by decide, by decide⟩) dJ5_newCapacity_0f7a4_29 hk (by decide) (by rw [hRm]; decide)) ?_
  refine rz_All_c (i := 22) (fun k J hk hJ => rz_istore_ok (pc := 32) hx hb dJ5_newCapacity_0f7a4_32 hk) ?_
  refine rz_All_c (i := 23) (fun k J hk hJ => rz_iload_ok (pc := 34) hx hb dJ5_newCapacity_0f7a4_34 hk) ?_
  refine rz_All_c (i := 24) (fun k J hk hJ => rz_ldc_ok (pc := 36) hx hb (own := RJ5) ho (hw (i := 60) (j := 14) rfl rfl) dJ5_newCapacity_0f7a4_36 hk) ?_
  refine rz_All_c (i := 25) (fun k J hk hJ => rz_icmpne_ok (pc := 38) hx hb dJ5_newCapacity_0f7a4_38 rfl hk (hJ 27)) ?_
  refine rz_All_c (i := 26) (fun k J hk hJ => rz_no_ok) ?_
  refine rz_All_c (i := 27) (fun k J hk hJ => rz_iload_ok (pc := 51) hx hb dJ5_newCapacity_0f7a4_51 hk) ?_
  refine rz_All_c (i := 28) (fun k J hk hJ => rz_aload_n_ok (pc := 53) hx hb dJ5_newCapacity_0f7a4_53 rfl hk) ?_
  refine rz_All_c (i := 29) (fun k J hk hJ => rz_getf_ok (pc := 54) (own := RJ5) (ref := "java/lang/AbstractStringBuilder") (C := RJ4) (T := TJ4) (N := 4) (ci := 1) (index := 22) (f := 1) (t := 0) (Ts := Cond.code yJ5_newCapacity_0f7a4 cJ5_newCapacity_0f7a4 6 (some .int) :: rz_TB) hx hb hts rz_in1 ho hK rfl (by decide) rfl (fun _ => rfl) (hw (i := 59) (j := 4) rfl rfl) (fun _ z => z) dJ5_newCapacity_0f7a4_54 hk) ?_
  refine rz_All_c (i := 30) (fun k J hk hJ => rz_ishr_ok (pc := 57) hx hb dJ5_newCapacity_0f7a4_57 hk) ?_
  refine rz_All_c (i := 31) (fun k J hk hJ => rz_iret_ok (pc := 58) hC dJ5_newCapacity_0f7a4_58) ?_
  exact trivial
theorem dJ7_copyOf_9075b_0 : decode cJ7_copyOf_9075b 0 = .ok (.iload_n 1, 1) := by decide +kernel
theorem dJ7_copyOf_9075b_1 : decode cJ7_copyOf_9075b 1 = .ok (.aload_n 0, 1) := by decide +kernel
theorem dJ7_copyOf_9075b_2 : decode cJ7_copyOf_9075b 2 = .ok (.arraylength, 1) := by decide +kernel
theorem dJ7_copyOf_9075b_3 : decode cJ7_copyOf_9075b 3 = .ok (.if_icmp .ne 11, 3) := by decide +kernel
theorem dJ7_copyOf_9075b_14 : decode cJ7_copyOf_9075b 14 = .ok (.iload_n 1, 1) := by decide +kernel
theorem dJ7_copyOf_9075b_15 : decode cJ7_copyOf_9075b 15 = .ok (.newarray .byte, 2) := by decide +kernel
theorem dJ7_copyOf_9075b_17 : decode cJ7_copyOf_9075b 17 = .ok (.astore_n 2, 1) := by decide +kernel
theorem dJ7_copyOf_9075b_18 : decode cJ7_copyOf_9075b 18 = .ok (.aload_n 0, 1) := by decide +kernel
theorem dJ7_copyOf_9075b_19 : decode cJ7_copyOf_9075b 19 = .ok (.iconst 0, 1) := by decide +kernel
theorem dJ7_copyOf_9075b_20 : decode cJ7_copyOf_9075b 20 = .ok (.aload_n 2, 1) := by decide +kernel
theorem dJ7_copyOf_9075b_21 : decode cJ7_copyOf_9075b 21 = .ok (.iconst 0, 1) := by decide +kernel
theorem dJ7_copyOf_9075b_22 : decode cJ7_copyOf_9075b 22 = .ok (.aload_n 0, 1) := by decide +kernel
theorem dJ7_copyOf_9075b_23 : decode cJ7_copyOf_9075b 23 = .ok (.arraylength, 1) := by decide +kernel
theorem dJ7_copyOf_9075b_24 : decode cJ7_copyOf_9075b 24 = .ok (.iload_n 1, 1) := by decide +kernel
theorem dJ7_copyOf_9075b_25 : decode cJ7_copyOf_9075b 25 = .ok (.invokestatic 304, 3) := by decide +kernel
theorem dJ7_copyOf_9075b_28 : decode cJ7_copyOf_9075b 28 = .ok (.invokestatic 150, 3) := by decide +kernel
theorem dJ7_copyOf_9075b_31 : decode cJ7_copyOf_9075b 31 = .ok (.aload_n 2, 1) := by decide +kernel
theorem dJ7_copyOf_9075b_32 : decode cJ7_copyOf_9075b 32 = .ok (.areturn, 1) := by decide +kernel
def rpJ7_copyOf_9075b : List Nat := [0, 1, 2, 3, 6, 14, 15, 17, 18, 19, 20, 21, 22, 23, 24, 25, 28, 31, 32]
def rzJ7_copyOf_9075b : List (Nat × Nat) := [(0, 0), (0, 0), (0, 0), (0, 0), (0, 0), (0, 0), (0, 0), (1, 2048), (1, 2048), (1, 2048), (1, 2048), (1, 2048), (1, 2048), (1, 2048), (1, 2048), (1, 2048), (1, 2048), (1, 2048), (1, 2048)]
noncomputable def rcJ7_copyOf_9075b : List rz_B := [rz_iload 1, rz_aload 0, rz_alen, rz_icmpne 5, rz_no, rz_iload 1, rz_newa 7 2048, rz_astore 2, rz_aload 0, rz_cst 0, rz_aload 2, rz_cst 0, rz_aload 0, rz_alen, rz_iload 1, rz_imin, rz_acopyB, rz_aload 2, rz_aret]
noncomputable def rgJ7_copyOf_9075b : rz_L → rz_M → rz_Z → Bool := rz_go rcJ7_copyOf_9075b 3 1000000
def rrJ7_copyOf_9075b : Room := { frames := 1, cells := 1, slots := 2048, locals := 60 }
theorem rmJ7_copyOf_9075b (l : Launch) {G : rz_G} (hG : rz_Gd G) (vs : rz_L) (M : rz_M) (Z : rz_Z) (hn : vs.length = 2) (h : rgJ7_copyOf_9075b vs M Z = true) : Met l yJ7_copyOf_9075b (Cond.code yJ7_copyOf_9075b cJ7_copyOf_9075b 3 (some (.array .byte)) :: rz_TB) rrJ7_copyOf_9075b (rz_Pre G vs M) (rz_Qr G M.2 Z) 1 2048 (fun q => rz_b G ≤ q) := by
  obtain ⟨D, tc, ad, b, xs, rfl⟩ := id hG
  refine rz_bodyM (pcs := rpJ7_copyOf_9075b) (cz := rzJ7_copyOf_9075b) (by decide) rfl rfl (by rw [hn]; decide) h ?_
  intro p e R s m args below meth c hC hmn
  obtain ⟨hx, hb, hml, hr, hlk, ho, hts, hKn, hRm⟩ := id hC
  obtain ⟨hK, hA, hSt⟩ := id hKn
  have hw : ∀ {i j : Nat} {ws : List Cond} {w : Cond}, rz_WW[i]? = some ws → ws[j]? = some w → w.before args s = true := fun h1 h2 => hts _ (List.mem_cons_of_mem _ (rz_mem h1 h2))
  refine rz_All_c (i := 0) (fun k J hk hJ => rz_iload_n_ok (pc := 0) hx hb dJ7_copyOf_9075b_0 rfl hk) ?_
  refine rz_All_c (i := 1) (fun k J hk hJ => rz_aload_n_ok (pc := 1) hx hb dJ7_copyOf_9075b_1 rfl hk) ?_
  refine rz_All_c (i := 2) (fun k J hk hJ => rz_alen_ok (pc := 2) hx hb hK dJ7_copyOf_9075b_2 hk) ?_
  refine rz_All_c (i := 3) (fun k J hk hJ => rz_icmpne_ok (pc := 3) hx hb dJ7_copyOf_9075b_3 rfl hk (hJ 5)) ?_
  refine rz_All_c (i := 4) (fun k J hk hJ => rz_no_ok) ?_
  refine rz_All_c (i := 5) (fun k J hk hJ => rz_iload_n_ok (pc := 14) hx hb dJ7_copyOf_9075b_14 rfl hk) ?_
  refine rz_All_c (i := 6) (fun k J hk hJ => rz_newa_byte_ok (pc := 15) (nz0 := (0, 0)) (mx := 2048) hx hb hK hA (hw (i := 59) (j := 2) rfl rfl) (by decide) (by rw [hRm]; decide) dJ7_copyOf_9075b_15 (rz_wid (by decide) hk)) ?_
  refine rz_All_c (i := 7) (fun k J hk hJ => rz_astore_n_ok (pc := 17) hx hb dJ7_copyOf_9075b_17 rfl hk) ?_
  refine rz_All_c (i := 8) (fun k J hk hJ => rz_aload_n_ok (pc := 18) hx hb dJ7_copyOf_9075b_18 rfl hk) ?_
  refine rz_All_c (i := 9) (fun k J hk hJ => rz_iconst_ok (pc := 19) hx hb dJ7_copyOf_9075b_19 rfl hk) ?_
  refine rz_All_c (i := 10) (fun k J hk hJ => rz_aload_n_ok (pc := 20) hx hb dJ7_copyOf_9075b_20 rfl hk) ?_
  refine rz_All_c (i := 11) (fun k J hk hJ => rz_iconst_ok (pc := 21) hx hb dJ7_copyOf_9075b_21 rfl hk) ?_
  refine rz_All_c (i := 12) (fun k J hk hJ => rz_aload_n_ok (pc := 22) hx hb dJ7_copyOf_9075b_22 rfl hk) ?_
  refine rz_All_c (i := 13) (fun k J hk hJ => rz_alen_ok (pc := 23) hx hb hK dJ7_copyOf_9075b_23 hk) ?_
  refine rz_All_c (i := 14) (fun k J hk hJ => rz_iload_n_ok (pc := 24) hx hb dJ7_copyOf_9075b_24 rfl hk) ?_
  refine rz_All_c (i := 15) (fun k J hk hJ => rz_imin_ok (pc := 25) (nz0 := (1, 2048)) (own := RJ7) hx hb hml ho (hw (i := 61) (j := 13) rfl rfl) (hw (i := 7) (j := 4) rfl rfl) (hw (i := 5) (j := 16) rfl rfl) (hw (i := 7) (j := 5) rfl rfl) (by rw [hRm]; decide) (by rw [hRm]; decide) dJ7_copyOf_9075b_25 hk (by rw [hRm]; decide)) ?_
  refine rz_All_c (i := 16) (fun k J hk hJ => rz_acopyB_ok (pc := 28) (own := RJ7) hx hb hml hK hA ho (hw (i := 61) (j := 16) rfl rfl) (hw (i := 2) (j := 16) rfl rfl) (hw (i := 2) (j := 17) rfl rfl) (hw (i := 2) (j := 18) rfl rfl) (by rw [hRm]; decide) (by rw [hRm]; decide) dJ7_copyOf_9075b_28 hk) ?_
  refine rz_All_c (i := 17) (fun k J hk hJ => rz_aload_n_ok (pc := 31) hx hb dJ7_copyOf_9075b_31 rfl hk) ?_
  refine rz_All_c (i := 18) (fun k J hk hJ => rz_aret_ok (pc := 32) (nz0 := (1, 2048)) hC (Or.inr ⟨_, rfl⟩) dJ7_copyOf_9075b_32 (by decide)) ?_
  exact trivial
theorem dJ5_ensureCapacityInternal_d00df_0 : decode cJ5_ensureCapacityInternal_d00df 0 = .ok (.aload_n 0, 1) := by decide +kernel
theorem dJ5_ensureCapacityInternal_d00df_1 : decode cJ5_ensureCapacityInternal_d00df 1 = .ok (.getfield 15, 3) := by decide +kernel
theorem dJ5_ensureCapacityInternal_d00df_4 : decode cJ5_ensureCapacityInternal_d00df 4 = .ok (.arraylength, 1) := by decide +kernel
theorem dJ5_ensureCapacityInternal_d00df_5 : decode cJ5_ensureCapacityInternal_d00df 5 = .ok (.aload_n 0, 1) := by decide +kernel
theorem dJ5_ensureCapacityInternal_d00df_6 : decode cJ5_ensureCapacityInternal_d00df 6 = .ok (.getfield 22, 3) := by decide +kernel
theorem dJ5_ensureCapacityInternal_d00df_9 : decode cJ5_ensureCapacityInternal_d00df 9 = .ok (.ishr, 1) := by decide +kernel
theorem dJ5_ensureCapacityInternal_d00df_10 : decode cJ5_ensureCapacityInternal_d00df 10 = .ok (.istore_n 2, 1) := by decide +kernel
theorem dJ5_ensureCapacityInternal_d00df_11 : decode cJ5_ensureCapacityInternal_d00df 11 = .ok (.iload_n 1, 1) := by decide +kernel
theorem dJ5_ensureCapacityInternal_d00df_12 : decode cJ5_ensureCapacityInternal_d00df 12 = .ok (.iload_n 2, 1) := by decide +kernel
theorem dJ5_ensureCapacityInternal_d00df_13 : decode cJ5_ensureCapacityInternal_d00df 13 = .ok (.isub, 1) := by decide +kernel
theorem dJ5_ensureCapacityInternal_d00df_14 : decode cJ5_ensureCapacityInternal_d00df 14 = .ok (.ifCond .le 24, 3) := by decide +kernel
theorem dJ5_ensureCapacityInternal_d00df_17 : decode cJ5_ensureCapacityInternal_d00df 17 = .ok (.aload_n 0, 1) := by decide +kernel
theorem dJ5_ensureCapacityInternal_d00df_18 : decode cJ5_ensureCapacityInternal_d00df 18 = .ok (.aload_n 0, 1) := by decide +kernel
theorem dJ5_ensureCapacityInternal_d00df_19 : decode cJ5_ensureCapacityInternal_d00df 19 = .ok (.getfield 15, 3) := by decide +kernel
theorem dJ5_ensureCapacityInternal_d00df_22 : decode cJ5_ensureCapacityInternal_d00df 22 = .ok (.aload_n 0, 1) := by decide +kernel
theorem dJ5_ensureCapacityInternal_d00df_23 : decode cJ5_ensureCapacityInternal_d00df 23 = .ok (.iload_n 1, 1) := by decide +kernel
theorem dJ5_ensureCapacityInternal_d00df_24 : decode cJ5_ensureCapacityInternal_d00df 24 = .ok (.invokevirtual 104, 3) := by decide +kernel
theorem dJ5_ensureCapacityInternal_d00df_27 : decode cJ5_ensureCapacityInternal_d00df 27 = .ok (.aload_n 0, 1) := by decide +kernel
theorem dJ5_ensureCapacityInternal_d00df_28 : decode cJ5_ensureCapacityInternal_d00df 28 = .ok (.getfield 22, 3) := by decide +kernel
theorem dJ5_ensureCapacityInternal_d00df_31 : decode cJ5_ensureCapacityInternal_d00df 31 = .ok (.ishl, 1) := by decide +kernel
theorem dJ5_ensureCapacityInternal_d00df_32 : decode cJ5_ensureCapacityInternal_d00df 32 = .ok (.invokestatic 108, 3) := by decide +kernel
theorem dJ5_ensureCapacityInternal_d00df_35 : decode cJ5_ensureCapacityInternal_d00df 35 = .ok (.putfield 15, 3) := by decide +kernel
theorem dJ5_ensureCapacityInternal_d00df_38 : decode cJ5_ensureCapacityInternal_d00df 38 = .ok (.return_, 1) := by decide +kernel
def rpJ5_ensureCapacityInternal_d00df : List Nat := [0, 1, 4, 5, 6, 9, 10, 11, 12, 13, 14, 17, 18, 19, 22, 23, 24, 27, 28, 31, 32, 35, 38]
def rzJ5_ensureCapacityInternal_d00df : List (Nat × Nat) := [(0, 0), (0, 0), (0, 0), (0, 0), (0, 0), (0, 0), (0, 0), (0, 0), (0, 0), (0, 0), (0, 0), (0, 0), (0, 0), (0, 0), (0, 0), (0, 0), (0, 0), (0, 0), (0, 0), (0, 0), (0, 0), (1, 2048), (1, 2048)]
noncomputable def rcJ5_ensureCapacityInternal_d00df : List rz_B := [rz_aload 0, rz_getf (Nat.add (Nat.mul 256 1) 1) 0 rz_r, rz_alen, rz_aload 0, rz_getf (Nat.add (Nat.mul 256 1) 1) 1 rz_i, rz_ishr, rz_istore 2, rz_iload 1, rz_iload 2, rz_isub, rz_ifle 22, rz_aload 0, rz_aload 0, rz_getf (Nat.add (Nat.mul 256 1) 1) 0 rz_r, rz_aload 0, rz_iload 1, rz_callV 1 (Nat.add (Nat.mul 256 1) 1) rgJ5_newCapacity_0f7a4, rz_aload 0, rz_getf (Nat.add (Nat.mul 256 1) 1) 1 rz_i, rz_ishl, rz_callS 2 rgJ7_copyOf_9075b, rz_putf (Nat.add (Nat.mul 256 1) 1) 0 rz_unR, rz_vret]
noncomputable def rgJ5_ensureCapacityInternal_d00df : rz_L → rz_M → rz_Z → Bool := rz_go rcJ5_ensureCapacityInternal_d00df 3 1000000
def rrJ5_ensureCapacityInternal_d00df : Room := { frames := 3, cells := 1, slots := 2048, locals := 108 }
theorem rmJ5_ensureCapacityInternal_d00df (l : Launch) {G : rz_G} (hG : rz_Gd G) (vs : rz_L) (M : rz_M) (Z : rz_Z) (hn : vs.length = 2) (h : rgJ5_ensureCapacityInternal_d00df vs M Z = true) : Met l yJ5_ensureCapacityInternal_d00df (Cond.code yJ5_ensureCapacityInternal_d00df cJ5_ensureCapacityInternal_d00df 3 none :: rz_TB) rrJ5_ensureCapacityInternal_d00df (rz_Pre G vs M) (rz_Qv G M.2 Z) 1 2048 (fun q => rz_b G ≤ q) := by
  obtain ⟨D, tc, ad, b, xs, rfl⟩ := id hG
  refine rz_bodyM (pcs := rpJ5_ensureCapacityInternal_d00df) (cz := rzJ5_ensureCapacityInternal_d00df) (by decide) rfl rfl (by rw [hn]; decide) h ?_
  intro p e R s m args below meth c hC hmn
  obtain ⟨hx, hb, hml, hr, hlk, ho, hts, hKn, hRm⟩ := id hC
  obtain ⟨hK, hA, hSt⟩ := id hKn
  have hw : ∀ {i j : Nat} {ws : List Cond} {w : Cond}, rz_WW[i]? = some ws → ws[j]? = some w → w.before args s = true := fun h1 h2 => hts _ (List.mem_cons_of_mem _ (rz_mem h1 h2))
  refine rz_All_c (i := 0) (fun k J hk hJ => rz_aload_n_ok (pc := 0) hx hb dJ5_ensureCapacityInternal_d00df_0 rfl hk) ?_
  refine rz_All_c (i := 1) (fun k J hk hJ => rz_getf_ok (pc := 1) (own := RJ5) (ref := "java/lang/AbstractStringBuilder") (C := RJ4) (T := TJ4) (N := 4) (ci := 1) (index := 15) (f := 0) (t := 2) (Ts := Cond.code yJ5_ensureCapacityInternal_d00df cJ5_ensureCapacityInternal_d00df 3 none :: rz_TB) hx hb hts rz_in1 ho hK rfl (by decide) rfl (fun _ => rfl) (hw (i := 59) (j := 3) rfl rfl) (fun _ z => z) dJ5_ensureCapacityInternal_d00df_1 hk) ?_
  refine rz_All_c (i := 2) (fun k J hk hJ => rz_alen_ok (pc := 4) hx hb hK dJ5_ensureCapacityInternal_d00df_4 hk) ?_
  refine rz_All_c (i := 3) (fun k J hk hJ => rz_aload_n_ok (pc := 5) hx hb dJ5_ensureCapacityInternal_d00df_5 rfl hk) ?_
  refine rz_All_c (i := 4) (fun k J hk hJ => rz_getf_ok (pc := 6) (own := RJ5) (ref := "java/lang/AbstractStringBuilder") (C := RJ4) (T := TJ4) (N := 4) (ci := 1) (index := 22) (f := 1) (t := 0) (Ts := Cond.code yJ5_ensureCapacityInternal_d00df cJ5_ensureCapacityInternal_d00df 3 none :: rz_TB) hx hb hts rz_in1 ho hK rfl (by decide) rfl (fun _ => rfl) (hw (i := 59) (j := 4) rfl rfl) (fun _ z => z) dJ5_ensureCapacityInternal_d00df_6 hk) ?_
  refine rz_All_c (i := 5) (fun k J hk hJ => rz_ishr_ok (pc := 9) hx hb dJ5_ensureCapacityInternal_d00df_9 hk) ?_
  refine rz_All_c (i := 6) (fun k J hk hJ => rz_istore_n_ok (pc := 10) hx hb dJ5_ensureCapacityInternal_d00df_10 rfl hk) ?_
  refine rz_All_c (i := 7) (fun k J hk hJ => rz_iload_n_ok (pc := 11) hx hb dJ5_ensureCapacityInternal_d00df_11 rfl hk) ?_
  refine rz_All_c (i := 8) (fun k J hk hJ => rz_iload_n_ok (pc := 12) hx hb dJ5_ensureCapacityInternal_d00df_12 rfl hk) ?_
  refine rz_All_c (i := 9) (fun k J hk hJ => rz_isub_ok (pc := 13) hx hb dJ5_ensureCapacityInternal_d00df_13 hk) ?_
  refine rz_All_c (i := 10) (fun k J hk hJ => rz_ifle_ok (pc := 14) hx hb dJ5_ensureCapacityInternal_d00df_14 rfl hk (rz_wid (by decide) (hJ 22))) ?_
  refine rz_All_c (i := 11) (fun k J hk hJ => rz_aload_n_ok (pc := 17) hx hb dJ5_ensureCapacityInternal_d00df_17 rfl hk) ?_
  refine rz_All_c (i := 12) (fun k J hk hJ => rz_aload_n_ok (pc := 18) hx hb dJ5_ensureCapacityInternal_d00df_18 rfl hk) ?_
  refine rz_All_c (i := 13) (fun k J hk hJ => rz_getf_ok (pc := 19) (own := RJ5) (ref := "java/lang/AbstractStringBuilder") (C := RJ4) (T := TJ4) (N := 4) (ci := 1) (index := 15) (f := 0) (t := 2) (Ts := Cond.code yJ5_ensureCapacityInternal_d00df cJ5_ensureCapacityInternal_d00df 3 none :: rz_TB) hx hb hts rz_in1 ho hK rfl (by decide) rfl (fun _ => rfl) (hw (i := 59) (j := 3) rfl rfl) (fun _ z => z) dJ5_ensureCapacityInternal_d00df_19 hk) ?_
  refine rz_All_c (i := 14) (fun k J hk hJ => rz_aload_n_ok (pc := 22) hx hb dJ5_ensureCapacityInternal_d00df_22 rfl hk) ?_
  refine rz_All_c (i := 15) (fun k J hk hJ => rz_iload_n_ok (pc := 23) hx hb dJ5_ensureCapacityInternal_d00df_23 rfl hk) ?_
  refine rz_All_c (i := 16) (fun k J hk hJ => rz_callUi_ok (pc := 24) (nz0 := (0, 0)) (nz1 := (0, 0)) (own := RJ5) (C := RJ4) (T0 := TJ4) (N0 := 4) (ci := 1) (x0 := ⟨"java/lang/AbstractStringBuilder", "newCapacity", "(I)I"⟩) hC rfl (rmJ5_newCapacity_0f7a4 l hG) (rz_cwU (owner := RJ5) 1 hC rz_good (rz_mem (i := 60) (j := 9) rfl rfl) (rz_mem (i := 60) (j := 10) rfl rfl) (rz_mem (i := 60) (j := 11) rfl rfl) (rz_mem (i := 60) (j := 12) rfl rfl) (rz_mem (i := 58) (j := 22) rfl rfl) (rz_mem (i := 60) (j := 13) rfl rfl) rfl ⟨by decide, by decide, by decide +kernel⟩ rfl rfl ⟨by decide, by decide⟩) rfl dJ5_ensureCapacityInternal_d00df_24 hk (by decide) (by rw [hRm]; decide)) ?_
  refine rz_All_c (i := 17) (fun k J hk hJ => rz_aload_n_ok (pc := 27) hx hb dJ5_ensureCapacityInternal_d00df_27 rfl hk) ?_
  refine rz_All_c (i := 18) (fun k J hk hJ => rz_getf_ok (pc := 28) (own := RJ5) (ref := "java/lang/AbstractStringBuilder") (C := RJ4) (T := TJ4) (N := 4) (ci := 1) (index := 22) (f := 1) (t := 0) (Ts := Cond.code yJ5_ensureCapacityInternal_d00df cJ5_ensureCapacityInternal_d00df 3 none :: rz_TB) hx hb hts rz_in1 ho hK rfl (by decide) rfl (fun _ => rfl) (hw (i := 59) (j := 4) rfl rfl) (fun _ z => z) dJ5_ensureCapacityInternal_d00df_28 hk) ?_
  refine rz_All_c (i := 19) (fun k J hk hJ => rz_ishl_ok (pc := 31) hx hb dJ5_ensureCapacityInternal_d00df_31 hk) ?_
  refine rz_All_c (i := 20) (fun k J hk hJ => rz_callSr_ok (pc := 32) (nz0 := (0, 0)) (nz1 := (1, 2048)) (own := RJ5) hC rfl (rmJ7_copyOf_9075b l hG) (rz_cwX 2 hC rz_good (rz_mem (i := 61) (j := 3) rfl rfl) (rz_mem (i := 61) (j := 4) rfl rfl) (rz_mem (i := 2) (j := 6) rfl rfl) (rz_mem (i := 61) (j := 6) rfl rfl) ⟨by decide, by decide, by decide +kernel⟩ rfl rfl ⟨by decide, by decide⟩) dJ5_ensureCapacityInternal_d00df_32 hk (by decide) (by rw [hRm]; decide)) ?_
  refine rz_All_c (i := 21) (fun k J hk hJ => rz_putf_ok (pc := 35) (own := RJ5) (ref := "java/lang/AbstractStringBuilder") (C := RJ4) (T := TJ4) (N := 4) (ci := 1) (index := 15) (f := 0) (t := 2) (Ts := Cond.code yJ5_ensureCapacityInternal_d00df cJ5_ensureCapacityInternal_d00df 3 none :: rz_TB) hx hb hts rz_in1 tyJ4 tyJ4_ok nmJ4 ho hK hA rfl (by decide) rfl (rz_UnR _ (Or.inr ⟨_, rfl⟩)) rfl (tyJ4_ok 0 (by decide)) (hw (i := 59) (j := 3) rfl rfl) (fun _ z => z) dJ5_ensureCapacityInternal_d00df_35 hk) ?_
  refine rz_All_c (i := 22) (fun k J hk hJ => rz_vret_ok (pc := 38) (nz0 := (1, 2048)) hC dJ5_ensureCapacityInternal_d00df_38 (by decide)) ?_
  exact trivial
theorem dJ5_isLatin1_aae02_0 : decode cJ5_isLatin1_aae02 0 = .ok (.getstatic 18, 3) := by decide +kernel
theorem dJ5_isLatin1_aae02_3 : decode cJ5_isLatin1_aae02 3 = .ok (.ifCond .eq 14, 3) := by decide +kernel
theorem dJ5_isLatin1_aae02_6 : decode cJ5_isLatin1_aae02 6 = .ok (.aload_n 0, 1) := by decide +kernel
theorem dJ5_isLatin1_aae02_7 : decode cJ5_isLatin1_aae02 7 = .ok (.getfield 22, 3) := by decide +kernel
theorem dJ5_isLatin1_aae02_10 : decode cJ5_isLatin1_aae02 10 = .ok (.ifCond .ne 7, 3) := by decide +kernel
theorem dJ5_isLatin1_aae02_13 : decode cJ5_isLatin1_aae02 13 = .ok (.iconst 1, 1) := by decide +kernel
theorem dJ5_isLatin1_aae02_14 : decode cJ5_isLatin1_aae02 14 = .ok (.goto 4, 3) := by decide +kernel
theorem dJ5_isLatin1_aae02_18 : decode cJ5_isLatin1_aae02 18 = .ok (.ireturn, 1) := by decide +kernel
def rpJ5_isLatin1_aae02 : List Nat := [0, 3, 6, 7, 10, 13, 14, 17, 18]
def rzJ5_isLatin1_aae02 : List (Nat × Nat) := [(0, 0), (0, 0), (0, 0), (0, 0), (0, 0), (0, 0), (0, 0), (0, 0), (0, 0)]
noncomputable def rcJ5_isLatin1_aae02 : List rz_B := [rz_cst 1, rz_ifeq 7, rz_aload 0, rz_getf (Nat.add (Nat.mul 256 1) 1) 1 rz_i, rz_ifne 7, rz_cst 1, rz_goto 8, rz_no, rz_zret]
noncomputable def rgJ5_isLatin1_aae02 : rz_L → rz_M → rz_Z → Bool := rz_go rcJ5_isLatin1_aae02 1 1000000
def rrJ5_isLatin1_aae02 : Room := { frames := 0, cells := 0, slots := 0, locals := 0 }
theorem rmJ5_isLatin1_aae02 (l : Launch) {G : rz_G} (hG : rz_Gd G) (vs : rz_L) (M : rz_M) (Z : rz_Z) (hn : vs.length = 1) (h : rgJ5_isLatin1_aae02 vs M Z = true) : Met l yJ5_isLatin1_aae02 (Cond.code yJ5_isLatin1_aae02 cJ5_isLatin1_aae02 1 (some .boolean) :: rz_TB) rrJ5_isLatin1_aae02 (rz_Pre G vs M) (rz_Qi G M.2 Z) 0 0 (fun q => rz_b G ≤ q) := by
  obtain ⟨D, tc, ad, b, xs, rfl⟩ := id hG
  refine rz_bodyM (pcs := rpJ5_isLatin1_aae02) (cz := rzJ5_isLatin1_aae02) (by decide) rfl rfl (by rw [hn]; decide) h ?_
  intro p e R s m args below meth c hC hmn
  obtain ⟨hx, hb, hml, hr, hlk, ho, hts, hKn, hRm⟩ := id hC
  obtain ⟨hK, hA, hSt⟩ := id hKn
  have hw : ∀ {i j : Nat} {ws : List Cond} {w : Cond}, rz_WW[i]? = some ws → ws[j]? = some w → w.before args s = true := fun h1 h2 => hts _ (List.mem_cons_of_mem _ (rz_mem h1 h2))
  refine rz_All_c (i := 0) (fun k J hk hJ => rz_gets_ok (pc := 0) (own := RJ5) (ref := "java/lang/String") (index := 18) hx hb hSt.2.2.2.1 rfl ho (hw (i := 59) (j := 1) rfl rfl) (fun _ z => z) dJ5_isLatin1_aae02_0 hk) ?_
  refine rz_All_c (i := 1) (fun k J hk hJ => rz_ifeq_ok (pc := 3) hx hb dJ5_isLatin1_aae02_3 rfl hk (hJ 7)) ?_
  refine rz_All_c (i := 2) (fun k J hk hJ => rz_aload_n_ok (pc := 6) hx hb dJ5_isLatin1_aae02_6 rfl hk) ?_
  refine rz_All_c (i := 3) (fun k J hk hJ => rz_getf_ok (pc := 7) (own := RJ5) (ref := "java/lang/AbstractStringBuilder") (C := RJ4) (T := TJ4) (N := 4) (ci := 1) (index := 22) (f := 1) (t := 0) (Ts := Cond.code yJ5_isLatin1_aae02 cJ5_isLatin1_aae02 1 (some .boolean) :: rz_TB) hx hb hts rz_in1 ho hK rfl (by decide) rfl (fun _ => rfl) (hw (i := 59) (j := 4) rfl rfl) (fun _ z => z) dJ5_isLatin1_aae02_7 hk) ?_
  refine rz_All_c (i := 4) (fun k J hk hJ => rz_ifne_ok (pc := 10) hx hb dJ5_isLatin1_aae02_10 rfl hk (hJ 7)) ?_
  refine rz_All_c (i := 5) (fun k J hk hJ => rz_iconst_ok (pc := 13) hx hb dJ5_isLatin1_aae02_13 rfl hk) ?_
  refine rz_All_c (i := 6) (fun k J hk hJ => rz_goto_ok (pc := 14) hx hb dJ5_isLatin1_aae02_14 rfl (hJ 8)) ?_
  refine rz_All_c (i := 7) (fun k J hk hJ => rz_no_ok) ?_
  refine rz_All_c (i := 8) (fun k J hk hJ => rz_zret_ok (pc := 18) hC dJ5_isLatin1_aae02_18) ?_
  exact trivial
theorem dJ1_canEncode_fc78d_0 : decode cJ1_canEncode_fc78d 0 = .ok (.iload_n 0, 1) := by decide +kernel
theorem dJ1_canEncode_fc78d_1 : decode cJ1_canEncode_fc78d 1 = .ok (.sipush 255, 3) := by decide +kernel
theorem dJ1_canEncode_fc78d_4 : decode cJ1_canEncode_fc78d 4 = .ok (.if_icmp .gt 7, 3) := by decide +kernel
theorem dJ1_canEncode_fc78d_7 : decode cJ1_canEncode_fc78d 7 = .ok (.iconst 1, 1) := by decide +kernel
theorem dJ1_canEncode_fc78d_8 : decode cJ1_canEncode_fc78d 8 = .ok (.goto 4, 3) := by decide +kernel
theorem dJ1_canEncode_fc78d_12 : decode cJ1_canEncode_fc78d 12 = .ok (.ireturn, 1) := by decide +kernel
def rpJ1_canEncode_fc78d : List Nat := [0, 1, 4, 7, 8, 11, 12]
def rzJ1_canEncode_fc78d : List (Nat × Nat) := [(0, 0), (0, 0), (0, 0), (0, 0), (0, 0), (0, 0), (0, 0)]
noncomputable def rcJ1_canEncode_fc78d : List rz_B := [rz_iload 0, rz_cst 255, rz_icmpgt 5, rz_cst 1, rz_goto 6, rz_no, rz_zret]
noncomputable def rgJ1_canEncode_fc78d : rz_L → rz_M → rz_Z → Bool := rz_go rcJ1_canEncode_fc78d 1 1000000
def rrJ1_canEncode_fc78d : Room := { frames := 0, cells := 0, slots := 0, locals := 0 }
theorem rmJ1_canEncode_fc78d (l : Launch) {G : rz_G} (hG : rz_Gd G) (vs : rz_L) (M : rz_M) (Z : rz_Z) (hn : vs.length = 1) (h : rgJ1_canEncode_fc78d vs M Z = true) : Met l yJ1_canEncode_fc78d (Cond.code yJ1_canEncode_fc78d cJ1_canEncode_fc78d 1 (some .boolean) :: rz_TB) rrJ1_canEncode_fc78d (rz_Pre G vs M) (rz_Qi G M.2 Z) 0 0 (fun q => rz_b G ≤ q) := by
  obtain ⟨D, tc, ad, b, xs, rfl⟩ := id hG
  refine rz_bodyM (pcs := rpJ1_canEncode_fc78d) (cz := rzJ1_canEncode_fc78d) (by decide) rfl rfl (by rw [hn]; decide) h ?_
  intro p e R s m args below meth c hC hmn
  obtain ⟨hx, hb, hml, hr, hlk, ho, hts, hKn, hRm⟩ := id hC
  obtain ⟨hK, hA, hSt⟩ := id hKn
  have hw : ∀ {i j : Nat} {ws : List Cond} {w : Cond}, rz_WW[i]? = some ws → ws[j]? = some w → w.before args s = true := fun h1 h2 => hts _ (List.mem_cons_of_mem _ (rz_mem h1 h2))
  refine rz_All_c (i := 0) (fun k J hk hJ => rz_iload_n_ok (pc := 0) hx hb dJ1_canEncode_fc78d_0 rfl hk) ?_
  refine rz_All_c (i := 1) (fun k J hk hJ => rz_sipush_ok (pc := 1) hx hb dJ1_canEncode_fc78d_1 (by decide) hk) ?_
  refine rz_All_c (i := 2) (fun k J hk hJ => rz_icmpgt_ok (pc := 4) hx hb dJ1_canEncode_fc78d_4 rfl hk (hJ 5)) ?_
  refine rz_All_c (i := 3) (fun k J hk hJ => rz_iconst_ok (pc := 7) hx hb dJ1_canEncode_fc78d_7 rfl hk) ?_
  refine rz_All_c (i := 4) (fun k J hk hJ => rz_goto_ok (pc := 8) hx hb dJ1_canEncode_fc78d_8 rfl (hJ 6)) ?_
  refine rz_All_c (i := 5) (fun k J hk hJ => rz_no_ok) ?_
  refine rz_All_c (i := 6) (fun k J hk hJ => rz_zret_ok (pc := 12) hC dJ1_canEncode_fc78d_12) ?_
  exact trivial
theorem dJ5_append_3fe6f_0 : decode cJ5_append_3fe6f 0 = .ok (.aload_n 0, 1) := by decide +kernel
theorem dJ5_append_3fe6f_1 : decode cJ5_append_3fe6f 1 = .ok (.aload_n 0, 1) := by decide +kernel
theorem dJ5_append_3fe6f_2 : decode cJ5_append_3fe6f 2 = .ok (.getfield 79, 3) := by decide +kernel
theorem dJ5_append_3fe6f_5 : decode cJ5_append_3fe6f 5 = .ok (.iconst 1, 1) := by decide +kernel
theorem dJ5_append_3fe6f_6 : decode cJ5_append_3fe6f 6 = .ok (.iadd, 1) := by decide +kernel
theorem dJ5_append_3fe6f_7 : decode cJ5_append_3fe6f 7 = .ok (.invokevirtual 100, 3) := by decide +kernel
theorem dJ5_append_3fe6f_10 : decode cJ5_append_3fe6f 10 = .ok (.aload_n 0, 1) := by decide +kernel
theorem dJ5_append_3fe6f_11 : decode cJ5_append_3fe6f 11 = .ok (.invokevirtual 83, 3) := by decide +kernel
theorem dJ5_append_3fe6f_14 : decode cJ5_append_3fe6f 14 = .ok (.ifCond .eq 31, 3) := by decide +kernel
theorem dJ5_append_3fe6f_17 : decode cJ5_append_3fe6f 17 = .ok (.iload_n 1, 1) := by decide +kernel
theorem dJ5_append_3fe6f_18 : decode cJ5_append_3fe6f 18 = .ok (.invokestatic 191, 3) := by decide +kernel
theorem dJ5_append_3fe6f_21 : decode cJ5_append_3fe6f 21 = .ok (.ifCond .eq 24, 3) := by decide +kernel
theorem dJ5_append_3fe6f_24 : decode cJ5_append_3fe6f 24 = .ok (.aload_n 0, 1) := by decide +kernel
theorem dJ5_append_3fe6f_25 : decode cJ5_append_3fe6f 25 = .ok (.getfield 15, 3) := by decide +kernel
theorem dJ5_append_3fe6f_28 : decode cJ5_append_3fe6f 28 = .ok (.aload_n 0, 1) := by decide +kernel
theorem dJ5_append_3fe6f_29 : decode cJ5_append_3fe6f 29 = .ok (.dup, 1) := by decide +kernel
theorem dJ5_append_3fe6f_30 : decode cJ5_append_3fe6f 30 = .ok (.getfield 79, 3) := by decide +kernel
theorem dJ5_append_3fe6f_33 : decode cJ5_append_3fe6f 33 = .ok (.dup_x1, 1) := by decide +kernel
theorem dJ5_append_3fe6f_34 : decode cJ5_append_3fe6f 34 = .ok (.iconst 1, 1) := by decide +kernel
theorem dJ5_append_3fe6f_35 : decode cJ5_append_3fe6f 35 = .ok (.iadd, 1) := by decide +kernel
theorem dJ5_append_3fe6f_36 : decode cJ5_append_3fe6f 36 = .ok (.putfield 79, 3) := by decide +kernel
theorem dJ5_append_3fe6f_39 : decode cJ5_append_3fe6f 39 = .ok (.iload_n 1, 1) := by decide +kernel
theorem dJ5_append_3fe6f_40 : decode cJ5_append_3fe6f 40 = .ok (.i2b, 1) := by decide +kernel
theorem dJ5_append_3fe6f_41 : decode cJ5_append_3fe6f 41 = .ok (.bastore, 1) := by decide +kernel
theorem dJ5_append_3fe6f_42 : decode cJ5_append_3fe6f 42 = .ok (.goto 33, 3) := by decide +kernel
theorem dJ5_append_3fe6f_75 : decode cJ5_append_3fe6f 75 = .ok (.aload_n 0, 1) := by decide +kernel
theorem dJ5_append_3fe6f_76 : decode cJ5_append_3fe6f 76 = .ok (.areturn, 1) := by decide +kernel
def rpJ5_append_3fe6f : List Nat := [0, 1, 2, 5, 6, 7, 10, 11, 14, 17, 18, 21, 24, 25, 28, 29, 30, 33, 34, 35, 36, 39, 40, 41, 42, 45, 75, 76]
def rzJ5_append_3fe6f : List (Nat × Nat) := [(0, 0), (0, 0), (0, 0), (0, 0), (0, 0), (0, 0), (1, 2048), (1, 2048), (1, 2048), (1, 2048), (1, 2048), (1, 2048), (1, 2048), (1, 2048), (1, 2048), (1, 2048), (1, 2048), (1, 2048), (1, 2048), (1, 2048), (1, 2048), (1, 2048), (1, 2048), (1, 2048), (1, 2048), (1, 2048), (1, 2048), (1, 2048)]
noncomputable def rcJ5_append_3fe6f : List rz_B := [rz_aload 0, rz_aload 0, rz_getf (Nat.add (Nat.mul 256 1) 1) 3 rz_i, rz_cst 1, rz_iadd, rz_callVv 1 (Nat.add (Nat.mul 256 1) 1) rgJ5_ensureCapacityInternal_d00df, rz_aload 0, rz_callV 0 (Nat.add (Nat.mul 256 1) 1) rgJ5_isLatin1_aae02, rz_ifeq 25, rz_iload 1, rz_callS 1 rgJ1_canEncode_fc78d, rz_ifeq 25, rz_aload 0, rz_getf (Nat.add (Nat.mul 256 1) 1) 0 rz_r, rz_aload 0, rz_dup, rz_getf (Nat.add (Nat.mul 256 1) 1) 3 rz_i, rz_dup_x1, rz_cst 1, rz_iadd, rz_putf (Nat.add (Nat.mul 256 1) 1) 3 rz_unI, rz_iload 1, rz_i2b, rz_bast, rz_goto 26, rz_no, rz_aload 0, rz_aret]
noncomputable def rgJ5_append_3fe6f : rz_L → rz_M → rz_Z → Bool := rz_go rcJ5_append_3fe6f 2 1000000
def rrJ5_append_3fe6f : Room := { frames := 4, cells := 1, slots := 2048, locals := 130 }
theorem rmJ5_append_3fe6f (l : Launch) {G : rz_G} (hG : rz_Gd G) (vs : rz_L) (M : rz_M) (Z : rz_Z) (hn : vs.length = 2) (h : rgJ5_append_3fe6f vs M Z = true) : Met l yJ5_append_3fe6f (Cond.code yJ5_append_3fe6f cJ5_append_3fe6f 2 (some (.object "java/lang/AbstractStringBuilder")) :: rz_TB) rrJ5_append_3fe6f (rz_Pre G vs M) (rz_Qr G M.2 Z) 1 2048 (fun q => rz_b G ≤ q) := by
  obtain ⟨D, tc, ad, b, xs, rfl⟩ := id hG
  refine rz_bodyM (pcs := rpJ5_append_3fe6f) (cz := rzJ5_append_3fe6f) (by decide) rfl rfl (by rw [hn]; decide) h ?_
  intro p e R s m args below meth c hC hmn
  obtain ⟨hx, hb, hml, hr, hlk, ho, hts, hKn, hRm⟩ := id hC
  obtain ⟨hK, hA, hSt⟩ := id hKn
  have hw : ∀ {i j : Nat} {ws : List Cond} {w : Cond}, rz_WW[i]? = some ws → ws[j]? = some w → w.before args s = true := fun h1 h2 => hts _ (List.mem_cons_of_mem _ (rz_mem h1 h2))
  refine rz_All_c (i := 0) (fun k J hk hJ => rz_aload_n_ok (pc := 0) hx hb dJ5_append_3fe6f_0 rfl hk) ?_
  refine rz_All_c (i := 1) (fun k J hk hJ => rz_aload_n_ok (pc := 1) hx hb dJ5_append_3fe6f_1 rfl hk) ?_
  refine rz_All_c (i := 2) (fun k J hk hJ => rz_getf_ok (pc := 2) (own := RJ5) (ref := "java/lang/AbstractStringBuilder") (C := RJ4) (T := TJ4) (N := 4) (ci := 1) (index := 79) (f := 3) (t := 0) (Ts := Cond.code yJ5_append_3fe6f cJ5_append_3fe6f 2 (some (.object "java/lang/AbstractStringBuilder")) :: rz_TB) hx hb hts rz_in1 ho hK rfl (by decide) rfl (fun _ => rfl) (hw (i := 59) (j := 22) rfl rfl) (fun _ z => z) dJ5_append_3fe6f_2 hk) ?_
  refine rz_All_c (i := 3) (fun k J hk hJ => rz_iconst_ok (pc := 5) hx hb dJ5_append_3fe6f_5 rfl hk) ?_
  refine rz_All_c (i := 4) (fun k J hk hJ => rz_iadd_ok (pc := 6) hx hb dJ5_append_3fe6f_6 hk) ?_
  refine rz_All_c (i := 5) (fun k J hk hJ => rz_callUv_ok (pc := 7) (nz0 := (0, 0)) (nz1 := (1, 2048)) (own := RJ5) (C := RJ4) (T0 := TJ4) (N0 := 4) (ci := 1) (x0 := ⟨"java/lang/AbstractStringBuilder", "ensureCapacityInternal", "(I)V"⟩) hC rfl (rmJ5_ensureCapacityInternal_d00df l hG) (rz_cwU (owner := RJ5) 1 hC rz_good (rz_mem (i := 60) (j := 4) rfl rfl) (rz_mem (i := 60) (j := 5) rfl rfl) (rz_mem (i := 60) (j := 6) rfl rfl) (rz_mem (i := 60) (j := 7) rfl rfl) (rz_mem (i := 58) (j := 22) rfl rfl) (rz_mem (i := 60) (j := 8) rfl rfl) rfl ⟨by decide, by decide, by decide +kernel⟩ rfl rfl ⟨by decide, by decide⟩) rfl dJ5_append_3fe6f_7 hk (by decide) (by rw [hRm]; decide)) ?_
  refine rz_All_c (i := 6) (fun k J hk hJ => rz_aload_n_ok (pc := 10) hx hb dJ5_append_3fe6f_10 rfl hk) ?_
  refine rz_All_c (i := 7) (fun k J hk hJ => rz_callUi_ok (pc := 11) (nz0 := (1, 2048)) (nz1 := (1, 2048)) (own := RJ5) (C := RJ4) (T0 := TJ4) (N0 := 4) (ci := 1) (x0 := ⟨"java/lang/AbstractStringBuilder", "isLatin1", "()Z"⟩) hC rfl (rmJ5_isLatin1_aae02 l hG) (rz_cwU (owner := RJ5) 0 hC rz_good (rz_mem (i := 61) (j := 20) rfl rfl) (rz_mem (i := 61) (j := 21) rfl rfl) (rz_mem (i := 61) (j := 22) rfl rfl) (rz_mem (i := 61) (j := 23) rfl rfl) (rz_mem (i := 58) (j := 22) rfl rfl) (rz_mem (i := 62) (j := 0) rfl rfl) rfl ⟨by decide, by decide, by decide +kernel⟩ rfl rfl ⟨by decide, by decide⟩) rfl dJ5_append_3fe6f_11 hk (by decide) (by rw [hRm]; decide)) ?_
  refine rz_All_c (i := 8) (fun k J hk hJ => rz_ifeq_ok (pc := 14) hx hb dJ5_append_3fe6f_14 rfl hk (hJ 25)) ?_
  refine rz_All_c (i := 9) (fun k J hk hJ => rz_iload_n_ok (pc := 17) hx hb dJ5_append_3fe6f_17 rfl hk) ?_
  refine rz_All_c (i := 10) (fun k J hk hJ => rz_callS_ok (pc := 18) (nz0 := (1, 2048)) (nz1 := (1, 2048)) (own := RJ5) hC rfl (rmJ1_canEncode_fc78d l hG) (rz_cwX 1 hC rz_good (rz_mem (i := 65) (j := 10) rfl rfl) (rz_mem (i := 65) (j := 11) rfl rfl) (rz_mem (i := 6) (j := 22) rfl rfl) (rz_mem (i := 65) (j := 12) rfl rfl) ⟨by decide, by decide, by decide +kernel⟩ rfl rfl ⟨by decide, by decide⟩) dJ5_append_3fe6f_18 hk (by decide) (by rw [hRm]; decide)) ?_
  refine rz_All_c (i := 11) (fun k J hk hJ => rz_ifeq_ok (pc := 21) hx hb dJ5_append_3fe6f_21 rfl hk (hJ 25)) ?_
  refine rz_All_c (i := 12) (fun k J hk hJ => rz_aload_n_ok (pc := 24) hx hb dJ5_append_3fe6f_24 rfl hk) ?_
  refine rz_All_c (i := 13) (fun k J hk hJ => rz_getf_ok (pc := 25) (own := RJ5) (ref := "java/lang/AbstractStringBuilder") (C := RJ4) (T := TJ4) (N := 4) (ci := 1) (index := 15) (f := 0) (t := 2) (Ts := Cond.code yJ5_append_3fe6f cJ5_append_3fe6f 2 (some (.object "java/lang/AbstractStringBuilder")) :: rz_TB) hx hb hts rz_in1 ho hK rfl (by decide) rfl (fun _ => rfl) (hw (i := 59) (j := 3) rfl rfl) (fun _ z => z) dJ5_append_3fe6f_25 hk) ?_
  refine rz_All_c (i := 14) (fun k J hk hJ => rz_aload_n_ok (pc := 28) hx hb dJ5_append_3fe6f_28 rfl hk) ?_
  refine rz_All_c (i := 15) (fun k J hk hJ => rz_dup_ok (pc := 29) hx hb dJ5_append_3fe6f_29 hk) ?_
  refine rz_All_c (i := 16) (fun k J hk hJ => rz_getf_ok (pc := 30) (own := RJ5) (ref := "java/lang/AbstractStringBuilder") (C := RJ4) (T := TJ4) (N := 4) (ci := 1) (index := 79) (f := 3) (t := 0) (Ts := Cond.code yJ5_append_3fe6f cJ5_append_3fe6f 2 (some (.object "java/lang/AbstractStringBuilder")) :: rz_TB) hx hb hts rz_in1 ho hK rfl (by decide) rfl (fun _ => rfl) (hw (i := 59) (j := 22) rfl rfl) (fun _ z => z) dJ5_append_3fe6f_30 hk) ?_
  refine rz_All_c (i := 17) (fun k J hk hJ => rz_dup_x1_ok (pc := 33) hx hb dJ5_append_3fe6f_33 hk) ?_
  refine rz_All_c (i := 18) (fun k J hk hJ => rz_iconst_ok (pc := 34) hx hb dJ5_append_3fe6f_34 rfl hk) ?_
  refine rz_All_c (i := 19) (fun k J hk hJ => rz_iadd_ok (pc := 35) hx hb dJ5_append_3fe6f_35 hk) ?_
  refine rz_All_c (i := 20) (fun k J hk hJ => rz_putf_ok (pc := 36) (own := RJ5) (ref := "java/lang/AbstractStringBuilder") (C := RJ4) (T := TJ4) (N := 4) (ci := 1) (index := 79) (f := 3) (t := 0) (Ts := Cond.code yJ5_append_3fe6f cJ5_append_3fe6f 2 (some (.object "java/lang/AbstractStringBuilder")) :: rz_TB) hx hb hts rz_in1 tyJ4 tyJ4_ok nmJ4 ho hK hA rfl (by decide) rfl (rz_UnI _) rfl (tyJ4_ok 3 (by decide)) (hw (i := 59) (j := 22) rfl rfl) (fun _ z => z) dJ5_append_3fe6f_36 hk) ?_
  refine rz_All_c (i := 21) (fun k J hk hJ => rz_iload_n_ok (pc := 39) hx hb dJ5_append_3fe6f_39 rfl hk) ?_
  refine rz_All_c (i := 22) (fun k J hk hJ => rz_i2b_ok (pc := 40) hx hb dJ5_append_3fe6f_40 hk) ?_
  refine rz_All_c (i := 23) (fun k J hk hJ => rz_bast_ok (pc := 41) hx hb hK hA dJ5_append_3fe6f_41 hk) ?_
  refine rz_All_c (i := 24) (fun k J hk hJ => rz_goto_ok (pc := 42) hx hb dJ5_append_3fe6f_42 rfl (hJ 26)) ?_
  refine rz_All_c (i := 25) (fun k J hk hJ => rz_no_ok) ?_
  refine rz_All_c (i := 26) (fun k J hk hJ => rz_aload_n_ok (pc := 75) hx hb dJ5_append_3fe6f_75 rfl hk) ?_
  refine rz_All_c (i := 27) (fun k J hk hJ => rz_aret_ok (pc := 76) (nz0 := (1, 2048)) hC (Or.inl ⟨_, rfl⟩) dJ5_append_3fe6f_76 (by decide)) ?_
  exact trivial
theorem dJ4_append_cf468_0 : decode cJ4_append_cf468 0 = .ok (.aload_n 0, 1) := by decide +kernel
theorem dJ4_append_cf468_1 : decode cJ4_append_cf468 1 = .ok (.iload_n 1, 1) := by decide +kernel
theorem dJ4_append_cf468_2 : decode cJ4_append_cf468 2 = .ok (.invokespecial 50, 3) := by decide +kernel
theorem dJ4_append_cf468_5 : decode cJ4_append_cf468 5 = .ok (.pop, 1) := by decide +kernel
theorem dJ4_append_cf468_6 : decode cJ4_append_cf468 6 = .ok (.aload_n 0, 1) := by decide +kernel
theorem dJ4_append_cf468_7 : decode cJ4_append_cf468 7 = .ok (.areturn, 1) := by decide +kernel
def rpJ4_append_cf468 : List Nat := [0, 1, 2, 5, 6, 7]
def rzJ4_append_cf468 : List (Nat × Nat) := [(0, 0), (0, 0), (0, 0), (1, 2048), (1, 2048), (1, 2048)]
noncomputable def rcJ4_append_cf468 : List rz_B := [rz_aload 0, rz_iload 1, rz_callV 1 (Nat.add (Nat.mul 256 1) 1) rgJ5_append_3fe6f, rz_pop, rz_aload 0, rz_aret]
noncomputable def rgJ4_append_cf468 : rz_L → rz_M → rz_Z → Bool := rz_go rcJ4_append_cf468 2 1000000
def rrJ4_append_cf468 : Room := { frames := 5, cells := 1, slots := 2048, locals := 151 }
theorem rmJ4_append_cf468 (l : Launch) {G : rz_G} (hG : rz_Gd G) (vs : rz_L) (M : rz_M) (Z : rz_Z) (hn : vs.length = 2) (h : rgJ4_append_cf468 vs M Z = true) : Met l yJ4_append_cf468 (Cond.code yJ4_append_cf468 cJ4_append_cf468 2 (some (.object "java/lang/StringBuilder")) :: rz_TB) rrJ4_append_cf468 (rz_Pre G vs M) (rz_Qr G M.2 Z) 1 2048 (fun q => rz_b G ≤ q) := by
  obtain ⟨D, tc, ad, b, xs, rfl⟩ := id hG
  refine rz_bodyM (pcs := rpJ4_append_cf468) (cz := rzJ4_append_cf468) (by decide) rfl rfl (by rw [hn]; decide) h ?_
  intro p e R s m args below meth c hC hmn
  obtain ⟨hx, hb, hml, hr, hlk, ho, hts, hKn, hRm⟩ := id hC
  obtain ⟨hK, hA, hSt⟩ := id hKn
  have hw : ∀ {i j : Nat} {ws : List Cond} {w : Cond}, rz_WW[i]? = some ws → ws[j]? = some w → w.before args s = true := fun h1 h2 => hts _ (List.mem_cons_of_mem _ (rz_mem h1 h2))
  refine rz_All_c (i := 0) (fun k J hk hJ => rz_aload_n_ok (pc := 0) hx hb dJ4_append_cf468_0 rfl hk) ?_
  refine rz_All_c (i := 1) (fun k J hk hJ => rz_iload_n_ok (pc := 1) hx hb dJ4_append_cf468_1 rfl hk) ?_
  refine rz_All_c (i := 2) (fun k J hk hJ => rz_callPr_ok (pc := 2) (nz0 := (0, 0)) (nz1 := (1, 2048)) (own := RJ4) (C := RJ4) (T0 := TJ4) (N0 := 4) (ci := 1) hC rfl (rmJ5_append_3fe6f l hG) (rz_cwP 1 hC rz_good (rz_mem (i := 65) (j := 6) rfl rfl) (rz_mem (i := 65) (j := 7) rfl rfl) (rz_mem (i := 59) (j := 19) rfl rfl) (rz_mem (i := 65) (j := 8) rfl rfl) (rz_mem (i := 58) (j := 22) rfl rfl) (rz_mem (i := 65) (j := 9) rfl rfl) ⟨by decide, by decide +kernel⟩ rfl rfl ⟨by decide, by decide⟩) rfl dJ4_append_cf468_2 hk (by decide) (by rw [hRm]; decide)) ?_
  refine rz_All_c (i := 3) (fun k J hk hJ => rz_pop_ok (pc := 5) hx hb dJ4_append_cf468_5 hk) ?_
  refine rz_All_c (i := 4) (fun k J hk hJ => rz_aload_n_ok (pc := 6) hx hb dJ4_append_cf468_6 rfl hk) ?_
  refine rz_All_c (i := 5) (fun k J hk hJ => rz_aret_ok (pc := 7) (nz0 := (1, 2048)) hC (Or.inl ⟨_, rfl⟩) dJ4_append_cf468_7 (by decide)) ?_
  exact trivial
theorem dJ5_inflateIfNeededFor_a7421_0 : decode cJ5_inflateIfNeededFor_a7421 0 = .ok (.getstatic 18, 3) := by decide +kernel
theorem dJ5_inflateIfNeededFor_a7421_3 : decode cJ5_inflateIfNeededFor_a7421 3 = .ok (.ifCond .eq 18, 3) := by decide +kernel
theorem dJ5_inflateIfNeededFor_a7421_6 : decode cJ5_inflateIfNeededFor_a7421 6 = .ok (.aload_n 0, 1) := by decide +kernel
theorem dJ5_inflateIfNeededFor_a7421_7 : decode cJ5_inflateIfNeededFor_a7421 7 = .ok (.getfield 22, 3) := by decide +kernel
theorem dJ5_inflateIfNeededFor_a7421_10 : decode cJ5_inflateIfNeededFor_a7421 10 = .ok (.aload_n 1, 1) := by decide +kernel
theorem dJ5_inflateIfNeededFor_a7421_11 : decode cJ5_inflateIfNeededFor_a7421 11 = .ok (.invokevirtual 40, 3) := by decide +kernel
theorem dJ5_inflateIfNeededFor_a7421_14 : decode cJ5_inflateIfNeededFor_a7421 14 = .ok (.if_icmp .eq 7, 3) := by decide +kernel
theorem dJ5_inflateIfNeededFor_a7421_21 : decode cJ5_inflateIfNeededFor_a7421 21 = .ok (.return_, 1) := by decide +kernel
def rpJ5_inflateIfNeededFor_a7421 : List Nat := [0, 3, 6, 7, 10, 11, 14, 17, 21]
def rzJ5_inflateIfNeededFor_a7421 : List (Nat × Nat) := [(0, 0), (0, 0), (0, 0), (0, 0), (0, 0), (0, 0), (0, 0), (0, 0), (0, 0)]
noncomputable def rcJ5_inflateIfNeededFor_a7421 : List rz_B := [rz_cst 1, rz_ifeq 8, rz_aload 0, rz_getf (Nat.add (Nat.mul 256 1) 1) 1 rz_i, rz_aload 1, rz_callT 0 rgJ0_coder_7d493, rz_icmpeq 8, rz_no, rz_vret]
noncomputable def rgJ5_inflateIfNeededFor_a7421 : rz_L → rz_M → rz_Z → Bool := rz_go rcJ5_inflateIfNeededFor_a7421 2 1000000
def rrJ5_inflateIfNeededFor_a7421 : Room := { frames := 1, cells := 0, slots := 0, locals := 20 }
theorem rmJ5_inflateIfNeededFor_a7421 (l : Launch) {G : rz_G} (hG : rz_Gd G) (vs : rz_L) (M : rz_M) (Z : rz_Z) (hn : vs.length = 2) (h : rgJ5_inflateIfNeededFor_a7421 vs M Z = true) : Met l yJ5_inflateIfNeededFor_a7421 (Cond.code yJ5_inflateIfNeededFor_a7421 cJ5_inflateIfNeededFor_a7421 2 none :: rz_TB) rrJ5_inflateIfNeededFor_a7421 (rz_Pre G vs M) (rz_Qv G M.2 Z) 0 0 (fun q => rz_b G ≤ q) := by
  obtain ⟨D, tc, ad, b, xs, rfl⟩ := id hG
  refine rz_bodyM (pcs := rpJ5_inflateIfNeededFor_a7421) (cz := rzJ5_inflateIfNeededFor_a7421) (by decide) rfl rfl (by rw [hn]; decide) h ?_
  intro p e R s m args below meth c hC hmn
  obtain ⟨hx, hb, hml, hr, hlk, ho, hts, hKn, hRm⟩ := id hC
  obtain ⟨hK, hA, hSt⟩ := id hKn
  have hw : ∀ {i j : Nat} {ws : List Cond} {w : Cond}, rz_WW[i]? = some ws → ws[j]? = some w → w.before args s = true := fun h1 h2 => hts _ (List.mem_cons_of_mem _ (rz_mem h1 h2))
  refine rz_All_c (i := 0) (fun k J hk hJ => rz_gets_ok (pc := 0) (own := RJ5) (ref := "java/lang/String") (index := 18) hx hb hSt.2.2.2.1 rfl ho (hw (i := 59) (j := 1) rfl rfl) (fun _ z => z) dJ5_inflateIfNeededFor_a7421_0 hk) ?_
  refine rz_All_c (i := 1) (fun k J hk hJ => rz_ifeq_ok (pc := 3) hx hb dJ5_inflateIfNeededFor_a7421_3 rfl hk (hJ 8)) ?_
  refine rz_All_c (i := 2) (fun k J hk hJ => rz_aload_n_ok (pc := 6) hx hb dJ5_inflateIfNeededFor_a7421_6 rfl hk) ?_
  refine rz_All_c (i := 3) (fun k J hk hJ => rz_getf_ok (pc := 7) (own := RJ5) (ref := "java/lang/AbstractStringBuilder") (C := RJ4) (T := TJ4) (N := 4) (ci := 1) (index := 22) (f := 1) (t := 0) (Ts := Cond.code yJ5_inflateIfNeededFor_a7421 cJ5_inflateIfNeededFor_a7421 2 none :: rz_TB) hx hb hts rz_in1 ho hK rfl (by decide) rfl (fun _ => rfl) (hw (i := 59) (j := 4) rfl rfl) (fun _ z => z) dJ5_inflateIfNeededFor_a7421_7 hk) ?_
  refine rz_All_c (i := 4) (fun k J hk hJ => rz_aload_n_ok (pc := 10) hx hb dJ5_inflateIfNeededFor_a7421_10 rfl hk) ?_
  refine rz_All_c (i := 5) (fun k J hk hJ => rz_callT_ok (pc := 11) (nz0 := (0, 0)) (nz1 := (0, 0)) (own := RJ5) hC rfl (rmJ0_coder_7d493 l hG) (rz_cwV 0 hC rz_good (rz_mem (i := 63) (j := 22) rfl rfl) (rz_mem (i := 6) (j := 17) rfl rfl) (rz_mem (i := 6) (j := 18) rfl rfl) (rz_mem (i := 5) (j := 23) rfl rfl) (rz_mem (i := 6) (j := 19) rfl rfl) ⟨rfl, by decide, by decide, by decide +kernel⟩ rfl rfl ⟨by decide, by decide⟩) dJ5_inflateIfNeededFor_a7421_11 hk (by decide) (by rw [hRm]; decide)) ?_
  refine rz_All_c (i := 6) (fun k J hk hJ => rz_icmpeq_ok (pc := 14) hx hb dJ5_inflateIfNeededFor_a7421_14 rfl hk (hJ 8)) ?_
  refine rz_All_c (i := 7) (fun k J hk hJ => rz_no_ok) ?_
  refine rz_All_c (i := 8) (fun k J hk hJ => rz_vret_ok (pc := 21) hC dJ5_inflateIfNeededFor_a7421_21) ?_
  exact trivial
theorem dJ0_getBytes_840e7_0 : decode cJ0_getBytes_840e7 0 = .ok (.aload_n 0, 1) := by decide +kernel
theorem dJ0_getBytes_840e7_1 : decode cJ0_getBytes_840e7 1 = .ok (.invokevirtual 335, 3) := by decide +kernel
theorem dJ0_getBytes_840e7_4 : decode cJ0_getBytes_840e7 4 = .ok (.iload_n 3, 1) := by decide +kernel
theorem dJ0_getBytes_840e7_5 : decode cJ0_getBytes_840e7 5 = .ok (.if_icmp .ne 23, 3) := by decide +kernel
theorem dJ0_getBytes_840e7_8 : decode cJ0_getBytes_840e7 8 = .ok (.aload_n 0, 1) := by decide +kernel
theorem dJ0_getBytes_840e7_9 : decode cJ0_getBytes_840e7 9 = .ok (.getfield 9, 3) := by decide +kernel
theorem dJ0_getBytes_840e7_12 : decode cJ0_getBytes_840e7 12 = .ok (.iconst 0, 1) := by decide +kernel
theorem dJ0_getBytes_840e7_13 : decode cJ0_getBytes_840e7 13 = .ok (.aload_n 1, 1) := by decide +kernel
theorem dJ0_getBytes_840e7_14 : decode cJ0_getBytes_840e7 14 = .ok (.iload_n 2, 1) := by decide +kernel
theorem dJ0_getBytes_840e7_15 : decode cJ0_getBytes_840e7 15 = .ok (.iload_n 3, 1) := by decide +kernel
theorem dJ0_getBytes_840e7_16 : decode cJ0_getBytes_840e7 16 = .ok (.ishl, 1) := by decide +kernel
theorem dJ0_getBytes_840e7_17 : decode cJ0_getBytes_840e7 17 = .ok (.aload_n 0, 1) := by decide +kernel
theorem dJ0_getBytes_840e7_18 : decode cJ0_getBytes_840e7 18 = .ok (.getfield 9, 3) := by decide +kernel
theorem dJ0_getBytes_840e7_21 : decode cJ0_getBytes_840e7 21 = .ok (.arraylength, 1) := by decide +kernel
theorem dJ0_getBytes_840e7_22 : decode cJ0_getBytes_840e7 22 = .ok (.invokestatic 212, 3) := by decide +kernel
theorem dJ0_getBytes_840e7_25 : decode cJ0_getBytes_840e7 25 = .ok (.goto 18, 3) := by decide +kernel
theorem dJ0_getBytes_840e7_43 : decode cJ0_getBytes_840e7 43 = .ok (.return_, 1) := by decide +kernel
def rpJ0_getBytes_840e7 : List Nat := [0, 1, 4, 5, 8, 9, 12, 13, 14, 15, 16, 17, 18, 21, 22, 25, 28, 43]
def rzJ0_getBytes_840e7 : List (Nat × Nat) := [(0, 0), (0, 0), (0, 0), (0, 0), (0, 0), (0, 0), (0, 0), (0, 0), (0, 0), (0, 0), (0, 0), (0, 0), (0, 0), (0, 0), (0, 0), (0, 0), (0, 0), (0, 0)]
noncomputable def rcJ0_getBytes_840e7 : List rz_B := [rz_aload 0, rz_callT 0 rgJ0_coder_7d493, rz_iload 3, rz_icmpne 16, rz_aload 0, rz_tval, rz_cst 0, rz_aload 1, rz_iload 2, rz_iload 3, rz_ishl, rz_aload 0, rz_tval, rz_tlen, rz_acopyT, rz_goto 17, rz_no, rz_vret]
noncomputable def rgJ0_getBytes_840e7 : rz_L → rz_M → rz_Z → Bool := rz_go rcJ0_getBytes_840e7 4 1000000
def rrJ0_getBytes_840e7 : Room := { frames := 1, cells := 0, slots := 0, locals := 60 }
theorem rmJ0_getBytes_840e7 (l : Launch) {G : rz_G} (hG : rz_Gd G) (vs : rz_L) (M : rz_M) (Z : rz_Z) (hn : vs.length = 4) (h : rgJ0_getBytes_840e7 vs M Z = true) : Met l yJ0_getBytes_840e7 (Cond.code yJ0_getBytes_840e7 cJ0_getBytes_840e7 4 none :: rz_TB) rrJ0_getBytes_840e7 (rz_Pre G vs M) (rz_Qv G M.2 Z) 0 0 (fun q => rz_b G ≤ q) := by
  obtain ⟨D, tc, ad, b, xs, rfl⟩ := id hG
  refine rz_bodyM (pcs := rpJ0_getBytes_840e7) (cz := rzJ0_getBytes_840e7) (by decide) rfl rfl (by rw [hn]; decide) h ?_
  intro p e R s m args below meth c hC hmn
  obtain ⟨hx, hb, hml, hr, hlk, ho, hts, hKn, hRm⟩ := id hC
  obtain ⟨hK, hA, hSt⟩ := id hKn
  have hw : ∀ {i j : Nat} {ws : List Cond} {w : Cond}, rz_WW[i]? = some ws → ws[j]? = some w → w.before args s = true := fun h1 h2 => hts _ (List.mem_cons_of_mem _ (rz_mem h1 h2))
  refine rz_All_c (i := 0) (fun k J hk hJ => rz_aload_n_ok (pc := 0) hx hb dJ0_getBytes_840e7_0 rfl hk) ?_
  refine rz_All_c (i := 1) (fun k J hk hJ => rz_callT_ok (pc := 1) (nz0 := (0, 0)) (nz1 := (0, 0)) (own := RJ0) hC rfl (rmJ0_coder_7d493 l hG) (rz_cwV 0 hC rz_good (rz_mem (i := 6) (j := 16) rfl rfl) (rz_mem (i := 6) (j := 17) rfl rfl) (rz_mem (i := 6) (j := 18) rfl rfl) (rz_mem (i := 5) (j := 23) rfl rfl) (rz_mem (i := 6) (j := 19) rfl rfl) ⟨rfl, by decide, by decide, by decide +kernel⟩ rfl rfl ⟨by decide, by decide⟩) dJ0_getBytes_840e7_1 hk (by decide) (by rw [hRm]; decide)) ?_
  refine rz_All_c (i := 2) (fun k J hk hJ => rz_iload_n_ok (pc := 4) hx hb dJ0_getBytes_840e7_4 rfl hk) ?_
  refine rz_All_c (i := 3) (fun k J hk hJ => rz_icmpne_ok (pc := 5) hx hb dJ0_getBytes_840e7_5 rfl hk (hJ 16)) ?_
  refine rz_All_c (i := 4) (fun k J hk hJ => rz_aload_n_ok (pc := 8) hx hb dJ0_getBytes_840e7_8 rfl hk) ?_
  refine rz_All_c (i := 5) (fun k J hk hJ => rz_tval_ok (pc := 9) (own := RJ0) (ref := "java/lang/String") (index := 9) hx hb hSt ho (hw (i := 6) (j := 5) rfl rfl) (fun _ z => z) dJ0_getBytes_840e7_9 hk) ?_
  refine rz_All_c (i := 6) (fun k J hk hJ => rz_iconst_ok (pc := 12) hx hb dJ0_getBytes_840e7_12 rfl hk) ?_
  refine rz_All_c (i := 7) (fun k J hk hJ => rz_aload_n_ok (pc := 13) hx hb dJ0_getBytes_840e7_13 rfl hk) ?_
  refine rz_All_c (i := 8) (fun k J hk hJ => rz_iload_n_ok (pc := 14) hx hb dJ0_getBytes_840e7_14 rfl hk) ?_
  refine rz_All_c (i := 9) (fun k J hk hJ => rz_iload_n_ok (pc := 15) hx hb dJ0_getBytes_840e7_15 rfl hk) ?_
  refine rz_All_c (i := 10) (fun k J hk hJ => rz_ishl_ok (pc := 16) hx hb dJ0_getBytes_840e7_16 hk) ?_
  refine rz_All_c (i := 11) (fun k J hk hJ => rz_aload_n_ok (pc := 17) hx hb dJ0_getBytes_840e7_17 rfl hk) ?_
  refine rz_All_c (i := 12) (fun k J hk hJ => rz_tval_ok (pc := 18) (own := RJ0) (ref := "java/lang/String") (index := 9) hx hb hSt ho (hw (i := 6) (j := 5) rfl rfl) (fun _ z => z) dJ0_getBytes_840e7_18 hk) ?_
  refine rz_All_c (i := 13) (fun k J hk hJ => rz_tlen_ok (pc := 21) hx hb hSt dJ0_getBytes_840e7_21 hk) ?_
  refine rz_All_c (i := 14) (fun k J hk hJ => rz_acopyT_ok (pc := 22) (own := RJ0) hx hb hml hK hA hSt ho (hw (i := 65) (j := 0) rfl rfl) (hw (i := 2) (j := 16) rfl rfl) (hw (i := 2) (j := 17) rfl rfl) (hw (i := 2) (j := 18) rfl rfl) (by rw [hRm]; decide) (by rw [hRm]; decide) dJ0_getBytes_840e7_22 hk) ?_
  refine rz_All_c (i := 15) (fun k J hk hJ => rz_goto_ok (pc := 25) hx hb dJ0_getBytes_840e7_25 rfl (hJ 17)) ?_
  refine rz_All_c (i := 16) (fun k J hk hJ => rz_no_ok) ?_
  refine rz_All_c (i := 17) (fun k J hk hJ => rz_vret_ok (pc := 43) hC dJ0_getBytes_840e7_43) ?_
  exact trivial
theorem dJ5_putStringAt_47b60_0 : decode cJ5_putStringAt_47b60 0 = .ok (.aload_n 0, 1) := by decide +kernel
theorem dJ5_putStringAt_47b60_1 : decode cJ5_putStringAt_47b60 1 = .ok (.aload_n 2, 1) := by decide +kernel
theorem dJ5_putStringAt_47b60_2 : decode cJ5_putStringAt_47b60 2 = .ok (.invokevirtual 397, 3) := by decide +kernel
theorem dJ5_putStringAt_47b60_5 : decode cJ5_putStringAt_47b60 5 = .ok (.aload_n 2, 1) := by decide +kernel
theorem dJ5_putStringAt_47b60_6 : decode cJ5_putStringAt_47b60 6 = .ok (.aload_n 0, 1) := by decide +kernel
theorem dJ5_putStringAt_47b60_7 : decode cJ5_putStringAt_47b60 7 = .ok (.getfield 15, 3) := by decide +kernel
theorem dJ5_putStringAt_47b60_10 : decode cJ5_putStringAt_47b60 10 = .ok (.iload_n 1, 1) := by decide +kernel
theorem dJ5_putStringAt_47b60_11 : decode cJ5_putStringAt_47b60 11 = .ok (.aload_n 0, 1) := by decide +kernel
theorem dJ5_putStringAt_47b60_12 : decode cJ5_putStringAt_47b60 12 = .ok (.getfield 22, 3) := by decide +kernel
theorem dJ5_putStringAt_47b60_15 : decode cJ5_putStringAt_47b60 15 = .ok (.invokevirtual 399, 3) := by decide +kernel
theorem dJ5_putStringAt_47b60_18 : decode cJ5_putStringAt_47b60 18 = .ok (.return_, 1) := by decide +kernel
def rpJ5_putStringAt_47b60 : List Nat := [0, 1, 2, 5, 6, 7, 10, 11, 12, 15, 18]
def rzJ5_putStringAt_47b60 : List (Nat × Nat) := [(0, 0), (0, 0), (0, 0), (0, 0), (0, 0), (0, 0), (0, 0), (0, 0), (0, 0), (0, 0), (0, 0)]
noncomputable def rcJ5_putStringAt_47b60 : List rz_B := [rz_aload 0, rz_aload 2, rz_callVv 1 (Nat.add (Nat.mul 256 1) 1) rgJ5_inflateIfNeededFor_a7421, rz_aload 2, rz_aload 0, rz_getf (Nat.add (Nat.mul 256 1) 1) 0 rz_r, rz_iload 1, rz_aload 0, rz_getf (Nat.add (Nat.mul 256 1) 1) 1 rz_i, rz_callTv 3 rgJ0_getBytes_840e7, rz_vret]
noncomputable def rgJ5_putStringAt_47b60 : rz_L → rz_M → rz_Z → Bool := rz_go rcJ5_putStringAt_47b60 3 1000000
def rrJ5_putStringAt_47b60 : Room := { frames := 2, cells := 0, slots := 0, locals := 83 }
theorem rmJ5_putStringAt_47b60 (l : Launch) {G : rz_G} (hG : rz_Gd G) (vs : rz_L) (M : rz_M) (Z : rz_Z) (hn : vs.length = 3) (h : rgJ5_putStringAt_47b60 vs M Z = true) : Met l yJ5_putStringAt_47b60 (Cond.code yJ5_putStringAt_47b60 cJ5_putStringAt_47b60 3 none :: rz_TB) rrJ5_putStringAt_47b60 (rz_Pre G vs M) (rz_Qv G M.2 Z) 0 0 (fun q => rz_b G ≤ q) := by
  obtain ⟨D, tc, ad, b, xs, rfl⟩ := id hG
  refine rz_bodyM (pcs := rpJ5_putStringAt_47b60) (cz := rzJ5_putStringAt_47b60) (by decide) rfl rfl (by rw [hn]; decide) h ?_
  intro p e R s m args below meth c hC hmn
  obtain ⟨hx, hb, hml, hr, hlk, ho, hts, hKn, hRm⟩ := id hC
  obtain ⟨hK, hA, hSt⟩ := id hKn
  have hw : ∀ {i j : Nat} {ws : List Cond} {w : Cond}, rz_WW[i]? = some ws → ws[j]? = some w → w.before args s = true := fun h1 h2 => hts _ (List.mem_cons_of_mem _ (rz_mem h1 h2))
  refine rz_All_c (i := 0) (fun k J hk hJ => rz_aload_n_ok (pc := 0) hx hb dJ5_putStringAt_47b60_0 rfl hk) ?_
  refine rz_All_c (i := 1) (fun k J hk hJ => rz_aload_n_ok (pc := 1) hx hb dJ5_putStringAt_47b60_1 rfl hk) ?_
  refine rz_All_c (i := 2) (fun k J hk hJ => rz_callUv_ok (pc := 2) (nz0 := (0, 0)) (nz1 := (0, 0)) (own := RJ5) (C := RJ4) (T0 := TJ4) (N0 := 4) (ci := 1) (x0 := ⟨"java/lang/AbstractStringBuilder", "inflateIfNeededFor", "(Ljava/lang/String;)V"⟩) hC rfl (rmJ5_inflateIfNeededFor_a7421 l hG) (rz_cwU (owner := RJ5) 1 hC rz_good (rz_mem (i := 63) (j := 17) rfl rfl) (rz_mem (i := 63) (j := 18) rfl rfl) (rz_mem (i := 63) (j := 19) rfl rfl) (rz_mem (i := 63) (j := 20) rfl rfl) (rz_mem (i := 58) (j := 22) rfl rfl) (rz_mem (i := 63) (j := 21) rfl rfl) rfl ⟨by decide, by decide, by decide +kernel⟩ rfl rfl ⟨by decide, by decide⟩) rfl dJ5_putStringAt_47b60_2 hk (by decide) (by rw [hRm]; decide)) ?_
  refine rz_All_c (i := 3) (fun k J hk hJ => rz_aload_n_ok (pc := 5) hx hb dJ5_putStringAt_47b60_5 rfl hk) ?_
  refine rz_All_c (i := 4) (fun k J hk hJ => rz_aload_n_ok (pc := 6) hx hb dJ5_putStringAt_47b60_6 rfl hk) ?_
  refine rz_All_c (i := 5) (fun k J hk hJ => rz_getf_ok (pc := 7) (own := RJ5) (ref := "java/lang/AbstractStringBuilder") (C := RJ4) (T := TJ4) (N := 4) (ci := 1) (index := 15) (f := 0) (t := 2) (Ts := Cond.code yJ5_putStringAt_47b60 cJ5_putStringAt_47b60 3 none :: rz_TB) hx hb hts rz_in1 ho hK rfl (by decide) rfl (fun _ => rfl) (hw (i := 59) (j := 3) rfl rfl) (fun _ z => z) dJ5_putStringAt_47b60_7 hk) ?_
  refine rz_All_c (i := 6) (fun k J hk hJ => rz_iload_n_ok (pc := 10) hx hb dJ5_putStringAt_47b60_10 rfl hk) ?_
  refine rz_All_c (i := 7) (fun k J hk hJ => rz_aload_n_ok (pc := 11) hx hb dJ5_putStringAt_47b60_11 rfl hk) ?_
  refine rz_All_c (i := 8) (fun k J hk hJ => rz_getf_ok (pc := 12) (own := RJ5) (ref := "java/lang/AbstractStringBuilder") (C := RJ4) (T := TJ4) (N := 4) (ci := 1) (index := 22) (f := 1) (t := 0) (Ts := Cond.code yJ5_putStringAt_47b60 cJ5_putStringAt_47b60 3 none :: rz_TB) hx hb hts rz_in1 ho hK rfl (by decide) rfl (fun _ => rfl) (hw (i := 59) (j := 4) rfl rfl) (fun _ z => z) dJ5_putStringAt_47b60_12 hk) ?_
  refine rz_All_c (i := 9) (fun k J hk hJ => rz_callTv_ok (pc := 15) (nz0 := (0, 0)) (nz1 := (0, 0)) (own := RJ5) hC rfl (rmJ0_getBytes_840e7 l hG) (rz_cwV 3 hC rz_good (rz_mem (i := 64) (j := 20) rfl rfl) (rz_mem (i := 64) (j := 21) rfl rfl) (rz_mem (i := 64) (j := 22) rfl rfl) (rz_mem (i := 5) (j := 23) rfl rfl) (rz_mem (i := 64) (j := 23) rfl rfl) ⟨rfl, by decide, by decide, by decide +kernel⟩ rfl rfl ⟨by decide, by decide⟩) dJ5_putStringAt_47b60_15 hk (by decide) (by rw [hRm]; decide)) ?_
  refine rz_All_c (i := 10) (fun k J hk hJ => rz_vret_ok (pc := 18) hC dJ5_putStringAt_47b60_18) ?_
  exact trivial
theorem dJ5_append_cf1ce_0 : decode cJ5_append_cf1ce 0 = .ok (.aload_n 1, 1) := by decide +kernel
theorem dJ5_append_cf1ce_1 : decode cJ5_append_cf1ce 1 = .ok (.ifnonnull 8, 3) := by decide +kernel
theorem dJ5_append_cf1ce_9 : decode cJ5_append_cf1ce 9 = .ok (.aload_n 1, 1) := by decide +kernel
theorem dJ5_append_cf1ce_10 : decode cJ5_append_cf1ce 10 = .ok (.invokevirtual 32, 3) := by decide +kernel
theorem dJ5_append_cf1ce_13 : decode cJ5_append_cf1ce 13 = .ok (.istore_n 2, 1) := by decide +kernel
theorem dJ5_append_cf1ce_14 : decode cJ5_append_cf1ce 14 = .ok (.aload_n 0, 1) := by decide +kernel
theorem dJ5_append_cf1ce_15 : decode cJ5_append_cf1ce 15 = .ok (.aload_n 0, 1) := by decide +kernel
theorem dJ5_append_cf1ce_16 : decode cJ5_append_cf1ce 16 = .ok (.getfield 79, 3) := by decide +kernel
theorem dJ5_append_cf1ce_19 : decode cJ5_append_cf1ce 19 = .ok (.iload_n 2, 1) := by decide +kernel
theorem dJ5_append_cf1ce_20 : decode cJ5_append_cf1ce 20 = .ok (.iadd, 1) := by decide +kernel
theorem dJ5_append_cf1ce_21 : decode cJ5_append_cf1ce 21 = .ok (.invokevirtual 100, 3) := by decide +kernel
theorem dJ5_append_cf1ce_24 : decode cJ5_append_cf1ce 24 = .ok (.aload_n 0, 1) := by decide +kernel
theorem dJ5_append_cf1ce_25 : decode cJ5_append_cf1ce 25 = .ok (.aload_n 0, 1) := by decide +kernel
theorem dJ5_append_cf1ce_26 : decode cJ5_append_cf1ce 26 = .ok (.getfield 79, 3) := by decide +kernel
theorem dJ5_append_cf1ce_29 : decode cJ5_append_cf1ce 29 = .ok (.aload_n 1, 1) := by decide +kernel
theorem dJ5_append_cf1ce_30 : decode cJ5_append_cf1ce 30 = .ok (.invokevirtual 208, 3) := by decide +kernel
theorem dJ5_append_cf1ce_33 : decode cJ5_append_cf1ce 33 = .ok (.aload_n 0, 1) := by decide +kernel
theorem dJ5_append_cf1ce_34 : decode cJ5_append_cf1ce 34 = .ok (.dup, 1) := by decide +kernel
theorem dJ5_append_cf1ce_35 : decode cJ5_append_cf1ce 35 = .ok (.getfield 79, 3) := by decide +kernel
theorem dJ5_append_cf1ce_38 : decode cJ5_append_cf1ce 38 = .ok (.iload_n 2, 1) := by decide +kernel
theorem dJ5_append_cf1ce_39 : decode cJ5_append_cf1ce 39 = .ok (.iadd, 1) := by decide +kernel
theorem dJ5_append_cf1ce_40 : decode cJ5_append_cf1ce 40 = .ok (.putfield 79, 3) := by decide +kernel
theorem dJ5_append_cf1ce_43 : decode cJ5_append_cf1ce 43 = .ok (.aload_n 0, 1) := by decide +kernel
theorem dJ5_append_cf1ce_44 : decode cJ5_append_cf1ce 44 = .ok (.areturn, 1) := by decide +kernel
def rpJ5_append_cf1ce : List Nat := [0, 1, 9, 10, 13, 14, 15, 16, 19, 20, 21, 24, 25, 26, 29, 30, 33, 34, 35, 38, 39, 40, 43, 44]
def rzJ5_append_cf1ce : List (Nat × Nat) := [(0, 0), (0, 0), (0, 0), (0, 0), (0, 0), (0, 0), (0, 0), (0, 0), (0, 0), (0, 0), (0, 0), (1, 2048), (1, 2048), (1, 2048), (1, 2048), (1, 2048), (1, 2048), (1, 2048), (1, 2048), (1, 2048), (1, 2048), (1, 2048), (1, 2048), (1, 2048)]
noncomputable def rcJ5_append_cf1ce : List rz_B := [rz_aload 1, rz_ifnn 2, rz_aload 1, rz_callT 0 rgJ0_length_8abf5_f, rz_istore 2, rz_aload 0, rz_aload 0, rz_getf (Nat.add (Nat.mul 256 1) 1) 3 rz_i, rz_iload 2, rz_iadd, rz_callVv 1 (Nat.add (Nat.mul 256 1) 1) rgJ5_ensureCapacityInternal_d00df, rz_aload 0, rz_aload 0, rz_getf (Nat.add (Nat.mul 256 1) 1) 3 rz_i, rz_aload 1, rz_callVv 2 (Nat.add (Nat.mul 256 1) 1) rgJ5_putStringAt_47b60, rz_aload 0, rz_dup, rz_getf (Nat.add (Nat.mul 256 1) 1) 3 rz_i, rz_iload 2, rz_iadd, rz_putf (Nat.add (Nat.mul 256 1) 1) 3 rz_unI, rz_aload 0, rz_aret]
noncomputable def rgJ5_append_cf1ce : rz_L → rz_M → rz_Z → Bool := rz_go rcJ5_append_cf1ce 3 1000000
def rrJ5_append_cf1ce : Room := { frames := 4, cells := 1, slots := 2048, locals := 130 }
theorem rmJ5_append_cf1ce (l : Launch) {G : rz_G} (hG : rz_Gd G) (vs : rz_L) (M : rz_M) (Z : rz_Z) (hn : vs.length = 2) (h : rgJ5_append_cf1ce vs M Z = true) : Met l yJ5_append_cf1ce (Cond.code yJ5_append_cf1ce cJ5_append_cf1ce 3 (some (.object "java/lang/AbstractStringBuilder")) :: rz_TB) rrJ5_append_cf1ce (rz_Pre G vs M) (rz_Qr G M.2 Z) 1 2048 (fun q => rz_b G ≤ q) := by
  obtain ⟨D, tc, ad, b, xs, rfl⟩ := id hG
  refine rz_bodyM (pcs := rpJ5_append_cf1ce) (cz := rzJ5_append_cf1ce) (by decide) rfl rfl (by rw [hn]; decide) h ?_
  intro p e R s m args below meth c hC hmn
  obtain ⟨hx, hb, hml, hr, hlk, ho, hts, hKn, hRm⟩ := id hC
  obtain ⟨hK, hA, hSt⟩ := id hKn
  have hw : ∀ {i j : Nat} {ws : List Cond} {w : Cond}, rz_WW[i]? = some ws → ws[j]? = some w → w.before args s = true := fun h1 h2 => hts _ (List.mem_cons_of_mem _ (rz_mem h1 h2))
  refine rz_All_c (i := 0) (fun k J hk hJ => rz_aload_n_ok (pc := 0) hx hb dJ5_append_cf1ce_0 rfl hk) ?_
  refine rz_All_c (i := 1) (fun k J hk hJ => rz_ifnn_ok (pc := 1) hx hb dJ5_append_cf1ce_1 rfl (hJ 2)) ?_
  refine rz_All_c (i := 2) (fun k J hk hJ => rz_aload_n_ok (pc := 9) hx hb dJ5_append_cf1ce_9 rfl hk) ?_
  refine rz_All_c (i := 3) (fun k J hk hJ => rz_callT_ok (pc := 10) (nz0 := (0, 0)) (nz1 := (0, 0)) (own := RJ5) hC rfl (rmJ0_length_8abf5_f l hG) (rz_cwV 0 hC rz_good (rz_mem (i := 63) (j := 1) rfl rfl) (rz_mem (i := 6) (j := 13) rfl rfl) (rz_mem (i := 6) (j := 14) rfl rfl) (rz_mem (i := 5) (j := 23) rfl rfl) (rz_mem (i := 6) (j := 15) rfl rfl) ⟨rfl, by decide, by decide, by decide +kernel⟩ rfl rfl ⟨by decide, by decide⟩) dJ5_append_cf1ce_10 hk (by decide) (by rw [hRm]; decide)) ?_
  refine rz_All_c (i := 4) (fun k J hk hJ => rz_istore_n_ok (pc := 13) hx hb dJ5_append_cf1ce_13 rfl hk) ?_
  refine rz_All_c (i := 5) (fun k J hk hJ => rz_aload_n_ok (pc := 14) hx hb dJ5_append_cf1ce_14 rfl hk) ?_
  refine rz_All_c (i := 6) (fun k J hk hJ => rz_aload_n_ok (pc := 15) hx hb dJ5_append_cf1ce_15 rfl hk) ?_
  refine rz_All_c (i := 7) (fun k J hk hJ => rz_getf_ok (pc := 16) (own := RJ5) (ref := "java/lang/AbstractStringBuilder") (C := RJ4) (T := TJ4) (N := 4) (ci := 1) (index := 79) (f := 3) (t := 0) (Ts := Cond.code yJ5_append_cf1ce cJ5_append_cf1ce 3 (some (.object "java/lang/AbstractStringBuilder")) :: rz_TB) hx hb hts rz_in1 ho hK rfl (by decide) rfl (fun _ => rfl) (hw (i := 59) (j := 22) rfl rfl) (fun _ z => z) dJ5_append_cf1ce_16 hk) ?_
  refine rz_All_c (i := 8) (fun k J hk hJ => rz_iload_n_ok (pc := 19) hx hb dJ5_append_cf1ce_19 rfl hk) ?_
  refine rz_All_c (i := 9) (fun k J hk hJ => rz_iadd_ok (pc := 20) hx hb dJ5_append_cf1ce_20 hk) ?_
  refine rz_All_c (i := 10) (fun k J hk hJ => rz_callUv_ok (pc := 21) (nz0 := (0, 0)) (nz1 := (1, 2048)) (own := RJ5) (C := RJ4) (T0 := TJ4) (N0 := 4) (ci := 1) (x0 := ⟨"java/lang/AbstractStringBuilder", "ensureCapacityInternal", "(I)V"⟩) hC rfl (rmJ5_ensureCapacityInternal_d00df l hG) (rz_cwU (owner := RJ5) 1 hC rz_good (rz_mem (i := 60) (j := 4) rfl rfl) (rz_mem (i := 60) (j := 5) rfl rfl) (rz_mem (i := 60) (j := 6) rfl rfl) (rz_mem (i := 60) (j := 7) rfl rfl) (rz_mem (i := 58) (j := 22) rfl rfl) (rz_mem (i := 60) (j := 8) rfl rfl) rfl ⟨by decide, by decide, by decide +kernel⟩ rfl rfl ⟨by decide, by decide⟩) rfl dJ5_append_cf1ce_21 hk (by decide) (by rw [hRm]; decide)) ?_
  refine rz_All_c (i := 11) (fun k J hk hJ => rz_aload_n_ok (pc := 24) hx hb dJ5_append_cf1ce_24 rfl hk) ?_
  refine rz_All_c (i := 12) (fun k J hk hJ => rz_aload_n_ok (pc := 25) hx hb dJ5_append_cf1ce_25 rfl hk) ?_
  refine rz_All_c (i := 13) (fun k J hk hJ => rz_getf_ok (pc := 26) (own := RJ5) (ref := "java/lang/AbstractStringBuilder") (C := RJ4) (T := TJ4) (N := 4) (ci := 1) (index := 79) (f := 3) (t := 0) (Ts := Cond.code yJ5_append_cf1ce cJ5_append_cf1ce 3 (some (.object "java/lang/AbstractStringBuilder")) :: rz_TB) hx hb hts rz_in1 ho hK rfl (by decide) rfl (fun _ => rfl) (hw (i := 59) (j := 22) rfl rfl) (fun _ z => z) dJ5_append_cf1ce_26 hk) ?_
  refine rz_All_c (i := 14) (fun k J hk hJ => rz_aload_n_ok (pc := 29) hx hb dJ5_append_cf1ce_29 rfl hk) ?_
  refine rz_All_c (i := 15) (fun k J hk hJ => rz_callUv_ok (pc := 30) (nz0 := (1, 2048)) (nz1 := (1, 2048)) (own := RJ5) (C := RJ4) (T0 := TJ4) (N0 := 4) (ci := 1) (x0 := ⟨"java/lang/AbstractStringBuilder", "putStringAt", "(ILjava/lang/String;)V"⟩) hC rfl (rmJ5_putStringAt_47b60 l hG) (rz_cwU (owner := RJ5) 2 hC rz_good (rz_mem (i := 63) (j := 12) rfl rfl) (rz_mem (i := 63) (j := 13) rfl rfl) (rz_mem (i := 63) (j := 14) rfl rfl) (rz_mem (i := 63) (j := 15) rfl rfl) (rz_mem (i := 58) (j := 22) rfl rfl) (rz_mem (i := 63) (j := 16) rfl rfl) rfl ⟨by decide, by decide, by decide +kernel⟩ rfl rfl ⟨by decide, by decide⟩) rfl dJ5_append_cf1ce_30 hk (by decide) (by rw [hRm]; decide)) ?_
  refine rz_All_c (i := 16) (fun k J hk hJ => rz_aload_n_ok (pc := 33) hx hb dJ5_append_cf1ce_33 rfl hk) ?_
  refine rz_All_c (i := 17) (fun k J hk hJ => rz_dup_ok (pc := 34) hx hb dJ5_append_cf1ce_34 hk) ?_
  refine rz_All_c (i := 18) (fun k J hk hJ => rz_getf_ok (pc := 35) (own := RJ5) (ref := "java/lang/AbstractStringBuilder") (C := RJ4) (T := TJ4) (N := 4) (ci := 1) (index := 79) (f := 3) (t := 0) (Ts := Cond.code yJ5_append_cf1ce cJ5_append_cf1ce 3 (some (.object "java/lang/AbstractStringBuilder")) :: rz_TB) hx hb hts rz_in1 ho hK rfl (by decide) rfl (fun _ => rfl) (hw (i := 59) (j := 22) rfl rfl) (fun _ z => z) dJ5_append_cf1ce_35 hk) ?_
  refine rz_All_c (i := 19) (fun k J hk hJ => rz_iload_n_ok (pc := 38) hx hb dJ5_append_cf1ce_38 rfl hk) ?_
  refine rz_All_c (i := 20) (fun k J hk hJ => rz_iadd_ok (pc := 39) hx hb dJ5_append_cf1ce_39 hk) ?_
  refine rz_All_c (i := 21) (fun k J hk hJ => rz_putf_ok (pc := 40) (own := RJ5) (ref := "java/lang/AbstractStringBuilder") (C := RJ4) (T := TJ4) (N := 4) (ci := 1) (index := 79) (f := 3) (t := 0) (Ts := Cond.code yJ5_append_cf1ce cJ5_append_cf1ce 3 (some (.object "java/lang/AbstractStringBuilder")) :: rz_TB) hx hb hts rz_in1 tyJ4 tyJ4_ok nmJ4 ho hK hA rfl (by decide) rfl (rz_UnI _) rfl (tyJ4_ok 3 (by decide)) (hw (i := 59) (j := 22) rfl rfl) (fun _ z => z) dJ5_append_cf1ce_40 hk) ?_
  refine rz_All_c (i := 22) (fun k J hk hJ => rz_aload_n_ok (pc := 43) hx hb dJ5_append_cf1ce_43 rfl hk) ?_
  refine rz_All_c (i := 23) (fun k J hk hJ => rz_aret_ok (pc := 44) (nz0 := (1, 2048)) hC (Or.inl ⟨_, rfl⟩) dJ5_append_cf1ce_44 (by decide)) ?_
  exact trivial
theorem dJ4_append_15ec4_0 : decode cJ4_append_15ec4 0 = .ok (.aload_n 0, 1) := by decide +kernel
theorem dJ4_append_15ec4_1 : decode cJ4_append_15ec4 1 = .ok (.aload_n 1, 1) := by decide +kernel
theorem dJ4_append_15ec4_2 : decode cJ4_append_15ec4 2 = .ok (.invokespecial 29, 3) := by decide +kernel
theorem dJ4_append_15ec4_5 : decode cJ4_append_15ec4 5 = .ok (.pop, 1) := by decide +kernel
theorem dJ4_append_15ec4_6 : decode cJ4_append_15ec4 6 = .ok (.aload_n 0, 1) := by decide +kernel
theorem dJ4_append_15ec4_7 : decode cJ4_append_15ec4 7 = .ok (.areturn, 1) := by decide +kernel
def rpJ4_append_15ec4 : List Nat := [0, 1, 2, 5, 6, 7]
def rzJ4_append_15ec4 : List (Nat × Nat) := [(0, 0), (0, 0), (0, 0), (1, 2048), (1, 2048), (1, 2048)]
noncomputable def rcJ4_append_15ec4 : List rz_B := [rz_aload 0, rz_aload 1, rz_callV 1 (Nat.add (Nat.mul 256 1) 1) rgJ5_append_cf1ce, rz_pop, rz_aload 0, rz_aret]
noncomputable def rgJ4_append_15ec4 : rz_L → rz_M → rz_Z → Bool := rz_go rcJ4_append_15ec4 2 1000000
def rrJ4_append_15ec4 : Room := { frames := 5, cells := 1, slots := 2048, locals := 152 }
theorem rmJ4_append_15ec4 (l : Launch) {G : rz_G} (hG : rz_Gd G) (vs : rz_L) (M : rz_M) (Z : rz_Z) (hn : vs.length = 2) (h : rgJ4_append_15ec4 vs M Z = true) : Met l yJ4_append_15ec4 (Cond.code yJ4_append_15ec4 cJ4_append_15ec4 2 (some (.object "java/lang/StringBuilder")) :: rz_TB) rrJ4_append_15ec4 (rz_Pre G vs M) (rz_Qr G M.2 Z) 1 2048 (fun q => rz_b G ≤ q) := by
  obtain ⟨D, tc, ad, b, xs, rfl⟩ := id hG
  refine rz_bodyM (pcs := rpJ4_append_15ec4) (cz := rzJ4_append_15ec4) (by decide) rfl rfl (by rw [hn]; decide) h ?_
  intro p e R s m args below meth c hC hmn
  obtain ⟨hx, hb, hml, hr, hlk, ho, hts, hKn, hRm⟩ := id hC
  obtain ⟨hK, hA, hSt⟩ := id hKn
  have hw : ∀ {i j : Nat} {ws : List Cond} {w : Cond}, rz_WW[i]? = some ws → ws[j]? = some w → w.before args s = true := fun h1 h2 => hts _ (List.mem_cons_of_mem _ (rz_mem h1 h2))
  refine rz_All_c (i := 0) (fun k J hk hJ => rz_aload_n_ok (pc := 0) hx hb dJ4_append_15ec4_0 rfl hk) ?_
  refine rz_All_c (i := 1) (fun k J hk hJ => rz_aload_n_ok (pc := 1) hx hb dJ4_append_15ec4_1 rfl hk) ?_
  refine rz_All_c (i := 2) (fun k J hk hJ => rz_callPr_ok (pc := 2) (nz0 := (0, 0)) (nz1 := (1, 2048)) (own := RJ4) (C := RJ4) (T0 := TJ4) (N0 := 4) (ci := 1) hC rfl (rmJ5_append_cf1ce l hG) (rz_cwP 1 hC rz_good (rz_mem (i := 59) (j := 17) rfl rfl) (rz_mem (i := 59) (j := 18) rfl rfl) (rz_mem (i := 59) (j := 19) rfl rfl) (rz_mem (i := 59) (j := 20) rfl rfl) (rz_mem (i := 58) (j := 22) rfl rfl) (rz_mem (i := 59) (j := 21) rfl rfl) ⟨by decide, by decide +kernel⟩ rfl rfl ⟨by decide, by decide⟩) rfl dJ4_append_15ec4_2 hk (by decide) (by rw [hRm]; decide)) ?_
  refine rz_All_c (i := 3) (fun k J hk hJ => rz_pop_ok (pc := 5) hx hb dJ4_append_15ec4_5 hk) ?_
  refine rz_All_c (i := 4) (fun k J hk hJ => rz_aload_n_ok (pc := 6) hx hb dJ4_append_15ec4_6 rfl hk) ?_
  refine rz_All_c (i := 5) (fun k J hk hJ => rz_aret_ok (pc := 7) (nz0 := (1, 2048)) hC (Or.inl ⟨_, rfl⟩) dJ4_append_15ec4_7 (by decide)) ?_
  exact trivial
theorem dJ5_getValue_6d5f1_0 : decode cJ5_getValue_6d5f1 0 = .ok (.aload_n 0, 1) := by decide +kernel
theorem dJ5_getValue_6d5f1_1 : decode cJ5_getValue_6d5f1 1 = .ok (.getfield 15, 3) := by decide +kernel
theorem dJ5_getValue_6d5f1_4 : decode cJ5_getValue_6d5f1 4 = .ok (.areturn, 1) := by decide +kernel
def rpJ5_getValue_6d5f1 : List Nat := [0, 1, 4]
def rzJ5_getValue_6d5f1 : List (Nat × Nat) := [(0, 0), (0, 0), (0, 0)]
noncomputable def rcJ5_getValue_6d5f1 : List rz_B := [rz_aload 0, rz_getf (Nat.add (Nat.mul 256 1) 1) 0 rz_r, rz_aret]
noncomputable def rgJ5_getValue_6d5f1 : rz_L → rz_M → rz_Z → Bool := rz_go rcJ5_getValue_6d5f1 1 1000000
def rrJ5_getValue_6d5f1 : Room := { frames := 0, cells := 0, slots := 0, locals := 0 }
theorem rmJ5_getValue_6d5f1 (l : Launch) {G : rz_G} (hG : rz_Gd G) (vs : rz_L) (M : rz_M) (Z : rz_Z) (hn : vs.length = 1) (h : rgJ5_getValue_6d5f1 vs M Z = true) : Met l yJ5_getValue_6d5f1 (Cond.code yJ5_getValue_6d5f1 cJ5_getValue_6d5f1 1 (some (.array .byte)) :: rz_TB) rrJ5_getValue_6d5f1 (rz_Pre G vs M) (rz_Qr G M.2 Z) 0 0 (fun q => rz_b G ≤ q) := by
  obtain ⟨D, tc, ad, b, xs, rfl⟩ := id hG
  refine rz_bodyM (pcs := rpJ5_getValue_6d5f1) (cz := rzJ5_getValue_6d5f1) (by decide) rfl rfl (by rw [hn]; decide) h ?_
  intro p e R s m args below meth c hC hmn
  obtain ⟨hx, hb, hml, hr, hlk, ho, hts, hKn, hRm⟩ := id hC
  obtain ⟨hK, hA, hSt⟩ := id hKn
  have hw : ∀ {i j : Nat} {ws : List Cond} {w : Cond}, rz_WW[i]? = some ws → ws[j]? = some w → w.before args s = true := fun h1 h2 => hts _ (List.mem_cons_of_mem _ (rz_mem h1 h2))
  refine rz_All_c (i := 0) (fun k J hk hJ => rz_aload_n_ok (pc := 0) hx hb dJ5_getValue_6d5f1_0 rfl hk) ?_
  refine rz_All_c (i := 1) (fun k J hk hJ => rz_getf_ok (pc := 1) (own := RJ5) (ref := "java/lang/AbstractStringBuilder") (C := RJ4) (T := TJ4) (N := 4) (ci := 1) (index := 15) (f := 0) (t := 2) (Ts := Cond.code yJ5_getValue_6d5f1 cJ5_getValue_6d5f1 1 (some (.array .byte)) :: rz_TB) hx hb hts rz_in1 ho hK rfl (by decide) rfl (fun _ => rfl) (hw (i := 59) (j := 3) rfl rfl) (fun _ z => z) dJ5_getValue_6d5f1_1 hk) ?_
  refine rz_All_c (i := 2) (fun k J hk hJ => rz_aret_ok (pc := 4) hC (Or.inr ⟨_, rfl⟩) dJ5_getValue_6d5f1_4) ?_
  exact trivial
theorem dJ5_length_8abf5_0 : decode cJ5_length_8abf5 0 = .ok (.aload_n 0, 1) := by decide +kernel
theorem dJ5_length_8abf5_1 : decode cJ5_length_8abf5 1 = .ok (.getfield 79, 3) := by decide +kernel
theorem dJ5_length_8abf5_4 : decode cJ5_length_8abf5 4 = .ok (.ireturn, 1) := by decide +kernel
def rpJ5_length_8abf5 : List Nat := [0, 1, 4]
def rzJ5_length_8abf5 : List (Nat × Nat) := [(0, 0), (0, 0), (0, 0)]
noncomputable def rcJ5_length_8abf5 : List rz_B := [rz_aload 0, rz_getf (Nat.add (Nat.mul 256 1) 1) 3 rz_i, rz_iret]
noncomputable def rgJ5_length_8abf5 : rz_L → rz_M → rz_Z → Bool := rz_go rcJ5_length_8abf5 1 1000000
def rrJ5_length_8abf5 : Room := { frames := 0, cells := 0, slots := 0, locals := 0 }
theorem rmJ5_length_8abf5 (l : Launch) {G : rz_G} (hG : rz_Gd G) (vs : rz_L) (M : rz_M) (Z : rz_Z) (hn : vs.length = 1) (h : rgJ5_length_8abf5 vs M Z = true) : Met l yJ5_length_8abf5 (Cond.code yJ5_length_8abf5 cJ5_length_8abf5 1 (some .int) :: rz_TB) rrJ5_length_8abf5 (rz_Pre G vs M) (rz_Qi G M.2 Z) 0 0 (fun q => rz_b G ≤ q) := by
  obtain ⟨D, tc, ad, b, xs, rfl⟩ := id hG
  refine rz_bodyM (pcs := rpJ5_length_8abf5) (cz := rzJ5_length_8abf5) (by decide) rfl rfl (by rw [hn]; decide) h ?_
  intro p e R s m args below meth c hC hmn
  obtain ⟨hx, hb, hml, hr, hlk, ho, hts, hKn, hRm⟩ := id hC
  obtain ⟨hK, hA, hSt⟩ := id hKn
  have hw : ∀ {i j : Nat} {ws : List Cond} {w : Cond}, rz_WW[i]? = some ws → ws[j]? = some w → w.before args s = true := fun h1 h2 => hts _ (List.mem_cons_of_mem _ (rz_mem h1 h2))
  refine rz_All_c (i := 0) (fun k J hk hJ => rz_aload_n_ok (pc := 0) hx hb dJ5_length_8abf5_0 rfl hk) ?_
  refine rz_All_c (i := 1) (fun k J hk hJ => rz_getf_ok (pc := 1) (own := RJ5) (ref := "java/lang/AbstractStringBuilder") (C := RJ4) (T := TJ4) (N := 4) (ci := 1) (index := 79) (f := 3) (t := 0) (Ts := Cond.code yJ5_length_8abf5 cJ5_length_8abf5 1 (some .int) :: rz_TB) hx hb hts rz_in1 ho hK rfl (by decide) rfl (fun _ => rfl) (hw (i := 59) (j := 22) rfl rfl) (fun _ z => z) dJ5_length_8abf5_1 hk) ?_
  refine rz_All_c (i := 2) (fun k J hk hJ => rz_iret_ok (pc := 4) hC dJ5_length_8abf5_4) ?_
  exact trivial
theorem dJ4_length_8abf5_0 : decode cJ4_length_8abf5 0 = .ok (.aload_n 0, 1) := by decide +kernel
theorem dJ4_length_8abf5_1 : decode cJ4_length_8abf5 1 = .ok (.invokespecial 343, 3) := by decide +kernel
theorem dJ4_length_8abf5_4 : decode cJ4_length_8abf5 4 = .ok (.ireturn, 1) := by decide +kernel
def rpJ4_length_8abf5 : List Nat := [0, 1, 4]
def rzJ4_length_8abf5 : List (Nat × Nat) := [(0, 0), (0, 0), (0, 0)]
noncomputable def rcJ4_length_8abf5 : List rz_B := [rz_aload 0, rz_callV 0 (Nat.add (Nat.mul 256 1) 1) rgJ5_length_8abf5, rz_iret]
noncomputable def rgJ4_length_8abf5 : rz_L → rz_M → rz_Z → Bool := rz_go rcJ4_length_8abf5 1 1000000
def rrJ4_length_8abf5 : Room := { frames := 1, cells := 0, slots := 0, locals := 20 }
theorem rmJ4_length_8abf5 (l : Launch) {G : rz_G} (hG : rz_Gd G) (vs : rz_L) (M : rz_M) (Z : rz_Z) (hn : vs.length = 1) (h : rgJ4_length_8abf5 vs M Z = true) : Met l yJ4_length_8abf5 (Cond.code yJ4_length_8abf5 cJ4_length_8abf5 1 (some .int) :: rz_TB) rrJ4_length_8abf5 (rz_Pre G vs M) (rz_Qi G M.2 Z) 0 0 (fun q => rz_b G ≤ q) := by
  obtain ⟨D, tc, ad, b, xs, rfl⟩ := id hG
  refine rz_bodyM (pcs := rpJ4_length_8abf5) (cz := rzJ4_length_8abf5) (by decide) rfl rfl (by rw [hn]; decide) h ?_
  intro p e R s m args below meth c hC hmn
  obtain ⟨hx, hb, hml, hr, hlk, ho, hts, hKn, hRm⟩ := id hC
  obtain ⟨hK, hA, hSt⟩ := id hKn
  have hw : ∀ {i j : Nat} {ws : List Cond} {w : Cond}, rz_WW[i]? = some ws → ws[j]? = some w → w.before args s = true := fun h1 h2 => hts _ (List.mem_cons_of_mem _ (rz_mem h1 h2))
  refine rz_All_c (i := 0) (fun k J hk hJ => rz_aload_n_ok (pc := 0) hx hb dJ4_length_8abf5_0 rfl hk) ?_
  refine rz_All_c (i := 1) (fun k J hk hJ => rz_callPi_ok (pc := 1) (nz0 := (0, 0)) (nz1 := (0, 0)) (own := RJ4) (C := RJ4) (T0 := TJ4) (N0 := 4) (ci := 1) hC rfl (rmJ5_length_8abf5 l hG) (rz_cwP 0 hC rz_good (rz_mem (i := 67) (j := 2) rfl rfl) (rz_mem (i := 66) (j := 21) rfl rfl) (rz_mem (i := 59) (j := 19) rfl rfl) (rz_mem (i := 67) (j := 3) rfl rfl) (rz_mem (i := 58) (j := 22) rfl rfl) (rz_mem (i := 67) (j := 4) rfl rfl) ⟨by decide, by decide +kernel⟩ rfl rfl ⟨by decide, by decide⟩) rfl dJ4_length_8abf5_1 hk (by decide) (by rw [hRm]; decide)) ?_
  refine rz_All_c (i := 2) (fun k J hk hJ => rz_iret_ok (pc := 4) hC dJ4_length_8abf5_4) ?_
  exact trivial
theorem dJ7_checkLength_df160_0 : decode cJ7_checkLength_df160 0 = .ok (.iload_n 1, 1) := by decide +kernel
theorem dJ7_checkLength_df160_1 : decode cJ7_checkLength_df160 1 = .ok (.iload_n 0, 1) := by decide +kernel
theorem dJ7_checkLength_df160_2 : decode cJ7_checkLength_df160 2 = .ok (.if_icmp .ge 35, 3) := by decide +kernel
theorem dJ7_checkLength_df160_37 : decode cJ7_checkLength_df160 37 = .ok (.return_, 1) := by decide +kernel
def rpJ7_checkLength_df160 : List Nat := [0, 1, 2, 5, 37]
def rzJ7_checkLength_df160 : List (Nat × Nat) := [(0, 0), (0, 0), (0, 0), (0, 0), (0, 0)]
noncomputable def rcJ7_checkLength_df160 : List rz_B := [rz_iload 1, rz_iload 0, rz_icmpge 4, rz_no, rz_vret]
noncomputable def rgJ7_checkLength_df160 : rz_L → rz_M → rz_Z → Bool := rz_go rcJ7_checkLength_df160 2 1000000
def rrJ7_checkLength_df160 : Room := { frames := 0, cells := 0, slots := 0, locals := 0 }
theorem rmJ7_checkLength_df160 (l : Launch) {G : rz_G} (hG : rz_Gd G) (vs : rz_L) (M : rz_M) (Z : rz_Z) (hn : vs.length = 2) (h : rgJ7_checkLength_df160 vs M Z = true) : Met l yJ7_checkLength_df160 (Cond.code yJ7_checkLength_df160 cJ7_checkLength_df160 2 none :: rz_TB) rrJ7_checkLength_df160 (rz_Pre G vs M) (rz_Qv G M.2 Z) 0 0 (fun q => rz_b G ≤ q) := by
  obtain ⟨D, tc, ad, b, xs, rfl⟩ := id hG
  refine rz_bodyM (pcs := rpJ7_checkLength_df160) (cz := rzJ7_checkLength_df160) (by decide) rfl rfl (by rw [hn]; decide) h ?_
  intro p e R s m args below meth c hC hmn
  obtain ⟨hx, hb, hml, hr, hlk, ho, hts, hKn, hRm⟩ := id hC
  obtain ⟨hK, hA, hSt⟩ := id hKn
  have hw : ∀ {i j : Nat} {ws : List Cond} {w : Cond}, rz_WW[i]? = some ws → ws[j]? = some w → w.before args s = true := fun h1 h2 => hts _ (List.mem_cons_of_mem _ (rz_mem h1 h2))
  refine rz_All_c (i := 0) (fun k J hk hJ => rz_iload_n_ok (pc := 0) hx hb dJ7_checkLength_df160_0 rfl hk) ?_
  refine rz_All_c (i := 1) (fun k J hk hJ => rz_iload_n_ok (pc := 1) hx hb dJ7_checkLength_df160_1 rfl hk) ?_
  refine rz_All_c (i := 2) (fun k J hk hJ => rz_icmpge_ok (pc := 2) hx hb dJ7_checkLength_df160_2 rfl hk (hJ 4)) ?_
  refine rz_All_c (i := 3) (fun k J hk hJ => rz_no_ok) ?_
  refine rz_All_c (i := 4) (fun k J hk hJ => rz_vret_ok (pc := 37) hC dJ7_checkLength_df160_37) ?_
  exact trivial
theorem dJ7_copyOfRangeByte_39247_0 : decode cJ7_copyOfRangeByte_39247 0 = .ok (.iload_n 1, 1) := by decide +kernel
theorem dJ7_copyOfRangeByte_39247_1 : decode cJ7_copyOfRangeByte_39247 1 = .ok (.iload_n 2, 1) := by decide +kernel
theorem dJ7_copyOfRangeByte_39247_2 : decode cJ7_copyOfRangeByte_39247 2 = .ok (.invokestatic 343, 3) := by decide +kernel
theorem dJ7_copyOfRangeByte_39247_5 : decode cJ7_copyOfRangeByte_39247 5 = .ok (.iload_n 2, 1) := by decide +kernel
theorem dJ7_copyOfRangeByte_39247_6 : decode cJ7_copyOfRangeByte_39247 6 = .ok (.iload_n 1, 1) := by decide +kernel
theorem dJ7_copyOfRangeByte_39247_7 : decode cJ7_copyOfRangeByte_39247 7 = .ok (.isub, 1) := by decide +kernel
theorem dJ7_copyOfRangeByte_39247_8 : decode cJ7_copyOfRangeByte_39247 8 = .ok (.istore_n 3, 1) := by decide +kernel
theorem dJ7_copyOfRangeByte_39247_9 : decode cJ7_copyOfRangeByte_39247 9 = .ok (.iload_n 3, 1) := by decide +kernel
theorem dJ7_copyOfRangeByte_39247_10 : decode cJ7_copyOfRangeByte_39247 10 = .ok (.newarray .byte, 2) := by decide +kernel
theorem dJ7_copyOfRangeByte_39247_12 : decode cJ7_copyOfRangeByte_39247 12 = .ok (.astore 4, 2) := by decide +kernel
theorem dJ7_copyOfRangeByte_39247_14 : decode cJ7_copyOfRangeByte_39247 14 = .ok (.aload_n 0, 1) := by decide +kernel
theorem dJ7_copyOfRangeByte_39247_15 : decode cJ7_copyOfRangeByte_39247 15 = .ok (.iload_n 1, 1) := by decide +kernel
theorem dJ7_copyOfRangeByte_39247_16 : decode cJ7_copyOfRangeByte_39247 16 = .ok (.aload 4, 2) := by decide +kernel
theorem dJ7_copyOfRangeByte_39247_18 : decode cJ7_copyOfRangeByte_39247 18 = .ok (.iconst 0, 1) := by decide +kernel
theorem dJ7_copyOfRangeByte_39247_19 : decode cJ7_copyOfRangeByte_39247 19 = .ok (.aload_n 0, 1) := by decide +kernel
theorem dJ7_copyOfRangeByte_39247_20 : decode cJ7_copyOfRangeByte_39247 20 = .ok (.arraylength, 1) := by decide +kernel
theorem dJ7_copyOfRangeByte_39247_21 : decode cJ7_copyOfRangeByte_39247 21 = .ok (.iload_n 1, 1) := by decide +kernel
theorem dJ7_copyOfRangeByte_39247_22 : decode cJ7_copyOfRangeByte_39247 22 = .ok (.isub, 1) := by decide +kernel
theorem dJ7_copyOfRangeByte_39247_23 : decode cJ7_copyOfRangeByte_39247 23 = .ok (.iload_n 3, 1) := by decide +kernel
theorem dJ7_copyOfRangeByte_39247_24 : decode cJ7_copyOfRangeByte_39247 24 = .ok (.invokestatic 304, 3) := by decide +kernel
theorem dJ7_copyOfRangeByte_39247_27 : decode cJ7_copyOfRangeByte_39247 27 = .ok (.invokestatic 150, 3) := by decide +kernel
theorem dJ7_copyOfRangeByte_39247_30 : decode cJ7_copyOfRangeByte_39247 30 = .ok (.aload 4, 2) := by decide +kernel
theorem dJ7_copyOfRangeByte_39247_32 : decode cJ7_copyOfRangeByte_39247 32 = .ok (.areturn, 1) := by decide +kernel
def rpJ7_copyOfRangeByte_39247 : List Nat := [0, 1, 2, 5, 6, 7, 8, 9, 10, 12, 14, 15, 16, 18, 19, 20, 21, 22, 23, 24, 27, 30, 32]
def rzJ7_copyOfRangeByte_39247 : List (Nat × Nat) := [(0, 0), (0, 0), (0, 0), (0, 0), (0, 0), (0, 0), (0, 0), (0, 0), (0, 0), (1, 2048), (1, 2048), (1, 2048), (1, 2048), (1, 2048), (1, 2048), (1, 2048), (1, 2048), (1, 2048), (1, 2048), (1, 2048), (1, 2048), (1, 2048), (1, 2048)]
noncomputable def rcJ7_copyOfRangeByte_39247 : List rz_B := [rz_iload 1, rz_iload 2, rz_callSv 2 rgJ7_checkLength_df160, rz_iload 2, rz_iload 1, rz_isub, rz_istore 3, rz_iload 3, rz_newa 7 2048, rz_astore 4, rz_aload 0, rz_iload 1, rz_aload 4, rz_cst 0, rz_aload 0, rz_alen, rz_iload 1, rz_isub, rz_iload 3, rz_imin, rz_acopyB, rz_aload 4, rz_aret]
noncomputable def rgJ7_copyOfRangeByte_39247 : rz_L → rz_M → rz_Z → Bool := rz_go rcJ7_copyOfRangeByte_39247 5 1000000
def rrJ7_copyOfRangeByte_39247 : Room := { frames := 1, cells := 1, slots := 2048, locals := 60 }
theorem rmJ7_copyOfRangeByte_39247 (l : Launch) {G : rz_G} (hG : rz_Gd G) (vs : rz_L) (M : rz_M) (Z : rz_Z) (hn : vs.length = 3) (h : rgJ7_copyOfRangeByte_39247 vs M Z = true) : Met l yJ7_copyOfRangeByte_39247 (Cond.code yJ7_copyOfRangeByte_39247 cJ7_copyOfRangeByte_39247 5 (some (.array .byte)) :: rz_TB) rrJ7_copyOfRangeByte_39247 (rz_Pre G vs M) (rz_Qr G M.2 Z) 1 2048 (fun q => rz_b G ≤ q) := by
  obtain ⟨D, tc, ad, b, xs, rfl⟩ := id hG
  refine rz_bodyM (pcs := rpJ7_copyOfRangeByte_39247) (cz := rzJ7_copyOfRangeByte_39247) (by decide) rfl rfl (by rw [hn]; decide) h ?_
  intro p e R s m args below meth c hC hmn
  obtain ⟨hx, hb, hml, hr, hlk, ho, hts, hKn, hRm⟩ := id hC
  obtain ⟨hK, hA, hSt⟩ := id hKn
  have hw : ∀ {i j : Nat} {ws : List Cond} {w : Cond}, rz_WW[i]? = some ws → ws[j]? = some w → w.before args s = true := fun h1 h2 => hts _ (List.mem_cons_of_mem _ (rz_mem h1 h2))
  refine rz_All_c (i := 0) (fun k J hk hJ => rz_iload_n_ok (pc := 0) hx hb dJ7_copyOfRangeByte_39247_0 rfl hk) ?_
  refine rz_All_c (i := 1) (fun k J hk hJ => rz_iload_n_ok (pc := 1) hx hb dJ7_copyOfRangeByte_39247_1 rfl hk) ?_
  refine rz_All_c (i := 2) (fun k J hk hJ => rz_callSv_ok (pc := 2) (nz0 := (0, 0)) (nz1 := (0, 0)) (own := RJ7) hC rfl (rmJ7_checkLength_df160 l hG) (rz_cwS 2 hC rz_good (rz_mem (i := 67) (j := 12) rfl rfl) (rz_mem (i := 67) (j := 13) rfl rfl) (rz_mem (i := 2) (j := 6) rfl rfl) (rz_mem (i := 67) (j := 14) rfl rfl) ⟨rfl, by decide, by decide, by decide +kernel⟩ rfl rfl ⟨by decide, by decide⟩) dJ7_copyOfRangeByte_39247_2 hk (by decide) (by rw [hRm]; decide)) ?_
  refine rz_All_c (i := 3) (fun k J hk hJ => rz_iload_n_ok (pc := 5) hx hb dJ7_copyOfRangeByte_39247_5 rfl hk) ?_
  refine rz_All_c (i := 4) (fun k J hk hJ => rz_iload_n_ok (pc := 6) hx hb dJ7_copyOfRangeByte_39247_6 rfl hk) ?_
  refine rz_All_c (i := 5) (fun k J hk hJ => rz_isub_ok (pc := 7) hx hb dJ7_copyOfRangeByte_39247_7 hk) ?_
  refine rz_All_c (i := 6) (fun k J hk hJ => rz_istore_n_ok (pc := 8) hx hb dJ7_copyOfRangeByte_39247_8 rfl hk) ?_
  refine rz_All_c (i := 7) (fun k J hk hJ => rz_iload_n_ok (pc := 9) hx hb dJ7_copyOfRangeByte_39247_9 rfl hk) ?_
  refine rz_All_c (i := 8) (fun k J hk hJ => rz_newa_byte_ok (pc := 10) (nz0 := (0, 0)) (mx := 2048) hx hb hK hA (hw (i := 59) (j := 2) rfl rfl) (by decide) (by rw [hRm]; decide) dJ7_copyOfRangeByte_39247_10 (rz_wid (by decide) hk)) ?_
  refine rz_All_c (i := 9) (fun k J hk hJ => rz_astore_ok (pc := 12) hx hb dJ7_copyOfRangeByte_39247_12 hk) ?_
  refine rz_All_c (i := 10) (fun k J hk hJ => rz_aload_n_ok (pc := 14) hx hb dJ7_copyOfRangeByte_39247_14 rfl hk) ?_
  refine rz_All_c (i := 11) (fun k J hk hJ => rz_iload_n_ok (pc := 15) hx hb dJ7_copyOfRangeByte_39247_15 rfl hk) ?_
  refine rz_All_c (i := 12) (fun k J hk hJ => rz_aload_ok (pc := 16) hx hb dJ7_copyOfRangeByte_39247_16 hk) ?_
  refine rz_All_c (i := 13) (fun k J hk hJ => rz_iconst_ok (pc := 18) hx hb dJ7_copyOfRangeByte_39247_18 rfl hk) ?_
  refine rz_All_c (i := 14) (fun k J hk hJ => rz_aload_n_ok (pc := 19) hx hb dJ7_copyOfRangeByte_39247_19 rfl hk) ?_
  refine rz_All_c (i := 15) (fun k J hk hJ => rz_alen_ok (pc := 20) hx hb hK dJ7_copyOfRangeByte_39247_20 hk) ?_
  refine rz_All_c (i := 16) (fun k J hk hJ => rz_iload_n_ok (pc := 21) hx hb dJ7_copyOfRangeByte_39247_21 rfl hk) ?_
  refine rz_All_c (i := 17) (fun k J hk hJ => rz_isub_ok (pc := 22) hx hb dJ7_copyOfRangeByte_39247_22 hk) ?_
  refine rz_All_c (i := 18) (fun k J hk hJ => rz_iload_n_ok (pc := 23) hx hb dJ7_copyOfRangeByte_39247_23 rfl hk) ?_
  refine rz_All_c (i := 19) (fun k J hk hJ => rz_imin_ok (pc := 24) (nz0 := (1, 2048)) (own := RJ7) hx hb hml ho (hw (i := 61) (j := 13) rfl rfl) (hw (i := 7) (j := 4) rfl rfl) (hw (i := 5) (j := 16) rfl rfl) (hw (i := 7) (j := 5) rfl rfl) (by rw [hRm]; decide) (by rw [hRm]; decide) dJ7_copyOfRangeByte_39247_24 hk (by rw [hRm]; decide)) ?_
  refine rz_All_c (i := 20) (fun k J hk hJ => rz_acopyB_ok (pc := 27) (own := RJ7) hx hb hml hK hA ho (hw (i := 61) (j := 16) rfl rfl) (hw (i := 2) (j := 16) rfl rfl) (hw (i := 2) (j := 17) rfl rfl) (hw (i := 2) (j := 18) rfl rfl) (by rw [hRm]; decide) (by rw [hRm]; decide) dJ7_copyOfRangeByte_39247_27 hk) ?_
  refine rz_All_c (i := 21) (fun k J hk hJ => rz_aload_ok (pc := 30) hx hb dJ7_copyOfRangeByte_39247_30 hk) ?_
  refine rz_All_c (i := 22) (fun k J hk hJ => rz_aret_ok (pc := 32) (nz0 := (1, 2048)) hC (Or.inr ⟨_, rfl⟩) dJ7_copyOfRangeByte_39247_32 (by decide)) ?_
  exact trivial
theorem dJ7_copyOfRange_39247_0 : decode cJ7_copyOfRange_39247 0 = .ok (.iload_n 1, 1) := by decide +kernel
theorem dJ7_copyOfRange_39247_1 : decode cJ7_copyOfRange_39247 1 = .ok (.ifCond .ne 9, 3) := by decide +kernel
theorem dJ7_copyOfRange_39247_4 : decode cJ7_copyOfRange_39247 4 = .ok (.iload_n 2, 1) := by decide +kernel
theorem dJ7_copyOfRange_39247_5 : decode cJ7_copyOfRange_39247 5 = .ok (.aload_n 0, 1) := by decide +kernel
theorem dJ7_copyOfRange_39247_6 : decode cJ7_copyOfRange_39247 6 = .ok (.arraylength, 1) := by decide +kernel
theorem dJ7_copyOfRange_39247_7 : decode cJ7_copyOfRange_39247 7 = .ok (.if_icmp .eq 10, 3) := by decide +kernel
theorem dJ7_copyOfRange_39247_10 : decode cJ7_copyOfRange_39247 10 = .ok (.aload_n 0, 1) := by decide +kernel
theorem dJ7_copyOfRange_39247_11 : decode cJ7_copyOfRange_39247 11 = .ok (.iload_n 1, 1) := by decide +kernel
theorem dJ7_copyOfRange_39247_12 : decode cJ7_copyOfRange_39247 12 = .ok (.iload_n 2, 1) := by decide +kernel
theorem dJ7_copyOfRange_39247_13 : decode cJ7_copyOfRange_39247 13 = .ok (.invokestatic 339, 3) := by decide +kernel
theorem dJ7_copyOfRange_39247_16 : decode cJ7_copyOfRange_39247 16 = .ok (.areturn, 1) := by decide +kernel
def rpJ7_copyOfRange_39247 : List Nat := [0, 1, 4, 5, 6, 7, 10, 11, 12, 13, 16, 17]
def rzJ7_copyOfRange_39247 : List (Nat × Nat) := [(0, 0), (0, 0), (0, 0), (0, 0), (0, 0), (0, 0), (0, 0), (0, 0), (0, 0), (0, 0), (1, 2048), (0, 0)]
noncomputable def rcJ7_copyOfRange_39247 : List rz_B := [rz_iload 1, rz_ifne 6, rz_iload 2, rz_aload 0, rz_alen, rz_icmpeq 11, rz_aload 0, rz_iload 1, rz_iload 2, rz_callS 3 rgJ7_copyOfRangeByte_39247, rz_aret, rz_no]
noncomputable def rgJ7_copyOfRange_39247 : rz_L → rz_M → rz_Z → Bool := rz_go rcJ7_copyOfRange_39247 3 1000000
def rrJ7_copyOfRange_39247 : Room := { frames := 2, cells := 1, slots := 2048, locals := 84 }
theorem rmJ7_copyOfRange_39247 (l : Launch) {G : rz_G} (hG : rz_Gd G) (vs : rz_L) (M : rz_M) (Z : rz_Z) (hn : vs.length = 3) (h : rgJ7_copyOfRange_39247 vs M Z = true) : Met l yJ7_copyOfRange_39247 (Cond.code yJ7_copyOfRange_39247 cJ7_copyOfRange_39247 3 (some (.array .byte)) :: rz_TB) rrJ7_copyOfRange_39247 (rz_Pre G vs M) (rz_Qr G M.2 Z) 1 2048 (fun q => rz_b G ≤ q) := by
  obtain ⟨D, tc, ad, b, xs, rfl⟩ := id hG
  refine rz_bodyM (pcs := rpJ7_copyOfRange_39247) (cz := rzJ7_copyOfRange_39247) (by decide) rfl rfl (by rw [hn]; decide) h ?_
  intro p e R s m args below meth c hC hmn
  obtain ⟨hx, hb, hml, hr, hlk, ho, hts, hKn, hRm⟩ := id hC
  obtain ⟨hK, hA, hSt⟩ := id hKn
  have hw : ∀ {i j : Nat} {ws : List Cond} {w : Cond}, rz_WW[i]? = some ws → ws[j]? = some w → w.before args s = true := fun h1 h2 => hts _ (List.mem_cons_of_mem _ (rz_mem h1 h2))
  refine rz_All_c (i := 0) (fun k J hk hJ => rz_iload_n_ok (pc := 0) hx hb dJ7_copyOfRange_39247_0 rfl hk) ?_
  refine rz_All_c (i := 1) (fun k J hk hJ => rz_ifne_ok (pc := 1) hx hb dJ7_copyOfRange_39247_1 rfl hk (hJ 6)) ?_
  refine rz_All_c (i := 2) (fun k J hk hJ => rz_iload_n_ok (pc := 4) hx hb dJ7_copyOfRange_39247_4 rfl hk) ?_
  refine rz_All_c (i := 3) (fun k J hk hJ => rz_aload_n_ok (pc := 5) hx hb dJ7_copyOfRange_39247_5 rfl hk) ?_
  refine rz_All_c (i := 4) (fun k J hk hJ => rz_alen_ok (pc := 6) hx hb hK dJ7_copyOfRange_39247_6 hk) ?_
  refine rz_All_c (i := 5) (fun k J hk hJ => rz_icmpeq_ok (pc := 7) hx hb dJ7_copyOfRange_39247_7 rfl hk (hJ 11)) ?_
  refine rz_All_c (i := 6) (fun k J hk hJ => rz_aload_n_ok (pc := 10) hx hb dJ7_copyOfRange_39247_10 rfl hk) ?_
  refine rz_All_c (i := 7) (fun k J hk hJ => rz_iload_n_ok (pc := 11) hx hb dJ7_copyOfRange_39247_11 rfl hk) ?_
  refine rz_All_c (i := 8) (fun k J hk hJ => rz_iload_n_ok (pc := 12) hx hb dJ7_copyOfRange_39247_12 rfl hk) ?_
  refine rz_All_c (i := 9) (fun k J hk hJ => rz_callSr_ok (pc := 13) (nz0 := (0, 0)) (nz1 := (1, 2048)) (own := RJ7) hC rfl (rmJ7_copyOfRangeByte_39247 l hG) (rz_cwS 3 hC rz_good (rz_mem (i := 67) (j := 9) rfl rfl) (rz_mem (i := 67) (j := 10) rfl rfl) (rz_mem (i := 2) (j := 6) rfl rfl) (rz_mem (i := 67) (j := 11) rfl rfl) ⟨rfl, by decide, by decide, by decide +kernel⟩ rfl rfl ⟨by decide, by decide⟩) dJ7_copyOfRange_39247_13 hk (by decide) (by rw [hRm]; decide)) ?_
  refine rz_All_c (i := 10) (fun k J hk hJ => rz_aret_ok (pc := 16) (nz0 := (1, 2048)) hC (Or.inr ⟨_, rfl⟩) dJ7_copyOfRange_39247_16 (by decide)) ?_
  refine rz_All_c (i := 11) (fun k J hk hJ => rz_no_ok) ?_
  exact trivial
theorem dJ0_init_db425_0 : decode cJ0_init_db425 0 = .ok (.aload_n 0, 1) := by decide +kernel
theorem dJ0_init_db425_1 : decode cJ0_init_db425 1 = .ok (.invokespecial 1, 3) := by decide +kernel
theorem dJ0_init_db425_4 : decode cJ0_init_db425 4 = .ok (.aload_n 1, 1) := by decide +kernel
theorem dJ0_init_db425_5 : decode cJ0_init_db425 5 = .ok (.invokevirtual 552, 3) := by decide +kernel
theorem dJ0_init_db425_8 : decode cJ0_init_db425 8 = .ok (.astore_n 3, 1) := by decide +kernel
theorem dJ0_init_db425_9 : decode cJ0_init_db425 9 = .ok (.aload_n 1, 1) := by decide +kernel
theorem dJ0_init_db425_10 : decode cJ0_init_db425 10 = .ok (.invokevirtual 549, 3) := by decide +kernel
theorem dJ0_init_db425_13 : decode cJ0_init_db425 13 = .ok (.istore 4, 2) := by decide +kernel
theorem dJ0_init_db425_15 : decode cJ0_init_db425 15 = .ok (.aload_n 1, 1) := by decide +kernel
theorem dJ0_init_db425_16 : decode cJ0_init_db425 16 = .ok (.invokevirtual 1047, 3) := by decide +kernel
theorem dJ0_init_db425_19 : decode cJ0_init_db425 19 = .ok (.ifCond .eq 22, 3) := by decide +kernel
theorem dJ0_init_db425_22 : decode cJ0_init_db425 22 = .ok (.aload_n 0, 1) := by decide +kernel
theorem dJ0_init_db425_23 : decode cJ0_init_db425 23 = .ok (.iconst 0, 1) := by decide +kernel
theorem dJ0_init_db425_24 : decode cJ0_init_db425 24 = .ok (.putfield 15, 3) := by decide +kernel
theorem dJ0_init_db425_27 : decode cJ0_init_db425 27 = .ok (.aload_n 0, 1) := by decide +kernel
theorem dJ0_init_db425_28 : decode cJ0_init_db425 28 = .ok (.aload_n 3, 1) := by decide +kernel
theorem dJ0_init_db425_29 : decode cJ0_init_db425 29 = .ok (.iconst 0, 1) := by decide +kernel
theorem dJ0_init_db425_30 : decode cJ0_init_db425 30 = .ok (.iload 4, 2) := by decide +kernel
theorem dJ0_init_db425_32 : decode cJ0_init_db425 32 = .ok (.invokestatic 54, 3) := by decide +kernel
theorem dJ0_init_db425_35 : decode cJ0_init_db425 35 = .ok (.putfield 9, 3) := by decide +kernel
theorem dJ0_init_db425_38 : decode cJ0_init_db425 38 = .ok (.goto 59, 3) := by decide +kernel
theorem dJ0_init_db425_97 : decode cJ0_init_db425 97 = .ok (.return_, 1) := by decide +kernel
def rpJ0_init_db425 : List Nat := [0, 1, 4, 5, 8, 9, 10, 13, 15, 16, 19, 22, 23, 24, 27, 28, 29, 30, 32, 35, 38, 41, 97]
def rzJ0_init_db425 : List (Nat × Nat) := [(0, 0), (0, 0), (0, 0), (0, 0), (0, 0), (0, 0), (0, 0), (0, 0), (0, 0), (0, 0), (0, 0), (0, 0), (0, 0), (0, 0), (0, 0), (0, 0), (0, 0), (0, 0), (0, 0), (1, 2048), (1, 2048), (0, 0), (1, 2048)]
noncomputable def rcJ0_init_db425 : List rz_B := [rz_aload 0, rz_obj, rz_aload 1, rz_callV 0 (Nat.add (Nat.mul 256 1) 1) rgJ5_getValue_6d5f1, rz_astore 3, rz_aload 1, rz_callV 0 (Nat.add (Nat.mul 256 1) 1) rgJ4_length_8abf5, rz_istore 4, rz_aload 1, rz_callV 0 (Nat.add (Nat.mul 256 1) 1) rgJ5_isLatin1_aae02, rz_ifeq 21, rz_aload 0, rz_cst 0, rz_putf (Nat.add (Nat.mul 256 0) 1) 1 rz_unB, rz_aload 0, rz_aload 3, rz_cst 0, rz_iload 4, rz_callS 3 rgJ7_copyOfRange_39247, rz_putf (Nat.add (Nat.mul 256 0) 1) 0 rz_unR, rz_goto 22, rz_no, rz_vret]
noncomputable def rgJ0_init_db425 : rz_L → rz_M → rz_Z → Bool := rz_go rcJ0_init_db425 5 1000000
def rrJ0_init_db425 : Room := { frames := 3, cells := 1, slots := 2048, locals := 106 }
theorem rmJ0_init_db425 (l : Launch) {G : rz_G} (hG : rz_Gd G) (vs : rz_L) (M : rz_M) (Z : rz_Z) (hn : vs.length = 3) (h : rgJ0_init_db425 vs M Z = true) : Met l yJ0_init_db425 (Cond.code yJ0_init_db425 cJ0_init_db425 5 none :: rz_TB) rrJ0_init_db425 (rz_Pre G vs M) (rz_Qv G M.2 Z) 1 2048 (fun q => rz_b G ≤ q) := by
  obtain ⟨D, tc, ad, b, xs, rfl⟩ := id hG
  refine rz_bodyM (pcs := rpJ0_init_db425) (cz := rzJ0_init_db425) (by decide) rfl rfl (by rw [hn]; decide) h ?_
  intro p e R s m args below meth c hC hmn
  obtain ⟨hx, hb, hml, hr, hlk, ho, hts, hKn, hRm⟩ := id hC
  obtain ⟨hK, hA, hSt⟩ := id hKn
  have hw : ∀ {i j : Nat} {ws : List Cond} {w : Cond}, rz_WW[i]? = some ws → ws[j]? = some w → w.before args s = true := fun h1 h2 => hts _ (List.mem_cons_of_mem _ (rz_mem h1 h2))
  refine rz_All_c (i := 0) (fun k J hk hJ => rz_aload_n_ok (pc := 0) hx hb dJ0_init_db425_0 rfl hk) ?_
  refine rz_All_c (i := 1) (fun k J hk hJ => rz_obj_ok (pc := 1) (own := RJ0) hx hb hml ho (hw (i := 66) (j := 13) rfl rfl) (hw (i := 55) (j := 1) rfl rfl) (hw (i := 55) (j := 2) rfl rfl) (by rw [hRm]; decide) (by rw [hRm]; decide) dJ0_init_db425_1 hk) ?_
  refine rz_All_c (i := 2) (fun k J hk hJ => rz_aload_n_ok (pc := 4) hx hb dJ0_init_db425_4 rfl hk) ?_
  refine rz_All_c (i := 3) (fun k J hk hJ => rz_callUr_ok (pc := 5) (nz0 := (0, 0)) (nz1 := (0, 0)) (own := RJ0) (C := RJ4) (T0 := TJ4) (N0 := 4) (ci := 1) (x0 := ⟨"java/lang/AbstractStringBuilder", "getValue", "()[B"⟩) hC rfl (rmJ5_getValue_6d5f1 l hG) (rz_cwU (owner := RJ5) 0 hC rz_good (rz_mem (i := 66) (j := 15) rfl rfl) (rz_mem (i := 66) (j := 16) rfl rfl) (rz_mem (i := 66) (j := 17) rfl rfl) (rz_mem (i := 66) (j := 18) rfl rfl) (rz_mem (i := 58) (j := 22) rfl rfl) (rz_mem (i := 66) (j := 19) rfl rfl) rfl ⟨by decide, by decide, by decide +kernel⟩ rfl rfl ⟨by decide, by decide⟩) rfl dJ0_init_db425_5 hk (by decide) (by rw [hRm]; decide)) ?_
  refine rz_All_c (i := 4) (fun k J hk hJ => rz_astore_n_ok (pc := 8) hx hb dJ0_init_db425_8 rfl hk) ?_
  refine rz_All_c (i := 5) (fun k J hk hJ => rz_aload_n_ok (pc := 9) hx hb dJ0_init_db425_9 rfl hk) ?_
  refine rz_All_c (i := 6) (fun k J hk hJ => rz_callUi_ok (pc := 10) (nz0 := (0, 0)) (nz1 := (0, 0)) (own := RJ0) (C := RJ4) (T0 := TJ4) (N0 := 4) (ci := 1) (x0 := ⟨"java/lang/AbstractStringBuilder", "length", "()I"⟩) hC rfl (rmJ4_length_8abf5 l hG) (rz_cwO (owner := RJ5) 0 hC rz_good (rz_mem (i := 66) (j := 20) rfl rfl) (rz_mem (i := 66) (j := 21) rfl rfl) (rz_mem (i := 67) (j := 3) rfl rfl) (rz_mem (i := 66) (j := 23) rfl rfl) (rz_mem (i := 67) (j := 0) rfl rfl) (rz_mem (i := 58) (j := 13) rfl rfl) (rz_mem (i := 67) (j := 1) rfl rfl) (rz_mem (i := 67) (j := 4) rfl rfl) ⟨by decide, by decide, by decide +kernel⟩ rfl rfl ⟨by decide, by decide⟩) rfl dJ0_init_db425_10 hk (by decide) (by rw [hRm]; decide)) ?_
  refine rz_All_c (i := 7) (fun k J hk hJ => rz_istore_ok (pc := 13) hx hb dJ0_init_db425_13 hk) ?_
  refine rz_All_c (i := 8) (fun k J hk hJ => rz_aload_n_ok (pc := 15) hx hb dJ0_init_db425_15 rfl hk) ?_
  refine rz_All_c (i := 9) (fun k J hk hJ => rz_callUi_ok (pc := 16) (nz0 := (0, 0)) (nz1 := (0, 0)) (own := RJ0) (C := RJ4) (T0 := TJ4) (N0 := 4) (ci := 1) (x0 := ⟨"java/lang/AbstractStringBuilder", "isLatin1", "()Z"⟩) hC rfl (rmJ5_isLatin1_aae02 l hG) (rz_cwU (owner := RJ5) 0 hC rz_good (rz_mem (i := 67) (j := 5) rfl rfl) (rz_mem (i := 61) (j := 21) rfl rfl) (rz_mem (i := 61) (j := 22) rfl rfl) (rz_mem (i := 61) (j := 23) rfl rfl) (rz_mem (i := 58) (j := 22) rfl rfl) (rz_mem (i := 62) (j := 0) rfl rfl) rfl ⟨by decide, by decide, by decide +kernel⟩ rfl rfl ⟨by decide, by decide⟩) rfl dJ0_init_db425_16 hk (by decide) (by rw [hRm]; decide)) ?_
  refine rz_All_c (i := 10) (fun k J hk hJ => rz_ifeq_ok (pc := 19) hx hb dJ0_init_db425_19 rfl hk (hJ 21)) ?_
  refine rz_All_c (i := 11) (fun k J hk hJ => rz_aload_n_ok (pc := 22) hx hb dJ0_init_db425_22 rfl hk) ?_
  refine rz_All_c (i := 12) (fun k J hk hJ => rz_iconst_ok (pc := 23) hx hb dJ0_init_db425_23 rfl hk) ?_
  refine rz_All_c (i := 13) (fun k J hk hJ => rz_putfF_ok (pc := 24) (own := RJ0) (ref := "java/lang/String") (C := RJ0) (T := TJ0) (N := 4) (ci := 0) (index := 15) (f := 1) (t := 0) (Ts := Cond.code yJ0_init_db425 cJ0_init_db425 5 none :: rz_TB) hx hb hts rz_in0 tyJ0 tyJ0_ok nmJ0 ho hK hA rfl (by decide) rfl (rz_UnB _) rfl (hmn.trans rfl) rfl (tyJ0_ok 1 (by decide)) (hw (i := 6) (j := 11) rfl rfl) (fun _ z => z) dJ0_init_db425_24 hk) ?_
  refine rz_All_c (i := 14) (fun k J hk hJ => rz_aload_n_ok (pc := 27) hx hb dJ0_init_db425_27 rfl hk) ?_
  refine rz_All_c (i := 15) (fun k J hk hJ => rz_aload_n_ok (pc := 28) hx hb dJ0_init_db425_28 rfl hk) ?_
  refine rz_All_c (i := 16) (fun k J hk hJ => rz_iconst_ok (pc := 29) hx hb dJ0_init_db425_29 rfl hk) ?_
  refine rz_All_c (i := 17) (fun k J hk hJ => rz_iload_ok (pc := 30) hx hb dJ0_init_db425_30 hk) ?_
  refine rz_All_c (i := 18) (fun k J hk hJ => rz_callSr_ok (pc := 32) (nz0 := (0, 0)) (nz1 := (1, 2048)) (own := RJ0) hC rfl (rmJ7_copyOfRange_39247 l hG) (rz_cwX 3 hC rz_good (rz_mem (i := 67) (j := 6) rfl rfl) (rz_mem (i := 67) (j := 7) rfl rfl) (rz_mem (i := 2) (j := 6) rfl rfl) (rz_mem (i := 67) (j := 8) rfl rfl) ⟨by decide, by decide, by decide +kernel⟩ rfl rfl ⟨by decide, by decide⟩) dJ0_init_db425_32 hk (by decide) (by rw [hRm]; decide)) ?_
  refine rz_All_c (i := 19) (fun k J hk hJ => rz_putfF_ok (pc := 35) (own := RJ0) (ref := "java/lang/String") (C := RJ0) (T := TJ0) (N := 4) (ci := 0) (index := 9) (f := 0) (t := 2) (Ts := Cond.code yJ0_init_db425 cJ0_init_db425 5 none :: rz_TB) hx hb hts rz_in0 tyJ0 tyJ0_ok nmJ0 ho hK hA rfl (by decide) rfl (rz_UnR _ (Or.inr ⟨_, rfl⟩)) rfl (hmn.trans rfl) rfl (tyJ0_ok 0 (by decide)) (hw (i := 6) (j := 5) rfl rfl) (fun _ z => z) dJ0_init_db425_35 hk) ?_
  refine rz_All_c (i := 20) (fun k J hk hJ => rz_goto_ok (pc := 38) hx hb dJ0_init_db425_38 rfl (hJ 22)) ?_
  refine rz_All_c (i := 21) (fun k J hk hJ => rz_no_ok) ?_
  refine rz_All_c (i := 22) (fun k J hk hJ => rz_vret_ok (pc := 97) (nz0 := (1, 2048)) hC dJ0_init_db425_97 (by decide)) ?_
  exact trivial
