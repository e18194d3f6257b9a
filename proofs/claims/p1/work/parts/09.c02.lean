/-! Constructors, and what they call: handlers, facts, contracts. -/
theorem dJ0_init_81219_0 : decode cJ0_init_81219 0 = .ok (.aload_n 0, 1) := by decide +kernel
theorem dJ0_init_81219_1 : decode cJ0_init_81219 1 = .ok (.aload_n 1, 1) := by decide +kernel
theorem dJ0_init_81219_2 : decode cJ0_init_81219 2 = .ok (.aconst_null, 1) := by decide +kernel
theorem dJ0_init_81219_3 : decode cJ0_init_81219 3 = .ok (.invokespecial 489, 3) := by decide +kernel
theorem dJ0_init_81219_6 : decode cJ0_init_81219 6 = .ok (.return_, 1) := by decide +kernel
def rpJ0_init_81219 : List Nat := [0, 1, 2, 3, 6]
def rzJ0_init_81219 : List (Nat × Nat) := [(0, 0), (0, 0), (0, 0), (0, 0), (1, 2048)]
noncomputable def rcJ0_init_81219 : List rz_B := [rz_aload 0, rz_aload 1, rz_null, rz_callI 2 rgJ0_init_db425, rz_vret]
noncomputable def rgJ0_init_81219 : rz_L → rz_M → rz_Z → Bool := rz_go rcJ0_init_81219 2 1000000
def rrJ0_init_81219 : Room := { frames := 4, cells := 1, slots := 2048, locals := 130 }
theorem rmJ0_init_81219 (l : Launch) {G : rz_G} (hG : rz_Gd G) (vs : rz_L) (M : rz_M) (Z : rz_Z) (hn : vs.length = 2) (h : rgJ0_init_81219 vs M Z = true) : Met l yJ0_init_81219 (Cond.code yJ0_init_81219 cJ0_init_81219 2 none :: rz_TB) rrJ0_init_81219 (rz_Pre G vs M) (rz_Qv G M.2 Z) 1 2048 (fun q => rz_b G ≤ q) := by
  obtain ⟨D, tc, ad, b, xs, rfl⟩ := id hG
  refine rz_bodyM (pcs := rpJ0_init_81219) (cz := rzJ0_init_81219) (by decide) rfl rfl (by rw [hn]; decide) h ?_
  intro p e R s m args below meth c hC hmn
  obtain ⟨hx, hb, hml, hr, hlk, ho, hts, hKn, hRm⟩ := id hC
  obtain ⟨hK, hA, hSt⟩ := id hKn
  have hw : ∀ {i j : Nat} {ws : List Cond} {w : Cond}, rz_WW[i]? = some ws → ws[j]? = some w → w.before args s = true := fun h1 h2 => hts _ (List.mem_cons_of_mem _ (rz_mem h1 h2))
  refine rz_All_c (i := 0) (fun k J hk hJ => rz_aload_n_ok (pc := 0) hx hb dJ0_init_81219_0 rfl hk) ?_
  refine rz_All_c (i := 1) (fun k J hk hJ => rz_aload_n_ok (pc := 1) hx hb dJ0_init_81219_1 rfl hk) ?_
  refine rz_All_c (i := 2) (fun k J hk hJ => rz_null_ok (pc := 2) hx hb dJ0_init_81219_2 hk) ?_
  refine rz_All_c (i := 3) (fun k J hk hJ => rz_callIv_ok (pc := 3) (nz0 := (0, 0)) (nz1 := (1, 2048)) (own := RJ0) hC rfl (rmJ0_init_db425 l hG) (rz_cwI 2 hC rz_good (rz_mem (i := 66) (j := 10) rfl rfl) (rz_mem (i := 66) (j := 11) rfl rfl) (rz_mem (i := 5) (j := 23) rfl rfl) (rz_mem (i := 66) (j := 12) rfl rfl) rfl ⟨by decide, by decide, by decide +kernel⟩ rfl rfl ⟨by decide, by decide⟩) dJ0_init_81219_3 hk (by decide) (by rw [hRm]; decide)) ?_
  refine rz_All_c (i := 4) (fun k J hk hJ => rz_vret_ok (pc := 6) (nz0 := (1, 2048)) hC dJ0_init_81219_6 (by decide)) ?_
  exact trivial
theorem dJ4_toString_0e30d_0 : decode cJ4_toString_0e30d 0 = .ok (.new 18, 3) := by decide +kernel
theorem dJ4_toString_0e30d_3 : decode cJ4_toString_0e30d 3 = .ok (.dup, 1) := by decide +kernel
theorem dJ4_toString_0e30d_4 : decode cJ4_toString_0e30d 4 = .ok (.aload_n 0, 1) := by decide +kernel
theorem dJ4_toString_0e30d_5 : decode cJ4_toString_0e30d 5 = .ok (.invokespecial 137, 3) := by decide +kernel
theorem dJ4_toString_0e30d_8 : decode cJ4_toString_0e30d 8 = .ok (.areturn, 1) := by decide +kernel
def rpJ4_toString_0e30d : List Nat := [0, 3, 4, 5, 8]
def rzJ4_toString_0e30d : List (Nat × Nat) := [(0, 0), (1, 4), (1, 4), (1, 4), (2, 2052)]
noncomputable def rcJ4_toString_0e30d : List rz_B := [rz_newo (Nat.add (Nat.mul 256 0) 1), rz_dup, rz_aload 0, rz_callI 1 rgJ0_init_81219, rz_aret]
noncomputable def rgJ4_toString_0e30d : rz_L → rz_M → rz_Z → Bool := rz_go rcJ4_toString_0e30d 1 1000000
def rrJ4_toString_0e30d : Room := { frames := 5, cells := 2, slots := 2052, locals := 151 }
theorem rmJ4_toString_0e30d (l : Launch) {G : rz_G} (hG : rz_Gd G) (vs : rz_L) (M : rz_M) (Z : rz_Z) (hn : vs.length = 1) (h : rgJ4_toString_0e30d vs M Z = true) : Met l yJ4_toString_0e30d (Cond.code yJ4_toString_0e30d cJ4_toString_0e30d 1 (some (.object "java/lang/String")) :: rz_TB) rrJ4_toString_0e30d (rz_Pre G vs M) (rz_Qr G M.2 Z) 2 2052 (fun q => rz_b G ≤ q) := by
  obtain ⟨D, tc, ad, b, xs, rfl⟩ := id hG
  refine rz_bodyM (pcs := rpJ4_toString_0e30d) (cz := rzJ4_toString_0e30d) (by decide) rfl rfl (by rw [hn]; decide) h ?_
  intro p e R s m args below meth c hC hmn
  obtain ⟨hx, hb, hml, hr, hlk, ho, hts, hKn, hRm⟩ := id hC
  obtain ⟨hK, hA, hSt⟩ := id hKn
  have hw : ∀ {i j : Nat} {ws : List Cond} {w : Cond}, rz_WW[i]? = some ws → ws[j]? = some w → w.before args s = true := fun h1 h2 => hts _ (List.mem_cons_of_mem _ (rz_mem h1 h2))
  refine rz_All_c (i := 0) (fun k J hk hJ => rz_newo_ok (pc := 0) (nz0 := (0, 0)) (own := RJ4) (C := RJ0) (T := TJ0) (N := 4) (ci := 0) (index := 18) (ty := tyJ0) (Ts := Cond.code yJ4_toString_0e30d cJ4_toString_0e30d 1 (some (.object "java/lang/String")) :: rz_TB) hx hb hts rz_in0 tyJ0_ok ho (hw (i := 66) (j := 5) rfl rfl) (hw (i := 66) (j := 6) rfl rfl) (hw (i := 5) (j := 23) rfl rfl) hK hA rfl (by decide) rz_df0 (by rw [hRm]; decide) dJ4_toString_0e30d_0 (rz_wid (by decide) hk)) ?_
  refine rz_All_c (i := 1) (fun k J hk hJ => rz_dup_ok (pc := 3) hx hb dJ4_toString_0e30d_3 hk) ?_
  refine rz_All_c (i := 2) (fun k J hk hJ => rz_aload_n_ok (pc := 4) hx hb dJ4_toString_0e30d_4 rfl hk) ?_
  refine rz_All_c (i := 3) (fun k J hk hJ => rz_callIv_ok (pc := 5) (nz0 := (1, 4)) (nz1 := (2, 2052)) (own := RJ4) hC rfl (rmJ0_init_81219 l hG) (rz_cwI 1 hC rz_good (rz_mem (i := 66) (j := 7) rfl rfl) (rz_mem (i := 66) (j := 8) rfl rfl) (rz_mem (i := 5) (j := 23) rfl rfl) (rz_mem (i := 66) (j := 9) rfl rfl) rfl ⟨by decide, by decide, by decide +kernel⟩ rfl rfl ⟨by decide, by decide⟩) dJ4_toString_0e30d_5 hk (by decide) (by rw [hRm]; decide)) ?_
  refine rz_All_c (i := 4) (fun k J hk hJ => rz_aret_ok (pc := 8) (nz0 := (2, 2052)) hC (Or.inl ⟨_, rfl⟩) dJ4_toString_0e30d_8 (by decide)) ?_
  exact trivial
theorem dX9_init_0 : decode cX9_init 0 = .ok (.aload_n 0, 1) := by decide +kernel
theorem dX9_init_1 : decode cX9_init 1 = .ok (.invokespecial 3, 3) := by decide +kernel
theorem dX9_init_4 : decode cX9_init 4 = .ok (.aload_n 0, 1) := by decide +kernel
theorem dX9_init_5 : decode cX9_init 5 = .ok (.sipush 16000, 3) := by decide +kernel
theorem dX9_init_8 : decode cX9_init 8 = .ok (.newarray .char, 2) := by decide +kernel
theorem dX9_init_10 : decode cX9_init 10 = .ok (.putfield 11, 3) := by decide +kernel
theorem dX9_init_13 : decode cX9_init 13 = .ok (.aload_n 0, 1) := by decide +kernel
theorem dX9_init_14 : decode cX9_init 14 = .ok (.sipush 6400, 3) := by decide +kernel
theorem dX9_init_17 : decode cX9_init 17 = .ok (.newarray .int, 2) := by decide +kernel
theorem dX9_init_19 : decode cX9_init 19 = .ok (.putfield 15, 3) := by decide +kernel
theorem dX9_init_22 : decode cX9_init 22 = .ok (.aload_n 0, 1) := by decide +kernel
theorem dX9_init_23 : decode cX9_init 23 = .ok (.sipush 6400, 3) := by decide +kernel
theorem dX9_init_26 : decode cX9_init 26 = .ok (.newarray .int, 2) := by decide +kernel
theorem dX9_init_28 : decode cX9_init 28 = .ok (.putfield 19, 3) := by decide +kernel
theorem dX9_init_31 : decode cX9_init 31 = .ok (.aload_n 0, 1) := by decide +kernel
theorem dX9_init_32 : decode cX9_init 32 = .ok (.sipush 6400, 3) := by decide +kernel
theorem dX9_init_35 : decode cX9_init 35 = .ok (.newarray .int, 2) := by decide +kernel
theorem dX9_init_37 : decode cX9_init 37 = .ok (.putfield 22, 3) := by decide +kernel
theorem dX9_init_40 : decode cX9_init 40 = .ok (.aload_n 0, 1) := by decide +kernel
theorem dX9_init_41 : decode cX9_init 41 = .ok (.sipush 4096, 3) := by decide +kernel
theorem dX9_init_44 : decode cX9_init 44 = .ok (.newarray .int, 2) := by decide +kernel
theorem dX9_init_46 : decode cX9_init 46 = .ok (.putfield 25, 3) := by decide +kernel
theorem dX9_init_49 : decode cX9_init 49 = .ok (.aload_n 0, 1) := by decide +kernel
theorem dX9_init_50 : decode cX9_init 50 = .ok (.sipush 12003, 3) := by decide +kernel
theorem dX9_init_53 : decode cX9_init 53 = .ok (.newarray .int, 2) := by decide +kernel
theorem dX9_init_55 : decode cX9_init 55 = .ok (.putfield 28, 3) := by decide +kernel
theorem dX9_init_58 : decode cX9_init 58 = .ok (.aload_n 0, 1) := by decide +kernel
theorem dX9_init_59 : decode cX9_init 59 = .ok (.sipush 12003, 3) := by decide +kernel
theorem dX9_init_62 : decode cX9_init 62 = .ok (.newarray .int, 2) := by decide +kernel
theorem dX9_init_64 : decode cX9_init 64 = .ok (.putfield 31, 3) := by decide +kernel
theorem dX9_init_67 : decode cX9_init 67 = .ok (.aload_n 0, 1) := by decide +kernel
theorem dX9_init_68 : decode cX9_init 68 = .ok (.sipush 12003, 3) := by decide +kernel
theorem dX9_init_71 : decode cX9_init 71 = .ok (.newarray .int, 2) := by decide +kernel
theorem dX9_init_73 : decode cX9_init 73 = .ok (.putfield 34, 3) := by decide +kernel
theorem dX9_init_76 : decode cX9_init 76 = .ok (.aload_n 0, 1) := by decide +kernel
theorem dX9_init_77 : decode cX9_init 77 = .ok (.aload_n 1, 1) := by decide +kernel
theorem dX9_init_78 : decode cX9_init 78 = .ok (.putfield 37, 3) := by decide +kernel
theorem dX9_init_81 : decode cX9_init 81 = .ok (.new 41, 3) := by decide +kernel
theorem dX9_init_84 : decode cX9_init 84 = .ok (.dup, 1) := by decide +kernel
theorem dX9_init_85 : decode cX9_init 85 = .ok (.invokespecial 43, 3) := by decide +kernel
theorem dX9_init_88 : decode cX9_init 88 = .ok (.astore_n 2, 1) := by decide +kernel
theorem dX9_init_89 : decode cX9_init 89 = .ok (.aload_n 2, 1) := by decide +kernel
theorem dX9_init_90 : decode cX9_init 90 = .ok (.ldc 44, 2) := by decide +kernel
theorem dX9_init_92 : decode cX9_init 92 = .ok (.invokevirtual 46, 3) := by decide +kernel
theorem dX9_init_95 : decode cX9_init 95 = .ok (.bipush 32, 2) := by decide +kernel
theorem dX9_init_97 : decode cX9_init 97 = .ok (.invokevirtual 50, 3) := by decide +kernel
theorem dX9_init_100 : decode cX9_init 100 = .ok (.ldc 53, 2) := by decide +kernel
theorem dX9_init_102 : decode cX9_init 102 = .ok (.invokevirtual 46, 3) := by decide +kernel
theorem dX9_init_105 : decode cX9_init 105 = .ok (.bipush 32, 2) := by decide +kernel
theorem dX9_init_107 : decode cX9_init 107 = .ok (.invokevirtual 50, 3) := by decide +kernel
theorem dX9_init_110 : decode cX9_init 110 = .ok (.ldc 55, 2) := by decide +kernel
theorem dX9_init_112 : decode cX9_init 112 = .ok (.invokevirtual 46, 3) := by decide +kernel
theorem dX9_init_115 : decode cX9_init 115 = .ok (.bipush 32, 2) := by decide +kernel
theorem dX9_init_117 : decode cX9_init 117 = .ok (.invokevirtual 50, 3) := by decide +kernel
theorem dX9_init_120 : decode cX9_init 120 = .ok (.pop, 1) := by decide +kernel
theorem dX9_init_121 : decode cX9_init 121 = .ok (.aload_n 0, 1) := by decide +kernel
theorem dX9_init_122 : decode cX9_init 122 = .ok (.aload_n 2, 1) := by decide +kernel
theorem dX9_init_123 : decode cX9_init 123 = .ok (.invokevirtual 57, 3) := by decide +kernel
theorem dX9_init_126 : decode cX9_init 126 = .ok (.invokevirtual 61, 3) := by decide +kernel
theorem dX9_init_129 : decode cX9_init 129 = .ok (.putfield 67, 3) := by decide +kernel
theorem dX9_init_132 : decode cX9_init 132 = .ok (.new 41, 3) := by decide +kernel
theorem dX9_init_135 : decode cX9_init 135 = .ok (.dup, 1) := by decide +kernel
theorem dX9_init_136 : decode cX9_init 136 = .ok (.invokespecial 43, 3) := by decide +kernel
theorem dX9_init_139 : decode cX9_init 139 = .ok (.astore_n 3, 1) := by decide +kernel
theorem dX9_init_140 : decode cX9_init 140 = .ok (.aload_n 3, 1) := by decide +kernel
theorem dX9_init_141 : decode cX9_init 141 = .ok (.ldc 70, 2) := by decide +kernel
theorem dX9_init_143 : decode cX9_init 143 = .ok (.invokevirtual 46, 3) := by decide +kernel
theorem dX9_init_146 : decode cX9_init 146 = .ok (.ldc 72, 2) := by decide +kernel
theorem dX9_init_148 : decode cX9_init 148 = .ok (.invokevirtual 46, 3) := by decide +kernel
theorem dX9_init_151 : decode cX9_init 151 = .ok (.ldc 74, 2) := by decide +kernel
theorem dX9_init_153 : decode cX9_init 153 = .ok (.invokevirtual 46, 3) := by decide +kernel
theorem dX9_init_156 : decode cX9_init 156 = .ok (.pop, 1) := by decide +kernel
theorem dX9_init_157 : decode cX9_init 157 = .ok (.aload_n 3, 1) := by decide +kernel
theorem dX9_init_158 : decode cX9_init 158 = .ok (.ldc 76, 2) := by decide +kernel
theorem dX9_init_160 : decode cX9_init 160 = .ok (.invokevirtual 46, 3) := by decide +kernel
theorem dX9_init_163 : decode cX9_init 163 = .ok (.ldc 78, 2) := by decide +kernel
theorem dX9_init_165 : decode cX9_init 165 = .ok (.invokevirtual 46, 3) := by decide +kernel
theorem dX9_init_168 : decode cX9_init 168 = .ok (.pop, 1) := by decide +kernel
theorem dX9_init_169 : decode cX9_init 169 = .ok (.aload_n 0, 1) := by decide +kernel
theorem dX9_init_170 : decode cX9_init 170 = .ok (.aload_n 3, 1) := by decide +kernel
theorem dX9_init_171 : decode cX9_init 171 = .ok (.invokevirtual 57, 3) := by decide +kernel
theorem dX9_init_174 : decode cX9_init 174 = .ok (.invokevirtual 61, 3) := by decide +kernel
theorem dX9_init_177 : decode cX9_init 177 = .ok (.putfield 80, 3) := by decide +kernel
theorem dX9_init_180 : decode cX9_init 180 = .ok (.aload_n 0, 1) := by decide +kernel
theorem dX9_init_181 : decode cX9_init 181 = .ok (.aload_n 0, 1) := by decide +kernel
theorem dX9_init_182 : decode cX9_init 182 = .ok (.getfield 80, 3) := by decide +kernel
theorem dX9_init_185 : decode cX9_init 185 = .ok (.putfield 83, 3) := by decide +kernel
theorem dX9_init_188 : decode cX9_init 188 = .ok (.return_, 1) := by decide +kernel
def rpX9_init : List Nat := [0, 1, 4, 5, 8, 10, 13, 14, 17, 19, 22, 23, 26, 28, 31, 32, 35, 37, 40, 41, 44, 46, 49, 50, 53, 55, 58, 59, 62, 64, 67, 68, 71, 73, 76, 77, 78, 81, 84, 85, 88, 89, 90, 92, 95, 97, 100, 102, 105, 107, 110, 112, 115, 117, 120, 121, 122, 123, 126, 129, 132, 135, 136, 139, 140, 141, 143, 146, 148, 151, 153, 156, 157, 158, 160, 163, 165, 168, 169, 170, 171, 174, 177, 180, 181, 182, 185, 188]
def rzX9_init : List (Nat × Nat) := [(0, 0), (0, 0), (0, 0), (0, 0), (0, 0), (1, 16000), (1, 16000), (1, 16000), (1, 16000), (2, 22400), (2, 22400), (2, 22400), (2, 22400), (3, 28800), (3, 28800), (3, 28800), (3, 28800), (4, 35200), (4, 35200), (4, 35200), (4, 35200), (5, 39296), (5, 39296), (5, 39296), (5, 39296), (6, 51299), (6, 51299), (6, 51299), (6, 51299), (7, 63302), (7, 63302), (7, 63302), (7, 63302), (8, 75305), (8, 75305), (8, 75305), (8, 75305), (8, 75305), (9, 75309), (9, 75309), (10, 77357), (10, 77357), (10, 77357), (10, 77357), (11, 79405), (11, 79405), (12, 81453), (12, 81453), (13, 83501), (13, 83501), (14, 85549), (14, 85549), (15, 87597), (15, 87597), (16, 89645), (16, 89645), (16, 89645), (16, 89645), (18, 91697), (19, 93745), (19, 93745), (20, 93749), (20, 93749), (21, 95797), (21, 95797), (21, 95797), (21, 95797), (22, 97845), (22, 97845), (23, 99893), (23, 99893), (24, 101941), (24, 101941), (24, 101941), (24, 101941), (25, 103989), (25, 103989), (26, 106037), (26, 106037), (26, 106037), (26, 106037), (28, 108089), (29, 110137), (29, 110137), (29, 110137), (29, 110137), (29, 110137), (29, 110137)]
noncomputable def rcX9_init : List rz_B := [rz_aload 0, rz_obj, rz_aload 0, rz_cst 16000, rz_newa 5 16000, rz_putf (Nat.add (Nat.mul 256 11) 1) 3 rz_unR, rz_aload 0, rz_cst 6400, rz_newa 4 6400, rz_putf (Nat.add (Nat.mul 256 11) 1) 4 rz_unR, rz_aload 0, rz_cst 6400, rz_newa 4 6400, rz_putf (Nat.add (Nat.mul 256 11) 1) 5 rz_unR, rz_aload 0, rz_cst 6400, rz_newa 4 6400, rz_putf (Nat.add (Nat.mul 256 11) 1) 6 rz_unR, rz_aload 0, rz_cst 4096, rz_newa 4 4096, rz_putf (Nat.add (Nat.mul 256 11) 1) 7 rz_unR, rz_aload 0, rz_cst 12003, rz_newa 4 12003, rz_putf (Nat.add (Nat.mul 256 11) 1) 11 rz_unR, rz_aload 0, rz_cst 12003, rz_newa 4 12003, rz_putf (Nat.add (Nat.mul 256 11) 1) 12 rz_unR, rz_aload 0, rz_cst 12003, rz_newa 4 12003, rz_putf (Nat.add (Nat.mul 256 11) 1) 13 rz_unR, rz_aload 0, rz_aload 1, rz_putf (Nat.add (Nat.mul 256 11) 1) 0 rz_unR, rz_newo (Nat.add (Nat.mul 256 1) 1), rz_dup, rz_callI 0 rgJ4_init_da8c8, rz_astore 2, rz_aload 2, rz_txt 1000001, rz_callV 1 (Nat.add (Nat.mul 256 1) 1) rgJ4_append_15ec4, rz_cst 32, rz_callV 1 (Nat.add (Nat.mul 256 1) 1) rgJ4_append_cf468, rz_txt 1000002, rz_callV 1 (Nat.add (Nat.mul 256 1) 1) rgJ4_append_15ec4, rz_cst 32, rz_callV 1 (Nat.add (Nat.mul 256 1) 1) rgJ4_append_cf468, rz_txt 1000003, rz_callV 1 (Nat.add (Nat.mul 256 1) 1) rgJ4_append_15ec4, rz_cst 32, rz_callV 1 (Nat.add (Nat.mul 256 1) 1) rgJ4_append_cf468, rz_pop, rz_aload 0, rz_aload 2, rz_callV 0 (Nat.add (Nat.mul 256 1) 1) rgJ4_toString_0e30d, rz_callV 0 (Nat.add (Nat.mul 256 0) 1) rgJ0_toCharArray_70df3, rz_putf (Nat.add (Nat.mul 256 11) 1) 1 rz_unR, rz_newo (Nat.add (Nat.mul 256 1) 1), rz_dup, rz_callI 0 rgJ4_init_da8c8, rz_astore 3, rz_aload 3, rz_txt 1000004, rz_callV 1 (Nat.add (Nat.mul 256 1) 1) rgJ4_append_15ec4, rz_txt 1000005, rz_callV 1 (Nat.add (Nat.mul 256 1) 1) rgJ4_append_15ec4, rz_txt 1000006, rz_callV 1 (Nat.add (Nat.mul 256 1) 1) rgJ4_append_15ec4, rz_pop, rz_aload 3, rz_txt 1000007, rz_callV 1 (Nat.add (Nat.mul 256 1) 1) rgJ4_append_15ec4, rz_txt 1000008, rz_callV 1 (Nat.add (Nat.mul 256 1) 1) rgJ4_append_15ec4, rz_pop, rz_aload 0, rz_aload 3, rz_callV 0 (Nat.add (Nat.mul 256 1) 1) rgJ4_toString_0e30d, rz_callV 0 (Nat.add (Nat.mul 256 0) 1) rgJ0_toCharArray_70df3, rz_putf (Nat.add (Nat.mul 256 11) 1) 2 rz_unR, rz_aload 0, rz_aload 0, rz_getf (Nat.add (Nat.mul 256 11) 1) 2 rz_r, rz_putf (Nat.add (Nat.mul 256 11) 1) 9 rz_unR, rz_vret]
noncomputable def rgX9_init : rz_L → rz_M → rz_Z → Bool := rz_go rcX9_init 4 1000000
def rrX9_init : Room := { frames := 6, cells := 29, slots := 110137, locals := 173 }
theorem rmX9_init (l : Launch) {G : rz_G} (hG : rz_Gd G) (vs : rz_L) (M : rz_M) (Z : rz_Z) (hn : vs.length = 2) (h : rgX9_init vs M Z = true) : Met l yX9_init (Cond.code yX9_init cX9_init 4 none :: rz_TB) rrX9_init (rz_Pre G vs M) (rz_Qv G M.2 Z) 29 110137 (fun q => rz_b G ≤ q) := by
  obtain ⟨D, tc, ad, b, xs, rfl⟩ := id hG
  refine rz_bodyM (pcs := rpX9_init) (cz := rzX9_init) (by decide) rfl rfl (by rw [hn]; decide) h ?_
  intro p e R s m args below meth c hC hmn
  obtain ⟨hx, hb, hml, hr, hlk, ho, hts, hKn, hRm⟩ := id hC
  obtain ⟨hK, hA, hSt⟩ := id hKn
  have hw : ∀ {i j : Nat} {ws : List Cond} {w : Cond}, rz_WW[i]? = some ws → ws[j]? = some w → w.before args s = true := fun h1 h2 => hts _ (List.mem_cons_of_mem _ (rz_mem h1 h2))
  refine rz_All_c (i := 0) (fun k J hk hJ => rz_aload_n_ok (pc := 0) hx hb dX9_init_0 rfl hk) ?_
  refine rz_All_c (i := 1) (fun k J hk hJ => rz_obj_ok (pc := 1) (own := RX9) hx hb hml ho (hw (i := 58) (j := 1) rfl rfl) (hw (i := 55) (j := 1) rfl rfl) (hw (i := 55) (j := 2) rfl rfl) (by rw [hRm]; decide) (by rw [hRm]; decide) dX9_init_1 hk) ?_
  refine rz_All_c (i := 2) (fun k J hk hJ => rz_aload_n_ok (pc := 4) hx hb dX9_init_4 rfl hk) ?_
  refine rz_All_c (i := 3) (fun k J hk hJ => rz_sipush_ok (pc := 5) hx hb dX9_init_5 (by decide) hk) ?_
  refine rz_All_c (i := 4) (fun k J hk hJ => rz_newa_char_ok (pc := 8) (nz0 := (0, 0)) (mx := 16000) hx hb hK hA (hw (i := 55) (j := 3) rfl rfl) (by decide) (by rw [hRm]; decide) dX9_init_8 (rz_wid (by decide) hk)) ?_
  refine rz_All_c (i := 5) (fun k J hk hJ => rz_putfF_ok (pc := 10) (own := RX9) (ref := "ThreadJudge$Reader") (C := RX9) (T := TX9) (N := 19) (ci := 11) (index := 11) (f := 3) (t := 2) (Ts := Cond.code yX9_init cX9_init 4 none :: rz_TB) hx hb hts rz_in11 tyX9 tyX9_ok nmX9 ho hK hA rfl (by decide) rfl (rz_UnR _ (Or.inr ⟨_, rfl⟩)) rfl (hmn.trans rfl) rfl (tyX9_ok 3 (by decide)) (hw (i := 2) (j := 14) rfl rfl) (fun _ z => z) dX9_init_10 hk) ?_
  refine rz_All_c (i := 6) (fun k J hk hJ => rz_aload_n_ok (pc := 13) hx hb dX9_init_13 rfl hk) ?_
  refine rz_All_c (i := 7) (fun k J hk hJ => rz_sipush_ok (pc := 14) hx hb dX9_init_14 (by decide) hk) ?_
  refine rz_All_c (i := 8) (fun k J hk hJ => rz_newa_int_ok (pc := 17) (nz0 := (1, 16000)) (mx := 6400) hx hb hK hA (hw (i := 57) (j := 7) rfl rfl) (by decide) (by rw [hRm]; decide) dX9_init_17 (rz_wid (by decide) hk)) ?_
  refine rz_All_c (i := 9) (fun k J hk hJ => rz_putfF_ok (pc := 19) (own := RX9) (ref := "ThreadJudge$Reader") (C := RX9) (T := TX9) (N := 19) (ci := 11) (index := 15) (f := 4) (t := 2) (Ts := Cond.code yX9_init cX9_init 4 none :: rz_TB) hx hb hts rz_in11 tyX9 tyX9_ok nmX9 ho hK hA rfl (by decide) rfl (rz_UnR _ (Or.inr ⟨_, rfl⟩)) rfl (hmn.trans rfl) rfl (tyX9_ok 4 (by decide)) (hw (i := 2) (j := 12) rfl rfl) (fun _ z => z) dX9_init_19 hk) ?_
  refine rz_All_c (i := 10) (fun k J hk hJ => rz_aload_n_ok (pc := 22) hx hb dX9_init_22 rfl hk) ?_
  refine rz_All_c (i := 11) (fun k J hk hJ => rz_sipush_ok (pc := 23) hx hb dX9_init_23 (by decide) hk) ?_
  refine rz_All_c (i := 12) (fun k J hk hJ => rz_newa_int_ok (pc := 26) (nz0 := (2, 22400)) (mx := 6400) hx hb hK hA (hw (i := 57) (j := 7) rfl rfl) (by decide) (by rw [hRm]; decide) dX9_init_26 (rz_wid (by decide) hk)) ?_
  refine rz_All_c (i := 13) (fun k J hk hJ => rz_putfF_ok (pc := 28) (own := RX9) (ref := "ThreadJudge$Reader") (C := RX9) (T := TX9) (N := 19) (ci := 11) (index := 19) (f := 5) (t := 2) (Ts := Cond.code yX9_init cX9_init 4 none :: rz_TB) hx hb hts rz_in11 tyX9 tyX9_ok nmX9 ho hK hA rfl (by decide) rfl (rz_UnR _ (Or.inr ⟨_, rfl⟩)) rfl (hmn.trans rfl) rfl (tyX9_ok 5 (by decide)) (hw (i := 2) (j := 13) rfl rfl) (fun _ z => z) dX9_init_28 hk) ?_
  refine rz_All_c (i := 14) (fun k J hk hJ => rz_aload_n_ok (pc := 31) hx hb dX9_init_31 rfl hk) ?_
  refine rz_All_c (i := 15) (fun k J hk hJ => rz_sipush_ok (pc := 32) hx hb dX9_init_32 (by decide) hk) ?_
  refine rz_All_c (i := 16) (fun k J hk hJ => rz_newa_int_ok (pc := 35) (nz0 := (3, 28800)) (mx := 6400) hx hb hK hA (hw (i := 57) (j := 7) rfl rfl) (by decide) (by rw [hRm]; decide) dX9_init_35 (rz_wid (by decide) hk)) ?_
  refine rz_All_c (i := 17) (fun k J hk hJ => rz_putfF_ok (pc := 37) (own := RX9) (ref := "ThreadJudge$Reader") (C := RX9) (T := TX9) (N := 19) (ci := 11) (index := 22) (f := 6) (t := 2) (Ts := Cond.code yX9_init cX9_init 4 none :: rz_TB) hx hb hts rz_in11 tyX9 tyX9_ok nmX9 ho hK hA rfl (by decide) rfl (rz_UnR _ (Or.inr ⟨_, rfl⟩)) rfl (hmn.trans rfl) rfl (tyX9_ok 6 (by decide)) (hw (i := 2) (j := 19) rfl rfl) (fun _ z => z) dX9_init_37 hk) ?_
  refine rz_All_c (i := 18) (fun k J hk hJ => rz_aload_n_ok (pc := 40) hx hb dX9_init_40 rfl hk) ?_
  refine rz_All_c (i := 19) (fun k J hk hJ => rz_sipush_ok (pc := 41) hx hb dX9_init_41 (by decide) hk) ?_
  refine rz_All_c (i := 20) (fun k J hk hJ => rz_newa_int_ok (pc := 44) (nz0 := (4, 35200)) (mx := 4096) hx hb hK hA (hw (i := 57) (j := 7) rfl rfl) (by decide) (by rw [hRm]; decide) dX9_init_44 (rz_wid (by decide) hk)) ?_
  refine rz_All_c (i := 21) (fun k J hk hJ => rz_putfF_ok (pc := 46) (own := RX9) (ref := "ThreadJudge$Reader") (C := RX9) (T := TX9) (N := 19) (ci := 11) (index := 25) (f := 7) (t := 2) (Ts := Cond.code yX9_init cX9_init 4 none :: rz_TB) hx hb hts rz_in11 tyX9 tyX9_ok nmX9 ho hK hA rfl (by decide) rfl (rz_UnR _ (Or.inr ⟨_, rfl⟩)) rfl (hmn.trans rfl) rfl (tyX9_ok 7 (by decide)) (hw (i := 2) (j := 2) rfl rfl) (fun _ z => z) dX9_init_46 hk) ?_
  refine rz_All_c (i := 22) (fun k J hk hJ => rz_aload_n_ok (pc := 49) hx hb dX9_init_49 rfl hk) ?_
  refine rz_All_c (i := 23) (fun k J hk hJ => rz_sipush_ok (pc := 50) hx hb dX9_init_50 (by decide) hk) ?_
  refine rz_All_c (i := 24) (fun k J hk hJ => rz_newa_int_ok (pc := 53) (nz0 := (5, 39296)) (mx := 12003) hx hb hK hA (hw (i := 57) (j := 7) rfl rfl) (by decide) (by rw [hRm]; decide) dX9_init_53 (rz_wid (by decide) hk)) ?_
  refine rz_All_c (i := 25) (fun k J hk hJ => rz_putfF_ok (pc := 55) (own := RX9) (ref := "ThreadJudge$Reader") (C := RX9) (T := TX9) (N := 19) (ci := 11) (index := 28) (f := 11) (t := 2) (Ts := Cond.code yX9_init cX9_init 4 none :: rz_TB) hx hb hts rz_in11 tyX9 tyX9_ok nmX9 ho hK hA rfl (by decide) rfl (rz_UnR _ (Or.inr ⟨_, rfl⟩)) rfl (hmn.trans rfl) rfl (tyX9_ok 11 (by decide)) (hw (i := 3) (j := 14) rfl rfl) (fun _ z => z) dX9_init_55 hk) ?_
  refine rz_All_c (i := 26) (fun k J hk hJ => rz_aload_n_ok (pc := 58) hx hb dX9_init_58 rfl hk) ?_
  refine rz_All_c (i := 27) (fun k J hk hJ => rz_sipush_ok (pc := 59) hx hb dX9_init_59 (by decide) hk) ?_
  refine rz_All_c (i := 28) (fun k J hk hJ => rz_newa_int_ok (pc := 62) (nz0 := (6, 51299)) (mx := 12003) hx hb hK hA (hw (i := 57) (j := 7) rfl rfl) (by decide) (by rw [hRm]; decide) dX9_init_62 (rz_wid (by decide) hk)) ?_
  refine rz_All_c (i := 29) (fun k J hk hJ => rz_putfF_ok (pc := 64) (own := RX9) (ref := "ThreadJudge$Reader") (C := RX9) (T := TX9) (N := 19) (ci := 11) (index := 31) (f := 12) (t := 2) (Ts := Cond.code yX9_init cX9_init 4 none :: rz_TB) hx hb hts rz_in11 tyX9 tyX9_ok nmX9 ho hK hA rfl (by decide) rfl (rz_UnR _ (Or.inr ⟨_, rfl⟩)) rfl (hmn.trans rfl) rfl (tyX9_ok 12 (by decide)) (hw (i := 3) (j := 15) rfl rfl) (fun _ z => z) dX9_init_64 hk) ?_
  refine rz_All_c (i := 30) (fun k J hk hJ => rz_aload_n_ok (pc := 67) hx hb dX9_init_67 rfl hk) ?_
  refine rz_All_c (i := 31) (fun k J hk hJ => rz_sipush_ok (pc := 68) hx hb dX9_init_68 (by decide) hk) ?_
  refine rz_All_c (i := 32) (fun k J hk hJ => rz_newa_int_ok (pc := 71) (nz0 := (7, 63302)) (mx := 12003) hx hb hK hA (hw (i := 57) (j := 7) rfl rfl) (by decide) (by rw [hRm]; decide) dX9_init_71 (rz_wid (by decide) hk)) ?_
  refine rz_All_c (i := 33) (fun k J hk hJ => rz_putfF_ok (pc := 73) (own := RX9) (ref := "ThreadJudge$Reader") (C := RX9) (T := TX9) (N := 19) (ci := 11) (index := 34) (f := 13) (t := 2) (Ts := Cond.code yX9_init cX9_init 4 none :: rz_TB) hx hb hts rz_in11 tyX9 tyX9_ok nmX9 ho hK hA rfl (by decide) rfl (rz_UnR _ (Or.inr ⟨_, rfl⟩)) rfl (hmn.trans rfl) rfl (tyX9_ok 13 (by decide)) (hw (i := 5) (j := 2) rfl rfl) (fun _ z => z) dX9_init_73 hk) ?_
  refine rz_All_c (i := 34) (fun k J hk hJ => rz_aload_n_ok (pc := 76) hx hb dX9_init_76 rfl hk) ?_
  refine rz_All_c (i := 35) (fun k J hk hJ => rz_aload_n_ok (pc := 77) hx hb dX9_init_77 rfl hk) ?_
  refine rz_All_c (i := 36) (fun k J hk hJ => rz_putfF_ok (pc := 78) (own := RX9) (ref := "ThreadJudge$Reader") (C := RX9) (T := TX9) (N := 19) (ci := 11) (index := 37) (f := 0) (t := 2) (Ts := Cond.code yX9_init cX9_init 4 none :: rz_TB) hx hb hts rz_in11 tyX9 tyX9_ok nmX9 ho hK hA rfl (by decide) rfl (rz_UnR _ (Or.inl ⟨_, rfl⟩)) rfl (hmn.trans rfl) rfl (tyX9_ok 0 (by decide)) (hw (i := 9) (j := 16) rfl rfl) (fun _ z => z) dX9_init_78 hk) ?_
  refine rz_All_c (i := 37) (fun k J hk hJ => rz_newo_ok (pc := 81) (nz0 := (8, 75305)) (own := RX9) (C := RJ4) (T := TJ4) (N := 4) (ci := 1) (index := 41) (ty := tyJ4) (Ts := Cond.code yX9_init cX9_init 4 none :: rz_TB) hx hb hts rz_in1 tyJ4_ok ho (hw (i := 58) (j := 11) rfl rfl) (hw (i := 58) (j := 12) rfl rfl) (hw (i := 58) (j := 13) rfl rfl) hK hA rfl (by decide) rz_df1 (by rw [hRm]; decide) dX9_init_81 (rz_wid (by decide) hk)) ?_
  refine rz_All_c (i := 38) (fun k J hk hJ => rz_dup_ok (pc := 84) hx hb dX9_init_84 hk) ?_
  refine rz_All_c (i := 39) (fun k J hk hJ => rz_callIv_ok (pc := 85) (nz0 := (9, 75309)) (nz1 := (10, 77357)) (own := RX9) hC rfl (rmJ4_init_da8c8 l hG) (rz_cwI 0 hC rz_good (rz_mem (i := 58) (j := 17) rfl rfl) (rz_mem (i := 58) (j := 18) rfl rfl) (rz_mem (i := 58) (j := 13) rfl rfl) (rz_mem (i := 58) (j := 19) rfl rfl) rfl ⟨by decide, by decide, by decide +kernel⟩ rfl rfl ⟨by decide, by decide⟩) dX9_init_85 hk (by decide) (by rw [hRm]; decide)) ?_
  refine rz_All_c (i := 40) (fun k J hk hJ => rz_astore_n_ok (pc := 88) hx hb dX9_init_88 rfl hk) ?_
  refine rz_All_c (i := 41) (fun k J hk hJ => rz_aload_n_ok (pc := 89) hx hb dX9_init_89 rfl hk) ?_
  refine rz_All_c (i := 42) (fun k J hk hJ => rz_ldcS_ok (pc := 90) (i := 0) hx hb (hSt.2.1 ("ThreadJudge$Reader", 44, "push string null load store inc add sub mul div rem neg and or xor shl shr pop dup under swap goto ifeq ifne iflt ifge ifgt ifle cmpeq cmpne cmplt cmpge cmpgt cmple same other ifnull ifsome get put getstatic putstatic new array element setelement length cast is virtual special call lambda enter exit throw return give", 0) (List.mem_of_getElem? (i := 0) rfl)) ho dX9_init_90 hk) ?_
  refine rz_All_c (i := 43) (fun k J hk hJ => rz_callVr_ok (pc := 92) (nz0 := (10, 77357)) (nz1 := (11, 79405)) (own := RX9) (C := RJ4) (T0 := TJ4) (N0 := 4) (ci := 1) hC rfl (rmJ4_append_15ec4 l hG) (rz_cwV 1 hC rz_good (rz_mem (i := 59) (j := 13) rfl rfl) (rz_mem (i := 59) (j := 14) rfl rfl) (rz_mem (i := 59) (j := 15) rfl rfl) (rz_mem (i := 58) (j := 13) rfl rfl) (rz_mem (i := 59) (j := 16) rfl rfl) ⟨rfl, by decide, by decide, by decide +kernel⟩ rfl rfl ⟨by decide, by decide⟩) rfl dX9_init_92 hk (by decide) (by rw [hRm]; decide)) ?_
  refine rz_All_c (i := 44) (fun k J hk hJ => rz_bipush_ok (pc := 95) hx hb dX9_init_95 (by decide) hk) ?_
  refine rz_All_c (i := 45) (fun k J hk hJ => rz_callVr_ok (pc := 97) (nz0 := (11, 79405)) (nz1 := (12, 81453)) (own := RX9) (C := RJ4) (T0 := TJ4) (N0 := 4) (ci := 1) hC rfl (rmJ4_append_cf468 l hG) (rz_cwV 1 hC rz_good (rz_mem (i := 65) (j := 2) rfl rfl) (rz_mem (i := 65) (j := 3) rfl rfl) (rz_mem (i := 65) (j := 4) rfl rfl) (rz_mem (i := 58) (j := 13) rfl rfl) (rz_mem (i := 65) (j := 5) rfl rfl) ⟨rfl, by decide, by decide, by decide +kernel⟩ rfl rfl ⟨by decide, by decide⟩) rfl dX9_init_97 hk (by decide) (by rw [hRm]; decide)) ?_
  refine rz_All_c (i := 46) (fun k J hk hJ => rz_ldcS_ok (pc := 100) (i := 1) hx hb (hSt.2.1 ("ThreadJudge$Reader", 53, "int void abstract excluded class interface extends implements static volatile final synchronized field method catch", 1) (List.mem_of_getElem? (i := 1) rfl)) ho dX9_init_100 hk) ?_
  refine rz_All_c (i := 47) (fun k J hk hJ => rz_callVr_ok (pc := 102) (nz0 := (12, 81453)) (nz1 := (13, 83501)) (own := RX9) (C := RJ4) (T0 := TJ4) (N0 := 4) (ci := 1) hC rfl (rmJ4_append_15ec4 l hG) (rz_cwV 1 hC rz_good (rz_mem (i := 59) (j := 13) rfl rfl) (rz_mem (i := 59) (j := 14) rfl rfl) (rz_mem (i := 59) (j := 15) rfl rfl) (rz_mem (i := 58) (j := 13) rfl rfl) (rz_mem (i := 59) (j := 16) rfl rfl) ⟨rfl, by decide, by decide, by decide +kernel⟩ rfl rfl ⟨by decide, by decide⟩) rfl dX9_init_102 hk (by decide) (by rw [hRm]; decide)) ?_
  refine rz_All_c (i := 48) (fun k J hk hJ => rz_bipush_ok (pc := 105) hx hb dX9_init_105 (by decide) hk) ?_
  refine rz_All_c (i := 49) (fun k J hk hJ => rz_callVr_ok (pc := 107) (nz0 := (13, 83501)) (nz1 := (14, 85549)) (own := RX9) (C := RJ4) (T0 := TJ4) (N0 := 4) (ci := 1) hC rfl (rmJ4_append_cf468 l hG) (rz_cwV 1 hC rz_good (rz_mem (i := 65) (j := 2) rfl rfl) (rz_mem (i := 65) (j := 3) rfl rfl) (rz_mem (i := 65) (j := 4) rfl rfl) (rz_mem (i := 58) (j := 13) rfl rfl) (rz_mem (i := 65) (j := 5) rfl rfl) ⟨rfl, by decide, by decide, by decide +kernel⟩ rfl rfl ⟨by decide, by decide⟩) rfl dX9_init_107 hk (by decide) (by rw [hRm]; decide)) ?_
  refine rz_All_c (i := 50) (fun k J hk hJ => rz_ldcS_ok (pc := 110) (i := 2) hx hb (hSt.2.1 ("ThreadJudge$Reader", 55, "<init> <clinit> main all reached native racing locking starting callers callees into from", 2) (List.mem_of_getElem? (i := 2) rfl)) ho dX9_init_110 hk) ?_
  refine rz_All_c (i := 51) (fun k J hk hJ => rz_callVr_ok (pc := 112) (nz0 := (14, 85549)) (nz1 := (15, 87597)) (own := RX9) (C := RJ4) (T0 := TJ4) (N0 := 4) (ci := 1) hC rfl (rmJ4_append_15ec4 l hG) (rz_cwV 1 hC rz_good (rz_mem (i := 59) (j := 13) rfl rfl) (rz_mem (i := 59) (j := 14) rfl rfl) (rz_mem (i := 59) (j := 15) rfl rfl) (rz_mem (i := 58) (j := 13) rfl rfl) (rz_mem (i := 59) (j := 16) rfl rfl) ⟨rfl, by decide, by decide, by decide +kernel⟩ rfl rfl ⟨by decide, by decide⟩) rfl dX9_init_112 hk (by decide) (by rw [hRm]; decide)) ?_
  refine rz_All_c (i := 52) (fun k J hk hJ => rz_bipush_ok (pc := 115) hx hb dX9_init_115 (by decide) hk) ?_
  refine rz_All_c (i := 53) (fun k J hk hJ => rz_callVr_ok (pc := 117) (nz0 := (15, 87597)) (nz1 := (16, 89645)) (own := RX9) (C := RJ4) (T0 := TJ4) (N0 := 4) (ci := 1) hC rfl (rmJ4_append_cf468 l hG) (rz_cwV 1 hC rz_good (rz_mem (i := 65) (j := 2) rfl rfl) (rz_mem (i := 65) (j := 3) rfl rfl) (rz_mem (i := 65) (j := 4) rfl rfl) (rz_mem (i := 58) (j := 13) rfl rfl) (rz_mem (i := 65) (j := 5) rfl rfl) ⟨rfl, by decide, by decide, by decide +kernel⟩ rfl rfl ⟨by decide, by decide⟩) rfl dX9_init_117 hk (by decide) (by rw [hRm]; decide)) ?_
  refine rz_All_c (i := 54) (fun k J hk hJ => rz_pop_ok (pc := 120) hx hb dX9_init_120 hk) ?_
  refine rz_All_c (i := 55) (fun k J hk hJ => rz_aload_n_ok (pc := 121) hx hb dX9_init_121 rfl hk) ?_
  refine rz_All_c (i := 56) (fun k J hk hJ => rz_aload_n_ok (pc := 122) hx hb dX9_init_122 rfl hk) ?_
  refine rz_All_c (i := 57) (fun k J hk hJ => rz_callVr_ok (pc := 123) (nz0 := (16, 89645)) (nz1 := (18, 91697)) (own := RX9) (C := RJ4) (T0 := TJ4) (N0 := 4) (ci := 1) hC rfl (rmJ4_toString_0e30d l hG) (rz_cwV 0 hC rz_good (rz_mem (i := 66) (j := 1) rfl rfl) (rz_mem (i := 66) (j := 2) rfl rfl) (rz_mem (i := 66) (j := 3) rfl rfl) (rz_mem (i := 58) (j := 13) rfl rfl) (rz_mem (i := 66) (j := 4) rfl rfl) ⟨rfl, by decide, by decide, by decide +kernel⟩ rfl rfl ⟨by decide, by decide⟩) rfl dX9_init_123 hk (by decide) (by rw [hRm]; decide)) ?_
  refine rz_All_c (i := 58) (fun k J hk hJ => rz_callVr_ok (pc := 126) (nz0 := (18, 91697)) (nz1 := (19, 93745)) (own := RX9) (C := RJ0) (T0 := TJ0) (N0 := 4) (ci := 0) hC rfl (rmJ0_toCharArray_70df3 l hG) (rz_cwV 0 hC rz_good (rz_mem (i := 68) (j := 4) rfl rfl) (rz_mem (i := 68) (j := 5) rfl rfl) (rz_mem (i := 68) (j := 6) rfl rfl) (rz_mem (i := 5) (j := 23) rfl rfl) (rz_mem (i := 68) (j := 7) rfl rfl) ⟨rfl, by decide, by decide, by decide +kernel⟩ rfl rfl ⟨by decide, by decide⟩) rfl dX9_init_126 hk (by decide) (by rw [hRm]; decide)) ?_
  refine rz_All_c (i := 59) (fun k J hk hJ => rz_putfF_ok (pc := 129) (own := RX9) (ref := "ThreadJudge$Reader") (C := RX9) (T := TX9) (N := 19) (ci := 11) (index := 67) (f := 1) (t := 2) (Ts := Cond.code yX9_init cX9_init 4 none :: rz_TB) hx hb hts rz_in11 tyX9 tyX9_ok nmX9 ho hK hA rfl (by decide) rfl (rz_UnR _ (Or.inr ⟨_, rfl⟩)) rfl (hmn.trans rfl) rfl (tyX9_ok 1 (by decide)) (hw (i := 2) (j := 3) rfl rfl) (fun _ z => z) dX9_init_129 hk) ?_
  refine rz_All_c (i := 60) (fun k J hk hJ => rz_newo_ok (pc := 132) (nz0 := (19, 93745)) (own := RX9) (C := RJ4) (T := TJ4) (N := 4) (ci := 1) (index := 41) (ty := tyJ4) (Ts := Cond.code yX9_init cX9_init 4 none :: rz_TB) hx hb hts rz_in1 tyJ4_ok ho (hw (i := 58) (j := 11) rfl rfl) (hw (i := 58) (j := 12) rfl rfl) (hw (i := 58) (j := 13) rfl rfl) hK hA rfl (by decide) rz_df1 (by rw [hRm]; decide) dX9_init_132 (rz_wid (by decide) hk)) ?_
  refine rz_All_c (i := 61) (fun k J hk hJ => rz_dup_ok (pc := 135) hx hb dX9_init_135 hk) ?_
  refine rz_All_c (i := 62) (fun k J hk hJ => rz_callIv_ok (pc := 136) (nz0 := (20, 93749)) (nz1 := (21, 95797)) (own := RX9) hC rfl (rmJ4_init_da8c8 l hG) (rz_cwI 0 hC rz_good (rz_mem (i := 58) (j := 17) rfl rfl) (rz_mem (i := 58) (j := 18) rfl rfl) (rz_mem (i := 58) (j := 13) rfl rfl) (rz_mem (i := 58) (j := 19) rfl rfl) rfl ⟨by decide, by decide, by decide +kernel⟩ rfl rfl ⟨by decide, by decide⟩) dX9_init_136 hk (by decide) (by rw [hRm]; decide)) ?_
  refine rz_All_c (i := 63) (fun k J hk hJ => rz_astore_n_ok (pc := 139) hx hb dX9_init_139 rfl hk) ?_
  refine rz_All_c (i := 64) (fun k J hk hJ => rz_aload_n_ok (pc := 140) hx hb dX9_init_140 rfl hk) ?_
  refine rz_All_c (i := 65) (fun k J hk hJ => rz_ldcS_ok (pc := 141) (i := 3) hx hb (hSt.2.1 ("ThreadJudge$Reader", 70, "class Object { method void <init>() { return; } method void wait(); method void notify(); method void notifyAll(); } interface Runnable { abstract method void run(); } ", 3) (List.mem_of_getElem? (i := 3) rfl)) ho dX9_init_141 hk) ?_
  refine rz_All_c (i := 66) (fun k J hk hJ => rz_callVr_ok (pc := 143) (nz0 := (21, 95797)) (nz1 := (22, 97845)) (own := RX9) (C := RJ4) (T0 := TJ4) (N0 := 4) (ci := 1) hC rfl (rmJ4_append_15ec4 l hG) (rz_cwV 1 hC rz_good (rz_mem (i := 59) (j := 13) rfl rfl) (rz_mem (i := 59) (j := 14) rfl rfl) (rz_mem (i := 59) (j := 15) rfl rfl) (rz_mem (i := 58) (j := 13) rfl rfl) (rz_mem (i := 59) (j := 16) rfl rfl) ⟨rfl, by decide, by decide, by decide +kernel⟩ rfl rfl ⟨by decide, by decide⟩) rfl dX9_init_143 hk (by decide) (by rw [hRm]; decide)) ?_
  refine rz_All_c (i := 67) (fun k J hk hJ => rz_ldcS_ok (pc := 146) (i := 4) hx hb (hSt.2.1 ("ThreadJudge$Reader", 72, "class String { } class Class { static method Class named(String); method Object newInstance(); method Method find(String); } class Method { method Object invoke(Object); } ", 4) (List.mem_of_getElem? (i := 4) rfl)) ho dX9_init_146 hk) ?_
  refine rz_All_c (i := 68) (fun k J hk hJ => rz_callVr_ok (pc := 148) (nz0 := (22, 97845)) (nz1 := (23, 99893)) (own := RX9) (C := RJ4) (T0 := TJ4) (N0 := 4) (ci := 1) hC rfl (rmJ4_append_15ec4 l hG) (rz_cwV 1 hC rz_good (rz_mem (i := 59) (j := 13) rfl rfl) (rz_mem (i := 59) (j := 14) rfl rfl) (rz_mem (i := 59) (j := 15) rfl rfl) (rz_mem (i := 58) (j := 13) rfl rfl) (rz_mem (i := 59) (j := 16) rfl rfl) ⟨rfl, by decide, by decide, by decide +kernel⟩ rfl rfl ⟨by decide, by decide⟩) rfl dX9_init_148 hk (by decide) (by rw [hRm]; decide)) ?_
  refine rz_All_c (i := 69) (fun k J hk hJ => rz_ldcS_ok (pc := 151) (i := 5) hx hb (hSt.2.1 ("ThreadJudge$Reader", 74, "class Throwable { } class NullPointer extends Throwable { } class Arithmetic extends Throwable { } class Index extends Throwable { } class Cast extends Throwable { } class Store extends Throwable { } class Size extends Throwable { } class Monitor extends Throwable { } class State extends Throwable { } class NoClass extends Throwable { } class NoMethod extends Throwable { } ", 5) (List.mem_of_getElem? (i := 5) rfl)) ho dX9_init_151 hk) ?_
  refine rz_All_c (i := 70) (fun k J hk hJ => rz_callVr_ok (pc := 153) (nz0 := (23, 99893)) (nz1 := (24, 101941)) (own := RX9) (C := RJ4) (T0 := TJ4) (N0 := 4) (ci := 1) hC rfl (rmJ4_append_15ec4 l hG) (rz_cwV 1 hC rz_good (rz_mem (i := 59) (j := 13) rfl rfl) (rz_mem (i := 59) (j := 14) rfl rfl) (rz_mem (i := 59) (j := 15) rfl rfl) (rz_mem (i := 58) (j := 13) rfl rfl) (rz_mem (i := 59) (j := 16) rfl rfl) ⟨rfl, by decide, by decide, by decide +kernel⟩ rfl rfl ⟨by decide, by decide⟩) rfl dX9_init_153 hk (by decide) (by rw [hRm]; decide)) ?_
  refine rz_All_c (i := 71) (fun k J hk hJ => rz_pop_ok (pc := 156) hx hb dX9_init_156 hk) ?_
  refine rz_All_c (i := 72) (fun k J hk hJ => rz_aload_n_ok (pc := 157) hx hb dX9_init_157 rfl hk) ?_
  refine rz_All_c (i := 73) (fun k J hk hJ => rz_ldcS_ok (pc := 158) (i := 6) hx hb (hSt.2.1 ("ThreadJudge$Reader", 76, "class Thread implements Runnable { field Runnable target; method void <init>() { return; } method void <init>(Runnable) { load 0; load 1; put Thread.target; return; } method void run() { load 0; get Thread.target; ifnull L; load 0; get Thread.target; virtual void Runnable.run(); L: return; } method void uncaught(Throwable) { return; } method void start(); method void join(); } ", 6) (List.mem_of_getElem? (i := 6) rfl)) ho dX9_init_158 hk) ?_
  refine rz_All_c (i := 74) (fun k J hk hJ => rz_callVr_ok (pc := 160) (nz0 := (24, 101941)) (nz1 := (25, 103989)) (own := RX9) (C := RJ4) (T0 := TJ4) (N0 := 4) (ci := 1) hC rfl (rmJ4_append_15ec4 l hG) (rz_cwV 1 hC rz_good (rz_mem (i := 59) (j := 13) rfl rfl) (rz_mem (i := 59) (j := 14) rfl rfl) (rz_mem (i := 59) (j := 15) rfl rfl) (rz_mem (i := 58) (j := 13) rfl rfl) (rz_mem (i := 59) (j := 16) rfl rfl) ⟨rfl, by decide, by decide, by decide +kernel⟩ rfl rfl ⟨by decide, by decide⟩) rfl dX9_init_160 hk (by decide) (by rw [hRm]; decide)) ?_
  refine rz_All_c (i := 75) (fun k J hk hJ => rz_ldcS_ok (pc := 163) (i := 7) hx hb (hSt.2.1 ("ThreadJudge$Reader", 78, "class Out { static method void print(int); } class Runtime { static method void hook(Thread); } ", 7) (List.mem_of_getElem? (i := 7) rfl)) ho dX9_init_163 hk) ?_
  refine rz_All_c (i := 76) (fun k J hk hJ => rz_callVr_ok (pc := 165) (nz0 := (25, 103989)) (nz1 := (26, 106037)) (own := RX9) (C := RJ4) (T0 := TJ4) (N0 := 4) (ci := 1) hC rfl (rmJ4_append_15ec4 l hG) (rz_cwV 1 hC rz_good (rz_mem (i := 59) (j := 13) rfl rfl) (rz_mem (i := 59) (j := 14) rfl rfl) (rz_mem (i := 59) (j := 15) rfl rfl) (rz_mem (i := 58) (j := 13) rfl rfl) (rz_mem (i := 59) (j := 16) rfl rfl) ⟨rfl, by decide, by decide, by decide +kernel⟩ rfl rfl ⟨by decide, by decide⟩) rfl dX9_init_165 hk (by decide) (by rw [hRm]; decide)) ?_
  refine rz_All_c (i := 77) (fun k J hk hJ => rz_pop_ok (pc := 168) hx hb dX9_init_168 hk) ?_
  refine rz_All_c (i := 78) (fun k J hk hJ => rz_aload_n_ok (pc := 169) hx hb dX9_init_169 rfl hk) ?_
  refine rz_All_c (i := 79) (fun k J hk hJ => rz_aload_n_ok (pc := 170) hx hb dX9_init_170 rfl hk) ?_
  refine rz_All_c (i := 80) (fun k J hk hJ => rz_callVr_ok (pc := 171) (nz0 := (26, 106037)) (nz1 := (28, 108089)) (own := RX9) (C := RJ4) (T0 := TJ4) (N0 := 4) (ci := 1) hC rfl (rmJ4_toString_0e30d l hG) (rz_cwV 0 hC rz_good (rz_mem (i := 66) (j := 1) rfl rfl) (rz_mem (i := 66) (j := 2) rfl rfl) (rz_mem (i := 66) (j := 3) rfl rfl) (rz_mem (i := 58) (j := 13) rfl rfl) (rz_mem (i := 66) (j := 4) rfl rfl) ⟨rfl, by decide, by decide, by decide +kernel⟩ rfl rfl ⟨by decide, by decide⟩) rfl dX9_init_171 hk (by decide) (by rw [hRm]; decide)) ?_
  refine rz_All_c (i := 81) (fun k J hk hJ => rz_callVr_ok (pc := 174) (nz0 := (28, 108089)) (nz1 := (29, 110137)) (own := RX9) (C := RJ0) (T0 := TJ0) (N0 := 4) (ci := 0) hC rfl (rmJ0_toCharArray_70df3 l hG) (rz_cwV 0 hC rz_good (rz_mem (i := 68) (j := 4) rfl rfl) (rz_mem (i := 68) (j := 5) rfl rfl) (rz_mem (i := 68) (j := 6) rfl rfl) (rz_mem (i := 5) (j := 23) rfl rfl) (rz_mem (i := 68) (j := 7) rfl rfl) ⟨rfl, by decide, by decide, by decide +kernel⟩ rfl rfl ⟨by decide, by decide⟩) rfl dX9_init_174 hk (by decide) (by rw [hRm]; decide)) ?_
  refine rz_All_c (i := 82) (fun k J hk hJ => rz_putfF_ok (pc := 177) (own := RX9) (ref := "ThreadJudge$Reader") (C := RX9) (T := TX9) (N := 19) (ci := 11) (index := 80) (f := 2) (t := 2) (Ts := Cond.code yX9_init cX9_init 4 none :: rz_TB) hx hb hts rz_in11 tyX9 tyX9_ok nmX9 ho hK hA rfl (by decide) rfl (rz_UnR _ (Or.inr ⟨_, rfl⟩)) rfl (hmn.trans rfl) rfl (tyX9_ok 2 (by decide)) (hw (i := 10) (j := 18) rfl rfl) (fun _ z => z) dX9_init_177 hk) ?_
  refine rz_All_c (i := 83) (fun k J hk hJ => rz_aload_n_ok (pc := 180) hx hb dX9_init_180 rfl hk) ?_
  refine rz_All_c (i := 84) (fun k J hk hJ => rz_aload_n_ok (pc := 181) hx hb dX9_init_181 rfl hk) ?_
  refine rz_All_c (i := 85) (fun k J hk hJ => rz_getf_ok (pc := 182) (own := RX9) (ref := "ThreadJudge$Reader") (C := RX9) (T := TX9) (N := 19) (ci := 11) (index := 80) (f := 2) (t := 2) (Ts := Cond.code yX9_init cX9_init 4 none :: rz_TB) hx hb hts rz_in11 ho hK rfl (by decide) rfl (fun _ => rfl) (hw (i := 10) (j := 18) rfl rfl) (fun _ z => z) dX9_init_182 hk) ?_
  refine rz_All_c (i := 86) (fun k J hk hJ => rz_putf_ok (pc := 185) (own := RX9) (ref := "ThreadJudge$Reader") (C := RX9) (T := TX9) (N := 19) (ci := 11) (index := 83) (f := 9) (t := 2) (Ts := Cond.code yX9_init cX9_init 4 none :: rz_TB) hx hb hts rz_in11 tyX9 tyX9_ok nmX9 ho hK hA rfl (by decide) rfl (rz_UnR _ (Or.inr ⟨_, rfl⟩)) rfl (tyX9_ok 9 (by decide)) (hw (i := 3) (j := 20) rfl rfl) (fun _ z => z) dX9_init_185 hk) ?_
  refine rz_All_c (i := 87) (fun k J hk hJ => rz_vret_ok (pc := 188) (nz0 := (29, 110137)) hC dX9_init_188 (by decide)) ?_
  exact trivial
theorem dX10_init_0 : decode cX10_init 0 = .ok (.aload_n 0, 1) := by decide +kernel
theorem dX10_init_1 : decode cX10_init 1 = .ok (.invokespecial 3, 3) := by decide +kernel
theorem dX10_init_4 : decode cX10_init 4 = .ok (.aload_n 0, 1) := by decide +kernel
theorem dX10_init_5 : decode cX10_init 5 = .ok (.sipush 480, 3) := by decide +kernel
theorem dX10_init_8 : decode cX10_init 8 = .ok (.newarray .int, 2) := by decide +kernel
theorem dX10_init_10 : decode cX10_init 10 = .ok (.putfield 9, 3) := by decide +kernel
theorem dX10_init_13 : decode cX10_init 13 = .ok (.aload_n 0, 1) := by decide +kernel
theorem dX10_init_14 : decode cX10_init 14 = .ok (.bipush 117, 2) := by decide +kernel
theorem dX10_init_16 : decode cX10_init 16 = .ok (.newarray .int, 2) := by decide +kernel
theorem dX10_init_18 : decode cX10_init 18 = .ok (.putfield 15, 3) := by decide +kernel
theorem dX10_init_21 : decode cX10_init 21 = .ok (.aload_n 0, 1) := by decide +kernel
theorem dX10_init_22 : decode cX10_init 22 = .ok (.bipush 8, 2) := by decide +kernel
theorem dX10_init_24 : decode cX10_init 24 = .ok (.newarray .long, 2) := by decide +kernel
theorem dX10_init_26 : decode cX10_init 26 = .ok (.putfield 18, 3) := by decide +kernel
theorem dX10_init_29 : decode cX10_init 29 = .ok (.aload_n 0, 1) := by decide +kernel
theorem dX10_init_30 : decode cX10_init 30 = .ok (.bipush 8, 2) := by decide +kernel
theorem dX10_init_32 : decode cX10_init 32 = .ok (.newarray .long, 2) := by decide +kernel
theorem dX10_init_34 : decode cX10_init 34 = .ok (.putfield 22, 3) := by decide +kernel
theorem dX10_init_37 : decode cX10_init 37 = .ok (.aload_n 0, 1) := by decide +kernel
theorem dX10_init_38 : decode cX10_init 38 = .ok (.sipush 481, 3) := by decide +kernel
theorem dX10_init_41 : decode cX10_init 41 = .ok (.newarray .int, 2) := by decide +kernel
theorem dX10_init_43 : decode cX10_init 43 = .ok (.putfield 25, 3) := by decide +kernel
theorem dX10_init_46 : decode cX10_init 46 = .ok (.aload_n 0, 1) := by decide +kernel
theorem dX10_init_47 : decode cX10_init 47 = .ok (.sipush 2028, 3) := by decide +kernel
theorem dX10_init_50 : decode cX10_init 50 = .ok (.newarray .long, 2) := by decide +kernel
theorem dX10_init_52 : decode cX10_init 52 = .ok (.putfield 28, 3) := by decide +kernel
theorem dX10_init_55 : decode cX10_init 55 = .ok (.aload_n 0, 1) := by decide +kernel
theorem dX10_init_56 : decode cX10_init 56 = .ok (.sipush 2028, 3) := by decide +kernel
theorem dX10_init_59 : decode cX10_init 59 = .ok (.newarray .long, 2) := by decide +kernel
theorem dX10_init_61 : decode cX10_init 61 = .ok (.putfield 31, 3) := by decide +kernel
theorem dX10_init_64 : decode cX10_init 64 = .ok (.aload_n 0, 1) := by decide +kernel
theorem dX10_init_65 : decode cX10_init 65 = .ok (.sipush 234, 3) := by decide +kernel
theorem dX10_init_68 : decode cX10_init 68 = .ok (.newarray .long, 2) := by decide +kernel
theorem dX10_init_70 : decode cX10_init 70 = .ok (.putfield 34, 3) := by decide +kernel
theorem dX10_init_73 : decode cX10_init 73 = .ok (.aload_n 0, 1) := by decide +kernel
theorem dX10_init_74 : decode cX10_init 74 = .ok (.sipush 1500, 3) := by decide +kernel
theorem dX10_init_77 : decode cX10_init 77 = .ok (.newarray .long, 2) := by decide +kernel
theorem dX10_init_79 : decode cX10_init 79 = .ok (.putfield 37, 3) := by decide +kernel
theorem dX10_init_82 : decode cX10_init 82 = .ok (.aload_n 0, 1) := by decide +kernel
theorem dX10_init_83 : decode cX10_init 83 = .ok (.sipush 2400, 3) := by decide +kernel
theorem dX10_init_86 : decode cX10_init 86 = .ok (.newarray .long, 2) := by decide +kernel
theorem dX10_init_88 : decode cX10_init 88 = .ok (.putfield 40, 3) := by decide +kernel
theorem dX10_init_91 : decode cX10_init 91 = .ok (.aload_n 0, 1) := by decide +kernel
theorem dX10_init_92 : decode cX10_init 92 = .ok (.sipush 900, 3) := by decide +kernel
theorem dX10_init_95 : decode cX10_init 95 = .ok (.newarray .long, 2) := by decide +kernel
theorem dX10_init_97 : decode cX10_init 97 = .ok (.putfield 43, 3) := by decide +kernel
theorem dX10_init_100 : decode cX10_init 100 = .ok (.aload_n 0, 1) := by decide +kernel
theorem dX10_init_101 : decode cX10_init 101 = .ok (.sipush 1443, 3) := by decide +kernel
theorem dX10_init_104 : decode cX10_init 104 = .ok (.newarray .long, 2) := by decide +kernel
theorem dX10_init_106 : decode cX10_init 106 = .ok (.putfield 46, 3) := by decide +kernel
theorem dX10_init_109 : decode cX10_init 109 = .ok (.aload_n 0, 1) := by decide +kernel
theorem dX10_init_110 : decode cX10_init 110 = .ok (.iconst 4, 1) := by decide +kernel
theorem dX10_init_111 : decode cX10_init 111 = .ok (.newarray .long, 2) := by decide +kernel
theorem dX10_init_113 : decode cX10_init 113 = .ok (.putfield 49, 3) := by decide +kernel
theorem dX10_init_116 : decode cX10_init 116 = .ok (.aload_n 0, 1) := by decide +kernel
theorem dX10_init_117 : decode cX10_init 117 = .ok (.sipush 240, 3) := by decide +kernel
theorem dX10_init_120 : decode cX10_init 120 = .ok (.newarray .long, 2) := by decide +kernel
theorem dX10_init_122 : decode cX10_init 122 = .ok (.putfield 52, 3) := by decide +kernel
theorem dX10_init_125 : decode cX10_init 125 = .ok (.aload_n 0, 1) := by decide +kernel
theorem dX10_init_126 : decode cX10_init 126 = .ok (.sipush 3360, 3) := by decide +kernel
theorem dX10_init_129 : decode cX10_init 129 = .ok (.newarray .long, 2) := by decide +kernel
theorem dX10_init_131 : decode cX10_init 131 = .ok (.putfield 55, 3) := by decide +kernel
theorem dX10_init_134 : decode cX10_init 134 = .ok (.aload_n 0, 1) := by decide +kernel
theorem dX10_init_135 : decode cX10_init 135 = .ok (.bipush 8, 2) := by decide +kernel
theorem dX10_init_137 : decode cX10_init 137 = .ok (.newarray .long, 2) := by decide +kernel
theorem dX10_init_139 : decode cX10_init 139 = .ok (.putfield 58, 3) := by decide +kernel
theorem dX10_init_142 : decode cX10_init 142 = .ok (.aload_n 0, 1) := by decide +kernel
theorem dX10_init_143 : decode cX10_init 143 = .ok (.bipush 117, 2) := by decide +kernel
theorem dX10_init_145 : decode cX10_init 145 = .ok (.newarray .int, 2) := by decide +kernel
theorem dX10_init_147 : decode cX10_init 147 = .ok (.putfield 61, 3) := by decide +kernel
theorem dX10_init_150 : decode cX10_init 150 = .ok (.aload_n 0, 1) := by decide +kernel
theorem dX10_init_151 : decode cX10_init 151 = .ok (.aload_n 1, 1) := by decide +kernel
theorem dX10_init_152 : decode cX10_init 152 = .ok (.putfield 64, 3) := by decide +kernel
theorem dX10_init_155 : decode cX10_init 155 = .ok (.aload_n 0, 1) := by decide +kernel
theorem dX10_init_156 : decode cX10_init 156 = .ok (.aload_n 2, 1) := by decide +kernel
theorem dX10_init_157 : decode cX10_init 157 = .ok (.putfield 68, 3) := by decide +kernel
theorem dX10_init_160 : decode cX10_init 160 = .ok (.aload_n 0, 1) := by decide +kernel
theorem dX10_init_161 : decode cX10_init 161 = .ok (.aload_n 3, 1) := by decide +kernel
theorem dX10_init_162 : decode cX10_init 162 = .ok (.putfield 72, 3) := by decide +kernel
theorem dX10_init_165 : decode cX10_init 165 = .ok (.return_, 1) := by decide +kernel
def rpX10_init : List Nat := [0, 1, 4, 5, 8, 10, 13, 14, 16, 18, 21, 22, 24, 26, 29, 30, 32, 34, 37, 38, 41, 43, 46, 47, 50, 52, 55, 56, 59, 61, 64, 65, 68, 70, 73, 74, 77, 79, 82, 83, 86, 88, 91, 92, 95, 97, 100, 101, 104, 106, 109, 110, 111, 113, 116, 117, 120, 122, 125, 126, 129, 131, 134, 135, 137, 139, 142, 143, 145, 147, 150, 151, 152, 155, 156, 157, 160, 161, 162, 165]
def rzX10_init : List (Nat × Nat) := [(0, 0), (0, 0), (0, 0), (0, 0), (0, 0), (1, 480), (1, 480), (1, 480), (1, 480), (2, 597), (2, 597), (2, 597), (2, 597), (3, 605), (3, 605), (3, 605), (3, 605), (4, 613), (4, 613), (4, 613), (4, 613), (5, 1094), (5, 1094), (5, 1094), (5, 1094), (6, 3122), (6, 3122), (6, 3122), (6, 3122), (7, 5150), (7, 5150), (7, 5150), (7, 5150), (8, 5384), (8, 5384), (8, 5384), (8, 5384), (9, 6884), (9, 6884), (9, 6884), (9, 6884), (10, 9284), (10, 9284), (10, 9284), (10, 9284), (11, 10184), (11, 10184), (11, 10184), (11, 10184), (12, 11627), (12, 11627), (12, 11627), (12, 11627), (13, 11631), (13, 11631), (13, 11631), (13, 11631), (14, 11871), (14, 11871), (14, 11871), (14, 11871), (15, 15231), (15, 15231), (15, 15231), (15, 15231), (16, 15239), (16, 15239), (16, 15239), (16, 15239), (17, 15356), (17, 15356), (17, 15356), (17, 15356), (17, 15356), (17, 15356), (17, 15356), (17, 15356), (17, 15356), (17, 15356), (17, 15356)]
noncomputable def rcX10_init : List rz_B := [rz_aload 0, rz_obj, rz_aload 0, rz_cst 480, rz_newa 4 480, rz_putf (Nat.add (Nat.mul 256 12) 1) 3 rz_unR, rz_aload 0, rz_cst 117, rz_newa 4 117, rz_putf (Nat.add (Nat.mul 256 12) 1) 4 rz_unR, rz_aload 0, rz_cst 8, rz_newa 2 8, rz_putf (Nat.add (Nat.mul 256 12) 1) 5 rz_unR, rz_aload 0, rz_cst 8, rz_newa 2 8, rz_putf (Nat.add (Nat.mul 256 12) 1) 6 rz_unR, rz_aload 0, rz_cst 481, rz_newa 4 481, rz_putf (Nat.add (Nat.mul 256 12) 1) 8 rz_unR, rz_aload 0, rz_cst 2028, rz_newa 2 2028, rz_putf (Nat.add (Nat.mul 256 12) 1) 9 rz_unR, rz_aload 0, rz_cst 2028, rz_newa 2 2028, rz_putf (Nat.add (Nat.mul 256 12) 1) 10 rz_unR, rz_aload 0, rz_cst 234, rz_newa 2 234, rz_putf (Nat.add (Nat.mul 256 12) 1) 11 rz_unR, rz_aload 0, rz_cst 1500, rz_newa 2 1500, rz_putf (Nat.add (Nat.mul 256 12) 1) 12 rz_unR, rz_aload 0, rz_cst 2400, rz_newa 2 2400, rz_putf (Nat.add (Nat.mul 256 12) 1) 13 rz_unR, rz_aload 0, rz_cst 900, rz_newa 2 900, rz_putf (Nat.add (Nat.mul 256 12) 1) 14 rz_unR, rz_aload 0, rz_cst 1443, rz_newa 2 1443, rz_putf (Nat.add (Nat.mul 256 12) 1) 15 rz_unR, rz_aload 0, rz_cst 4, rz_newa 2 4, rz_putf (Nat.add (Nat.mul 256 12) 1) 16 rz_unR, rz_aload 0, rz_cst 240, rz_newa 2 240, rz_putf (Nat.add (Nat.mul 256 12) 1) 17 rz_unR, rz_aload 0, rz_cst 3360, rz_newa 2 3360, rz_putf (Nat.add (Nat.mul 256 12) 1) 18 rz_unR, rz_aload 0, rz_cst 8, rz_newa 2 8, rz_putf (Nat.add (Nat.mul 256 12) 1) 19 rz_unR, rz_aload 0, rz_cst 117, rz_newa 4 117, rz_putf (Nat.add (Nat.mul 256 12) 1) 20 rz_unR, rz_aload 0, rz_aload 1, rz_putf (Nat.add (Nat.mul 256 12) 1) 0 rz_unR, rz_aload 0, rz_aload 2, rz_putf (Nat.add (Nat.mul 256 12) 1) 1 rz_unR, rz_aload 0, rz_aload 3, rz_putf (Nat.add (Nat.mul 256 12) 1) 2 rz_unR, rz_vret]
noncomputable def rgX10_init : rz_L → rz_M → rz_Z → Bool := rz_go rcX10_init 4 1000000
def rrX10_init : Room := { frames := 1, cells := 17, slots := 15356, locals := 60 }
theorem rmX10_init (l : Launch) {G : rz_G} (hG : rz_Gd G) (vs : rz_L) (M : rz_M) (Z : rz_Z) (hn : vs.length = 4) (h : rgX10_init vs M Z = true) : Met l yX10_init (Cond.code yX10_init cX10_init 4 none :: rz_TB) rrX10_init (rz_Pre G vs M) (rz_Qv G M.2 Z) 17 15356 (fun q => rz_b G ≤ q) := by
  obtain ⟨D, tc, ad, b, xs, rfl⟩ := id hG
  refine rz_bodyM (pcs := rpX10_init) (cz := rzX10_init) (by decide) rfl rfl (by rw [hn]; decide) h ?_
  intro p e R s m args below meth c hC hmn
  obtain ⟨hx, hb, hml, hr, hlk, ho, hts, hKn, hRm⟩ := id hC
  obtain ⟨hK, hA, hSt⟩ := id hKn
  have hw : ∀ {i j : Nat} {ws : List Cond} {w : Cond}, rz_WW[i]? = some ws → ws[j]? = some w → w.before args s = true := fun h1 h2 => hts _ (List.mem_cons_of_mem _ (rz_mem h1 h2))
  refine rz_All_c (i := 0) (fun k J hk hJ => rz_aload_n_ok (pc := 0) hx hb dX10_init_0 rfl hk) ?_
  refine rz_All_c (i := 1) (fun k J hk hJ => rz_obj_ok (pc := 1) (own := RX10) hx hb hml ho (hw (i := 70) (j := 23) rfl rfl) (hw (i := 55) (j := 1) rfl rfl) (hw (i := 55) (j := 2) rfl rfl) (by rw [hRm]; decide) (by rw [hRm]; decide) dX10_init_1 hk) ?_
  refine rz_All_c (i := 2) (fun k J hk hJ => rz_aload_n_ok (pc := 4) hx hb dX10_init_4 rfl hk) ?_
  refine rz_All_c (i := 3) (fun k J hk hJ => rz_sipush_ok (pc := 5) hx hb dX10_init_5 (by decide) hk) ?_
  refine rz_All_c (i := 4) (fun k J hk hJ => rz_newa_int_ok (pc := 8) (nz0 := (0, 0)) (mx := 480) hx hb hK hA (hw (i := 57) (j := 7) rfl rfl) (by decide) (by rw [hRm]; decide) dX10_init_8 (rz_wid (by decide) hk)) ?_
  refine rz_All_c (i := 5) (fun k J hk hJ => rz_putfF_ok (pc := 10) (own := RX10) (ref := "ThreadJudge$Threads") (C := RX10) (T := TX10) (N := 21) (ci := 12) (index := 9) (f := 3) (t := 2) (Ts := Cond.code yX10_init cX10_init 4 none :: rz_TB) hx hb hts rz_in12 tyX10 tyX10_ok nmX10 ho hK hA rfl (by decide) rfl (rz_UnR _ (Or.inr ⟨_, rfl⟩)) rfl (hmn.trans rfl) rfl (tyX10_ok 3 (by decide)) (hw (i := 71) (j := 0) rfl rfl) (fun _ z => z) dX10_init_10 hk) ?_
  refine rz_All_c (i := 6) (fun k J hk hJ => rz_aload_n_ok (pc := 13) hx hb dX10_init_13 rfl hk) ?_
  refine rz_All_c (i := 7) (fun k J hk hJ => rz_bipush_ok (pc := 14) hx hb dX10_init_14 (by decide) hk) ?_
  refine rz_All_c (i := 8) (fun k J hk hJ => rz_newa_int_ok (pc := 16) (nz0 := (1, 480)) (mx := 117) hx hb hK hA (hw (i := 57) (j := 7) rfl rfl) (by decide) (by rw [hRm]; decide) dX10_init_16 (rz_wid (by decide) hk)) ?_
  refine rz_All_c (i := 9) (fun k J hk hJ => rz_putfF_ok (pc := 18) (own := RX10) (ref := "ThreadJudge$Threads") (C := RX10) (T := TX10) (N := 21) (ci := 12) (index := 15) (f := 4) (t := 2) (Ts := Cond.code yX10_init cX10_init 4 none :: rz_TB) hx hb hts rz_in12 tyX10 tyX10_ok nmX10 ho hK hA rfl (by decide) rfl (rz_UnR _ (Or.inr ⟨_, rfl⟩)) rfl (hmn.trans rfl) rfl (tyX10_ok 4 (by decide)) (hw (i := 71) (j := 1) rfl rfl) (fun _ z => z) dX10_init_18 hk) ?_
  refine rz_All_c (i := 10) (fun k J hk hJ => rz_aload_n_ok (pc := 21) hx hb dX10_init_21 rfl hk) ?_
  refine rz_All_c (i := 11) (fun k J hk hJ => rz_bipush_ok (pc := 22) hx hb dX10_init_22 (by decide) hk) ?_
  refine rz_All_c (i := 12) (fun k J hk hJ => rz_newa_long_ok (pc := 24) (nz0 := (2, 597)) (mx := 8) hx hb hK hA (hw (i := 57) (j := 10) rfl rfl) (by decide) (by rw [hRm]; decide) dX10_init_24 (rz_wid (by decide) hk)) ?_
  refine rz_All_c (i := 13) (fun k J hk hJ => rz_putfF_ok (pc := 26) (own := RX10) (ref := "ThreadJudge$Threads") (C := RX10) (T := TX10) (N := 21) (ci := 12) (index := 18) (f := 5) (t := 2) (Ts := Cond.code yX10_init cX10_init 4 none :: rz_TB) hx hb hts rz_in12 tyX10 tyX10_ok nmX10 ho hK hA rfl (by decide) rfl (rz_UnR _ (Or.inr ⟨_, rfl⟩)) rfl (hmn.trans rfl) rfl (tyX10_ok 5 (by decide)) (hw (i := 71) (j := 2) rfl rfl) (fun _ z => z) dX10_init_26 hk) ?_
  refine rz_All_c (i := 14) (fun k J hk hJ => rz_aload_n_ok (pc := 29) hx hb dX10_init_29 rfl hk) ?_
  refine rz_All_c (i := 15) (fun k J hk hJ => rz_bipush_ok (pc := 30) hx hb dX10_init_30 (by decide) hk) ?_
  refine rz_All_c (i := 16) (fun k J hk hJ => rz_newa_long_ok (pc := 32) (nz0 := (3, 605)) (mx := 8) hx hb hK hA (hw (i := 57) (j := 10) rfl rfl) (by decide) (by rw [hRm]; decide) dX10_init_32 (rz_wid (by decide) hk)) ?_
  refine rz_All_c (i := 17) (fun k J hk hJ => rz_putfF_ok (pc := 34) (own := RX10) (ref := "ThreadJudge$Threads") (C := RX10) (T := TX10) (N := 21) (ci := 12) (index := 22) (f := 6) (t := 2) (Ts := Cond.code yX10_init cX10_init 4 none :: rz_TB) hx hb hts rz_in12 tyX10 tyX10_ok nmX10 ho hK hA rfl (by decide) rfl (rz_UnR _ (Or.inr ⟨_, rfl⟩)) rfl (hmn.trans rfl) rfl (tyX10_ok 6 (by decide)) (hw (i := 71) (j := 3) rfl rfl) (fun _ z => z) dX10_init_34 hk) ?_
  refine rz_All_c (i := 18) (fun k J hk hJ => rz_aload_n_ok (pc := 37) hx hb dX10_init_37 rfl hk) ?_
  refine rz_All_c (i := 19) (fun k J hk hJ => rz_sipush_ok (pc := 38) hx hb dX10_init_38 (by decide) hk) ?_
  refine rz_All_c (i := 20) (fun k J hk hJ => rz_newa_int_ok (pc := 41) (nz0 := (4, 613)) (mx := 481) hx hb hK hA (hw (i := 57) (j := 7) rfl rfl) (by decide) (by rw [hRm]; decide) dX10_init_41 (rz_wid (by decide) hk)) ?_
  refine rz_All_c (i := 21) (fun k J hk hJ => rz_putfF_ok (pc := 43) (own := RX10) (ref := "ThreadJudge$Threads") (C := RX10) (T := TX10) (N := 21) (ci := 12) (index := 25) (f := 8) (t := 2) (Ts := Cond.code yX10_init cX10_init 4 none :: rz_TB) hx hb hts rz_in12 tyX10 tyX10_ok nmX10 ho hK hA rfl (by decide) rfl (rz_UnR _ (Or.inr ⟨_, rfl⟩)) rfl (hmn.trans rfl) rfl (tyX10_ok 8 (by decide)) (hw (i := 71) (j := 4) rfl rfl) (fun _ z => z) dX10_init_43 hk) ?_
  refine rz_All_c (i := 22) (fun k J hk hJ => rz_aload_n_ok (pc := 46) hx hb dX10_init_46 rfl hk) ?_
  refine rz_All_c (i := 23) (fun k J hk hJ => rz_sipush_ok (pc := 47) hx hb dX10_init_47 (by decide) hk) ?_
  refine rz_All_c (i := 24) (fun k J hk hJ => rz_newa_long_ok (pc := 50) (nz0 := (5, 1094)) (mx := 2028) hx hb hK hA (hw (i := 57) (j := 10) rfl rfl) (by decide) (by rw [hRm]; decide) dX10_init_50 (rz_wid (by decide) hk)) ?_
  refine rz_All_c (i := 25) (fun k J hk hJ => rz_putfF_ok (pc := 52) (own := RX10) (ref := "ThreadJudge$Threads") (C := RX10) (T := TX10) (N := 21) (ci := 12) (index := 28) (f := 9) (t := 2) (Ts := Cond.code yX10_init cX10_init 4 none :: rz_TB) hx hb hts rz_in12 tyX10 tyX10_ok nmX10 ho hK hA rfl (by decide) rfl (rz_UnR _ (Or.inr ⟨_, rfl⟩)) rfl (hmn.trans rfl) rfl (tyX10_ok 9 (by decide)) (hw (i := 71) (j := 5) rfl rfl) (fun _ z => z) dX10_init_52 hk) ?_
  refine rz_All_c (i := 26) (fun k J hk hJ => rz_aload_n_ok (pc := 55) hx hb dX10_init_55 rfl hk) ?_
  refine rz_All_c (i := 27) (fun k J hk hJ => rz_sipush_ok (pc := 56) hx hb dX10_init_56 (by decide) hk) ?_
  refine rz_All_c (i := 28) (fun k J hk hJ => rz_newa_long_ok (pc := 59) (nz0 := (6, 3122)) (mx := 2028) hx hb hK hA (hw (i := 57) (j := 10) rfl rfl) (by decide) (by rw [hRm]; decide) dX10_init_59 (rz_wid (by decide) hk)) ?_
  refine rz_All_c (i := 29) (fun k J hk hJ => rz_putfF_ok (pc := 61) (own := RX10) (ref := "ThreadJudge$Threads") (C := RX10) (T := TX10) (N := 21) (ci := 12) (index := 31) (f := 10) (t := 2) (Ts := Cond.code yX10_init cX10_init 4 none :: rz_TB) hx hb hts rz_in12 tyX10 tyX10_ok nmX10 ho hK hA rfl (by decide) rfl (rz_UnR _ (Or.inr ⟨_, rfl⟩)) rfl (hmn.trans rfl) rfl (tyX10_ok 10 (by decide)) (hw (i := 71) (j := 6) rfl rfl) (fun _ z => z) dX10_init_61 hk) ?_
  refine rz_All_c (i := 30) (fun k J hk hJ => rz_aload_n_ok (pc := 64) hx hb dX10_init_64 rfl hk) ?_
  refine rz_All_c (i := 31) (fun k J hk hJ => rz_sipush_ok (pc := 65) hx hb dX10_init_65 (by decide) hk) ?_
  refine rz_All_c (i := 32) (fun k J hk hJ => rz_newa_long_ok (pc := 68) (nz0 := (7, 5150)) (mx := 234) hx hb hK hA (hw (i := 57) (j := 10) rfl rfl) (by decide) (by rw [hRm]; decide) dX10_init_68 (rz_wid (by decide) hk)) ?_
  refine rz_All_c (i := 33) (fun k J hk hJ => rz_putfF_ok (pc := 70) (own := RX10) (ref := "ThreadJudge$Threads") (C := RX10) (T := TX10) (N := 21) (ci := 12) (index := 34) (f := 11) (t := 2) (Ts := Cond.code yX10_init cX10_init 4 none :: rz_TB) hx hb hts rz_in12 tyX10 tyX10_ok nmX10 ho hK hA rfl (by decide) rfl (rz_UnR _ (Or.inr ⟨_, rfl⟩)) rfl (hmn.trans rfl) rfl (tyX10_ok 11 (by decide)) (hw (i := 71) (j := 7) rfl rfl) (fun _ z => z) dX10_init_70 hk) ?_
  refine rz_All_c (i := 34) (fun k J hk hJ => rz_aload_n_ok (pc := 73) hx hb dX10_init_73 rfl hk) ?_
  refine rz_All_c (i := 35) (fun k J hk hJ => rz_sipush_ok (pc := 74) hx hb dX10_init_74 (by decide) hk) ?_
  refine rz_All_c (i := 36) (fun k J hk hJ => rz_newa_long_ok (pc := 77) (nz0 := (8, 5384)) (mx := 1500) hx hb hK hA (hw (i := 57) (j := 10) rfl rfl) (by decide) (by rw [hRm]; decide) dX10_init_77 (rz_wid (by decide) hk)) ?_
  refine rz_All_c (i := 37) (fun k J hk hJ => rz_putfF_ok (pc := 79) (own := RX10) (ref := "ThreadJudge$Threads") (C := RX10) (T := TX10) (N := 21) (ci := 12) (index := 37) (f := 12) (t := 2) (Ts := Cond.code yX10_init cX10_init 4 none :: rz_TB) hx hb hts rz_in12 tyX10 tyX10_ok nmX10 ho hK hA rfl (by decide) rfl (rz_UnR _ (Or.inr ⟨_, rfl⟩)) rfl (hmn.trans rfl) rfl (tyX10_ok 12 (by decide)) (hw (i := 71) (j := 8) rfl rfl) (fun _ z => z) dX10_init_79 hk) ?_
  refine rz_All_c (i := 38) (fun k J hk hJ => rz_aload_n_ok (pc := 82) hx hb dX10_init_82 rfl hk) ?_
  refine rz_All_c (i := 39) (fun k J hk hJ => rz_sipush_ok (pc := 83) hx hb dX10_init_83 (by decide) hk) ?_
  refine rz_All_c (i := 40) (fun k J hk hJ => rz_newa_long_ok (pc := 86) (nz0 := (9, 6884)) (mx := 2400) hx hb hK hA (hw (i := 57) (j := 10) rfl rfl) (by decide) (by rw [hRm]; decide) dX10_init_86 (rz_wid (by decide) hk)) ?_
  refine rz_All_c (i := 41) (fun k J hk hJ => rz_putfF_ok (pc := 88) (own := RX10) (ref := "ThreadJudge$Threads") (C := RX10) (T := TX10) (N := 21) (ci := 12) (index := 40) (f := 13) (t := 2) (Ts := Cond.code yX10_init cX10_init 4 none :: rz_TB) hx hb hts rz_in12 tyX10 tyX10_ok nmX10 ho hK hA rfl (by decide) rfl (rz_UnR _ (Or.inr ⟨_, rfl⟩)) rfl (hmn.trans rfl) rfl (tyX10_ok 13 (by decide)) (hw (i := 71) (j := 9) rfl rfl) (fun _ z => z) dX10_init_88 hk) ?_
  refine rz_All_c (i := 42) (fun k J hk hJ => rz_aload_n_ok (pc := 91) hx hb dX10_init_91 rfl hk) ?_
  refine rz_All_c (i := 43) (fun k J hk hJ => rz_sipush_ok (pc := 92) hx hb dX10_init_92 (by decide) hk) ?_
  refine rz_All_c (i := 44) (fun k J hk hJ => rz_newa_long_ok (pc := 95) (nz0 := (10, 9284)) (mx := 900) hx hb hK hA (hw (i := 57) (j := 10) rfl rfl) (by decide) (by rw [hRm]; decide) dX10_init_95 (rz_wid (by decide) hk)) ?_
  refine rz_All_c (i := 45) (fun k J hk hJ => rz_putfF_ok (pc := 97) (own := RX10) (ref := "ThreadJudge$Threads") (C := RX10) (T := TX10) (N := 21) (ci := 12) (index := 43) (f := 14) (t := 2) (Ts := Cond.code yX10_init cX10_init 4 none :: rz_TB) hx hb hts rz_in12 tyX10 tyX10_ok nmX10 ho hK hA rfl (by decide) rfl (rz_UnR _ (Or.inr ⟨_, rfl⟩)) rfl (hmn.trans rfl) rfl (tyX10_ok 14 (by decide)) (hw (i := 71) (j := 10) rfl rfl) (fun _ z => z) dX10_init_97 hk) ?_
  refine rz_All_c (i := 46) (fun k J hk hJ => rz_aload_n_ok (pc := 100) hx hb dX10_init_100 rfl hk) ?_
  refine rz_All_c (i := 47) (fun k J hk hJ => rz_sipush_ok (pc := 101) hx hb dX10_init_101 (by decide) hk) ?_
  refine rz_All_c (i := 48) (fun k J hk hJ => rz_newa_long_ok (pc := 104) (nz0 := (11, 10184)) (mx := 1443) hx hb hK hA (hw (i := 57) (j := 10) rfl rfl) (by decide) (by rw [hRm]; decide) dX10_init_104 (rz_wid (by decide) hk)) ?_
  refine rz_All_c (i := 49) (fun k J hk hJ => rz_putfF_ok (pc := 106) (own := RX10) (ref := "ThreadJudge$Threads") (C := RX10) (T := TX10) (N := 21) (ci := 12) (index := 46) (f := 15) (t := 2) (Ts := Cond.code yX10_init cX10_init 4 none :: rz_TB) hx hb hts rz_in12 tyX10 tyX10_ok nmX10 ho hK hA rfl (by decide) rfl (rz_UnR _ (Or.inr ⟨_, rfl⟩)) rfl (hmn.trans rfl) rfl (tyX10_ok 15 (by decide)) (hw (i := 71) (j := 11) rfl rfl) (fun _ z => z) dX10_init_106 hk) ?_
  refine rz_All_c (i := 50) (fun k J hk hJ => rz_aload_n_ok (pc := 109) hx hb dX10_init_109 rfl hk) ?_
  refine rz_All_c (i := 51) (fun k J hk hJ => rz_iconst_ok (pc := 110) hx hb dX10_init_110 rfl hk) ?_
  refine rz_All_c (i := 52) (fun k J hk hJ => rz_newa_long_ok (pc := 111) (nz0 := (12, 11627)) (mx := 4) hx hb hK hA (hw (i := 57) (j := 10) rfl rfl) (by decide) (by rw [hRm]; decide) dX10_init_111 (rz_wid (by decide) hk)) ?_
  refine rz_All_c (i := 53) (fun k J hk hJ => rz_putfF_ok (pc := 113) (own := RX10) (ref := "ThreadJudge$Threads") (C := RX10) (T := TX10) (N := 21) (ci := 12) (index := 49) (f := 16) (t := 2) (Ts := Cond.code yX10_init cX10_init 4 none :: rz_TB) hx hb hts rz_in12 tyX10 tyX10_ok nmX10 ho hK hA rfl (by decide) rfl (rz_UnR _ (Or.inr ⟨_, rfl⟩)) rfl (hmn.trans rfl) rfl (tyX10_ok 16 (by decide)) (hw (i := 71) (j := 12) rfl rfl) (fun _ z => z) dX10_init_113 hk) ?_
  refine rz_All_c (i := 54) (fun k J hk hJ => rz_aload_n_ok (pc := 116) hx hb dX10_init_116 rfl hk) ?_
  refine rz_All_c (i := 55) (fun k J hk hJ => rz_sipush_ok (pc := 117) hx hb dX10_init_117 (by decide) hk) ?_
  refine rz_All_c (i := 56) (fun k J hk hJ => rz_newa_long_ok (pc := 120) (nz0 := (13, 11631)) (mx := 240) hx hb hK hA (hw (i := 57) (j := 10) rfl rfl) (by decide) (by rw [hRm]; decide) dX10_init_120 (rz_wid (by decide) hk)) ?_
  refine rz_All_c (i := 57) (fun k J hk hJ => rz_putfF_ok (pc := 122) (own := RX10) (ref := "ThreadJudge$Threads") (C := RX10) (T := TX10) (N := 21) (ci := 12) (index := 52) (f := 17) (t := 2) (Ts := Cond.code yX10_init cX10_init 4 none :: rz_TB) hx hb hts rz_in12 tyX10 tyX10_ok nmX10 ho hK hA rfl (by decide) rfl (rz_UnR _ (Or.inr ⟨_, rfl⟩)) rfl (hmn.trans rfl) rfl (tyX10_ok 17 (by decide)) (hw (i := 71) (j := 13) rfl rfl) (fun _ z => z) dX10_init_122 hk) ?_
  refine rz_All_c (i := 58) (fun k J hk hJ => rz_aload_n_ok (pc := 125) hx hb dX10_init_125 rfl hk) ?_
  refine rz_All_c (i := 59) (fun k J hk hJ => rz_sipush_ok (pc := 126) hx hb dX10_init_126 (by decide) hk) ?_
  refine rz_All_c (i := 60) (fun k J hk hJ => rz_newa_long_ok (pc := 129) (nz0 := (14, 11871)) (mx := 3360) hx hb hK hA (hw (i := 57) (j := 10) rfl rfl) (by decide) (by rw [hRm]; decide) dX10_init_129 (rz_wid (by decide) hk)) ?_
  refine rz_All_c (i := 61) (fun k J hk hJ => rz_putfF_ok (pc := 131) (own := RX10) (ref := "ThreadJudge$Threads") (C := RX10) (T := TX10) (N := 21) (ci := 12) (index := 55) (f := 18) (t := 2) (Ts := Cond.code yX10_init cX10_init 4 none :: rz_TB) hx hb hts rz_in12 tyX10 tyX10_ok nmX10 ho hK hA rfl (by decide) rfl (rz_UnR _ (Or.inr ⟨_, rfl⟩)) rfl (hmn.trans rfl) rfl (tyX10_ok 18 (by decide)) (hw (i := 71) (j := 14) rfl rfl) (fun _ z => z) dX10_init_131 hk) ?_
  refine rz_All_c (i := 62) (fun k J hk hJ => rz_aload_n_ok (pc := 134) hx hb dX10_init_134 rfl hk) ?_
  refine rz_All_c (i := 63) (fun k J hk hJ => rz_bipush_ok (pc := 135) hx hb dX10_init_135 (by decide) hk) ?_
  refine rz_All_c (i := 64) (fun k J hk hJ => rz_newa_long_ok (pc := 137) (nz0 := (15, 15231)) (mx := 8) hx hb hK hA (hw (i := 57) (j := 10) rfl rfl) (by decide) (by rw [hRm]; decide) dX10_init_137 (rz_wid (by decide) hk)) ?_
  refine rz_All_c (i := 65) (fun k J hk hJ => rz_putfF_ok (pc := 139) (own := RX10) (ref := "ThreadJudge$Threads") (C := RX10) (T := TX10) (N := 21) (ci := 12) (index := 58) (f := 19) (t := 2) (Ts := Cond.code yX10_init cX10_init 4 none :: rz_TB) hx hb hts rz_in12 tyX10 tyX10_ok nmX10 ho hK hA rfl (by decide) rfl (rz_UnR _ (Or.inr ⟨_, rfl⟩)) rfl (hmn.trans rfl) rfl (tyX10_ok 19 (by decide)) (hw (i := 71) (j := 15) rfl rfl) (fun _ z => z) dX10_init_139 hk) ?_
  refine rz_All_c (i := 66) (fun k J hk hJ => rz_aload_n_ok (pc := 142) hx hb dX10_init_142 rfl hk) ?_
  refine rz_All_c (i := 67) (fun k J hk hJ => rz_bipush_ok (pc := 143) hx hb dX10_init_143 (by decide) hk) ?_
  refine rz_All_c (i := 68) (fun k J hk hJ => rz_newa_int_ok (pc := 145) (nz0 := (16, 15239)) (mx := 117) hx hb hK hA (hw (i := 57) (j := 7) rfl rfl) (by decide) (by rw [hRm]; decide) dX10_init_145 (rz_wid (by decide) hk)) ?_
  refine rz_All_c (i := 69) (fun k J hk hJ => rz_putfF_ok (pc := 147) (own := RX10) (ref := "ThreadJudge$Threads") (C := RX10) (T := TX10) (N := 21) (ci := 12) (index := 61) (f := 20) (t := 2) (Ts := Cond.code yX10_init cX10_init 4 none :: rz_TB) hx hb hts rz_in12 tyX10 tyX10_ok nmX10 ho hK hA rfl (by decide) rfl (rz_UnR _ (Or.inr ⟨_, rfl⟩)) rfl (hmn.trans rfl) rfl (tyX10_ok 20 (by decide)) (hw (i := 71) (j := 16) rfl rfl) (fun _ z => z) dX10_init_147 hk) ?_
  refine rz_All_c (i := 70) (fun k J hk hJ => rz_aload_n_ok (pc := 150) hx hb dX10_init_150 rfl hk) ?_
  refine rz_All_c (i := 71) (fun k J hk hJ => rz_aload_n_ok (pc := 151) hx hb dX10_init_151 rfl hk) ?_
  refine rz_All_c (i := 72) (fun k J hk hJ => rz_putfF_ok (pc := 152) (own := RX10) (ref := "ThreadJudge$Threads") (C := RX10) (T := TX10) (N := 21) (ci := 12) (index := 64) (f := 0) (t := 2) (Ts := Cond.code yX10_init cX10_init 4 none :: rz_TB) hx hb hts rz_in12 tyX10 tyX10_ok nmX10 ho hK hA rfl (by decide) rfl (rz_UnR _ (Or.inl ⟨_, rfl⟩)) rfl (hmn.trans rfl) rfl (tyX10_ok 0 (by decide)) (hw (i := 71) (j := 17) rfl rfl) (fun _ z => z) dX10_init_152 hk) ?_
  refine rz_All_c (i := 73) (fun k J hk hJ => rz_aload_n_ok (pc := 155) hx hb dX10_init_155 rfl hk) ?_
  refine rz_All_c (i := 74) (fun k J hk hJ => rz_aload_n_ok (pc := 156) hx hb dX10_init_156 rfl hk) ?_
  refine rz_All_c (i := 75) (fun k J hk hJ => rz_putfF_ok (pc := 157) (own := RX10) (ref := "ThreadJudge$Threads") (C := RX10) (T := TX10) (N := 21) (ci := 12) (index := 68) (f := 1) (t := 2) (Ts := Cond.code yX10_init cX10_init 4 none :: rz_TB) hx hb hts rz_in12 tyX10 tyX10_ok nmX10 ho hK hA rfl (by decide) rfl (rz_UnR _ (Or.inl ⟨_, rfl⟩)) rfl (hmn.trans rfl) rfl (tyX10_ok 1 (by decide)) (hw (i := 71) (j := 18) rfl rfl) (fun _ z => z) dX10_init_157 hk) ?_
  refine rz_All_c (i := 76) (fun k J hk hJ => rz_aload_n_ok (pc := 160) hx hb dX10_init_160 rfl hk) ?_
  refine rz_All_c (i := 77) (fun k J hk hJ => rz_aload_n_ok (pc := 161) hx hb dX10_init_161 rfl hk) ?_
  refine rz_All_c (i := 78) (fun k J hk hJ => rz_putfF_ok (pc := 162) (own := RX10) (ref := "ThreadJudge$Threads") (C := RX10) (T := TX10) (N := 21) (ci := 12) (index := 72) (f := 2) (t := 2) (Ts := Cond.code yX10_init cX10_init 4 none :: rz_TB) hx hb hts rz_in12 tyX10 tyX10_ok nmX10 ho hK hA rfl (by decide) rfl (rz_UnR _ (Or.inl ⟨_, rfl⟩)) rfl (hmn.trans rfl) rfl (tyX10_ok 2 (by decide)) (hw (i := 71) (j := 19) rfl rfl) (fun _ z => z) dX10_init_162 hk) ?_
  refine rz_All_c (i := 79) (fun k J hk hJ => rz_vret_ok (pc := 165) (nz0 := (17, 15356)) hC dX10_init_165 (by decide)) ?_
  exact trivial
theorem dX11_init_0 : decode cX11_init 0 = .ok (.aload_n 0, 1) := by decide +kernel
theorem dX11_init_1 : decode cX11_init 1 = .ok (.invokespecial 3, 3) := by decide +kernel
theorem dX11_init_4 : decode cX11_init 4 = .ok (.aload_n 0, 1) := by decide +kernel
theorem dX11_init_5 : decode cX11_init 5 = .ok (.sipush 12000, 3) := by decide +kernel
theorem dX11_init_8 : decode cX11_init 8 = .ok (.newarray .char, 2) := by decide +kernel
theorem dX11_init_10 : decode cX11_init 10 = .ok (.putfield 9, 3) := by decide +kernel
theorem dX11_init_13 : decode cX11_init 13 = .ok (.aload_n 0, 1) := by decide +kernel
theorem dX11_init_14 : decode cX11_init 14 = .ok (.iconst (-1), 1) := by decide +kernel
theorem dX11_init_15 : decode cX11_init 15 = .ok (.putfield 13, 3) := by decide +kernel
theorem dX11_init_18 : decode cX11_init 18 = .ok (.aload_n 0, 1) := by decide +kernel
theorem dX11_init_19 : decode cX11_init 19 = .ok (.new 17, 3) := by decide +kernel
theorem dX11_init_22 : decode cX11_init 22 = .ok (.dup, 1) := by decide +kernel
theorem dX11_init_23 : decode cX11_init 23 = .ok (.invokespecial 19, 3) := by decide +kernel
theorem dX11_init_26 : decode cX11_init 26 = .ok (.putfield 20, 3) := by decide +kernel
theorem dX11_init_29 : decode cX11_init 29 = .ok (.aload_n 0, 1) := by decide +kernel
theorem dX11_init_30 : decode cX11_init 30 = .ok (.new 24, 3) := by decide +kernel
theorem dX11_init_33 : decode cX11_init 33 = .ok (.dup, 1) := by decide +kernel
theorem dX11_init_34 : decode cX11_init 34 = .ok (.aload_n 0, 1) := by decide +kernel
theorem dX11_init_35 : decode cX11_init 35 = .ok (.getfield 20, 3) := by decide +kernel
theorem dX11_init_38 : decode cX11_init 38 = .ok (.invokespecial 26, 3) := by decide +kernel
theorem dX11_init_41 : decode cX11_init 41 = .ok (.putfield 29, 3) := by decide +kernel
theorem dX11_init_44 : decode cX11_init 44 = .ok (.aload_n 0, 1) := by decide +kernel
theorem dX11_init_45 : decode cX11_init 45 = .ok (.new 33, 3) := by decide +kernel
theorem dX11_init_48 : decode cX11_init 48 = .ok (.dup, 1) := by decide +kernel
theorem dX11_init_49 : decode cX11_init 49 = .ok (.aload_n 0, 1) := by decide +kernel
theorem dX11_init_50 : decode cX11_init 50 = .ok (.getfield 20, 3) := by decide +kernel
theorem dX11_init_53 : decode cX11_init 53 = .ok (.aload_n 0, 1) := by decide +kernel
theorem dX11_init_54 : decode cX11_init 54 = .ok (.getfield 29, 3) := by decide +kernel
theorem dX11_init_57 : decode cX11_init 57 = .ok (.invokespecial 35, 3) := by decide +kernel
theorem dX11_init_60 : decode cX11_init 60 = .ok (.putfield 38, 3) := by decide +kernel
theorem dX11_init_63 : decode cX11_init 63 = .ok (.aload_n 0, 1) := by decide +kernel
theorem dX11_init_64 : decode cX11_init 64 = .ok (.new 42, 3) := by decide +kernel
theorem dX11_init_67 : decode cX11_init 67 = .ok (.dup, 1) := by decide +kernel
theorem dX11_init_68 : decode cX11_init 68 = .ok (.aload_n 0, 1) := by decide +kernel
theorem dX11_init_69 : decode cX11_init 69 = .ok (.getfield 20, 3) := by decide +kernel
theorem dX11_init_72 : decode cX11_init 72 = .ok (.invokespecial 44, 3) := by decide +kernel
theorem dX11_init_75 : decode cX11_init 75 = .ok (.putfield 45, 3) := by decide +kernel
theorem dX11_init_78 : decode cX11_init 78 = .ok (.aload_n 0, 1) := by decide +kernel
theorem dX11_init_79 : decode cX11_init 79 = .ok (.new 49, 3) := by decide +kernel
theorem dX11_init_82 : decode cX11_init 82 = .ok (.dup, 1) := by decide +kernel
theorem dX11_init_83 : decode cX11_init 83 = .ok (.aload_n 0, 1) := by decide +kernel
theorem dX11_init_84 : decode cX11_init 84 = .ok (.getfield 20, 3) := by decide +kernel
theorem dX11_init_87 : decode cX11_init 87 = .ok (.invokespecial 51, 3) := by decide +kernel
theorem dX11_init_90 : decode cX11_init 90 = .ok (.putfield 52, 3) := by decide +kernel
theorem dX11_init_93 : decode cX11_init 93 = .ok (.aload_n 0, 1) := by decide +kernel
theorem dX11_init_94 : decode cX11_init 94 = .ok (.new 56, 3) := by decide +kernel
theorem dX11_init_97 : decode cX11_init 97 = .ok (.dup, 1) := by decide +kernel
theorem dX11_init_98 : decode cX11_init 98 = .ok (.aload_n 0, 1) := by decide +kernel
theorem dX11_init_99 : decode cX11_init 99 = .ok (.getfield 20, 3) := by decide +kernel
theorem dX11_init_102 : decode cX11_init 102 = .ok (.aload_n 0, 1) := by decide +kernel
theorem dX11_init_103 : decode cX11_init 103 = .ok (.getfield 45, 3) := by decide +kernel
theorem dX11_init_106 : decode cX11_init 106 = .ok (.aload_n 0, 1) := by decide +kernel
theorem dX11_init_107 : decode cX11_init 107 = .ok (.getfield 52, 3) := by decide +kernel
theorem dX11_init_110 : decode cX11_init 110 = .ok (.invokespecial 58, 3) := by decide +kernel
theorem dX11_init_113 : decode cX11_init 113 = .ok (.putfield 61, 3) := by decide +kernel
theorem dX11_init_116 : decode cX11_init 116 = .ok (.aload_n 0, 1) := by decide +kernel
theorem dX11_init_117 : decode cX11_init 117 = .ok (.new 65, 3) := by decide +kernel
theorem dX11_init_120 : decode cX11_init 120 = .ok (.dup, 1) := by decide +kernel
theorem dX11_init_121 : decode cX11_init 121 = .ok (.aload_n 0, 1) := by decide +kernel
theorem dX11_init_122 : decode cX11_init 122 = .ok (.getfield 20, 3) := by decide +kernel
theorem dX11_init_125 : decode cX11_init 125 = .ok (.aload_n 0, 1) := by decide +kernel
theorem dX11_init_126 : decode cX11_init 126 = .ok (.getfield 45, 3) := by decide +kernel
theorem dX11_init_129 : decode cX11_init 129 = .ok (.aload_n 0, 1) := by decide +kernel
theorem dX11_init_130 : decode cX11_init 130 = .ok (.getfield 52, 3) := by decide +kernel
theorem dX11_init_133 : decode cX11_init 133 = .ok (.aload_n 0, 1) := by decide +kernel
theorem dX11_init_134 : decode cX11_init 134 = .ok (.getfield 61, 3) := by decide +kernel
theorem dX11_init_137 : decode cX11_init 137 = .ok (.invokespecial 67, 3) := by decide +kernel
theorem dX11_init_140 : decode cX11_init 140 = .ok (.putfield 70, 3) := by decide +kernel
theorem dX11_init_143 : decode cX11_init 143 = .ok (.aload_n 0, 1) := by decide +kernel
theorem dX11_init_144 : decode cX11_init 144 = .ok (.new 74, 3) := by decide +kernel
theorem dX11_init_147 : decode cX11_init 147 = .ok (.dup, 1) := by decide +kernel
theorem dX11_init_148 : decode cX11_init 148 = .ok (.aload_n 0, 1) := by decide +kernel
theorem dX11_init_149 : decode cX11_init 149 = .ok (.getfield 20, 3) := by decide +kernel
theorem dX11_init_152 : decode cX11_init 152 = .ok (.aload_n 0, 1) := by decide +kernel
theorem dX11_init_153 : decode cX11_init 153 = .ok (.getfield 29, 3) := by decide +kernel
theorem dX11_init_156 : decode cX11_init 156 = .ok (.aload_n 0, 1) := by decide +kernel
theorem dX11_init_157 : decode cX11_init 157 = .ok (.getfield 61, 3) := by decide +kernel
theorem dX11_init_160 : decode cX11_init 160 = .ok (.aload_n 0, 1) := by decide +kernel
theorem dX11_init_161 : decode cX11_init 161 = .ok (.getfield 70, 3) := by decide +kernel
theorem dX11_init_164 : decode cX11_init 164 = .ok (.invokespecial 76, 3) := by decide +kernel
theorem dX11_init_167 : decode cX11_init 167 = .ok (.putfield 79, 3) := by decide +kernel
theorem dX11_init_170 : decode cX11_init 170 = .ok (.aload_n 0, 1) := by decide +kernel
theorem dX11_init_171 : decode cX11_init 171 = .ok (.new 83, 3) := by decide +kernel
theorem dX11_init_174 : decode cX11_init 174 = .ok (.dup, 1) := by decide +kernel
theorem dX11_init_175 : decode cX11_init 175 = .ok (.aload_n 0, 1) := by decide +kernel
theorem dX11_init_176 : decode cX11_init 176 = .ok (.getfield 20, 3) := by decide +kernel
theorem dX11_init_179 : decode cX11_init 179 = .ok (.invokespecial 85, 3) := by decide +kernel
theorem dX11_init_182 : decode cX11_init 182 = .ok (.putfield 86, 3) := by decide +kernel
theorem dX11_init_185 : decode cX11_init 185 = .ok (.aload_n 0, 1) := by decide +kernel
theorem dX11_init_186 : decode cX11_init 186 = .ok (.new 90, 3) := by decide +kernel
theorem dX11_init_189 : decode cX11_init 189 = .ok (.dup, 1) := by decide +kernel
theorem dX11_init_190 : decode cX11_init 190 = .ok (.aload_n 0, 1) := by decide +kernel
theorem dX11_init_191 : decode cX11_init 191 = .ok (.getfield 70, 3) := by decide +kernel
theorem dX11_init_194 : decode cX11_init 194 = .ok (.aload_n 0, 1) := by decide +kernel
theorem dX11_init_195 : decode cX11_init 195 = .ok (.getfield 52, 3) := by decide +kernel
theorem dX11_init_198 : decode cX11_init 198 = .ok (.invokespecial 92, 3) := by decide +kernel
theorem dX11_init_201 : decode cX11_init 201 = .ok (.putfield 95, 3) := by decide +kernel
theorem dX11_init_204 : decode cX11_init 204 = .ok (.aload_n 0, 1) := by decide +kernel
theorem dX11_init_205 : decode cX11_init 205 = .ok (.new 99, 3) := by decide +kernel
theorem dX11_init_208 : decode cX11_init 208 = .ok (.dup, 1) := by decide +kernel
theorem dX11_init_209 : decode cX11_init 209 = .ok (.aload_n 0, 1) := by decide +kernel
theorem dX11_init_210 : decode cX11_init 210 = .ok (.getfield 20, 3) := by decide +kernel
theorem dX11_init_213 : decode cX11_init 213 = .ok (.aload_n 0, 1) := by decide +kernel
theorem dX11_init_214 : decode cX11_init 214 = .ok (.getfield 52, 3) := by decide +kernel
theorem dX11_init_217 : decode cX11_init 217 = .ok (.aload_n 0, 1) := by decide +kernel
theorem dX11_init_218 : decode cX11_init 218 = .ok (.getfield 70, 3) := by decide +kernel
theorem dX11_init_221 : decode cX11_init 221 = .ok (.aload_n 0, 1) := by decide +kernel
theorem dX11_init_222 : decode cX11_init 222 = .ok (.getfield 86, 3) := by decide +kernel
theorem dX11_init_225 : decode cX11_init 225 = .ok (.aload_n 0, 1) := by decide +kernel
theorem dX11_init_226 : decode cX11_init 226 = .ok (.getfield 95, 3) := by decide +kernel
theorem dX11_init_229 : decode cX11_init 229 = .ok (.invokespecial 101, 3) := by decide +kernel
theorem dX11_init_232 : decode cX11_init 232 = .ok (.putfield 104, 3) := by decide +kernel
theorem dX11_init_235 : decode cX11_init 235 = .ok (.aload_n 0, 1) := by decide +kernel
theorem dX11_init_236 : decode cX11_init 236 = .ok (.getfield 20, 3) := by decide +kernel
theorem dX11_init_239 : decode cX11_init 239 = .ok (.iconst 0, 1) := by decide +kernel
theorem dX11_init_240 : decode cX11_init 240 = .ok (.putfield 108, 3) := by decide +kernel
theorem dX11_init_243 : decode cX11_init 243 = .ok (.return_, 1) := by decide +kernel
def rpX11_init : List Nat := [0, 1, 4, 5, 8, 10, 13, 14, 15, 18, 19, 22, 23, 26, 29, 30, 33, 34, 35, 38, 41, 44, 45, 48, 49, 50, 53, 54, 57, 60, 63, 64, 67, 68, 69, 72, 75, 78, 79, 82, 83, 84, 87, 90, 93, 94, 97, 98, 99, 102, 103, 106, 107, 110, 113, 116, 117, 120, 121, 122, 125, 126, 129, 130, 133, 134, 137, 140, 143, 144, 147, 148, 149, 152, 153, 156, 157, 160, 161, 164, 167, 170, 171, 174, 175, 176, 179, 182, 185, 186, 189, 190, 191, 194, 195, 198, 201, 204, 205, 208, 209, 210, 213, 214, 217, 218, 221, 222, 225, 226, 229, 232, 235, 236, 239, 240, 243]
def rzX11_init : List (Nat × Nat) := [(0, 0), (0, 0), (0, 0), (0, 0), (0, 0), (1, 12000), (1, 12000), (1, 12000), (1, 12000), (1, 12000), (1, 12000), (2, 12022), (2, 12022), (64, 62155), (64, 62155), (64, 62155), (65, 62174), (65, 62174), (65, 62174), (65, 62174), (94, 172311), (94, 172311), (94, 172311), (95, 172315), (95, 172315), (95, 172315), (95, 172315), (95, 172315), (95, 172315), (95, 172315), (95, 172315), (95, 172315), (96, 172327), (96, 172327), (96, 172327), (96, 172327), (103, 217979), (103, 217979), (103, 217979), (104, 218001), (104, 218001), (104, 218001), (104, 218001), (128, 1021469), (128, 1021469), (128, 1021469), (129, 1021490), (129, 1021490), (129, 1021490), (129, 1021490), (129, 1021490), (129, 1021490), (129, 1021490), (129, 1021490), (146, 1036846), (146, 1036846), (146, 1036846), (147, 1036863), (147, 1036863), (147, 1036863), (147, 1036863), (147, 1036863), (147, 1036863), (147, 1036863), (147, 1036863), (147, 1036863), (147, 1036863), (157, 1160063), (157, 1160063), (157, 1160063), (158, 1160081), (158, 1160081), (158, 1160081), (158, 1160081), (158, 1160081), (158, 1160081), (158, 1160081), (158, 1160081), (158, 1160081), (158, 1160081), (166, 1160432), (166, 1160432), (166, 1160432), (167, 1160442), (167, 1160442), (167, 1160442), (167, 1160442), (180, 1180924), (180, 1180924), (180, 1180924), (181, 1180936), (181, 1180936), (181, 1180936), (181, 1180936), (181, 1180936), (181, 1180936), (188, 1589580), (188, 1589580), (188, 1589580), (189, 1589599), (189, 1589599), (189, 1589599), (189, 1589599), (189, 1589599), (189, 1589599), (189, 1589599), (189, 1589599), (189, 1589599), (189, 1589599), (189, 1589599), (189, 1589599), (218, 1603085), (218, 1603085), (218, 1603085), (218, 1603085), (218, 1603085), (218, 1603085)]
noncomputable def rcX11_init : List rz_B := [rz_aload 0, rz_obj, rz_aload 0, rz_cst 12000, rz_newa 5 12000, rz_putf (Nat.add (Nat.mul 256 13) 1) 0 rz_unR, rz_aload 0, rz_cst 4294967295, rz_putf (Nat.add (Nat.mul 256 13) 1) 3 rz_unI, rz_aload 0, rz_newo (Nat.add (Nat.mul 256 9) 1), rz_dup, rz_callI 0 rgX7_init, rz_putf (Nat.add (Nat.mul 256 13) 1) 5 rz_unR, rz_aload 0, rz_newo (Nat.add (Nat.mul 256 11) 1), rz_dup, rz_aload 0, rz_getf (Nat.add (Nat.mul 256 13) 1) 5 rz_r, rz_callI 1 rgX9_init, rz_putf (Nat.add (Nat.mul 256 13) 1) 6 rz_unR, rz_aload 0, rz_newo (Nat.add (Nat.mul 256 6) 1), rz_dup, rz_aload 0, rz_getf (Nat.add (Nat.mul 256 13) 1) 5 rz_r, rz_aload 0, rz_getf (Nat.add (Nat.mul 256 13) 1) 6 rz_r, rz_callI 2 rgX4_init, rz_putf (Nat.add (Nat.mul 256 13) 1) 7 rz_unR, rz_aload 0, rz_newo (Nat.add (Nat.mul 256 2) 1), rz_dup, rz_aload 0, rz_getf (Nat.add (Nat.mul 256 13) 1) 5 rz_r, rz_callI 1 rgX0_init, rz_putf (Nat.add (Nat.mul 256 13) 1) 8 rz_unR, rz_aload 0, rz_newo (Nat.add (Nat.mul 256 4) 1), rz_dup, rz_aload 0, rz_getf (Nat.add (Nat.mul 256 13) 1) 5 rz_r, rz_callI 1 rgX2_init, rz_putf (Nat.add (Nat.mul 256 13) 1) 9 rz_unR, rz_aload 0, rz_newo (Nat.add (Nat.mul 256 12) 1), rz_dup, rz_aload 0, rz_getf (Nat.add (Nat.mul 256 13) 1) 5 rz_r, rz_aload 0, rz_getf (Nat.add (Nat.mul 256 13) 1) 8 rz_r, rz_aload 0, rz_getf (Nat.add (Nat.mul 256 13) 1) 9 rz_r, rz_callI 3 rgX10_init, rz_putf (Nat.add (Nat.mul 256 13) 1) 10 rz_unR, rz_aload 0, rz_newo (Nat.add (Nat.mul 256 8) 1), rz_dup, rz_aload 0, rz_getf (Nat.add (Nat.mul 256 13) 1) 5 rz_r, rz_aload 0, rz_getf (Nat.add (Nat.mul 256 13) 1) 8 rz_r, rz_aload 0, rz_getf (Nat.add (Nat.mul 256 13) 1) 9 rz_r, rz_aload 0, rz_getf (Nat.add (Nat.mul 256 13) 1) 10 rz_r, rz_callI 4 rgX6_init, rz_putf (Nat.add (Nat.mul 256 13) 1) 11 rz_unR, rz_aload 0, rz_newo (Nat.add (Nat.mul 256 10) 1), rz_dup, rz_aload 0, rz_getf (Nat.add (Nat.mul 256 13) 1) 5 rz_r, rz_aload 0, rz_getf (Nat.add (Nat.mul 256 13) 1) 6 rz_r, rz_aload 0, rz_getf (Nat.add (Nat.mul 256 13) 1) 10 rz_r, rz_aload 0, rz_getf (Nat.add (Nat.mul 256 13) 1) 11 rz_r, rz_callI 4 rgX8_init, rz_putf (Nat.add (Nat.mul 256 13) 1) 12 rz_unR, rz_aload 0, rz_newo (Nat.add (Nat.mul 256 5) 1), rz_dup, rz_aload 0, rz_getf (Nat.add (Nat.mul 256 13) 1) 5 rz_r, rz_callI 1 rgX3_init, rz_putf (Nat.add (Nat.mul 256 13) 1) 13 rz_unR, rz_aload 0, rz_newo (Nat.add (Nat.mul 256 3) 1), rz_dup, rz_aload 0, rz_getf (Nat.add (Nat.mul 256 13) 1) 11 rz_r, rz_aload 0, rz_getf (Nat.add (Nat.mul 256 13) 1) 9 rz_r, rz_callI 2 rgX1_init, rz_putf (Nat.add (Nat.mul 256 13) 1) 14 rz_unR, rz_aload 0, rz_newo (Nat.add (Nat.mul 256 7) 1), rz_dup, rz_aload 0, rz_getf (Nat.add (Nat.mul 256 13) 1) 5 rz_r, rz_aload 0, rz_getf (Nat.add (Nat.mul 256 13) 1) 9 rz_r, rz_aload 0, rz_getf (Nat.add (Nat.mul 256 13) 1) 11 rz_r, rz_aload 0, rz_getf (Nat.add (Nat.mul 256 13) 1) 13 rz_r, rz_aload 0, rz_getf (Nat.add (Nat.mul 256 13) 1) 14 rz_r, rz_callI 5 rgX5_init, rz_putf (Nat.add (Nat.mul 256 13) 1) 15 rz_unR, rz_aload 0, rz_getf (Nat.add (Nat.mul 256 13) 1) 5 rz_r, rz_cst 0, rz_putf (Nat.add (Nat.mul 256 9) 1) 0 rz_unZ, rz_vret]
noncomputable def rgX11_init : rz_L → rz_M → rz_Z → Bool := rz_go rcX11_init 1 1000000
def rrX11_init : Room := { frames := 7, cells := 218, slots := 1603085, locals := 196 }
theorem rmX11_init (l : Launch) {G : rz_G} (hG : rz_Gd G) (vs : rz_L) (M : rz_M) (Z : rz_Z) (hn : vs.length = 1) (h : rgX11_init vs M Z = true) : Met l yX11_init (Cond.code yX11_init cX11_init 1 none :: rz_TB) rrX11_init (rz_Pre G vs M) (rz_Qv G M.2 Z) 218 1603085 (fun q => rz_b G ≤ q) := by
  obtain ⟨D, tc, ad, b, xs, rfl⟩ := id hG
  refine rz_bodyM (pcs := rpX11_init) (cz := rzX11_init) (by decide) rfl rfl (by rw [hn]; decide) h ?_
  intro p e R s m args below meth c hC hmn
  obtain ⟨hx, hb, hml, hr, hlk, ho, hts, hKn, hRm⟩ := id hC
  obtain ⟨hK, hA, hSt⟩ := id hKn
  have hw : ∀ {i j : Nat} {ws : List Cond} {w : Cond}, rz_WW[i]? = some ws → ws[j]? = some w → w.before args s = true := fun h1 h2 => hts _ (List.mem_cons_of_mem _ (rz_mem h1 h2))
  refine rz_All_c (i := 0) (fun k J hk hJ => rz_aload_n_ok (pc := 0) hx hb dX11_init_0 rfl hk) ?_
  refine rz_All_c (i := 1) (fun k J hk hJ => rz_obj_ok (pc := 1) (own := RX11) hx hb hml ho (hw (i := 55) (j := 0) rfl rfl) (hw (i := 55) (j := 1) rfl rfl) (hw (i := 55) (j := 2) rfl rfl) (by rw [hRm]; decide) (by rw [hRm]; decide) dX11_init_1 hk) ?_
  refine rz_All_c (i := 2) (fun k J hk hJ => rz_aload_n_ok (pc := 4) hx hb dX11_init_4 rfl hk) ?_
  refine rz_All_c (i := 3) (fun k J hk hJ => rz_sipush_ok (pc := 5) hx hb dX11_init_5 (by decide) hk) ?_
  refine rz_All_c (i := 4) (fun k J hk hJ => rz_newa_char_ok (pc := 8) (nz0 := (0, 0)) (mx := 12000) hx hb hK hA (hw (i := 55) (j := 3) rfl rfl) (by decide) (by rw [hRm]; decide) dX11_init_8 (rz_wid (by decide) hk)) ?_
  refine rz_All_c (i := 5) (fun k J hk hJ => rz_putfF_ok (pc := 10) (own := RX11) (ref := "ThreadJudge") (C := RX11) (T := TX11) (N := 16) (ci := 13) (index := 9) (f := 0) (t := 2) (Ts := Cond.code yX11_init cX11_init 1 none :: rz_TB) hx hb hts rz_in13 tyX11 tyX11_ok nmX11 ho hK hA rfl (by decide) rfl (rz_UnR _ (Or.inr ⟨_, rfl⟩)) rfl (hmn.trans rfl) rfl (tyX11_ok 0 (by decide)) (hw (i := 0) (j := 10) rfl rfl) (fun _ z => z) dX11_init_10 hk) ?_
  refine rz_All_c (i := 6) (fun k J hk hJ => rz_aload_n_ok (pc := 13) hx hb dX11_init_13 rfl hk) ?_
  refine rz_All_c (i := 7) (fun k J hk hJ => rz_iconst_ok (pc := 14) hx hb dX11_init_14 rfl hk) ?_
  refine rz_All_c (i := 8) (fun k J hk hJ => rz_putf_ok (pc := 15) (own := RX11) (ref := "ThreadJudge") (C := RX11) (T := TX11) (N := 16) (ci := 13) (index := 13) (f := 3) (t := 0) (Ts := Cond.code yX11_init cX11_init 1 none :: rz_TB) hx hb hts rz_in13 tyX11 tyX11_ok nmX11 ho hK hA rfl (by decide) rfl (rz_UnI _) rfl (tyX11_ok 3 (by decide)) (hw (i := 0) (j := 7) rfl rfl) (fun _ z => z) dX11_init_15 hk) ?_
  refine rz_All_c (i := 9) (fun k J hk hJ => rz_aload_n_ok (pc := 18) hx hb dX11_init_18 rfl hk) ?_
  refine rz_All_c (i := 10) (fun k J hk hJ => rz_newo_ok (pc := 19) (nz0 := (1, 12000)) (own := RX11) (C := RX7) (T := TX7) (N := 22) (ci := 9) (index := 17) (ty := tyX7) (Ts := Cond.code yX11_init cX11_init 1 none :: rz_TB) hx hb hts rz_in9 tyX7_ok ho (hw (i := 55) (j := 6) rfl rfl) (hw (i := 55) (j := 7) rfl rfl) (hw (i := 1) (j := 0) rfl rfl) hK hA rfl (by decide) rz_df9 (by rw [hRm]; decide) dX11_init_19 (rz_wid (by decide) hk)) ?_
  refine rz_All_c (i := 11) (fun k J hk hJ => rz_dup_ok (pc := 22) hx hb dX11_init_22 hk) ?_
  refine rz_All_c (i := 12) (fun k J hk hJ => rz_callNv_ok (pc := 23) (nz0 := (2, 12022)) (nz1 := (64, 62155)) (own := RX11) hC rfl (rmX7_init l hG) (rz_cwN (host := "ThreadJudge") 0 hC rz_good hSt.2.2.2.2.2.2.1 (rz_mem (i := 57) (j := 3) rfl rfl) (rz_mem (i := 1) (j := 0) rfl rfl) (rz_mem (i := 57) (j := 4) rfl rfl) rfl ⟨by decide, by decide, by decide +kernel⟩ rfl rfl ⟨by decide, by decide⟩) dX11_init_23 hk (by decide) (by rw [hRm]; decide)) ?_
  refine rz_All_c (i := 13) (fun k J hk hJ => rz_putfF_ok (pc := 26) (own := RX11) (ref := "ThreadJudge") (C := RX11) (T := TX11) (N := 16) (ci := 13) (index := 20) (f := 5) (t := 2) (Ts := Cond.code yX11_init cX11_init 1 none :: rz_TB) hx hb hts rz_in13 tyX11 tyX11_ok nmX11 ho hK hA rfl (by decide) rfl (rz_UnR _ (Or.inl ⟨_, rfl⟩)) rfl (hmn.trans rfl) rfl (tyX11_ok 5 (by decide)) (hw (i := 0) (j := 0) rfl rfl) (fun _ z => z) dX11_init_26 hk) ?_
  refine rz_All_c (i := 14) (fun k J hk hJ => rz_aload_n_ok (pc := 29) hx hb dX11_init_29 rfl hk) ?_
  refine rz_All_c (i := 15) (fun k J hk hJ => rz_newo_ok (pc := 30) (nz0 := (64, 62155)) (own := RX11) (C := RX9) (T := TX9) (N := 19) (ci := 11) (index := 24) (ty := tyX9) (Ts := Cond.code yX11_init cX11_init 1 none :: rz_TB) hx hb hts rz_in11 tyX9_ok ho (hw (i := 55) (j := 10) rfl rfl) (hw (i := 55) (j := 11) rfl rfl) (hw (i := 1) (j := 21) rfl rfl) hK hA rfl (by decide) rz_df11 (by rw [hRm]; decide) dX11_init_30 (rz_wid (by decide) hk)) ?_
  refine rz_All_c (i := 16) (fun k J hk hJ => rz_dup_ok (pc := 33) hx hb dX11_init_33 hk) ?_
  refine rz_All_c (i := 17) (fun k J hk hJ => rz_aload_n_ok (pc := 34) hx hb dX11_init_34 rfl hk) ?_
  refine rz_All_c (i := 18) (fun k J hk hJ => rz_getf_ok (pc := 35) (own := RX11) (ref := "ThreadJudge") (C := RX11) (T := TX11) (N := 16) (ci := 13) (index := 20) (f := 5) (t := 2) (Ts := Cond.code yX11_init cX11_init 1 none :: rz_TB) hx hb hts rz_in13 ho hK rfl (by decide) rfl (fun _ => rfl) (hw (i := 0) (j := 0) rfl rfl) (fun _ z => z) dX11_init_35 hk) ?_
  refine rz_All_c (i := 19) (fun k J hk hJ => rz_callIv_ok (pc := 38) (nz0 := (65, 62174)) (nz1 := (94, 172311)) (own := RX11) hC rfl (rmX9_init l hG) (rz_cwI 1 hC rz_good (rz_mem (i := 57) (j := 22) rfl rfl) (rz_mem (i := 57) (j := 23) rfl rfl) (rz_mem (i := 1) (j := 21) rfl rfl) (rz_mem (i := 58) (j := 0) rfl rfl) rfl ⟨by decide, by decide, by decide +kernel⟩ rfl rfl ⟨by decide, by decide⟩) dX11_init_38 hk (by decide) (by rw [hRm]; decide)) ?_
  refine rz_All_c (i := 20) (fun k J hk hJ => rz_putfF_ok (pc := 41) (own := RX11) (ref := "ThreadJudge") (C := RX11) (T := TX11) (N := 16) (ci := 13) (index := 29) (f := 6) (t := 2) (Ts := Cond.code yX11_init cX11_init 1 none :: rz_TB) hx hb hts rz_in13 tyX11 tyX11_ok nmX11 ho hK hA rfl (by decide) rfl (rz_UnR _ (Or.inl ⟨_, rfl⟩)) rfl (hmn.trans rfl) rfl (tyX11_ok 6 (by decide)) (hw (i := 0) (j := 8) rfl rfl) (fun _ z => z) dX11_init_41 hk) ?_
  refine rz_All_c (i := 21) (fun k J hk hJ => rz_aload_n_ok (pc := 44) hx hb dX11_init_44 rfl hk) ?_
  refine rz_All_c (i := 22) (fun k J hk hJ => rz_newo_ok (pc := 45) (nz0 := (94, 172311)) (own := RX11) (C := RX4) (T := TX4) (N := 4) (ci := 6) (index := 33) (ty := tyX4) (Ts := Cond.code yX11_init cX11_init 1 none :: rz_TB) hx hb hts rz_in6 tyX4_ok ho (hw (i := 55) (j := 14) rfl rfl) (hw (i := 55) (j := 15) rfl rfl) (hw (i := 15) (j := 19) rfl rfl) hK hA rfl (by decide) rz_df6 (by rw [hRm]; decide) dX11_init_45 (rz_wid (by decide) hk)) ?_
  refine rz_All_c (i := 23) (fun k J hk hJ => rz_dup_ok (pc := 48) hx hb dX11_init_48 hk) ?_
  refine rz_All_c (i := 24) (fun k J hk hJ => rz_aload_n_ok (pc := 49) hx hb dX11_init_49 rfl hk) ?_
  refine rz_All_c (i := 25) (fun k J hk hJ => rz_getf_ok (pc := 50) (own := RX11) (ref := "ThreadJudge") (C := RX11) (T := TX11) (N := 16) (ci := 13) (index := 20) (f := 5) (t := 2) (Ts := Cond.code yX11_init cX11_init 1 none :: rz_TB) hx hb hts rz_in13 ho hK rfl (by decide) rfl (fun _ => rfl) (hw (i := 0) (j := 0) rfl rfl) (fun _ z => z) dX11_init_50 hk) ?_
  refine rz_All_c (i := 26) (fun k J hk hJ => rz_aload_n_ok (pc := 53) hx hb dX11_init_53 rfl hk) ?_
  refine rz_All_c (i := 27) (fun k J hk hJ => rz_getf_ok (pc := 54) (own := RX11) (ref := "ThreadJudge") (C := RX11) (T := TX11) (N := 16) (ci := 13) (index := 29) (f := 6) (t := 2) (Ts := Cond.code yX11_init cX11_init 1 none :: rz_TB) hx hb hts rz_in13 ho hK rfl (by decide) rfl (fun _ => rfl) (hw (i := 0) (j := 8) rfl rfl) (fun _ z => z) dX11_init_54 hk) ?_
  refine rz_All_c (i := 28) (fun k J hk hJ => rz_callIv_ok (pc := 57) (nz0 := (95, 172315)) (nz1 := (95, 172315)) (own := RX11) hC rfl (rmX4_init l hG) (rz_cwI 2 hC rz_good (rz_mem (i := 69) (j := 0) rfl rfl) (rz_mem (i := 69) (j := 1) rfl rfl) (rz_mem (i := 15) (j := 19) rfl rfl) (rz_mem (i := 69) (j := 2) rfl rfl) rfl ⟨by decide, by decide, by decide +kernel⟩ rfl rfl ⟨by decide, by decide⟩) dX11_init_57 hk (by decide) (by rw [hRm]; decide)) ?_
  refine rz_All_c (i := 29) (fun k J hk hJ => rz_putfF_ok (pc := 60) (own := RX11) (ref := "ThreadJudge") (C := RX11) (T := TX11) (N := 16) (ci := 13) (index := 38) (f := 7) (t := 2) (Ts := Cond.code yX11_init cX11_init 1 none :: rz_TB) hx hb hts rz_in13 tyX11 tyX11_ok nmX11 ho hK hA rfl (by decide) rfl (rz_UnR _ (Or.inl ⟨_, rfl⟩)) rfl (hmn.trans rfl) rfl (tyX11_ok 7 (by decide)) (hw (i := 0) (j := 14) rfl rfl) (fun _ z => z) dX11_init_60 hk) ?_
  refine rz_All_c (i := 30) (fun k J hk hJ => rz_aload_n_ok (pc := 63) hx hb dX11_init_63 rfl hk) ?_
  refine rz_All_c (i := 31) (fun k J hk hJ => rz_newo_ok (pc := 64) (nz0 := (95, 172315)) (own := RX11) (C := RX0) (T := TX0) (N := 12) (ci := 2) (index := 42) (ty := tyX0) (Ts := Cond.code yX11_init cX11_init 1 none :: rz_TB) hx hb hts rz_in2 tyX0_ok ho (hw (i := 55) (j := 18) rfl rfl) (hw (i := 55) (j := 19) rfl rfl) (hw (i := 24) (j := 16) rfl rfl) hK hA rfl (by decide) rz_df2 (by rw [hRm]; decide) dX11_init_64 (rz_wid (by decide) hk)) ?_
  refine rz_All_c (i := 32) (fun k J hk hJ => rz_dup_ok (pc := 67) hx hb dX11_init_67 hk) ?_
  refine rz_All_c (i := 33) (fun k J hk hJ => rz_aload_n_ok (pc := 68) hx hb dX11_init_68 rfl hk) ?_
  refine rz_All_c (i := 34) (fun k J hk hJ => rz_getf_ok (pc := 69) (own := RX11) (ref := "ThreadJudge") (C := RX11) (T := TX11) (N := 16) (ci := 13) (index := 20) (f := 5) (t := 2) (Ts := Cond.code yX11_init cX11_init 1 none :: rz_TB) hx hb hts rz_in13 ho hK rfl (by decide) rfl (fun _ => rfl) (hw (i := 0) (j := 0) rfl rfl) (fun _ z => z) dX11_init_69 hk) ?_
  refine rz_All_c (i := 35) (fun k J hk hJ => rz_callIv_ok (pc := 72) (nz0 := (96, 172327)) (nz1 := (103, 217979)) (own := RX11) hC rfl (rmX0_init l hG) (rz_cwI 1 hC rz_good (rz_mem (i := 69) (j := 6) rfl rfl) (rz_mem (i := 69) (j := 7) rfl rfl) (rz_mem (i := 24) (j := 16) rfl rfl) (rz_mem (i := 69) (j := 8) rfl rfl) rfl ⟨by decide, by decide, by decide +kernel⟩ rfl rfl ⟨by decide, by decide⟩) dX11_init_72 hk (by decide) (by rw [hRm]; decide)) ?_
  refine rz_All_c (i := 36) (fun k J hk hJ => rz_putfF_ok (pc := 75) (own := RX11) (ref := "ThreadJudge") (C := RX11) (T := TX11) (N := 16) (ci := 13) (index := 45) (f := 8) (t := 2) (Ts := Cond.code yX11_init cX11_init 1 none :: rz_TB) hx hb hts rz_in13 tyX11 tyX11_ok nmX11 ho hK hA rfl (by decide) rfl (rz_UnR _ (Or.inl ⟨_, rfl⟩)) rfl (hmn.trans rfl) rfl (tyX11_ok 8 (by decide)) (hw (i := 0) (j := 17) rfl rfl) (fun _ z => z) dX11_init_75 hk) ?_
  refine rz_All_c (i := 37) (fun k J hk hJ => rz_aload_n_ok (pc := 78) hx hb dX11_init_78 rfl hk) ?_
  refine rz_All_c (i := 38) (fun k J hk hJ => rz_newo_ok (pc := 79) (nz0 := (103, 217979)) (own := RX11) (C := RX2) (T := TX2) (N := 22) (ci := 4) (index := 49) (ty := tyX2) (Ts := Cond.code yX11_init cX11_init 1 none :: rz_TB) hx hb hts rz_in4 tyX2_ok ho (hw (i := 55) (j := 22) rfl rfl) (hw (i := 55) (j := 23) rfl rfl) (hw (i := 56) (j := 0) rfl rfl) hK hA rfl (by decide) rz_df4 (by rw [hRm]; decide) dX11_init_79 (rz_wid (by decide) hk)) ?_
  refine rz_All_c (i := 39) (fun k J hk hJ => rz_dup_ok (pc := 82) hx hb dX11_init_82 hk) ?_
  refine rz_All_c (i := 40) (fun k J hk hJ => rz_aload_n_ok (pc := 83) hx hb dX11_init_83 rfl hk) ?_
  refine rz_All_c (i := 41) (fun k J hk hJ => rz_getf_ok (pc := 84) (own := RX11) (ref := "ThreadJudge") (C := RX11) (T := TX11) (N := 16) (ci := 13) (index := 20) (f := 5) (t := 2) (Ts := Cond.code yX11_init cX11_init 1 none :: rz_TB) hx hb hts rz_in13 ho hK rfl (by decide) rfl (fun _ => rfl) (hw (i := 0) (j := 0) rfl rfl) (fun _ z => z) dX11_init_84 hk) ?_
  refine rz_All_c (i := 42) (fun k J hk hJ => rz_callIv_ok (pc := 87) (nz0 := (104, 218001)) (nz1 := (128, 1021469)) (own := RX11) hC rfl (rmX2_init l hG) (rz_cwI 1 hC rz_good (rz_mem (i := 69) (j := 19) rfl rfl) (rz_mem (i := 69) (j := 20) rfl rfl) (rz_mem (i := 56) (j := 0) rfl rfl) (rz_mem (i := 69) (j := 21) rfl rfl) rfl ⟨by decide, by decide, by decide +kernel⟩ rfl rfl ⟨by decide, by decide⟩) dX11_init_87 hk (by decide) (by rw [hRm]; decide)) ?_
  refine rz_All_c (i := 43) (fun k J hk hJ => rz_putfF_ok (pc := 90) (own := RX11) (ref := "ThreadJudge") (C := RX11) (T := TX11) (N := 16) (ci := 13) (index := 52) (f := 9) (t := 2) (Ts := Cond.code yX11_init cX11_init 1 none :: rz_TB) hx hb hts rz_in13 tyX11 tyX11_ok nmX11 ho hK hA rfl (by decide) rfl (rz_UnR _ (Or.inl ⟨_, rfl⟩)) rfl (hmn.trans rfl) rfl (tyX11_ok 9 (by decide)) (hw (i := 0) (j := 1) rfl rfl) (fun _ z => z) dX11_init_90 hk) ?_
  refine rz_All_c (i := 44) (fun k J hk hJ => rz_aload_n_ok (pc := 93) hx hb dX11_init_93 rfl hk) ?_
  refine rz_All_c (i := 45) (fun k J hk hJ => rz_newo_ok (pc := 94) (nz0 := (128, 1021469)) (own := RX11) (C := RX10) (T := TX10) (N := 21) (ci := 12) (index := 56) (ty := tyX10) (Ts := Cond.code yX11_init cX11_init 1 none :: rz_TB) hx hb hts rz_in12 tyX10_ok ho (hw (i := 56) (j := 2) rfl rfl) (hw (i := 56) (j := 3) rfl rfl) (hw (i := 56) (j := 4) rfl rfl) hK hA rfl (by decide) rz_df12 (by rw [hRm]; decide) dX11_init_94 (rz_wid (by decide) hk)) ?_
  refine rz_All_c (i := 46) (fun k J hk hJ => rz_dup_ok (pc := 97) hx hb dX11_init_97 hk) ?_
  refine rz_All_c (i := 47) (fun k J hk hJ => rz_aload_n_ok (pc := 98) hx hb dX11_init_98 rfl hk) ?_
  refine rz_All_c (i := 48) (fun k J hk hJ => rz_getf_ok (pc := 99) (own := RX11) (ref := "ThreadJudge") (C := RX11) (T := TX11) (N := 16) (ci := 13) (index := 20) (f := 5) (t := 2) (Ts := Cond.code yX11_init cX11_init 1 none :: rz_TB) hx hb hts rz_in13 ho hK rfl (by decide) rfl (fun _ => rfl) (hw (i := 0) (j := 0) rfl rfl) (fun _ z => z) dX11_init_99 hk) ?_
  refine rz_All_c (i := 49) (fun k J hk hJ => rz_aload_n_ok (pc := 102) hx hb dX11_init_102 rfl hk) ?_
  refine rz_All_c (i := 50) (fun k J hk hJ => rz_getf_ok (pc := 103) (own := RX11) (ref := "ThreadJudge") (C := RX11) (T := TX11) (N := 16) (ci := 13) (index := 45) (f := 8) (t := 2) (Ts := Cond.code yX11_init cX11_init 1 none :: rz_TB) hx hb hts rz_in13 ho hK rfl (by decide) rfl (fun _ => rfl) (hw (i := 0) (j := 17) rfl rfl) (fun _ z => z) dX11_init_103 hk) ?_
  refine rz_All_c (i := 51) (fun k J hk hJ => rz_aload_n_ok (pc := 106) hx hb dX11_init_106 rfl hk) ?_
  refine rz_All_c (i := 52) (fun k J hk hJ => rz_getf_ok (pc := 107) (own := RX11) (ref := "ThreadJudge") (C := RX11) (T := TX11) (N := 16) (ci := 13) (index := 52) (f := 9) (t := 2) (Ts := Cond.code yX11_init cX11_init 1 none :: rz_TB) hx hb hts rz_in13 ho hK rfl (by decide) rfl (fun _ => rfl) (hw (i := 0) (j := 1) rfl rfl) (fun _ z => z) dX11_init_107 hk) ?_
  refine rz_All_c (i := 53) (fun k J hk hJ => rz_callIv_ok (pc := 110) (nz0 := (129, 1021490)) (nz1 := (146, 1036846)) (own := RX11) hC rfl (rmX10_init l hG) (rz_cwI 3 hC rz_good (rz_mem (i := 70) (j := 20) rfl rfl) (rz_mem (i := 70) (j := 21) rfl rfl) (rz_mem (i := 56) (j := 4) rfl rfl) (rz_mem (i := 70) (j := 22) rfl rfl) rfl ⟨by decide, by decide, by decide +kernel⟩ rfl rfl ⟨by decide, by decide⟩) dX11_init_110 hk (by decide) (by rw [hRm]; decide)) ?_
  refine rz_All_c (i := 54) (fun k J hk hJ => rz_putfF_ok (pc := 113) (own := RX11) (ref := "ThreadJudge") (C := RX11) (T := TX11) (N := 16) (ci := 13) (index := 61) (f := 10) (t := 2) (Ts := Cond.code yX11_init cX11_init 1 none :: rz_TB) hx hb hts rz_in13 tyX11 tyX11_ok nmX11 ho hK hA rfl (by decide) rfl (rz_UnR _ (Or.inl ⟨_, rfl⟩)) rfl (hmn.trans rfl) rfl (tyX11_ok 10 (by decide)) (hw (i := 56) (j := 5) rfl rfl) (fun _ z => z) dX11_init_113 hk) ?_
  refine rz_All_c (i := 55) (fun k J hk hJ => rz_aload_n_ok (pc := 116) hx hb dX11_init_116 rfl hk) ?_
  refine rz_All_c (i := 56) (fun k J hk hJ => rz_newo_ok (pc := 117) (nz0 := (146, 1036846)) (own := RX11) (C := RX6) (T := TX6) (N := 17) (ci := 8) (index := 65) (ty := tyX6) (Ts := Cond.code yX11_init cX11_init 1 none :: rz_TB) hx hb hts rz_in8 tyX6_ok ho (hw (i := 56) (j := 6) rfl rfl) (hw (i := 56) (j := 7) rfl rfl) (hw (i := 56) (j := 8) rfl rfl) hK hA rfl (by decide) rz_df8 (by rw [hRm]; decide) dX11_init_117 (rz_wid (by decide) hk)) ?_
  refine rz_All_c (i := 57) (fun k J hk hJ => rz_dup_ok (pc := 120) hx hb dX11_init_120 hk) ?_
  refine rz_All_c (i := 58) (fun k J hk hJ => rz_aload_n_ok (pc := 121) hx hb dX11_init_121 rfl hk) ?_
  refine rz_All_c (i := 59) (fun k J hk hJ => rz_getf_ok (pc := 122) (own := RX11) (ref := "ThreadJudge") (C := RX11) (T := TX11) (N := 16) (ci := 13) (index := 20) (f := 5) (t := 2) (Ts := Cond.code yX11_init cX11_init 1 none :: rz_TB) hx hb hts rz_in13 ho hK rfl (by decide) rfl (fun _ => rfl) (hw (i := 0) (j := 0) rfl rfl) (fun _ z => z) dX11_init_122 hk) ?_
  refine rz_All_c (i := 60) (fun k J hk hJ => rz_aload_n_ok (pc := 125) hx hb dX11_init_125 rfl hk) ?_
  refine rz_All_c (i := 61) (fun k J hk hJ => rz_getf_ok (pc := 126) (own := RX11) (ref := "ThreadJudge") (C := RX11) (T := TX11) (N := 16) (ci := 13) (index := 45) (f := 8) (t := 2) (Ts := Cond.code yX11_init cX11_init 1 none :: rz_TB) hx hb hts rz_in13 ho hK rfl (by decide) rfl (fun _ => rfl) (hw (i := 0) (j := 17) rfl rfl) (fun _ z => z) dX11_init_126 hk) ?_
  refine rz_All_c (i := 62) (fun k J hk hJ => rz_aload_n_ok (pc := 129) hx hb dX11_init_129 rfl hk) ?_
  refine rz_All_c (i := 63) (fun k J hk hJ => rz_getf_ok (pc := 130) (own := RX11) (ref := "ThreadJudge") (C := RX11) (T := TX11) (N := 16) (ci := 13) (index := 52) (f := 9) (t := 2) (Ts := Cond.code yX11_init cX11_init 1 none :: rz_TB) hx hb hts rz_in13 ho hK rfl (by decide) rfl (fun _ => rfl) (hw (i := 0) (j := 1) rfl rfl) (fun _ z => z) dX11_init_130 hk) ?_
  refine rz_All_c (i := 64) (fun k J hk hJ => rz_aload_n_ok (pc := 133) hx hb dX11_init_133 rfl hk) ?_
  refine rz_All_c (i := 65) (fun k J hk hJ => rz_getf_ok (pc := 134) (own := RX11) (ref := "ThreadJudge") (C := RX11) (T := TX11) (N := 16) (ci := 13) (index := 61) (f := 10) (t := 2) (Ts := Cond.code yX11_init cX11_init 1 none :: rz_TB) hx hb hts rz_in13 ho hK rfl (by decide) rfl (fun _ => rfl) (hw (i := 56) (j := 5) rfl rfl) (fun _ z => z) dX11_init_134 hk) ?_
  refine rz_All_c (i := 66) (fun k J hk hJ => rz_callIv_ok (pc := 137) (nz0 := (147, 1036863)) (nz1 := (157, 1160063)) (own := RX11) hC rfl (rmX6_init l hG) (rz_cwI 4 hC rz_good (rz_mem (i := 71) (j := 20) rfl rfl) (rz_mem (i := 71) (j := 21) rfl rfl) (rz_mem (i := 56) (j := 8) rfl rfl) (rz_mem (i := 71) (j := 22) rfl rfl) rfl ⟨by decide, by decide, by decide +kernel⟩ rfl rfl ⟨by decide, by decide⟩) dX11_init_137 hk (by decide) (by rw [hRm]; decide)) ?_
  refine rz_All_c (i := 67) (fun k J hk hJ => rz_putfF_ok (pc := 140) (own := RX11) (ref := "ThreadJudge") (C := RX11) (T := TX11) (N := 16) (ci := 13) (index := 70) (f := 11) (t := 2) (Ts := Cond.code yX11_init cX11_init 1 none :: rz_TB) hx hb hts rz_in13 tyX11 tyX11_ok nmX11 ho hK hA rfl (by decide) rfl (rz_UnR _ (Or.inl ⟨_, rfl⟩)) rfl (hmn.trans rfl) rfl (tyX11_ok 11 (by decide)) (hw (i := 56) (j := 9) rfl rfl) (fun _ z => z) dX11_init_140 hk) ?_
  refine rz_All_c (i := 68) (fun k J hk hJ => rz_aload_n_ok (pc := 143) hx hb dX11_init_143 rfl hk) ?_
  refine rz_All_c (i := 69) (fun k J hk hJ => rz_newo_ok (pc := 144) (nz0 := (157, 1160063)) (own := RX11) (C := RX8) (T := TX8) (N := 18) (ci := 10) (index := 74) (ty := tyX8) (Ts := Cond.code yX11_init cX11_init 1 none :: rz_TB) hx hb hts rz_in10 tyX8_ok ho (hw (i := 56) (j := 10) rfl rfl) (hw (i := 56) (j := 11) rfl rfl) (hw (i := 1) (j := 14) rfl rfl) hK hA rfl (by decide) rz_df10 (by rw [hRm]; decide) dX11_init_144 (rz_wid (by decide) hk)) ?_
  refine rz_All_c (i := 70) (fun k J hk hJ => rz_dup_ok (pc := 147) hx hb dX11_init_147 hk) ?_
  refine rz_All_c (i := 71) (fun k J hk hJ => rz_aload_n_ok (pc := 148) hx hb dX11_init_148 rfl hk) ?_
  refine rz_All_c (i := 72) (fun k J hk hJ => rz_getf_ok (pc := 149) (own := RX11) (ref := "ThreadJudge") (C := RX11) (T := TX11) (N := 16) (ci := 13) (index := 20) (f := 5) (t := 2) (Ts := Cond.code yX11_init cX11_init 1 none :: rz_TB) hx hb hts rz_in13 ho hK rfl (by decide) rfl (fun _ => rfl) (hw (i := 0) (j := 0) rfl rfl) (fun _ z => z) dX11_init_149 hk) ?_
  refine rz_All_c (i := 73) (fun k J hk hJ => rz_aload_n_ok (pc := 152) hx hb dX11_init_152 rfl hk) ?_
  refine rz_All_c (i := 74) (fun k J hk hJ => rz_getf_ok (pc := 153) (own := RX11) (ref := "ThreadJudge") (C := RX11) (T := TX11) (N := 16) (ci := 13) (index := 29) (f := 6) (t := 2) (Ts := Cond.code yX11_init cX11_init 1 none :: rz_TB) hx hb hts rz_in13 ho hK rfl (by decide) rfl (fun _ => rfl) (hw (i := 0) (j := 8) rfl rfl) (fun _ z => z) dX11_init_153 hk) ?_
  refine rz_All_c (i := 75) (fun k J hk hJ => rz_aload_n_ok (pc := 156) hx hb dX11_init_156 rfl hk) ?_
  refine rz_All_c (i := 76) (fun k J hk hJ => rz_getf_ok (pc := 157) (own := RX11) (ref := "ThreadJudge") (C := RX11) (T := TX11) (N := 16) (ci := 13) (index := 61) (f := 10) (t := 2) (Ts := Cond.code yX11_init cX11_init 1 none :: rz_TB) hx hb hts rz_in13 ho hK rfl (by decide) rfl (fun _ => rfl) (hw (i := 56) (j := 5) rfl rfl) (fun _ z => z) dX11_init_157 hk) ?_
  refine rz_All_c (i := 77) (fun k J hk hJ => rz_aload_n_ok (pc := 160) hx hb dX11_init_160 rfl hk) ?_
  refine rz_All_c (i := 78) (fun k J hk hJ => rz_getf_ok (pc := 161) (own := RX11) (ref := "ThreadJudge") (C := RX11) (T := TX11) (N := 16) (ci := 13) (index := 70) (f := 11) (t := 2) (Ts := Cond.code yX11_init cX11_init 1 none :: rz_TB) hx hb hts rz_in13 ho hK rfl (by decide) rfl (fun _ => rfl) (hw (i := 56) (j := 9) rfl rfl) (fun _ z => z) dX11_init_161 hk) ?_
  refine rz_All_c (i := 79) (fun k J hk hJ => rz_callIv_ok (pc := 164) (nz0 := (158, 1160081)) (nz1 := (166, 1160432)) (own := RX11) hC rfl (rmX8_init l hG) (rz_cwI 4 hC rz_good (rz_mem (i := 72) (j := 14) rfl rfl) (rz_mem (i := 72) (j := 15) rfl rfl) (rz_mem (i := 1) (j := 14) rfl rfl) (rz_mem (i := 72) (j := 16) rfl rfl) rfl ⟨by decide, by decide, by decide +kernel⟩ rfl rfl ⟨by decide, by decide⟩) dX11_init_164 hk (by decide) (by rw [hRm]; decide)) ?_
  refine rz_All_c (i := 80) (fun k J hk hJ => rz_putfF_ok (pc := 167) (own := RX11) (ref := "ThreadJudge") (C := RX11) (T := TX11) (N := 16) (ci := 13) (index := 79) (f := 12) (t := 2) (Ts := Cond.code yX11_init cX11_init 1 none :: rz_TB) hx hb hts rz_in13 tyX11 tyX11_ok nmX11 ho hK hA rfl (by decide) rfl (rz_UnR _ (Or.inl ⟨_, rfl⟩)) rfl (hmn.trans rfl) rfl (tyX11_ok 12 (by decide)) (hw (i := 0) (j := 5) rfl rfl) (fun _ z => z) dX11_init_167 hk) ?_
  refine rz_All_c (i := 81) (fun k J hk hJ => rz_aload_n_ok (pc := 170) hx hb dX11_init_170 rfl hk) ?_
  refine rz_All_c (i := 82) (fun k J hk hJ => rz_newo_ok (pc := 171) (nz0 := (166, 1160432)) (own := RX11) (C := RX3) (T := TX3) (N := 10) (ci := 5) (index := 83) (ty := tyX3) (Ts := Cond.code yX11_init cX11_init 1 none :: rz_TB) hx hb hts rz_in5 tyX3_ok ho (hw (i := 56) (j := 14) rfl rfl) (hw (i := 56) (j := 15) rfl rfl) (hw (i := 56) (j := 16) rfl rfl) hK hA rfl (by decide) rz_df5 (by rw [hRm]; decide) dX11_init_171 (rz_wid (by decide) hk)) ?_
  refine rz_All_c (i := 83) (fun k J hk hJ => rz_dup_ok (pc := 174) hx hb dX11_init_174 hk) ?_
  refine rz_All_c (i := 84) (fun k J hk hJ => rz_aload_n_ok (pc := 175) hx hb dX11_init_175 rfl hk) ?_
  refine rz_All_c (i := 85) (fun k J hk hJ => rz_getf_ok (pc := 176) (own := RX11) (ref := "ThreadJudge") (C := RX11) (T := TX11) (N := 16) (ci := 13) (index := 20) (f := 5) (t := 2) (Ts := Cond.code yX11_init cX11_init 1 none :: rz_TB) hx hb hts rz_in13 ho hK rfl (by decide) rfl (fun _ => rfl) (hw (i := 0) (j := 0) rfl rfl) (fun _ z => z) dX11_init_176 hk) ?_
  refine rz_All_c (i := 86) (fun k J hk hJ => rz_callIv_ok (pc := 179) (nz0 := (167, 1160442)) (nz1 := (180, 1180924)) (own := RX11) hC rfl (rmX3_init l hG) (rz_cwI 1 hC rz_good (rz_mem (i := 73) (j := 6) rfl rfl) (rz_mem (i := 73) (j := 7) rfl rfl) (rz_mem (i := 56) (j := 16) rfl rfl) (rz_mem (i := 73) (j := 8) rfl rfl) rfl ⟨by decide, by decide, by decide +kernel⟩ rfl rfl ⟨by decide, by decide⟩) dX11_init_179 hk (by decide) (by rw [hRm]; decide)) ?_
  refine rz_All_c (i := 87) (fun k J hk hJ => rz_putfF_ok (pc := 182) (own := RX11) (ref := "ThreadJudge") (C := RX11) (T := TX11) (N := 16) (ci := 13) (index := 86) (f := 13) (t := 2) (Ts := Cond.code yX11_init cX11_init 1 none :: rz_TB) hx hb hts rz_in13 tyX11 tyX11_ok nmX11 ho hK hA rfl (by decide) rfl (rz_UnR _ (Or.inl ⟨_, rfl⟩)) rfl (hmn.trans rfl) rfl (tyX11_ok 13 (by decide)) (hw (i := 56) (j := 17) rfl rfl) (fun _ z => z) dX11_init_182 hk) ?_
  refine rz_All_c (i := 88) (fun k J hk hJ => rz_aload_n_ok (pc := 185) hx hb dX11_init_185 rfl hk) ?_
  refine rz_All_c (i := 89) (fun k J hk hJ => rz_newo_ok (pc := 186) (nz0 := (180, 1180924)) (own := RX11) (C := RX1) (T := TX1) (N := 12) (ci := 3) (index := 90) (ty := tyX1) (Ts := Cond.code yX11_init cX11_init 1 none :: rz_TB) hx hb hts rz_in3 tyX1_ok ho (hw (i := 56) (j := 18) rfl rfl) (hw (i := 56) (j := 19) rfl rfl) (hw (i := 56) (j := 20) rfl rfl) hK hA rfl (by decide) rz_df3 (by rw [hRm]; decide) dX11_init_186 (rz_wid (by decide) hk)) ?_
  refine rz_All_c (i := 90) (fun k J hk hJ => rz_dup_ok (pc := 189) hx hb dX11_init_189 hk) ?_
  refine rz_All_c (i := 91) (fun k J hk hJ => rz_aload_n_ok (pc := 190) hx hb dX11_init_190 rfl hk) ?_
  refine rz_All_c (i := 92) (fun k J hk hJ => rz_getf_ok (pc := 191) (own := RX11) (ref := "ThreadJudge") (C := RX11) (T := TX11) (N := 16) (ci := 13) (index := 70) (f := 11) (t := 2) (Ts := Cond.code yX11_init cX11_init 1 none :: rz_TB) hx hb hts rz_in13 ho hK rfl (by decide) rfl (fun _ => rfl) (hw (i := 56) (j := 9) rfl rfl) (fun _ z => z) dX11_init_191 hk) ?_
  refine rz_All_c (i := 93) (fun k J hk hJ => rz_aload_n_ok (pc := 194) hx hb dX11_init_194 rfl hk) ?_
  refine rz_All_c (i := 94) (fun k J hk hJ => rz_getf_ok (pc := 195) (own := RX11) (ref := "ThreadJudge") (C := RX11) (T := TX11) (N := 16) (ci := 13) (index := 52) (f := 9) (t := 2) (Ts := Cond.code yX11_init cX11_init 1 none :: rz_TB) hx hb hts rz_in13 ho hK rfl (by decide) rfl (fun _ => rfl) (hw (i := 0) (j := 1) rfl rfl) (fun _ z => z) dX11_init_195 hk) ?_
  refine rz_All_c (i := 95) (fun k J hk hJ => rz_callIv_ok (pc := 198) (nz0 := (181, 1180936)) (nz1 := (188, 1589580)) (own := RX11) hC rfl (rmX1_init l hG) (rz_cwI 2 hC rz_good (rz_mem (i := 73) (j := 18) rfl rfl) (rz_mem (i := 73) (j := 19) rfl rfl) (rz_mem (i := 56) (j := 20) rfl rfl) (rz_mem (i := 73) (j := 20) rfl rfl) rfl ⟨by decide, by decide, by decide +kernel⟩ rfl rfl ⟨by decide, by decide⟩) dX11_init_198 hk (by decide) (by rw [hRm]; decide)) ?_
  refine rz_All_c (i := 96) (fun k J hk hJ => rz_putfF_ok (pc := 201) (own := RX11) (ref := "ThreadJudge") (C := RX11) (T := TX11) (N := 16) (ci := 13) (index := 95) (f := 14) (t := 2) (Ts := Cond.code yX11_init cX11_init 1 none :: rz_TB) hx hb hts rz_in13 tyX11 tyX11_ok nmX11 ho hK hA rfl (by decide) rfl (rz_UnR _ (Or.inl ⟨_, rfl⟩)) rfl (hmn.trans rfl) rfl (tyX11_ok 14 (by decide)) (hw (i := 56) (j := 21) rfl rfl) (fun _ z => z) dX11_init_201 hk) ?_
  refine rz_All_c (i := 97) (fun k J hk hJ => rz_aload_n_ok (pc := 204) hx hb dX11_init_204 rfl hk) ?_
  refine rz_All_c (i := 98) (fun k J hk hJ => rz_newo_ok (pc := 205) (nz0 := (188, 1589580)) (own := RX11) (C := RX5) (T := TX5) (N := 19) (ci := 7) (index := 99) (ty := tyX5) (Ts := Cond.code yX11_init cX11_init 1 none :: rz_TB) hx hb hts rz_in7 tyX5_ok ho (hw (i := 56) (j := 22) rfl rfl) (hw (i := 56) (j := 23) rfl rfl) (hw (i := 57) (j := 0) rfl rfl) hK hA rfl (by decide) rz_df7 (by rw [hRm]; decide) dX11_init_205 (rz_wid (by decide) hk)) ?_
  refine rz_All_c (i := 99) (fun k J hk hJ => rz_dup_ok (pc := 208) hx hb dX11_init_208 hk) ?_
  refine rz_All_c (i := 100) (fun k J hk hJ => rz_aload_n_ok (pc := 209) hx hb dX11_init_209 rfl hk) ?_
  refine rz_All_c (i := 101) (fun k J hk hJ => rz_getf_ok (pc := 210) (own := RX11) (ref := "ThreadJudge") (C := RX11) (T := TX11) (N := 16) (ci := 13) (index := 20) (f := 5) (t := 2) (Ts := Cond.code yX11_init cX11_init 1 none :: rz_TB) hx hb hts rz_in13 ho hK rfl (by decide) rfl (fun _ => rfl) (hw (i := 0) (j := 0) rfl rfl) (fun _ z => z) dX11_init_210 hk) ?_
  refine rz_All_c (i := 102) (fun k J hk hJ => rz_aload_n_ok (pc := 213) hx hb dX11_init_213 rfl hk) ?_
  refine rz_All_c (i := 103) (fun k J hk hJ => rz_getf_ok (pc := 214) (own := RX11) (ref := "ThreadJudge") (C := RX11) (T := TX11) (N := 16) (ci := 13) (index := 52) (f := 9) (t := 2) (Ts := Cond.code yX11_init cX11_init 1 none :: rz_TB) hx hb hts rz_in13 ho hK rfl (by decide) rfl (fun _ => rfl) (hw (i := 0) (j := 1) rfl rfl) (fun _ z => z) dX11_init_214 hk) ?_
  refine rz_All_c (i := 104) (fun k J hk hJ => rz_aload_n_ok (pc := 217) hx hb dX11_init_217 rfl hk) ?_
  refine rz_All_c (i := 105) (fun k J hk hJ => rz_getf_ok (pc := 218) (own := RX11) (ref := "ThreadJudge") (C := RX11) (T := TX11) (N := 16) (ci := 13) (index := 70) (f := 11) (t := 2) (Ts := Cond.code yX11_init cX11_init 1 none :: rz_TB) hx hb hts rz_in13 ho hK rfl (by decide) rfl (fun _ => rfl) (hw (i := 56) (j := 9) rfl rfl) (fun _ z => z) dX11_init_218 hk) ?_
  refine rz_All_c (i := 106) (fun k J hk hJ => rz_aload_n_ok (pc := 221) hx hb dX11_init_221 rfl hk) ?_
  refine rz_All_c (i := 107) (fun k J hk hJ => rz_getf_ok (pc := 222) (own := RX11) (ref := "ThreadJudge") (C := RX11) (T := TX11) (N := 16) (ci := 13) (index := 86) (f := 13) (t := 2) (Ts := Cond.code yX11_init cX11_init 1 none :: rz_TB) hx hb hts rz_in13 ho hK rfl (by decide) rfl (fun _ => rfl) (hw (i := 56) (j := 17) rfl rfl) (fun _ z => z) dX11_init_222 hk) ?_
  refine rz_All_c (i := 108) (fun k J hk hJ => rz_aload_n_ok (pc := 225) hx hb dX11_init_225 rfl hk) ?_
  refine rz_All_c (i := 109) (fun k J hk hJ => rz_getf_ok (pc := 226) (own := RX11) (ref := "ThreadJudge") (C := RX11) (T := TX11) (N := 16) (ci := 13) (index := 95) (f := 14) (t := 2) (Ts := Cond.code yX11_init cX11_init 1 none :: rz_TB) hx hb hts rz_in13 ho hK rfl (by decide) rfl (fun _ => rfl) (hw (i := 56) (j := 21) rfl rfl) (fun _ z => z) dX11_init_226 hk) ?_
  refine rz_All_c (i := 110) (fun k J hk hJ => rz_callIv_ok (pc := 229) (nz0 := (189, 1589599)) (nz1 := (218, 1603085)) (own := RX11) hC rfl (rmX5_init l hG) (rz_cwI 5 hC rz_good (rz_mem (i := 74) (j := 8) rfl rfl) (rz_mem (i := 74) (j := 9) rfl rfl) (rz_mem (i := 57) (j := 0) rfl rfl) (rz_mem (i := 74) (j := 10) rfl rfl) rfl ⟨by decide, by decide, by decide +kernel⟩ rfl rfl ⟨by decide, by decide⟩) dX11_init_229 hk (by decide) (by rw [hRm]; decide)) ?_
  refine rz_All_c (i := 111) (fun k J hk hJ => rz_putfF_ok (pc := 232) (own := RX11) (ref := "ThreadJudge") (C := RX11) (T := TX11) (N := 16) (ci := 13) (index := 104) (f := 15) (t := 2) (Ts := Cond.code yX11_init cX11_init 1 none :: rz_TB) hx hb hts rz_in13 tyX11 tyX11_ok nmX11 ho hK hA rfl (by decide) rfl (rz_UnR _ (Or.inl ⟨_, rfl⟩)) rfl (hmn.trans rfl) rfl (tyX11_ok 15 (by decide)) (hw (i := 0) (j := 3) rfl rfl) (fun _ z => z) dX11_init_232 hk) ?_
  refine rz_All_c (i := 112) (fun k J hk hJ => rz_aload_n_ok (pc := 235) hx hb dX11_init_235 rfl hk) ?_
  refine rz_All_c (i := 113) (fun k J hk hJ => rz_getf_ok (pc := 236) (own := RX11) (ref := "ThreadJudge") (C := RX11) (T := TX11) (N := 16) (ci := 13) (index := 20) (f := 5) (t := 2) (Ts := Cond.code yX11_init cX11_init 1 none :: rz_TB) hx hb hts rz_in13 ho hK rfl (by decide) rfl (fun _ => rfl) (hw (i := 0) (j := 0) rfl rfl) (fun _ z => z) dX11_init_236 hk) ?_
  refine rz_All_c (i := 114) (fun k J hk hJ => rz_iconst_ok (pc := 239) hx hb dX11_init_239 rfl hk) ?_
  refine rz_All_c (i := 115) (fun k J hk hJ => rz_putf_ok (pc := 240) (own := RX11) (ref := "ThreadJudge$Program") (C := RX7) (T := TX7) (N := 22) (ci := 9) (index := 108) (f := 0) (t := 0) (Ts := Cond.code yX11_init cX11_init 1 none :: rz_TB) hx hb hts rz_in9 tyX7 tyX7_ok nmX7 ho hK hA rfl (by decide) rfl (rz_UnZ _) rfl (tyX7_ok 0 (by decide)) (hw (i := 0) (j := 20) rfl rfl) (fun _ z => z) dX11_init_240 hk) ?_
  refine rz_All_c (i := 116) (fun k J hk hJ => rz_vret_ok (pc := 243) (nz0 := (218, 1603085)) hC dX11_init_243 (by decide)) ?_
  exact trivial
theorem dX12_init_0 : decode cX12_init 0 = .ok (.aload_n 0, 1) := by decide +kernel
theorem dX12_init_1 : decode cX12_init 1 = .ok (.invokespecial 1, 3) := by decide +kernel
theorem dX12_init_4 : decode cX12_init 4 = .ok (.aload_n 0, 1) := by decide +kernel
theorem dX12_init_5 : decode cX12_init 5 = .ok (.sipush 12000, 3) := by decide +kernel
theorem dX12_init_8 : decode cX12_init 8 = .ok (.newarray .int, 2) := by decide +kernel
theorem dX12_init_10 : decode cX12_init 10 = .ok (.putfield 7, 3) := by decide +kernel
theorem dX12_init_13 : decode cX12_init 13 = .ok (.aload_n 0, 1) := by decide +kernel
theorem dX12_init_14 : decode cX12_init 14 = .ok (.sipush 15000, 3) := by decide +kernel
theorem dX12_init_17 : decode cX12_init 17 = .ok (.newarray .int, 2) := by decide +kernel
theorem dX12_init_19 : decode cX12_init 19 = .ok (.putfield 13, 3) := by decide +kernel
theorem dX12_init_22 : decode cX12_init 22 = .ok (.aload_n 0, 1) := by decide +kernel
theorem dX12_init_23 : decode cX12_init 23 = .ok (.iconst (-1), 1) := by decide +kernel
theorem dX12_init_24 : decode cX12_init 24 = .ok (.putfield 16, 3) := by decide +kernel
theorem dX12_init_27 : decode cX12_init 27 = .ok (.aload_n 0, 1) := by decide +kernel
theorem dX12_init_28 : decode cX12_init 28 = .ok (.bipush 43, 2) := by decide +kernel
theorem dX12_init_30 : decode cX12_init 30 = .ok (.newarray .int, 2) := by decide +kernel
theorem dX12_init_32 : decode cX12_init 32 = .ok (.putfield 20, 3) := by decide +kernel
theorem dX12_init_35 : decode cX12_init 35 = .ok (.aload_n 0, 1) := by decide +kernel
theorem dX12_init_36 : decode cX12_init 36 = .ok (.bipush 43, 2) := by decide +kernel
theorem dX12_init_38 : decode cX12_init 38 = .ok (.newarray .int, 2) := by decide +kernel
theorem dX12_init_40 : decode cX12_init 40 = .ok (.putfield 23, 3) := by decide +kernel
theorem dX12_init_43 : decode cX12_init 43 = .ok (.aload_n 0, 1) := by decide +kernel
theorem dX12_init_44 : decode cX12_init 44 = .ok (.bipush 43, 2) := by decide +kernel
theorem dX12_init_46 : decode cX12_init 46 = .ok (.newarray .boolean, 2) := by decide +kernel
theorem dX12_init_48 : decode cX12_init 48 = .ok (.putfield 26, 3) := by decide +kernel
theorem dX12_init_51 : decode cX12_init 51 = .ok (.aload_n 0, 1) := by decide +kernel
theorem dX12_init_52 : decode cX12_init 52 = .ok (.bipush 43, 2) := by decide +kernel
theorem dX12_init_54 : decode cX12_init 54 = .ok (.newarray .boolean, 2) := by decide +kernel
theorem dX12_init_56 : decode cX12_init 56 = .ok (.putfield 30, 3) := by decide +kernel
theorem dX12_init_59 : decode cX12_init 59 = .ok (.aload_n 0, 1) := by decide +kernel
theorem dX12_init_60 : decode cX12_init 60 = .ok (.bipush 43, 2) := by decide +kernel
theorem dX12_init_62 : decode cX12_init 62 = .ok (.newarray .boolean, 2) := by decide +kernel
theorem dX12_init_64 : decode cX12_init 64 = .ok (.putfield 33, 3) := by decide +kernel
theorem dX12_init_67 : decode cX12_init 67 = .ok (.aload_n 0, 1) := by decide +kernel
theorem dX12_init_68 : decode cX12_init 68 = .ok (.bipush 43, 2) := by decide +kernel
theorem dX12_init_70 : decode cX12_init 70 = .ok (.newarray .int, 2) := by decide +kernel
theorem dX12_init_72 : decode cX12_init 72 = .ok (.putfield 36, 3) := by decide +kernel
theorem dX12_init_75 : decode cX12_init 75 = .ok (.aload_n 0, 1) := by decide +kernel
theorem dX12_init_76 : decode cX12_init 76 = .ok (.bipush 43, 2) := by decide +kernel
theorem dX12_init_78 : decode cX12_init 78 = .ok (.newarray .int, 2) := by decide +kernel
theorem dX12_init_80 : decode cX12_init 80 = .ok (.putfield 39, 3) := by decide +kernel
theorem dX12_init_83 : decode cX12_init 83 = .ok (.aload_n 0, 1) := by decide +kernel
theorem dX12_init_84 : decode cX12_init 84 = .ok (.bipush 43, 2) := by decide +kernel
theorem dX12_init_86 : decode cX12_init 86 = .ok (.newarray .int, 2) := by decide +kernel
theorem dX12_init_88 : decode cX12_init 88 = .ok (.putfield 42, 3) := by decide +kernel
theorem dX12_init_91 : decode cX12_init 91 = .ok (.aload_n 0, 1) := by decide +kernel
theorem dX12_init_92 : decode cX12_init 92 = .ok (.sipush 258, 3) := by decide +kernel
theorem dX12_init_95 : decode cX12_init 95 = .ok (.newarray .int, 2) := by decide +kernel
theorem dX12_init_97 : decode cX12_init 97 = .ok (.putfield 45, 3) := by decide +kernel
theorem dX12_init_100 : decode cX12_init 100 = .ok (.aload_n 0, 1) := by decide +kernel
theorem dX12_init_101 : decode cX12_init 101 = .ok (.sipush 258, 3) := by decide +kernel
theorem dX12_init_104 : decode cX12_init 104 = .ok (.newarray .int, 2) := by decide +kernel
theorem dX12_init_106 : decode cX12_init 106 = .ok (.putfield 48, 3) := by decide +kernel
theorem dX12_init_109 : decode cX12_init 109 = .ok (.aload_n 0, 1) := by decide +kernel
theorem dX12_init_110 : decode cX12_init 110 = .ok (.bipush 44, 2) := by decide +kernel
theorem dX12_init_112 : decode cX12_init 112 = .ok (.newarray .int, 2) := by decide +kernel
theorem dX12_init_114 : decode cX12_init 114 = .ok (.putfield 51, 3) := by decide +kernel
theorem dX12_init_117 : decode cX12_init 117 = .ok (.aload_n 0, 1) := by decide +kernel
theorem dX12_init_118 : decode cX12_init 118 = .ok (.bipush 44, 2) := by decide +kernel
theorem dX12_init_120 : decode cX12_init 120 = .ok (.newarray .int, 2) := by decide +kernel
theorem dX12_init_122 : decode cX12_init 122 = .ok (.putfield 54, 3) := by decide +kernel
theorem dX12_init_125 : decode cX12_init 125 = .ok (.aload_n 0, 1) := by decide +kernel
theorem dX12_init_126 : decode cX12_init 126 = .ok (.bipush 41, 2) := by decide +kernel
theorem dX12_init_128 : decode cX12_init 128 = .ok (.newarray .int, 2) := by decide +kernel
theorem dX12_init_130 : decode cX12_init 130 = .ok (.putfield 57, 3) := by decide +kernel
theorem dX12_init_133 : decode cX12_init 133 = .ok (.aload_n 0, 1) := by decide +kernel
theorem dX12_init_134 : decode cX12_init 134 = .ok (.bipush 41, 2) := by decide +kernel
theorem dX12_init_136 : decode cX12_init 136 = .ok (.newarray .int, 2) := by decide +kernel
theorem dX12_init_138 : decode cX12_init 138 = .ok (.putfield 60, 3) := by decide +kernel
theorem dX12_init_141 : decode cX12_init 141 = .ok (.aload_n 0, 1) := by decide +kernel
theorem dX12_init_142 : decode cX12_init 142 = .ok (.bipush 41, 2) := by decide +kernel
theorem dX12_init_144 : decode cX12_init 144 = .ok (.newarray .int, 2) := by decide +kernel
theorem dX12_init_146 : decode cX12_init 146 = .ok (.putfield 63, 3) := by decide +kernel
theorem dX12_init_149 : decode cX12_init 149 = .ok (.aload_n 0, 1) := by decide +kernel
theorem dX12_init_150 : decode cX12_init 150 = .ok (.bipush 41, 2) := by decide +kernel
theorem dX12_init_152 : decode cX12_init 152 = .ok (.newarray .int, 2) := by decide +kernel
theorem dX12_init_154 : decode cX12_init 154 = .ok (.putfield 66, 3) := by decide +kernel
theorem dX12_init_157 : decode cX12_init 157 = .ok (.aload_n 0, 1) := by decide +kernel
theorem dX12_init_158 : decode cX12_init 158 = .ok (.bipush 117, 2) := by decide +kernel
theorem dX12_init_160 : decode cX12_init 160 = .ok (.newarray .int, 2) := by decide +kernel
theorem dX12_init_162 : decode cX12_init 162 = .ok (.putfield 69, 3) := by decide +kernel
theorem dX12_init_165 : decode cX12_init 165 = .ok (.aload_n 0, 1) := by decide +kernel
theorem dX12_init_166 : decode cX12_init 166 = .ok (.bipush 117, 2) := by decide +kernel
theorem dX12_init_168 : decode cX12_init 168 = .ok (.newarray .int, 2) := by decide +kernel
theorem dX12_init_170 : decode cX12_init 170 = .ok (.putfield 72, 3) := by decide +kernel
theorem dX12_init_173 : decode cX12_init 173 = .ok (.aload_n 0, 1) := by decide +kernel
theorem dX12_init_174 : decode cX12_init 174 = .ok (.bipush 117, 2) := by decide +kernel
theorem dX12_init_176 : decode cX12_init 176 = .ok (.newarray .int, 2) := by decide +kernel
theorem dX12_init_178 : decode cX12_init 178 = .ok (.putfield 75, 3) := by decide +kernel
theorem dX12_init_181 : decode cX12_init 181 = .ok (.aload_n 0, 1) := by decide +kernel
theorem dX12_init_182 : decode cX12_init 182 = .ok (.bipush 117, 2) := by decide +kernel
theorem dX12_init_184 : decode cX12_init 184 = .ok (.newarray .int, 2) := by decide +kernel
theorem dX12_init_186 : decode cX12_init 186 = .ok (.putfield 78, 3) := by decide +kernel
theorem dX12_init_189 : decode cX12_init 189 = .ok (.aload_n 0, 1) := by decide +kernel
theorem dX12_init_190 : decode cX12_init 190 = .ok (.bipush 117, 2) := by decide +kernel
theorem dX12_init_192 : decode cX12_init 192 = .ok (.newarray .int, 2) := by decide +kernel
theorem dX12_init_194 : decode cX12_init 194 = .ok (.putfield 81, 3) := by decide +kernel
theorem dX12_init_197 : decode cX12_init 197 = .ok (.aload_n 0, 1) := by decide +kernel
theorem dX12_init_198 : decode cX12_init 198 = .ok (.bipush 117, 2) := by decide +kernel
theorem dX12_init_200 : decode cX12_init 200 = .ok (.newarray .boolean, 2) := by decide +kernel
theorem dX12_init_202 : decode cX12_init 202 = .ok (.putfield 84, 3) := by decide +kernel
theorem dX12_init_205 : decode cX12_init 205 = .ok (.aload_n 0, 1) := by decide +kernel
theorem dX12_init_206 : decode cX12_init 206 = .ok (.bipush 118, 2) := by decide +kernel
theorem dX12_init_208 : decode cX12_init 208 = .ok (.newarray .int, 2) := by decide +kernel
theorem dX12_init_210 : decode cX12_init 210 = .ok (.putfield 87, 3) := by decide +kernel
theorem dX12_init_213 : decode cX12_init 213 = .ok (.aload_n 0, 1) := by decide +kernel
theorem dX12_init_214 : decode cX12_init 214 = .ok (.bipush 117, 2) := by decide +kernel
theorem dX12_init_216 : decode cX12_init 216 = .ok (.newarray .int, 2) := by decide +kernel
theorem dX12_init_218 : decode cX12_init 218 = .ok (.putfield 90, 3) := by decide +kernel
theorem dX12_init_221 : decode cX12_init 221 = .ok (.aload_n 0, 1) := by decide +kernel
theorem dX12_init_222 : decode cX12_init 222 = .ok (.sipush 9300, 3) := by decide +kernel
theorem dX12_init_225 : decode cX12_init 225 = .ok (.newarray .int, 2) := by decide +kernel
theorem dX12_init_227 : decode cX12_init 227 = .ok (.putfield 93, 3) := by decide +kernel
theorem dX12_init_230 : decode cX12_init 230 = .ok (.aload_n 0, 1) := by decide +kernel
theorem dX12_init_231 : decode cX12_init 231 = .ok (.sipush 9300, 3) := by decide +kernel
theorem dX12_init_234 : decode cX12_init 234 = .ok (.newarray .int, 2) := by decide +kernel
theorem dX12_init_236 : decode cX12_init 236 = .ok (.putfield 96, 3) := by decide +kernel
theorem dX12_init_239 : decode cX12_init 239 = .ok (.aload_n 0, 1) := by decide +kernel
theorem dX12_init_240 : decode cX12_init 240 = .ok (.sipush 9300, 3) := by decide +kernel
theorem dX12_init_243 : decode cX12_init 243 = .ok (.newarray .boolean, 2) := by decide +kernel
theorem dX12_init_245 : decode cX12_init 245 = .ok (.putfield 99, 3) := by decide +kernel
theorem dX12_init_248 : decode cX12_init 248 = .ok (.aload_n 0, 1) := by decide +kernel
theorem dX12_init_249 : decode cX12_init 249 = .ok (.sipush 1014, 3) := by decide +kernel
theorem dX12_init_252 : decode cX12_init 252 = .ok (.newarray .int, 2) := by decide +kernel
theorem dX12_init_254 : decode cX12_init 254 = .ok (.putfield 102, 3) := by decide +kernel
theorem dX12_init_257 : decode cX12_init 257 = .ok (.aload_n 0, 1) := by decide +kernel
theorem dX12_init_258 : decode cX12_init 258 = .ok (.sipush 1014, 3) := by decide +kernel
theorem dX12_init_261 : decode cX12_init 261 = .ok (.newarray .int, 2) := by decide +kernel
theorem dX12_init_263 : decode cX12_init 263 = .ok (.putfield 105, 3) := by decide +kernel
theorem dX12_init_266 : decode cX12_init 266 = .ok (.aload_n 0, 1) := by decide +kernel
theorem dX12_init_267 : decode cX12_init 267 = .ok (.sipush 1014, 3) := by decide +kernel
theorem dX12_init_270 : decode cX12_init 270 = .ok (.newarray .int, 2) := by decide +kernel
theorem dX12_init_272 : decode cX12_init 272 = .ok (.putfield 108, 3) := by decide +kernel
theorem dX12_init_275 : decode cX12_init 275 = .ok (.aload_n 0, 1) := by decide +kernel
theorem dX12_init_276 : decode cX12_init 276 = .ok (.sipush 1014, 3) := by decide +kernel
theorem dX12_init_279 : decode cX12_init 279 = .ok (.newarray .int, 2) := by decide +kernel
theorem dX12_init_281 : decode cX12_init 281 = .ok (.putfield 111, 3) := by decide +kernel
theorem dX12_init_284 : decode cX12_init 284 = .ok (.aload_n 0, 1) := by decide +kernel
theorem dX12_init_285 : decode cX12_init 285 = .ok (.sipush 1014, 3) := by decide +kernel
theorem dX12_init_288 : decode cX12_init 288 = .ok (.newarray .int, 2) := by decide +kernel
theorem dX12_init_290 : decode cX12_init 290 = .ok (.putfield 114, 3) := by decide +kernel
theorem dX12_init_293 : decode cX12_init 293 = .ok (.aload_n 0, 1) := by decide +kernel
theorem dX12_init_294 : decode cX12_init 294 = .ok (.sipush 1014, 3) := by decide +kernel
theorem dX12_init_297 : decode cX12_init 297 = .ok (.newarray .int, 2) := by decide +kernel
theorem dX12_init_299 : decode cX12_init 299 = .ok (.putfield 117, 3) := by decide +kernel
theorem dX12_init_302 : decode cX12_init 302 = .ok (.aload_n 0, 1) := by decide +kernel
theorem dX12_init_303 : decode cX12_init 303 = .ok (.sipush 1014, 3) := by decide +kernel
theorem dX12_init_306 : decode cX12_init 306 = .ok (.newarray .int, 2) := by decide +kernel
theorem dX12_init_308 : decode cX12_init 308 = .ok (.putfield 120, 3) := by decide +kernel
theorem dX12_init_311 : decode cX12_init 311 = .ok (.aload_n 0, 1) := by decide +kernel
theorem dX12_init_312 : decode cX12_init 312 = .ok (.sipush 1014, 3) := by decide +kernel
theorem dX12_init_315 : decode cX12_init 315 = .ok (.newarray .int, 2) := by decide +kernel
theorem dX12_init_317 : decode cX12_init 317 = .ok (.putfield 123, 3) := by decide +kernel
theorem dX12_init_320 : decode cX12_init 320 = .ok (.aload_n 0, 1) := by decide +kernel
theorem dX12_init_321 : decode cX12_init 321 = .ok (.sipush 1014, 3) := by decide +kernel
theorem dX12_init_324 : decode cX12_init 324 = .ok (.newarray .int, 2) := by decide +kernel
theorem dX12_init_326 : decode cX12_init 326 = .ok (.putfield 126, 3) := by decide +kernel
theorem dX12_init_329 : decode cX12_init 329 = .ok (.aload_n 0, 1) := by decide +kernel
theorem dX12_init_330 : decode cX12_init 330 = .ok (.sipush 1014, 3) := by decide +kernel
theorem dX12_init_333 : decode cX12_init 333 = .ok (.newarray .int, 2) := by decide +kernel
theorem dX12_init_335 : decode cX12_init 335 = .ok (.putfield 129, 3) := by decide +kernel
theorem dX12_init_338 : decode cX12_init 338 = .ok (.aload_n 0, 1) := by decide +kernel
theorem dX12_init_339 : decode cX12_init 339 = .ok (.sipush 6100, 3) := by decide +kernel
theorem dX12_init_342 : decode cX12_init 342 = .ok (.newarray .int, 2) := by decide +kernel
theorem dX12_init_344 : decode cX12_init 344 = .ok (.putfield 132, 3) := by decide +kernel
theorem dX12_init_347 : decode cX12_init 347 = .ok (.aload_n 0, 1) := by decide +kernel
theorem dX12_init_348 : decode cX12_init 348 = .ok (.sipush 6100, 3) := by decide +kernel
theorem dX12_init_351 : decode cX12_init 351 = .ok (.newarray .int, 2) := by decide +kernel
theorem dX12_init_353 : decode cX12_init 353 = .ok (.putfield 135, 3) := by decide +kernel
theorem dX12_init_356 : decode cX12_init 356 = .ok (.aload_n 0, 1) := by decide +kernel
theorem dX12_init_357 : decode cX12_init 357 = .ok (.sipush 6100, 3) := by decide +kernel
theorem dX12_init_360 : decode cX12_init 360 = .ok (.newarray .int, 2) := by decide +kernel
theorem dX12_init_362 : decode cX12_init 362 = .ok (.putfield 138, 3) := by decide +kernel
theorem dX12_init_365 : decode cX12_init 365 = .ok (.aload_n 0, 1) := by decide +kernel
theorem dX12_init_366 : decode cX12_init 366 = .ok (.sipush 6100, 3) := by decide +kernel
theorem dX12_init_369 : decode cX12_init 369 = .ok (.newarray .int, 2) := by decide +kernel
theorem dX12_init_371 : decode cX12_init 371 = .ok (.putfield 141, 3) := by decide +kernel
theorem dX12_init_374 : decode cX12_init 374 = .ok (.aload_n 0, 1) := by decide +kernel
theorem dX12_init_375 : decode cX12_init 375 = .ok (.sipush 936, 3) := by decide +kernel
theorem dX12_init_378 : decode cX12_init 378 = .ok (.newarray .int, 2) := by decide +kernel
theorem dX12_init_380 : decode cX12_init 380 = .ok (.putfield 144, 3) := by decide +kernel
theorem dX12_init_383 : decode cX12_init 383 = .ok (.aload_n 0, 1) := by decide +kernel
theorem dX12_init_384 : decode cX12_init 384 = .ok (.sipush 3744, 3) := by decide +kernel
theorem dX12_init_387 : decode cX12_init 387 = .ok (.newarray .int, 2) := by decide +kernel
theorem dX12_init_389 : decode cX12_init 389 = .ok (.putfield 147, 3) := by decide +kernel
theorem dX12_init_392 : decode cX12_init 392 = .ok (.aload_n 0, 1) := by decide +kernel
theorem dX12_init_393 : decode cX12_init 393 = .ok (.sipush 3744, 3) := by decide +kernel
theorem dX12_init_396 : decode cX12_init 396 = .ok (.newarray .int, 2) := by decide +kernel
theorem dX12_init_398 : decode cX12_init 398 = .ok (.putfield 150, 3) := by decide +kernel
theorem dX12_init_401 : decode cX12_init 401 = .ok (.aload_n 0, 1) := by decide +kernel
theorem dX12_init_402 : decode cX12_init 402 = .ok (.bipush 32, 2) := by decide +kernel
theorem dX12_init_404 : decode cX12_init 404 = .ok (.newarray .int, 2) := by decide +kernel
theorem dX12_init_406 : decode cX12_init 406 = .ok (.putfield 153, 3) := by decide +kernel
theorem dX12_init_409 : decode cX12_init 409 = .ok (.aload_n 0, 1) := by decide +kernel
theorem dX12_init_410 : decode cX12_init 410 = .ok (.bipush 32, 2) := by decide +kernel
theorem dX12_init_412 : decode cX12_init 412 = .ok (.newarray .int, 2) := by decide +kernel
theorem dX12_init_414 : decode cX12_init 414 = .ok (.putfield 156, 3) := by decide +kernel
theorem dX12_init_417 : decode cX12_init 417 = .ok (.aload_n 0, 1) := by decide +kernel
theorem dX12_init_418 : decode cX12_init 418 = .ok (.sipush 1014, 3) := by decide +kernel
theorem dX12_init_421 : decode cX12_init 421 = .ok (.newarray .int, 2) := by decide +kernel
theorem dX12_init_423 : decode cX12_init 423 = .ok (.putfield 159, 3) := by decide +kernel
theorem dX12_init_426 : decode cX12_init 426 = .ok (.aload_n 0, 1) := by decide +kernel
theorem dX12_init_427 : decode cX12_init 427 = .ok (.sipush 1014, 3) := by decide +kernel
theorem dX12_init_430 : decode cX12_init 430 = .ok (.newarray .int, 2) := by decide +kernel
theorem dX12_init_432 : decode cX12_init 432 = .ok (.putfield 162, 3) := by decide +kernel
theorem dX12_init_435 : decode cX12_init 435 = .ok (.aload_n 0, 1) := by decide +kernel
theorem dX12_init_436 : decode cX12_init 436 = .ok (.bipush 43, 2) := by decide +kernel
theorem dX12_init_438 : decode cX12_init 438 = .ok (.newarray .int, 2) := by decide +kernel
theorem dX12_init_440 : decode cX12_init 440 = .ok (.putfield 165, 3) := by decide +kernel
theorem dX12_init_443 : decode cX12_init 443 = .ok (.aload_n 0, 1) := by decide +kernel
theorem dX12_init_444 : decode cX12_init 444 = .ok (.sipush 258, 3) := by decide +kernel
theorem dX12_init_447 : decode cX12_init 447 = .ok (.newarray .int, 2) := by decide +kernel
theorem dX12_init_449 : decode cX12_init 449 = .ok (.putfield 168, 3) := by decide +kernel
theorem dX12_init_452 : decode cX12_init 452 = .ok (.aload_n 0, 1) := by decide +kernel
theorem dX12_init_453 : decode cX12_init 453 = .ok (.sipush 1849, 3) := by decide +kernel
theorem dX12_init_456 : decode cX12_init 456 = .ok (.newarray .boolean, 2) := by decide +kernel
theorem dX12_init_458 : decode cX12_init 458 = .ok (.putfield 171, 3) := by decide +kernel
theorem dX12_init_461 : decode cX12_init 461 = .ok (.aload_n 0, 1) := by decide +kernel
theorem dX12_init_462 : decode cX12_init 462 = .ok (.bipush 41, 2) := by decide +kernel
theorem dX12_init_464 : decode cX12_init 464 = .ok (.newarray .int, 2) := by decide +kernel
theorem dX12_init_466 : decode cX12_init 466 = .ok (.putfield 174, 3) := by decide +kernel
theorem dX12_init_469 : decode cX12_init 469 = .ok (.aload_n 0, 1) := by decide +kernel
theorem dX12_init_470 : decode cX12_init 470 = .ok (.bipush 117, 2) := by decide +kernel
theorem dX12_init_472 : decode cX12_init 472 = .ok (.newarray .int, 2) := by decide +kernel
theorem dX12_init_474 : decode cX12_init 474 = .ok (.putfield 177, 3) := by decide +kernel
theorem dX12_init_477 : decode cX12_init 477 = .ok (.aload_n 0, 1) := by decide +kernel
theorem dX12_init_478 : decode cX12_init 478 = .ok (.sipush 702, 3) := by decide +kernel
theorem dX12_init_481 : decode cX12_init 481 = .ok (.newarray .int, 2) := by decide +kernel
theorem dX12_init_483 : decode cX12_init 483 = .ok (.putfield 180, 3) := by decide +kernel
theorem dX12_init_486 : decode cX12_init 486 = .ok (.aload_n 0, 1) := by decide +kernel
theorem dX12_init_487 : decode cX12_init 487 = .ok (.sipush 1014, 3) := by decide +kernel
theorem dX12_init_490 : decode cX12_init 490 = .ok (.newarray .int, 2) := by decide +kernel
theorem dX12_init_492 : decode cX12_init 492 = .ok (.putfield 183, 3) := by decide +kernel
theorem dX12_init_495 : decode cX12_init 495 = .ok (.aload_n 0, 1) := by decide +kernel
theorem dX12_init_496 : decode cX12_init 496 = .ok (.sipush 1014, 3) := by decide +kernel
theorem dX12_init_499 : decode cX12_init 499 = .ok (.newarray .int, 2) := by decide +kernel
theorem dX12_init_501 : decode cX12_init 501 = .ok (.putfield 186, 3) := by decide +kernel
theorem dX12_init_504 : decode cX12_init 504 = .ok (.aload_n 0, 1) := by decide +kernel
theorem dX12_init_505 : decode cX12_init 505 = .ok (.sipush 936, 3) := by decide +kernel
theorem dX12_init_508 : decode cX12_init 508 = .ok (.newarray .int, 2) := by decide +kernel
theorem dX12_init_510 : decode cX12_init 510 = .ok (.putfield 189, 3) := by decide +kernel
theorem dX12_init_513 : decode cX12_init 513 = .ok (.aload_n 0, 1) := by decide +kernel
theorem dX12_init_514 : decode cX12_init 514 = .ok (.sipush 936, 3) := by decide +kernel
theorem dX12_init_517 : decode cX12_init 517 = .ok (.newarray .int, 2) := by decide +kernel
theorem dX12_init_519 : decode cX12_init 519 = .ok (.putfield 192, 3) := by decide +kernel
theorem dX12_init_522 : decode cX12_init 522 = .ok (.aload_n 0, 1) := by decide +kernel
theorem dX12_init_523 : decode cX12_init 523 = .ok (.sipush 936, 3) := by decide +kernel
theorem dX12_init_526 : decode cX12_init 526 = .ok (.newarray .int, 2) := by decide +kernel
theorem dX12_init_528 : decode cX12_init 528 = .ok (.putfield 195, 3) := by decide +kernel
theorem dX12_init_531 : decode cX12_init 531 = .ok (.aload_n 0, 1) := by decide +kernel
theorem dX12_init_532 : decode cX12_init 532 = .ok (.sipush 936, 3) := by decide +kernel
theorem dX12_init_535 : decode cX12_init 535 = .ok (.newarray .int, 2) := by decide +kernel
theorem dX12_init_537 : decode cX12_init 537 = .ok (.putfield 198, 3) := by decide +kernel
theorem dX12_init_540 : decode cX12_init 540 = .ok (.aload_n 0, 1) := by decide +kernel
theorem dX12_init_541 : decode cX12_init 541 = .ok (.bipush 6, 2) := by decide +kernel
theorem dX12_init_543 : decode cX12_init 543 = .ok (.newarray .int, 2) := by decide +kernel
theorem dX12_init_545 : decode cX12_init 545 = .ok (.putfield 201, 3) := by decide +kernel
theorem dX12_init_548 : decode cX12_init 548 = .ok (.aload_n 0, 1) := by decide +kernel
theorem dX12_init_549 : decode cX12_init 549 = .ok (.sipush 1014, 3) := by decide +kernel
theorem dX12_init_552 : decode cX12_init 552 = .ok (.newarray .int, 2) := by decide +kernel
theorem dX12_init_554 : decode cX12_init 554 = .ok (.putfield 204, 3) := by decide +kernel
theorem dX12_init_557 : decode cX12_init 557 = .ok (.aload_n 0, 1) := by decide +kernel
theorem dX12_init_558 : decode cX12_init 558 = .ok (.sipush 1014, 3) := by decide +kernel
theorem dX12_init_561 : decode cX12_init 561 = .ok (.newarray .int, 2) := by decide +kernel
theorem dX12_init_563 : decode cX12_init 563 = .ok (.putfield 207, 3) := by decide +kernel
theorem dX12_init_566 : decode cX12_init 566 = .ok (.aload_n 0, 1) := by decide +kernel
theorem dX12_init_567 : decode cX12_init 567 = .ok (.sipush 1014, 3) := by decide +kernel
theorem dX12_init_570 : decode cX12_init 570 = .ok (.newarray .boolean, 2) := by decide +kernel
theorem dX12_init_572 : decode cX12_init 572 = .ok (.putfield 210, 3) := by decide +kernel
theorem dX12_init_575 : decode cX12_init 575 = .ok (.aload_n 0, 1) := by decide +kernel
theorem dX12_init_576 : decode cX12_init 576 = .ok (.sipush 1014, 3) := by decide +kernel
theorem dX12_init_579 : decode cX12_init 579 = .ok (.newarray .int, 2) := by decide +kernel
theorem dX12_init_581 : decode cX12_init 581 = .ok (.putfield 213, 3) := by decide +kernel
theorem dX12_init_584 : decode cX12_init 584 = .ok (.aload_n 0, 1) := by decide +kernel
theorem dX12_init_585 : decode cX12_init 585 = .ok (.sipush 6084, 3) := by decide +kernel
theorem dX12_init_588 : decode cX12_init 588 = .ok (.newarray .int, 2) := by decide +kernel
theorem dX12_init_590 : decode cX12_init 590 = .ok (.putfield 216, 3) := by decide +kernel
theorem dX12_init_593 : decode cX12_init 593 = .ok (.aload_n 0, 1) := by decide +kernel
theorem dX12_init_594 : decode cX12_init 594 = .ok (.sipush 18252, 3) := by decide +kernel
theorem dX12_init_597 : decode cX12_init 597 = .ok (.newarray .long, 2) := by decide +kernel
theorem dX12_init_599 : decode cX12_init 599 = .ok (.putfield 219, 3) := by decide +kernel
theorem dX12_init_602 : decode cX12_init 602 = .ok (.aload_n 0, 1) := by decide +kernel
theorem dX12_init_603 : decode cX12_init 603 = .ok (.sipush 18252, 3) := by decide +kernel
theorem dX12_init_606 : decode cX12_init 606 = .ok (.newarray .long, 2) := by decide +kernel
theorem dX12_init_608 : decode cX12_init 608 = .ok (.putfield 223, 3) := by decide +kernel
theorem dX12_init_611 : decode cX12_init 611 = .ok (.aload_n 0, 1) := by decide +kernel
theorem dX12_init_612 : decode cX12_init 612 = .ok (.bipush 32, 2) := by decide +kernel
theorem dX12_init_614 : decode cX12_init 614 = .ok (.newarray .long, 2) := by decide +kernel
theorem dX12_init_616 : decode cX12_init 616 = .ok (.putfield 226, 3) := by decide +kernel
theorem dX12_init_619 : decode cX12_init 619 = .ok (.aload_n 0, 1) := by decide +kernel
theorem dX12_init_620 : decode cX12_init 620 = .ok (.bipush 32, 2) := by decide +kernel
theorem dX12_init_622 : decode cX12_init 622 = .ok (.newarray .long, 2) := by decide +kernel
theorem dX12_init_624 : decode cX12_init 624 = .ok (.putfield 229, 3) := by decide +kernel
theorem dX12_init_627 : decode cX12_init 627 = .ok (.aload_n 0, 1) := by decide +kernel
theorem dX12_init_628 : decode cX12_init 628 = .ok (.sipush 481, 3) := by decide +kernel
theorem dX12_init_631 : decode cX12_init 631 = .ok (.newarray .int, 2) := by decide +kernel
theorem dX12_init_633 : decode cX12_init 633 = .ok (.putfield 232, 3) := by decide +kernel
theorem dX12_init_636 : decode cX12_init 636 = .ok (.aload_n 0, 1) := by decide +kernel
theorem dX12_init_637 : decode cX12_init 637 = .ok (.sipush 481, 3) := by decide +kernel
theorem dX12_init_640 : decode cX12_init 640 = .ok (.newarray .int, 2) := by decide +kernel
theorem dX12_init_642 : decode cX12_init 642 = .ok (.putfield 235, 3) := by decide +kernel
theorem dX12_init_645 : decode cX12_init 645 = .ok (.aload_n 0, 1) := by decide +kernel
theorem dX12_init_646 : decode cX12_init 646 = .ok (.sipush 302, 3) := by decide +kernel
theorem dX12_init_649 : decode cX12_init 649 = .ok (.newarray .int, 2) := by decide +kernel
theorem dX12_init_651 : decode cX12_init 651 = .ok (.putfield 238, 3) := by decide +kernel
theorem dX12_init_654 : decode cX12_init 654 = .ok (.aload_n 0, 1) := by decide +kernel
theorem dX12_init_655 : decode cX12_init 655 = .ok (.sipush 302, 3) := by decide +kernel
theorem dX12_init_658 : decode cX12_init 658 = .ok (.newarray .int, 2) := by decide +kernel
theorem dX12_init_660 : decode cX12_init 660 = .ok (.putfield 241, 3) := by decide +kernel
theorem dX12_init_663 : decode cX12_init 663 = .ok (.aload_n 0, 1) := by decide +kernel
theorem dX12_init_664 : decode cX12_init 664 = .ok (.sipush 303, 3) := by decide +kernel
theorem dX12_init_667 : decode cX12_init 667 = .ok (.newarray .int, 2) := by decide +kernel
theorem dX12_init_669 : decode cX12_init 669 = .ok (.putfield 244, 3) := by decide +kernel
theorem dX12_init_672 : decode cX12_init 672 = .ok (.aload_n 0, 1) := by decide +kernel
theorem dX12_init_673 : decode cX12_init 673 = .ok (.sipush 4130, 3) := by decide +kernel
theorem dX12_init_676 : decode cX12_init 676 = .ok (.newarray .int, 2) := by decide +kernel
theorem dX12_init_678 : decode cX12_init 678 = .ok (.putfield 247, 3) := by decide +kernel
theorem dX12_init_681 : decode cX12_init 681 = .ok (.aload_n 0, 1) := by decide +kernel
theorem dX12_init_682 : decode cX12_init 682 = .ok (.ldc 250, 2) := by decide +kernel
theorem dX12_init_684 : decode cX12_init 684 = .ok (.newarray .long, 2) := by decide +kernel
theorem dX12_init_686 : decode cX12_init 686 = .ok (.putfield 251, 3) := by decide +kernel
theorem dX12_init_689 : decode cX12_init 689 = .ok (.aload_n 0, 1) := by decide +kernel
theorem dX12_init_690 : decode cX12_init 690 = .ok (.sipush 2416, 3) := by decide +kernel
theorem dX12_init_693 : decode cX12_init 693 = .ok (.newarray .long, 2) := by decide +kernel
theorem dX12_init_695 : decode cX12_init 695 = .ok (.putfield 254, 3) := by decide +kernel
theorem dX12_init_698 : decode cX12_init 698 = .ok (.aload_n 0, 1) := by decide +kernel
theorem dX12_init_699 : decode cX12_init 699 = .ok (.sipush 2416, 3) := by decide +kernel
theorem dX12_init_702 : decode cX12_init 702 = .ok (.newarray .long, 2) := by decide +kernel
theorem dX12_init_704 : decode cX12_init 704 = .ok (.putfield 257, 3) := by decide +kernel
theorem dX12_init_707 : decode cX12_init 707 = .ok (.aload_n 0, 1) := by decide +kernel
theorem dX12_init_708 : decode cX12_init 708 = .ok (.ldc_w 260, 3) := by decide +kernel
theorem dX12_init_711 : decode cX12_init 711 = .ok (.newarray .long, 2) := by decide +kernel
theorem dX12_init_713 : decode cX12_init 713 = .ok (.putfield 261, 3) := by decide +kernel
theorem dX12_init_716 : decode cX12_init 716 = .ok (.aload_n 0, 1) := by decide +kernel
theorem dX12_init_717 : decode cX12_init 717 = .ok (.sipush 320, 3) := by decide +kernel
theorem dX12_init_720 : decode cX12_init 720 = .ok (.newarray .long, 2) := by decide +kernel
theorem dX12_init_722 : decode cX12_init 722 = .ok (.putfield 264, 3) := by decide +kernel
theorem dX12_init_725 : decode cX12_init 725 = .ok (.aload_n 0, 1) := by decide +kernel
theorem dX12_init_726 : decode cX12_init 726 = .ok (.sipush 3848, 3) := by decide +kernel
theorem dX12_init_729 : decode cX12_init 729 = .ok (.newarray .long, 2) := by decide +kernel
theorem dX12_init_731 : decode cX12_init 731 = .ok (.putfield 267, 3) := by decide +kernel
theorem dX12_init_734 : decode cX12_init 734 = .ok (.aload_n 0, 1) := by decide +kernel
theorem dX12_init_735 : decode cX12_init 735 = .ok (.sipush 23088, 3) := by decide +kernel
theorem dX12_init_738 : decode cX12_init 738 = .ok (.newarray .long, 2) := by decide +kernel
theorem dX12_init_740 : decode cX12_init 740 = .ok (.putfield 270, 3) := by decide +kernel
theorem dX12_init_743 : decode cX12_init 743 = .ok (.aload_n 0, 1) := by decide +kernel
theorem dX12_init_744 : decode cX12_init 744 = .ok (.sipush 20650, 3) := by decide +kernel
theorem dX12_init_747 : decode cX12_init 747 = .ok (.newarray .long, 2) := by decide +kernel
theorem dX12_init_749 : decode cX12_init 749 = .ok (.putfield 273, 3) := by decide +kernel
theorem dX12_init_752 : decode cX12_init 752 = .ok (.aload_n 0, 1) := by decide +kernel
theorem dX12_init_753 : decode cX12_init 753 = .ok (.sipush 20650, 3) := by decide +kernel
theorem dX12_init_756 : decode cX12_init 756 = .ok (.newarray .long, 2) := by decide +kernel
theorem dX12_init_758 : decode cX12_init 758 = .ok (.putfield 276, 3) := by decide +kernel
theorem dX12_init_761 : decode cX12_init 761 = .ok (.aload_n 0, 1) := by decide +kernel
theorem dX12_init_762 : decode cX12_init 762 = .ok (.ldc_w 279, 3) := by decide +kernel
theorem dX12_init_765 : decode cX12_init 765 = .ok (.newarray .long, 2) := by decide +kernel
theorem dX12_init_767 : decode cX12_init 767 = .ok (.putfield 280, 3) := by decide +kernel
theorem dX12_init_770 : decode cX12_init 770 = .ok (.aload_n 0, 1) := by decide +kernel
theorem dX12_init_771 : decode cX12_init 771 = .ok (.sipush 2405, 3) := by decide +kernel
theorem dX12_init_774 : decode cX12_init 774 = .ok (.newarray .long, 2) := by decide +kernel
theorem dX12_init_776 : decode cX12_init 776 = .ok (.putfield 283, 3) := by decide +kernel
theorem dX12_init_779 : decode cX12_init 779 = .ok (.aload_n 0, 1) := by decide +kernel
theorem dX12_init_780 : decode cX12_init 780 = .ok (.sipush 4130, 3) := by decide +kernel
theorem dX12_init_783 : decode cX12_init 783 = .ok (.newarray .long, 2) := by decide +kernel
theorem dX12_init_785 : decode cX12_init 785 = .ok (.putfield 286, 3) := by decide +kernel
theorem dX12_init_788 : decode cX12_init 788 = .ok (.aload_n 0, 1) := by decide +kernel
theorem dX12_init_789 : decode cX12_init 789 = .ok (.sipush 4130, 3) := by decide +kernel
theorem dX12_init_792 : decode cX12_init 792 = .ok (.newarray .boolean, 2) := by decide +kernel
theorem dX12_init_794 : decode cX12_init 794 = .ok (.putfield 289, 3) := by decide +kernel
theorem dX12_init_797 : decode cX12_init 797 = .ok (.aload_n 0, 1) := by decide +kernel
theorem dX12_init_798 : decode cX12_init 798 = .ok (.bipush 8, 2) := by decide +kernel
theorem dX12_init_800 : decode cX12_init 800 = .ok (.newarray .long, 2) := by decide +kernel
theorem dX12_init_802 : decode cX12_init 802 = .ok (.putfield 292, 3) := by decide +kernel
theorem dX12_init_805 : decode cX12_init 805 = .ok (.aload_n 0, 1) := by decide +kernel
theorem dX12_init_806 : decode cX12_init 806 = .ok (.sipush 481, 3) := by decide +kernel
theorem dX12_init_809 : decode cX12_init 809 = .ok (.newarray .int, 2) := by decide +kernel
theorem dX12_init_811 : decode cX12_init 811 = .ok (.putfield 295, 3) := by decide +kernel
theorem dX12_init_814 : decode cX12_init 814 = .ok (.aload_n 0, 1) := by decide +kernel
theorem dX12_init_815 : decode cX12_init 815 = .ok (.sipush 481, 3) := by decide +kernel
theorem dX12_init_818 : decode cX12_init 818 = .ok (.newarray .int, 2) := by decide +kernel
theorem dX12_init_820 : decode cX12_init 820 = .ok (.putfield 298, 3) := by decide +kernel
theorem dX12_init_823 : decode cX12_init 823 = .ok (.aload_n 0, 1) := by decide +kernel
theorem dX12_init_824 : decode cX12_init 824 = .ok (.bipush 117, 2) := by decide +kernel
theorem dX12_init_826 : decode cX12_init 826 = .ok (.newarray .boolean, 2) := by decide +kernel
theorem dX12_init_828 : decode cX12_init 828 = .ok (.putfield 301, 3) := by decide +kernel
theorem dX12_init_831 : decode cX12_init 831 = .ok (.aload_n 0, 1) := by decide +kernel
theorem dX12_init_832 : decode cX12_init 832 = .ok (.sipush 481, 3) := by decide +kernel
theorem dX12_init_835 : decode cX12_init 835 = .ok (.newarray .boolean, 2) := by decide +kernel
theorem dX12_init_837 : decode cX12_init 837 = .ok (.putfield 304, 3) := by decide +kernel
theorem dX12_init_840 : decode cX12_init 840 = .ok (.aload_n 0, 1) := by decide +kernel
theorem dX12_init_841 : decode cX12_init 841 = .ok (.sipush 481, 3) := by decide +kernel
theorem dX12_init_844 : decode cX12_init 844 = .ok (.newarray .boolean, 2) := by decide +kernel
theorem dX12_init_846 : decode cX12_init 846 = .ok (.putfield 307, 3) := by decide +kernel
theorem dX12_init_849 : decode cX12_init 849 = .ok (.aload_n 0, 1) := by decide +kernel
theorem dX12_init_850 : decode cX12_init 850 = .ok (.sipush 1510, 3) := by decide +kernel
theorem dX12_init_853 : decode cX12_init 853 = .ok (.newarray .long, 2) := by decide +kernel
theorem dX12_init_855 : decode cX12_init 855 = .ok (.putfield 310, 3) := by decide +kernel
theorem dX12_init_858 : decode cX12_init 858 = .ok (.aload_n 0, 1) := by decide +kernel
theorem dX12_init_859 : decode cX12_init 859 = .ok (.sipush 482, 3) := by decide +kernel
theorem dX12_init_862 : decode cX12_init 862 = .ok (.newarray .int, 2) := by decide +kernel
theorem dX12_init_864 : decode cX12_init 864 = .ok (.putfield 313, 3) := by decide +kernel
theorem dX12_init_867 : decode cX12_init 867 = .ok (.aload_n 0, 1) := by decide +kernel
theorem dX12_init_868 : decode cX12_init 868 = .ok (.sipush 481, 3) := by decide +kernel
theorem dX12_init_871 : decode cX12_init 871 = .ok (.newarray .int, 2) := by decide +kernel
theorem dX12_init_873 : decode cX12_init 873 = .ok (.putfield 316, 3) := by decide +kernel
theorem dX12_init_876 : decode cX12_init 876 = .ok (.aload_n 0, 1) := by decide +kernel
theorem dX12_init_877 : decode cX12_init 877 = .ok (.sipush 2410, 3) := by decide +kernel
theorem dX12_init_880 : decode cX12_init 880 = .ok (.newarray .long, 2) := by decide +kernel
theorem dX12_init_882 : decode cX12_init 882 = .ok (.putfield 319, 3) := by decide +kernel
theorem dX12_init_885 : decode cX12_init 885 = .ok (.aload_n 0, 1) := by decide +kernel
theorem dX12_init_886 : decode cX12_init 886 = .ok (.sipush 482, 3) := by decide +kernel
theorem dX12_init_889 : decode cX12_init 889 = .ok (.newarray .boolean, 2) := by decide +kernel
theorem dX12_init_891 : decode cX12_init 891 = .ok (.putfield 322, 3) := by decide +kernel
theorem dX12_init_894 : decode cX12_init 894 = .ok (.aload_n 0, 1) := by decide +kernel
theorem dX12_init_895 : decode cX12_init 895 = .ok (.ldc_w 325, 3) := by decide +kernel
theorem dX12_init_898 : decode cX12_init 898 = .ok (.newarray .boolean, 2) := by decide +kernel
theorem dX12_init_900 : decode cX12_init 900 = .ok (.putfield 326, 3) := by decide +kernel
theorem dX12_init_903 : decode cX12_init 903 = .ok (.aload_n 0, 1) := by decide +kernel
theorem dX12_init_904 : decode cX12_init 904 = .ok (.ldc_w 325, 3) := by decide +kernel
theorem dX12_init_907 : decode cX12_init 907 = .ok (.newarray .boolean, 2) := by decide +kernel
theorem dX12_init_909 : decode cX12_init 909 = .ok (.putfield 329, 3) := by decide +kernel
theorem dX12_init_912 : decode cX12_init 912 = .ok (.aload_n 0, 1) := by decide +kernel
theorem dX12_init_913 : decode cX12_init 913 = .ok (.ldc_w 279, 3) := by decide +kernel
theorem dX12_init_916 : decode cX12_init 916 = .ok (.newarray .long, 2) := by decide +kernel
theorem dX12_init_918 : decode cX12_init 918 = .ok (.putfield 332, 3) := by decide +kernel
theorem dX12_init_921 : decode cX12_init 921 = .ok (.aload_n 0, 1) := by decide +kernel
theorem dX12_init_922 : decode cX12_init 922 = .ok (.ldc_w 279, 3) := by decide +kernel
theorem dX12_init_925 : decode cX12_init 925 = .ok (.newarray .long, 2) := by decide +kernel
theorem dX12_init_927 : decode cX12_init 927 = .ok (.putfield 335, 3) := by decide +kernel
theorem dX12_init_930 : decode cX12_init 930 = .ok (.aload_n 0, 1) := by decide +kernel
theorem dX12_init_931 : decode cX12_init 931 = .ok (.sipush 2416, 3) := by decide +kernel
theorem dX12_init_934 : decode cX12_init 934 = .ok (.newarray .long, 2) := by decide +kernel
theorem dX12_init_936 : decode cX12_init 936 = .ok (.putfield 338, 3) := by decide +kernel
theorem dX12_init_939 : decode cX12_init 939 = .ok (.aload_n 0, 1) := by decide +kernel
theorem dX12_init_940 : decode cX12_init 940 = .ok (.sipush 2416, 3) := by decide +kernel
theorem dX12_init_943 : decode cX12_init 943 = .ok (.newarray .long, 2) := by decide +kernel
theorem dX12_init_945 : decode cX12_init 945 = .ok (.putfield 341, 3) := by decide +kernel
theorem dX12_init_948 : decode cX12_init 948 = .ok (.aload_n 0, 1) := by decide +kernel
theorem dX12_init_949 : decode cX12_init 949 = .ok (.sipush 16224, 3) := by decide +kernel
theorem dX12_init_952 : decode cX12_init 952 = .ok (.newarray .long, 2) := by decide +kernel
theorem dX12_init_954 : decode cX12_init 954 = .ok (.putfield 344, 3) := by decide +kernel
theorem dX12_init_957 : decode cX12_init 957 = .ok (.aload_n 0, 1) := by decide +kernel
theorem dX12_init_958 : decode cX12_init 958 = .ok (.sipush 3848, 3) := by decide +kernel
theorem dX12_init_961 : decode cX12_init 961 = .ok (.newarray .long, 2) := by decide +kernel
theorem dX12_init_963 : decode cX12_init 963 = .ok (.putfield 347, 3) := by decide +kernel
theorem dX12_init_966 : decode cX12_init 966 = .ok (.aload_n 0, 1) := by decide +kernel
theorem dX12_init_967 : decode cX12_init 967 = .ok (.sipush 1014, 3) := by decide +kernel
theorem dX12_init_970 : decode cX12_init 970 = .ok (.newarray .boolean, 2) := by decide +kernel
theorem dX12_init_972 : decode cX12_init 972 = .ok (.putfield 350, 3) := by decide +kernel
theorem dX12_init_975 : decode cX12_init 975 = .ok (.aload_n 0, 1) := by decide +kernel
theorem dX12_init_976 : decode cX12_init 976 = .ok (.sipush 1014, 3) := by decide +kernel
theorem dX12_init_979 : decode cX12_init 979 = .ok (.newarray .int, 2) := by decide +kernel
theorem dX12_init_981 : decode cX12_init 981 = .ok (.putfield 353, 3) := by decide +kernel
theorem dX12_init_984 : decode cX12_init 984 = .ok (.aload_n 0, 1) := by decide +kernel
theorem dX12_init_985 : decode cX12_init 985 = .ok (.bipush 117, 2) := by decide +kernel
theorem dX12_init_987 : decode cX12_init 987 = .ok (.newarray .int, 2) := by decide +kernel
theorem dX12_init_989 : decode cX12_init 989 = .ok (.putfield 356, 3) := by decide +kernel
theorem dX12_init_992 : decode cX12_init 992 = .ok (.aload_n 0, 1) := by decide +kernel
theorem dX12_init_993 : decode cX12_init 993 = .ok (.ldc_w 359, 3) := by decide +kernel
theorem dX12_init_996 : decode cX12_init 996 = .ok (.newarray .boolean, 2) := by decide +kernel
theorem dX12_init_998 : decode cX12_init 998 = .ok (.putfield 360, 3) := by decide +kernel
theorem dX12_init_1001 : decode cX12_init 1001 = .ok (.aload_n 0, 1) := by decide +kernel
theorem dX12_init_1002 : decode cX12_init 1002 = .ok (.sipush 3400, 3) := by decide +kernel
theorem dX12_init_1005 : decode cX12_init 1005 = .ok (.newarray .long, 2) := by decide +kernel
theorem dX12_init_1007 : decode cX12_init 1007 = .ok (.putfield 363, 3) := by decide +kernel
theorem dX12_init_1010 : decode cX12_init 1010 = .ok (.aload_n 0, 1) := by decide +kernel
theorem dX12_init_1011 : decode cX12_init 1011 = .ok (.sipush 3400, 3) := by decide +kernel
theorem dX12_init_1014 : decode cX12_init 1014 = .ok (.newarray .long, 2) := by decide +kernel
theorem dX12_init_1016 : decode cX12_init 1016 = .ok (.putfield 366, 3) := by decide +kernel
theorem dX12_init_1019 : decode cX12_init 1019 = .ok (.aload_n 0, 1) := by decide +kernel
theorem dX12_init_1020 : decode cX12_init 1020 = .ok (.sipush 3848, 3) := by decide +kernel
theorem dX12_init_1023 : decode cX12_init 1023 = .ok (.newarray .long, 2) := by decide +kernel
theorem dX12_init_1025 : decode cX12_init 1025 = .ok (.putfield 369, 3) := by decide +kernel
theorem dX12_init_1028 : decode cX12_init 1028 = .ok (.aload_n 0, 1) := by decide +kernel
theorem dX12_init_1029 : decode cX12_init 1029 = .ok (.sipush 1014, 3) := by decide +kernel
theorem dX12_init_1032 : decode cX12_init 1032 = .ok (.newarray .long, 2) := by decide +kernel
theorem dX12_init_1034 : decode cX12_init 1034 = .ok (.putfield 372, 3) := by decide +kernel
theorem dX12_init_1037 : decode cX12_init 1037 = .ok (.aload_n 0, 1) := by decide +kernel
theorem dX12_init_1038 : decode cX12_init 1038 = .ok (.sipush 1014, 3) := by decide +kernel
theorem dX12_init_1041 : decode cX12_init 1041 = .ok (.newarray .long, 2) := by decide +kernel
theorem dX12_init_1043 : decode cX12_init 1043 = .ok (.putfield 375, 3) := by decide +kernel
theorem dX12_init_1046 : decode cX12_init 1046 = .ok (.aload_n 0, 1) := by decide +kernel
theorem dX12_init_1047 : decode cX12_init 1047 = .ok (.bipush 117, 2) := by decide +kernel
theorem dX12_init_1049 : decode cX12_init 1049 = .ok (.newarray .int, 2) := by decide +kernel
theorem dX12_init_1051 : decode cX12_init 1051 = .ok (.putfield 378, 3) := by decide +kernel
theorem dX12_init_1054 : decode cX12_init 1054 = .ok (.aload_n 0, 1) := by decide +kernel
theorem dX12_init_1055 : decode cX12_init 1055 = .ok (.bipush 120, 2) := by decide +kernel
theorem dX12_init_1057 : decode cX12_init 1057 = .ok (.newarray .int, 2) := by decide +kernel
theorem dX12_init_1059 : decode cX12_init 1059 = .ok (.putfield 381, 3) := by decide +kernel
theorem dX12_init_1062 : decode cX12_init 1062 = .ok (.aload_n 0, 1) := by decide +kernel
theorem dX12_init_1063 : decode cX12_init 1063 = .ok (.sipush 200, 3) := by decide +kernel
theorem dX12_init_1066 : decode cX12_init 1066 = .ok (.newarray .int, 2) := by decide +kernel
theorem dX12_init_1068 : decode cX12_init 1068 = .ok (.putfield 384, 3) := by decide +kernel
theorem dX12_init_1071 : decode cX12_init 1071 = .ok (.aload_n 0, 1) := by decide +kernel
theorem dX12_init_1072 : decode cX12_init 1072 = .ok (.iconst (-1), 1) := by decide +kernel
theorem dX12_init_1073 : decode cX12_init 1073 = .ok (.putfield 387, 3) := by decide +kernel
theorem dX12_init_1076 : decode cX12_init 1076 = .ok (.aload_n 0, 1) := by decide +kernel
theorem dX12_init_1077 : decode cX12_init 1077 = .ok (.bipush 22, 2) := by decide +kernel
theorem dX12_init_1079 : decode cX12_init 1079 = .ok (.newarray .long, 2) := by decide +kernel
theorem dX12_init_1081 : decode cX12_init 1081 = .ok (.putfield 390, 3) := by decide +kernel
theorem dX12_init_1084 : decode cX12_init 1084 = .ok (.aload_n 0, 1) := by decide +kernel
theorem dX12_init_1085 : decode cX12_init 1085 = .ok (.bipush 22, 2) := by decide +kernel
theorem dX12_init_1087 : decode cX12_init 1087 = .ok (.newarray .long, 2) := by decide +kernel
theorem dX12_init_1089 : decode cX12_init 1089 = .ok (.putfield 393, 3) := by decide +kernel
theorem dX12_init_1092 : decode cX12_init 1092 = .ok (.aload_n 0, 1) := by decide +kernel
theorem dX12_init_1093 : decode cX12_init 1093 = .ok (.bipush 22, 2) := by decide +kernel
theorem dX12_init_1095 : decode cX12_init 1095 = .ok (.newarray .int, 2) := by decide +kernel
theorem dX12_init_1097 : decode cX12_init 1097 = .ok (.putfield 396, 3) := by decide +kernel
theorem dX12_init_1100 : decode cX12_init 1100 = .ok (.aload_n 0, 1) := by decide +kernel
theorem dX12_init_1101 : decode cX12_init 1101 = .ok (.bipush 22, 2) := by decide +kernel
theorem dX12_init_1103 : decode cX12_init 1103 = .ok (.newarray .long, 2) := by decide +kernel
theorem dX12_init_1105 : decode cX12_init 1105 = .ok (.putfield 399, 3) := by decide +kernel
theorem dX12_init_1108 : decode cX12_init 1108 = .ok (.aload_n 0, 1) := by decide +kernel
theorem dX12_init_1109 : decode cX12_init 1109 = .ok (.bipush 22, 2) := by decide +kernel
theorem dX12_init_1111 : decode cX12_init 1111 = .ok (.newarray .long, 2) := by decide +kernel
theorem dX12_init_1113 : decode cX12_init 1113 = .ok (.putfield 402, 3) := by decide +kernel
theorem dX12_init_1116 : decode cX12_init 1116 = .ok (.aload_n 0, 1) := by decide +kernel
theorem dX12_init_1117 : decode cX12_init 1117 = .ok (.bipush 22, 2) := by decide +kernel
theorem dX12_init_1119 : decode cX12_init 1119 = .ok (.newarray .boolean, 2) := by decide +kernel
theorem dX12_init_1121 : decode cX12_init 1121 = .ok (.putfield 405, 3) := by decide +kernel
theorem dX12_init_1124 : decode cX12_init 1124 = .ok (.aload_n 0, 1) := by decide +kernel
theorem dX12_init_1125 : decode cX12_init 1125 = .ok (.bipush 22, 2) := by decide +kernel
theorem dX12_init_1127 : decode cX12_init 1127 = .ok (.newarray .int, 2) := by decide +kernel
theorem dX12_init_1129 : decode cX12_init 1129 = .ok (.putfield 408, 3) := by decide +kernel
theorem dX12_init_1132 : decode cX12_init 1132 = .ok (.aload_n 0, 1) := by decide +kernel
theorem dX12_init_1133 : decode cX12_init 1133 = .ok (.sipush 400, 3) := by decide +kernel
theorem dX12_init_1136 : decode cX12_init 1136 = .ok (.newarray .int, 2) := by decide +kernel
theorem dX12_init_1138 : decode cX12_init 1138 = .ok (.putfield 411, 3) := by decide +kernel
theorem dX12_init_1141 : decode cX12_init 1141 = .ok (.aload_n 0, 1) := by decide +kernel
theorem dX12_init_1142 : decode cX12_init 1142 = .ok (.sipush 400, 3) := by decide +kernel
theorem dX12_init_1145 : decode cX12_init 1145 = .ok (.newarray .int, 2) := by decide +kernel
theorem dX12_init_1147 : decode cX12_init 1147 = .ok (.putfield 414, 3) := by decide +kernel
theorem dX12_init_1150 : decode cX12_init 1150 = .ok (.aload_n 0, 1) := by decide +kernel
theorem dX12_init_1151 : decode cX12_init 1151 = .ok (.sipush 400, 3) := by decide +kernel
theorem dX12_init_1154 : decode cX12_init 1154 = .ok (.newarray .int, 2) := by decide +kernel
theorem dX12_init_1156 : decode cX12_init 1156 = .ok (.putfield 417, 3) := by decide +kernel
theorem dX12_init_1159 : decode cX12_init 1159 = .ok (.aload_n 0, 1) := by decide +kernel
theorem dX12_init_1160 : decode cX12_init 1160 = .ok (.sipush 400, 3) := by decide +kernel
theorem dX12_init_1163 : decode cX12_init 1163 = .ok (.newarray .int, 2) := by decide +kernel
theorem dX12_init_1165 : decode cX12_init 1165 = .ok (.putfield 420, 3) := by decide +kernel
theorem dX12_init_1168 : decode cX12_init 1168 = .ok (.aload_n 0, 1) := by decide +kernel
theorem dX12_init_1169 : decode cX12_init 1169 = .ok (.sipush 400, 3) := by decide +kernel
theorem dX12_init_1172 : decode cX12_init 1172 = .ok (.newarray .int, 2) := by decide +kernel
theorem dX12_init_1174 : decode cX12_init 1174 = .ok (.putfield 423, 3) := by decide +kernel
theorem dX12_init_1177 : decode cX12_init 1177 = .ok (.aload_n 0, 1) := by decide +kernel
theorem dX12_init_1178 : decode cX12_init 1178 = .ok (.sipush 400, 3) := by decide +kernel
theorem dX12_init_1181 : decode cX12_init 1181 = .ok (.newarray .int, 2) := by decide +kernel
theorem dX12_init_1183 : decode cX12_init 1183 = .ok (.putfield 426, 3) := by decide +kernel
theorem dX12_init_1186 : decode cX12_init 1186 = .ok (.aload_n 0, 1) := by decide +kernel
theorem dX12_init_1187 : decode cX12_init 1187 = .ok (.sipush 400, 3) := by decide +kernel
theorem dX12_init_1190 : decode cX12_init 1190 = .ok (.newarray .int, 2) := by decide +kernel
theorem dX12_init_1192 : decode cX12_init 1192 = .ok (.putfield 429, 3) := by decide +kernel
theorem dX12_init_1195 : decode cX12_init 1195 = .ok (.aload_n 0, 1) := by decide +kernel
theorem dX12_init_1196 : decode cX12_init 1196 = .ok (.sipush 4800, 3) := by decide +kernel
theorem dX12_init_1199 : decode cX12_init 1199 = .ok (.newarray .int, 2) := by decide +kernel
theorem dX12_init_1201 : decode cX12_init 1201 = .ok (.putfield 432, 3) := by decide +kernel
theorem dX12_init_1204 : decode cX12_init 1204 = .ok (.aload_n 0, 1) := by decide +kernel
theorem dX12_init_1205 : decode cX12_init 1205 = .ok (.sipush 16000, 3) := by decide +kernel
theorem dX12_init_1208 : decode cX12_init 1208 = .ok (.newarray .int, 2) := by decide +kernel
theorem dX12_init_1210 : decode cX12_init 1210 = .ok (.putfield 435, 3) := by decide +kernel
theorem dX12_init_1213 : decode cX12_init 1213 = .ok (.aload_n 0, 1) := by decide +kernel
theorem dX12_init_1214 : decode cX12_init 1214 = .ok (.bipush 40, 2) := by decide +kernel
theorem dX12_init_1216 : decode cX12_init 1216 = .ok (.newarray .int, 2) := by decide +kernel
theorem dX12_init_1218 : decode cX12_init 1218 = .ok (.putfield 438, 3) := by decide +kernel
theorem dX12_init_1221 : decode cX12_init 1221 = .ok (.aload_n 0, 1) := by decide +kernel
theorem dX12_init_1222 : decode cX12_init 1222 = .ok (.sipush 6400, 3) := by decide +kernel
theorem dX12_init_1225 : decode cX12_init 1225 = .ok (.newarray .int, 2) := by decide +kernel
theorem dX12_init_1227 : decode cX12_init 1227 = .ok (.putfield 441, 3) := by decide +kernel
theorem dX12_init_1230 : decode cX12_init 1230 = .ok (.aload_n 0, 1) := by decide +kernel
theorem dX12_init_1231 : decode cX12_init 1231 = .ok (.sipush 2400, 3) := by decide +kernel
theorem dX12_init_1234 : decode cX12_init 1234 = .ok (.newarray .int, 2) := by decide +kernel
theorem dX12_init_1236 : decode cX12_init 1236 = .ok (.putfield 444, 3) := by decide +kernel
theorem dX12_init_1239 : decode cX12_init 1239 = .ok (.aload_n 0, 1) := by decide +kernel
theorem dX12_init_1240 : decode cX12_init 1240 = .ok (.sipush 2400, 3) := by decide +kernel
theorem dX12_init_1243 : decode cX12_init 1243 = .ok (.newarray .boolean, 2) := by decide +kernel
theorem dX12_init_1245 : decode cX12_init 1245 = .ok (.putfield 447, 3) := by decide +kernel
theorem dX12_init_1248 : decode cX12_init 1248 = .ok (.aload_n 0, 1) := by decide +kernel
theorem dX12_init_1249 : decode cX12_init 1249 = .ok (.bipush 12, 2) := by decide +kernel
theorem dX12_init_1251 : decode cX12_init 1251 = .ok (.newarray .boolean, 2) := by decide +kernel
theorem dX12_init_1253 : decode cX12_init 1253 = .ok (.putfield 450, 3) := by decide +kernel
theorem dX12_init_1256 : decode cX12_init 1256 = .ok (.aload_n 0, 1) := by decide +kernel
theorem dX12_init_1257 : decode cX12_init 1257 = .ok (.bipush 12, 2) := by decide +kernel
theorem dX12_init_1259 : decode cX12_init 1259 = .ok (.newarray .int, 2) := by decide +kernel
theorem dX12_init_1261 : decode cX12_init 1261 = .ok (.putfield 453, 3) := by decide +kernel
theorem dX12_init_1264 : decode cX12_init 1264 = .ok (.aload_n 0, 1) := by decide +kernel
theorem dX12_init_1265 : decode cX12_init 1265 = .ok (.bipush 12, 2) := by decide +kernel
theorem dX12_init_1267 : decode cX12_init 1267 = .ok (.newarray .boolean, 2) := by decide +kernel
theorem dX12_init_1269 : decode cX12_init 1269 = .ok (.putfield 456, 3) := by decide +kernel
theorem dX12_init_1272 : decode cX12_init 1272 = .ok (.aload_n 0, 1) := by decide +kernel
theorem dX12_init_1273 : decode cX12_init 1273 = .ok (.bipush 12, 2) := by decide +kernel
theorem dX12_init_1275 : decode cX12_init 1275 = .ok (.newarray .int, 2) := by decide +kernel
theorem dX12_init_1277 : decode cX12_init 1277 = .ok (.putfield 459, 3) := by decide +kernel
theorem dX12_init_1280 : decode cX12_init 1280 = .ok (.aload_n 0, 1) := by decide +kernel
theorem dX12_init_1281 : decode cX12_init 1281 = .ok (.bipush 12, 2) := by decide +kernel
theorem dX12_init_1283 : decode cX12_init 1283 = .ok (.newarray .int, 2) := by decide +kernel
theorem dX12_init_1285 : decode cX12_init 1285 = .ok (.putfield 462, 3) := by decide +kernel
theorem dX12_init_1288 : decode cX12_init 1288 = .ok (.aload_n 0, 1) := by decide +kernel
theorem dX12_init_1289 : decode cX12_init 1289 = .ok (.bipush 12, 2) := by decide +kernel
theorem dX12_init_1291 : decode cX12_init 1291 = .ok (.newarray .int, 2) := by decide +kernel
theorem dX12_init_1293 : decode cX12_init 1293 = .ok (.putfield 465, 3) := by decide +kernel
theorem dX12_init_1296 : decode cX12_init 1296 = .ok (.aload_n 0, 1) := by decide +kernel
theorem dX12_init_1297 : decode cX12_init 1297 = .ok (.bipush 12, 2) := by decide +kernel
theorem dX12_init_1299 : decode cX12_init 1299 = .ok (.newarray .int, 2) := by decide +kernel
theorem dX12_init_1301 : decode cX12_init 1301 = .ok (.putfield 468, 3) := by decide +kernel
theorem dX12_init_1304 : decode cX12_init 1304 = .ok (.aload_n 0, 1) := by decide +kernel
theorem dX12_init_1305 : decode cX12_init 1305 = .ok (.bipush 12, 2) := by decide +kernel
theorem dX12_init_1307 : decode cX12_init 1307 = .ok (.newarray .int, 2) := by decide +kernel
theorem dX12_init_1309 : decode cX12_init 1309 = .ok (.putfield 471, 3) := by decide +kernel
theorem dX12_init_1312 : decode cX12_init 1312 = .ok (.aload_n 0, 1) := by decide +kernel
theorem dX12_init_1313 : decode cX12_init 1313 = .ok (.sipush 144, 3) := by decide +kernel
theorem dX12_init_1316 : decode cX12_init 1316 = .ok (.newarray .int, 2) := by decide +kernel
theorem dX12_init_1318 : decode cX12_init 1318 = .ok (.putfield 474, 3) := by decide +kernel
theorem dX12_init_1321 : decode cX12_init 1321 = .ok (.aload_n 0, 1) := by decide +kernel
theorem dX12_init_1322 : decode cX12_init 1322 = .ok (.sipush 360, 3) := by decide +kernel
theorem dX12_init_1325 : decode cX12_init 1325 = .ok (.newarray .int, 2) := by decide +kernel
theorem dX12_init_1327 : decode cX12_init 1327 = .ok (.putfield 477, 3) := by decide +kernel
theorem dX12_init_1330 : decode cX12_init 1330 = .ok (.aload_n 0, 1) := by decide +kernel
theorem dX12_init_1331 : decode cX12_init 1331 = .ok (.sipush 360, 3) := by decide +kernel
theorem dX12_init_1334 : decode cX12_init 1334 = .ok (.newarray .int, 2) := by decide +kernel
theorem dX12_init_1336 : decode cX12_init 1336 = .ok (.putfield 480, 3) := by decide +kernel
theorem dX12_init_1339 : decode cX12_init 1339 = .ok (.aload_n 0, 1) := by decide +kernel
theorem dX12_init_1340 : decode cX12_init 1340 = .ok (.sipush 360, 3) := by decide +kernel
theorem dX12_init_1343 : decode cX12_init 1343 = .ok (.newarray .int, 2) := by decide +kernel
theorem dX12_init_1345 : decode cX12_init 1345 = .ok (.putfield 483, 3) := by decide +kernel
theorem dX12_init_1348 : decode cX12_init 1348 = .ok (.aload_n 0, 1) := by decide +kernel
theorem dX12_init_1349 : decode cX12_init 1349 = .ok (.sipush 360, 3) := by decide +kernel
theorem dX12_init_1352 : decode cX12_init 1352 = .ok (.newarray .int, 2) := by decide +kernel
theorem dX12_init_1354 : decode cX12_init 1354 = .ok (.putfield 486, 3) := by decide +kernel
theorem dX12_init_1357 : decode cX12_init 1357 = .ok (.aload_n 0, 1) := by decide +kernel
theorem dX12_init_1358 : decode cX12_init 1358 = .ok (.sipush 360, 3) := by decide +kernel
theorem dX12_init_1361 : decode cX12_init 1361 = .ok (.newarray .int, 2) := by decide +kernel
theorem dX12_init_1363 : decode cX12_init 1363 = .ok (.putfield 489, 3) := by decide +kernel
theorem dX12_init_1366 : decode cX12_init 1366 = .ok (.aload_n 0, 1) := by decide +kernel
theorem dX12_init_1367 : decode cX12_init 1367 = .ok (.sipush 360, 3) := by decide +kernel
theorem dX12_init_1370 : decode cX12_init 1370 = .ok (.newarray .int, 2) := by decide +kernel
theorem dX12_init_1372 : decode cX12_init 1372 = .ok (.putfield 492, 3) := by decide +kernel
theorem dX12_init_1375 : decode cX12_init 1375 = .ok (.aload_n 0, 1) := by decide +kernel
theorem dX12_init_1376 : decode cX12_init 1376 = .ok (.sipush 360, 3) := by decide +kernel
theorem dX12_init_1379 : decode cX12_init 1379 = .ok (.newarray .int, 2) := by decide +kernel
theorem dX12_init_1381 : decode cX12_init 1381 = .ok (.putfield 495, 3) := by decide +kernel
theorem dX12_init_1384 : decode cX12_init 1384 = .ok (.aload_n 0, 1) := by decide +kernel
theorem dX12_init_1385 : decode cX12_init 1385 = .ok (.sipush 360, 3) := by decide +kernel
theorem dX12_init_1388 : decode cX12_init 1388 = .ok (.newarray .boolean, 2) := by decide +kernel
theorem dX12_init_1390 : decode cX12_init 1390 = .ok (.putfield 498, 3) := by decide +kernel
theorem dX12_init_1393 : decode cX12_init 1393 = .ok (.aload_n 0, 1) := by decide +kernel
theorem dX12_init_1394 : decode cX12_init 1394 = .ok (.sipush 360, 3) := by decide +kernel
theorem dX12_init_1397 : decode cX12_init 1397 = .ok (.newarray .int, 2) := by decide +kernel
theorem dX12_init_1399 : decode cX12_init 1399 = .ok (.putfield 501, 3) := by decide +kernel
theorem dX12_init_1402 : decode cX12_init 1402 = .ok (.aload_n 0, 1) := by decide +kernel
theorem dX12_init_1403 : decode cX12_init 1403 = .ok (.sipush 360, 3) := by decide +kernel
theorem dX12_init_1406 : decode cX12_init 1406 = .ok (.newarray .boolean, 2) := by decide +kernel
theorem dX12_init_1408 : decode cX12_init 1408 = .ok (.putfield 504, 3) := by decide +kernel
theorem dX12_init_1411 : decode cX12_init 1411 = .ok (.aload_n 0, 1) := by decide +kernel
theorem dX12_init_1412 : decode cX12_init 1412 = .ok (.sipush 360, 3) := by decide +kernel
theorem dX12_init_1415 : decode cX12_init 1415 = .ok (.newarray .int, 2) := by decide +kernel
theorem dX12_init_1417 : decode cX12_init 1417 = .ok (.putfield 507, 3) := by decide +kernel
theorem dX12_init_1420 : decode cX12_init 1420 = .ok (.aload_n 0, 1) := by decide +kernel
theorem dX12_init_1421 : decode cX12_init 1421 = .ok (.sipush 2160, 3) := by decide +kernel
theorem dX12_init_1424 : decode cX12_init 1424 = .ok (.newarray .int, 2) := by decide +kernel
theorem dX12_init_1426 : decode cX12_init 1426 = .ok (.putfield 510, 3) := by decide +kernel
theorem dX12_init_1429 : decode cX12_init 1429 = .ok (.aload_n 0, 1) := by decide +kernel
theorem dX12_init_1430 : decode cX12_init 1430 = .ok (.sipush 6480, 3) := by decide +kernel
theorem dX12_init_1433 : decode cX12_init 1433 = .ok (.newarray .int, 2) := by decide +kernel
theorem dX12_init_1435 : decode cX12_init 1435 = .ok (.putfield 513, 3) := by decide +kernel
theorem dX12_init_1438 : decode cX12_init 1438 = .ok (.aload_n 0, 1) := by decide +kernel
theorem dX12_init_1439 : decode cX12_init 1439 = .ok (.sipush 6480, 3) := by decide +kernel
theorem dX12_init_1442 : decode cX12_init 1442 = .ok (.newarray .int, 2) := by decide +kernel
theorem dX12_init_1444 : decode cX12_init 1444 = .ok (.putfield 516, 3) := by decide +kernel
theorem dX12_init_1447 : decode cX12_init 1447 = .ok (.aload_n 0, 1) := by decide +kernel
theorem dX12_init_1448 : decode cX12_init 1448 = .ok (.bipush 43, 2) := by decide +kernel
theorem dX12_init_1450 : decode cX12_init 1450 = .ok (.newarray .int, 2) := by decide +kernel
theorem dX12_init_1452 : decode cX12_init 1452 = .ok (.putfield 519, 3) := by decide +kernel
theorem dX12_init_1455 : decode cX12_init 1455 = .ok (.aload_n 0, 1) := by decide +kernel
theorem dX12_init_1456 : decode cX12_init 1456 = .ok (.bipush 43, 2) := by decide +kernel
theorem dX12_init_1458 : decode cX12_init 1458 = .ok (.newarray .int, 2) := by decide +kernel
theorem dX12_init_1460 : decode cX12_init 1460 = .ok (.putfield 522, 3) := by decide +kernel
theorem dX12_init_1463 : decode cX12_init 1463 = .ok (.aload_n 0, 1) := by decide +kernel
theorem dX12_init_1464 : decode cX12_init 1464 = .ok (.sipush 516, 3) := by decide +kernel
theorem dX12_init_1467 : decode cX12_init 1467 = .ok (.newarray .int, 2) := by decide +kernel
theorem dX12_init_1469 : decode cX12_init 1469 = .ok (.putfield 525, 3) := by decide +kernel
theorem dX12_init_1472 : decode cX12_init 1472 = .ok (.aload_n 0, 1) := by decide +kernel
theorem dX12_init_1473 : decode cX12_init 1473 = .ok (.ldc_w 528, 3) := by decide +kernel
theorem dX12_init_1476 : decode cX12_init 1476 = .ok (.newarray .int, 2) := by decide +kernel
theorem dX12_init_1478 : decode cX12_init 1478 = .ok (.putfield 529, 3) := by decide +kernel
theorem dX12_init_1481 : decode cX12_init 1481 = .ok (.aload_n 0, 1) := by decide +kernel
theorem dX12_init_1482 : decode cX12_init 1482 = .ok (.ldc_w 532, 3) := by decide +kernel
theorem dX12_init_1485 : decode cX12_init 1485 = .ok (.newarray .int, 2) := by decide +kernel
theorem dX12_init_1487 : decode cX12_init 1487 = .ok (.putfield 533, 3) := by decide +kernel
theorem dX12_init_1490 : decode cX12_init 1490 = .ok (.aload_n 0, 1) := by decide +kernel
theorem dX12_init_1491 : decode cX12_init 1491 = .ok (.ldc_w 532, 3) := by decide +kernel
theorem dX12_init_1494 : decode cX12_init 1494 = .ok (.newarray .int, 2) := by decide +kernel
theorem dX12_init_1496 : decode cX12_init 1496 = .ok (.putfield 536, 3) := by decide +kernel
theorem dX12_init_1499 : decode cX12_init 1499 = .ok (.aload_n 0, 1) := by decide +kernel
theorem dX12_init_1500 : decode cX12_init 1500 = .ok (.ldc_w 532, 3) := by decide +kernel
theorem dX12_init_1503 : decode cX12_init 1503 = .ok (.newarray .int, 2) := by decide +kernel
theorem dX12_init_1505 : decode cX12_init 1505 = .ok (.putfield 539, 3) := by decide +kernel
theorem dX12_init_1508 : decode cX12_init 1508 = .ok (.aload_n 0, 1) := by decide +kernel
theorem dX12_init_1509 : decode cX12_init 1509 = .ok (.ldc_w 532, 3) := by decide +kernel
theorem dX12_init_1512 : decode cX12_init 1512 = .ok (.newarray .int, 2) := by decide +kernel
theorem dX12_init_1514 : decode cX12_init 1514 = .ok (.putfield 542, 3) := by decide +kernel
theorem dX12_init_1517 : decode cX12_init 1517 = .ok (.aload_n 0, 1) := by decide +kernel
theorem dX12_init_1518 : decode cX12_init 1518 = .ok (.sipush 1000, 3) := by decide +kernel
theorem dX12_init_1521 : decode cX12_init 1521 = .ok (.newarray .int, 2) := by decide +kernel
theorem dX12_init_1523 : decode cX12_init 1523 = .ok (.putfield 545, 3) := by decide +kernel
theorem dX12_init_1526 : decode cX12_init 1526 = .ok (.aload_n 0, 1) := by decide +kernel
theorem dX12_init_1527 : decode cX12_init 1527 = .ok (.sipush 16224, 3) := by decide +kernel
theorem dX12_init_1530 : decode cX12_init 1530 = .ok (.newarray .long, 2) := by decide +kernel
theorem dX12_init_1532 : decode cX12_init 1532 = .ok (.putfield 548, 3) := by decide +kernel
theorem dX12_init_1535 : decode cX12_init 1535 = .ok (.aload_n 0, 1) := by decide +kernel
theorem dX12_init_1536 : decode cX12_init 1536 = .ok (.sipush 200, 3) := by decide +kernel
theorem dX12_init_1539 : decode cX12_init 1539 = .ok (.newarray .int, 2) := by decide +kernel
theorem dX12_init_1541 : decode cX12_init 1541 = .ok (.putfield 551, 3) := by decide +kernel
theorem dX12_init_1544 : decode cX12_init 1544 = .ok (.aload_n 0, 1) := by decide +kernel
theorem dX12_init_1545 : decode cX12_init 1545 = .ok (.sipush 400, 3) := by decide +kernel
theorem dX12_init_1548 : decode cX12_init 1548 = .ok (.newarray .int, 2) := by decide +kernel
theorem dX12_init_1550 : decode cX12_init 1550 = .ok (.putfield 554, 3) := by decide +kernel
theorem dX12_init_1553 : decode cX12_init 1553 = .ok (.aload_n 0, 1) := by decide +kernel
theorem dX12_init_1554 : decode cX12_init 1554 = .ok (.sipush 400, 3) := by decide +kernel
theorem dX12_init_1557 : decode cX12_init 1557 = .ok (.newarray .int, 2) := by decide +kernel
theorem dX12_init_1559 : decode cX12_init 1559 = .ok (.putfield 557, 3) := by decide +kernel
theorem dX12_init_1562 : decode cX12_init 1562 = .ok (.aload_n 0, 1) := by decide +kernel
theorem dX12_init_1563 : decode cX12_init 1563 = .ok (.sipush 400, 3) := by decide +kernel
theorem dX12_init_1566 : decode cX12_init 1566 = .ok (.newarray .int, 2) := by decide +kernel
theorem dX12_init_1568 : decode cX12_init 1568 = .ok (.putfield 560, 3) := by decide +kernel
theorem dX12_init_1571 : decode cX12_init 1571 = .ok (.aload_n 0, 1) := by decide +kernel
theorem dX12_init_1572 : decode cX12_init 1572 = .ok (.sipush 4800, 3) := by decide +kernel
theorem dX12_init_1575 : decode cX12_init 1575 = .ok (.newarray .int, 2) := by decide +kernel
theorem dX12_init_1577 : decode cX12_init 1577 = .ok (.putfield 563, 3) := by decide +kernel
theorem dX12_init_1580 : decode cX12_init 1580 = .ok (.aload_n 0, 1) := by decide +kernel
theorem dX12_init_1581 : decode cX12_init 1581 = .ok (.sipush 144, 3) := by decide +kernel
theorem dX12_init_1584 : decode cX12_init 1584 = .ok (.newarray .int, 2) := by decide +kernel
theorem dX12_init_1586 : decode cX12_init 1586 = .ok (.putfield 566, 3) := by decide +kernel
theorem dX12_init_1589 : decode cX12_init 1589 = .ok (.aload_n 0, 1) := by decide +kernel
theorem dX12_init_1590 : decode cX12_init 1590 = .ok (.bipush 12, 2) := by decide +kernel
theorem dX12_init_1592 : decode cX12_init 1592 = .ok (.newarray .int, 2) := by decide +kernel
theorem dX12_init_1594 : decode cX12_init 1594 = .ok (.putfield 569, 3) := by decide +kernel
theorem dX12_init_1597 : decode cX12_init 1597 = .ok (.aload_n 0, 1) := by decide +kernel
theorem dX12_init_1598 : decode cX12_init 1598 = .ok (.bipush 12, 2) := by decide +kernel
theorem dX12_init_1600 : decode cX12_init 1600 = .ok (.newarray .int, 2) := by decide +kernel
theorem dX12_init_1602 : decode cX12_init 1602 = .ok (.putfield 572, 3) := by decide +kernel
theorem dX12_init_1605 : decode cX12_init 1605 = .ok (.return_, 1) := by decide +kernel
def rpX12_init : List Nat := [0, 1, 4, 5, 8, 10, 13, 14, 17, 19, 22, 23, 24, 27, 28, 30, 32, 35, 36, 38, 40, 43, 44, 46, 48, 51, 52, 54, 56, 59, 60, 62, 64, 67, 68, 70, 72, 75, 76, 78, 80, 83, 84, 86, 88, 91, 92, 95, 97, 100, 101, 104, 106, 109, 110, 112, 114, 117, 118, 120, 122, 125, 126, 128, 130, 133, 134, 136, 138, 141, 142, 144, 146, 149, 150, 152, 154, 157, 158, 160, 162, 165, 166, 168, 170, 173, 174, 176, 178, 181, 182, 184, 186, 189, 190, 192, 194, 197, 198, 200, 202, 205, 206, 208, 210, 213, 214, 216, 218, 221, 222, 225, 227, 230, 231, 234, 236, 239, 240, 243, 245, 248, 249, 252, 254, 257, 258, 261, 263, 266, 267, 270, 272, 275, 276, 279, 281, 284, 285, 288, 290, 293, 294, 297, 299, 302, 303, 306, 308, 311, 312, 315, 317, 320, 321, 324, 326, 329, 330, 333, 335, 338, 339, 342, 344, 347, 348, 351, 353, 356, 357, 360, 362, 365, 366, 369, 371, 374, 375, 378, 380, 383, 384, 387, 389, 392, 393, 396, 398, 401, 402, 404, 406, 409, 410, 412, 414, 417, 418, 421, 423, 426, 427, 430, 432, 435, 436, 438, 440, 443, 444, 447, 449, 452, 453, 456, 458, 461, 462, 464, 466, 469, 470, 472, 474, 477, 478, 481, 483, 486, 487, 490, 492, 495, 496, 499, 501, 504, 505, 508, 510, 513, 514, 517, 519, 522, 523, 526, 528, 531, 532, 535, 537, 540, 541, 543, 545, 548, 549, 552, 554, 557, 558, 561, 563, 566, 567, 570, 572, 575, 576, 579, 581, 584, 585, 588, 590, 593, 594, 597, 599, 602, 603, 606, 608, 611, 612, 614, 616, 619, 620, 622, 624, 627, 628, 631, 633, 636, 637, 640, 642, 645, 646, 649, 651, 654, 655, 658, 660, 663, 664, 667, 669, 672, 673, 676, 678, 681, 682, 684, 686, 689, 690, 693, 695, 698, 699, 702, 704, 707, 708, 711, 713, 716, 717, 720, 722, 725, 726, 729, 731, 734, 735, 738, 740, 743, 744, 747, 749, 752, 753, 756, 758, 761, 762, 765, 767, 770, 771, 774, 776, 779, 780, 783, 785, 788, 789, 792, 794, 797, 798, 800, 802, 805, 806, 809, 811, 814, 815, 818, 820, 823, 824, 826, 828, 831, 832, 835, 837, 840, 841, 844, 846, 849, 850, 853, 855, 858, 859, 862, 864, 867, 868, 871, 873, 876, 877, 880, 882, 885, 886, 889, 891, 894, 895, 898, 900, 903, 904, 907, 909, 912, 913, 916, 918, 921, 922, 925, 927, 930, 931, 934, 936, 939, 940, 943, 945, 948, 949, 952, 954, 957, 958, 961, 963, 966, 967, 970, 972, 975, 976, 979, 981, 984, 985, 987, 989, 992, 993, 996, 998, 1001, 1002, 1005, 1007, 1010, 1011, 1014, 1016, 1019, 1020, 1023, 1025, 1028, 1029, 1032, 1034, 1037, 1038, 1041, 1043, 1046, 1047, 1049, 1051, 1054, 1055, 1057, 1059, 1062, 1063, 1066, 1068, 1071, 1072, 1073, 1076, 1077, 1079, 1081, 1084, 1085, 1087, 1089, 1092, 1093, 1095, 1097, 1100, 1101, 1103, 1105, 1108, 1109, 1111, 1113, 1116, 1117, 1119, 1121, 1124, 1125, 1127, 1129, 1132, 1133, 1136, 1138, 1141, 1142, 1145, 1147, 1150, 1151, 1154, 1156, 1159, 1160, 1163, 1165, 1168, 1169, 1172, 1174, 1177, 1178, 1181, 1183, 1186, 1187, 1190, 1192, 1195, 1196, 1199, 1201, 1204, 1205, 1208, 1210, 1213, 1214, 1216, 1218, 1221, 1222, 1225, 1227, 1230, 1231, 1234, 1236, 1239, 1240, 1243, 1245, 1248, 1249, 1251, 1253, 1256, 1257, 1259, 1261, 1264, 1265, 1267, 1269, 1272, 1273, 1275, 1277, 1280, 1281, 1283, 1285, 1288, 1289, 1291, 1293, 1296, 1297, 1299, 1301, 1304, 1305, 1307, 1309, 1312, 1313, 1316, 1318, 1321, 1322, 1325, 1327, 1330, 1331, 1334, 1336, 1339, 1340, 1343, 1345, 1348, 1349, 1352, 1354, 1357, 1358, 1361, 1363, 1366, 1367, 1370, 1372, 1375, 1376, 1379, 1381, 1384, 1385, 1388, 1390, 1393, 1394, 1397, 1399, 1402, 1403, 1406, 1408, 1411, 1412, 1415, 1417, 1420, 1421, 1424, 1426, 1429, 1430, 1433, 1435, 1438, 1439, 1442, 1444, 1447, 1448, 1450, 1452, 1455, 1456, 1458, 1460, 1463, 1464, 1467, 1469, 1472, 1473, 1476, 1478, 1481, 1482, 1485, 1487, 1490, 1491, 1494, 1496, 1499, 1500, 1503, 1505, 1508, 1509, 1512, 1514, 1517, 1518, 1521, 1523, 1526, 1527, 1530, 1532, 1535, 1536, 1539, 1541, 1544, 1545, 1548, 1550, 1553, 1554, 1557, 1559, 1562, 1563, 1566, 1568, 1571, 1572, 1575, 1577, 1580, 1581, 1584, 1586, 1589, 1590, 1592, 1594, 1597, 1598, 1600, 1602, 1605]
def rzX12_init : List (Nat × Nat) := [(0, 0), (0, 0), (0, 0), (0, 0), (0, 0), (1, 12000), (1, 12000), (1, 12000), (1, 12000), (2, 27000), (2, 27000), (2, 27000), (2, 27000), (2, 27000), (2, 27000), (2, 27000), (3, 27043), (3, 27043), (3, 27043), (3, 27043), (4, 27086), (4, 27086), (4, 27086), (4, 27086), (5, 27129), (5, 27129), (5, 27129), (5, 27129), (6, 27172), (6, 27172), (6, 27172), (6, 27172), (7, 27215), (7, 27215), (7, 27215), (7, 27215), (8, 27258), (8, 27258), (8, 27258), (8, 27258), (9, 27301), (9, 27301), (9, 27301), (9, 27301), (10, 27344), (10, 27344), (10, 27344), (10, 27344), (11, 27602), (11, 27602), (11, 27602), (11, 27602), (12, 27860), (12, 27860), (12, 27860), (12, 27860), (13, 27904), (13, 27904), (13, 27904), (13, 27904), (14, 27948), (14, 27948), (14, 27948), (14, 27948), (15, 27989), (15, 27989), (15, 27989), (15, 27989), (16, 28030), (16, 28030), (16, 28030), (16, 28030), (17, 28071), (17, 28071), (17, 28071), (17, 28071), (18, 28112), (18, 28112), (18, 28112), (18, 28112), (19, 28229), (19, 28229), (19, 28229), (19, 28229), (20, 28346), (20, 28346), (20, 28346), (20, 28346), (21, 28463), (21, 28463), (21, 28463), (21, 28463), (22, 28580), (22, 28580), (22, 28580), (22, 28580), (23, 28697), (23, 28697), (23, 28697), (23, 28697), (24, 28814), (24, 28814), (24, 28814), (24, 28814), (25, 28932), (25, 28932), (25, 28932), (25, 28932), (26, 29049), (26, 29049), (26, 29049), (26, 29049), (27, 38349), (27, 38349), (27, 38349), (27, 38349), (28, 47649), (28, 47649), (28, 47649), (28, 47649), (29, 56949), (29, 56949), (29, 56949), (29, 56949), (30, 57963), (30, 57963), (30, 57963), (30, 57963), (31, 58977), (31, 58977), (31, 58977), (31, 58977), (32, 59991), (32, 59991), (32, 59991), (32, 59991), (33, 61005), (33, 61005), (33, 61005), (33, 61005), (34, 62019), (34, 62019), (34, 62019), (34, 62019), (35, 63033), (35, 63033), (35, 63033), (35, 63033), (36, 64047), (36, 64047), (36, 64047), (36, 64047), (37, 65061), (37, 65061), (37, 65061), (37, 65061), (38, 66075), (38, 66075), (38, 66075), (38, 66075), (39, 67089), (39, 67089), (39, 67089), (39, 67089), (40, 73189), (40, 73189), (40, 73189), (40, 73189), (41, 79289), (41, 79289), (41, 79289), (41, 79289), (42, 85389), (42, 85389), (42, 85389), (42, 85389), (43, 91489), (43, 91489), (43, 91489), (43, 91489), (44, 92425), (44, 92425), (44, 92425), (44, 92425), (45, 96169), (45, 96169), (45, 96169), (45, 96169), (46, 99913), (46, 99913), (46, 99913), (46, 99913), (47, 99945), (47, 99945), (47, 99945), (47, 99945), (48, 99977), (48, 99977), (48, 99977), (48, 99977), (49, 100991), (49, 100991), (49, 100991), (49, 100991), (50, 102005), (50, 102005), (50, 102005), (50, 102005), (51, 102048), (51, 102048), (51, 102048), (51, 102048), (52, 102306), (52, 102306), (52, 102306), (52, 102306), (53, 104155), (53, 104155), (53, 104155), (53, 104155), (54, 104196), (54, 104196), (54, 104196), (54, 104196), (55, 104313), (55, 104313), (55, 104313), (55, 104313), (56, 105015), (56, 105015), (56, 105015), (56, 105015), (57, 106029), (57, 106029), (57, 106029), (57, 106029), (58, 107043), (58, 107043), (58, 107043), (58, 107043), (59, 107979), (59, 107979), (59, 107979), (59, 107979), (60, 108915), (60, 108915), (60, 108915), (60, 108915), (61, 109851), (61, 109851), (61, 109851), (61, 109851), (62, 110787), (62, 110787), (62, 110787), (62, 110787), (63, 110793), (63, 110793), (63, 110793), (63, 110793), (64, 111807), (64, 111807), (64, 111807), (64, 111807), (65, 112821), (65, 112821), (65, 112821), (65, 112821), (66, 113835), (66, 113835), (66, 113835), (66, 113835), (67, 114849), (67, 114849), (67, 114849), (67, 114849), (68, 120933), (68, 120933), (68, 120933), (68, 120933), (69, 139185), (69, 139185), (69, 139185), (69, 139185), (70, 157437), (70, 157437), (70, 157437), (70, 157437), (71, 157469), (71, 157469), (71, 157469), (71, 157469), (72, 157501), (72, 157501), (72, 157501), (72, 157501), (73, 157982), (73, 157982), (73, 157982), (73, 157982), (74, 158463), (74, 158463), (74, 158463), (74, 158463), (75, 158765), (75, 158765), (75, 158765), (75, 158765), (76, 159067), (76, 159067), (76, 159067), (76, 159067), (77, 159370), (77, 159370), (77, 159370), (77, 159370), (78, 163500), (78, 163500), (78, 163500), (78, 163500), (79, 758220), (79, 758220), (79, 758220), (79, 758220), (80, 760636), (80, 760636), (80, 760636), (80, 760636), (81, 763052), (81, 763052), (81, 763052), (81, 763052), (82, 916972), (82, 916972), (82, 916972), (82, 916972), (83, 917292), (83, 917292), (83, 917292), (83, 917292), (84, 921140), (84, 921140), (84, 921140), (84, 921140), (85, 944228), (85, 944228), (85, 944228), (85, 944228), (86, 964878), (86, 964878), (86, 964878), (86, 964878), (87, 985528), (87, 985528), (87, 985528), (87, 985528), (88, 1018568), (88, 1018568), (88, 1018568), (88, 1018568), (89, 1020973), (89, 1020973), (89, 1020973), (89, 1020973), (90, 1025103), (90, 1025103), (90, 1025103), (90, 1025103), (91, 1029233), (91, 1029233), (91, 1029233), (91, 1029233), (92, 1029241), (92, 1029241), (92, 1029241), (92, 1029241), (93, 1029722), (93, 1029722), (93, 1029722), (93, 1029722), (94, 1030203), (94, 1030203), (94, 1030203), (94, 1030203), (95, 1030320), (95, 1030320), (95, 1030320), (95, 1030320), (96, 1030801), (96, 1030801), (96, 1030801), (96, 1030801), (97, 1031282), (97, 1031282), (97, 1031282), (97, 1031282), (98, 1032792), (98, 1032792), (98, 1032792), (98, 1032792), (99, 1033274), (99, 1033274), (99, 1033274), (99, 1033274), (100, 1033755), (100, 1033755), (100, 1033755), (100, 1033755), (101, 1036165), (101, 1036165), (101, 1036165), (101, 1036165), (102, 1036647), (102, 1036647), (102, 1036647), (102, 1036647), (103, 1094969), (103, 1094969), (103, 1094969), (103, 1094969), (104, 1153291), (104, 1153291), (104, 1153291), (104, 1153291), (105, 1186331), (105, 1186331), (105, 1186331), (105, 1186331), (106, 1219371), (106, 1219371), (106, 1219371), (106, 1219371), (107, 1221787), (107, 1221787), (107, 1221787), (107, 1221787), (108, 1224203), (108, 1224203), (108, 1224203), (108, 1224203), (109, 1240427), (109, 1240427), (109, 1240427), (109, 1240427), (110, 1244275), (110, 1244275), (110, 1244275), (110, 1244275), (111, 1245289), (111, 1245289), (111, 1245289), (111, 1245289), (112, 1246303), (112, 1246303), (112, 1246303), (112, 1246303), (113, 1246420), (113, 1246420), (113, 1246420), (113, 1246420), (114, 1282962), (114, 1282962), (114, 1282962), (114, 1282962), (115, 1286362), (115, 1286362), (115, 1286362), (115, 1286362), (116, 1289762), (116, 1289762), (116, 1289762), (116, 1289762), (117, 1293610), (117, 1293610), (117, 1293610), (117, 1293610), (118, 1294624), (118, 1294624), (118, 1294624), (118, 1294624), (119, 1295638), (119, 1295638), (119, 1295638), (119, 1295638), (120, 1295755), (120, 1295755), (120, 1295755), (120, 1295755), (121, 1295875), (121, 1295875), (121, 1295875), (121, 1295875), (122, 1296075), (122, 1296075), (122, 1296075), (122, 1296075), (122, 1296075), (122, 1296075), (122, 1296075), (123, 1296097), (123, 1296097), (123, 1296097), (123, 1296097), (124, 1296119), (124, 1296119), (124, 1296119), (124, 1296119), (125, 1296141), (125, 1296141), (125, 1296141), (125, 1296141), (126, 1296163), (126, 1296163), (126, 1296163), (126, 1296163), (127, 1296185), (127, 1296185), (127, 1296185), (127, 1296185), (128, 1296207), (128, 1296207), (128, 1296207), (128, 1296207), (129, 1296229), (129, 1296229), (129, 1296229), (129, 1296229), (130, 1296629), (130, 1296629), (130, 1296629), (130, 1296629), (131, 1297029), (131, 1297029), (131, 1297029), (131, 1297029), (132, 1297429), (132, 1297429), (132, 1297429), (132, 1297429), (133, 1297829), (133, 1297829), (133, 1297829), (133, 1297829), (134, 1298229), (134, 1298229), (134, 1298229), (134, 1298229), (135, 1298629), (135, 1298629), (135, 1298629), (135, 1298629), (136, 1299029), (136, 1299029), (136, 1299029), (136, 1299029), (137, 1303829), (137, 1303829), (137, 1303829), (137, 1303829), (138, 1319829), (138, 1319829), (138, 1319829), (138, 1319829), (139, 1319869), (139, 1319869), (139, 1319869), (139, 1319869), (140, 1326269), (140, 1326269), (140, 1326269), (140, 1326269), (141, 1328669), (141, 1328669), (141, 1328669), (141, 1328669), (142, 1331069), (142, 1331069), (142, 1331069), (142, 1331069), (143, 1331081), (143, 1331081), (143, 1331081), (143, 1331081), (144, 1331093), (144, 1331093), (144, 1331093), (144, 1331093), (145, 1331105), (145, 1331105), (145, 1331105), (145, 1331105), (146, 1331117), (146, 1331117), (146, 1331117), (146, 1331117), (147, 1331129), (147, 1331129), (147, 1331129), (147, 1331129), (148, 1331141), (148, 1331141), (148, 1331141), (148, 1331141), (149, 1331153), (149, 1331153), (149, 1331153), (149, 1331153), (150, 1331165), (150, 1331165), (150, 1331165), (150, 1331165), (151, 1331309), (151, 1331309), (151, 1331309), (151, 1331309), (152, 1331669), (152, 1331669), (152, 1331669), (152, 1331669), (153, 1332029), (153, 1332029), (153, 1332029), (153, 1332029), (154, 1332389), (154, 1332389), (154, 1332389), (154, 1332389), (155, 1332749), (155, 1332749), (155, 1332749), (155, 1332749), (156, 1333109), (156, 1333109), (156, 1333109), (156, 1333109), (157, 1333469), (157, 1333469), (157, 1333469), (157, 1333469), (158, 1333829), (158, 1333829), (158, 1333829), (158, 1333829), (159, 1334189), (159, 1334189), (159, 1334189), (159, 1334189), (160, 1334549), (160, 1334549), (160, 1334549), (160, 1334549), (161, 1334909), (161, 1334909), (161, 1334909), (161, 1334909), (162, 1335269), (162, 1335269), (162, 1335269), (162, 1335269), (163, 1337429), (163, 1337429), (163, 1337429), (163, 1337429), (164, 1343909), (164, 1343909), (164, 1343909), (164, 1343909), (165, 1350389), (165, 1350389), (165, 1350389), (165, 1350389), (166, 1350432), (166, 1350432), (166, 1350432), (166, 1350432), (167, 1350475), (167, 1350475), (167, 1350475), (167, 1350475), (168, 1350991), (168, 1350991), (168, 1350991), (168, 1350991), (169, 1543471), (169, 1543471), (169, 1543471), (169, 1543471), (170, 1812751), (170, 1812751), (170, 1812751), (170, 1812751), (171, 2082031), (171, 2082031), (171, 2082031), (171, 2082031), (172, 2351311), (172, 2351311), (172, 2351311), (172, 2351311), (173, 2620591), (173, 2620591), (173, 2620591), (173, 2620591), (174, 2621591), (174, 2621591), (174, 2621591), (174, 2621591), (175, 2637815), (175, 2637815), (175, 2637815), (175, 2637815), (176, 2638015), (176, 2638015), (176, 2638015), (176, 2638015), (177, 2638415), (177, 2638415), (177, 2638415), (177, 2638415), (178, 2638815), (178, 2638815), (178, 2638815), (178, 2638815), (179, 2639215), (179, 2639215), (179, 2639215), (179, 2639215), (180, 2644015), (180, 2644015), (180, 2644015), (180, 2644015), (181, 2644159), (181, 2644159), (181, 2644159), (181, 2644159), (182, 2644171), (182, 2644171), (182, 2644171), (182, 2644171), (183, 2644183), (183, 2644183)]
noncomputable def rcX12_init : List rz_B := [rz_aload 0, rz_obj, rz_aload 0, rz_cst 12000, rz_newa 4 12000, rz_putf (Nat.add (Nat.mul 256 14) 1) 0 rz_unR, rz_aload 0, rz_cst 15000, rz_newa 4 15000, rz_putf (Nat.add (Nat.mul 256 14) 1) 2 rz_unR, rz_aload 0, rz_cst 4294967295, rz_putf (Nat.add (Nat.mul 256 14) 1) 11 rz_unI, rz_aload 0, rz_cst 43, rz_newa 4 43, rz_putf (Nat.add (Nat.mul 256 14) 1) 14 rz_unR, rz_aload 0, rz_cst 43, rz_newa 4 43, rz_putf (Nat.add (Nat.mul 256 14) 1) 15 rz_unR, rz_aload 0, rz_cst 43, rz_newa 6 43, rz_putf (Nat.add (Nat.mul 256 14) 1) 16 rz_unR, rz_aload 0, rz_cst 43, rz_newa 6 43, rz_putf (Nat.add (Nat.mul 256 14) 1) 17 rz_unR, rz_aload 0, rz_cst 43, rz_newa 6 43, rz_putf (Nat.add (Nat.mul 256 14) 1) 18 rz_unR, rz_aload 0, rz_cst 43, rz_newa 4 43, rz_putf (Nat.add (Nat.mul 256 14) 1) 19 rz_unR, rz_aload 0, rz_cst 43, rz_newa 4 43, rz_putf (Nat.add (Nat.mul 256 14) 1) 20 rz_unR, rz_aload 0, rz_cst 43, rz_newa 4 43, rz_putf (Nat.add (Nat.mul 256 14) 1) 21 rz_unR, rz_aload 0, rz_cst 258, rz_newa 4 258, rz_putf (Nat.add (Nat.mul 256 14) 1) 22 rz_unR, rz_aload 0, rz_cst 258, rz_newa 4 258, rz_putf (Nat.add (Nat.mul 256 14) 1) 23 rz_unR, rz_aload 0, rz_cst 44, rz_newa 4 44, rz_putf (Nat.add (Nat.mul 256 14) 1) 24 rz_unR, rz_aload 0, rz_cst 44, rz_newa 4 44, rz_putf (Nat.add (Nat.mul 256 14) 1) 25 rz_unR, rz_aload 0, rz_cst 41, rz_newa 4 41, rz_putf (Nat.add (Nat.mul 256 14) 1) 27 rz_unR, rz_aload 0, rz_cst 41, rz_newa 4 41, rz_putf (Nat.add (Nat.mul 256 14) 1) 28 rz_unR, rz_aload 0, rz_cst 41, rz_newa 4 41, rz_putf (Nat.add (Nat.mul 256 14) 1) 29 rz_unR, rz_aload 0, rz_cst 41, rz_newa 4 41, rz_putf (Nat.add (Nat.mul 256 14) 1) 30 rz_unR, rz_aload 0, rz_cst 117, rz_newa 4 117, rz_putf (Nat.add (Nat.mul 256 14) 1) 32 rz_unR, rz_aload 0, rz_cst 117, rz_newa 4 117, rz_putf (Nat.add (Nat.mul 256 14) 1) 33 rz_unR, rz_aload 0, rz_cst 117, rz_newa 4 117, rz_putf (Nat.add (Nat.mul 256 14) 1) 34 rz_unR, rz_aload 0, rz_cst 117, rz_newa 4 117, rz_putf (Nat.add (Nat.mul 256 14) 1) 35 rz_unR, rz_aload 0, rz_cst 117, rz_newa 4 117, rz_putf (Nat.add (Nat.mul 256 14) 1) 36 rz_unR, rz_aload 0, rz_cst 117, rz_newa 6 117, rz_putf (Nat.add (Nat.mul 256 14) 1) 37 rz_unR, rz_aload 0, rz_cst 118, rz_newa 4 118, rz_putf (Nat.add (Nat.mul 256 14) 1) 38 rz_unR, rz_aload 0, rz_cst 117, rz_newa 4 117, rz_putf (Nat.add (Nat.mul 256 14) 1) 39 rz_unR, rz_aload 0, rz_cst 9300, rz_newa 4 9300, rz_putf (Nat.add (Nat.mul 256 14) 1) 40 rz_unR, rz_aload 0, rz_cst 9300, rz_newa 4 9300, rz_putf (Nat.add (Nat.mul 256 14) 1) 41 rz_unR, rz_aload 0, rz_cst 9300, rz_newa 6 9300, rz_putf (Nat.add (Nat.mul 256 14) 1) 42 rz_unR, rz_aload 0, rz_cst 1014, rz_newa 4 1014, rz_putf (Nat.add (Nat.mul 256 14) 1) 44 rz_unR, rz_aload 0, rz_cst 1014, rz_newa 4 1014, rz_putf (Nat.add (Nat.mul 256 14) 1) 45 rz_unR, rz_aload 0, rz_cst 1014, rz_newa 4 1014, rz_putf (Nat.add (Nat.mul 256 14) 1) 46 rz_unR, rz_aload 0, rz_cst 1014, rz_newa 4 1014, rz_putf (Nat.add (Nat.mul 256 14) 1) 47 rz_unR, rz_aload 0, rz_cst 1014, rz_newa 4 1014, rz_putf (Nat.add (Nat.mul 256 14) 1) 48 rz_unR, rz_aload 0, rz_cst 1014, rz_newa 4 1014, rz_putf (Nat.add (Nat.mul 256 14) 1) 49 rz_unR, rz_aload 0, rz_cst 1014, rz_newa 4 1014, rz_putf (Nat.add (Nat.mul 256 14) 1) 50 rz_unR, rz_aload 0, rz_cst 1014, rz_newa 4 1014, rz_putf (Nat.add (Nat.mul 256 14) 1) 51 rz_unR, rz_aload 0, rz_cst 1014, rz_newa 4 1014, rz_putf (Nat.add (Nat.mul 256 14) 1) 52 rz_unR, rz_aload 0, rz_cst 1014, rz_newa 4 1014, rz_putf (Nat.add (Nat.mul 256 14) 1) 53 rz_unR, rz_aload 0, rz_cst 6100, rz_newa 4 6100, rz_putf (Nat.add (Nat.mul 256 14) 1) 55 rz_unR, rz_aload 0, rz_cst 6100, rz_newa 4 6100, rz_putf (Nat.add (Nat.mul 256 14) 1) 56 rz_unR, rz_aload 0, rz_cst 6100, rz_newa 4 6100, rz_putf (Nat.add (Nat.mul 256 14) 1) 57 rz_unR, rz_aload 0, rz_cst 6100, rz_newa 4 6100, rz_putf (Nat.add (Nat.mul 256 14) 1) 58 rz_unR, rz_aload 0, rz_cst 936, rz_newa 4 936, rz_putf (Nat.add (Nat.mul 256 14) 1) 59 rz_unR, rz_aload 0, rz_cst 3744, rz_newa 4 3744, rz_putf (Nat.add (Nat.mul 256 14) 1) 60 rz_unR, rz_aload 0, rz_cst 3744, rz_newa 4 3744, rz_putf (Nat.add (Nat.mul 256 14) 1) 61 rz_unR, rz_aload 0, rz_cst 32, rz_newa 4 32, rz_putf (Nat.add (Nat.mul 256 14) 1) 63 rz_unR, rz_aload 0, rz_cst 32, rz_newa 4 32, rz_putf (Nat.add (Nat.mul 256 14) 1) 64 rz_unR, rz_aload 0, rz_cst 1014, rz_newa 4 1014, rz_putf (Nat.add (Nat.mul 256 14) 1) 69 rz_unR, rz_aload 0, rz_cst 1014, rz_newa 4 1014, rz_putf (Nat.add (Nat.mul 256 14) 1) 70 rz_unR, rz_aload 0, rz_cst 43, rz_newa 4 43, rz_putf (Nat.add (Nat.mul 256 14) 1) 71 rz_unR, rz_aload 0, rz_cst 258, rz_newa 4 258, rz_putf (Nat.add (Nat.mul 256 14) 1) 72 rz_unR, rz_aload 0, rz_cst 1849, rz_newa 6 1849, rz_putf (Nat.add (Nat.mul 256 14) 1) 73 rz_unR, rz_aload 0, rz_cst 41, rz_newa 4 41, rz_putf (Nat.add (Nat.mul 256 14) 1) 74 rz_unR, rz_aload 0, rz_cst 117, rz_newa 4 117, rz_putf (Nat.add (Nat.mul 256 14) 1) 75 rz_unR, rz_aload 0, rz_cst 702, rz_newa 4 702, rz_putf (Nat.add (Nat.mul 256 14) 1) 76 rz_unR, rz_aload 0, rz_cst 1014, rz_newa 4 1014, rz_putf (Nat.add (Nat.mul 256 14) 1) 78 rz_unR, rz_aload 0, rz_cst 1014, rz_newa 4 1014, rz_putf (Nat.add (Nat.mul 256 14) 1) 79 rz_unR, rz_aload 0, rz_cst 936, rz_newa 4 936, rz_putf (Nat.add (Nat.mul 256 14) 1) 80 rz_unR, rz_aload 0, rz_cst 936, rz_newa 4 936, rz_putf (Nat.add (Nat.mul 256 14) 1) 81 rz_unR, rz_aload 0, rz_cst 936, rz_newa 4 936, rz_putf (Nat.add (Nat.mul 256 14) 1) 82 rz_unR, rz_aload 0, rz_cst 936, rz_newa 4 936, rz_putf (Nat.add (Nat.mul 256 14) 1) 83 rz_unR, rz_aload 0, rz_cst 6, rz_newa 4 6, rz_putf (Nat.add (Nat.mul 256 14) 1) 84 rz_unR, rz_aload 0, rz_cst 1014, rz_newa 4 1014, rz_putf (Nat.add (Nat.mul 256 14) 1) 86 rz_unR, rz_aload 0, rz_cst 1014, rz_newa 4 1014, rz_putf (Nat.add (Nat.mul 256 14) 1) 88 rz_unR, rz_aload 0, rz_cst 1014, rz_newa 6 1014, rz_putf (Nat.add (Nat.mul 256 14) 1) 89 rz_unR, rz_aload 0, rz_cst 1014, rz_newa 4 1014, rz_putf (Nat.add (Nat.mul 256 14) 1) 90 rz_unR, rz_aload 0, rz_cst 6084, rz_newa 4 6084, rz_putf (Nat.add (Nat.mul 256 14) 1) 91 rz_unR, rz_aload 0, rz_cst 18252, rz_newa 2 18252, rz_putf (Nat.add (Nat.mul 256 14) 1) 92 rz_unR, rz_aload 0, rz_cst 18252, rz_newa 2 18252, rz_putf (Nat.add (Nat.mul 256 14) 1) 93 rz_unR, rz_aload 0, rz_cst 32, rz_newa 2 32, rz_putf (Nat.add (Nat.mul 256 14) 1) 94 rz_unR, rz_aload 0, rz_cst 32, rz_newa 2 32, rz_putf (Nat.add (Nat.mul 256 14) 1) 95 rz_unR, rz_aload 0, rz_cst 481, rz_newa 4 481, rz_putf (Nat.add (Nat.mul 256 14) 1) 106 rz_unR, rz_aload 0, rz_cst 481, rz_newa 4 481, rz_putf (Nat.add (Nat.mul 256 14) 1) 107 rz_unR, rz_aload 0, rz_cst 302, rz_newa 4 302, rz_putf (Nat.add (Nat.mul 256 14) 1) 109 rz_unR, rz_aload 0, rz_cst 302, rz_newa 4 302, rz_putf (Nat.add (Nat.mul 256 14) 1) 110 rz_unR, rz_aload 0, rz_cst 303, rz_newa 4 303, rz_putf (Nat.add (Nat.mul 256 14) 1) 111 rz_unR, rz_aload 0, rz_cst 4130, rz_newa 4 4130, rz_putf (Nat.add (Nat.mul 256 14) 1) 113 rz_unR, rz_aload 0, rz_cst 594720, rz_newa 2 594720, rz_putf (Nat.add (Nat.mul 256 14) 1) 114 rz_unR, rz_aload 0, rz_cst 2416, rz_newa 2 2416, rz_putf (Nat.add (Nat.mul 256 14) 1) 115 rz_unR, rz_aload 0, rz_cst 2416, rz_newa 2 2416, rz_putf (Nat.add (Nat.mul 256 14) 1) 116 rz_unR, rz_aload 0, rz_cst 153920, rz_newa 2 153920, rz_putf (Nat.add (Nat.mul 256 14) 1) 117 rz_unR, rz_aload 0, rz_cst 320, rz_newa 2 320, rz_putf (Nat.add (Nat.mul 256 14) 1) 118 rz_unR, rz_aload 0, rz_cst 3848, rz_newa 2 3848, rz_putf (Nat.add (Nat.mul 256 14) 1) 119 rz_unR, rz_aload 0, rz_cst 23088, rz_newa 2 23088, rz_putf (Nat.add (Nat.mul 256 14) 1) 120 rz_unR, rz_aload 0, rz_cst 20650, rz_newa 2 20650, rz_putf (Nat.add (Nat.mul 256 14) 1) 121 rz_unR, rz_aload 0, rz_cst 20650, rz_newa 2 20650, rz_putf (Nat.add (Nat.mul 256 14) 1) 122 rz_unR, rz_aload 0, rz_cst 33040, rz_newa 2 33040, rz_putf (Nat.add (Nat.mul 256 14) 1) 123 rz_unR, rz_aload 0, rz_cst 2405, rz_newa 2 2405, rz_putf (Nat.add (Nat.mul 256 14) 1) 124 rz_unR, rz_aload 0, rz_cst 4130, rz_newa 2 4130, rz_putf (Nat.add (Nat.mul 256 14) 1) 125 rz_unR, rz_aload 0, rz_cst 4130, rz_newa 6 4130, rz_putf (Nat.add (Nat.mul 256 14) 1) 126 rz_unR, rz_aload 0, rz_cst 8, rz_newa 2 8, rz_putf (Nat.add (Nat.mul 256 14) 1) 128 rz_unR, rz_aload 0, rz_cst 481, rz_newa 4 481, rz_putf (Nat.add (Nat.mul 256 14) 1) 130 rz_unR, rz_aload 0, rz_cst 481, rz_newa 4 481, rz_putf (Nat.add (Nat.mul 256 14) 1) 131 rz_unR, rz_aload 0, rz_cst 117, rz_newa 6 117, rz_putf (Nat.add (Nat.mul 256 14) 1) 133 rz_unR, rz_aload 0, rz_cst 481, rz_newa 6 481, rz_putf (Nat.add (Nat.mul 256 14) 1) 134 rz_unR, rz_aload 0, rz_cst 481, rz_newa 6 481, rz_putf (Nat.add (Nat.mul 256 14) 1) 135 rz_unR, rz_aload 0, rz_cst 1510, rz_newa 2 1510, rz_putf (Nat.add (Nat.mul 256 14) 1) 136 rz_unR, rz_aload 0, rz_cst 482, rz_newa 4 482, rz_putf (Nat.add (Nat.mul 256 14) 1) 138 rz_unR, rz_aload 0, rz_cst 481, rz_newa 4 481, rz_putf (Nat.add (Nat.mul 256 14) 1) 139 rz_unR, rz_aload 0, rz_cst 2410, rz_newa 2 2410, rz_putf (Nat.add (Nat.mul 256 14) 1) 140 rz_unR, rz_aload 0, rz_cst 482, rz_newa 6 482, rz_putf (Nat.add (Nat.mul 256 14) 1) 141 rz_unR, rz_aload 0, rz_cst 58322, rz_newa 6 58322, rz_putf (Nat.add (Nat.mul 256 14) 1) 142 rz_unR, rz_aload 0, rz_cst 58322, rz_newa 6 58322, rz_putf (Nat.add (Nat.mul 256 14) 1) 143 rz_unR, rz_aload 0, rz_cst 33040, rz_newa 2 33040, rz_putf (Nat.add (Nat.mul 256 14) 1) 144 rz_unR, rz_aload 0, rz_cst 33040, rz_newa 2 33040, rz_putf (Nat.add (Nat.mul 256 14) 1) 145 rz_unR, rz_aload 0, rz_cst 2416, rz_newa 2 2416, rz_putf (Nat.add (Nat.mul 256 14) 1) 146 rz_unR, rz_aload 0, rz_cst 2416, rz_newa 2 2416, rz_putf (Nat.add (Nat.mul 256 14) 1) 147 rz_unR, rz_aload 0, rz_cst 16224, rz_newa 2 16224, rz_putf (Nat.add (Nat.mul 256 14) 1) 148 rz_unR, rz_aload 0, rz_cst 3848, rz_newa 2 3848, rz_putf (Nat.add (Nat.mul 256 14) 1) 150 rz_unR, rz_aload 0, rz_cst 1014, rz_newa 6 1014, rz_putf (Nat.add (Nat.mul 256 14) 1) 154 rz_unR, rz_aload 0, rz_cst 1014, rz_newa 4 1014, rz_putf (Nat.add (Nat.mul 256 14) 1) 155 rz_unR, rz_aload 0, rz_cst 117, rz_newa 4 117, rz_putf (Nat.add (Nat.mul 256 14) 1) 157 rz_unR, rz_aload 0, rz_cst 36542, rz_newa 6 36542, rz_putf (Nat.add (Nat.mul 256 14) 1) 159 rz_unR, rz_aload 0, rz_cst 3400, rz_newa 2 3400, rz_putf (Nat.add (Nat.mul 256 14) 1) 160 rz_unR, rz_aload 0, rz_cst 3400, rz_newa 2 3400, rz_putf (Nat.add (Nat.mul 256 14) 1) 161 rz_unR, rz_aload 0, rz_cst 3848, rz_newa 2 3848, rz_putf (Nat.add (Nat.mul 256 14) 1) 162 rz_unR, rz_aload 0, rz_cst 1014, rz_newa 2 1014, rz_putf (Nat.add (Nat.mul 256 14) 1) 165 rz_unR, rz_aload 0, rz_cst 1014, rz_newa 2 1014, rz_putf (Nat.add (Nat.mul 256 14) 1) 166 rz_unR, rz_aload 0, rz_cst 117, rz_newa 4 117, rz_putf (Nat.add (Nat.mul 256 14) 1) 167 rz_unR, rz_aload 0, rz_cst 120, rz_newa 4 120, rz_putf (Nat.add (Nat.mul 256 14) 1) 168 rz_unR, rz_aload 0, rz_cst 200, rz_newa 4 200, rz_putf (Nat.add (Nat.mul 256 14) 1) 169 rz_unR, rz_aload 0, rz_cst 4294967295, rz_putf (Nat.add (Nat.mul 256 14) 1) 173 rz_unI, rz_aload 0, rz_cst 22, rz_newa 2 22, rz_putf (Nat.add (Nat.mul 256 14) 1) 174 rz_unR, rz_aload 0, rz_cst 22, rz_newa 2 22, rz_putf (Nat.add (Nat.mul 256 14) 1) 175 rz_unR, rz_aload 0, rz_cst 22, rz_newa 4 22, rz_putf (Nat.add (Nat.mul 256 14) 1) 176 rz_unR, rz_aload 0, rz_cst 22, rz_newa 2 22, rz_putf (Nat.add (Nat.mul 256 14) 1) 177 rz_unR, rz_aload 0, rz_cst 22, rz_newa 2 22, rz_putf (Nat.add (Nat.mul 256 14) 1) 178 rz_unR, rz_aload 0, rz_cst 22, rz_newa 6 22, rz_putf (Nat.add (Nat.mul 256 14) 1) 179 rz_unR, rz_aload 0, rz_cst 22, rz_newa 4 22, rz_putf (Nat.add (Nat.mul 256 14) 1) 180 rz_unR, rz_aload 0, rz_cst 400, rz_newa 4 400, rz_putf (Nat.add (Nat.mul 256 14) 1) 195 rz_unR, rz_aload 0, rz_cst 400, rz_newa 4 400, rz_putf (Nat.add (Nat.mul 256 14) 1) 196 rz_unR, rz_aload 0, rz_cst 400, rz_newa 4 400, rz_putf (Nat.add (Nat.mul 256 14) 1) 197 rz_unR, rz_aload 0, rz_cst 400, rz_newa 4 400, rz_putf (Nat.add (Nat.mul 256 14) 1) 198 rz_unR, rz_aload 0, rz_cst 400, rz_newa 4 400, rz_putf (Nat.add (Nat.mul 256 14) 1) 199 rz_unR, rz_aload 0, rz_cst 400, rz_newa 4 400, rz_putf (Nat.add (Nat.mul 256 14) 1) 200 rz_unR, rz_aload 0, rz_cst 400, rz_newa 4 400, rz_putf (Nat.add (Nat.mul 256 14) 1) 201 rz_unR, rz_aload 0, rz_cst 4800, rz_newa 4 4800, rz_putf (Nat.add (Nat.mul 256 14) 1) 202 rz_unR, rz_aload 0, rz_cst 16000, rz_newa 4 16000, rz_putf (Nat.add (Nat.mul 256 14) 1) 203 rz_unR, rz_aload 0, rz_cst 40, rz_newa 4 40, rz_putf (Nat.add (Nat.mul 256 14) 1) 204 rz_unR, rz_aload 0, rz_cst 6400, rz_newa 4 6400, rz_putf (Nat.add (Nat.mul 256 14) 1) 205 rz_unR, rz_aload 0, rz_cst 2400, rz_newa 4 2400, rz_putf (Nat.add (Nat.mul 256 14) 1) 206 rz_unR, rz_aload 0, rz_cst 2400, rz_newa 6 2400, rz_putf (Nat.add (Nat.mul 256 14) 1) 207 rz_unR, rz_aload 0, rz_cst 12, rz_newa 6 12, rz_putf (Nat.add (Nat.mul 256 14) 1) 209 rz_unR, rz_aload 0, rz_cst 12, rz_newa 4 12, rz_putf (Nat.add (Nat.mul 256 14) 1) 210 rz_unR, rz_aload 0, rz_cst 12, rz_newa 6 12, rz_putf (Nat.add (Nat.mul 256 14) 1) 211 rz_unR, rz_aload 0, rz_cst 12, rz_newa 4 12, rz_putf (Nat.add (Nat.mul 256 14) 1) 212 rz_unR, rz_aload 0, rz_cst 12, rz_newa 4 12, rz_putf (Nat.add (Nat.mul 256 14) 1) 213 rz_unR, rz_aload 0, rz_cst 12, rz_newa 4 12, rz_putf (Nat.add (Nat.mul 256 14) 1) 215 rz_unR, rz_aload 0, rz_cst 12, rz_newa 4 12, rz_putf (Nat.add (Nat.mul 256 14) 1) 216 rz_unR, rz_aload 0, rz_cst 12, rz_newa 4 12, rz_putf (Nat.add (Nat.mul 256 14) 1) 217 rz_unR, rz_aload 0, rz_cst 144, rz_newa 4 144, rz_putf (Nat.add (Nat.mul 256 14) 1) 218 rz_unR, rz_aload 0, rz_cst 360, rz_newa 4 360, rz_putf (Nat.add (Nat.mul 256 14) 1) 219 rz_unR, rz_aload 0, rz_cst 360, rz_newa 4 360, rz_putf (Nat.add (Nat.mul 256 14) 1) 220 rz_unR, rz_aload 0, rz_cst 360, rz_newa 4 360, rz_putf (Nat.add (Nat.mul 256 14) 1) 221 rz_unR, rz_aload 0, rz_cst 360, rz_newa 4 360, rz_putf (Nat.add (Nat.mul 256 14) 1) 222 rz_unR, rz_aload 0, rz_cst 360, rz_newa 4 360, rz_putf (Nat.add (Nat.mul 256 14) 1) 223 rz_unR, rz_aload 0, rz_cst 360, rz_newa 4 360, rz_putf (Nat.add (Nat.mul 256 14) 1) 224 rz_unR, rz_aload 0, rz_cst 360, rz_newa 4 360, rz_putf (Nat.add (Nat.mul 256 14) 1) 225 rz_unR, rz_aload 0, rz_cst 360, rz_newa 6 360, rz_putf (Nat.add (Nat.mul 256 14) 1) 226 rz_unR, rz_aload 0, rz_cst 360, rz_newa 4 360, rz_putf (Nat.add (Nat.mul 256 14) 1) 227 rz_unR, rz_aload 0, rz_cst 360, rz_newa 6 360, rz_putf (Nat.add (Nat.mul 256 14) 1) 228 rz_unR, rz_aload 0, rz_cst 360, rz_newa 4 360, rz_putf (Nat.add (Nat.mul 256 14) 1) 229 rz_unR, rz_aload 0, rz_cst 2160, rz_newa 4 2160, rz_putf (Nat.add (Nat.mul 256 14) 1) 230 rz_unR, rz_aload 0, rz_cst 6480, rz_newa 4 6480, rz_putf (Nat.add (Nat.mul 256 14) 1) 231 rz_unR, rz_aload 0, rz_cst 6480, rz_newa 4 6480, rz_putf (Nat.add (Nat.mul 256 14) 1) 232 rz_unR, rz_aload 0, rz_cst 43, rz_newa 4 43, rz_putf (Nat.add (Nat.mul 256 14) 1) 233 rz_unR, rz_aload 0, rz_cst 43, rz_newa 4 43, rz_putf (Nat.add (Nat.mul 256 14) 1) 234 rz_unR, rz_aload 0, rz_cst 516, rz_newa 4 516, rz_putf (Nat.add (Nat.mul 256 14) 1) 235 rz_unR, rz_aload 0, rz_cst 192480, rz_newa 4 192480, rz_putf (Nat.add (Nat.mul 256 14) 1) 237 rz_unR, rz_aload 0, rz_cst 269280, rz_newa 4 269280, rz_putf (Nat.add (Nat.mul 256 14) 1) 238 rz_unR, rz_aload 0, rz_cst 269280, rz_newa 4 269280, rz_putf (Nat.add (Nat.mul 256 14) 1) 239 rz_unR, rz_aload 0, rz_cst 269280, rz_newa 4 269280, rz_putf (Nat.add (Nat.mul 256 14) 1) 240 rz_unR, rz_aload 0, rz_cst 269280, rz_newa 4 269280, rz_putf (Nat.add (Nat.mul 256 14) 1) 241 rz_unR, rz_aload 0, rz_cst 1000, rz_newa 4 1000, rz_putf (Nat.add (Nat.mul 256 14) 1) 243 rz_unR, rz_aload 0, rz_cst 16224, rz_newa 2 16224, rz_putf (Nat.add (Nat.mul 256 14) 1) 244 rz_unR, rz_aload 0, rz_cst 200, rz_newa 4 200, rz_putf (Nat.add (Nat.mul 256 14) 1) 245 rz_unR, rz_aload 0, rz_cst 400, rz_newa 4 400, rz_putf (Nat.add (Nat.mul 256 14) 1) 247 rz_unR, rz_aload 0, rz_cst 400, rz_newa 4 400, rz_putf (Nat.add (Nat.mul 256 14) 1) 248 rz_unR, rz_aload 0, rz_cst 400, rz_newa 4 400, rz_putf (Nat.add (Nat.mul 256 14) 1) 249 rz_unR, rz_aload 0, rz_cst 4800, rz_newa 4 4800, rz_putf (Nat.add (Nat.mul 256 14) 1) 250 rz_unR, rz_aload 0, rz_cst 144, rz_newa 4 144, rz_putf (Nat.add (Nat.mul 256 14) 1) 254 rz_unR, rz_aload 0, rz_cst 12, rz_newa 4 12, rz_putf (Nat.add (Nat.mul 256 14) 1) 255 rz_unR, rz_aload 0, rz_cst 12, rz_newa 4 12, rz_putf (Nat.add (Nat.mul 256 14) 1) 256 rz_unR, rz_vret]
noncomputable def rgX12_init : rz_L → rz_M → rz_Z → Bool := rz_go rcX12_init 1 1000000
def rrX12_init : Room := { frames := 1, cells := 183, slots := 2644183, locals := 60 }
set_option maxRecDepth 100000 in
theorem rmX12_init (l : Launch) {G : rz_G} (hG : rz_Gd G) (vs : rz_L) (M : rz_M) (Z : rz_Z) (hn : vs.length = 1) (h : rgX12_init vs M Z = true) : Met l yX12_init (Cond.code yX12_init cX12_init 1 none :: rz_TB) rrX12_init (rz_Pre G vs M) (rz_Qv G M.2 Z) 183 2644183 (fun q => rz_b G ≤ q) := by
  obtain ⟨D, tc, ad, b, xs, rfl⟩ := id hG
  refine rz_bodyM (pcs := rpX12_init) (cz := rzX12_init) (by decide) rfl rfl (by rw [hn]; decide) h ?_
  intro p e R s m args below meth c hC hmn
  obtain ⟨hx, hb, hml, hr, hlk, ho, hts, hKn, hRm⟩ := id hC
  obtain ⟨hK, hA, hSt⟩ := id hKn
  have hw : ∀ {i j : Nat} {ws : List Cond} {w : Cond}, rz_WW[i]? = some ws → ws[j]? = some w → w.before args s = true := fun h1 h2 => hts _ (List.mem_cons_of_mem _ (rz_mem h1 h2))
  refine rz_All_c (i := 0) (fun k J hk hJ => rz_aload_n_ok (pc := 0) hx hb dX12_init_0 rfl hk) ?_
  refine rz_All_c (i := 1) (fun k J hk hJ => rz_obj_ok (pc := 1) (own := RX12) hx hb hml ho (hw (i := 75) (j := 0) rfl rfl) (hw (i := 55) (j := 1) rfl rfl) (hw (i := 55) (j := 2) rfl rfl) (by rw [hRm]; decide) (by rw [hRm]; decide) dX12_init_1 hk) ?_
  refine rz_All_c (i := 2) (fun k J hk hJ => rz_aload_n_ok (pc := 4) hx hb dX12_init_4 rfl hk) ?_
  refine rz_All_c (i := 3) (fun k J hk hJ => rz_sipush_ok (pc := 5) hx hb dX12_init_5 (by decide) hk) ?_
  refine rz_All_c (i := 4) (fun k J hk hJ => rz_newa_int_ok (pc := 8) (nz0 := (0, 0)) (mx := 12000) hx hb hK hA (hw (i := 57) (j := 7) rfl rfl) (by decide) (by rw [hRm]; decide) dX12_init_8 (rz_wid (by decide) hk)) ?_
  refine rz_All_c (i := 5) (fun k J hk hJ => rz_putfF_ok (pc := 10) (own := RX12) (ref := "ThreadJudgeModel") (C := RX12) (T := TX12) (N := 257) (ci := 14) (index := 7) (f := 0) (t := 2) (Ts := Cond.code yX12_init cX12_init 1 none :: rz_TB) hx hb hts rz_in14 tyX12 tyX12_ok nmX12 ho hK hA rfl (by decide) rfl (rz_UnR _ (Or.inr ⟨_, rfl⟩)) rfl (hmn.trans rfl) rfl (tyX12_ok 0 (by decide)) (hw (i := 32) (j := 14) rfl rfl) (fun _ z => z) dX12_init_10 hk) ?_
  refine rz_All_c (i := 6) (fun k J hk hJ => rz_aload_n_ok (pc := 13) hx hb dX12_init_13 rfl hk) ?_
  refine rz_All_c (i := 7) (fun k J hk hJ => rz_sipush_ok (pc := 14) hx hb dX12_init_14 (by decide) hk) ?_
  refine rz_All_c (i := 8) (fun k J hk hJ => rz_newa_int_ok (pc := 17) (nz0 := (1, 12000)) (mx := 15000) hx hb hK hA (hw (i := 57) (j := 7) rfl rfl) (by decide) (by rw [hRm]; decide) dX12_init_17 (rz_wid (by decide) hk)) ?_
  refine rz_All_c (i := 9) (fun k J hk hJ => rz_putfF_ok (pc := 19) (own := RX12) (ref := "ThreadJudgeModel") (C := RX12) (T := TX12) (N := 257) (ci := 14) (index := 13) (f := 2) (t := 2) (Ts := Cond.code yX12_init cX12_init 1 none :: rz_TB) hx hb hts rz_in14 tyX12 tyX12_ok nmX12 ho hK hA rfl (by decide) rfl (rz_UnR _ (Or.inr ⟨_, rfl⟩)) rfl (hmn.trans rfl) rfl (tyX12_ok 2 (by decide)) (hw (i := 32) (j := 13) rfl rfl) (fun _ z => z) dX12_init_19 hk) ?_
  refine rz_All_c (i := 10) (fun k J hk hJ => rz_aload_n_ok (pc := 22) hx hb dX12_init_22 rfl hk) ?_
  refine rz_All_c (i := 11) (fun k J hk hJ => rz_iconst_ok (pc := 23) hx hb dX12_init_23 rfl hk) ?_
  refine rz_All_c (i := 12) (fun k J hk hJ => rz_putf_ok (pc := 24) (own := RX12) (ref := "ThreadJudgeModel") (C := RX12) (T := TX12) (N := 257) (ci := 14) (index := 16) (f := 11) (t := 0) (Ts := Cond.code yX12_init cX12_init 1 none :: rz_TB) hx hb hts rz_in14 tyX12 tyX12_ok nmX12 ho hK hA rfl (by decide) rfl (rz_UnI _) rfl (tyX12_ok 11 (by decide)) (hw (i := 33) (j := 1) rfl rfl) (fun _ z => z) dX12_init_24 hk) ?_
  refine rz_All_c (i := 13) (fun k J hk hJ => rz_aload_n_ok (pc := 27) hx hb dX12_init_27 rfl hk) ?_
  refine rz_All_c (i := 14) (fun k J hk hJ => rz_bipush_ok (pc := 28) hx hb dX12_init_28 (by decide) hk) ?_
  refine rz_All_c (i := 15) (fun k J hk hJ => rz_newa_int_ok (pc := 30) (nz0 := (2, 27000)) (mx := 43) hx hb hK hA (hw (i := 57) (j := 7) rfl rfl) (by decide) (by rw [hRm]; decide) dX12_init_30 (rz_wid (by decide) hk)) ?_
  refine rz_All_c (i := 16) (fun k J hk hJ => rz_putfF_ok (pc := 32) (own := RX12) (ref := "ThreadJudgeModel") (C := RX12) (T := TX12) (N := 257) (ci := 14) (index := 20) (f := 14) (t := 2) (Ts := Cond.code yX12_init cX12_init 1 none :: rz_TB) hx hb hts rz_in14 tyX12 tyX12_ok nmX12 ho hK hA rfl (by decide) rfl (rz_UnR _ (Or.inr ⟨_, rfl⟩)) rfl (hmn.trans rfl) rfl (tyX12_ok 14 (by decide)) (hw (i := 36) (j := 10) rfl rfl) (fun _ z => z) dX12_init_32 hk) ?_
  refine rz_All_c (i := 17) (fun k J hk hJ => rz_aload_n_ok (pc := 35) hx hb dX12_init_35 rfl hk) ?_
  refine rz_All_c (i := 18) (fun k J hk hJ => rz_bipush_ok (pc := 36) hx hb dX12_init_36 (by decide) hk) ?_
  refine rz_All_c (i := 19) (fun k J hk hJ => rz_newa_int_ok (pc := 38) (nz0 := (3, 27043)) (mx := 43) hx hb hK hA (hw (i := 57) (j := 7) rfl rfl) (by decide) (by rw [hRm]; decide) dX12_init_38 (rz_wid (by decide) hk)) ?_
  refine rz_All_c (i := 20) (fun k J hk hJ => rz_putfF_ok (pc := 40) (own := RX12) (ref := "ThreadJudgeModel") (C := RX12) (T := TX12) (N := 257) (ci := 14) (index := 23) (f := 15) (t := 2) (Ts := Cond.code yX12_init cX12_init 1 none :: rz_TB) hx hb hts rz_in14 tyX12 tyX12_ok nmX12 ho hK hA rfl (by decide) rfl (rz_UnR _ (Or.inr ⟨_, rfl⟩)) rfl (hmn.trans rfl) rfl (tyX12_ok 15 (by decide)) (hw (i := 36) (j := 12) rfl rfl) (fun _ z => z) dX12_init_40 hk) ?_
  refine rz_All_c (i := 21) (fun k J hk hJ => rz_aload_n_ok (pc := 43) hx hb dX12_init_43 rfl hk) ?_
  refine rz_All_c (i := 22) (fun k J hk hJ => rz_bipush_ok (pc := 44) hx hb dX12_init_44 (by decide) hk) ?_
  refine rz_All_c (i := 23) (fun k J hk hJ => rz_newa_boolean_ok (pc := 46) (nz0 := (4, 27086)) (mx := 43) hx hb hK hA (hw (i := 75) (j := 9) rfl rfl) (by decide) (by rw [hRm]; decide) dX12_init_46 (rz_wid (by decide) hk)) ?_
  refine rz_All_c (i := 24) (fun k J hk hJ => rz_putfF_ok (pc := 48) (own := RX12) (ref := "ThreadJudgeModel") (C := RX12) (T := TX12) (N := 257) (ci := 14) (index := 26) (f := 16) (t := 2) (Ts := Cond.code yX12_init cX12_init 1 none :: rz_TB) hx hb hts rz_in14 tyX12 tyX12_ok nmX12 ho hK hA rfl (by decide) rfl (rz_UnR _ (Or.inr ⟨_, rfl⟩)) rfl (hmn.trans rfl) rfl (tyX12_ok 16 (by decide)) (hw (i := 36) (j := 14) rfl rfl) (fun _ z => z) dX12_init_48 hk) ?_
  refine rz_All_c (i := 25) (fun k J hk hJ => rz_aload_n_ok (pc := 51) hx hb dX12_init_51 rfl hk) ?_
  refine rz_All_c (i := 26) (fun k J hk hJ => rz_bipush_ok (pc := 52) hx hb dX12_init_52 (by decide) hk) ?_
  refine rz_All_c (i := 27) (fun k J hk hJ => rz_newa_boolean_ok (pc := 54) (nz0 := (5, 27129)) (mx := 43) hx hb hK hA (hw (i := 75) (j := 9) rfl rfl) (by decide) (by rw [hRm]; decide) dX12_init_54 (rz_wid (by decide) hk)) ?_
  refine rz_All_c (i := 28) (fun k J hk hJ => rz_putfF_ok (pc := 56) (own := RX12) (ref := "ThreadJudgeModel") (C := RX12) (T := TX12) (N := 257) (ci := 14) (index := 30) (f := 17) (t := 2) (Ts := Cond.code yX12_init cX12_init 1 none :: rz_TB) hx hb hts rz_in14 tyX12 tyX12_ok nmX12 ho hK hA rfl (by decide) rfl (rz_UnR _ (Or.inr ⟨_, rfl⟩)) rfl (hmn.trans rfl) rfl (tyX12_ok 17 (by decide)) (hw (i := 36) (j := 15) rfl rfl) (fun _ z => z) dX12_init_56 hk) ?_
  refine rz_All_c (i := 29) (fun k J hk hJ => rz_aload_n_ok (pc := 59) hx hb dX12_init_59 rfl hk) ?_
  refine rz_All_c (i := 30) (fun k J hk hJ => rz_bipush_ok (pc := 60) hx hb dX12_init_60 (by decide) hk) ?_
  refine rz_All_c (i := 31) (fun k J hk hJ => rz_newa_boolean_ok (pc := 62) (nz0 := (6, 27172)) (mx := 43) hx hb hK hA (hw (i := 75) (j := 9) rfl rfl) (by decide) (by rw [hRm]; decide) dX12_init_62 (rz_wid (by decide) hk)) ?_
  refine rz_All_c (i := 32) (fun k J hk hJ => rz_putfF_ok (pc := 64) (own := RX12) (ref := "ThreadJudgeModel") (C := RX12) (T := TX12) (N := 257) (ci := 14) (index := 33) (f := 18) (t := 2) (Ts := Cond.code yX12_init cX12_init 1 none :: rz_TB) hx hb hts rz_in14 tyX12 tyX12_ok nmX12 ho hK hA rfl (by decide) rfl (rz_UnR _ (Or.inr ⟨_, rfl⟩)) rfl (hmn.trans rfl) rfl (tyX12_ok 18 (by decide)) (hw (i := 36) (j := 16) rfl rfl) (fun _ z => z) dX12_init_64 hk) ?_
  refine rz_All_c (i := 33) (fun k J hk hJ => rz_aload_n_ok (pc := 67) hx hb dX12_init_67 rfl hk) ?_
  refine rz_All_c (i := 34) (fun k J hk hJ => rz_bipush_ok (pc := 68) hx hb dX12_init_68 (by decide) hk) ?_
  refine rz_All_c (i := 35) (fun k J hk hJ => rz_newa_int_ok (pc := 70) (nz0 := (7, 27215)) (mx := 43) hx hb hK hA (hw (i := 57) (j := 7) rfl rfl) (by decide) (by rw [hRm]; decide) dX12_init_70 (rz_wid (by decide) hk)) ?_
  refine rz_All_c (i := 36) (fun k J hk hJ => rz_putfF_ok (pc := 72) (own := RX12) (ref := "ThreadJudgeModel") (C := RX12) (T := TX12) (N := 257) (ci := 14) (index := 36) (f := 19) (t := 2) (Ts := Cond.code yX12_init cX12_init 1 none :: rz_TB) hx hb hts rz_in14 tyX12 tyX12_ok nmX12 ho hK hA rfl (by decide) rfl (rz_UnR _ (Or.inr ⟨_, rfl⟩)) rfl (hmn.trans rfl) rfl (tyX12_ok 19 (by decide)) (hw (i := 36) (j := 17) rfl rfl) (fun _ z => z) dX12_init_72 hk) ?_
  refine rz_All_c (i := 37) (fun k J hk hJ => rz_aload_n_ok (pc := 75) hx hb dX12_init_75 rfl hk) ?_
  refine rz_All_c (i := 38) (fun k J hk hJ => rz_bipush_ok (pc := 76) hx hb dX12_init_76 (by decide) hk) ?_
  refine rz_All_c (i := 39) (fun k J hk hJ => rz_newa_int_ok (pc := 78) (nz0 := (8, 27258)) (mx := 43) hx hb hK hA (hw (i := 57) (j := 7) rfl rfl) (by decide) (by rw [hRm]; decide) dX12_init_78 (rz_wid (by decide) hk)) ?_
  refine rz_All_c (i := 40) (fun k J hk hJ => rz_putfF_ok (pc := 80) (own := RX12) (ref := "ThreadJudgeModel") (C := RX12) (T := TX12) (N := 257) (ci := 14) (index := 39) (f := 20) (t := 2) (Ts := Cond.code yX12_init cX12_init 1 none :: rz_TB) hx hb hts rz_in14 tyX12 tyX12_ok nmX12 ho hK hA rfl (by decide) rfl (rz_UnR _ (Or.inr ⟨_, rfl⟩)) rfl (hmn.trans rfl) rfl (tyX12_ok 20 (by decide)) (hw (i := 36) (j := 21) rfl rfl) (fun _ z => z) dX12_init_80 hk) ?_
  refine rz_All_c (i := 41) (fun k J hk hJ => rz_aload_n_ok (pc := 83) hx hb dX12_init_83 rfl hk) ?_
  refine rz_All_c (i := 42) (fun k J hk hJ => rz_bipush_ok (pc := 84) hx hb dX12_init_84 (by decide) hk) ?_
  refine rz_All_c (i := 43) (fun k J hk hJ => rz_newa_int_ok (pc := 86) (nz0 := (9, 27301)) (mx := 43) hx hb hK hA (hw (i := 57) (j := 7) rfl rfl) (by decide) (by rw [hRm]; decide) dX12_init_86 (rz_wid (by decide) hk)) ?_
  refine rz_All_c (i := 44) (fun k J hk hJ => rz_putfF_ok (pc := 88) (own := RX12) (ref := "ThreadJudgeModel") (C := RX12) (T := TX12) (N := 257) (ci := 14) (index := 42) (f := 21) (t := 2) (Ts := Cond.code yX12_init cX12_init 1 none :: rz_TB) hx hb hts rz_in14 tyX12 tyX12_ok nmX12 ho hK hA rfl (by decide) rfl (rz_UnR _ (Or.inr ⟨_, rfl⟩)) rfl (hmn.trans rfl) rfl (tyX12_ok 21 (by decide)) (hw (i := 36) (j := 18) rfl rfl) (fun _ z => z) dX12_init_88 hk) ?_
  refine rz_All_c (i := 45) (fun k J hk hJ => rz_aload_n_ok (pc := 91) hx hb dX12_init_91 rfl hk) ?_
  refine rz_All_c (i := 46) (fun k J hk hJ => rz_sipush_ok (pc := 92) hx hb dX12_init_92 (by decide) hk) ?_
  refine rz_All_c (i := 47) (fun k J hk hJ => rz_newa_int_ok (pc := 95) (nz0 := (10, 27344)) (mx := 258) hx hb hK hA (hw (i := 57) (j := 7) rfl rfl) (by decide) (by rw [hRm]; decide) dX12_init_95 (rz_wid (by decide) hk)) ?_
  refine rz_All_c (i := 48) (fun k J hk hJ => rz_putfF_ok (pc := 97) (own := RX12) (ref := "ThreadJudgeModel") (C := RX12) (T := TX12) (N := 257) (ci := 14) (index := 45) (f := 22) (t := 2) (Ts := Cond.code yX12_init cX12_init 1 none :: rz_TB) hx hb hts rz_in14 tyX12 tyX12_ok nmX12 ho hK hA rfl (by decide) rfl (rz_UnR _ (Or.inr ⟨_, rfl⟩)) rfl (hmn.trans rfl) rfl (tyX12_ok 22 (by decide)) (hw (i := 36) (j := 22) rfl rfl) (fun _ z => z) dX12_init_97 hk) ?_
  refine rz_All_c (i := 49) (fun k J hk hJ => rz_aload_n_ok (pc := 100) hx hb dX12_init_100 rfl hk) ?_
  refine rz_All_c (i := 50) (fun k J hk hJ => rz_sipush_ok (pc := 101) hx hb dX12_init_101 (by decide) hk) ?_
  refine rz_All_c (i := 51) (fun k J hk hJ => rz_newa_int_ok (pc := 104) (nz0 := (11, 27602)) (mx := 258) hx hb hK hA (hw (i := 57) (j := 7) rfl rfl) (by decide) (by rw [hRm]; decide) dX12_init_104 (rz_wid (by decide) hk)) ?_
  refine rz_All_c (i := 52) (fun k J hk hJ => rz_putfF_ok (pc := 106) (own := RX12) (ref := "ThreadJudgeModel") (C := RX12) (T := TX12) (N := 257) (ci := 14) (index := 48) (f := 23) (t := 2) (Ts := Cond.code yX12_init cX12_init 1 none :: rz_TB) hx hb hts rz_in14 tyX12 tyX12_ok nmX12 ho hK hA rfl (by decide) rfl (rz_UnR _ (Or.inr ⟨_, rfl⟩)) rfl (hmn.trans rfl) rfl (tyX12_ok 23 (by decide)) (hw (i := 36) (j := 23) rfl rfl) (fun _ z => z) dX12_init_106 hk) ?_
  refine rz_All_c (i := 53) (fun k J hk hJ => rz_aload_n_ok (pc := 109) hx hb dX12_init_109 rfl hk) ?_
  refine rz_All_c (i := 54) (fun k J hk hJ => rz_bipush_ok (pc := 110) hx hb dX12_init_110 (by decide) hk) ?_
  refine rz_All_c (i := 55) (fun k J hk hJ => rz_newa_int_ok (pc := 112) (nz0 := (12, 27860)) (mx := 44) hx hb hK hA (hw (i := 57) (j := 7) rfl rfl) (by decide) (by rw [hRm]; decide) dX12_init_112 (rz_wid (by decide) hk)) ?_
  refine rz_All_c (i := 56) (fun k J hk hJ => rz_putfF_ok (pc := 114) (own := RX12) (ref := "ThreadJudgeModel") (C := RX12) (T := TX12) (N := 257) (ci := 14) (index := 51) (f := 24) (t := 2) (Ts := Cond.code yX12_init cX12_init 1 none :: rz_TB) hx hb hts rz_in14 tyX12 tyX12_ok nmX12 ho hK hA rfl (by decide) rfl (rz_UnR _ (Or.inr ⟨_, rfl⟩)) rfl (hmn.trans rfl) rfl (tyX12_ok 24 (by decide)) (hw (i := 36) (j := 19) rfl rfl) (fun _ z => z) dX12_init_114 hk) ?_
  refine rz_All_c (i := 57) (fun k J hk hJ => rz_aload_n_ok (pc := 117) hx hb dX12_init_117 rfl hk) ?_
  refine rz_All_c (i := 58) (fun k J hk hJ => rz_bipush_ok (pc := 118) hx hb dX12_init_118 (by decide) hk) ?_
  refine rz_All_c (i := 59) (fun k J hk hJ => rz_newa_int_ok (pc := 120) (nz0 := (13, 27904)) (mx := 44) hx hb hK hA (hw (i := 57) (j := 7) rfl rfl) (by decide) (by rw [hRm]; decide) dX12_init_120 (rz_wid (by decide) hk)) ?_
  refine rz_All_c (i := 60) (fun k J hk hJ => rz_putfF_ok (pc := 122) (own := RX12) (ref := "ThreadJudgeModel") (C := RX12) (T := TX12) (N := 257) (ci := 14) (index := 54) (f := 25) (t := 2) (Ts := Cond.code yX12_init cX12_init 1 none :: rz_TB) hx hb hts rz_in14 tyX12 tyX12_ok nmX12 ho hK hA rfl (by decide) rfl (rz_UnR _ (Or.inr ⟨_, rfl⟩)) rfl (hmn.trans rfl) rfl (tyX12_ok 25 (by decide)) (hw (i := 36) (j := 20) rfl rfl) (fun _ z => z) dX12_init_122 hk) ?_
  refine rz_All_c (i := 61) (fun k J hk hJ => rz_aload_n_ok (pc := 125) hx hb dX12_init_125 rfl hk) ?_
  refine rz_All_c (i := 62) (fun k J hk hJ => rz_bipush_ok (pc := 126) hx hb dX12_init_126 (by decide) hk) ?_
  refine rz_All_c (i := 63) (fun k J hk hJ => rz_newa_int_ok (pc := 128) (nz0 := (14, 27948)) (mx := 41) hx hb hK hA (hw (i := 57) (j := 7) rfl rfl) (by decide) (by rw [hRm]; decide) dX12_init_128 (rz_wid (by decide) hk)) ?_
  refine rz_All_c (i := 64) (fun k J hk hJ => rz_putfF_ok (pc := 130) (own := RX12) (ref := "ThreadJudgeModel") (C := RX12) (T := TX12) (N := 257) (ci := 14) (index := 57) (f := 27) (t := 2) (Ts := Cond.code yX12_init cX12_init 1 none :: rz_TB) hx hb hts rz_in14 tyX12 tyX12_ok nmX12 ho hK hA rfl (by decide) rfl (rz_UnR _ (Or.inr ⟨_, rfl⟩)) rfl (hmn.trans rfl) rfl (tyX12_ok 27 (by decide)) (hw (i := 39) (j := 0) rfl rfl) (fun _ z => z) dX12_init_130 hk) ?_
  refine rz_All_c (i := 65) (fun k J hk hJ => rz_aload_n_ok (pc := 133) hx hb dX12_init_133 rfl hk) ?_
  refine rz_All_c (i := 66) (fun k J hk hJ => rz_bipush_ok (pc := 134) hx hb dX12_init_134 (by decide) hk) ?_
  refine rz_All_c (i := 67) (fun k J hk hJ => rz_newa_int_ok (pc := 136) (nz0 := (15, 27989)) (mx := 41) hx hb hK hA (hw (i := 57) (j := 7) rfl rfl) (by decide) (by rw [hRm]; decide) dX12_init_136 (rz_wid (by decide) hk)) ?_
  refine rz_All_c (i := 68) (fun k J hk hJ => rz_putfF_ok (pc := 138) (own := RX12) (ref := "ThreadJudgeModel") (C := RX12) (T := TX12) (N := 257) (ci := 14) (index := 60) (f := 28) (t := 2) (Ts := Cond.code yX12_init cX12_init 1 none :: rz_TB) hx hb hts rz_in14 tyX12 tyX12_ok nmX12 ho hK hA rfl (by decide) rfl (rz_UnR _ (Or.inr ⟨_, rfl⟩)) rfl (hmn.trans rfl) rfl (tyX12_ok 28 (by decide)) (hw (i := 39) (j := 1) rfl rfl) (fun _ z => z) dX12_init_138 hk) ?_
  refine rz_All_c (i := 69) (fun k J hk hJ => rz_aload_n_ok (pc := 141) hx hb dX12_init_141 rfl hk) ?_
  refine rz_All_c (i := 70) (fun k J hk hJ => rz_bipush_ok (pc := 142) hx hb dX12_init_142 (by decide) hk) ?_
  refine rz_All_c (i := 71) (fun k J hk hJ => rz_newa_int_ok (pc := 144) (nz0 := (16, 28030)) (mx := 41) hx hb hK hA (hw (i := 57) (j := 7) rfl rfl) (by decide) (by rw [hRm]; decide) dX12_init_144 (rz_wid (by decide) hk)) ?_
  refine rz_All_c (i := 72) (fun k J hk hJ => rz_putfF_ok (pc := 146) (own := RX12) (ref := "ThreadJudgeModel") (C := RX12) (T := TX12) (N := 257) (ci := 14) (index := 63) (f := 29) (t := 2) (Ts := Cond.code yX12_init cX12_init 1 none :: rz_TB) hx hb hts rz_in14 tyX12 tyX12_ok nmX12 ho hK hA rfl (by decide) rfl (rz_UnR _ (Or.inr ⟨_, rfl⟩)) rfl (hmn.trans rfl) rfl (tyX12_ok 29 (by decide)) (hw (i := 39) (j := 2) rfl rfl) (fun _ z => z) dX12_init_146 hk) ?_
  refine rz_All_c (i := 73) (fun k J hk hJ => rz_aload_n_ok (pc := 149) hx hb dX12_init_149 rfl hk) ?_
  refine rz_All_c (i := 74) (fun k J hk hJ => rz_bipush_ok (pc := 150) hx hb dX12_init_150 (by decide) hk) ?_
  refine rz_All_c (i := 75) (fun k J hk hJ => rz_newa_int_ok (pc := 152) (nz0 := (17, 28071)) (mx := 41) hx hb hK hA (hw (i := 57) (j := 7) rfl rfl) (by decide) (by rw [hRm]; decide) dX12_init_152 (rz_wid (by decide) hk)) ?_
  refine rz_All_c (i := 76) (fun k J hk hJ => rz_putfF_ok (pc := 154) (own := RX12) (ref := "ThreadJudgeModel") (C := RX12) (T := TX12) (N := 257) (ci := 14) (index := 66) (f := 30) (t := 2) (Ts := Cond.code yX12_init cX12_init 1 none :: rz_TB) hx hb hts rz_in14 tyX12 tyX12_ok nmX12 ho hK hA rfl (by decide) rfl (rz_UnR _ (Or.inr ⟨_, rfl⟩)) rfl (hmn.trans rfl) rfl (tyX12_ok 30 (by decide)) (hw (i := 39) (j := 3) rfl rfl) (fun _ z => z) dX12_init_154 hk) ?_
  refine rz_All_c (i := 77) (fun k J hk hJ => rz_aload_n_ok (pc := 157) hx hb dX12_init_157 rfl hk) ?_
  refine rz_All_c (i := 78) (fun k J hk hJ => rz_bipush_ok (pc := 158) hx hb dX12_init_158 (by decide) hk) ?_
  refine rz_All_c (i := 79) (fun k J hk hJ => rz_newa_int_ok (pc := 160) (nz0 := (18, 28112)) (mx := 117) hx hb hK hA (hw (i := 57) (j := 7) rfl rfl) (by decide) (by rw [hRm]; decide) dX12_init_160 (rz_wid (by decide) hk)) ?_
  refine rz_All_c (i := 80) (fun k J hk hJ => rz_putfF_ok (pc := 162) (own := RX12) (ref := "ThreadJudgeModel") (C := RX12) (T := TX12) (N := 257) (ci := 14) (index := 69) (f := 32) (t := 2) (Ts := Cond.code yX12_init cX12_init 1 none :: rz_TB) hx hb hts rz_in14 tyX12 tyX12_ok nmX12 ho hK hA rfl (by decide) rfl (rz_UnR _ (Or.inr ⟨_, rfl⟩)) rfl (hmn.trans rfl) rfl (tyX12_ok 32 (by decide)) (hw (i := 39) (j := 15) rfl rfl) (fun _ z => z) dX12_init_162 hk) ?_
  refine rz_All_c (i := 81) (fun k J hk hJ => rz_aload_n_ok (pc := 165) hx hb dX12_init_165 rfl hk) ?_
  refine rz_All_c (i := 82) (fun k J hk hJ => rz_bipush_ok (pc := 166) hx hb dX12_init_166 (by decide) hk) ?_
  refine rz_All_c (i := 83) (fun k J hk hJ => rz_newa_int_ok (pc := 168) (nz0 := (19, 28229)) (mx := 117) hx hb hK hA (hw (i := 57) (j := 7) rfl rfl) (by decide) (by rw [hRm]; decide) dX12_init_168 (rz_wid (by decide) hk)) ?_
  refine rz_All_c (i := 84) (fun k J hk hJ => rz_putfF_ok (pc := 170) (own := RX12) (ref := "ThreadJudgeModel") (C := RX12) (T := TX12) (N := 257) (ci := 14) (index := 72) (f := 33) (t := 2) (Ts := Cond.code yX12_init cX12_init 1 none :: rz_TB) hx hb hts rz_in14 tyX12 tyX12_ok nmX12 ho hK hA rfl (by decide) rfl (rz_UnR _ (Or.inr ⟨_, rfl⟩)) rfl (hmn.trans rfl) rfl (tyX12_ok 33 (by decide)) (hw (i := 39) (j := 16) rfl rfl) (fun _ z => z) dX12_init_170 hk) ?_
  refine rz_All_c (i := 85) (fun k J hk hJ => rz_aload_n_ok (pc := 173) hx hb dX12_init_173 rfl hk) ?_
  refine rz_All_c (i := 86) (fun k J hk hJ => rz_bipush_ok (pc := 174) hx hb dX12_init_174 (by decide) hk) ?_
  refine rz_All_c (i := 87) (fun k J hk hJ => rz_newa_int_ok (pc := 176) (nz0 := (20, 28346)) (mx := 117) hx hb hK hA (hw (i := 57) (j := 7) rfl rfl) (by decide) (by rw [hRm]; decide) dX12_init_176 (rz_wid (by decide) hk)) ?_
  refine rz_All_c (i := 88) (fun k J hk hJ => rz_putfF_ok (pc := 178) (own := RX12) (ref := "ThreadJudgeModel") (C := RX12) (T := TX12) (N := 257) (ci := 14) (index := 75) (f := 34) (t := 2) (Ts := Cond.code yX12_init cX12_init 1 none :: rz_TB) hx hb hts rz_in14 tyX12 tyX12_ok nmX12 ho hK hA rfl (by decide) rfl (rz_UnR _ (Or.inr ⟨_, rfl⟩)) rfl (hmn.trans rfl) rfl (tyX12_ok 34 (by decide)) (hw (i := 39) (j := 17) rfl rfl) (fun _ z => z) dX12_init_178 hk) ?_
  refine rz_All_c (i := 89) (fun k J hk hJ => rz_aload_n_ok (pc := 181) hx hb dX12_init_181 rfl hk) ?_
  refine rz_All_c (i := 90) (fun k J hk hJ => rz_bipush_ok (pc := 182) hx hb dX12_init_182 (by decide) hk) ?_
  refine rz_All_c (i := 91) (fun k J hk hJ => rz_newa_int_ok (pc := 184) (nz0 := (21, 28463)) (mx := 117) hx hb hK hA (hw (i := 57) (j := 7) rfl rfl) (by decide) (by rw [hRm]; decide) dX12_init_184 (rz_wid (by decide) hk)) ?_
  refine rz_All_c (i := 92) (fun k J hk hJ => rz_putfF_ok (pc := 186) (own := RX12) (ref := "ThreadJudgeModel") (C := RX12) (T := TX12) (N := 257) (ci := 14) (index := 78) (f := 35) (t := 2) (Ts := Cond.code yX12_init cX12_init 1 none :: rz_TB) hx hb hts rz_in14 tyX12 tyX12_ok nmX12 ho hK hA rfl (by decide) rfl (rz_UnR _ (Or.inr ⟨_, rfl⟩)) rfl (hmn.trans rfl) rfl (tyX12_ok 35 (by decide)) (hw (i := 39) (j := 18) rfl rfl) (fun _ z => z) dX12_init_186 hk) ?_
  refine rz_All_c (i := 93) (fun k J hk hJ => rz_aload_n_ok (pc := 189) hx hb dX12_init_189 rfl hk) ?_
  refine rz_All_c (i := 94) (fun k J hk hJ => rz_bipush_ok (pc := 190) hx hb dX12_init_190 (by decide) hk) ?_
  refine rz_All_c (i := 95) (fun k J hk hJ => rz_newa_int_ok (pc := 192) (nz0 := (22, 28580)) (mx := 117) hx hb hK hA (hw (i := 57) (j := 7) rfl rfl) (by decide) (by rw [hRm]; decide) dX12_init_192 (rz_wid (by decide) hk)) ?_
  refine rz_All_c (i := 96) (fun k J hk hJ => rz_putfF_ok (pc := 194) (own := RX12) (ref := "ThreadJudgeModel") (C := RX12) (T := TX12) (N := 257) (ci := 14) (index := 81) (f := 36) (t := 2) (Ts := Cond.code yX12_init cX12_init 1 none :: rz_TB) hx hb hts rz_in14 tyX12 tyX12_ok nmX12 ho hK hA rfl (by decide) rfl (rz_UnR _ (Or.inr ⟨_, rfl⟩)) rfl (hmn.trans rfl) rfl (tyX12_ok 36 (by decide)) (hw (i := 39) (j := 22) rfl rfl) (fun _ z => z) dX12_init_194 hk) ?_
  refine rz_All_c (i := 97) (fun k J hk hJ => rz_aload_n_ok (pc := 197) hx hb dX12_init_197 rfl hk) ?_
  refine rz_All_c (i := 98) (fun k J hk hJ => rz_bipush_ok (pc := 198) hx hb dX12_init_198 (by decide) hk) ?_
  refine rz_All_c (i := 99) (fun k J hk hJ => rz_newa_boolean_ok (pc := 200) (nz0 := (23, 28697)) (mx := 117) hx hb hK hA (hw (i := 75) (j := 9) rfl rfl) (by decide) (by rw [hRm]; decide) dX12_init_200 (rz_wid (by decide) hk)) ?_
  refine rz_All_c (i := 100) (fun k J hk hJ => rz_putfF_ok (pc := 202) (own := RX12) (ref := "ThreadJudgeModel") (C := RX12) (T := TX12) (N := 257) (ci := 14) (index := 84) (f := 37) (t := 2) (Ts := Cond.code yX12_init cX12_init 1 none :: rz_TB) hx hb hts rz_in14 tyX12 tyX12_ok nmX12 ho hK hA rfl (by decide) rfl (rz_UnR _ (Or.inr ⟨_, rfl⟩)) rfl (hmn.trans rfl) rfl (tyX12_ok 37 (by decide)) (hw (i := 39) (j := 19) rfl rfl) (fun _ z => z) dX12_init_202 hk) ?_
  refine rz_All_c (i := 101) (fun k J hk hJ => rz_aload_n_ok (pc := 205) hx hb dX12_init_205 rfl hk) ?_
  refine rz_All_c (i := 102) (fun k J hk hJ => rz_bipush_ok (pc := 206) hx hb dX12_init_206 (by decide) hk) ?_
  refine rz_All_c (i := 103) (fun k J hk hJ => rz_newa_int_ok (pc := 208) (nz0 := (24, 28814)) (mx := 118) hx hb hK hA (hw (i := 57) (j := 7) rfl rfl) (by decide) (by rw [hRm]; decide) dX12_init_208 (rz_wid (by decide) hk)) ?_
  refine rz_All_c (i := 104) (fun k J hk hJ => rz_putfF_ok (pc := 210) (own := RX12) (ref := "ThreadJudgeModel") (C := RX12) (T := TX12) (N := 257) (ci := 14) (index := 87) (f := 38) (t := 2) (Ts := Cond.code yX12_init cX12_init 1 none :: rz_TB) hx hb hts rz_in14 tyX12 tyX12_ok nmX12 ho hK hA rfl (by decide) rfl (rz_UnR _ (Or.inr ⟨_, rfl⟩)) rfl (hmn.trans rfl) rfl (tyX12_ok 38 (by decide)) (hw (i := 39) (j := 20) rfl rfl) (fun _ z => z) dX12_init_210 hk) ?_
  refine rz_All_c (i := 105) (fun k J hk hJ => rz_aload_n_ok (pc := 213) hx hb dX12_init_213 rfl hk) ?_
  refine rz_All_c (i := 106) (fun k J hk hJ => rz_bipush_ok (pc := 214) hx hb dX12_init_214 (by decide) hk) ?_
  refine rz_All_c (i := 107) (fun k J hk hJ => rz_newa_int_ok (pc := 216) (nz0 := (25, 28932)) (mx := 117) hx hb hK hA (hw (i := 57) (j := 7) rfl rfl) (by decide) (by rw [hRm]; decide) dX12_init_216 (rz_wid (by decide) hk)) ?_
  refine rz_All_c (i := 108) (fun k J hk hJ => rz_putfF_ok (pc := 218) (own := RX12) (ref := "ThreadJudgeModel") (C := RX12) (T := TX12) (N := 257) (ci := 14) (index := 90) (f := 39) (t := 2) (Ts := Cond.code yX12_init cX12_init 1 none :: rz_TB) hx hb hts rz_in14 tyX12 tyX12_ok nmX12 ho hK hA rfl (by decide) rfl (rz_UnR _ (Or.inr ⟨_, rfl⟩)) rfl (hmn.trans rfl) rfl (tyX12_ok 39 (by decide)) (hw (i := 39) (j := 21) rfl rfl) (fun _ z => z) dX12_init_218 hk) ?_
  refine rz_All_c (i := 109) (fun k J hk hJ => rz_aload_n_ok (pc := 221) hx hb dX12_init_221 rfl hk) ?_
  refine rz_All_c (i := 110) (fun k J hk hJ => rz_sipush_ok (pc := 222) hx hb dX12_init_222 (by decide) hk) ?_
  refine rz_All_c (i := 111) (fun k J hk hJ => rz_newa_int_ok (pc := 225) (nz0 := (26, 29049)) (mx := 9300) hx hb hK hA (hw (i := 57) (j := 7) rfl rfl) (by decide) (by rw [hRm]; decide) dX12_init_225 (rz_wid (by decide) hk)) ?_
  refine rz_All_c (i := 112) (fun k J hk hJ => rz_putfF_ok (pc := 227) (own := RX12) (ref := "ThreadJudgeModel") (C := RX12) (T := TX12) (N := 257) (ci := 14) (index := 93) (f := 40) (t := 2) (Ts := Cond.code yX12_init cX12_init 1 none :: rz_TB) hx hb hts rz_in14 tyX12 tyX12_ok nmX12 ho hK hA rfl (by decide) rfl (rz_UnR _ (Or.inr ⟨_, rfl⟩)) rfl (hmn.trans rfl) rfl (tyX12_ok 40 (by decide)) (hw (i := 39) (j := 8) rfl rfl) (fun _ z => z) dX12_init_227 hk) ?_
  refine rz_All_c (i := 113) (fun k J hk hJ => rz_aload_n_ok (pc := 230) hx hb dX12_init_230 rfl hk) ?_
  refine rz_All_c (i := 114) (fun k J hk hJ => rz_sipush_ok (pc := 231) hx hb dX12_init_231 (by decide) hk) ?_
  refine rz_All_c (i := 115) (fun k J hk hJ => rz_newa_int_ok (pc := 234) (nz0 := (27, 38349)) (mx := 9300) hx hb hK hA (hw (i := 57) (j := 7) rfl rfl) (by decide) (by rw [hRm]; decide) dX12_init_234 (rz_wid (by decide) hk)) ?_
  refine rz_All_c (i := 116) (fun k J hk hJ => rz_putfF_ok (pc := 236) (own := RX12) (ref := "ThreadJudgeModel") (C := RX12) (T := TX12) (N := 257) (ci := 14) (index := 96) (f := 41) (t := 2) (Ts := Cond.code yX12_init cX12_init 1 none :: rz_TB) hx hb hts rz_in14 tyX12 tyX12_ok nmX12 ho hK hA rfl (by decide) rfl (rz_UnR _ (Or.inr ⟨_, rfl⟩)) rfl (hmn.trans rfl) rfl (tyX12_ok 41 (by decide)) (hw (i := 39) (j := 9) rfl rfl) (fun _ z => z) dX12_init_236 hk) ?_
  refine rz_All_c (i := 117) (fun k J hk hJ => rz_aload_n_ok (pc := 239) hx hb dX12_init_239 rfl hk) ?_
  refine rz_All_c (i := 118) (fun k J hk hJ => rz_sipush_ok (pc := 240) hx hb dX12_init_240 (by decide) hk) ?_
  refine rz_All_c (i := 119) (fun k J hk hJ => rz_newa_boolean_ok (pc := 243) (nz0 := (28, 47649)) (mx := 9300) hx hb hK hA (hw (i := 75) (j := 9) rfl rfl) (by decide) (by rw [hRm]; decide) dX12_init_243 (rz_wid (by decide) hk)) ?_
  refine rz_All_c (i := 120) (fun k J hk hJ => rz_putfF_ok (pc := 245) (own := RX12) (ref := "ThreadJudgeModel") (C := RX12) (T := TX12) (N := 257) (ci := 14) (index := 99) (f := 42) (t := 2) (Ts := Cond.code yX12_init cX12_init 1 none :: rz_TB) hx hb hts rz_in14 tyX12 tyX12_ok nmX12 ho hK hA rfl (by decide) rfl (rz_UnR _ (Or.inr ⟨_, rfl⟩)) rfl (hmn.trans rfl) rfl (tyX12_ok 42 (by decide)) (hw (i := 39) (j := 10) rfl rfl) (fun _ z => z) dX12_init_245 hk) ?_
  refine rz_All_c (i := 121) (fun k J hk hJ => rz_aload_n_ok (pc := 248) hx hb dX12_init_248 rfl hk) ?_
  refine rz_All_c (i := 122) (fun k J hk hJ => rz_sipush_ok (pc := 249) hx hb dX12_init_249 (by decide) hk) ?_
  refine rz_All_c (i := 123) (fun k J hk hJ => rz_newa_int_ok (pc := 252) (nz0 := (29, 56949)) (mx := 1014) hx hb hK hA (hw (i := 57) (j := 7) rfl rfl) (by decide) (by rw [hRm]; decide) dX12_init_252 (rz_wid (by decide) hk)) ?_
  refine rz_All_c (i := 124) (fun k J hk hJ => rz_putfF_ok (pc := 254) (own := RX12) (ref := "ThreadJudgeModel") (C := RX12) (T := TX12) (N := 257) (ci := 14) (index := 102) (f := 44) (t := 2) (Ts := Cond.code yX12_init cX12_init 1 none :: rz_TB) hx hb hts rz_in14 tyX12 tyX12_ok nmX12 ho hK hA rfl (by decide) rfl (rz_UnR _ (Or.inr ⟨_, rfl⟩)) rfl (hmn.trans rfl) rfl (tyX12_ok 44 (by decide)) (hw (i := 40) (j := 12) rfl rfl) (fun _ z => z) dX12_init_254 hk) ?_
  refine rz_All_c (i := 125) (fun k J hk hJ => rz_aload_n_ok (pc := 257) hx hb dX12_init_257 rfl hk) ?_
  refine rz_All_c (i := 126) (fun k J hk hJ => rz_sipush_ok (pc := 258) hx hb dX12_init_258 (by decide) hk) ?_
  refine rz_All_c (i := 127) (fun k J hk hJ => rz_newa_int_ok (pc := 261) (nz0 := (30, 57963)) (mx := 1014) hx hb hK hA (hw (i := 57) (j := 7) rfl rfl) (by decide) (by rw [hRm]; decide) dX12_init_261 (rz_wid (by decide) hk)) ?_
  refine rz_All_c (i := 128) (fun k J hk hJ => rz_putfF_ok (pc := 263) (own := RX12) (ref := "ThreadJudgeModel") (C := RX12) (T := TX12) (N := 257) (ci := 14) (index := 105) (f := 45) (t := 2) (Ts := Cond.code yX12_init cX12_init 1 none :: rz_TB) hx hb hts rz_in14 tyX12 tyX12_ok nmX12 ho hK hA rfl (by decide) rfl (rz_UnR _ (Or.inr ⟨_, rfl⟩)) rfl (hmn.trans rfl) rfl (tyX12_ok 45 (by decide)) (hw (i := 40) (j := 13) rfl rfl) (fun _ z => z) dX12_init_263 hk) ?_
  refine rz_All_c (i := 129) (fun k J hk hJ => rz_aload_n_ok (pc := 266) hx hb dX12_init_266 rfl hk) ?_
  refine rz_All_c (i := 130) (fun k J hk hJ => rz_sipush_ok (pc := 267) hx hb dX12_init_267 (by decide) hk) ?_
  refine rz_All_c (i := 131) (fun k J hk hJ => rz_newa_int_ok (pc := 270) (nz0 := (31, 58977)) (mx := 1014) hx hb hK hA (hw (i := 57) (j := 7) rfl rfl) (by decide) (by rw [hRm]; decide) dX12_init_270 (rz_wid (by decide) hk)) ?_
  refine rz_All_c (i := 132) (fun k J hk hJ => rz_putfF_ok (pc := 272) (own := RX12) (ref := "ThreadJudgeModel") (C := RX12) (T := TX12) (N := 257) (ci := 14) (index := 108) (f := 46) (t := 2) (Ts := Cond.code yX12_init cX12_init 1 none :: rz_TB) hx hb hts rz_in14 tyX12 tyX12_ok nmX12 ho hK hA rfl (by decide) rfl (rz_UnR _ (Or.inr ⟨_, rfl⟩)) rfl (hmn.trans rfl) rfl (tyX12_ok 46 (by decide)) (hw (i := 40) (j := 14) rfl rfl) (fun _ z => z) dX12_init_272 hk) ?_
  refine rz_All_c (i := 133) (fun k J hk hJ => rz_aload_n_ok (pc := 275) hx hb dX12_init_275 rfl hk) ?_
  refine rz_All_c (i := 134) (fun k J hk hJ => rz_sipush_ok (pc := 276) hx hb dX12_init_276 (by decide) hk) ?_
  refine rz_All_c (i := 135) (fun k J hk hJ => rz_newa_int_ok (pc := 279) (nz0 := (32, 59991)) (mx := 1014) hx hb hK hA (hw (i := 57) (j := 7) rfl rfl) (by decide) (by rw [hRm]; decide) dX12_init_279 (rz_wid (by decide) hk)) ?_
  refine rz_All_c (i := 136) (fun k J hk hJ => rz_putfF_ok (pc := 281) (own := RX12) (ref := "ThreadJudgeModel") (C := RX12) (T := TX12) (N := 257) (ci := 14) (index := 111) (f := 47) (t := 2) (Ts := Cond.code yX12_init cX12_init 1 none :: rz_TB) hx hb hts rz_in14 tyX12 tyX12_ok nmX12 ho hK hA rfl (by decide) rfl (rz_UnR _ (Or.inr ⟨_, rfl⟩)) rfl (hmn.trans rfl) rfl (tyX12_ok 47 (by decide)) (hw (i := 41) (j := 9) rfl rfl) (fun _ z => z) dX12_init_281 hk) ?_
  refine rz_All_c (i := 137) (fun k J hk hJ => rz_aload_n_ok (pc := 284) hx hb dX12_init_284 rfl hk) ?_
  refine rz_All_c (i := 138) (fun k J hk hJ => rz_sipush_ok (pc := 285) hx hb dX12_init_285 (by decide) hk) ?_
  refine rz_All_c (i := 139) (fun k J hk hJ => rz_newa_int_ok (pc := 288) (nz0 := (33, 61005)) (mx := 1014) hx hb hK hA (hw (i := 57) (j := 7) rfl rfl) (by decide) (by rw [hRm]; decide) dX12_init_288 (rz_wid (by decide) hk)) ?_
  refine rz_All_c (i := 140) (fun k J hk hJ => rz_putfF_ok (pc := 290) (own := RX12) (ref := "ThreadJudgeModel") (C := RX12) (T := TX12) (N := 257) (ci := 14) (index := 114) (f := 48) (t := 2) (Ts := Cond.code yX12_init cX12_init 1 none :: rz_TB) hx hb hts rz_in14 tyX12 tyX12_ok nmX12 ho hK hA rfl (by decide) rfl (rz_UnR _ (Or.inr ⟨_, rfl⟩)) rfl (hmn.trans rfl) rfl (tyX12_ok 48 (by decide)) (hw (i := 41) (j := 8) rfl rfl) (fun _ z => z) dX12_init_290 hk) ?_
  refine rz_All_c (i := 141) (fun k J hk hJ => rz_aload_n_ok (pc := 293) hx hb dX12_init_293 rfl hk) ?_
  refine rz_All_c (i := 142) (fun k J hk hJ => rz_sipush_ok (pc := 294) hx hb dX12_init_294 (by decide) hk) ?_
  refine rz_All_c (i := 143) (fun k J hk hJ => rz_newa_int_ok (pc := 297) (nz0 := (34, 62019)) (mx := 1014) hx hb hK hA (hw (i := 57) (j := 7) rfl rfl) (by decide) (by rw [hRm]; decide) dX12_init_297 (rz_wid (by decide) hk)) ?_
  refine rz_All_c (i := 144) (fun k J hk hJ => rz_putfF_ok (pc := 299) (own := RX12) (ref := "ThreadJudgeModel") (C := RX12) (T := TX12) (N := 257) (ci := 14) (index := 117) (f := 49) (t := 2) (Ts := Cond.code yX12_init cX12_init 1 none :: rz_TB) hx hb hts rz_in14 tyX12 tyX12_ok nmX12 ho hK hA rfl (by decide) rfl (rz_UnR _ (Or.inr ⟨_, rfl⟩)) rfl (hmn.trans rfl) rfl (tyX12_ok 49 (by decide)) (hw (i := 42) (j := 2) rfl rfl) (fun _ z => z) dX12_init_299 hk) ?_
  refine rz_All_c (i := 145) (fun k J hk hJ => rz_aload_n_ok (pc := 302) hx hb dX12_init_302 rfl hk) ?_
  refine rz_All_c (i := 146) (fun k J hk hJ => rz_sipush_ok (pc := 303) hx hb dX12_init_303 (by decide) hk) ?_
  refine rz_All_c (i := 147) (fun k J hk hJ => rz_newa_int_ok (pc := 306) (nz0 := (35, 63033)) (mx := 1014) hx hb hK hA (hw (i := 57) (j := 7) rfl rfl) (by decide) (by rw [hRm]; decide) dX12_init_306 (rz_wid (by decide) hk)) ?_
  refine rz_All_c (i := 148) (fun k J hk hJ => rz_putfF_ok (pc := 308) (own := RX12) (ref := "ThreadJudgeModel") (C := RX12) (T := TX12) (N := 257) (ci := 14) (index := 120) (f := 50) (t := 2) (Ts := Cond.code yX12_init cX12_init 1 none :: rz_TB) hx hb hts rz_in14 tyX12 tyX12_ok nmX12 ho hK hA rfl (by decide) rfl (rz_UnR _ (Or.inr ⟨_, rfl⟩)) rfl (hmn.trans rfl) rfl (tyX12_ok 50 (by decide)) (hw (i := 42) (j := 3) rfl rfl) (fun _ z => z) dX12_init_308 hk) ?_
  refine rz_All_c (i := 149) (fun k J hk hJ => rz_aload_n_ok (pc := 311) hx hb dX12_init_311 rfl hk) ?_
  refine rz_All_c (i := 150) (fun k J hk hJ => rz_sipush_ok (pc := 312) hx hb dX12_init_312 (by decide) hk) ?_
  refine rz_All_c (i := 151) (fun k J hk hJ => rz_newa_int_ok (pc := 315) (nz0 := (36, 64047)) (mx := 1014) hx hb hK hA (hw (i := 57) (j := 7) rfl rfl) (by decide) (by rw [hRm]; decide) dX12_init_315 (rz_wid (by decide) hk)) ?_
  refine rz_All_c (i := 152) (fun k J hk hJ => rz_putfF_ok (pc := 317) (own := RX12) (ref := "ThreadJudgeModel") (C := RX12) (T := TX12) (N := 257) (ci := 14) (index := 123) (f := 51) (t := 2) (Ts := Cond.code yX12_init cX12_init 1 none :: rz_TB) hx hb hts rz_in14 tyX12 tyX12_ok nmX12 ho hK hA rfl (by decide) rfl (rz_UnR _ (Or.inr ⟨_, rfl⟩)) rfl (hmn.trans rfl) rfl (tyX12_ok 51 (by decide)) (hw (i := 42) (j := 0) rfl rfl) (fun _ z => z) dX12_init_317 hk) ?_
  refine rz_All_c (i := 153) (fun k J hk hJ => rz_aload_n_ok (pc := 320) hx hb dX12_init_320 rfl hk) ?_
  refine rz_All_c (i := 154) (fun k J hk hJ => rz_sipush_ok (pc := 321) hx hb dX12_init_321 (by decide) hk) ?_
  refine rz_All_c (i := 155) (fun k J hk hJ => rz_newa_int_ok (pc := 324) (nz0 := (37, 65061)) (mx := 1014) hx hb hK hA (hw (i := 57) (j := 7) rfl rfl) (by decide) (by rw [hRm]; decide) dX12_init_324 (rz_wid (by decide) hk)) ?_
  refine rz_All_c (i := 156) (fun k J hk hJ => rz_putfF_ok (pc := 326) (own := RX12) (ref := "ThreadJudgeModel") (C := RX12) (T := TX12) (N := 257) (ci := 14) (index := 126) (f := 52) (t := 2) (Ts := Cond.code yX12_init cX12_init 1 none :: rz_TB) hx hb hts rz_in14 tyX12 tyX12_ok nmX12 ho hK hA rfl (by decide) rfl (rz_UnR _ (Or.inr ⟨_, rfl⟩)) rfl (hmn.trans rfl) rfl (tyX12_ok 52 (by decide)) (hw (i := 42) (j := 1) rfl rfl) (fun _ z => z) dX12_init_326 hk) ?_
  refine rz_All_c (i := 157) (fun k J hk hJ => rz_aload_n_ok (pc := 329) hx hb dX12_init_329 rfl hk) ?_
  refine rz_All_c (i := 158) (fun k J hk hJ => rz_sipush_ok (pc := 330) hx hb dX12_init_330 (by decide) hk) ?_
  refine rz_All_c (i := 159) (fun k J hk hJ => rz_newa_int_ok (pc := 333) (nz0 := (38, 66075)) (mx := 1014) hx hb hK hA (hw (i := 57) (j := 7) rfl rfl) (by decide) (by rw [hRm]; decide) dX12_init_333 (rz_wid (by decide) hk)) ?_
  refine rz_All_c (i := 160) (fun k J hk hJ => rz_putfF_ok (pc := 335) (own := RX12) (ref := "ThreadJudgeModel") (C := RX12) (T := TX12) (N := 257) (ci := 14) (index := 129) (f := 53) (t := 2) (Ts := Cond.code yX12_init cX12_init 1 none :: rz_TB) hx hb hts rz_in14 tyX12 tyX12_ok nmX12 ho hK hA rfl (by decide) rfl (rz_UnR _ (Or.inr ⟨_, rfl⟩)) rfl (hmn.trans rfl) rfl (tyX12_ok 53 (by decide)) (hw (i := 42) (j := 8) rfl rfl) (fun _ z => z) dX12_init_335 hk) ?_
  refine rz_All_c (i := 161) (fun k J hk hJ => rz_aload_n_ok (pc := 338) hx hb dX12_init_338 rfl hk) ?_
  refine rz_All_c (i := 162) (fun k J hk hJ => rz_sipush_ok (pc := 339) hx hb dX12_init_339 (by decide) hk) ?_
  refine rz_All_c (i := 163) (fun k J hk hJ => rz_newa_int_ok (pc := 342) (nz0 := (39, 67089)) (mx := 6100) hx hb hK hA (hw (i := 57) (j := 7) rfl rfl) (by decide) (by rw [hRm]; decide) dX12_init_342 (rz_wid (by decide) hk)) ?_
  refine rz_All_c (i := 164) (fun k J hk hJ => rz_putfF_ok (pc := 344) (own := RX12) (ref := "ThreadJudgeModel") (C := RX12) (T := TX12) (N := 257) (ci := 14) (index := 132) (f := 55) (t := 2) (Ts := Cond.code yX12_init cX12_init 1 none :: rz_TB) hx hb hts rz_in14 tyX12 tyX12_ok nmX12 ho hK hA rfl (by decide) rfl (rz_UnR _ (Or.inr ⟨_, rfl⟩)) rfl (hmn.trans rfl) rfl (tyX12_ok 55 (by decide)) (hw (i := 40) (j := 8) rfl rfl) (fun _ z => z) dX12_init_344 hk) ?_
  refine rz_All_c (i := 165) (fun k J hk hJ => rz_aload_n_ok (pc := 347) hx hb dX12_init_347 rfl hk) ?_
  refine rz_All_c (i := 166) (fun k J hk hJ => rz_sipush_ok (pc := 348) hx hb dX12_init_348 (by decide) hk) ?_
  refine rz_All_c (i := 167) (fun k J hk hJ => rz_newa_int_ok (pc := 351) (nz0 := (40, 73189)) (mx := 6100) hx hb hK hA (hw (i := 57) (j := 7) rfl rfl) (by decide) (by rw [hRm]; decide) dX12_init_351 (rz_wid (by decide) hk)) ?_
  refine rz_All_c (i := 168) (fun k J hk hJ => rz_putfF_ok (pc := 353) (own := RX12) (ref := "ThreadJudgeModel") (C := RX12) (T := TX12) (N := 257) (ci := 14) (index := 135) (f := 56) (t := 2) (Ts := Cond.code yX12_init cX12_init 1 none :: rz_TB) hx hb hts rz_in14 tyX12 tyX12_ok nmX12 ho hK hA rfl (by decide) rfl (rz_UnR _ (Or.inr ⟨_, rfl⟩)) rfl (hmn.trans rfl) rfl (tyX12_ok 56 (by decide)) (hw (i := 40) (j := 9) rfl rfl) (fun _ z => z) dX12_init_353 hk) ?_
  refine rz_All_c (i := 169) (fun k J hk hJ => rz_aload_n_ok (pc := 356) hx hb dX12_init_356 rfl hk) ?_
  refine rz_All_c (i := 170) (fun k J hk hJ => rz_sipush_ok (pc := 357) hx hb dX12_init_357 (by decide) hk) ?_
  refine rz_All_c (i := 171) (fun k J hk hJ => rz_newa_int_ok (pc := 360) (nz0 := (41, 79289)) (mx := 6100) hx hb hK hA (hw (i := 57) (j := 7) rfl rfl) (by decide) (by rw [hRm]; decide) dX12_init_360 (rz_wid (by decide) hk)) ?_
  refine rz_All_c (i := 172) (fun k J hk hJ => rz_putfF_ok (pc := 362) (own := RX12) (ref := "ThreadJudgeModel") (C := RX12) (T := TX12) (N := 257) (ci := 14) (index := 138) (f := 57) (t := 2) (Ts := Cond.code yX12_init cX12_init 1 none :: rz_TB) hx hb hts rz_in14 tyX12 tyX12_ok nmX12 ho hK hA rfl (by decide) rfl (rz_UnR _ (Or.inr ⟨_, rfl⟩)) rfl (hmn.trans rfl) rfl (tyX12_ok 57 (by decide)) (hw (i := 40) (j := 10) rfl rfl) (fun _ z => z) dX12_init_362 hk) ?_
  refine rz_All_c (i := 173) (fun k J hk hJ => rz_aload_n_ok (pc := 365) hx hb dX12_init_365 rfl hk) ?_
  refine rz_All_c (i := 174) (fun k J hk hJ => rz_sipush_ok (pc := 366) hx hb dX12_init_366 (by decide) hk) ?_
  refine rz_All_c (i := 175) (fun k J hk hJ => rz_newa_int_ok (pc := 369) (nz0 := (42, 85389)) (mx := 6100) hx hb hK hA (hw (i := 57) (j := 7) rfl rfl) (by decide) (by rw [hRm]; decide) dX12_init_369 (rz_wid (by decide) hk)) ?_
  refine rz_All_c (i := 176) (fun k J hk hJ => rz_putfF_ok (pc := 371) (own := RX12) (ref := "ThreadJudgeModel") (C := RX12) (T := TX12) (N := 257) (ci := 14) (index := 141) (f := 58) (t := 2) (Ts := Cond.code yX12_init cX12_init 1 none :: rz_TB) hx hb hts rz_in14 tyX12 tyX12_ok nmX12 ho hK hA rfl (by decide) rfl (rz_UnR _ (Or.inr ⟨_, rfl⟩)) rfl (hmn.trans rfl) rfl (tyX12_ok 58 (by decide)) (hw (i := 40) (j := 11) rfl rfl) (fun _ z => z) dX12_init_371 hk) ?_
  refine rz_All_c (i := 177) (fun k J hk hJ => rz_aload_n_ok (pc := 374) hx hb dX12_init_374 rfl hk) ?_
  refine rz_All_c (i := 178) (fun k J hk hJ => rz_sipush_ok (pc := 375) hx hb dX12_init_375 (by decide) hk) ?_
  refine rz_All_c (i := 179) (fun k J hk hJ => rz_newa_int_ok (pc := 378) (nz0 := (43, 91489)) (mx := 936) hx hb hK hA (hw (i := 57) (j := 7) rfl rfl) (by decide) (by rw [hRm]; decide) dX12_init_378 (rz_wid (by decide) hk)) ?_
  refine rz_All_c (i := 180) (fun k J hk hJ => rz_putfF_ok (pc := 380) (own := RX12) (ref := "ThreadJudgeModel") (C := RX12) (T := TX12) (N := 257) (ci := 14) (index := 144) (f := 59) (t := 2) (Ts := Cond.code yX12_init cX12_init 1 none :: rz_TB) hx hb hts rz_in14 tyX12 tyX12_ok nmX12 ho hK hA rfl (by decide) rfl (rz_UnR _ (Or.inr ⟨_, rfl⟩)) rfl (hmn.trans rfl) rfl (tyX12_ok 59 (by decide)) (hw (i := 40) (j := 19) rfl rfl) (fun _ z => z) dX12_init_380 hk) ?_
  refine rz_All_c (i := 181) (fun k J hk hJ => rz_aload_n_ok (pc := 383) hx hb dX12_init_383 rfl hk) ?_
  refine rz_All_c (i := 182) (fun k J hk hJ => rz_sipush_ok (pc := 384) hx hb dX12_init_384 (by decide) hk) ?_
  refine rz_All_c (i := 183) (fun k J hk hJ => rz_newa_int_ok (pc := 387) (nz0 := (44, 92425)) (mx := 3744) hx hb hK hA (hw (i := 57) (j := 7) rfl rfl) (by decide) (by rw [hRm]; decide) dX12_init_387 (rz_wid (by decide) hk)) ?_
  refine rz_All_c (i := 184) (fun k J hk hJ => rz_putfF_ok (pc := 389) (own := RX12) (ref := "ThreadJudgeModel") (C := RX12) (T := TX12) (N := 257) (ci := 14) (index := 147) (f := 60) (t := 2) (Ts := Cond.code yX12_init cX12_init 1 none :: rz_TB) hx hb hts rz_in14 tyX12 tyX12_ok nmX12 ho hK hA rfl (by decide) rfl (rz_UnR _ (Or.inr ⟨_, rfl⟩)) rfl (hmn.trans rfl) rfl (tyX12_ok 60 (by decide)) (hw (i := 40) (j := 20) rfl rfl) (fun _ z => z) dX12_init_389 hk) ?_
  refine rz_All_c (i := 185) (fun k J hk hJ => rz_aload_n_ok (pc := 392) hx hb dX12_init_392 rfl hk) ?_
  refine rz_All_c (i := 186) (fun k J hk hJ => rz_sipush_ok (pc := 393) hx hb dX12_init_393 (by decide) hk) ?_
  refine rz_All_c (i := 187) (fun k J hk hJ => rz_newa_int_ok (pc := 396) (nz0 := (45, 96169)) (mx := 3744) hx hb hK hA (hw (i := 57) (j := 7) rfl rfl) (by decide) (by rw [hRm]; decide) dX12_init_396 (rz_wid (by decide) hk)) ?_
  refine rz_All_c (i := 188) (fun k J hk hJ => rz_putfF_ok (pc := 398) (own := RX12) (ref := "ThreadJudgeModel") (C := RX12) (T := TX12) (N := 257) (ci := 14) (index := 150) (f := 61) (t := 2) (Ts := Cond.code yX12_init cX12_init 1 none :: rz_TB) hx hb hts rz_in14 tyX12 tyX12_ok nmX12 ho hK hA rfl (by decide) rfl (rz_UnR _ (Or.inr ⟨_, rfl⟩)) rfl (hmn.trans rfl) rfl (tyX12_ok 61 (by decide)) (hw (i := 40) (j := 21) rfl rfl) (fun _ z => z) dX12_init_398 hk) ?_
  refine rz_All_c (i := 189) (fun k J hk hJ => rz_aload_n_ok (pc := 401) hx hb dX12_init_401 rfl hk) ?_
  refine rz_All_c (i := 190) (fun k J hk hJ => rz_bipush_ok (pc := 402) hx hb dX12_init_402 (by decide) hk) ?_
  refine rz_All_c (i := 191) (fun k J hk hJ => rz_newa_int_ok (pc := 404) (nz0 := (46, 99913)) (mx := 32) hx hb hK hA (hw (i := 57) (j := 7) rfl rfl) (by decide) (by rw [hRm]; decide) dX12_init_404 (rz_wid (by decide) hk)) ?_
  refine rz_All_c (i := 192) (fun k J hk hJ => rz_putfF_ok (pc := 406) (own := RX12) (ref := "ThreadJudgeModel") (C := RX12) (T := TX12) (N := 257) (ci := 14) (index := 153) (f := 63) (t := 2) (Ts := Cond.code yX12_init cX12_init 1 none :: rz_TB) hx hb hts rz_in14 tyX12 tyX12_ok nmX12 ho hK hA rfl (by decide) rfl (rz_UnR _ (Or.inr ⟨_, rfl⟩)) rfl (hmn.trans rfl) rfl (tyX12_ok 63 (by decide)) (hw (i := 41) (j := 14) rfl rfl) (fun _ z => z) dX12_init_406 hk) ?_
  refine rz_All_c (i := 193) (fun k J hk hJ => rz_aload_n_ok (pc := 409) hx hb dX12_init_409 rfl hk) ?_
  refine rz_All_c (i := 194) (fun k J hk hJ => rz_bipush_ok (pc := 410) hx hb dX12_init_410 (by decide) hk) ?_
  refine rz_All_c (i := 195) (fun k J hk hJ => rz_newa_int_ok (pc := 412) (nz0 := (47, 99945)) (mx := 32) hx hb hK hA (hw (i := 57) (j := 7) rfl rfl) (by decide) (by rw [hRm]; decide) dX12_init_412 (rz_wid (by decide) hk)) ?_
  refine rz_All_c (i := 196) (fun k J hk hJ => rz_putfF_ok (pc := 414) (own := RX12) (ref := "ThreadJudgeModel") (C := RX12) (T := TX12) (N := 257) (ci := 14) (index := 156) (f := 64) (t := 2) (Ts := Cond.code yX12_init cX12_init 1 none :: rz_TB) hx hb hts rz_in14 tyX12 tyX12_ok nmX12 ho hK hA rfl (by decide) rfl (rz_UnR _ (Or.inr ⟨_, rfl⟩)) rfl (hmn.trans rfl) rfl (tyX12_ok 64 (by decide)) (hw (i := 41) (j := 15) rfl rfl) (fun _ z => z) dX12_init_414 hk) ?_
  refine rz_All_c (i := 197) (fun k J hk hJ => rz_aload_n_ok (pc := 417) hx hb dX12_init_417 rfl hk) ?_
  refine rz_All_c (i := 198) (fun k J hk hJ => rz_sipush_ok (pc := 418) hx hb dX12_init_418 (by decide) hk) ?_
  refine rz_All_c (i := 199) (fun k J hk hJ => rz_newa_int_ok (pc := 421) (nz0 := (48, 99977)) (mx := 1014) hx hb hK hA (hw (i := 57) (j := 7) rfl rfl) (by decide) (by rw [hRm]; decide) dX12_init_421 (rz_wid (by decide) hk)) ?_
  refine rz_All_c (i := 200) (fun k J hk hJ => rz_putfF_ok (pc := 423) (own := RX12) (ref := "ThreadJudgeModel") (C := RX12) (T := TX12) (N := 257) (ci := 14) (index := 159) (f := 69) (t := 2) (Ts := Cond.code yX12_init cX12_init 1 none :: rz_TB) hx hb hts rz_in14 tyX12 tyX12_ok nmX12 ho hK hA rfl (by decide) rfl (rz_UnR _ (Or.inr ⟨_, rfl⟩)) rfl (hmn.trans rfl) rfl (tyX12_ok 69 (by decide)) (hw (i := 41) (j := 2) rfl rfl) (fun _ z => z) dX12_init_423 hk) ?_
  refine rz_All_c (i := 201) (fun k J hk hJ => rz_aload_n_ok (pc := 426) hx hb dX12_init_426 rfl hk) ?_
  refine rz_All_c (i := 202) (fun k J hk hJ => rz_sipush_ok (pc := 427) hx hb dX12_init_427 (by decide) hk) ?_
  refine rz_All_c (i := 203) (fun k J hk hJ => rz_newa_int_ok (pc := 430) (nz0 := (49, 100991)) (mx := 1014) hx hb hK hA (hw (i := 57) (j := 7) rfl rfl) (by decide) (by rw [hRm]; decide) dX12_init_430 (rz_wid (by decide) hk)) ?_
  refine rz_All_c (i := 204) (fun k J hk hJ => rz_putfF_ok (pc := 432) (own := RX12) (ref := "ThreadJudgeModel") (C := RX12) (T := TX12) (N := 257) (ci := 14) (index := 162) (f := 70) (t := 2) (Ts := Cond.code yX12_init cX12_init 1 none :: rz_TB) hx hb hts rz_in14 tyX12 tyX12_ok nmX12 ho hK hA rfl (by decide) rfl (rz_UnR _ (Or.inr ⟨_, rfl⟩)) rfl (hmn.trans rfl) rfl (tyX12_ok 70 (by decide)) (hw (i := 41) (j := 3) rfl rfl) (fun _ z => z) dX12_init_432 hk) ?_
  refine rz_All_c (i := 205) (fun k J hk hJ => rz_aload_n_ok (pc := 435) hx hb dX12_init_435 rfl hk) ?_
  refine rz_All_c (i := 206) (fun k J hk hJ => rz_bipush_ok (pc := 436) hx hb dX12_init_436 (by decide) hk) ?_
  refine rz_All_c (i := 207) (fun k J hk hJ => rz_newa_int_ok (pc := 438) (nz0 := (50, 102005)) (mx := 43) hx hb hK hA (hw (i := 57) (j := 7) rfl rfl) (by decide) (by rw [hRm]; decide) dX12_init_438 (rz_wid (by decide) hk)) ?_
  refine rz_All_c (i := 208) (fun k J hk hJ => rz_putfF_ok (pc := 440) (own := RX12) (ref := "ThreadJudgeModel") (C := RX12) (T := TX12) (N := 257) (ci := 14) (index := 165) (f := 71) (t := 2) (Ts := Cond.code yX12_init cX12_init 1 none :: rz_TB) hx hb hts rz_in14 tyX12 tyX12_ok nmX12 ho hK hA rfl (by decide) rfl (rz_UnR _ (Or.inr ⟨_, rfl⟩)) rfl (hmn.trans rfl) rfl (tyX12_ok 71 (by decide)) (hw (i := 42) (j := 16) rfl rfl) (fun _ z => z) dX12_init_440 hk) ?_
  refine rz_All_c (i := 209) (fun k J hk hJ => rz_aload_n_ok (pc := 443) hx hb dX12_init_443 rfl hk) ?_
  refine rz_All_c (i := 210) (fun k J hk hJ => rz_sipush_ok (pc := 444) hx hb dX12_init_444 (by decide) hk) ?_
  refine rz_All_c (i := 211) (fun k J hk hJ => rz_newa_int_ok (pc := 447) (nz0 := (51, 102048)) (mx := 258) hx hb hK hA (hw (i := 57) (j := 7) rfl rfl) (by decide) (by rw [hRm]; decide) dX12_init_447 (rz_wid (by decide) hk)) ?_
  refine rz_All_c (i := 212) (fun k J hk hJ => rz_putfF_ok (pc := 449) (own := RX12) (ref := "ThreadJudgeModel") (C := RX12) (T := TX12) (N := 257) (ci := 14) (index := 168) (f := 72) (t := 2) (Ts := Cond.code yX12_init cX12_init 1 none :: rz_TB) hx hb hts rz_in14 tyX12 tyX12_ok nmX12 ho hK hA rfl (by decide) rfl (rz_UnR _ (Or.inr ⟨_, rfl⟩)) rfl (hmn.trans rfl) rfl (tyX12_ok 72 (by decide)) (hw (i := 42) (j := 21) rfl rfl) (fun _ z => z) dX12_init_449 hk) ?_
  refine rz_All_c (i := 213) (fun k J hk hJ => rz_aload_n_ok (pc := 452) hx hb dX12_init_452 rfl hk) ?_
  refine rz_All_c (i := 214) (fun k J hk hJ => rz_sipush_ok (pc := 453) hx hb dX12_init_453 (by decide) hk) ?_
  refine rz_All_c (i := 215) (fun k J hk hJ => rz_newa_boolean_ok (pc := 456) (nz0 := (52, 102306)) (mx := 1849) hx hb hK hA (hw (i := 75) (j := 9) rfl rfl) (by decide) (by rw [hRm]; decide) dX12_init_456 (rz_wid (by decide) hk)) ?_
  refine rz_All_c (i := 216) (fun k J hk hJ => rz_putfF_ok (pc := 458) (own := RX12) (ref := "ThreadJudgeModel") (C := RX12) (T := TX12) (N := 257) (ci := 14) (index := 171) (f := 73) (t := 2) (Ts := Cond.code yX12_init cX12_init 1 none :: rz_TB) hx hb hts rz_in14 tyX12 tyX12_ok nmX12 ho hK hA rfl (by decide) rfl (rz_UnR _ (Or.inr ⟨_, rfl⟩)) rfl (hmn.trans rfl) rfl (tyX12_ok 73 (by decide)) (hw (i := 43) (j := 10) rfl rfl) (fun _ z => z) dX12_init_458 hk) ?_
  refine rz_All_c (i := 217) (fun k J hk hJ => rz_aload_n_ok (pc := 461) hx hb dX12_init_461 rfl hk) ?_
  refine rz_All_c (i := 218) (fun k J hk hJ => rz_bipush_ok (pc := 462) hx hb dX12_init_462 (by decide) hk) ?_
  refine rz_All_c (i := 219) (fun k J hk hJ => rz_newa_int_ok (pc := 464) (nz0 := (53, 104155)) (mx := 41) hx hb hK hA (hw (i := 57) (j := 7) rfl rfl) (by decide) (by rw [hRm]; decide) dX12_init_464 (rz_wid (by decide) hk)) ?_
  refine rz_All_c (i := 220) (fun k J hk hJ => rz_putfF_ok (pc := 466) (own := RX12) (ref := "ThreadJudgeModel") (C := RX12) (T := TX12) (N := 257) (ci := 14) (index := 174) (f := 74) (t := 2) (Ts := Cond.code yX12_init cX12_init 1 none :: rz_TB) hx hb hts rz_in14 tyX12 tyX12_ok nmX12 ho hK hA rfl (by decide) rfl (rz_UnR _ (Or.inr ⟨_, rfl⟩)) rfl (hmn.trans rfl) rfl (tyX12_ok 74 (by decide)) (hw (i := 44) (j := 0) rfl rfl) (fun _ z => z) dX12_init_466 hk) ?_
  refine rz_All_c (i := 221) (fun k J hk hJ => rz_aload_n_ok (pc := 469) hx hb dX12_init_469 rfl hk) ?_
  refine rz_All_c (i := 222) (fun k J hk hJ => rz_bipush_ok (pc := 470) hx hb dX12_init_470 (by decide) hk) ?_
  refine rz_All_c (i := 223) (fun k J hk hJ => rz_newa_int_ok (pc := 472) (nz0 := (54, 104196)) (mx := 117) hx hb hK hA (hw (i := 57) (j := 7) rfl rfl) (by decide) (by rw [hRm]; decide) dX12_init_472 (rz_wid (by decide) hk)) ?_
  refine rz_All_c (i := 224) (fun k J hk hJ => rz_putfF_ok (pc := 474) (own := RX12) (ref := "ThreadJudgeModel") (C := RX12) (T := TX12) (N := 257) (ci := 14) (index := 177) (f := 75) (t := 2) (Ts := Cond.code yX12_init cX12_init 1 none :: rz_TB) hx hb hts rz_in14 tyX12 tyX12_ok nmX12 ho hK hA rfl (by decide) rfl (rz_UnR _ (Or.inr ⟨_, rfl⟩)) rfl (hmn.trans rfl) rfl (tyX12_ok 75 (by decide)) (hw (i := 42) (j := 15) rfl rfl) (fun _ z => z) dX12_init_474 hk) ?_
  refine rz_All_c (i := 225) (fun k J hk hJ => rz_aload_n_ok (pc := 477) hx hb dX12_init_477 rfl hk) ?_
  refine rz_All_c (i := 226) (fun k J hk hJ => rz_sipush_ok (pc := 478) hx hb dX12_init_478 (by decide) hk) ?_
  refine rz_All_c (i := 227) (fun k J hk hJ => rz_newa_int_ok (pc := 481) (nz0 := (55, 104313)) (mx := 702) hx hb hK hA (hw (i := 57) (j := 7) rfl rfl) (by decide) (by rw [hRm]; decide) dX12_init_481 (rz_wid (by decide) hk)) ?_
  refine rz_All_c (i := 228) (fun k J hk hJ => rz_putfF_ok (pc := 483) (own := RX12) (ref := "ThreadJudgeModel") (C := RX12) (T := TX12) (N := 257) (ci := 14) (index := 180) (f := 76) (t := 2) (Ts := Cond.code yX12_init cX12_init 1 none :: rz_TB) hx hb hts rz_in14 tyX12 tyX12_ok nmX12 ho hK hA rfl (by decide) rfl (rz_UnR _ (Or.inr ⟨_, rfl⟩)) rfl (hmn.trans rfl) rfl (tyX12_ok 76 (by decide)) (hw (i := 43) (j := 19) rfl rfl) (fun _ z => z) dX12_init_483 hk) ?_
  refine rz_All_c (i := 229) (fun k J hk hJ => rz_aload_n_ok (pc := 486) hx hb dX12_init_486 rfl hk) ?_
  refine rz_All_c (i := 230) (fun k J hk hJ => rz_sipush_ok (pc := 487) hx hb dX12_init_487 (by decide) hk) ?_
  refine rz_All_c (i := 231) (fun k J hk hJ => rz_newa_int_ok (pc := 490) (nz0 := (56, 105015)) (mx := 1014) hx hb hK hA (hw (i := 57) (j := 7) rfl rfl) (by decide) (by rw [hRm]; decide) dX12_init_490 (rz_wid (by decide) hk)) ?_
  refine rz_All_c (i := 232) (fun k J hk hJ => rz_putfF_ok (pc := 492) (own := RX12) (ref := "ThreadJudgeModel") (C := RX12) (T := TX12) (N := 257) (ci := 14) (index := 183) (f := 78) (t := 2) (Ts := Cond.code yX12_init cX12_init 1 none :: rz_TB) hx hb hts rz_in14 tyX12 tyX12_ok nmX12 ho hK hA rfl (by decide) rfl (rz_UnR _ (Or.inr ⟨_, rfl⟩)) rfl (hmn.trans rfl) rfl (tyX12_ok 78 (by decide)) (hw (i := 46) (j := 8) rfl rfl) (fun _ z => z) dX12_init_492 hk) ?_
  refine rz_All_c (i := 233) (fun k J hk hJ => rz_aload_n_ok (pc := 495) hx hb dX12_init_495 rfl hk) ?_
  refine rz_All_c (i := 234) (fun k J hk hJ => rz_sipush_ok (pc := 496) hx hb dX12_init_496 (by decide) hk) ?_
  refine rz_All_c (i := 235) (fun k J hk hJ => rz_newa_int_ok (pc := 499) (nz0 := (57, 106029)) (mx := 1014) hx hb hK hA (hw (i := 57) (j := 7) rfl rfl) (by decide) (by rw [hRm]; decide) dX12_init_499 (rz_wid (by decide) hk)) ?_
  refine rz_All_c (i := 236) (fun k J hk hJ => rz_putfF_ok (pc := 501) (own := RX12) (ref := "ThreadJudgeModel") (C := RX12) (T := TX12) (N := 257) (ci := 14) (index := 186) (f := 79) (t := 2) (Ts := Cond.code yX12_init cX12_init 1 none :: rz_TB) hx hb hts rz_in14 tyX12 tyX12_ok nmX12 ho hK hA rfl (by decide) rfl (rz_UnR _ (Or.inr ⟨_, rfl⟩)) rfl (hmn.trans rfl) rfl (tyX12_ok 79 (by decide)) (hw (i := 47) (j := 5) rfl rfl) (fun _ z => z) dX12_init_501 hk) ?_
  refine rz_All_c (i := 237) (fun k J hk hJ => rz_aload_n_ok (pc := 504) hx hb dX12_init_504 rfl hk) ?_
  refine rz_All_c (i := 238) (fun k J hk hJ => rz_sipush_ok (pc := 505) hx hb dX12_init_505 (by decide) hk) ?_
  refine rz_All_c (i := 239) (fun k J hk hJ => rz_newa_int_ok (pc := 508) (nz0 := (58, 107043)) (mx := 936) hx hb hK hA (hw (i := 57) (j := 7) rfl rfl) (by decide) (by rw [hRm]; decide) dX12_init_508 (rz_wid (by decide) hk)) ?_
  refine rz_All_c (i := 240) (fun k J hk hJ => rz_putfF_ok (pc := 510) (own := RX12) (ref := "ThreadJudgeModel") (C := RX12) (T := TX12) (N := 257) (ci := 14) (index := 189) (f := 80) (t := 2) (Ts := Cond.code yX12_init cX12_init 1 none :: rz_TB) hx hb hts rz_in14 tyX12 tyX12_ok nmX12 ho hK hA rfl (by decide) rfl (rz_UnR _ (Or.inr ⟨_, rfl⟩)) rfl (hmn.trans rfl) rfl (tyX12_ok 80 (by decide)) (hw (i := 46) (j := 0) rfl rfl) (fun _ z => z) dX12_init_510 hk) ?_
  refine rz_All_c (i := 241) (fun k J hk hJ => rz_aload_n_ok (pc := 513) hx hb dX12_init_513 rfl hk) ?_
  refine rz_All_c (i := 242) (fun k J hk hJ => rz_sipush_ok (pc := 514) hx hb dX12_init_514 (by decide) hk) ?_
  refine rz_All_c (i := 243) (fun k J hk hJ => rz_newa_int_ok (pc := 517) (nz0 := (59, 107979)) (mx := 936) hx hb hK hA (hw (i := 57) (j := 7) rfl rfl) (by decide) (by rw [hRm]; decide) dX12_init_517 (rz_wid (by decide) hk)) ?_
  refine rz_All_c (i := 244) (fun k J hk hJ => rz_putfF_ok (pc := 519) (own := RX12) (ref := "ThreadJudgeModel") (C := RX12) (T := TX12) (N := 257) (ci := 14) (index := 192) (f := 81) (t := 2) (Ts := Cond.code yX12_init cX12_init 1 none :: rz_TB) hx hb hts rz_in14 tyX12 tyX12_ok nmX12 ho hK hA rfl (by decide) rfl (rz_UnR _ (Or.inr ⟨_, rfl⟩)) rfl (hmn.trans rfl) rfl (tyX12_ok 81 (by decide)) (hw (i := 46) (j := 1) rfl rfl) (fun _ z => z) dX12_init_519 hk) ?_
  refine rz_All_c (i := 245) (fun k J hk hJ => rz_aload_n_ok (pc := 522) hx hb dX12_init_522 rfl hk) ?_
  refine rz_All_c (i := 246) (fun k J hk hJ => rz_sipush_ok (pc := 523) hx hb dX12_init_523 (by decide) hk) ?_
  refine rz_All_c (i := 247) (fun k J hk hJ => rz_newa_int_ok (pc := 526) (nz0 := (60, 108915)) (mx := 936) hx hb hK hA (hw (i := 57) (j := 7) rfl rfl) (by decide) (by rw [hRm]; decide) dX12_init_526 (rz_wid (by decide) hk)) ?_
  refine rz_All_c (i := 248) (fun k J hk hJ => rz_putfF_ok (pc := 528) (own := RX12) (ref := "ThreadJudgeModel") (C := RX12) (T := TX12) (N := 257) (ci := 14) (index := 195) (f := 82) (t := 2) (Ts := Cond.code yX12_init cX12_init 1 none :: rz_TB) hx hb hts rz_in14 tyX12 tyX12_ok nmX12 ho hK hA rfl (by decide) rfl (rz_UnR _ (Or.inr ⟨_, rfl⟩)) rfl (hmn.trans rfl) rfl (tyX12_ok 82 (by decide)) (hw (i := 46) (j := 2) rfl rfl) (fun _ z => z) dX12_init_528 hk) ?_
  refine rz_All_c (i := 249) (fun k J hk hJ => rz_aload_n_ok (pc := 531) hx hb dX12_init_531 rfl hk) ?_
  refine rz_All_c (i := 250) (fun k J hk hJ => rz_sipush_ok (pc := 532) hx hb dX12_init_532 (by decide) hk) ?_
  refine rz_All_c (i := 251) (fun k J hk hJ => rz_newa_int_ok (pc := 535) (nz0 := (61, 109851)) (mx := 936) hx hb hK hA (hw (i := 57) (j := 7) rfl rfl) (by decide) (by rw [hRm]; decide) dX12_init_535 (rz_wid (by decide) hk)) ?_
  refine rz_All_c (i := 252) (fun k J hk hJ => rz_putfF_ok (pc := 537) (own := RX12) (ref := "ThreadJudgeModel") (C := RX12) (T := TX12) (N := 257) (ci := 14) (index := 198) (f := 83) (t := 2) (Ts := Cond.code yX12_init cX12_init 1 none :: rz_TB) hx hb hts rz_in14 tyX12 tyX12_ok nmX12 ho hK hA rfl (by decide) rfl (rz_UnR _ (Or.inr ⟨_, rfl⟩)) rfl (hmn.trans rfl) rfl (tyX12_ok 83 (by decide)) (hw (i := 46) (j := 3) rfl rfl) (fun _ z => z) dX12_init_537 hk) ?_
  refine rz_All_c (i := 253) (fun k J hk hJ => rz_aload_n_ok (pc := 540) hx hb dX12_init_540 rfl hk) ?_
  refine rz_All_c (i := 254) (fun k J hk hJ => rz_bipush_ok (pc := 541) hx hb dX12_init_541 (by decide) hk) ?_
  refine rz_All_c (i := 255) (fun k J hk hJ => rz_newa_int_ok (pc := 543) (nz0 := (62, 110787)) (mx := 6) hx hb hK hA (hw (i := 57) (j := 7) rfl rfl) (by decide) (by rw [hRm]; decide) dX12_init_543 (rz_wid (by decide) hk)) ?_
  refine rz_All_c (i := 256) (fun k J hk hJ => rz_putfF_ok (pc := 545) (own := RX12) (ref := "ThreadJudgeModel") (C := RX12) (T := TX12) (N := 257) (ci := 14) (index := 201) (f := 84) (t := 2) (Ts := Cond.code yX12_init cX12_init 1 none :: rz_TB) hx hb hts rz_in14 tyX12 tyX12_ok nmX12 ho hK hA rfl (by decide) rfl (rz_UnR _ (Or.inr ⟨_, rfl⟩)) rfl (hmn.trans rfl) rfl (tyX12_ok 84 (by decide)) (hw (i := 47) (j := 7) rfl rfl) (fun _ z => z) dX12_init_545 hk) ?_
  refine rz_All_c (i := 257) (fun k J hk hJ => rz_aload_n_ok (pc := 548) hx hb dX12_init_548 rfl hk) ?_
  refine rz_All_c (i := 258) (fun k J hk hJ => rz_sipush_ok (pc := 549) hx hb dX12_init_549 (by decide) hk) ?_
  refine rz_All_c (i := 259) (fun k J hk hJ => rz_newa_int_ok (pc := 552) (nz0 := (63, 110793)) (mx := 1014) hx hb hK hA (hw (i := 57) (j := 7) rfl rfl) (by decide) (by rw [hRm]; decide) dX12_init_552 (rz_wid (by decide) hk)) ?_
  refine rz_All_c (i := 260) (fun k J hk hJ => rz_putfF_ok (pc := 554) (own := RX12) (ref := "ThreadJudgeModel") (C := RX12) (T := TX12) (N := 257) (ci := 14) (index := 204) (f := 86) (t := 2) (Ts := Cond.code yX12_init cX12_init 1 none :: rz_TB) hx hb hts rz_in14 tyX12 tyX12_ok nmX12 ho hK hA rfl (by decide) rfl (rz_UnR _ (Or.inr ⟨_, rfl⟩)) rfl (hmn.trans rfl) rfl (tyX12_ok 86 (by decide)) (hw (i := 48) (j := 4) rfl rfl) (fun _ z => z) dX12_init_554 hk) ?_
  refine rz_All_c (i := 261) (fun k J hk hJ => rz_aload_n_ok (pc := 557) hx hb dX12_init_557 rfl hk) ?_
  refine rz_All_c (i := 262) (fun k J hk hJ => rz_sipush_ok (pc := 558) hx hb dX12_init_558 (by decide) hk) ?_
  refine rz_All_c (i := 263) (fun k J hk hJ => rz_newa_int_ok (pc := 561) (nz0 := (64, 111807)) (mx := 1014) hx hb hK hA (hw (i := 57) (j := 7) rfl rfl) (by decide) (by rw [hRm]; decide) dX12_init_561 (rz_wid (by decide) hk)) ?_
  refine rz_All_c (i := 264) (fun k J hk hJ => rz_putfF_ok (pc := 563) (own := RX12) (ref := "ThreadJudgeModel") (C := RX12) (T := TX12) (N := 257) (ci := 14) (index := 207) (f := 88) (t := 2) (Ts := Cond.code yX12_init cX12_init 1 none :: rz_TB) hx hb hts rz_in14 tyX12 tyX12_ok nmX12 ho hK hA rfl (by decide) rfl (rz_UnR _ (Or.inr ⟨_, rfl⟩)) rfl (hmn.trans rfl) rfl (tyX12_ok 88 (by decide)) (hw (i := 49) (j := 5) rfl rfl) (fun _ z => z) dX12_init_563 hk) ?_
  refine rz_All_c (i := 265) (fun k J hk hJ => rz_aload_n_ok (pc := 566) hx hb dX12_init_566 rfl hk) ?_
  refine rz_All_c (i := 266) (fun k J hk hJ => rz_sipush_ok (pc := 567) hx hb dX12_init_567 (by decide) hk) ?_
  refine rz_All_c (i := 267) (fun k J hk hJ => rz_newa_boolean_ok (pc := 570) (nz0 := (65, 112821)) (mx := 1014) hx hb hK hA (hw (i := 75) (j := 9) rfl rfl) (by decide) (by rw [hRm]; decide) dX12_init_570 (rz_wid (by decide) hk)) ?_
  refine rz_All_c (i := 268) (fun k J hk hJ => rz_putfF_ok (pc := 572) (own := RX12) (ref := "ThreadJudgeModel") (C := RX12) (T := TX12) (N := 257) (ci := 14) (index := 210) (f := 89) (t := 2) (Ts := Cond.code yX12_init cX12_init 1 none :: rz_TB) hx hb hts rz_in14 tyX12 tyX12_ok nmX12 ho hK hA rfl (by decide) rfl (rz_UnR _ (Or.inr ⟨_, rfl⟩)) rfl (hmn.trans rfl) rfl (tyX12_ok 89 (by decide)) (hw (i := 49) (j := 6) rfl rfl) (fun _ z => z) dX12_init_572 hk) ?_
  refine rz_All_c (i := 269) (fun k J hk hJ => rz_aload_n_ok (pc := 575) hx hb dX12_init_575 rfl hk) ?_
  refine rz_All_c (i := 270) (fun k J hk hJ => rz_sipush_ok (pc := 576) hx hb dX12_init_576 (by decide) hk) ?_
  refine rz_All_c (i := 271) (fun k J hk hJ => rz_newa_int_ok (pc := 579) (nz0 := (66, 113835)) (mx := 1014) hx hb hK hA (hw (i := 57) (j := 7) rfl rfl) (by decide) (by rw [hRm]; decide) dX12_init_579 (rz_wid (by decide) hk)) ?_
  refine rz_All_c (i := 272) (fun k J hk hJ => rz_putfF_ok (pc := 581) (own := RX12) (ref := "ThreadJudgeModel") (C := RX12) (T := TX12) (N := 257) (ci := 14) (index := 213) (f := 90) (t := 2) (Ts := Cond.code yX12_init cX12_init 1 none :: rz_TB) hx hb hts rz_in14 tyX12 tyX12_ok nmX12 ho hK hA rfl (by decide) rfl (rz_UnR _ (Or.inr ⟨_, rfl⟩)) rfl (hmn.trans rfl) rfl (tyX12_ok 90 (by decide)) (hw (i := 49) (j := 7) rfl rfl) (fun _ z => z) dX12_init_581 hk) ?_
  refine rz_All_c (i := 273) (fun k J hk hJ => rz_aload_n_ok (pc := 584) hx hb dX12_init_584 rfl hk) ?_
  refine rz_All_c (i := 274) (fun k J hk hJ => rz_sipush_ok (pc := 585) hx hb dX12_init_585 (by decide) hk) ?_
  refine rz_All_c (i := 275) (fun k J hk hJ => rz_newa_int_ok (pc := 588) (nz0 := (67, 114849)) (mx := 6084) hx hb hK hA (hw (i := 57) (j := 7) rfl rfl) (by decide) (by rw [hRm]; decide) dX12_init_588 (rz_wid (by decide) hk)) ?_
  refine rz_All_c (i := 276) (fun k J hk hJ => rz_putfF_ok (pc := 590) (own := RX12) (ref := "ThreadJudgeModel") (C := RX12) (T := TX12) (N := 257) (ci := 14) (index := 216) (f := 91) (t := 2) (Ts := Cond.code yX12_init cX12_init 1 none :: rz_TB) hx hb hts rz_in14 tyX12 tyX12_ok nmX12 ho hK hA rfl (by decide) rfl (rz_UnR _ (Or.inr ⟨_, rfl⟩)) rfl (hmn.trans rfl) rfl (tyX12_ok 91 (by decide)) (hw (i := 50) (j := 21) rfl rfl) (fun _ z => z) dX12_init_590 hk) ?_
  refine rz_All_c (i := 277) (fun k J hk hJ => rz_aload_n_ok (pc := 593) hx hb dX12_init_593 rfl hk) ?_
  refine rz_All_c (i := 278) (fun k J hk hJ => rz_sipush_ok (pc := 594) hx hb dX12_init_594 (by decide) hk) ?_
  refine rz_All_c (i := 279) (fun k J hk hJ => rz_newa_long_ok (pc := 597) (nz0 := (68, 120933)) (mx := 18252) hx hb hK hA (hw (i := 57) (j := 10) rfl rfl) (by decide) (by rw [hRm]; decide) dX12_init_597 (rz_wid (by decide) hk)) ?_
  refine rz_All_c (i := 280) (fun k J hk hJ => rz_putfF_ok (pc := 599) (own := RX12) (ref := "ThreadJudgeModel") (C := RX12) (T := TX12) (N := 257) (ci := 14) (index := 219) (f := 92) (t := 2) (Ts := Cond.code yX12_init cX12_init 1 none :: rz_TB) hx hb hts rz_in14 tyX12 tyX12_ok nmX12 ho hK hA rfl (by decide) rfl (rz_UnR _ (Or.inr ⟨_, rfl⟩)) rfl (hmn.trans rfl) rfl (tyX12_ok 92 (by decide)) (hw (i := 51) (j := 14) rfl rfl) (fun _ z => z) dX12_init_599 hk) ?_
  refine rz_All_c (i := 281) (fun k J hk hJ => rz_aload_n_ok (pc := 602) hx hb dX12_init_602 rfl hk) ?_
  refine rz_All_c (i := 282) (fun k J hk hJ => rz_sipush_ok (pc := 603) hx hb dX12_init_603 (by decide) hk) ?_
  refine rz_All_c (i := 283) (fun k J hk hJ => rz_newa_long_ok (pc := 606) (nz0 := (69, 139185)) (mx := 18252) hx hb hK hA (hw (i := 57) (j := 10) rfl rfl) (by decide) (by rw [hRm]; decide) dX12_init_606 (rz_wid (by decide) hk)) ?_
  refine rz_All_c (i := 284) (fun k J hk hJ => rz_putfF_ok (pc := 608) (own := RX12) (ref := "ThreadJudgeModel") (C := RX12) (T := TX12) (N := 257) (ci := 14) (index := 223) (f := 93) (t := 2) (Ts := Cond.code yX12_init cX12_init 1 none :: rz_TB) hx hb hts rz_in14 tyX12 tyX12_ok nmX12 ho hK hA rfl (by decide) rfl (rz_UnR _ (Or.inr ⟨_, rfl⟩)) rfl (hmn.trans rfl) rfl (tyX12_ok 93 (by decide)) (hw (i := 51) (j := 15) rfl rfl) (fun _ z => z) dX12_init_608 hk) ?_
  refine rz_All_c (i := 285) (fun k J hk hJ => rz_aload_n_ok (pc := 611) hx hb dX12_init_611 rfl hk) ?_
  refine rz_All_c (i := 286) (fun k J hk hJ => rz_bipush_ok (pc := 612) hx hb dX12_init_612 (by decide) hk) ?_
  refine rz_All_c (i := 287) (fun k J hk hJ => rz_newa_long_ok (pc := 614) (nz0 := (70, 157437)) (mx := 32) hx hb hK hA (hw (i := 57) (j := 10) rfl rfl) (by decide) (by rw [hRm]; decide) dX12_init_614 (rz_wid (by decide) hk)) ?_
  refine rz_All_c (i := 288) (fun k J hk hJ => rz_putfF_ok (pc := 616) (own := RX12) (ref := "ThreadJudgeModel") (C := RX12) (T := TX12) (N := 257) (ci := 14) (index := 226) (f := 94) (t := 2) (Ts := Cond.code yX12_init cX12_init 1 none :: rz_TB) hx hb hts rz_in14 tyX12 tyX12_ok nmX12 ho hK hA rfl (by decide) rfl (rz_UnR _ (Or.inr ⟨_, rfl⟩)) rfl (hmn.trans rfl) rfl (tyX12_ok 94 (by decide)) (hw (i := 52) (j := 12) rfl rfl) (fun _ z => z) dX12_init_616 hk) ?_
  refine rz_All_c (i := 289) (fun k J hk hJ => rz_aload_n_ok (pc := 619) hx hb dX12_init_619 rfl hk) ?_
  refine rz_All_c (i := 290) (fun k J hk hJ => rz_bipush_ok (pc := 620) hx hb dX12_init_620 (by decide) hk) ?_
  refine rz_All_c (i := 291) (fun k J hk hJ => rz_newa_long_ok (pc := 622) (nz0 := (71, 157469)) (mx := 32) hx hb hK hA (hw (i := 57) (j := 10) rfl rfl) (by decide) (by rw [hRm]; decide) dX12_init_622 (rz_wid (by decide) hk)) ?_
  refine rz_All_c (i := 292) (fun k J hk hJ => rz_putfF_ok (pc := 624) (own := RX12) (ref := "ThreadJudgeModel") (C := RX12) (T := TX12) (N := 257) (ci := 14) (index := 229) (f := 95) (t := 2) (Ts := Cond.code yX12_init cX12_init 1 none :: rz_TB) hx hb hts rz_in14 tyX12 tyX12_ok nmX12 ho hK hA rfl (by decide) rfl (rz_UnR _ (Or.inr ⟨_, rfl⟩)) rfl (hmn.trans rfl) rfl (tyX12_ok 95 (by decide)) (hw (i := 52) (j := 13) rfl rfl) (fun _ z => z) dX12_init_624 hk) ?_
  refine rz_All_c (i := 293) (fun k J hk hJ => rz_aload_n_ok (pc := 627) hx hb dX12_init_627 rfl hk) ?_
  refine rz_All_c (i := 294) (fun k J hk hJ => rz_sipush_ok (pc := 628) hx hb dX12_init_628 (by decide) hk) ?_
  refine rz_All_c (i := 295) (fun k J hk hJ => rz_newa_int_ok (pc := 631) (nz0 := (72, 157501)) (mx := 481) hx hb hK hA (hw (i := 57) (j := 7) rfl rfl) (by decide) (by rw [hRm]; decide) dX12_init_631 (rz_wid (by decide) hk)) ?_
  refine rz_All_c (i := 296) (fun k J hk hJ => rz_putfF_ok (pc := 633) (own := RX12) (ref := "ThreadJudgeModel") (C := RX12) (T := TX12) (N := 257) (ci := 14) (index := 232) (f := 106) (t := 2) (Ts := Cond.code yX12_init cX12_init 1 none :: rz_TB) hx hb hts rz_in14 tyX12 tyX12_ok nmX12 ho hK hA rfl (by decide) rfl (rz_UnR _ (Or.inr ⟨_, rfl⟩)) rfl (hmn.trans rfl) rfl (tyX12_ok 106 (by decide)) (hw (i := 78) (j := 7) rfl rfl) (fun _ z => z) dX12_init_633 hk) ?_
  refine rz_All_c (i := 297) (fun k J hk hJ => rz_aload_n_ok (pc := 636) hx hb dX12_init_636 rfl hk) ?_
  refine rz_All_c (i := 298) (fun k J hk hJ => rz_sipush_ok (pc := 637) hx hb dX12_init_637 (by decide) hk) ?_
  refine rz_All_c (i := 299) (fun k J hk hJ => rz_newa_int_ok (pc := 640) (nz0 := (73, 157982)) (mx := 481) hx hb hK hA (hw (i := 57) (j := 7) rfl rfl) (by decide) (by rw [hRm]; decide) dX12_init_640 (rz_wid (by decide) hk)) ?_
  refine rz_All_c (i := 300) (fun k J hk hJ => rz_putfF_ok (pc := 642) (own := RX12) (ref := "ThreadJudgeModel") (C := RX12) (T := TX12) (N := 257) (ci := 14) (index := 235) (f := 107) (t := 2) (Ts := Cond.code yX12_init cX12_init 1 none :: rz_TB) hx hb hts rz_in14 tyX12 tyX12_ok nmX12 ho hK hA rfl (by decide) rfl (rz_UnR _ (Or.inr ⟨_, rfl⟩)) rfl (hmn.trans rfl) rfl (tyX12_ok 107 (by decide)) (hw (i := 78) (j := 8) rfl rfl) (fun _ z => z) dX12_init_642 hk) ?_
  refine rz_All_c (i := 301) (fun k J hk hJ => rz_aload_n_ok (pc := 645) hx hb dX12_init_645 rfl hk) ?_
  refine rz_All_c (i := 302) (fun k J hk hJ => rz_sipush_ok (pc := 646) hx hb dX12_init_646 (by decide) hk) ?_
  refine rz_All_c (i := 303) (fun k J hk hJ => rz_newa_int_ok (pc := 649) (nz0 := (74, 158463)) (mx := 302) hx hb hK hA (hw (i := 57) (j := 7) rfl rfl) (by decide) (by rw [hRm]; decide) dX12_init_649 (rz_wid (by decide) hk)) ?_
  refine rz_All_c (i := 304) (fun k J hk hJ => rz_putfF_ok (pc := 651) (own := RX12) (ref := "ThreadJudgeModel") (C := RX12) (T := TX12) (N := 257) (ci := 14) (index := 238) (f := 109) (t := 2) (Ts := Cond.code yX12_init cX12_init 1 none :: rz_TB) hx hb hts rz_in14 tyX12 tyX12_ok nmX12 ho hK hA rfl (by decide) rfl (rz_UnR _ (Or.inr ⟨_, rfl⟩)) rfl (hmn.trans rfl) rfl (tyX12_ok 109 (by decide)) (hw (i := 78) (j := 9) rfl rfl) (fun _ z => z) dX12_init_651 hk) ?_
  refine rz_All_c (i := 305) (fun k J hk hJ => rz_aload_n_ok (pc := 654) hx hb dX12_init_654 rfl hk) ?_
  refine rz_All_c (i := 306) (fun k J hk hJ => rz_sipush_ok (pc := 655) hx hb dX12_init_655 (by decide) hk) ?_
  refine rz_All_c (i := 307) (fun k J hk hJ => rz_newa_int_ok (pc := 658) (nz0 := (75, 158765)) (mx := 302) hx hb hK hA (hw (i := 57) (j := 7) rfl rfl) (by decide) (by rw [hRm]; decide) dX12_init_658 (rz_wid (by decide) hk)) ?_
  refine rz_All_c (i := 308) (fun k J hk hJ => rz_putfF_ok (pc := 660) (own := RX12) (ref := "ThreadJudgeModel") (C := RX12) (T := TX12) (N := 257) (ci := 14) (index := 241) (f := 110) (t := 2) (Ts := Cond.code yX12_init cX12_init 1 none :: rz_TB) hx hb hts rz_in14 tyX12 tyX12_ok nmX12 ho hK hA rfl (by decide) rfl (rz_UnR _ (Or.inr ⟨_, rfl⟩)) rfl (hmn.trans rfl) rfl (tyX12_ok 110 (by decide)) (hw (i := 78) (j := 10) rfl rfl) (fun _ z => z) dX12_init_660 hk) ?_
  refine rz_All_c (i := 309) (fun k J hk hJ => rz_aload_n_ok (pc := 663) hx hb dX12_init_663 rfl hk) ?_
  refine rz_All_c (i := 310) (fun k J hk hJ => rz_sipush_ok (pc := 664) hx hb dX12_init_664 (by decide) hk) ?_
  refine rz_All_c (i := 311) (fun k J hk hJ => rz_newa_int_ok (pc := 667) (nz0 := (76, 159067)) (mx := 303) hx hb hK hA (hw (i := 57) (j := 7) rfl rfl) (by decide) (by rw [hRm]; decide) dX12_init_667 (rz_wid (by decide) hk)) ?_
  refine rz_All_c (i := 312) (fun k J hk hJ => rz_putfF_ok (pc := 669) (own := RX12) (ref := "ThreadJudgeModel") (C := RX12) (T := TX12) (N := 257) (ci := 14) (index := 244) (f := 111) (t := 2) (Ts := Cond.code yX12_init cX12_init 1 none :: rz_TB) hx hb hts rz_in14 tyX12 tyX12_ok nmX12 ho hK hA rfl (by decide) rfl (rz_UnR _ (Or.inr ⟨_, rfl⟩)) rfl (hmn.trans rfl) rfl (tyX12_ok 111 (by decide)) (hw (i := 78) (j := 11) rfl rfl) (fun _ z => z) dX12_init_669 hk) ?_
  refine rz_All_c (i := 313) (fun k J hk hJ => rz_aload_n_ok (pc := 672) hx hb dX12_init_672 rfl hk) ?_
  refine rz_All_c (i := 314) (fun k J hk hJ => rz_sipush_ok (pc := 673) hx hb dX12_init_673 (by decide) hk) ?_
  refine rz_All_c (i := 315) (fun k J hk hJ => rz_newa_int_ok (pc := 676) (nz0 := (77, 159370)) (mx := 4130) hx hb hK hA (hw (i := 57) (j := 7) rfl rfl) (by decide) (by rw [hRm]; decide) dX12_init_676 (rz_wid (by decide) hk)) ?_
  refine rz_All_c (i := 316) (fun k J hk hJ => rz_putfF_ok (pc := 678) (own := RX12) (ref := "ThreadJudgeModel") (C := RX12) (T := TX12) (N := 257) (ci := 14) (index := 247) (f := 113) (t := 2) (Ts := Cond.code yX12_init cX12_init 1 none :: rz_TB) hx hb hts rz_in14 tyX12 tyX12_ok nmX12 ho hK hA rfl (by decide) rfl (rz_UnR _ (Or.inr ⟨_, rfl⟩)) rfl (hmn.trans rfl) rfl (tyX12_ok 113 (by decide)) (hw (i := 78) (j := 12) rfl rfl) (fun _ z => z) dX12_init_678 hk) ?_
  refine rz_All_c (i := 317) (fun k J hk hJ => rz_aload_n_ok (pc := 681) hx hb dX12_init_681 rfl hk) ?_
  refine rz_All_c (i := 318) (fun k J hk hJ => rz_ldc_ok (pc := 682) hx hb (own := RX12) ho (hw (i := 78) (j := 13) rfl rfl) dX12_init_682 hk) ?_
  refine rz_All_c (i := 319) (fun k J hk hJ => rz_newa_long_ok (pc := 684) (nz0 := (78, 163500)) (mx := 594720) hx hb hK hA (hw (i := 57) (j := 10) rfl rfl) (by decide) (by rw [hRm]; decide) dX12_init_684 (rz_wid (by decide) hk)) ?_
  refine rz_All_c (i := 320) (fun k J hk hJ => rz_putfF_ok (pc := 686) (own := RX12) (ref := "ThreadJudgeModel") (C := RX12) (T := TX12) (N := 257) (ci := 14) (index := 251) (f := 114) (t := 2) (Ts := Cond.code yX12_init cX12_init 1 none :: rz_TB) hx hb hts rz_in14 tyX12 tyX12_ok nmX12 ho hK hA rfl (by decide) rfl (rz_UnR _ (Or.inr ⟨_, rfl⟩)) rfl (hmn.trans rfl) rfl (tyX12_ok 114 (by decide)) (hw (i := 78) (j := 14) rfl rfl) (fun _ z => z) dX12_init_686 hk) ?_
  refine rz_All_c (i := 321) (fun k J hk hJ => rz_aload_n_ok (pc := 689) hx hb dX12_init_689 rfl hk) ?_
  refine rz_All_c (i := 322) (fun k J hk hJ => rz_sipush_ok (pc := 690) hx hb dX12_init_690 (by decide) hk) ?_
  refine rz_All_c (i := 323) (fun k J hk hJ => rz_newa_long_ok (pc := 693) (nz0 := (79, 758220)) (mx := 2416) hx hb hK hA (hw (i := 57) (j := 10) rfl rfl) (by decide) (by rw [hRm]; decide) dX12_init_693 (rz_wid (by decide) hk)) ?_
  refine rz_All_c (i := 324) (fun k J hk hJ => rz_putfF_ok (pc := 695) (own := RX12) (ref := "ThreadJudgeModel") (C := RX12) (T := TX12) (N := 257) (ci := 14) (index := 254) (f := 115) (t := 2) (Ts := Cond.code yX12_init cX12_init 1 none :: rz_TB) hx hb hts rz_in14 tyX12 tyX12_ok nmX12 ho hK hA rfl (by decide) rfl (rz_UnR _ (Or.inr ⟨_, rfl⟩)) rfl (hmn.trans rfl) rfl (tyX12_ok 115 (by decide)) (hw (i := 78) (j := 15) rfl rfl) (fun _ z => z) dX12_init_695 hk) ?_
  refine rz_All_c (i := 325) (fun k J hk hJ => rz_aload_n_ok (pc := 698) hx hb dX12_init_698 rfl hk) ?_
  refine rz_All_c (i := 326) (fun k J hk hJ => rz_sipush_ok (pc := 699) hx hb dX12_init_699 (by decide) hk) ?_
  refine rz_All_c (i := 327) (fun k J hk hJ => rz_newa_long_ok (pc := 702) (nz0 := (80, 760636)) (mx := 2416) hx hb hK hA (hw (i := 57) (j := 10) rfl rfl) (by decide) (by rw [hRm]; decide) dX12_init_702 (rz_wid (by decide) hk)) ?_
  refine rz_All_c (i := 328) (fun k J hk hJ => rz_putfF_ok (pc := 704) (own := RX12) (ref := "ThreadJudgeModel") (C := RX12) (T := TX12) (N := 257) (ci := 14) (index := 257) (f := 116) (t := 2) (Ts := Cond.code yX12_init cX12_init 1 none :: rz_TB) hx hb hts rz_in14 tyX12 tyX12_ok nmX12 ho hK hA rfl (by decide) rfl (rz_UnR _ (Or.inr ⟨_, rfl⟩)) rfl (hmn.trans rfl) rfl (tyX12_ok 116 (by decide)) (hw (i := 78) (j := 16) rfl rfl) (fun _ z => z) dX12_init_704 hk) ?_
  refine rz_All_c (i := 329) (fun k J hk hJ => rz_aload_n_ok (pc := 707) hx hb dX12_init_707 rfl hk) ?_
  refine rz_All_c (i := 330) (fun k J hk hJ => rz_ldcw_ok (pc := 708) hx hb (own := RX12) ho (hw (i := 78) (j := 17) rfl rfl) dX12_init_708 hk) ?_
  refine rz_All_c (i := 331) (fun k J hk hJ => rz_newa_long_ok (pc := 711) (nz0 := (81, 763052)) (mx := 153920) hx hb hK hA (hw (i := 57) (j := 10) rfl rfl) (by decide) (by rw [hRm]; decide) dX12_init_711 (rz_wid (by decide) hk)) ?_
  refine rz_All_c (i := 332) (fun k J hk hJ => rz_putfF_ok (pc := 713) (own := RX12) (ref := "ThreadJudgeModel") (C := RX12) (T := TX12) (N := 257) (ci := 14) (index := 261) (f := 117) (t := 2) (Ts := Cond.code yX12_init cX12_init 1 none :: rz_TB) hx hb hts rz_in14 tyX12 tyX12_ok nmX12 ho hK hA rfl (by decide) rfl (rz_UnR _ (Or.inr ⟨_, rfl⟩)) rfl (hmn.trans rfl) rfl (tyX12_ok 117 (by decide)) (hw (i := 78) (j := 18) rfl rfl) (fun _ z => z) dX12_init_713 hk) ?_
  refine rz_All_c (i := 333) (fun k J hk hJ => rz_aload_n_ok (pc := 716) hx hb dX12_init_716 rfl hk) ?_
  refine rz_All_c (i := 334) (fun k J hk hJ => rz_sipush_ok (pc := 717) hx hb dX12_init_717 (by decide) hk) ?_
  refine rz_All_c (i := 335) (fun k J hk hJ => rz_newa_long_ok (pc := 720) (nz0 := (82, 916972)) (mx := 320) hx hb hK hA (hw (i := 57) (j := 10) rfl rfl) (by decide) (by rw [hRm]; decide) dX12_init_720 (rz_wid (by decide) hk)) ?_
  refine rz_All_c (i := 336) (fun k J hk hJ => rz_putfF_ok (pc := 722) (own := RX12) (ref := "ThreadJudgeModel") (C := RX12) (T := TX12) (N := 257) (ci := 14) (index := 264) (f := 118) (t := 2) (Ts := Cond.code yX12_init cX12_init 1 none :: rz_TB) hx hb hts rz_in14 tyX12 tyX12_ok nmX12 ho hK hA rfl (by decide) rfl (rz_UnR _ (Or.inr ⟨_, rfl⟩)) rfl (hmn.trans rfl) rfl (tyX12_ok 118 (by decide)) (hw (i := 78) (j := 19) rfl rfl) (fun _ z => z) dX12_init_722 hk) ?_
  refine rz_All_c (i := 337) (fun k J hk hJ => rz_aload_n_ok (pc := 725) hx hb dX12_init_725 rfl hk) ?_
  refine rz_All_c (i := 338) (fun k J hk hJ => rz_sipush_ok (pc := 726) hx hb dX12_init_726 (by decide) hk) ?_
  refine rz_All_c (i := 339) (fun k J hk hJ => rz_newa_long_ok (pc := 729) (nz0 := (83, 917292)) (mx := 3848) hx hb hK hA (hw (i := 57) (j := 10) rfl rfl) (by decide) (by rw [hRm]; decide) dX12_init_729 (rz_wid (by decide) hk)) ?_
  refine rz_All_c (i := 340) (fun k J hk hJ => rz_putfF_ok (pc := 731) (own := RX12) (ref := "ThreadJudgeModel") (C := RX12) (T := TX12) (N := 257) (ci := 14) (index := 267) (f := 119) (t := 2) (Ts := Cond.code yX12_init cX12_init 1 none :: rz_TB) hx hb hts rz_in14 tyX12 tyX12_ok nmX12 ho hK hA rfl (by decide) rfl (rz_UnR _ (Or.inr ⟨_, rfl⟩)) rfl (hmn.trans rfl) rfl (tyX12_ok 119 (by decide)) (hw (i := 78) (j := 20) rfl rfl) (fun _ z => z) dX12_init_731 hk) ?_
  refine rz_All_c (i := 341) (fun k J hk hJ => rz_aload_n_ok (pc := 734) hx hb dX12_init_734 rfl hk) ?_
  refine rz_All_c (i := 342) (fun k J hk hJ => rz_sipush_ok (pc := 735) hx hb dX12_init_735 (by decide) hk) ?_
  refine rz_All_c (i := 343) (fun k J hk hJ => rz_newa_long_ok (pc := 738) (nz0 := (84, 921140)) (mx := 23088) hx hb hK hA (hw (i := 57) (j := 10) rfl rfl) (by decide) (by rw [hRm]; decide) dX12_init_738 (rz_wid (by decide) hk)) ?_
  refine rz_All_c (i := 344) (fun k J hk hJ => rz_putfF_ok (pc := 740) (own := RX12) (ref := "ThreadJudgeModel") (C := RX12) (T := TX12) (N := 257) (ci := 14) (index := 270) (f := 120) (t := 2) (Ts := Cond.code yX12_init cX12_init 1 none :: rz_TB) hx hb hts rz_in14 tyX12 tyX12_ok nmX12 ho hK hA rfl (by decide) rfl (rz_UnR _ (Or.inr ⟨_, rfl⟩)) rfl (hmn.trans rfl) rfl (tyX12_ok 120 (by decide)) (hw (i := 78) (j := 21) rfl rfl) (fun _ z => z) dX12_init_740 hk) ?_
  refine rz_All_c (i := 345) (fun k J hk hJ => rz_aload_n_ok (pc := 743) hx hb dX12_init_743 rfl hk) ?_
  refine rz_All_c (i := 346) (fun k J hk hJ => rz_sipush_ok (pc := 744) hx hb dX12_init_744 (by decide) hk) ?_
  refine rz_All_c (i := 347) (fun k J hk hJ => rz_newa_long_ok (pc := 747) (nz0 := (85, 944228)) (mx := 20650) hx hb hK hA (hw (i := 57) (j := 10) rfl rfl) (by decide) (by rw [hRm]; decide) dX12_init_747 (rz_wid (by decide) hk)) ?_
  refine rz_All_c (i := 348) (fun k J hk hJ => rz_putfF_ok (pc := 749) (own := RX12) (ref := "ThreadJudgeModel") (C := RX12) (T := TX12) (N := 257) (ci := 14) (index := 273) (f := 121) (t := 2) (Ts := Cond.code yX12_init cX12_init 1 none :: rz_TB) hx hb hts rz_in14 tyX12 tyX12_ok nmX12 ho hK hA rfl (by decide) rfl (rz_UnR _ (Or.inr ⟨_, rfl⟩)) rfl (hmn.trans rfl) rfl (tyX12_ok 121 (by decide)) (hw (i := 78) (j := 22) rfl rfl) (fun _ z => z) dX12_init_749 hk) ?_
  refine rz_All_c (i := 349) (fun k J hk hJ => rz_aload_n_ok (pc := 752) hx hb dX12_init_752 rfl hk) ?_
  refine rz_All_c (i := 350) (fun k J hk hJ => rz_sipush_ok (pc := 753) hx hb dX12_init_753 (by decide) hk) ?_
  refine rz_All_c (i := 351) (fun k J hk hJ => rz_newa_long_ok (pc := 756) (nz0 := (86, 964878)) (mx := 20650) hx hb hK hA (hw (i := 57) (j := 10) rfl rfl) (by decide) (by rw [hRm]; decide) dX12_init_756 (rz_wid (by decide) hk)) ?_
  refine rz_All_c (i := 352) (fun k J hk hJ => rz_putfF_ok (pc := 758) (own := RX12) (ref := "ThreadJudgeModel") (C := RX12) (T := TX12) (N := 257) (ci := 14) (index := 276) (f := 122) (t := 2) (Ts := Cond.code yX12_init cX12_init 1 none :: rz_TB) hx hb hts rz_in14 tyX12 tyX12_ok nmX12 ho hK hA rfl (by decide) rfl (rz_UnR _ (Or.inr ⟨_, rfl⟩)) rfl (hmn.trans rfl) rfl (tyX12_ok 122 (by decide)) (hw (i := 78) (j := 23) rfl rfl) (fun _ z => z) dX12_init_758 hk) ?_
  refine rz_All_c (i := 353) (fun k J hk hJ => rz_aload_n_ok (pc := 761) hx hb dX12_init_761 rfl hk) ?_
  refine rz_All_c (i := 354) (fun k J hk hJ => rz_ldcw_ok (pc := 762) hx hb (own := RX12) ho (hw (i := 79) (j := 0) rfl rfl) dX12_init_762 hk) ?_
  refine rz_All_c (i := 355) (fun k J hk hJ => rz_newa_long_ok (pc := 765) (nz0 := (87, 985528)) (mx := 33040) hx hb hK hA (hw (i := 57) (j := 10) rfl rfl) (by decide) (by rw [hRm]; decide) dX12_init_765 (rz_wid (by decide) hk)) ?_
  refine rz_All_c (i := 356) (fun k J hk hJ => rz_putfF_ok (pc := 767) (own := RX12) (ref := "ThreadJudgeModel") (C := RX12) (T := TX12) (N := 257) (ci := 14) (index := 280) (f := 123) (t := 2) (Ts := Cond.code yX12_init cX12_init 1 none :: rz_TB) hx hb hts rz_in14 tyX12 tyX12_ok nmX12 ho hK hA rfl (by decide) rfl (rz_UnR _ (Or.inr ⟨_, rfl⟩)) rfl (hmn.trans rfl) rfl (tyX12_ok 123 (by decide)) (hw (i := 79) (j := 1) rfl rfl) (fun _ z => z) dX12_init_767 hk) ?_
  refine rz_All_c (i := 357) (fun k J hk hJ => rz_aload_n_ok (pc := 770) hx hb dX12_init_770 rfl hk) ?_
  refine rz_All_c (i := 358) (fun k J hk hJ => rz_sipush_ok (pc := 771) hx hb dX12_init_771 (by decide) hk) ?_
  refine rz_All_c (i := 359) (fun k J hk hJ => rz_newa_long_ok (pc := 774) (nz0 := (88, 1018568)) (mx := 2405) hx hb hK hA (hw (i := 57) (j := 10) rfl rfl) (by decide) (by rw [hRm]; decide) dX12_init_774 (rz_wid (by decide) hk)) ?_
  refine rz_All_c (i := 360) (fun k J hk hJ => rz_putfF_ok (pc := 776) (own := RX12) (ref := "ThreadJudgeModel") (C := RX12) (T := TX12) (N := 257) (ci := 14) (index := 283) (f := 124) (t := 2) (Ts := Cond.code yX12_init cX12_init 1 none :: rz_TB) hx hb hts rz_in14 tyX12 tyX12_ok nmX12 ho hK hA rfl (by decide) rfl (rz_UnR _ (Or.inr ⟨_, rfl⟩)) rfl (hmn.trans rfl) rfl (tyX12_ok 124 (by decide)) (hw (i := 79) (j := 2) rfl rfl) (fun _ z => z) dX12_init_776 hk) ?_
  refine rz_All_c (i := 361) (fun k J hk hJ => rz_aload_n_ok (pc := 779) hx hb dX12_init_779 rfl hk) ?_
  refine rz_All_c (i := 362) (fun k J hk hJ => rz_sipush_ok (pc := 780) hx hb dX12_init_780 (by decide) hk) ?_
  refine rz_All_c (i := 363) (fun k J hk hJ => rz_newa_long_ok (pc := 783) (nz0 := (89, 1020973)) (mx := 4130) hx hb hK hA (hw (i := 57) (j := 10) rfl rfl) (by decide) (by rw [hRm]; decide) dX12_init_783 (rz_wid (by decide) hk)) ?_
  refine rz_All_c (i := 364) (fun k J hk hJ => rz_putfF_ok (pc := 785) (own := RX12) (ref := "ThreadJudgeModel") (C := RX12) (T := TX12) (N := 257) (ci := 14) (index := 286) (f := 125) (t := 2) (Ts := Cond.code yX12_init cX12_init 1 none :: rz_TB) hx hb hts rz_in14 tyX12 tyX12_ok nmX12 ho hK hA rfl (by decide) rfl (rz_UnR _ (Or.inr ⟨_, rfl⟩)) rfl (hmn.trans rfl) rfl (tyX12_ok 125 (by decide)) (hw (i := 79) (j := 3) rfl rfl) (fun _ z => z) dX12_init_785 hk) ?_
  refine rz_All_c (i := 365) (fun k J hk hJ => rz_aload_n_ok (pc := 788) hx hb dX12_init_788 rfl hk) ?_
  refine rz_All_c (i := 366) (fun k J hk hJ => rz_sipush_ok (pc := 789) hx hb dX12_init_789 (by decide) hk) ?_
  refine rz_All_c (i := 367) (fun k J hk hJ => rz_newa_boolean_ok (pc := 792) (nz0 := (90, 1025103)) (mx := 4130) hx hb hK hA (hw (i := 75) (j := 9) rfl rfl) (by decide) (by rw [hRm]; decide) dX12_init_792 (rz_wid (by decide) hk)) ?_
  refine rz_All_c (i := 368) (fun k J hk hJ => rz_putfF_ok (pc := 794) (own := RX12) (ref := "ThreadJudgeModel") (C := RX12) (T := TX12) (N := 257) (ci := 14) (index := 289) (f := 126) (t := 2) (Ts := Cond.code yX12_init cX12_init 1 none :: rz_TB) hx hb hts rz_in14 tyX12 tyX12_ok nmX12 ho hK hA rfl (by decide) rfl (rz_UnR _ (Or.inr ⟨_, rfl⟩)) rfl (hmn.trans rfl) rfl (tyX12_ok 126 (by decide)) (hw (i := 79) (j := 4) rfl rfl) (fun _ z => z) dX12_init_794 hk) ?_
  refine rz_All_c (i := 369) (fun k J hk hJ => rz_aload_n_ok (pc := 797) hx hb dX12_init_797 rfl hk) ?_
  refine rz_All_c (i := 370) (fun k J hk hJ => rz_bipush_ok (pc := 798) hx hb dX12_init_798 (by decide) hk) ?_
  refine rz_All_c (i := 371) (fun k J hk hJ => rz_newa_long_ok (pc := 800) (nz0 := (91, 1029233)) (mx := 8) hx hb hK hA (hw (i := 57) (j := 10) rfl rfl) (by decide) (by rw [hRm]; decide) dX12_init_800 (rz_wid (by decide) hk)) ?_
  refine rz_All_c (i := 372) (fun k J hk hJ => rz_putfF_ok (pc := 802) (own := RX12) (ref := "ThreadJudgeModel") (C := RX12) (T := TX12) (N := 257) (ci := 14) (index := 292) (f := 128) (t := 2) (Ts := Cond.code yX12_init cX12_init 1 none :: rz_TB) hx hb hts rz_in14 tyX12 tyX12_ok nmX12 ho hK hA rfl (by decide) rfl (rz_UnR _ (Or.inr ⟨_, rfl⟩)) rfl (hmn.trans rfl) rfl (tyX12_ok 128 (by decide)) (hw (i := 79) (j := 5) rfl rfl) (fun _ z => z) dX12_init_802 hk) ?_
  refine rz_All_c (i := 373) (fun k J hk hJ => rz_aload_n_ok (pc := 805) hx hb dX12_init_805 rfl hk) ?_
  refine rz_All_c (i := 374) (fun k J hk hJ => rz_sipush_ok (pc := 806) hx hb dX12_init_806 (by decide) hk) ?_
  refine rz_All_c (i := 375) (fun k J hk hJ => rz_newa_int_ok (pc := 809) (nz0 := (92, 1029241)) (mx := 481) hx hb hK hA (hw (i := 57) (j := 7) rfl rfl) (by decide) (by rw [hRm]; decide) dX12_init_809 (rz_wid (by decide) hk)) ?_
  refine rz_All_c (i := 376) (fun k J hk hJ => rz_putfF_ok (pc := 811) (own := RX12) (ref := "ThreadJudgeModel") (C := RX12) (T := TX12) (N := 257) (ci := 14) (index := 295) (f := 130) (t := 2) (Ts := Cond.code yX12_init cX12_init 1 none :: rz_TB) hx hb hts rz_in14 tyX12 tyX12_ok nmX12 ho hK hA rfl (by decide) rfl (rz_UnR _ (Or.inr ⟨_, rfl⟩)) rfl (hmn.trans rfl) rfl (tyX12_ok 130 (by decide)) (hw (i := 79) (j := 6) rfl rfl) (fun _ z => z) dX12_init_811 hk) ?_
  refine rz_All_c (i := 377) (fun k J hk hJ => rz_aload_n_ok (pc := 814) hx hb dX12_init_814 rfl hk) ?_
  refine rz_All_c (i := 378) (fun k J hk hJ => rz_sipush_ok (pc := 815) hx hb dX12_init_815 (by decide) hk) ?_
  refine rz_All_c (i := 379) (fun k J hk hJ => rz_newa_int_ok (pc := 818) (nz0 := (93, 1029722)) (mx := 481) hx hb hK hA (hw (i := 57) (j := 7) rfl rfl) (by decide) (by rw [hRm]; decide) dX12_init_818 (rz_wid (by decide) hk)) ?_
  refine rz_All_c (i := 380) (fun k J hk hJ => rz_putfF_ok (pc := 820) (own := RX12) (ref := "ThreadJudgeModel") (C := RX12) (T := TX12) (N := 257) (ci := 14) (index := 298) (f := 131) (t := 2) (Ts := Cond.code yX12_init cX12_init 1 none :: rz_TB) hx hb hts rz_in14 tyX12 tyX12_ok nmX12 ho hK hA rfl (by decide) rfl (rz_UnR _ (Or.inr ⟨_, rfl⟩)) rfl (hmn.trans rfl) rfl (tyX12_ok 131 (by decide)) (hw (i := 79) (j := 7) rfl rfl) (fun _ z => z) dX12_init_820 hk) ?_
  refine rz_All_c (i := 381) (fun k J hk hJ => rz_aload_n_ok (pc := 823) hx hb dX12_init_823 rfl hk) ?_
  refine rz_All_c (i := 382) (fun k J hk hJ => rz_bipush_ok (pc := 824) hx hb dX12_init_824 (by decide) hk) ?_
  refine rz_All_c (i := 383) (fun k J hk hJ => rz_newa_boolean_ok (pc := 826) (nz0 := (94, 1030203)) (mx := 117) hx hb hK hA (hw (i := 75) (j := 9) rfl rfl) (by decide) (by rw [hRm]; decide) dX12_init_826 (rz_wid (by decide) hk)) ?_
  refine rz_All_c (i := 384) (fun k J hk hJ => rz_putfF_ok (pc := 828) (own := RX12) (ref := "ThreadJudgeModel") (C := RX12) (T := TX12) (N := 257) (ci := 14) (index := 301) (f := 133) (t := 2) (Ts := Cond.code yX12_init cX12_init 1 none :: rz_TB) hx hb hts rz_in14 tyX12 tyX12_ok nmX12 ho hK hA rfl (by decide) rfl (rz_UnR _ (Or.inr ⟨_, rfl⟩)) rfl (hmn.trans rfl) rfl (tyX12_ok 133 (by decide)) (hw (i := 79) (j := 8) rfl rfl) (fun _ z => z) dX12_init_828 hk) ?_
  refine rz_All_c (i := 385) (fun k J hk hJ => rz_aload_n_ok (pc := 831) hx hb dX12_init_831 rfl hk) ?_
  refine rz_All_c (i := 386) (fun k J hk hJ => rz_sipush_ok (pc := 832) hx hb dX12_init_832 (by decide) hk) ?_
  refine rz_All_c (i := 387) (fun k J hk hJ => rz_newa_boolean_ok (pc := 835) (nz0 := (95, 1030320)) (mx := 481) hx hb hK hA (hw (i := 75) (j := 9) rfl rfl) (by decide) (by rw [hRm]; decide) dX12_init_835 (rz_wid (by decide) hk)) ?_
  refine rz_All_c (i := 388) (fun k J hk hJ => rz_putfF_ok (pc := 837) (own := RX12) (ref := "ThreadJudgeModel") (C := RX12) (T := TX12) (N := 257) (ci := 14) (index := 304) (f := 134) (t := 2) (Ts := Cond.code yX12_init cX12_init 1 none :: rz_TB) hx hb hts rz_in14 tyX12 tyX12_ok nmX12 ho hK hA rfl (by decide) rfl (rz_UnR _ (Or.inr ⟨_, rfl⟩)) rfl (hmn.trans rfl) rfl (tyX12_ok 134 (by decide)) (hw (i := 79) (j := 9) rfl rfl) (fun _ z => z) dX12_init_837 hk) ?_
  refine rz_All_c (i := 389) (fun k J hk hJ => rz_aload_n_ok (pc := 840) hx hb dX12_init_840 rfl hk) ?_
  refine rz_All_c (i := 390) (fun k J hk hJ => rz_sipush_ok (pc := 841) hx hb dX12_init_841 (by decide) hk) ?_
  refine rz_All_c (i := 391) (fun k J hk hJ => rz_newa_boolean_ok (pc := 844) (nz0 := (96, 1030801)) (mx := 481) hx hb hK hA (hw (i := 75) (j := 9) rfl rfl) (by decide) (by rw [hRm]; decide) dX12_init_844 (rz_wid (by decide) hk)) ?_
  refine rz_All_c (i := 392) (fun k J hk hJ => rz_putfF_ok (pc := 846) (own := RX12) (ref := "ThreadJudgeModel") (C := RX12) (T := TX12) (N := 257) (ci := 14) (index := 307) (f := 135) (t := 2) (Ts := Cond.code yX12_init cX12_init 1 none :: rz_TB) hx hb hts rz_in14 tyX12 tyX12_ok nmX12 ho hK hA rfl (by decide) rfl (rz_UnR _ (Or.inr ⟨_, rfl⟩)) rfl (hmn.trans rfl) rfl (tyX12_ok 135 (by decide)) (hw (i := 79) (j := 10) rfl rfl) (fun _ z => z) dX12_init_846 hk) ?_
  refine rz_All_c (i := 393) (fun k J hk hJ => rz_aload_n_ok (pc := 849) hx hb dX12_init_849 rfl hk) ?_
  refine rz_All_c (i := 394) (fun k J hk hJ => rz_sipush_ok (pc := 850) hx hb dX12_init_850 (by decide) hk) ?_
  refine rz_All_c (i := 395) (fun k J hk hJ => rz_newa_long_ok (pc := 853) (nz0 := (97, 1031282)) (mx := 1510) hx hb hK hA (hw (i := 57) (j := 10) rfl rfl) (by decide) (by rw [hRm]; decide) dX12_init_853 (rz_wid (by decide) hk)) ?_
  refine rz_All_c (i := 396) (fun k J hk hJ => rz_putfF_ok (pc := 855) (own := RX12) (ref := "ThreadJudgeModel") (C := RX12) (T := TX12) (N := 257) (ci := 14) (index := 310) (f := 136) (t := 2) (Ts := Cond.code yX12_init cX12_init 1 none :: rz_TB) hx hb hts rz_in14 tyX12 tyX12_ok nmX12 ho hK hA rfl (by decide) rfl (rz_UnR _ (Or.inr ⟨_, rfl⟩)) rfl (hmn.trans rfl) rfl (tyX12_ok 136 (by decide)) (hw (i := 79) (j := 11) rfl rfl) (fun _ z => z) dX12_init_855 hk) ?_
  refine rz_All_c (i := 397) (fun k J hk hJ => rz_aload_n_ok (pc := 858) hx hb dX12_init_858 rfl hk) ?_
  refine rz_All_c (i := 398) (fun k J hk hJ => rz_sipush_ok (pc := 859) hx hb dX12_init_859 (by decide) hk) ?_
  refine rz_All_c (i := 399) (fun k J hk hJ => rz_newa_int_ok (pc := 862) (nz0 := (98, 1032792)) (mx := 482) hx hb hK hA (hw (i := 57) (j := 7) rfl rfl) (by decide) (by rw [hRm]; decide) dX12_init_862 (rz_wid (by decide) hk)) ?_
  refine rz_All_c (i := 400) (fun k J hk hJ => rz_putfF_ok (pc := 864) (own := RX12) (ref := "ThreadJudgeModel") (C := RX12) (T := TX12) (N := 257) (ci := 14) (index := 313) (f := 138) (t := 2) (Ts := Cond.code yX12_init cX12_init 1 none :: rz_TB) hx hb hts rz_in14 tyX12 tyX12_ok nmX12 ho hK hA rfl (by decide) rfl (rz_UnR _ (Or.inr ⟨_, rfl⟩)) rfl (hmn.trans rfl) rfl (tyX12_ok 138 (by decide)) (hw (i := 79) (j := 12) rfl rfl) (fun _ z => z) dX12_init_864 hk) ?_
  refine rz_All_c (i := 401) (fun k J hk hJ => rz_aload_n_ok (pc := 867) hx hb dX12_init_867 rfl hk) ?_
  refine rz_All_c (i := 402) (fun k J hk hJ => rz_sipush_ok (pc := 868) hx hb dX12_init_868 (by decide) hk) ?_
  refine rz_All_c (i := 403) (fun k J hk hJ => rz_newa_int_ok (pc := 871) (nz0 := (99, 1033274)) (mx := 481) hx hb hK hA (hw (i := 57) (j := 7) rfl rfl) (by decide) (by rw [hRm]; decide) dX12_init_871 (rz_wid (by decide) hk)) ?_
  refine rz_All_c (i := 404) (fun k J hk hJ => rz_putfF_ok (pc := 873) (own := RX12) (ref := "ThreadJudgeModel") (C := RX12) (T := TX12) (N := 257) (ci := 14) (index := 316) (f := 139) (t := 2) (Ts := Cond.code yX12_init cX12_init 1 none :: rz_TB) hx hb hts rz_in14 tyX12 tyX12_ok nmX12 ho hK hA rfl (by decide) rfl (rz_UnR _ (Or.inr ⟨_, rfl⟩)) rfl (hmn.trans rfl) rfl (tyX12_ok 139 (by decide)) (hw (i := 79) (j := 13) rfl rfl) (fun _ z => z) dX12_init_873 hk) ?_
  refine rz_All_c (i := 405) (fun k J hk hJ => rz_aload_n_ok (pc := 876) hx hb dX12_init_876 rfl hk) ?_
  refine rz_All_c (i := 406) (fun k J hk hJ => rz_sipush_ok (pc := 877) hx hb dX12_init_877 (by decide) hk) ?_
  refine rz_All_c (i := 407) (fun k J hk hJ => rz_newa_long_ok (pc := 880) (nz0 := (100, 1033755)) (mx := 2410) hx hb hK hA (hw (i := 57) (j := 10) rfl rfl) (by decide) (by rw [hRm]; decide) dX12_init_880 (rz_wid (by decide) hk)) ?_
  refine rz_All_c (i := 408) (fun k J hk hJ => rz_putfF_ok (pc := 882) (own := RX12) (ref := "ThreadJudgeModel") (C := RX12) (T := TX12) (N := 257) (ci := 14) (index := 319) (f := 140) (t := 2) (Ts := Cond.code yX12_init cX12_init 1 none :: rz_TB) hx hb hts rz_in14 tyX12 tyX12_ok nmX12 ho hK hA rfl (by decide) rfl (rz_UnR _ (Or.inr ⟨_, rfl⟩)) rfl (hmn.trans rfl) rfl (tyX12_ok 140 (by decide)) (hw (i := 79) (j := 14) rfl rfl) (fun _ z => z) dX12_init_882 hk) ?_
  refine rz_All_c (i := 409) (fun k J hk hJ => rz_aload_n_ok (pc := 885) hx hb dX12_init_885 rfl hk) ?_
  refine rz_All_c (i := 410) (fun k J hk hJ => rz_sipush_ok (pc := 886) hx hb dX12_init_886 (by decide) hk) ?_
  refine rz_All_c (i := 411) (fun k J hk hJ => rz_newa_boolean_ok (pc := 889) (nz0 := (101, 1036165)) (mx := 482) hx hb hK hA (hw (i := 75) (j := 9) rfl rfl) (by decide) (by rw [hRm]; decide) dX12_init_889 (rz_wid (by decide) hk)) ?_
  refine rz_All_c (i := 412) (fun k J hk hJ => rz_putfF_ok (pc := 891) (own := RX12) (ref := "ThreadJudgeModel") (C := RX12) (T := TX12) (N := 257) (ci := 14) (index := 322) (f := 141) (t := 2) (Ts := Cond.code yX12_init cX12_init 1 none :: rz_TB) hx hb hts rz_in14 tyX12 tyX12_ok nmX12 ho hK hA rfl (by decide) rfl (rz_UnR _ (Or.inr ⟨_, rfl⟩)) rfl (hmn.trans rfl) rfl (tyX12_ok 141 (by decide)) (hw (i := 79) (j := 15) rfl rfl) (fun _ z => z) dX12_init_891 hk) ?_
  refine rz_All_c (i := 413) (fun k J hk hJ => rz_aload_n_ok (pc := 894) hx hb dX12_init_894 rfl hk) ?_
  refine rz_All_c (i := 414) (fun k J hk hJ => rz_ldcw_ok (pc := 895) hx hb (own := RX12) ho (hw (i := 79) (j := 16) rfl rfl) dX12_init_895 hk) ?_
  refine rz_All_c (i := 415) (fun k J hk hJ => rz_newa_boolean_ok (pc := 898) (nz0 := (102, 1036647)) (mx := 58322) hx hb hK hA (hw (i := 75) (j := 9) rfl rfl) (by decide) (by rw [hRm]; decide) dX12_init_898 (rz_wid (by decide) hk)) ?_
  refine rz_All_c (i := 416) (fun k J hk hJ => rz_putfF_ok (pc := 900) (own := RX12) (ref := "ThreadJudgeModel") (C := RX12) (T := TX12) (N := 257) (ci := 14) (index := 326) (f := 142) (t := 2) (Ts := Cond.code yX12_init cX12_init 1 none :: rz_TB) hx hb hts rz_in14 tyX12 tyX12_ok nmX12 ho hK hA rfl (by decide) rfl (rz_UnR _ (Or.inr ⟨_, rfl⟩)) rfl (hmn.trans rfl) rfl (tyX12_ok 142 (by decide)) (hw (i := 79) (j := 17) rfl rfl) (fun _ z => z) dX12_init_900 hk) ?_
  refine rz_All_c (i := 417) (fun k J hk hJ => rz_aload_n_ok (pc := 903) hx hb dX12_init_903 rfl hk) ?_
  refine rz_All_c (i := 418) (fun k J hk hJ => rz_ldcw_ok (pc := 904) hx hb (own := RX12) ho (hw (i := 79) (j := 16) rfl rfl) dX12_init_904 hk) ?_
  refine rz_All_c (i := 419) (fun k J hk hJ => rz_newa_boolean_ok (pc := 907) (nz0 := (103, 1094969)) (mx := 58322) hx hb hK hA (hw (i := 75) (j := 9) rfl rfl) (by decide) (by rw [hRm]; decide) dX12_init_907 (rz_wid (by decide) hk)) ?_
  refine rz_All_c (i := 420) (fun k J hk hJ => rz_putfF_ok (pc := 909) (own := RX12) (ref := "ThreadJudgeModel") (C := RX12) (T := TX12) (N := 257) (ci := 14) (index := 329) (f := 143) (t := 2) (Ts := Cond.code yX12_init cX12_init 1 none :: rz_TB) hx hb hts rz_in14 tyX12 tyX12_ok nmX12 ho hK hA rfl (by decide) rfl (rz_UnR _ (Or.inr ⟨_, rfl⟩)) rfl (hmn.trans rfl) rfl (tyX12_ok 143 (by decide)) (hw (i := 79) (j := 18) rfl rfl) (fun _ z => z) dX12_init_909 hk) ?_
  refine rz_All_c (i := 421) (fun k J hk hJ => rz_aload_n_ok (pc := 912) hx hb dX12_init_912 rfl hk) ?_
  refine rz_All_c (i := 422) (fun k J hk hJ => rz_ldcw_ok (pc := 913) hx hb (own := RX12) ho (hw (i := 79) (j := 0) rfl rfl) dX12_init_913 hk) ?_
  refine rz_All_c (i := 423) (fun k J hk hJ => rz_newa_long_ok (pc := 916) (nz0 := (104, 1153291)) (mx := 33040) hx hb hK hA (hw (i := 57) (j := 10) rfl rfl) (by decide) (by rw [hRm]; decide) dX12_init_916 (rz_wid (by decide) hk)) ?_
  refine rz_All_c (i := 424) (fun k J hk hJ => rz_putfF_ok (pc := 918) (own := RX12) (ref := "ThreadJudgeModel") (C := RX12) (T := TX12) (N := 257) (ci := 14) (index := 332) (f := 144) (t := 2) (Ts := Cond.code yX12_init cX12_init 1 none :: rz_TB) hx hb hts rz_in14 tyX12 tyX12_ok nmX12 ho hK hA rfl (by decide) rfl (rz_UnR _ (Or.inr ⟨_, rfl⟩)) rfl (hmn.trans rfl) rfl (tyX12_ok 144 (by decide)) (hw (i := 79) (j := 19) rfl rfl) (fun _ z => z) dX12_init_918 hk) ?_
  refine rz_All_c (i := 425) (fun k J hk hJ => rz_aload_n_ok (pc := 921) hx hb dX12_init_921 rfl hk) ?_
  refine rz_All_c (i := 426) (fun k J hk hJ => rz_ldcw_ok (pc := 922) hx hb (own := RX12) ho (hw (i := 79) (j := 0) rfl rfl) dX12_init_922 hk) ?_
  refine rz_All_c (i := 427) (fun k J hk hJ => rz_newa_long_ok (pc := 925) (nz0 := (105, 1186331)) (mx := 33040) hx hb hK hA (hw (i := 57) (j := 10) rfl rfl) (by decide) (by rw [hRm]; decide) dX12_init_925 (rz_wid (by decide) hk)) ?_
  refine rz_All_c (i := 428) (fun k J hk hJ => rz_putfF_ok (pc := 927) (own := RX12) (ref := "ThreadJudgeModel") (C := RX12) (T := TX12) (N := 257) (ci := 14) (index := 335) (f := 145) (t := 2) (Ts := Cond.code yX12_init cX12_init 1 none :: rz_TB) hx hb hts rz_in14 tyX12 tyX12_ok nmX12 ho hK hA rfl (by decide) rfl (rz_UnR _ (Or.inr ⟨_, rfl⟩)) rfl (hmn.trans rfl) rfl (tyX12_ok 145 (by decide)) (hw (i := 79) (j := 20) rfl rfl) (fun _ z => z) dX12_init_927 hk) ?_
  refine rz_All_c (i := 429) (fun k J hk hJ => rz_aload_n_ok (pc := 930) hx hb dX12_init_930 rfl hk) ?_
  refine rz_All_c (i := 430) (fun k J hk hJ => rz_sipush_ok (pc := 931) hx hb dX12_init_931 (by decide) hk) ?_
  refine rz_All_c (i := 431) (fun k J hk hJ => rz_newa_long_ok (pc := 934) (nz0 := (106, 1219371)) (mx := 2416) hx hb hK hA (hw (i := 57) (j := 10) rfl rfl) (by decide) (by rw [hRm]; decide) dX12_init_934 (rz_wid (by decide) hk)) ?_
  refine rz_All_c (i := 432) (fun k J hk hJ => rz_putfF_ok (pc := 936) (own := RX12) (ref := "ThreadJudgeModel") (C := RX12) (T := TX12) (N := 257) (ci := 14) (index := 338) (f := 146) (t := 2) (Ts := Cond.code yX12_init cX12_init 1 none :: rz_TB) hx hb hts rz_in14 tyX12 tyX12_ok nmX12 ho hK hA rfl (by decide) rfl (rz_UnR _ (Or.inr ⟨_, rfl⟩)) rfl (hmn.trans rfl) rfl (tyX12_ok 146 (by decide)) (hw (i := 79) (j := 21) rfl rfl) (fun _ z => z) dX12_init_936 hk) ?_
  refine rz_All_c (i := 433) (fun k J hk hJ => rz_aload_n_ok (pc := 939) hx hb dX12_init_939 rfl hk) ?_
  refine rz_All_c (i := 434) (fun k J hk hJ => rz_sipush_ok (pc := 940) hx hb dX12_init_940 (by decide) hk) ?_
  refine rz_All_c (i := 435) (fun k J hk hJ => rz_newa_long_ok (pc := 943) (nz0 := (107, 1221787)) (mx := 2416) hx hb hK hA (hw (i := 57) (j := 10) rfl rfl) (by decide) (by rw [hRm]; decide) dX12_init_943 (rz_wid (by decide) hk)) ?_
  refine rz_All_c (i := 436) (fun k J hk hJ => rz_putfF_ok (pc := 945) (own := RX12) (ref := "ThreadJudgeModel") (C := RX12) (T := TX12) (N := 257) (ci := 14) (index := 341) (f := 147) (t := 2) (Ts := Cond.code yX12_init cX12_init 1 none :: rz_TB) hx hb hts rz_in14 tyX12 tyX12_ok nmX12 ho hK hA rfl (by decide) rfl (rz_UnR _ (Or.inr ⟨_, rfl⟩)) rfl (hmn.trans rfl) rfl (tyX12_ok 147 (by decide)) (hw (i := 79) (j := 22) rfl rfl) (fun _ z => z) dX12_init_945 hk) ?_
  refine rz_All_c (i := 437) (fun k J hk hJ => rz_aload_n_ok (pc := 948) hx hb dX12_init_948 rfl hk) ?_
  refine rz_All_c (i := 438) (fun k J hk hJ => rz_sipush_ok (pc := 949) hx hb dX12_init_949 (by decide) hk) ?_
  refine rz_All_c (i := 439) (fun k J hk hJ => rz_newa_long_ok (pc := 952) (nz0 := (108, 1224203)) (mx := 16224) hx hb hK hA (hw (i := 57) (j := 10) rfl rfl) (by decide) (by rw [hRm]; decide) dX12_init_952 (rz_wid (by decide) hk)) ?_
  refine rz_All_c (i := 440) (fun k J hk hJ => rz_putfF_ok (pc := 954) (own := RX12) (ref := "ThreadJudgeModel") (C := RX12) (T := TX12) (N := 257) (ci := 14) (index := 344) (f := 148) (t := 2) (Ts := Cond.code yX12_init cX12_init 1 none :: rz_TB) hx hb hts rz_in14 tyX12 tyX12_ok nmX12 ho hK hA rfl (by decide) rfl (rz_UnR _ (Or.inr ⟨_, rfl⟩)) rfl (hmn.trans rfl) rfl (tyX12_ok 148 (by decide)) (hw (i := 79) (j := 23) rfl rfl) (fun _ z => z) dX12_init_954 hk) ?_
  refine rz_All_c (i := 441) (fun k J hk hJ => rz_aload_n_ok (pc := 957) hx hb dX12_init_957 rfl hk) ?_
  refine rz_All_c (i := 442) (fun k J hk hJ => rz_sipush_ok (pc := 958) hx hb dX12_init_958 (by decide) hk) ?_
  refine rz_All_c (i := 443) (fun k J hk hJ => rz_newa_long_ok (pc := 961) (nz0 := (109, 1240427)) (mx := 3848) hx hb hK hA (hw (i := 57) (j := 10) rfl rfl) (by decide) (by rw [hRm]; decide) dX12_init_961 (rz_wid (by decide) hk)) ?_
  refine rz_All_c (i := 444) (fun k J hk hJ => rz_putfF_ok (pc := 963) (own := RX12) (ref := "ThreadJudgeModel") (C := RX12) (T := TX12) (N := 257) (ci := 14) (index := 347) (f := 150) (t := 2) (Ts := Cond.code yX12_init cX12_init 1 none :: rz_TB) hx hb hts rz_in14 tyX12 tyX12_ok nmX12 ho hK hA rfl (by decide) rfl (rz_UnR _ (Or.inr ⟨_, rfl⟩)) rfl (hmn.trans rfl) rfl (tyX12_ok 150 (by decide)) (hw (i := 80) (j := 0) rfl rfl) (fun _ z => z) dX12_init_963 hk) ?_
  refine rz_All_c (i := 445) (fun k J hk hJ => rz_aload_n_ok (pc := 966) hx hb dX12_init_966 rfl hk) ?_
  refine rz_All_c (i := 446) (fun k J hk hJ => rz_sipush_ok (pc := 967) hx hb dX12_init_967 (by decide) hk) ?_
  refine rz_All_c (i := 447) (fun k J hk hJ => rz_newa_boolean_ok (pc := 970) (nz0 := (110, 1244275)) (mx := 1014) hx hb hK hA (hw (i := 75) (j := 9) rfl rfl) (by decide) (by rw [hRm]; decide) dX12_init_970 (rz_wid (by decide) hk)) ?_
  refine rz_All_c (i := 448) (fun k J hk hJ => rz_putfF_ok (pc := 972) (own := RX12) (ref := "ThreadJudgeModel") (C := RX12) (T := TX12) (N := 257) (ci := 14) (index := 350) (f := 154) (t := 2) (Ts := Cond.code yX12_init cX12_init 1 none :: rz_TB) hx hb hts rz_in14 tyX12 tyX12_ok nmX12 ho hK hA rfl (by decide) rfl (rz_UnR _ (Or.inr ⟨_, rfl⟩)) rfl (hmn.trans rfl) rfl (tyX12_ok 154 (by decide)) (hw (i := 80) (j := 1) rfl rfl) (fun _ z => z) dX12_init_972 hk) ?_
  refine rz_All_c (i := 449) (fun k J hk hJ => rz_aload_n_ok (pc := 975) hx hb dX12_init_975 rfl hk) ?_
  refine rz_All_c (i := 450) (fun k J hk hJ => rz_sipush_ok (pc := 976) hx hb dX12_init_976 (by decide) hk) ?_
  refine rz_All_c (i := 451) (fun k J hk hJ => rz_newa_int_ok (pc := 979) (nz0 := (111, 1245289)) (mx := 1014) hx hb hK hA (hw (i := 57) (j := 7) rfl rfl) (by decide) (by rw [hRm]; decide) dX12_init_979 (rz_wid (by decide) hk)) ?_
  refine rz_All_c (i := 452) (fun k J hk hJ => rz_putfF_ok (pc := 981) (own := RX12) (ref := "ThreadJudgeModel") (C := RX12) (T := TX12) (N := 257) (ci := 14) (index := 353) (f := 155) (t := 2) (Ts := Cond.code yX12_init cX12_init 1 none :: rz_TB) hx hb hts rz_in14 tyX12 tyX12_ok nmX12 ho hK hA rfl (by decide) rfl (rz_UnR _ (Or.inr ⟨_, rfl⟩)) rfl (hmn.trans rfl) rfl (tyX12_ok 155 (by decide)) (hw (i := 80) (j := 2) rfl rfl) (fun _ z => z) dX12_init_981 hk) ?_
  refine rz_All_c (i := 453) (fun k J hk hJ => rz_aload_n_ok (pc := 984) hx hb dX12_init_984 rfl hk) ?_
  refine rz_All_c (i := 454) (fun k J hk hJ => rz_bipush_ok (pc := 985) hx hb dX12_init_985 (by decide) hk) ?_
  refine rz_All_c (i := 455) (fun k J hk hJ => rz_newa_int_ok (pc := 987) (nz0 := (112, 1246303)) (mx := 117) hx hb hK hA (hw (i := 57) (j := 7) rfl rfl) (by decide) (by rw [hRm]; decide) dX12_init_987 (rz_wid (by decide) hk)) ?_
  refine rz_All_c (i := 456) (fun k J hk hJ => rz_putfF_ok (pc := 989) (own := RX12) (ref := "ThreadJudgeModel") (C := RX12) (T := TX12) (N := 257) (ci := 14) (index := 356) (f := 157) (t := 2) (Ts := Cond.code yX12_init cX12_init 1 none :: rz_TB) hx hb hts rz_in14 tyX12 tyX12_ok nmX12 ho hK hA rfl (by decide) rfl (rz_UnR _ (Or.inr ⟨_, rfl⟩)) rfl (hmn.trans rfl) rfl (tyX12_ok 157 (by decide)) (hw (i := 80) (j := 3) rfl rfl) (fun _ z => z) dX12_init_989 hk) ?_
  refine rz_All_c (i := 457) (fun k J hk hJ => rz_aload_n_ok (pc := 992) hx hb dX12_init_992 rfl hk) ?_
  refine rz_All_c (i := 458) (fun k J hk hJ => rz_ldcw_ok (pc := 993) hx hb (own := RX12) ho (hw (i := 80) (j := 4) rfl rfl) dX12_init_993 hk) ?_
  refine rz_All_c (i := 459) (fun k J hk hJ => rz_newa_boolean_ok (pc := 996) (nz0 := (113, 1246420)) (mx := 36542) hx hb hK hA (hw (i := 75) (j := 9) rfl rfl) (by decide) (by rw [hRm]; decide) dX12_init_996 (rz_wid (by decide) hk)) ?_
  refine rz_All_c (i := 460) (fun k J hk hJ => rz_putfF_ok (pc := 998) (own := RX12) (ref := "ThreadJudgeModel") (C := RX12) (T := TX12) (N := 257) (ci := 14) (index := 360) (f := 159) (t := 2) (Ts := Cond.code yX12_init cX12_init 1 none :: rz_TB) hx hb hts rz_in14 tyX12 tyX12_ok nmX12 ho hK hA rfl (by decide) rfl (rz_UnR _ (Or.inr ⟨_, rfl⟩)) rfl (hmn.trans rfl) rfl (tyX12_ok 159 (by decide)) (hw (i := 80) (j := 5) rfl rfl) (fun _ z => z) dX12_init_998 hk) ?_
  refine rz_All_c (i := 461) (fun k J hk hJ => rz_aload_n_ok (pc := 1001) hx hb dX12_init_1001 rfl hk) ?_
  refine rz_All_c (i := 462) (fun k J hk hJ => rz_sipush_ok (pc := 1002) hx hb dX12_init_1002 (by decide) hk) ?_
  refine rz_All_c (i := 463) (fun k J hk hJ => rz_newa_long_ok (pc := 1005) (nz0 := (114, 1282962)) (mx := 3400) hx hb hK hA (hw (i := 57) (j := 10) rfl rfl) (by decide) (by rw [hRm]; decide) dX12_init_1005 (rz_wid (by decide) hk)) ?_
  refine rz_All_c (i := 464) (fun k J hk hJ => rz_putfF_ok (pc := 1007) (own := RX12) (ref := "ThreadJudgeModel") (C := RX12) (T := TX12) (N := 257) (ci := 14) (index := 363) (f := 160) (t := 2) (Ts := Cond.code yX12_init cX12_init 1 none :: rz_TB) hx hb hts rz_in14 tyX12 tyX12_ok nmX12 ho hK hA rfl (by decide) rfl (rz_UnR _ (Or.inr ⟨_, rfl⟩)) rfl (hmn.trans rfl) rfl (tyX12_ok 160 (by decide)) (hw (i := 80) (j := 6) rfl rfl) (fun _ z => z) dX12_init_1007 hk) ?_
  refine rz_All_c (i := 465) (fun k J hk hJ => rz_aload_n_ok (pc := 1010) hx hb dX12_init_1010 rfl hk) ?_
  refine rz_All_c (i := 466) (fun k J hk hJ => rz_sipush_ok (pc := 1011) hx hb dX12_init_1011 (by decide) hk) ?_
  refine rz_All_c (i := 467) (fun k J hk hJ => rz_newa_long_ok (pc := 1014) (nz0 := (115, 1286362)) (mx := 3400) hx hb hK hA (hw (i := 57) (j := 10) rfl rfl) (by decide) (by rw [hRm]; decide) dX12_init_1014 (rz_wid (by decide) hk)) ?_
  refine rz_All_c (i := 468) (fun k J hk hJ => rz_putfF_ok (pc := 1016) (own := RX12) (ref := "ThreadJudgeModel") (C := RX12) (T := TX12) (N := 257) (ci := 14) (index := 366) (f := 161) (t := 2) (Ts := Cond.code yX12_init cX12_init 1 none :: rz_TB) hx hb hts rz_in14 tyX12 tyX12_ok nmX12 ho hK hA rfl (by decide) rfl (rz_UnR _ (Or.inr ⟨_, rfl⟩)) rfl (hmn.trans rfl) rfl (tyX12_ok 161 (by decide)) (hw (i := 80) (j := 7) rfl rfl) (fun _ z => z) dX12_init_1016 hk) ?_
  refine rz_All_c (i := 469) (fun k J hk hJ => rz_aload_n_ok (pc := 1019) hx hb dX12_init_1019 rfl hk) ?_
  refine rz_All_c (i := 470) (fun k J hk hJ => rz_sipush_ok (pc := 1020) hx hb dX12_init_1020 (by decide) hk) ?_
  refine rz_All_c (i := 471) (fun k J hk hJ => rz_newa_long_ok (pc := 1023) (nz0 := (116, 1289762)) (mx := 3848) hx hb hK hA (hw (i := 57) (j := 10) rfl rfl) (by decide) (by rw [hRm]; decide) dX12_init_1023 (rz_wid (by decide) hk)) ?_
  refine rz_All_c (i := 472) (fun k J hk hJ => rz_putfF_ok (pc := 1025) (own := RX12) (ref := "ThreadJudgeModel") (C := RX12) (T := TX12) (N := 257) (ci := 14) (index := 369) (f := 162) (t := 2) (Ts := Cond.code yX12_init cX12_init 1 none :: rz_TB) hx hb hts rz_in14 tyX12 tyX12_ok nmX12 ho hK hA rfl (by decide) rfl (rz_UnR _ (Or.inr ⟨_, rfl⟩)) rfl (hmn.trans rfl) rfl (tyX12_ok 162 (by decide)) (hw (i := 80) (j := 8) rfl rfl) (fun _ z => z) dX12_init_1025 hk) ?_
  refine rz_All_c (i := 473) (fun k J hk hJ => rz_aload_n_ok (pc := 1028) hx hb dX12_init_1028 rfl hk) ?_
  refine rz_All_c (i := 474) (fun k J hk hJ => rz_sipush_ok (pc := 1029) hx hb dX12_init_1029 (by decide) hk) ?_
  refine rz_All_c (i := 475) (fun k J hk hJ => rz_newa_long_ok (pc := 1032) (nz0 := (117, 1293610)) (mx := 1014) hx hb hK hA (hw (i := 57) (j := 10) rfl rfl) (by decide) (by rw [hRm]; decide) dX12_init_1032 (rz_wid (by decide) hk)) ?_
  refine rz_All_c (i := 476) (fun k J hk hJ => rz_putfF_ok (pc := 1034) (own := RX12) (ref := "ThreadJudgeModel") (C := RX12) (T := TX12) (N := 257) (ci := 14) (index := 372) (f := 165) (t := 2) (Ts := Cond.code yX12_init cX12_init 1 none :: rz_TB) hx hb hts rz_in14 tyX12 tyX12_ok nmX12 ho hK hA rfl (by decide) rfl (rz_UnR _ (Or.inr ⟨_, rfl⟩)) rfl (hmn.trans rfl) rfl (tyX12_ok 165 (by decide)) (hw (i := 80) (j := 9) rfl rfl) (fun _ z => z) dX12_init_1034 hk) ?_
  refine rz_All_c (i := 477) (fun k J hk hJ => rz_aload_n_ok (pc := 1037) hx hb dX12_init_1037 rfl hk) ?_
  refine rz_All_c (i := 478) (fun k J hk hJ => rz_sipush_ok (pc := 1038) hx hb dX12_init_1038 (by decide) hk) ?_
  refine rz_All_c (i := 479) (fun k J hk hJ => rz_newa_long_ok (pc := 1041) (nz0 := (118, 1294624)) (mx := 1014) hx hb hK hA (hw (i := 57) (j := 10) rfl rfl) (by decide) (by rw [hRm]; decide) dX12_init_1041 (rz_wid (by decide) hk)) ?_
  refine rz_All_c (i := 480) (fun k J hk hJ => rz_putfF_ok (pc := 1043) (own := RX12) (ref := "ThreadJudgeModel") (C := RX12) (T := TX12) (N := 257) (ci := 14) (index := 375) (f := 166) (t := 2) (Ts := Cond.code yX12_init cX12_init 1 none :: rz_TB) hx hb hts rz_in14 tyX12 tyX12_ok nmX12 ho hK hA rfl (by decide) rfl (rz_UnR _ (Or.inr ⟨_, rfl⟩)) rfl (hmn.trans rfl) rfl (tyX12_ok 166 (by decide)) (hw (i := 80) (j := 10) rfl rfl) (fun _ z => z) dX12_init_1043 hk) ?_
  refine rz_All_c (i := 481) (fun k J hk hJ => rz_aload_n_ok (pc := 1046) hx hb dX12_init_1046 rfl hk) ?_
  refine rz_All_c (i := 482) (fun k J hk hJ => rz_bipush_ok (pc := 1047) hx hb dX12_init_1047 (by decide) hk) ?_
  refine rz_All_c (i := 483) (fun k J hk hJ => rz_newa_int_ok (pc := 1049) (nz0 := (119, 1295638)) (mx := 117) hx hb hK hA (hw (i := 57) (j := 7) rfl rfl) (by decide) (by rw [hRm]; decide) dX12_init_1049 (rz_wid (by decide) hk)) ?_
  refine rz_All_c (i := 484) (fun k J hk hJ => rz_putfF_ok (pc := 1051) (own := RX12) (ref := "ThreadJudgeModel") (C := RX12) (T := TX12) (N := 257) (ci := 14) (index := 378) (f := 167) (t := 2) (Ts := Cond.code yX12_init cX12_init 1 none :: rz_TB) hx hb hts rz_in14 tyX12 tyX12_ok nmX12 ho hK hA rfl (by decide) rfl (rz_UnR _ (Or.inr ⟨_, rfl⟩)) rfl (hmn.trans rfl) rfl (tyX12_ok 167 (by decide)) (hw (i := 80) (j := 11) rfl rfl) (fun _ z => z) dX12_init_1051 hk) ?_
  refine rz_All_c (i := 485) (fun k J hk hJ => rz_aload_n_ok (pc := 1054) hx hb dX12_init_1054 rfl hk) ?_
  refine rz_All_c (i := 486) (fun k J hk hJ => rz_bipush_ok (pc := 1055) hx hb dX12_init_1055 (by decide) hk) ?_
  refine rz_All_c (i := 487) (fun k J hk hJ => rz_newa_int_ok (pc := 1057) (nz0 := (120, 1295755)) (mx := 120) hx hb hK hA (hw (i := 57) (j := 7) rfl rfl) (by decide) (by rw [hRm]; decide) dX12_init_1057 (rz_wid (by decide) hk)) ?_
  refine rz_All_c (i := 488) (fun k J hk hJ => rz_putfF_ok (pc := 1059) (own := RX12) (ref := "ThreadJudgeModel") (C := RX12) (T := TX12) (N := 257) (ci := 14) (index := 381) (f := 168) (t := 2) (Ts := Cond.code yX12_init cX12_init 1 none :: rz_TB) hx hb hts rz_in14 tyX12 tyX12_ok nmX12 ho hK hA rfl (by decide) rfl (rz_UnR _ (Or.inr ⟨_, rfl⟩)) rfl (hmn.trans rfl) rfl (tyX12_ok 168 (by decide)) (hw (i := 80) (j := 12) rfl rfl) (fun _ z => z) dX12_init_1059 hk) ?_
  refine rz_All_c (i := 489) (fun k J hk hJ => rz_aload_n_ok (pc := 1062) hx hb dX12_init_1062 rfl hk) ?_
  refine rz_All_c (i := 490) (fun k J hk hJ => rz_sipush_ok (pc := 1063) hx hb dX12_init_1063 (by decide) hk) ?_
  refine rz_All_c (i := 491) (fun k J hk hJ => rz_newa_int_ok (pc := 1066) (nz0 := (121, 1295875)) (mx := 200) hx hb hK hA (hw (i := 57) (j := 7) rfl rfl) (by decide) (by rw [hRm]; decide) dX12_init_1066 (rz_wid (by decide) hk)) ?_
  refine rz_All_c (i := 492) (fun k J hk hJ => rz_putfF_ok (pc := 1068) (own := RX12) (ref := "ThreadJudgeModel") (C := RX12) (T := TX12) (N := 257) (ci := 14) (index := 384) (f := 169) (t := 2) (Ts := Cond.code yX12_init cX12_init 1 none :: rz_TB) hx hb hts rz_in14 tyX12 tyX12_ok nmX12 ho hK hA rfl (by decide) rfl (rz_UnR _ (Or.inr ⟨_, rfl⟩)) rfl (hmn.trans rfl) rfl (tyX12_ok 169 (by decide)) (hw (i := 80) (j := 13) rfl rfl) (fun _ z => z) dX12_init_1068 hk) ?_
  refine rz_All_c (i := 493) (fun k J hk hJ => rz_aload_n_ok (pc := 1071) hx hb dX12_init_1071 rfl hk) ?_
  refine rz_All_c (i := 494) (fun k J hk hJ => rz_iconst_ok (pc := 1072) hx hb dX12_init_1072 rfl hk) ?_
  refine rz_All_c (i := 495) (fun k J hk hJ => rz_putf_ok (pc := 1073) (own := RX12) (ref := "ThreadJudgeModel") (C := RX12) (T := TX12) (N := 257) (ci := 14) (index := 387) (f := 173) (t := 0) (Ts := Cond.code yX12_init cX12_init 1 none :: rz_TB) hx hb hts rz_in14 tyX12 tyX12_ok nmX12 ho hK hA rfl (by decide) rfl (rz_UnI _) rfl (tyX12_ok 173 (by decide)) (hw (i := 32) (j := 3) rfl rfl) (fun _ z => z) dX12_init_1073 hk) ?_
  refine rz_All_c (i := 496) (fun k J hk hJ => rz_aload_n_ok (pc := 1076) hx hb dX12_init_1076 rfl hk) ?_
  refine rz_All_c (i := 497) (fun k J hk hJ => rz_bipush_ok (pc := 1077) hx hb dX12_init_1077 (by decide) hk) ?_
  refine rz_All_c (i := 498) (fun k J hk hJ => rz_newa_long_ok (pc := 1079) (nz0 := (122, 1296075)) (mx := 22) hx hb hK hA (hw (i := 57) (j := 10) rfl rfl) (by decide) (by rw [hRm]; decide) dX12_init_1079 (rz_wid (by decide) hk)) ?_
  refine rz_All_c (i := 499) (fun k J hk hJ => rz_putfF_ok (pc := 1081) (own := RX12) (ref := "ThreadJudgeModel") (C := RX12) (T := TX12) (N := 257) (ci := 14) (index := 390) (f := 174) (t := 2) (Ts := Cond.code yX12_init cX12_init 1 none :: rz_TB) hx hb hts rz_in14 tyX12 tyX12_ok nmX12 ho hK hA rfl (by decide) rfl (rz_UnR _ (Or.inr ⟨_, rfl⟩)) rfl (hmn.trans rfl) rfl (tyX12_ok 174 (by decide)) (hw (i := 80) (j := 15) rfl rfl) (fun _ z => z) dX12_init_1081 hk) ?_
  refine rz_All_c (i := 500) (fun k J hk hJ => rz_aload_n_ok (pc := 1084) hx hb dX12_init_1084 rfl hk) ?_
  refine rz_All_c (i := 501) (fun k J hk hJ => rz_bipush_ok (pc := 1085) hx hb dX12_init_1085 (by decide) hk) ?_
  refine rz_All_c (i := 502) (fun k J hk hJ => rz_newa_long_ok (pc := 1087) (nz0 := (123, 1296097)) (mx := 22) hx hb hK hA (hw (i := 57) (j := 10) rfl rfl) (by decide) (by rw [hRm]; decide) dX12_init_1087 (rz_wid (by decide) hk)) ?_
  refine rz_All_c (i := 503) (fun k J hk hJ => rz_putfF_ok (pc := 1089) (own := RX12) (ref := "ThreadJudgeModel") (C := RX12) (T := TX12) (N := 257) (ci := 14) (index := 393) (f := 175) (t := 2) (Ts := Cond.code yX12_init cX12_init 1 none :: rz_TB) hx hb hts rz_in14 tyX12 tyX12_ok nmX12 ho hK hA rfl (by decide) rfl (rz_UnR _ (Or.inr ⟨_, rfl⟩)) rfl (hmn.trans rfl) rfl (tyX12_ok 175 (by decide)) (hw (i := 80) (j := 16) rfl rfl) (fun _ z => z) dX12_init_1089 hk) ?_
  refine rz_All_c (i := 504) (fun k J hk hJ => rz_aload_n_ok (pc := 1092) hx hb dX12_init_1092 rfl hk) ?_
  refine rz_All_c (i := 505) (fun k J hk hJ => rz_bipush_ok (pc := 1093) hx hb dX12_init_1093 (by decide) hk) ?_
  refine rz_All_c (i := 506) (fun k J hk hJ => rz_newa_int_ok (pc := 1095) (nz0 := (124, 1296119)) (mx := 22) hx hb hK hA (hw (i := 57) (j := 7) rfl rfl) (by decide) (by rw [hRm]; decide) dX12_init_1095 (rz_wid (by decide) hk)) ?_
  refine rz_All_c (i := 507) (fun k J hk hJ => rz_putfF_ok (pc := 1097) (own := RX12) (ref := "ThreadJudgeModel") (C := RX12) (T := TX12) (N := 257) (ci := 14) (index := 396) (f := 176) (t := 2) (Ts := Cond.code yX12_init cX12_init 1 none :: rz_TB) hx hb hts rz_in14 tyX12 tyX12_ok nmX12 ho hK hA rfl (by decide) rfl (rz_UnR _ (Or.inr ⟨_, rfl⟩)) rfl (hmn.trans rfl) rfl (tyX12_ok 176 (by decide)) (hw (i := 80) (j := 17) rfl rfl) (fun _ z => z) dX12_init_1097 hk) ?_
  refine rz_All_c (i := 508) (fun k J hk hJ => rz_aload_n_ok (pc := 1100) hx hb dX12_init_1100 rfl hk) ?_
  refine rz_All_c (i := 509) (fun k J hk hJ => rz_bipush_ok (pc := 1101) hx hb dX12_init_1101 (by decide) hk) ?_
  refine rz_All_c (i := 510) (fun k J hk hJ => rz_newa_long_ok (pc := 1103) (nz0 := (125, 1296141)) (mx := 22) hx hb hK hA (hw (i := 57) (j := 10) rfl rfl) (by decide) (by rw [hRm]; decide) dX12_init_1103 (rz_wid (by decide) hk)) ?_
  refine rz_All_c (i := 511) (fun k J hk hJ => rz_putfF_ok (pc := 1105) (own := RX12) (ref := "ThreadJudgeModel") (C := RX12) (T := TX12) (N := 257) (ci := 14) (index := 399) (f := 177) (t := 2) (Ts := Cond.code yX12_init cX12_init 1 none :: rz_TB) hx hb hts rz_in14 tyX12 tyX12_ok nmX12 ho hK hA rfl (by decide) rfl (rz_UnR _ (Or.inr ⟨_, rfl⟩)) rfl (hmn.trans rfl) rfl (tyX12_ok 177 (by decide)) (hw (i := 80) (j := 18) rfl rfl) (fun _ z => z) dX12_init_1105 hk) ?_
  refine rz_All_c (i := 512) (fun k J hk hJ => rz_aload_n_ok (pc := 1108) hx hb dX12_init_1108 rfl hk) ?_
  refine rz_All_c (i := 513) (fun k J hk hJ => rz_bipush_ok (pc := 1109) hx hb dX12_init_1109 (by decide) hk) ?_
  refine rz_All_c (i := 514) (fun k J hk hJ => rz_newa_long_ok (pc := 1111) (nz0 := (126, 1296163)) (mx := 22) hx hb hK hA (hw (i := 57) (j := 10) rfl rfl) (by decide) (by rw [hRm]; decide) dX12_init_1111 (rz_wid (by decide) hk)) ?_
  refine rz_All_c (i := 515) (fun k J hk hJ => rz_putfF_ok (pc := 1113) (own := RX12) (ref := "ThreadJudgeModel") (C := RX12) (T := TX12) (N := 257) (ci := 14) (index := 402) (f := 178) (t := 2) (Ts := Cond.code yX12_init cX12_init 1 none :: rz_TB) hx hb hts rz_in14 tyX12 tyX12_ok nmX12 ho hK hA rfl (by decide) rfl (rz_UnR _ (Or.inr ⟨_, rfl⟩)) rfl (hmn.trans rfl) rfl (tyX12_ok 178 (by decide)) (hw (i := 80) (j := 19) rfl rfl) (fun _ z => z) dX12_init_1113 hk) ?_
  refine rz_All_c (i := 516) (fun k J hk hJ => rz_aload_n_ok (pc := 1116) hx hb dX12_init_1116 rfl hk) ?_
  refine rz_All_c (i := 517) (fun k J hk hJ => rz_bipush_ok (pc := 1117) hx hb dX12_init_1117 (by decide) hk) ?_
  refine rz_All_c (i := 518) (fun k J hk hJ => rz_newa_boolean_ok (pc := 1119) (nz0 := (127, 1296185)) (mx := 22) hx hb hK hA (hw (i := 75) (j := 9) rfl rfl) (by decide) (by rw [hRm]; decide) dX12_init_1119 (rz_wid (by decide) hk)) ?_
  refine rz_All_c (i := 519) (fun k J hk hJ => rz_putfF_ok (pc := 1121) (own := RX12) (ref := "ThreadJudgeModel") (C := RX12) (T := TX12) (N := 257) (ci := 14) (index := 405) (f := 179) (t := 2) (Ts := Cond.code yX12_init cX12_init 1 none :: rz_TB) hx hb hts rz_in14 tyX12 tyX12_ok nmX12 ho hK hA rfl (by decide) rfl (rz_UnR _ (Or.inr ⟨_, rfl⟩)) rfl (hmn.trans rfl) rfl (tyX12_ok 179 (by decide)) (hw (i := 80) (j := 20) rfl rfl) (fun _ z => z) dX12_init_1121 hk) ?_
  refine rz_All_c (i := 520) (fun k J hk hJ => rz_aload_n_ok (pc := 1124) hx hb dX12_init_1124 rfl hk) ?_
  refine rz_All_c (i := 521) (fun k J hk hJ => rz_bipush_ok (pc := 1125) hx hb dX12_init_1125 (by decide) hk) ?_
  refine rz_All_c (i := 522) (fun k J hk hJ => rz_newa_int_ok (pc := 1127) (nz0 := (128, 1296207)) (mx := 22) hx hb hK hA (hw (i := 57) (j := 7) rfl rfl) (by decide) (by rw [hRm]; decide) dX12_init_1127 (rz_wid (by decide) hk)) ?_
  refine rz_All_c (i := 523) (fun k J hk hJ => rz_putfF_ok (pc := 1129) (own := RX12) (ref := "ThreadJudgeModel") (C := RX12) (T := TX12) (N := 257) (ci := 14) (index := 408) (f := 180) (t := 2) (Ts := Cond.code yX12_init cX12_init 1 none :: rz_TB) hx hb hts rz_in14 tyX12 tyX12_ok nmX12 ho hK hA rfl (by decide) rfl (rz_UnR _ (Or.inr ⟨_, rfl⟩)) rfl (hmn.trans rfl) rfl (tyX12_ok 180 (by decide)) (hw (i := 80) (j := 21) rfl rfl) (fun _ z => z) dX12_init_1129 hk) ?_
  refine rz_All_c (i := 524) (fun k J hk hJ => rz_aload_n_ok (pc := 1132) hx hb dX12_init_1132 rfl hk) ?_
  refine rz_All_c (i := 525) (fun k J hk hJ => rz_sipush_ok (pc := 1133) hx hb dX12_init_1133 (by decide) hk) ?_
  refine rz_All_c (i := 526) (fun k J hk hJ => rz_newa_int_ok (pc := 1136) (nz0 := (129, 1296229)) (mx := 400) hx hb hK hA (hw (i := 57) (j := 7) rfl rfl) (by decide) (by rw [hRm]; decide) dX12_init_1136 (rz_wid (by decide) hk)) ?_
  refine rz_All_c (i := 527) (fun k J hk hJ => rz_putfF_ok (pc := 1138) (own := RX12) (ref := "ThreadJudgeModel") (C := RX12) (T := TX12) (N := 257) (ci := 14) (index := 411) (f := 195) (t := 2) (Ts := Cond.code yX12_init cX12_init 1 none :: rz_TB) hx hb hts rz_in14 tyX12 tyX12_ok nmX12 ho hK hA rfl (by decide) rfl (rz_UnR _ (Or.inr ⟨_, rfl⟩)) rfl (hmn.trans rfl) rfl (tyX12_ok 195 (by decide)) (hw (i := 80) (j := 22) rfl rfl) (fun _ z => z) dX12_init_1138 hk) ?_
  refine rz_All_c (i := 528) (fun k J hk hJ => rz_aload_n_ok (pc := 1141) hx hb dX12_init_1141 rfl hk) ?_
  refine rz_All_c (i := 529) (fun k J hk hJ => rz_sipush_ok (pc := 1142) hx hb dX12_init_1142 (by decide) hk) ?_
  refine rz_All_c (i := 530) (fun k J hk hJ => rz_newa_int_ok (pc := 1145) (nz0 := (130, 1296629)) (mx := 400) hx hb hK hA (hw (i := 57) (j := 7) rfl rfl) (by decide) (by rw [hRm]; decide) dX12_init_1145 (rz_wid (by decide) hk)) ?_
  refine rz_All_c (i := 531) (fun k J hk hJ => rz_putfF_ok (pc := 1147) (own := RX12) (ref := "ThreadJudgeModel") (C := RX12) (T := TX12) (N := 257) (ci := 14) (index := 414) (f := 196) (t := 2) (Ts := Cond.code yX12_init cX12_init 1 none :: rz_TB) hx hb hts rz_in14 tyX12 tyX12_ok nmX12 ho hK hA rfl (by decide) rfl (rz_UnR _ (Or.inr ⟨_, rfl⟩)) rfl (hmn.trans rfl) rfl (tyX12_ok 196 (by decide)) (hw (i := 80) (j := 23) rfl rfl) (fun _ z => z) dX12_init_1147 hk) ?_
  refine rz_All_c (i := 532) (fun k J hk hJ => rz_aload_n_ok (pc := 1150) hx hb dX12_init_1150 rfl hk) ?_
  refine rz_All_c (i := 533) (fun k J hk hJ => rz_sipush_ok (pc := 1151) hx hb dX12_init_1151 (by decide) hk) ?_
  refine rz_All_c (i := 534) (fun k J hk hJ => rz_newa_int_ok (pc := 1154) (nz0 := (131, 1297029)) (mx := 400) hx hb hK hA (hw (i := 57) (j := 7) rfl rfl) (by decide) (by rw [hRm]; decide) dX12_init_1154 (rz_wid (by decide) hk)) ?_
  refine rz_All_c (i := 535) (fun k J hk hJ => rz_putfF_ok (pc := 1156) (own := RX12) (ref := "ThreadJudgeModel") (C := RX12) (T := TX12) (N := 257) (ci := 14) (index := 417) (f := 197) (t := 2) (Ts := Cond.code yX12_init cX12_init 1 none :: rz_TB) hx hb hts rz_in14 tyX12 tyX12_ok nmX12 ho hK hA rfl (by decide) rfl (rz_UnR _ (Or.inr ⟨_, rfl⟩)) rfl (hmn.trans rfl) rfl (tyX12_ok 197 (by decide)) (hw (i := 81) (j := 0) rfl rfl) (fun _ z => z) dX12_init_1156 hk) ?_
  refine rz_All_c (i := 536) (fun k J hk hJ => rz_aload_n_ok (pc := 1159) hx hb dX12_init_1159 rfl hk) ?_
  refine rz_All_c (i := 537) (fun k J hk hJ => rz_sipush_ok (pc := 1160) hx hb dX12_init_1160 (by decide) hk) ?_
  refine rz_All_c (i := 538) (fun k J hk hJ => rz_newa_int_ok (pc := 1163) (nz0 := (132, 1297429)) (mx := 400) hx hb hK hA (hw (i := 57) (j := 7) rfl rfl) (by decide) (by rw [hRm]; decide) dX12_init_1163 (rz_wid (by decide) hk)) ?_
  refine rz_All_c (i := 539) (fun k J hk hJ => rz_putfF_ok (pc := 1165) (own := RX12) (ref := "ThreadJudgeModel") (C := RX12) (T := TX12) (N := 257) (ci := 14) (index := 420) (f := 198) (t := 2) (Ts := Cond.code yX12_init cX12_init 1 none :: rz_TB) hx hb hts rz_in14 tyX12 tyX12_ok nmX12 ho hK hA rfl (by decide) rfl (rz_UnR _ (Or.inr ⟨_, rfl⟩)) rfl (hmn.trans rfl) rfl (tyX12_ok 198 (by decide)) (hw (i := 81) (j := 1) rfl rfl) (fun _ z => z) dX12_init_1165 hk) ?_
  refine rz_All_c (i := 540) (fun k J hk hJ => rz_aload_n_ok (pc := 1168) hx hb dX12_init_1168 rfl hk) ?_
  refine rz_All_c (i := 541) (fun k J hk hJ => rz_sipush_ok (pc := 1169) hx hb dX12_init_1169 (by decide) hk) ?_
  refine rz_All_c (i := 542) (fun k J hk hJ => rz_newa_int_ok (pc := 1172) (nz0 := (133, 1297829)) (mx := 400) hx hb hK hA (hw (i := 57) (j := 7) rfl rfl) (by decide) (by rw [hRm]; decide) dX12_init_1172 (rz_wid (by decide) hk)) ?_
  refine rz_All_c (i := 543) (fun k J hk hJ => rz_putfF_ok (pc := 1174) (own := RX12) (ref := "ThreadJudgeModel") (C := RX12) (T := TX12) (N := 257) (ci := 14) (index := 423) (f := 199) (t := 2) (Ts := Cond.code yX12_init cX12_init 1 none :: rz_TB) hx hb hts rz_in14 tyX12 tyX12_ok nmX12 ho hK hA rfl (by decide) rfl (rz_UnR _ (Or.inr ⟨_, rfl⟩)) rfl (hmn.trans rfl) rfl (tyX12_ok 199 (by decide)) (hw (i := 81) (j := 2) rfl rfl) (fun _ z => z) dX12_init_1174 hk) ?_
  refine rz_All_c (i := 544) (fun k J hk hJ => rz_aload_n_ok (pc := 1177) hx hb dX12_init_1177 rfl hk) ?_
  refine rz_All_c (i := 545) (fun k J hk hJ => rz_sipush_ok (pc := 1178) hx hb dX12_init_1178 (by decide) hk) ?_
  refine rz_All_c (i := 546) (fun k J hk hJ => rz_newa_int_ok (pc := 1181) (nz0 := (134, 1298229)) (mx := 400) hx hb hK hA (hw (i := 57) (j := 7) rfl rfl) (by decide) (by rw [hRm]; decide) dX12_init_1181 (rz_wid (by decide) hk)) ?_
  refine rz_All_c (i := 547) (fun k J hk hJ => rz_putfF_ok (pc := 1183) (own := RX12) (ref := "ThreadJudgeModel") (C := RX12) (T := TX12) (N := 257) (ci := 14) (index := 426) (f := 200) (t := 2) (Ts := Cond.code yX12_init cX12_init 1 none :: rz_TB) hx hb hts rz_in14 tyX12 tyX12_ok nmX12 ho hK hA rfl (by decide) rfl (rz_UnR _ (Or.inr ⟨_, rfl⟩)) rfl (hmn.trans rfl) rfl (tyX12_ok 200 (by decide)) (hw (i := 81) (j := 3) rfl rfl) (fun _ z => z) dX12_init_1183 hk) ?_
  refine rz_All_c (i := 548) (fun k J hk hJ => rz_aload_n_ok (pc := 1186) hx hb dX12_init_1186 rfl hk) ?_
  refine rz_All_c (i := 549) (fun k J hk hJ => rz_sipush_ok (pc := 1187) hx hb dX12_init_1187 (by decide) hk) ?_
  refine rz_All_c (i := 550) (fun k J hk hJ => rz_newa_int_ok (pc := 1190) (nz0 := (135, 1298629)) (mx := 400) hx hb hK hA (hw (i := 57) (j := 7) rfl rfl) (by decide) (by rw [hRm]; decide) dX12_init_1190 (rz_wid (by decide) hk)) ?_
  refine rz_All_c (i := 551) (fun k J hk hJ => rz_putfF_ok (pc := 1192) (own := RX12) (ref := "ThreadJudgeModel") (C := RX12) (T := TX12) (N := 257) (ci := 14) (index := 429) (f := 201) (t := 2) (Ts := Cond.code yX12_init cX12_init 1 none :: rz_TB) hx hb hts rz_in14 tyX12 tyX12_ok nmX12 ho hK hA rfl (by decide) rfl (rz_UnR _ (Or.inr ⟨_, rfl⟩)) rfl (hmn.trans rfl) rfl (tyX12_ok 201 (by decide)) (hw (i := 81) (j := 4) rfl rfl) (fun _ z => z) dX12_init_1192 hk) ?_
  refine rz_All_c (i := 552) (fun k J hk hJ => rz_aload_n_ok (pc := 1195) hx hb dX12_init_1195 rfl hk) ?_
  refine rz_All_c (i := 553) (fun k J hk hJ => rz_sipush_ok (pc := 1196) hx hb dX12_init_1196 (by decide) hk) ?_
  refine rz_All_c (i := 554) (fun k J hk hJ => rz_newa_int_ok (pc := 1199) (nz0 := (136, 1299029)) (mx := 4800) hx hb hK hA (hw (i := 57) (j := 7) rfl rfl) (by decide) (by rw [hRm]; decide) dX12_init_1199 (rz_wid (by decide) hk)) ?_
  refine rz_All_c (i := 555) (fun k J hk hJ => rz_putfF_ok (pc := 1201) (own := RX12) (ref := "ThreadJudgeModel") (C := RX12) (T := TX12) (N := 257) (ci := 14) (index := 432) (f := 202) (t := 2) (Ts := Cond.code yX12_init cX12_init 1 none :: rz_TB) hx hb hts rz_in14 tyX12 tyX12_ok nmX12 ho hK hA rfl (by decide) rfl (rz_UnR _ (Or.inr ⟨_, rfl⟩)) rfl (hmn.trans rfl) rfl (tyX12_ok 202 (by decide)) (hw (i := 81) (j := 5) rfl rfl) (fun _ z => z) dX12_init_1201 hk) ?_
  refine rz_All_c (i := 556) (fun k J hk hJ => rz_aload_n_ok (pc := 1204) hx hb dX12_init_1204 rfl hk) ?_
  refine rz_All_c (i := 557) (fun k J hk hJ => rz_sipush_ok (pc := 1205) hx hb dX12_init_1205 (by decide) hk) ?_
  refine rz_All_c (i := 558) (fun k J hk hJ => rz_newa_int_ok (pc := 1208) (nz0 := (137, 1303829)) (mx := 16000) hx hb hK hA (hw (i := 57) (j := 7) rfl rfl) (by decide) (by rw [hRm]; decide) dX12_init_1208 (rz_wid (by decide) hk)) ?_
  refine rz_All_c (i := 559) (fun k J hk hJ => rz_putfF_ok (pc := 1210) (own := RX12) (ref := "ThreadJudgeModel") (C := RX12) (T := TX12) (N := 257) (ci := 14) (index := 435) (f := 203) (t := 2) (Ts := Cond.code yX12_init cX12_init 1 none :: rz_TB) hx hb hts rz_in14 tyX12 tyX12_ok nmX12 ho hK hA rfl (by decide) rfl (rz_UnR _ (Or.inr ⟨_, rfl⟩)) rfl (hmn.trans rfl) rfl (tyX12_ok 203 (by decide)) (hw (i := 81) (j := 6) rfl rfl) (fun _ z => z) dX12_init_1210 hk) ?_
  refine rz_All_c (i := 560) (fun k J hk hJ => rz_aload_n_ok (pc := 1213) hx hb dX12_init_1213 rfl hk) ?_
  refine rz_All_c (i := 561) (fun k J hk hJ => rz_bipush_ok (pc := 1214) hx hb dX12_init_1214 (by decide) hk) ?_
  refine rz_All_c (i := 562) (fun k J hk hJ => rz_newa_int_ok (pc := 1216) (nz0 := (138, 1319829)) (mx := 40) hx hb hK hA (hw (i := 57) (j := 7) rfl rfl) (by decide) (by rw [hRm]; decide) dX12_init_1216 (rz_wid (by decide) hk)) ?_
  refine rz_All_c (i := 563) (fun k J hk hJ => rz_putfF_ok (pc := 1218) (own := RX12) (ref := "ThreadJudgeModel") (C := RX12) (T := TX12) (N := 257) (ci := 14) (index := 438) (f := 204) (t := 2) (Ts := Cond.code yX12_init cX12_init 1 none :: rz_TB) hx hb hts rz_in14 tyX12 tyX12_ok nmX12 ho hK hA rfl (by decide) rfl (rz_UnR _ (Or.inr ⟨_, rfl⟩)) rfl (hmn.trans rfl) rfl (tyX12_ok 204 (by decide)) (hw (i := 81) (j := 7) rfl rfl) (fun _ z => z) dX12_init_1218 hk) ?_
  refine rz_All_c (i := 564) (fun k J hk hJ => rz_aload_n_ok (pc := 1221) hx hb dX12_init_1221 rfl hk) ?_
  refine rz_All_c (i := 565) (fun k J hk hJ => rz_sipush_ok (pc := 1222) hx hb dX12_init_1222 (by decide) hk) ?_
  refine rz_All_c (i := 566) (fun k J hk hJ => rz_newa_int_ok (pc := 1225) (nz0 := (139, 1319869)) (mx := 6400) hx hb hK hA (hw (i := 57) (j := 7) rfl rfl) (by decide) (by rw [hRm]; decide) dX12_init_1225 (rz_wid (by decide) hk)) ?_
  refine rz_All_c (i := 567) (fun k J hk hJ => rz_putfF_ok (pc := 1227) (own := RX12) (ref := "ThreadJudgeModel") (C := RX12) (T := TX12) (N := 257) (ci := 14) (index := 441) (f := 205) (t := 2) (Ts := Cond.code yX12_init cX12_init 1 none :: rz_TB) hx hb hts rz_in14 tyX12 tyX12_ok nmX12 ho hK hA rfl (by decide) rfl (rz_UnR _ (Or.inr ⟨_, rfl⟩)) rfl (hmn.trans rfl) rfl (tyX12_ok 205 (by decide)) (hw (i := 81) (j := 8) rfl rfl) (fun _ z => z) dX12_init_1227 hk) ?_
  refine rz_All_c (i := 568) (fun k J hk hJ => rz_aload_n_ok (pc := 1230) hx hb dX12_init_1230 rfl hk) ?_
  refine rz_All_c (i := 569) (fun k J hk hJ => rz_sipush_ok (pc := 1231) hx hb dX12_init_1231 (by decide) hk) ?_
  refine rz_All_c (i := 570) (fun k J hk hJ => rz_newa_int_ok (pc := 1234) (nz0 := (140, 1326269)) (mx := 2400) hx hb hK hA (hw (i := 57) (j := 7) rfl rfl) (by decide) (by rw [hRm]; decide) dX12_init_1234 (rz_wid (by decide) hk)) ?_
  refine rz_All_c (i := 571) (fun k J hk hJ => rz_putfF_ok (pc := 1236) (own := RX12) (ref := "ThreadJudgeModel") (C := RX12) (T := TX12) (N := 257) (ci := 14) (index := 444) (f := 206) (t := 2) (Ts := Cond.code yX12_init cX12_init 1 none :: rz_TB) hx hb hts rz_in14 tyX12 tyX12_ok nmX12 ho hK hA rfl (by decide) rfl (rz_UnR _ (Or.inr ⟨_, rfl⟩)) rfl (hmn.trans rfl) rfl (tyX12_ok 206 (by decide)) (hw (i := 81) (j := 9) rfl rfl) (fun _ z => z) dX12_init_1236 hk) ?_
  refine rz_All_c (i := 572) (fun k J hk hJ => rz_aload_n_ok (pc := 1239) hx hb dX12_init_1239 rfl hk) ?_
  refine rz_All_c (i := 573) (fun k J hk hJ => rz_sipush_ok (pc := 1240) hx hb dX12_init_1240 (by decide) hk) ?_
  refine rz_All_c (i := 574) (fun k J hk hJ => rz_newa_boolean_ok (pc := 1243) (nz0 := (141, 1328669)) (mx := 2400) hx hb hK hA (hw (i := 75) (j := 9) rfl rfl) (by decide) (by rw [hRm]; decide) dX12_init_1243 (rz_wid (by decide) hk)) ?_
  refine rz_All_c (i := 575) (fun k J hk hJ => rz_putfF_ok (pc := 1245) (own := RX12) (ref := "ThreadJudgeModel") (C := RX12) (T := TX12) (N := 257) (ci := 14) (index := 447) (f := 207) (t := 2) (Ts := Cond.code yX12_init cX12_init 1 none :: rz_TB) hx hb hts rz_in14 tyX12 tyX12_ok nmX12 ho hK hA rfl (by decide) rfl (rz_UnR _ (Or.inr ⟨_, rfl⟩)) rfl (hmn.trans rfl) rfl (tyX12_ok 207 (by decide)) (hw (i := 81) (j := 10) rfl rfl) (fun _ z => z) dX12_init_1245 hk) ?_
  refine rz_All_c (i := 576) (fun k J hk hJ => rz_aload_n_ok (pc := 1248) hx hb dX12_init_1248 rfl hk) ?_
  refine rz_All_c (i := 577) (fun k J hk hJ => rz_bipush_ok (pc := 1249) hx hb dX12_init_1249 (by decide) hk) ?_
  refine rz_All_c (i := 578) (fun k J hk hJ => rz_newa_boolean_ok (pc := 1251) (nz0 := (142, 1331069)) (mx := 12) hx hb hK hA (hw (i := 75) (j := 9) rfl rfl) (by decide) (by rw [hRm]; decide) dX12_init_1251 (rz_wid (by decide) hk)) ?_
  refine rz_All_c (i := 579) (fun k J hk hJ => rz_putfF_ok (pc := 1253) (own := RX12) (ref := "ThreadJudgeModel") (C := RX12) (T := TX12) (N := 257) (ci := 14) (index := 450) (f := 209) (t := 2) (Ts := Cond.code yX12_init cX12_init 1 none :: rz_TB) hx hb hts rz_in14 tyX12 tyX12_ok nmX12 ho hK hA rfl (by decide) rfl (rz_UnR _ (Or.inr ⟨_, rfl⟩)) rfl (hmn.trans rfl) rfl (tyX12_ok 209 (by decide)) (hw (i := 81) (j := 11) rfl rfl) (fun _ z => z) dX12_init_1253 hk) ?_
  refine rz_All_c (i := 580) (fun k J hk hJ => rz_aload_n_ok (pc := 1256) hx hb dX12_init_1256 rfl hk) ?_
  refine rz_All_c (i := 581) (fun k J hk hJ => rz_bipush_ok (pc := 1257) hx hb dX12_init_1257 (by decide) hk) ?_
  refine rz_All_c (i := 582) (fun k J hk hJ => rz_newa_int_ok (pc := 1259) (nz0 := (143, 1331081)) (mx := 12) hx hb hK hA (hw (i := 57) (j := 7) rfl rfl) (by decide) (by rw [hRm]; decide) dX12_init_1259 (rz_wid (by decide) hk)) ?_
  refine rz_All_c (i := 583) (fun k J hk hJ => rz_putfF_ok (pc := 1261) (own := RX12) (ref := "ThreadJudgeModel") (C := RX12) (T := TX12) (N := 257) (ci := 14) (index := 453) (f := 210) (t := 2) (Ts := Cond.code yX12_init cX12_init 1 none :: rz_TB) hx hb hts rz_in14 tyX12 tyX12_ok nmX12 ho hK hA rfl (by decide) rfl (rz_UnR _ (Or.inr ⟨_, rfl⟩)) rfl (hmn.trans rfl) rfl (tyX12_ok 210 (by decide)) (hw (i := 81) (j := 12) rfl rfl) (fun _ z => z) dX12_init_1261 hk) ?_
  refine rz_All_c (i := 584) (fun k J hk hJ => rz_aload_n_ok (pc := 1264) hx hb dX12_init_1264 rfl hk) ?_
  refine rz_All_c (i := 585) (fun k J hk hJ => rz_bipush_ok (pc := 1265) hx hb dX12_init_1265 (by decide) hk) ?_
  refine rz_All_c (i := 586) (fun k J hk hJ => rz_newa_boolean_ok (pc := 1267) (nz0 := (144, 1331093)) (mx := 12) hx hb hK hA (hw (i := 75) (j := 9) rfl rfl) (by decide) (by rw [hRm]; decide) dX12_init_1267 (rz_wid (by decide) hk)) ?_
  refine rz_All_c (i := 587) (fun k J hk hJ => rz_putfF_ok (pc := 1269) (own := RX12) (ref := "ThreadJudgeModel") (C := RX12) (T := TX12) (N := 257) (ci := 14) (index := 456) (f := 211) (t := 2) (Ts := Cond.code yX12_init cX12_init 1 none :: rz_TB) hx hb hts rz_in14 tyX12 tyX12_ok nmX12 ho hK hA rfl (by decide) rfl (rz_UnR _ (Or.inr ⟨_, rfl⟩)) rfl (hmn.trans rfl) rfl (tyX12_ok 211 (by decide)) (hw (i := 81) (j := 13) rfl rfl) (fun _ z => z) dX12_init_1269 hk) ?_
  refine rz_All_c (i := 588) (fun k J hk hJ => rz_aload_n_ok (pc := 1272) hx hb dX12_init_1272 rfl hk) ?_
  refine rz_All_c (i := 589) (fun k J hk hJ => rz_bipush_ok (pc := 1273) hx hb dX12_init_1273 (by decide) hk) ?_
  refine rz_All_c (i := 590) (fun k J hk hJ => rz_newa_int_ok (pc := 1275) (nz0 := (145, 1331105)) (mx := 12) hx hb hK hA (hw (i := 57) (j := 7) rfl rfl) (by decide) (by rw [hRm]; decide) dX12_init_1275 (rz_wid (by decide) hk)) ?_
  refine rz_All_c (i := 591) (fun k J hk hJ => rz_putfF_ok (pc := 1277) (own := RX12) (ref := "ThreadJudgeModel") (C := RX12) (T := TX12) (N := 257) (ci := 14) (index := 459) (f := 212) (t := 2) (Ts := Cond.code yX12_init cX12_init 1 none :: rz_TB) hx hb hts rz_in14 tyX12 tyX12_ok nmX12 ho hK hA rfl (by decide) rfl (rz_UnR _ (Or.inr ⟨_, rfl⟩)) rfl (hmn.trans rfl) rfl (tyX12_ok 212 (by decide)) (hw (i := 81) (j := 14) rfl rfl) (fun _ z => z) dX12_init_1277 hk) ?_
  refine rz_All_c (i := 592) (fun k J hk hJ => rz_aload_n_ok (pc := 1280) hx hb dX12_init_1280 rfl hk) ?_
  refine rz_All_c (i := 593) (fun k J hk hJ => rz_bipush_ok (pc := 1281) hx hb dX12_init_1281 (by decide) hk) ?_
  refine rz_All_c (i := 594) (fun k J hk hJ => rz_newa_int_ok (pc := 1283) (nz0 := (146, 1331117)) (mx := 12) hx hb hK hA (hw (i := 57) (j := 7) rfl rfl) (by decide) (by rw [hRm]; decide) dX12_init_1283 (rz_wid (by decide) hk)) ?_
  refine rz_All_c (i := 595) (fun k J hk hJ => rz_putfF_ok (pc := 1285) (own := RX12) (ref := "ThreadJudgeModel") (C := RX12) (T := TX12) (N := 257) (ci := 14) (index := 462) (f := 213) (t := 2) (Ts := Cond.code yX12_init cX12_init 1 none :: rz_TB) hx hb hts rz_in14 tyX12 tyX12_ok nmX12 ho hK hA rfl (by decide) rfl (rz_UnR _ (Or.inr ⟨_, rfl⟩)) rfl (hmn.trans rfl) rfl (tyX12_ok 213 (by decide)) (hw (i := 81) (j := 15) rfl rfl) (fun _ z => z) dX12_init_1285 hk) ?_
  refine rz_All_c (i := 596) (fun k J hk hJ => rz_aload_n_ok (pc := 1288) hx hb dX12_init_1288 rfl hk) ?_
  refine rz_All_c (i := 597) (fun k J hk hJ => rz_bipush_ok (pc := 1289) hx hb dX12_init_1289 (by decide) hk) ?_
  refine rz_All_c (i := 598) (fun k J hk hJ => rz_newa_int_ok (pc := 1291) (nz0 := (147, 1331129)) (mx := 12) hx hb hK hA (hw (i := 57) (j := 7) rfl rfl) (by decide) (by rw [hRm]; decide) dX12_init_1291 (rz_wid (by decide) hk)) ?_
  refine rz_All_c (i := 599) (fun k J hk hJ => rz_putfF_ok (pc := 1293) (own := RX12) (ref := "ThreadJudgeModel") (C := RX12) (T := TX12) (N := 257) (ci := 14) (index := 465) (f := 215) (t := 2) (Ts := Cond.code yX12_init cX12_init 1 none :: rz_TB) hx hb hts rz_in14 tyX12 tyX12_ok nmX12 ho hK hA rfl (by decide) rfl (rz_UnR _ (Or.inr ⟨_, rfl⟩)) rfl (hmn.trans rfl) rfl (tyX12_ok 215 (by decide)) (hw (i := 81) (j := 16) rfl rfl) (fun _ z => z) dX12_init_1293 hk) ?_
  refine rz_All_c (i := 600) (fun k J hk hJ => rz_aload_n_ok (pc := 1296) hx hb dX12_init_1296 rfl hk) ?_
  refine rz_All_c (i := 601) (fun k J hk hJ => rz_bipush_ok (pc := 1297) hx hb dX12_init_1297 (by decide) hk) ?_
  refine rz_All_c (i := 602) (fun k J hk hJ => rz_newa_int_ok (pc := 1299) (nz0 := (148, 1331141)) (mx := 12) hx hb hK hA (hw (i := 57) (j := 7) rfl rfl) (by decide) (by rw [hRm]; decide) dX12_init_1299 (rz_wid (by decide) hk)) ?_
  refine rz_All_c (i := 603) (fun k J hk hJ => rz_putfF_ok (pc := 1301) (own := RX12) (ref := "ThreadJudgeModel") (C := RX12) (T := TX12) (N := 257) (ci := 14) (index := 468) (f := 216) (t := 2) (Ts := Cond.code yX12_init cX12_init 1 none :: rz_TB) hx hb hts rz_in14 tyX12 tyX12_ok nmX12 ho hK hA rfl (by decide) rfl (rz_UnR _ (Or.inr ⟨_, rfl⟩)) rfl (hmn.trans rfl) rfl (tyX12_ok 216 (by decide)) (hw (i := 81) (j := 17) rfl rfl) (fun _ z => z) dX12_init_1301 hk) ?_
  refine rz_All_c (i := 604) (fun k J hk hJ => rz_aload_n_ok (pc := 1304) hx hb dX12_init_1304 rfl hk) ?_
  refine rz_All_c (i := 605) (fun k J hk hJ => rz_bipush_ok (pc := 1305) hx hb dX12_init_1305 (by decide) hk) ?_
  refine rz_All_c (i := 606) (fun k J hk hJ => rz_newa_int_ok (pc := 1307) (nz0 := (149, 1331153)) (mx := 12) hx hb hK hA (hw (i := 57) (j := 7) rfl rfl) (by decide) (by rw [hRm]; decide) dX12_init_1307 (rz_wid (by decide) hk)) ?_
  refine rz_All_c (i := 607) (fun k J hk hJ => rz_putfF_ok (pc := 1309) (own := RX12) (ref := "ThreadJudgeModel") (C := RX12) (T := TX12) (N := 257) (ci := 14) (index := 471) (f := 217) (t := 2) (Ts := Cond.code yX12_init cX12_init 1 none :: rz_TB) hx hb hts rz_in14 tyX12 tyX12_ok nmX12 ho hK hA rfl (by decide) rfl (rz_UnR _ (Or.inr ⟨_, rfl⟩)) rfl (hmn.trans rfl) rfl (tyX12_ok 217 (by decide)) (hw (i := 81) (j := 18) rfl rfl) (fun _ z => z) dX12_init_1309 hk) ?_
  refine rz_All_c (i := 608) (fun k J hk hJ => rz_aload_n_ok (pc := 1312) hx hb dX12_init_1312 rfl hk) ?_
  refine rz_All_c (i := 609) (fun k J hk hJ => rz_sipush_ok (pc := 1313) hx hb dX12_init_1313 (by decide) hk) ?_
  refine rz_All_c (i := 610) (fun k J hk hJ => rz_newa_int_ok (pc := 1316) (nz0 := (150, 1331165)) (mx := 144) hx hb hK hA (hw (i := 57) (j := 7) rfl rfl) (by decide) (by rw [hRm]; decide) dX12_init_1316 (rz_wid (by decide) hk)) ?_
  refine rz_All_c (i := 611) (fun k J hk hJ => rz_putfF_ok (pc := 1318) (own := RX12) (ref := "ThreadJudgeModel") (C := RX12) (T := TX12) (N := 257) (ci := 14) (index := 474) (f := 218) (t := 2) (Ts := Cond.code yX12_init cX12_init 1 none :: rz_TB) hx hb hts rz_in14 tyX12 tyX12_ok nmX12 ho hK hA rfl (by decide) rfl (rz_UnR _ (Or.inr ⟨_, rfl⟩)) rfl (hmn.trans rfl) rfl (tyX12_ok 218 (by decide)) (hw (i := 81) (j := 19) rfl rfl) (fun _ z => z) dX12_init_1318 hk) ?_
  refine rz_All_c (i := 612) (fun k J hk hJ => rz_aload_n_ok (pc := 1321) hx hb dX12_init_1321 rfl hk) ?_
  refine rz_All_c (i := 613) (fun k J hk hJ => rz_sipush_ok (pc := 1322) hx hb dX12_init_1322 (by decide) hk) ?_
  refine rz_All_c (i := 614) (fun k J hk hJ => rz_newa_int_ok (pc := 1325) (nz0 := (151, 1331309)) (mx := 360) hx hb hK hA (hw (i := 57) (j := 7) rfl rfl) (by decide) (by rw [hRm]; decide) dX12_init_1325 (rz_wid (by decide) hk)) ?_
  refine rz_All_c (i := 615) (fun k J hk hJ => rz_putfF_ok (pc := 1327) (own := RX12) (ref := "ThreadJudgeModel") (C := RX12) (T := TX12) (N := 257) (ci := 14) (index := 477) (f := 219) (t := 2) (Ts := Cond.code yX12_init cX12_init 1 none :: rz_TB) hx hb hts rz_in14 tyX12 tyX12_ok nmX12 ho hK hA rfl (by decide) rfl (rz_UnR _ (Or.inr ⟨_, rfl⟩)) rfl (hmn.trans rfl) rfl (tyX12_ok 219 (by decide)) (hw (i := 81) (j := 20) rfl rfl) (fun _ z => z) dX12_init_1327 hk) ?_
  refine rz_All_c (i := 616) (fun k J hk hJ => rz_aload_n_ok (pc := 1330) hx hb dX12_init_1330 rfl hk) ?_
  refine rz_All_c (i := 617) (fun k J hk hJ => rz_sipush_ok (pc := 1331) hx hb dX12_init_1331 (by decide) hk) ?_
  refine rz_All_c (i := 618) (fun k J hk hJ => rz_newa_int_ok (pc := 1334) (nz0 := (152, 1331669)) (mx := 360) hx hb hK hA (hw (i := 57) (j := 7) rfl rfl) (by decide) (by rw [hRm]; decide) dX12_init_1334 (rz_wid (by decide) hk)) ?_
  refine rz_All_c (i := 619) (fun k J hk hJ => rz_putfF_ok (pc := 1336) (own := RX12) (ref := "ThreadJudgeModel") (C := RX12) (T := TX12) (N := 257) (ci := 14) (index := 480) (f := 220) (t := 2) (Ts := Cond.code yX12_init cX12_init 1 none :: rz_TB) hx hb hts rz_in14 tyX12 tyX12_ok nmX12 ho hK hA rfl (by decide) rfl (rz_UnR _ (Or.inr ⟨_, rfl⟩)) rfl (hmn.trans rfl) rfl (tyX12_ok 220 (by decide)) (hw (i := 81) (j := 21) rfl rfl) (fun _ z => z) dX12_init_1336 hk) ?_
  refine rz_All_c (i := 620) (fun k J hk hJ => rz_aload_n_ok (pc := 1339) hx hb dX12_init_1339 rfl hk) ?_
  refine rz_All_c (i := 621) (fun k J hk hJ => rz_sipush_ok (pc := 1340) hx hb dX12_init_1340 (by decide) hk) ?_
  refine rz_All_c (i := 622) (fun k J hk hJ => rz_newa_int_ok (pc := 1343) (nz0 := (153, 1332029)) (mx := 360) hx hb hK hA (hw (i := 57) (j := 7) rfl rfl) (by decide) (by rw [hRm]; decide) dX12_init_1343 (rz_wid (by decide) hk)) ?_
  refine rz_All_c (i := 623) (fun k J hk hJ => rz_putfF_ok (pc := 1345) (own := RX12) (ref := "ThreadJudgeModel") (C := RX12) (T := TX12) (N := 257) (ci := 14) (index := 483) (f := 221) (t := 2) (Ts := Cond.code yX12_init cX12_init 1 none :: rz_TB) hx hb hts rz_in14 tyX12 tyX12_ok nmX12 ho hK hA rfl (by decide) rfl (rz_UnR _ (Or.inr ⟨_, rfl⟩)) rfl (hmn.trans rfl) rfl (tyX12_ok 221 (by decide)) (hw (i := 81) (j := 22) rfl rfl) (fun _ z => z) dX12_init_1345 hk) ?_
  refine rz_All_c (i := 624) (fun k J hk hJ => rz_aload_n_ok (pc := 1348) hx hb dX12_init_1348 rfl hk) ?_
  refine rz_All_c (i := 625) (fun k J hk hJ => rz_sipush_ok (pc := 1349) hx hb dX12_init_1349 (by decide) hk) ?_
  refine rz_All_c (i := 626) (fun k J hk hJ => rz_newa_int_ok (pc := 1352) (nz0 := (154, 1332389)) (mx := 360) hx hb hK hA (hw (i := 57) (j := 7) rfl rfl) (by decide) (by rw [hRm]; decide) dX12_init_1352 (rz_wid (by decide) hk)) ?_
  refine rz_All_c (i := 627) (fun k J hk hJ => rz_putfF_ok (pc := 1354) (own := RX12) (ref := "ThreadJudgeModel") (C := RX12) (T := TX12) (N := 257) (ci := 14) (index := 486) (f := 222) (t := 2) (Ts := Cond.code yX12_init cX12_init 1 none :: rz_TB) hx hb hts rz_in14 tyX12 tyX12_ok nmX12 ho hK hA rfl (by decide) rfl (rz_UnR _ (Or.inr ⟨_, rfl⟩)) rfl (hmn.trans rfl) rfl (tyX12_ok 222 (by decide)) (hw (i := 81) (j := 23) rfl rfl) (fun _ z => z) dX12_init_1354 hk) ?_
  refine rz_All_c (i := 628) (fun k J hk hJ => rz_aload_n_ok (pc := 1357) hx hb dX12_init_1357 rfl hk) ?_
  refine rz_All_c (i := 629) (fun k J hk hJ => rz_sipush_ok (pc := 1358) hx hb dX12_init_1358 (by decide) hk) ?_
  refine rz_All_c (i := 630) (fun k J hk hJ => rz_newa_int_ok (pc := 1361) (nz0 := (155, 1332749)) (mx := 360) hx hb hK hA (hw (i := 57) (j := 7) rfl rfl) (by decide) (by rw [hRm]; decide) dX12_init_1361 (rz_wid (by decide) hk)) ?_
  refine rz_All_c (i := 631) (fun k J hk hJ => rz_putfF_ok (pc := 1363) (own := RX12) (ref := "ThreadJudgeModel") (C := RX12) (T := TX12) (N := 257) (ci := 14) (index := 489) (f := 223) (t := 2) (Ts := Cond.code yX12_init cX12_init 1 none :: rz_TB) hx hb hts rz_in14 tyX12 tyX12_ok nmX12 ho hK hA rfl (by decide) rfl (rz_UnR _ (Or.inr ⟨_, rfl⟩)) rfl (hmn.trans rfl) rfl (tyX12_ok 223 (by decide)) (hw (i := 82) (j := 0) rfl rfl) (fun _ z => z) dX12_init_1363 hk) ?_
  refine rz_All_c (i := 632) (fun k J hk hJ => rz_aload_n_ok (pc := 1366) hx hb dX12_init_1366 rfl hk) ?_
  refine rz_All_c (i := 633) (fun k J hk hJ => rz_sipush_ok (pc := 1367) hx hb dX12_init_1367 (by decide) hk) ?_
  refine rz_All_c (i := 634) (fun k J hk hJ => rz_newa_int_ok (pc := 1370) (nz0 := (156, 1333109)) (mx := 360) hx hb hK hA (hw (i := 57) (j := 7) rfl rfl) (by decide) (by rw [hRm]; decide) dX12_init_1370 (rz_wid (by decide) hk)) ?_
  refine rz_All_c (i := 635) (fun k J hk hJ => rz_putfF_ok (pc := 1372) (own := RX12) (ref := "ThreadJudgeModel") (C := RX12) (T := TX12) (N := 257) (ci := 14) (index := 492) (f := 224) (t := 2) (Ts := Cond.code yX12_init cX12_init 1 none :: rz_TB) hx hb hts rz_in14 tyX12 tyX12_ok nmX12 ho hK hA rfl (by decide) rfl (rz_UnR _ (Or.inr ⟨_, rfl⟩)) rfl (hmn.trans rfl) rfl (tyX12_ok 224 (by decide)) (hw (i := 82) (j := 1) rfl rfl) (fun _ z => z) dX12_init_1372 hk) ?_
  refine rz_All_c (i := 636) (fun k J hk hJ => rz_aload_n_ok (pc := 1375) hx hb dX12_init_1375 rfl hk) ?_
  refine rz_All_c (i := 637) (fun k J hk hJ => rz_sipush_ok (pc := 1376) hx hb dX12_init_1376 (by decide) hk) ?_
  refine rz_All_c (i := 638) (fun k J hk hJ => rz_newa_int_ok (pc := 1379) (nz0 := (157, 1333469)) (mx := 360) hx hb hK hA (hw (i := 57) (j := 7) rfl rfl) (by decide) (by rw [hRm]; decide) dX12_init_1379 (rz_wid (by decide) hk)) ?_
  refine rz_All_c (i := 639) (fun k J hk hJ => rz_putfF_ok (pc := 1381) (own := RX12) (ref := "ThreadJudgeModel") (C := RX12) (T := TX12) (N := 257) (ci := 14) (index := 495) (f := 225) (t := 2) (Ts := Cond.code yX12_init cX12_init 1 none :: rz_TB) hx hb hts rz_in14 tyX12 tyX12_ok nmX12 ho hK hA rfl (by decide) rfl (rz_UnR _ (Or.inr ⟨_, rfl⟩)) rfl (hmn.trans rfl) rfl (tyX12_ok 225 (by decide)) (hw (i := 82) (j := 2) rfl rfl) (fun _ z => z) dX12_init_1381 hk) ?_
  refine rz_All_c (i := 640) (fun k J hk hJ => rz_aload_n_ok (pc := 1384) hx hb dX12_init_1384 rfl hk) ?_
  refine rz_All_c (i := 641) (fun k J hk hJ => rz_sipush_ok (pc := 1385) hx hb dX12_init_1385 (by decide) hk) ?_
  refine rz_All_c (i := 642) (fun k J hk hJ => rz_newa_boolean_ok (pc := 1388) (nz0 := (158, 1333829)) (mx := 360) hx hb hK hA (hw (i := 75) (j := 9) rfl rfl) (by decide) (by rw [hRm]; decide) dX12_init_1388 (rz_wid (by decide) hk)) ?_
  refine rz_All_c (i := 643) (fun k J hk hJ => rz_putfF_ok (pc := 1390) (own := RX12) (ref := "ThreadJudgeModel") (C := RX12) (T := TX12) (N := 257) (ci := 14) (index := 498) (f := 226) (t := 2) (Ts := Cond.code yX12_init cX12_init 1 none :: rz_TB) hx hb hts rz_in14 tyX12 tyX12_ok nmX12 ho hK hA rfl (by decide) rfl (rz_UnR _ (Or.inr ⟨_, rfl⟩)) rfl (hmn.trans rfl) rfl (tyX12_ok 226 (by decide)) (hw (i := 82) (j := 3) rfl rfl) (fun _ z => z) dX12_init_1390 hk) ?_
  refine rz_All_c (i := 644) (fun k J hk hJ => rz_aload_n_ok (pc := 1393) hx hb dX12_init_1393 rfl hk) ?_
  refine rz_All_c (i := 645) (fun k J hk hJ => rz_sipush_ok (pc := 1394) hx hb dX12_init_1394 (by decide) hk) ?_
  refine rz_All_c (i := 646) (fun k J hk hJ => rz_newa_int_ok (pc := 1397) (nz0 := (159, 1334189)) (mx := 360) hx hb hK hA (hw (i := 57) (j := 7) rfl rfl) (by decide) (by rw [hRm]; decide) dX12_init_1397 (rz_wid (by decide) hk)) ?_
  refine rz_All_c (i := 647) (fun k J hk hJ => rz_putfF_ok (pc := 1399) (own := RX12) (ref := "ThreadJudgeModel") (C := RX12) (T := TX12) (N := 257) (ci := 14) (index := 501) (f := 227) (t := 2) (Ts := Cond.code yX12_init cX12_init 1 none :: rz_TB) hx hb hts rz_in14 tyX12 tyX12_ok nmX12 ho hK hA rfl (by decide) rfl (rz_UnR _ (Or.inr ⟨_, rfl⟩)) rfl (hmn.trans rfl) rfl (tyX12_ok 227 (by decide)) (hw (i := 82) (j := 4) rfl rfl) (fun _ z => z) dX12_init_1399 hk) ?_
  refine rz_All_c (i := 648) (fun k J hk hJ => rz_aload_n_ok (pc := 1402) hx hb dX12_init_1402 rfl hk) ?_
  refine rz_All_c (i := 649) (fun k J hk hJ => rz_sipush_ok (pc := 1403) hx hb dX12_init_1403 (by decide) hk) ?_
  refine rz_All_c (i := 650) (fun k J hk hJ => rz_newa_boolean_ok (pc := 1406) (nz0 := (160, 1334549)) (mx := 360) hx hb hK hA (hw (i := 75) (j := 9) rfl rfl) (by decide) (by rw [hRm]; decide) dX12_init_1406 (rz_wid (by decide) hk)) ?_
  refine rz_All_c (i := 651) (fun k J hk hJ => rz_putfF_ok (pc := 1408) (own := RX12) (ref := "ThreadJudgeModel") (C := RX12) (T := TX12) (N := 257) (ci := 14) (index := 504) (f := 228) (t := 2) (Ts := Cond.code yX12_init cX12_init 1 none :: rz_TB) hx hb hts rz_in14 tyX12 tyX12_ok nmX12 ho hK hA rfl (by decide) rfl (rz_UnR _ (Or.inr ⟨_, rfl⟩)) rfl (hmn.trans rfl) rfl (tyX12_ok 228 (by decide)) (hw (i := 82) (j := 5) rfl rfl) (fun _ z => z) dX12_init_1408 hk) ?_
  refine rz_All_c (i := 652) (fun k J hk hJ => rz_aload_n_ok (pc := 1411) hx hb dX12_init_1411 rfl hk) ?_
  refine rz_All_c (i := 653) (fun k J hk hJ => rz_sipush_ok (pc := 1412) hx hb dX12_init_1412 (by decide) hk) ?_
  refine rz_All_c (i := 654) (fun k J hk hJ => rz_newa_int_ok (pc := 1415) (nz0 := (161, 1334909)) (mx := 360) hx hb hK hA (hw (i := 57) (j := 7) rfl rfl) (by decide) (by rw [hRm]; decide) dX12_init_1415 (rz_wid (by decide) hk)) ?_
  refine rz_All_c (i := 655) (fun k J hk hJ => rz_putfF_ok (pc := 1417) (own := RX12) (ref := "ThreadJudgeModel") (C := RX12) (T := TX12) (N := 257) (ci := 14) (index := 507) (f := 229) (t := 2) (Ts := Cond.code yX12_init cX12_init 1 none :: rz_TB) hx hb hts rz_in14 tyX12 tyX12_ok nmX12 ho hK hA rfl (by decide) rfl (rz_UnR _ (Or.inr ⟨_, rfl⟩)) rfl (hmn.trans rfl) rfl (tyX12_ok 229 (by decide)) (hw (i := 82) (j := 6) rfl rfl) (fun _ z => z) dX12_init_1417 hk) ?_
  refine rz_All_c (i := 656) (fun k J hk hJ => rz_aload_n_ok (pc := 1420) hx hb dX12_init_1420 rfl hk) ?_
  refine rz_All_c (i := 657) (fun k J hk hJ => rz_sipush_ok (pc := 1421) hx hb dX12_init_1421 (by decide) hk) ?_
  refine rz_All_c (i := 658) (fun k J hk hJ => rz_newa_int_ok (pc := 1424) (nz0 := (162, 1335269)) (mx := 2160) hx hb hK hA (hw (i := 57) (j := 7) rfl rfl) (by decide) (by rw [hRm]; decide) dX12_init_1424 (rz_wid (by decide) hk)) ?_
  refine rz_All_c (i := 659) (fun k J hk hJ => rz_putfF_ok (pc := 1426) (own := RX12) (ref := "ThreadJudgeModel") (C := RX12) (T := TX12) (N := 257) (ci := 14) (index := 510) (f := 230) (t := 2) (Ts := Cond.code yX12_init cX12_init 1 none :: rz_TB) hx hb hts rz_in14 tyX12 tyX12_ok nmX12 ho hK hA rfl (by decide) rfl (rz_UnR _ (Or.inr ⟨_, rfl⟩)) rfl (hmn.trans rfl) rfl (tyX12_ok 230 (by decide)) (hw (i := 82) (j := 7) rfl rfl) (fun _ z => z) dX12_init_1426 hk) ?_
  refine rz_All_c (i := 660) (fun k J hk hJ => rz_aload_n_ok (pc := 1429) hx hb dX12_init_1429 rfl hk) ?_
  refine rz_All_c (i := 661) (fun k J hk hJ => rz_sipush_ok (pc := 1430) hx hb dX12_init_1430 (by decide) hk) ?_
  refine rz_All_c (i := 662) (fun k J hk hJ => rz_newa_int_ok (pc := 1433) (nz0 := (163, 1337429)) (mx := 6480) hx hb hK hA (hw (i := 57) (j := 7) rfl rfl) (by decide) (by rw [hRm]; decide) dX12_init_1433 (rz_wid (by decide) hk)) ?_
  refine rz_All_c (i := 663) (fun k J hk hJ => rz_putfF_ok (pc := 1435) (own := RX12) (ref := "ThreadJudgeModel") (C := RX12) (T := TX12) (N := 257) (ci := 14) (index := 513) (f := 231) (t := 2) (Ts := Cond.code yX12_init cX12_init 1 none :: rz_TB) hx hb hts rz_in14 tyX12 tyX12_ok nmX12 ho hK hA rfl (by decide) rfl (rz_UnR _ (Or.inr ⟨_, rfl⟩)) rfl (hmn.trans rfl) rfl (tyX12_ok 231 (by decide)) (hw (i := 82) (j := 8) rfl rfl) (fun _ z => z) dX12_init_1435 hk) ?_
  refine rz_All_c (i := 664) (fun k J hk hJ => rz_aload_n_ok (pc := 1438) hx hb dX12_init_1438 rfl hk) ?_
  refine rz_All_c (i := 665) (fun k J hk hJ => rz_sipush_ok (pc := 1439) hx hb dX12_init_1439 (by decide) hk) ?_
  refine rz_All_c (i := 666) (fun k J hk hJ => rz_newa_int_ok (pc := 1442) (nz0 := (164, 1343909)) (mx := 6480) hx hb hK hA (hw (i := 57) (j := 7) rfl rfl) (by decide) (by rw [hRm]; decide) dX12_init_1442 (rz_wid (by decide) hk)) ?_
  refine rz_All_c (i := 667) (fun k J hk hJ => rz_putfF_ok (pc := 1444) (own := RX12) (ref := "ThreadJudgeModel") (C := RX12) (T := TX12) (N := 257) (ci := 14) (index := 516) (f := 232) (t := 2) (Ts := Cond.code yX12_init cX12_init 1 none :: rz_TB) hx hb hts rz_in14 tyX12 tyX12_ok nmX12 ho hK hA rfl (by decide) rfl (rz_UnR _ (Or.inr ⟨_, rfl⟩)) rfl (hmn.trans rfl) rfl (tyX12_ok 232 (by decide)) (hw (i := 82) (j := 9) rfl rfl) (fun _ z => z) dX12_init_1444 hk) ?_
  refine rz_All_c (i := 668) (fun k J hk hJ => rz_aload_n_ok (pc := 1447) hx hb dX12_init_1447 rfl hk) ?_
  refine rz_All_c (i := 669) (fun k J hk hJ => rz_bipush_ok (pc := 1448) hx hb dX12_init_1448 (by decide) hk) ?_
  refine rz_All_c (i := 670) (fun k J hk hJ => rz_newa_int_ok (pc := 1450) (nz0 := (165, 1350389)) (mx := 43) hx hb hK hA (hw (i := 57) (j := 7) rfl rfl) (by decide) (by rw [hRm]; decide) dX12_init_1450 (rz_wid (by decide) hk)) ?_
  refine rz_All_c (i := 671) (fun k J hk hJ => rz_putfF_ok (pc := 1452) (own := RX12) (ref := "ThreadJudgeModel") (C := RX12) (T := TX12) (N := 257) (ci := 14) (index := 519) (f := 233) (t := 2) (Ts := Cond.code yX12_init cX12_init 1 none :: rz_TB) hx hb hts rz_in14 tyX12 tyX12_ok nmX12 ho hK hA rfl (by decide) rfl (rz_UnR _ (Or.inr ⟨_, rfl⟩)) rfl (hmn.trans rfl) rfl (tyX12_ok 233 (by decide)) (hw (i := 82) (j := 10) rfl rfl) (fun _ z => z) dX12_init_1452 hk) ?_
  refine rz_All_c (i := 672) (fun k J hk hJ => rz_aload_n_ok (pc := 1455) hx hb dX12_init_1455 rfl hk) ?_
  refine rz_All_c (i := 673) (fun k J hk hJ => rz_bipush_ok (pc := 1456) hx hb dX12_init_1456 (by decide) hk) ?_
  refine rz_All_c (i := 674) (fun k J hk hJ => rz_newa_int_ok (pc := 1458) (nz0 := (166, 1350432)) (mx := 43) hx hb hK hA (hw (i := 57) (j := 7) rfl rfl) (by decide) (by rw [hRm]; decide) dX12_init_1458 (rz_wid (by decide) hk)) ?_
  refine rz_All_c (i := 675) (fun k J hk hJ => rz_putfF_ok (pc := 1460) (own := RX12) (ref := "ThreadJudgeModel") (C := RX12) (T := TX12) (N := 257) (ci := 14) (index := 522) (f := 234) (t := 2) (Ts := Cond.code yX12_init cX12_init 1 none :: rz_TB) hx hb hts rz_in14 tyX12 tyX12_ok nmX12 ho hK hA rfl (by decide) rfl (rz_UnR _ (Or.inr ⟨_, rfl⟩)) rfl (hmn.trans rfl) rfl (tyX12_ok 234 (by decide)) (hw (i := 82) (j := 11) rfl rfl) (fun _ z => z) dX12_init_1460 hk) ?_
  refine rz_All_c (i := 676) (fun k J hk hJ => rz_aload_n_ok (pc := 1463) hx hb dX12_init_1463 rfl hk) ?_
  refine rz_All_c (i := 677) (fun k J hk hJ => rz_sipush_ok (pc := 1464) hx hb dX12_init_1464 (by decide) hk) ?_
  refine rz_All_c (i := 678) (fun k J hk hJ => rz_newa_int_ok (pc := 1467) (nz0 := (167, 1350475)) (mx := 516) hx hb hK hA (hw (i := 57) (j := 7) rfl rfl) (by decide) (by rw [hRm]; decide) dX12_init_1467 (rz_wid (by decide) hk)) ?_
  refine rz_All_c (i := 679) (fun k J hk hJ => rz_putfF_ok (pc := 1469) (own := RX12) (ref := "ThreadJudgeModel") (C := RX12) (T := TX12) (N := 257) (ci := 14) (index := 525) (f := 235) (t := 2) (Ts := Cond.code yX12_init cX12_init 1 none :: rz_TB) hx hb hts rz_in14 tyX12 tyX12_ok nmX12 ho hK hA rfl (by decide) rfl (rz_UnR _ (Or.inr ⟨_, rfl⟩)) rfl (hmn.trans rfl) rfl (tyX12_ok 235 (by decide)) (hw (i := 82) (j := 12) rfl rfl) (fun _ z => z) dX12_init_1469 hk) ?_
  refine rz_All_c (i := 680) (fun k J hk hJ => rz_aload_n_ok (pc := 1472) hx hb dX12_init_1472 rfl hk) ?_
  refine rz_All_c (i := 681) (fun k J hk hJ => rz_ldcw_ok (pc := 1473) hx hb (own := RX12) ho (hw (i := 82) (j := 13) rfl rfl) dX12_init_1473 hk) ?_
  refine rz_All_c (i := 682) (fun k J hk hJ => rz_newa_int_ok (pc := 1476) (nz0 := (168, 1350991)) (mx := 192480) hx hb hK hA (hw (i := 57) (j := 7) rfl rfl) (by decide) (by rw [hRm]; decide) dX12_init_1476 (rz_wid (by decide) hk)) ?_
  refine rz_All_c (i := 683) (fun k J hk hJ => rz_putfF_ok (pc := 1478) (own := RX12) (ref := "ThreadJudgeModel") (C := RX12) (T := TX12) (N := 257) (ci := 14) (index := 529) (f := 237) (t := 2) (Ts := Cond.code yX12_init cX12_init 1 none :: rz_TB) hx hb hts rz_in14 tyX12 tyX12_ok nmX12 ho hK hA rfl (by decide) rfl (rz_UnR _ (Or.inr ⟨_, rfl⟩)) rfl (hmn.trans rfl) rfl (tyX12_ok 237 (by decide)) (hw (i := 82) (j := 14) rfl rfl) (fun _ z => z) dX12_init_1478 hk) ?_
  refine rz_All_c (i := 684) (fun k J hk hJ => rz_aload_n_ok (pc := 1481) hx hb dX12_init_1481 rfl hk) ?_
  refine rz_All_c (i := 685) (fun k J hk hJ => rz_ldcw_ok (pc := 1482) hx hb (own := RX12) ho (hw (i := 82) (j := 15) rfl rfl) dX12_init_1482 hk) ?_
  refine rz_All_c (i := 686) (fun k J hk hJ => rz_newa_int_ok (pc := 1485) (nz0 := (169, 1543471)) (mx := 269280) hx hb hK hA (hw (i := 57) (j := 7) rfl rfl) (by decide) (by rw [hRm]; decide) dX12_init_1485 (rz_wid (by decide) hk)) ?_
  refine rz_All_c (i := 687) (fun k J hk hJ => rz_putfF_ok (pc := 1487) (own := RX12) (ref := "ThreadJudgeModel") (C := RX12) (T := TX12) (N := 257) (ci := 14) (index := 533) (f := 238) (t := 2) (Ts := Cond.code yX12_init cX12_init 1 none :: rz_TB) hx hb hts rz_in14 tyX12 tyX12_ok nmX12 ho hK hA rfl (by decide) rfl (rz_UnR _ (Or.inr ⟨_, rfl⟩)) rfl (hmn.trans rfl) rfl (tyX12_ok 238 (by decide)) (hw (i := 82) (j := 16) rfl rfl) (fun _ z => z) dX12_init_1487 hk) ?_
  refine rz_All_c (i := 688) (fun k J hk hJ => rz_aload_n_ok (pc := 1490) hx hb dX12_init_1490 rfl hk) ?_
  refine rz_All_c (i := 689) (fun k J hk hJ => rz_ldcw_ok (pc := 1491) hx hb (own := RX12) ho (hw (i := 82) (j := 15) rfl rfl) dX12_init_1491 hk) ?_
  refine rz_All_c (i := 690) (fun k J hk hJ => rz_newa_int_ok (pc := 1494) (nz0 := (170, 1812751)) (mx := 269280) hx hb hK hA (hw (i := 57) (j := 7) rfl rfl) (by decide) (by rw [hRm]; decide) dX12_init_1494 (rz_wid (by decide) hk)) ?_
  refine rz_All_c (i := 691) (fun k J hk hJ => rz_putfF_ok (pc := 1496) (own := RX12) (ref := "ThreadJudgeModel") (C := RX12) (T := TX12) (N := 257) (ci := 14) (index := 536) (f := 239) (t := 2) (Ts := Cond.code yX12_init cX12_init 1 none :: rz_TB) hx hb hts rz_in14 tyX12 tyX12_ok nmX12 ho hK hA rfl (by decide) rfl (rz_UnR _ (Or.inr ⟨_, rfl⟩)) rfl (hmn.trans rfl) rfl (tyX12_ok 239 (by decide)) (hw (i := 82) (j := 17) rfl rfl) (fun _ z => z) dX12_init_1496 hk) ?_
  refine rz_All_c (i := 692) (fun k J hk hJ => rz_aload_n_ok (pc := 1499) hx hb dX12_init_1499 rfl hk) ?_
  refine rz_All_c (i := 693) (fun k J hk hJ => rz_ldcw_ok (pc := 1500) hx hb (own := RX12) ho (hw (i := 82) (j := 15) rfl rfl) dX12_init_1500 hk) ?_
  refine rz_All_c (i := 694) (fun k J hk hJ => rz_newa_int_ok (pc := 1503) (nz0 := (171, 2082031)) (mx := 269280) hx hb hK hA (hw (i := 57) (j := 7) rfl rfl) (by decide) (by rw [hRm]; decide) dX12_init_1503 (rz_wid (by decide) hk)) ?_
  refine rz_All_c (i := 695) (fun k J hk hJ => rz_putfF_ok (pc := 1505) (own := RX12) (ref := "ThreadJudgeModel") (C := RX12) (T := TX12) (N := 257) (ci := 14) (index := 539) (f := 240) (t := 2) (Ts := Cond.code yX12_init cX12_init 1 none :: rz_TB) hx hb hts rz_in14 tyX12 tyX12_ok nmX12 ho hK hA rfl (by decide) rfl (rz_UnR _ (Or.inr ⟨_, rfl⟩)) rfl (hmn.trans rfl) rfl (tyX12_ok 240 (by decide)) (hw (i := 82) (j := 18) rfl rfl) (fun _ z => z) dX12_init_1505 hk) ?_
  refine rz_All_c (i := 696) (fun k J hk hJ => rz_aload_n_ok (pc := 1508) hx hb dX12_init_1508 rfl hk) ?_
  refine rz_All_c (i := 697) (fun k J hk hJ => rz_ldcw_ok (pc := 1509) hx hb (own := RX12) ho (hw (i := 82) (j := 15) rfl rfl) dX12_init_1509 hk) ?_
  refine rz_All_c (i := 698) (fun k J hk hJ => rz_newa_int_ok (pc := 1512) (nz0 := (172, 2351311)) (mx := 269280) hx hb hK hA (hw (i := 57) (j := 7) rfl rfl) (by decide) (by rw [hRm]; decide) dX12_init_1512 (rz_wid (by decide) hk)) ?_
  refine rz_All_c (i := 699) (fun k J hk hJ => rz_putfF_ok (pc := 1514) (own := RX12) (ref := "ThreadJudgeModel") (C := RX12) (T := TX12) (N := 257) (ci := 14) (index := 542) (f := 241) (t := 2) (Ts := Cond.code yX12_init cX12_init 1 none :: rz_TB) hx hb hts rz_in14 tyX12 tyX12_ok nmX12 ho hK hA rfl (by decide) rfl (rz_UnR _ (Or.inr ⟨_, rfl⟩)) rfl (hmn.trans rfl) rfl (tyX12_ok 241 (by decide)) (hw (i := 82) (j := 19) rfl rfl) (fun _ z => z) dX12_init_1514 hk) ?_
  refine rz_All_c (i := 700) (fun k J hk hJ => rz_aload_n_ok (pc := 1517) hx hb dX12_init_1517 rfl hk) ?_
  refine rz_All_c (i := 701) (fun k J hk hJ => rz_sipush_ok (pc := 1518) hx hb dX12_init_1518 (by decide) hk) ?_
  refine rz_All_c (i := 702) (fun k J hk hJ => rz_newa_int_ok (pc := 1521) (nz0 := (173, 2620591)) (mx := 1000) hx hb hK hA (hw (i := 57) (j := 7) rfl rfl) (by decide) (by rw [hRm]; decide) dX12_init_1521 (rz_wid (by decide) hk)) ?_
  refine rz_All_c (i := 703) (fun k J hk hJ => rz_putfF_ok (pc := 1523) (own := RX12) (ref := "ThreadJudgeModel") (C := RX12) (T := TX12) (N := 257) (ci := 14) (index := 545) (f := 243) (t := 2) (Ts := Cond.code yX12_init cX12_init 1 none :: rz_TB) hx hb hts rz_in14 tyX12 tyX12_ok nmX12 ho hK hA rfl (by decide) rfl (rz_UnR _ (Or.inr ⟨_, rfl⟩)) rfl (hmn.trans rfl) rfl (tyX12_ok 243 (by decide)) (hw (i := 82) (j := 20) rfl rfl) (fun _ z => z) dX12_init_1523 hk) ?_
  refine rz_All_c (i := 704) (fun k J hk hJ => rz_aload_n_ok (pc := 1526) hx hb dX12_init_1526 rfl hk) ?_
  refine rz_All_c (i := 705) (fun k J hk hJ => rz_sipush_ok (pc := 1527) hx hb dX12_init_1527 (by decide) hk) ?_
  refine rz_All_c (i := 706) (fun k J hk hJ => rz_newa_long_ok (pc := 1530) (nz0 := (174, 2621591)) (mx := 16224) hx hb hK hA (hw (i := 57) (j := 10) rfl rfl) (by decide) (by rw [hRm]; decide) dX12_init_1530 (rz_wid (by decide) hk)) ?_
  refine rz_All_c (i := 707) (fun k J hk hJ => rz_putfF_ok (pc := 1532) (own := RX12) (ref := "ThreadJudgeModel") (C := RX12) (T := TX12) (N := 257) (ci := 14) (index := 548) (f := 244) (t := 2) (Ts := Cond.code yX12_init cX12_init 1 none :: rz_TB) hx hb hts rz_in14 tyX12 tyX12_ok nmX12 ho hK hA rfl (by decide) rfl (rz_UnR _ (Or.inr ⟨_, rfl⟩)) rfl (hmn.trans rfl) rfl (tyX12_ok 244 (by decide)) (hw (i := 82) (j := 21) rfl rfl) (fun _ z => z) dX12_init_1532 hk) ?_
  refine rz_All_c (i := 708) (fun k J hk hJ => rz_aload_n_ok (pc := 1535) hx hb dX12_init_1535 rfl hk) ?_
  refine rz_All_c (i := 709) (fun k J hk hJ => rz_sipush_ok (pc := 1536) hx hb dX12_init_1536 (by decide) hk) ?_
  refine rz_All_c (i := 710) (fun k J hk hJ => rz_newa_int_ok (pc := 1539) (nz0 := (175, 2637815)) (mx := 200) hx hb hK hA (hw (i := 57) (j := 7) rfl rfl) (by decide) (by rw [hRm]; decide) dX12_init_1539 (rz_wid (by decide) hk)) ?_
  refine rz_All_c (i := 711) (fun k J hk hJ => rz_putfF_ok (pc := 1541) (own := RX12) (ref := "ThreadJudgeModel") (C := RX12) (T := TX12) (N := 257) (ci := 14) (index := 551) (f := 245) (t := 2) (Ts := Cond.code yX12_init cX12_init 1 none :: rz_TB) hx hb hts rz_in14 tyX12 tyX12_ok nmX12 ho hK hA rfl (by decide) rfl (rz_UnR _ (Or.inr ⟨_, rfl⟩)) rfl (hmn.trans rfl) rfl (tyX12_ok 245 (by decide)) (hw (i := 82) (j := 22) rfl rfl) (fun _ z => z) dX12_init_1541 hk) ?_
  refine rz_All_c (i := 712) (fun k J hk hJ => rz_aload_n_ok (pc := 1544) hx hb dX12_init_1544 rfl hk) ?_
  refine rz_All_c (i := 713) (fun k J hk hJ => rz_sipush_ok (pc := 1545) hx hb dX12_init_1545 (by decide) hk) ?_
  refine rz_All_c (i := 714) (fun k J hk hJ => rz_newa_int_ok (pc := 1548) (nz0 := (176, 2638015)) (mx := 400) hx hb hK hA (hw (i := 57) (j := 7) rfl rfl) (by decide) (by rw [hRm]; decide) dX12_init_1548 (rz_wid (by decide) hk)) ?_
  refine rz_All_c (i := 715) (fun k J hk hJ => rz_putfF_ok (pc := 1550) (own := RX12) (ref := "ThreadJudgeModel") (C := RX12) (T := TX12) (N := 257) (ci := 14) (index := 554) (f := 247) (t := 2) (Ts := Cond.code yX12_init cX12_init 1 none :: rz_TB) hx hb hts rz_in14 tyX12 tyX12_ok nmX12 ho hK hA rfl (by decide) rfl (rz_UnR _ (Or.inr ⟨_, rfl⟩)) rfl (hmn.trans rfl) rfl (tyX12_ok 247 (by decide)) (hw (i := 82) (j := 23) rfl rfl) (fun _ z => z) dX12_init_1550 hk) ?_
  refine rz_All_c (i := 716) (fun k J hk hJ => rz_aload_n_ok (pc := 1553) hx hb dX12_init_1553 rfl hk) ?_
  refine rz_All_c (i := 717) (fun k J hk hJ => rz_sipush_ok (pc := 1554) hx hb dX12_init_1554 (by decide) hk) ?_
  refine rz_All_c (i := 718) (fun k J hk hJ => rz_newa_int_ok (pc := 1557) (nz0 := (177, 2638415)) (mx := 400) hx hb hK hA (hw (i := 57) (j := 7) rfl rfl) (by decide) (by rw [hRm]; decide) dX12_init_1557 (rz_wid (by decide) hk)) ?_
  refine rz_All_c (i := 719) (fun k J hk hJ => rz_putfF_ok (pc := 1559) (own := RX12) (ref := "ThreadJudgeModel") (C := RX12) (T := TX12) (N := 257) (ci := 14) (index := 557) (f := 248) (t := 2) (Ts := Cond.code yX12_init cX12_init 1 none :: rz_TB) hx hb hts rz_in14 tyX12 tyX12_ok nmX12 ho hK hA rfl (by decide) rfl (rz_UnR _ (Or.inr ⟨_, rfl⟩)) rfl (hmn.trans rfl) rfl (tyX12_ok 248 (by decide)) (hw (i := 83) (j := 0) rfl rfl) (fun _ z => z) dX12_init_1559 hk) ?_
  refine rz_All_c (i := 720) (fun k J hk hJ => rz_aload_n_ok (pc := 1562) hx hb dX12_init_1562 rfl hk) ?_
  refine rz_All_c (i := 721) (fun k J hk hJ => rz_sipush_ok (pc := 1563) hx hb dX12_init_1563 (by decide) hk) ?_
  refine rz_All_c (i := 722) (fun k J hk hJ => rz_newa_int_ok (pc := 1566) (nz0 := (178, 2638815)) (mx := 400) hx hb hK hA (hw (i := 57) (j := 7) rfl rfl) (by decide) (by rw [hRm]; decide) dX12_init_1566 (rz_wid (by decide) hk)) ?_
  refine rz_All_c (i := 723) (fun k J hk hJ => rz_putfF_ok (pc := 1568) (own := RX12) (ref := "ThreadJudgeModel") (C := RX12) (T := TX12) (N := 257) (ci := 14) (index := 560) (f := 249) (t := 2) (Ts := Cond.code yX12_init cX12_init 1 none :: rz_TB) hx hb hts rz_in14 tyX12 tyX12_ok nmX12 ho hK hA rfl (by decide) rfl (rz_UnR _ (Or.inr ⟨_, rfl⟩)) rfl (hmn.trans rfl) rfl (tyX12_ok 249 (by decide)) (hw (i := 83) (j := 1) rfl rfl) (fun _ z => z) dX12_init_1568 hk) ?_
  refine rz_All_c (i := 724) (fun k J hk hJ => rz_aload_n_ok (pc := 1571) hx hb dX12_init_1571 rfl hk) ?_
  refine rz_All_c (i := 725) (fun k J hk hJ => rz_sipush_ok (pc := 1572) hx hb dX12_init_1572 (by decide) hk) ?_
  refine rz_All_c (i := 726) (fun k J hk hJ => rz_newa_int_ok (pc := 1575) (nz0 := (179, 2639215)) (mx := 4800) hx hb hK hA (hw (i := 57) (j := 7) rfl rfl) (by decide) (by rw [hRm]; decide) dX12_init_1575 (rz_wid (by decide) hk)) ?_
  refine rz_All_c (i := 727) (fun k J hk hJ => rz_putfF_ok (pc := 1577) (own := RX12) (ref := "ThreadJudgeModel") (C := RX12) (T := TX12) (N := 257) (ci := 14) (index := 563) (f := 250) (t := 2) (Ts := Cond.code yX12_init cX12_init 1 none :: rz_TB) hx hb hts rz_in14 tyX12 tyX12_ok nmX12 ho hK hA rfl (by decide) rfl (rz_UnR _ (Or.inr ⟨_, rfl⟩)) rfl (hmn.trans rfl) rfl (tyX12_ok 250 (by decide)) (hw (i := 83) (j := 2) rfl rfl) (fun _ z => z) dX12_init_1577 hk) ?_
  refine rz_All_c (i := 728) (fun k J hk hJ => rz_aload_n_ok (pc := 1580) hx hb dX12_init_1580 rfl hk) ?_
  refine rz_All_c (i := 729) (fun k J hk hJ => rz_sipush_ok (pc := 1581) hx hb dX12_init_1581 (by decide) hk) ?_
  refine rz_All_c (i := 730) (fun k J hk hJ => rz_newa_int_ok (pc := 1584) (nz0 := (180, 2644015)) (mx := 144) hx hb hK hA (hw (i := 57) (j := 7) rfl rfl) (by decide) (by rw [hRm]; decide) dX12_init_1584 (rz_wid (by decide) hk)) ?_
  refine rz_All_c (i := 731) (fun k J hk hJ => rz_putfF_ok (pc := 1586) (own := RX12) (ref := "ThreadJudgeModel") (C := RX12) (T := TX12) (N := 257) (ci := 14) (index := 566) (f := 254) (t := 2) (Ts := Cond.code yX12_init cX12_init 1 none :: rz_TB) hx hb hts rz_in14 tyX12 tyX12_ok nmX12 ho hK hA rfl (by decide) rfl (rz_UnR _ (Or.inr ⟨_, rfl⟩)) rfl (hmn.trans rfl) rfl (tyX12_ok 254 (by decide)) (hw (i := 83) (j := 3) rfl rfl) (fun _ z => z) dX12_init_1586 hk) ?_
  refine rz_All_c (i := 732) (fun k J hk hJ => rz_aload_n_ok (pc := 1589) hx hb dX12_init_1589 rfl hk) ?_
  refine rz_All_c (i := 733) (fun k J hk hJ => rz_bipush_ok (pc := 1590) hx hb dX12_init_1590 (by decide) hk) ?_
  refine rz_All_c (i := 734) (fun k J hk hJ => rz_newa_int_ok (pc := 1592) (nz0 := (181, 2644159)) (mx := 12) hx hb hK hA (hw (i := 57) (j := 7) rfl rfl) (by decide) (by rw [hRm]; decide) dX12_init_1592 (rz_wid (by decide) hk)) ?_
  refine rz_All_c (i := 735) (fun k J hk hJ => rz_putfF_ok (pc := 1594) (own := RX12) (ref := "ThreadJudgeModel") (C := RX12) (T := TX12) (N := 257) (ci := 14) (index := 569) (f := 255) (t := 2) (Ts := Cond.code yX12_init cX12_init 1 none :: rz_TB) hx hb hts rz_in14 tyX12 tyX12_ok nmX12 ho hK hA rfl (by decide) rfl (rz_UnR _ (Or.inr ⟨_, rfl⟩)) rfl (hmn.trans rfl) rfl (tyX12_ok 255 (by decide)) (hw (i := 83) (j := 4) rfl rfl) (fun _ z => z) dX12_init_1594 hk) ?_
  refine rz_All_c (i := 736) (fun k J hk hJ => rz_aload_n_ok (pc := 1597) hx hb dX12_init_1597 rfl hk) ?_
  refine rz_All_c (i := 737) (fun k J hk hJ => rz_bipush_ok (pc := 1598) hx hb dX12_init_1598 (by decide) hk) ?_
  refine rz_All_c (i := 738) (fun k J hk hJ => rz_newa_int_ok (pc := 1600) (nz0 := (182, 2644171)) (mx := 12) hx hb hK hA (hw (i := 57) (j := 7) rfl rfl) (by decide) (by rw [hRm]; decide) dX12_init_1600 (rz_wid (by decide) hk)) ?_
  refine rz_All_c (i := 739) (fun k J hk hJ => rz_putfF_ok (pc := 1602) (own := RX12) (ref := "ThreadJudgeModel") (C := RX12) (T := TX12) (N := 257) (ci := 14) (index := 572) (f := 256) (t := 2) (Ts := Cond.code yX12_init cX12_init 1 none :: rz_TB) hx hb hts rz_in14 tyX12 tyX12_ok nmX12 ho hK hA rfl (by decide) rfl (rz_UnR _ (Or.inr ⟨_, rfl⟩)) rfl (hmn.trans rfl) rfl (tyX12_ok 256 (by decide)) (hw (i := 83) (j := 5) rfl rfl) (fun _ z => z) dX12_init_1602 hk) ?_
  refine rz_All_c (i := 740) (fun k J hk hJ => rz_vret_ok (pc := 1605) (nz0 := (183, 2644183)) hC dX12_init_1605 (by decide)) ?_
  exact trivial
