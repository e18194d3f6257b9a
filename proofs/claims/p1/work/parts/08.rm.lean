/-! Methods: handlers, facts, contracts. -/
theorem dX7_isKind_0 : decode cX7_isKind 0 = .ok (.iload_n 1, 1) := by decide +kernel
theorem dX7_isKind_1 : decode cX7_isKind 1 = .ok (.ifCond .lt 28, 3) := by decide +kernel
theorem dX7_isKind_4 : decode cX7_isKind 4 = .ok (.iload_n 1, 1) := by decide +kernel
theorem dX7_isKind_5 : decode cX7_isKind 5 = .ok (.aload_n 0, 1) := by decide +kernel
theorem dX7_isKind_6 : decode cX7_isKind 6 = .ok (.getfield 62, 3) := by decide +kernel
theorem dX7_isKind_9 : decode cX7_isKind 9 = .ok (.if_icmp .ge 20, 3) := by decide +kernel
theorem dX7_isKind_12 : decode cX7_isKind 12 = .ok (.aload_n 0, 1) := by decide +kernel
theorem dX7_isKind_13 : decode cX7_isKind 13 = .ok (.getfield 11, 3) := by decide +kernel
theorem dX7_isKind_16 : decode cX7_isKind 16 = .ok (.iconst 3, 1) := by decide +kernel
theorem dX7_isKind_17 : decode cX7_isKind 17 = .ok (.aaload, 1) := by decide +kernel
theorem dX7_isKind_18 : decode cX7_isKind 18 = .ok (.iload_n 1, 1) := by decide +kernel
theorem dX7_isKind_19 : decode cX7_isKind 19 = .ok (.iaload, 1) := by decide +kernel
theorem dX7_isKind_20 : decode cX7_isKind 20 = .ok (.iload_n 2, 1) := by decide +kernel
theorem dX7_isKind_21 : decode cX7_isKind 21 = .ok (.iand, 1) := by decide +kernel
theorem dX7_isKind_22 : decode cX7_isKind 22 = .ok (.ifCond .eq 7, 3) := by decide +kernel
theorem dX7_isKind_25 : decode cX7_isKind 25 = .ok (.iconst 1, 1) := by decide +kernel
theorem dX7_isKind_26 : decode cX7_isKind 26 = .ok (.goto 4, 3) := by decide +kernel
theorem dX7_isKind_29 : decode cX7_isKind 29 = .ok (.iconst 0, 1) := by decide +kernel
theorem dX7_isKind_30 : decode cX7_isKind 30 = .ok (.ireturn, 1) := by decide +kernel
def rpX7_isKind : List Nat := [0, 1, 4, 5, 6, 9, 12, 13, 16, 17, 18, 19, 20, 21, 22, 25, 26, 29, 30]
noncomputable def rcX7_isKind : List rz_B := [rz_iload 1, rz_iflt 17, rz_iload 1, rz_aload 0, rz_getf (Nat.add (Nat.mul 256 9) 1) 2 rz_i, rz_icmpge 17, rz_aload 0, rz_getf (Nat.add (Nat.mul 256 9) 1) 3 rz_r, rz_cst 3, rz_aald, rz_iload 1, rz_iald, rz_iload 2, rz_iand, rz_ifeq 17, rz_cst 1, rz_goto 18, rz_cst 0, rz_zret]
noncomputable def rgX7_isKind : rz_L → rz_M → rz_Z → Bool := rz_go rcX7_isKind 3 1000000
def rrX7_isKind : Room := { frames := 0, cells := 0, slots := 0, locals := 0 }
theorem rmX7_isKind (l : Launch) {G : rz_G} (hG : rz_Gd G) (vs : rz_L) (M : rz_M) (Z : rz_Z) (hn : vs.length = 3) (h : rgX7_isKind vs M Z = true) : Met l yX7_isKind (Cond.code yX7_isKind cX7_isKind 3 (some .boolean) :: rz_TB) rrX7_isKind (rz_Pre G vs M) (rz_Qi G M.2 Z) 0 0 (fun q => rz_b G ≤ q) := by
  obtain ⟨D, tc, ad, b, xs, rfl⟩ := hG
  refine rz_body (pcs := rpX7_isKind) (by decide) rfl (by rw [hn]; decide) h ?_
  intro p e R s m args below meth c hC
  obtain ⟨hx, hb, hml, hr, hlk, ho, hts, hKn, hRm⟩ := id hC
  obtain ⟨hK, hA, hSt⟩ := id hKn
  have hw : ∀ {i j : Nat} {ws : List Cond} {w : Cond}, rz_WW[i]? = some ws → ws[j]? = some w → w.before args s = true := fun h1 h2 => hts _ (List.mem_cons_of_mem _ (rz_mem h1 h2))
  refine rz_All_c (i := 0) (fun k J hk hJ => rz_iload_n_ok (pc := 0) hx hb dX7_isKind_0 rfl hk) ?_
  refine rz_All_c (i := 1) (fun k J hk hJ => rz_iflt_ok (pc := 1) hx hb dX7_isKind_1 rfl hk (hJ 17)) ?_
  refine rz_All_c (i := 2) (fun k J hk hJ => rz_iload_n_ok (pc := 4) hx hb dX7_isKind_4 rfl hk) ?_
  refine rz_All_c (i := 3) (fun k J hk hJ => rz_aload_n_ok (pc := 5) hx hb dX7_isKind_5 rfl hk) ?_
  refine rz_All_c (i := 4) (fun k J hk hJ => rz_getf_ok (pc := 6) (own := RX7) (ref := "ThreadJudge$Program") (C := RX7) (T := TX7) (N := 22) (ci := 9) (index := 62) (f := 2) (t := 0) (Ts := Cond.code yX7_isKind cX7_isKind 3 (some .boolean) :: rz_TB) hx hb hts rz_in9 ho hK rfl (by decide) rfl (fun _ => rfl) (hw (i := 1) (j := 4) rfl rfl) (fun _ z => z) dX7_isKind_6 hk) ?_
  refine rz_All_c (i := 5) (fun k J hk hJ => rz_icmpge_ok (pc := 9) hx hb dX7_isKind_9 rfl hk (hJ 17)) ?_
  refine rz_All_c (i := 6) (fun k J hk hJ => rz_aload_n_ok (pc := 12) hx hb dX7_isKind_12 rfl hk) ?_
  refine rz_All_c (i := 7) (fun k J hk hJ => rz_getf_ok (pc := 13) (own := RX7) (ref := "ThreadJudge$Program") (C := RX7) (T := TX7) (N := 22) (ci := 9) (index := 11) (f := 3) (t := 2) (Ts := Cond.code yX7_isKind cX7_isKind 3 (some .boolean) :: rz_TB) hx hb hts rz_in9 ho hK rfl (by decide) rfl (fun _ => rfl) (hw (i := 16) (j := 12) rfl rfl) (fun _ z => z) dX7_isKind_13 hk) ?_
  refine rz_All_c (i := 8) (fun k J hk hJ => rz_iconst_ok (pc := 16) hx hb dX7_isKind_16 rfl hk) ?_
  refine rz_All_c (i := 9) (fun k J hk hJ => rz_aald_ok (pc := 17) hx hb hK dX7_isKind_17 hk) ?_
  refine rz_All_c (i := 10) (fun k J hk hJ => rz_iload_n_ok (pc := 18) hx hb dX7_isKind_18 rfl hk) ?_
  refine rz_All_c (i := 11) (fun k J hk hJ => rz_iald_ok (pc := 19) hx hb hK dX7_isKind_19 hk) ?_
  refine rz_All_c (i := 12) (fun k J hk hJ => rz_iload_n_ok (pc := 20) hx hb dX7_isKind_20 rfl hk) ?_
  refine rz_All_c (i := 13) (fun k J hk hJ => rz_iand_ok (pc := 21) hx hb dX7_isKind_21 hk) ?_
  refine rz_All_c (i := 14) (fun k J hk hJ => rz_ifeq_ok (pc := 22) hx hb dX7_isKind_22 rfl hk (hJ 17)) ?_
  refine rz_All_c (i := 15) (fun k J hk hJ => rz_iconst_ok (pc := 25) hx hb dX7_isKind_25 rfl hk) ?_
  refine rz_All_c (i := 16) (fun k J hk hJ => rz_goto_ok (pc := 26) hx hb dX7_isKind_26 rfl (hJ 18)) ?_
  refine rz_All_c (i := 17) (fun k J hk hJ => rz_iconst_ok (pc := 29) hx hb dX7_isKind_29 rfl hk) ?_
  refine rz_All_c (i := 18) (fun k J hk hJ => rz_zret_ok (pc := 30) hC dX7_isKind_30) ?_
  exact trivial
theorem dX7_hasFlag_0 : decode cX7_hasFlag 0 = .ok (.aload_n 0, 1) := by decide +kernel
theorem dX7_hasFlag_1 : decode cX7_hasFlag 1 = .ok (.getfield 30, 3) := by decide +kernel
theorem dX7_hasFlag_4 : decode cX7_hasFlag 4 = .ok (.iconst 4, 1) := by decide +kernel
theorem dX7_hasFlag_5 : decode cX7_hasFlag 5 = .ok (.aaload, 1) := by decide +kernel
theorem dX7_hasFlag_6 : decode cX7_hasFlag 6 = .ok (.iload_n 1, 1) := by decide +kernel
theorem dX7_hasFlag_7 : decode cX7_hasFlag 7 = .ok (.iaload, 1) := by decide +kernel
theorem dX7_hasFlag_8 : decode cX7_hasFlag 8 = .ok (.iload_n 2, 1) := by decide +kernel
theorem dX7_hasFlag_9 : decode cX7_hasFlag 9 = .ok (.iand, 1) := by decide +kernel
theorem dX7_hasFlag_10 : decode cX7_hasFlag 10 = .ok (.ifCond .eq 7, 3) := by decide +kernel
theorem dX7_hasFlag_13 : decode cX7_hasFlag 13 = .ok (.iconst 1, 1) := by decide +kernel
theorem dX7_hasFlag_14 : decode cX7_hasFlag 14 = .ok (.goto 4, 3) := by decide +kernel
theorem dX7_hasFlag_17 : decode cX7_hasFlag 17 = .ok (.iconst 0, 1) := by decide +kernel
theorem dX7_hasFlag_18 : decode cX7_hasFlag 18 = .ok (.ireturn, 1) := by decide +kernel
def rpX7_hasFlag : List Nat := [0, 1, 4, 5, 6, 7, 8, 9, 10, 13, 14, 17, 18]
noncomputable def rcX7_hasFlag : List rz_B := [rz_aload 0, rz_getf (Nat.add (Nat.mul 256 9) 1) 10 rz_r, rz_cst 4, rz_aald, rz_iload 1, rz_iald, rz_iload 2, rz_iand, rz_ifeq 11, rz_cst 1, rz_goto 12, rz_cst 0, rz_zret]
noncomputable def rgX7_hasFlag : rz_L → rz_M → rz_Z → Bool := rz_go rcX7_hasFlag 3 1000000
def rrX7_hasFlag : Room := { frames := 0, cells := 0, slots := 0, locals := 0 }
theorem rmX7_hasFlag (l : Launch) {G : rz_G} (hG : rz_Gd G) (vs : rz_L) (M : rz_M) (Z : rz_Z) (hn : vs.length = 3) (h : rgX7_hasFlag vs M Z = true) : Met l yX7_hasFlag (Cond.code yX7_hasFlag cX7_hasFlag 3 (some .boolean) :: rz_TB) rrX7_hasFlag (rz_Pre G vs M) (rz_Qi G M.2 Z) 0 0 (fun q => rz_b G ≤ q) := by
  obtain ⟨D, tc, ad, b, xs, rfl⟩ := hG
  refine rz_body (pcs := rpX7_hasFlag) (by decide) rfl (by rw [hn]; decide) h ?_
  intro p e R s m args below meth c hC
  obtain ⟨hx, hb, hml, hr, hlk, ho, hts, hKn, hRm⟩ := id hC
  obtain ⟨hK, hA, hSt⟩ := id hKn
  have hw : ∀ {i j : Nat} {ws : List Cond} {w : Cond}, rz_WW[i]? = some ws → ws[j]? = some w → w.before args s = true := fun h1 h2 => hts _ (List.mem_cons_of_mem _ (rz_mem h1 h2))
  refine rz_All_c (i := 0) (fun k J hk hJ => rz_aload_n_ok (pc := 0) hx hb dX7_hasFlag_0 rfl hk) ?_
  refine rz_All_c (i := 1) (fun k J hk hJ => rz_getf_ok (pc := 1) (own := RX7) (ref := "ThreadJudge$Program") (C := RX7) (T := TX7) (N := 22) (ci := 9) (index := 30) (f := 10) (t := 2) (Ts := Cond.code yX7_hasFlag cX7_hasFlag 3 (some .boolean) :: rz_TB) hx hb hts rz_in9 ho hK rfl (by decide) rfl (fun _ => rfl) (hw (i := 19) (j := 3) rfl rfl) (fun _ z => z) dX7_hasFlag_1 hk) ?_
  refine rz_All_c (i := 2) (fun k J hk hJ => rz_iconst_ok (pc := 4) hx hb dX7_hasFlag_4 rfl hk) ?_
  refine rz_All_c (i := 3) (fun k J hk hJ => rz_aald_ok (pc := 5) hx hb hK dX7_hasFlag_5 hk) ?_
  refine rz_All_c (i := 4) (fun k J hk hJ => rz_iload_n_ok (pc := 6) hx hb dX7_hasFlag_6 rfl hk) ?_
  refine rz_All_c (i := 5) (fun k J hk hJ => rz_iald_ok (pc := 7) hx hb hK dX7_hasFlag_7 hk) ?_
  refine rz_All_c (i := 6) (fun k J hk hJ => rz_iload_n_ok (pc := 8) hx hb dX7_hasFlag_8 rfl hk) ?_
  refine rz_All_c (i := 7) (fun k J hk hJ => rz_iand_ok (pc := 9) hx hb dX7_hasFlag_9 hk) ?_
  refine rz_All_c (i := 8) (fun k J hk hJ => rz_ifeq_ok (pc := 10) hx hb dX7_hasFlag_10 rfl hk (hJ 11)) ?_
  refine rz_All_c (i := 9) (fun k J hk hJ => rz_iconst_ok (pc := 13) hx hb dX7_hasFlag_13 rfl hk) ?_
  refine rz_All_c (i := 10) (fun k J hk hJ => rz_goto_ok (pc := 14) hx hb dX7_hasFlag_14 rfl (hJ 12)) ?_
  refine rz_All_c (i := 11) (fun k J hk hJ => rz_iconst_ok (pc := 17) hx hb dX7_hasFlag_17 rfl hk) ?_
  refine rz_All_c (i := 12) (fun k J hk hJ => rz_zret_ok (pc := 18) hC dX7_hasFlag_18) ?_
  exact trivial
theorem dX9_bucket_0 : decode cX9_bucket 0 = .ok (.iconst 0, 1) := by decide +kernel
theorem dX9_bucket_1 : decode cX9_bucket 1 = .ok (.istore_n 3, 1) := by decide +kernel
theorem dX9_bucket_2 : decode cX9_bucket 2 = .ok (.iload_n 1, 1) := by decide +kernel
theorem dX9_bucket_3 : decode cX9_bucket 3 = .ok (.istore 4, 2) := by decide +kernel
theorem dX9_bucket_5 : decode cX9_bucket 5 = .ok (.iload 4, 2) := by decide +kernel
theorem dX9_bucket_7 : decode cX9_bucket 7 = .ok (.iload_n 2, 1) := by decide +kernel
theorem dX9_bucket_8 : decode cX9_bucket 8 = .ok (.if_icmp .ge 19, 3) := by decide +kernel
theorem dX9_bucket_11 : decode cX9_bucket 11 = .ok (.iload_n 3, 1) := by decide +kernel
theorem dX9_bucket_12 : decode cX9_bucket 12 = .ok (.bipush 31, 2) := by decide +kernel
theorem dX9_bucket_14 : decode cX9_bucket 14 = .ok (.imul, 1) := by decide +kernel
theorem dX9_bucket_15 : decode cX9_bucket 15 = .ok (.aload_n 0, 1) := by decide +kernel
theorem dX9_bucket_16 : decode cX9_bucket 16 = .ok (.iload 4, 2) := by decide +kernel
theorem dX9_bucket_18 : decode cX9_bucket 18 = .ok (.caload, 1) := by decide +kernel
theorem dX9_bucket_19 : decode cX9_bucket 19 = .ok (.iadd, 1) := by decide +kernel
theorem dX9_bucket_20 : decode cX9_bucket 20 = .ok (.istore_n 3, 1) := by decide +kernel
theorem dX9_bucket_21 : decode cX9_bucket 21 = .ok (.iinc 4 1, 3) := by decide +kernel
theorem dX9_bucket_24 : decode cX9_bucket 24 = .ok (.goto (-19), 3) := by decide +kernel
theorem dX9_bucket_27 : decode cX9_bucket 27 = .ok (.iload_n 3, 1) := by decide +kernel
theorem dX9_bucket_28 : decode cX9_bucket 28 = .ok (.sipush 4095, 3) := by decide +kernel
theorem dX9_bucket_31 : decode cX9_bucket 31 = .ok (.iand, 1) := by decide +kernel
theorem dX9_bucket_32 : decode cX9_bucket 32 = .ok (.ireturn, 1) := by decide +kernel
def rpX9_bucket : List Nat := [0, 1, 2, 3, 5, 7, 8, 11, 12, 14, 15, 16, 18, 19, 20, 21, 24, 27, 28, 31, 32]
noncomputable def rcX9_bucket : List rz_B := [rz_cst 0, rz_istore 3, rz_iload 1, rz_istore 4, rz_iload 4, rz_iload 2, rz_icmpge 17, rz_iload 3, rz_cst 31, rz_imul, rz_aload 0, rz_iload 4, rz_cald, rz_iadd, rz_istore 3, rz_iinc 4 1, rz_goto 4, rz_iload 3, rz_cst 4095, rz_iand, rz_iret]
noncomputable def rgX9_bucket : rz_L → rz_M → rz_Z → Bool := rz_go rcX9_bucket 5 1000000
def rrX9_bucket : Room := { frames := 0, cells := 0, slots := 0, locals := 0 }
theorem rmX9_bucket (l : Launch) {G : rz_G} (hG : rz_Gd G) (vs : rz_L) (M : rz_M) (Z : rz_Z) (hn : vs.length = 3) (h : rgX9_bucket vs M Z = true) : Met l yX9_bucket (Cond.code yX9_bucket cX9_bucket 5 (some .int) :: rz_TB) rrX9_bucket (rz_Pre G vs M) (rz_Qi G M.2 Z) 0 0 (fun q => rz_b G ≤ q) := by
  obtain ⟨D, tc, ad, b, xs, rfl⟩ := hG
  refine rz_body (pcs := rpX9_bucket) (by decide) rfl (by rw [hn]; decide) h ?_
  intro p e R s m args below meth c hC
  obtain ⟨hx, hb, hml, hr, hlk, ho, hts, hKn, hRm⟩ := id hC
  obtain ⟨hK, hA, hSt⟩ := id hKn
  have hw : ∀ {i j : Nat} {ws : List Cond} {w : Cond}, rz_WW[i]? = some ws → ws[j]? = some w → w.before args s = true := fun h1 h2 => hts _ (List.mem_cons_of_mem _ (rz_mem h1 h2))
  refine rz_All_c (i := 0) (fun k J hk hJ => rz_iconst_ok (pc := 0) hx hb dX9_bucket_0 rfl hk) ?_
  refine rz_All_c (i := 1) (fun k J hk hJ => rz_istore_n_ok (pc := 1) hx hb dX9_bucket_1 rfl hk) ?_
  refine rz_All_c (i := 2) (fun k J hk hJ => rz_iload_n_ok (pc := 2) hx hb dX9_bucket_2 rfl hk) ?_
  refine rz_All_c (i := 3) (fun k J hk hJ => rz_istore_ok (pc := 3) hx hb dX9_bucket_3 hk) ?_
  refine rz_All_c (i := 4) (fun k J hk hJ => rz_iload_ok (pc := 5) hx hb dX9_bucket_5 hk) ?_
  refine rz_All_c (i := 5) (fun k J hk hJ => rz_iload_n_ok (pc := 7) hx hb dX9_bucket_7 rfl hk) ?_
  refine rz_All_c (i := 6) (fun k J hk hJ => rz_icmpge_ok (pc := 8) hx hb dX9_bucket_8 rfl hk (hJ 17)) ?_
  refine rz_All_c (i := 7) (fun k J hk hJ => rz_iload_n_ok (pc := 11) hx hb dX9_bucket_11 rfl hk) ?_
  refine rz_All_c (i := 8) (fun k J hk hJ => rz_bipush_ok (pc := 12) hx hb dX9_bucket_12 (by decide) hk) ?_
  refine rz_All_c (i := 9) (fun k J hk hJ => rz_imul_ok (pc := 14) hx hb dX9_bucket_14 hk) ?_
  refine rz_All_c (i := 10) (fun k J hk hJ => rz_aload_n_ok (pc := 15) hx hb dX9_bucket_15 rfl hk) ?_
  refine rz_All_c (i := 11) (fun k J hk hJ => rz_iload_ok (pc := 16) hx hb dX9_bucket_16 hk) ?_
  refine rz_All_c (i := 12) (fun k J hk hJ => rz_cald_ok (pc := 18) hx hb hK dX9_bucket_18 hk) ?_
  refine rz_All_c (i := 13) (fun k J hk hJ => rz_iadd_ok (pc := 19) hx hb dX9_bucket_19 hk) ?_
  refine rz_All_c (i := 14) (fun k J hk hJ => rz_istore_n_ok (pc := 20) hx hb dX9_bucket_20 rfl hk) ?_
  refine rz_All_c (i := 15) (fun k J hk hJ => rz_iinc_ok (pc := 21) hx hb dX9_bucket_21 (by decide) hk) ?_
  refine rz_All_c (i := 16) (fun k J hk hJ => rz_goto_ok (pc := 24) hx hb dX9_bucket_24 rfl (hJ 4)) ?_
  refine rz_All_c (i := 17) (fun k J hk hJ => rz_iload_n_ok (pc := 27) hx hb dX9_bucket_27 rfl hk) ?_
  refine rz_All_c (i := 18) (fun k J hk hJ => rz_sipush_ok (pc := 28) hx hb dX9_bucket_28 (by decide) hk) ?_
  refine rz_All_c (i := 19) (fun k J hk hJ => rz_iand_ok (pc := 31) hx hb dX9_bucket_31 hk) ?_
  refine rz_All_c (i := 20) (fun k J hk hJ => rz_iret_ok (pc := 32) hC dX9_bucket_32) ?_
  exact trivial
theorem dX9_isBlank_0 : decode cX9_isBlank 0 = .ok (.iload_n 0, 1) := by decide +kernel
theorem dX9_isBlank_1 : decode cX9_isBlank 1 = .ok (.bipush 9, 2) := by decide +kernel
theorem dX9_isBlank_3 : decode cX9_isBlank 3 = .ok (.if_icmp .eq 21, 3) := by decide +kernel
theorem dX9_isBlank_6 : decode cX9_isBlank 6 = .ok (.iload_n 0, 1) := by decide +kernel
theorem dX9_isBlank_7 : decode cX9_isBlank 7 = .ok (.bipush 10, 2) := by decide +kernel
theorem dX9_isBlank_9 : decode cX9_isBlank 9 = .ok (.if_icmp .eq 15, 3) := by decide +kernel
theorem dX9_isBlank_12 : decode cX9_isBlank 12 = .ok (.iload_n 0, 1) := by decide +kernel
theorem dX9_isBlank_13 : decode cX9_isBlank 13 = .ok (.bipush 13, 2) := by decide +kernel
theorem dX9_isBlank_15 : decode cX9_isBlank 15 = .ok (.if_icmp .eq 9, 3) := by decide +kernel
theorem dX9_isBlank_18 : decode cX9_isBlank 18 = .ok (.iload_n 0, 1) := by decide +kernel
theorem dX9_isBlank_19 : decode cX9_isBlank 19 = .ok (.bipush 32, 2) := by decide +kernel
theorem dX9_isBlank_21 : decode cX9_isBlank 21 = .ok (.if_icmp .ne 7, 3) := by decide +kernel
theorem dX9_isBlank_24 : decode cX9_isBlank 24 = .ok (.iconst 1, 1) := by decide +kernel
theorem dX9_isBlank_25 : decode cX9_isBlank 25 = .ok (.goto 4, 3) := by decide +kernel
theorem dX9_isBlank_28 : decode cX9_isBlank 28 = .ok (.iconst 0, 1) := by decide +kernel
theorem dX9_isBlank_29 : decode cX9_isBlank 29 = .ok (.ireturn, 1) := by decide +kernel
def rpX9_isBlank : List Nat := [0, 1, 3, 6, 7, 9, 12, 13, 15, 18, 19, 21, 24, 25, 28, 29]
noncomputable def rcX9_isBlank : List rz_B := [rz_iload 0, rz_cst 9, rz_icmpeq 12, rz_iload 0, rz_cst 10, rz_icmpeq 12, rz_iload 0, rz_cst 13, rz_icmpeq 12, rz_iload 0, rz_cst 32, rz_icmpne 14, rz_cst 1, rz_goto 15, rz_cst 0, rz_zret]
noncomputable def rgX9_isBlank : rz_L → rz_M → rz_Z → Bool := rz_go rcX9_isBlank 1 1000000
def rrX9_isBlank : Room := { frames := 0, cells := 0, slots := 0, locals := 0 }
theorem rmX9_isBlank (l : Launch) {G : rz_G} (hG : rz_Gd G) (vs : rz_L) (M : rz_M) (Z : rz_Z) (hn : vs.length = 1) (h : rgX9_isBlank vs M Z = true) : Met l yX9_isBlank (Cond.code yX9_isBlank cX9_isBlank 1 (some .boolean) :: rz_TB) rrX9_isBlank (rz_Pre G vs M) (rz_Qi G M.2 Z) 0 0 (fun q => rz_b G ≤ q) := by
  obtain ⟨D, tc, ad, b, xs, rfl⟩ := hG
  refine rz_body (pcs := rpX9_isBlank) (by decide) rfl (by rw [hn]; decide) h ?_
  intro p e R s m args below meth c hC
  obtain ⟨hx, hb, hml, hr, hlk, ho, hts, hKn, hRm⟩ := id hC
  obtain ⟨hK, hA, hSt⟩ := id hKn
  have hw : ∀ {i j : Nat} {ws : List Cond} {w : Cond}, rz_WW[i]? = some ws → ws[j]? = some w → w.before args s = true := fun h1 h2 => hts _ (List.mem_cons_of_mem _ (rz_mem h1 h2))
  refine rz_All_c (i := 0) (fun k J hk hJ => rz_iload_n_ok (pc := 0) hx hb dX9_isBlank_0 rfl hk) ?_
  refine rz_All_c (i := 1) (fun k J hk hJ => rz_bipush_ok (pc := 1) hx hb dX9_isBlank_1 (by decide) hk) ?_
  refine rz_All_c (i := 2) (fun k J hk hJ => rz_icmpeq_ok (pc := 3) hx hb dX9_isBlank_3 rfl hk (hJ 12)) ?_
  refine rz_All_c (i := 3) (fun k J hk hJ => rz_iload_n_ok (pc := 6) hx hb dX9_isBlank_6 rfl hk) ?_
  refine rz_All_c (i := 4) (fun k J hk hJ => rz_bipush_ok (pc := 7) hx hb dX9_isBlank_7 (by decide) hk) ?_
  refine rz_All_c (i := 5) (fun k J hk hJ => rz_icmpeq_ok (pc := 9) hx hb dX9_isBlank_9 rfl hk (hJ 12)) ?_
  refine rz_All_c (i := 6) (fun k J hk hJ => rz_iload_n_ok (pc := 12) hx hb dX9_isBlank_12 rfl hk) ?_
  refine rz_All_c (i := 7) (fun k J hk hJ => rz_bipush_ok (pc := 13) hx hb dX9_isBlank_13 (by decide) hk) ?_
  refine rz_All_c (i := 8) (fun k J hk hJ => rz_icmpeq_ok (pc := 15) hx hb dX9_isBlank_15 rfl hk (hJ 12)) ?_
  refine rz_All_c (i := 9) (fun k J hk hJ => rz_iload_n_ok (pc := 18) hx hb dX9_isBlank_18 rfl hk) ?_
  refine rz_All_c (i := 10) (fun k J hk hJ => rz_bipush_ok (pc := 19) hx hb dX9_isBlank_19 (by decide) hk) ?_
  refine rz_All_c (i := 11) (fun k J hk hJ => rz_icmpne_ok (pc := 21) hx hb dX9_isBlank_21 rfl hk (hJ 14)) ?_
  refine rz_All_c (i := 12) (fun k J hk hJ => rz_iconst_ok (pc := 24) hx hb dX9_isBlank_24 rfl hk) ?_
  refine rz_All_c (i := 13) (fun k J hk hJ => rz_goto_ok (pc := 25) hx hb dX9_isBlank_25 rfl (hJ 15)) ?_
  refine rz_All_c (i := 14) (fun k J hk hJ => rz_iconst_ok (pc := 28) hx hb dX9_isBlank_28 rfl hk) ?_
  refine rz_All_c (i := 15) (fun k J hk hJ => rz_zret_ok (pc := 29) hC dX9_isBlank_29) ?_
  exact trivial
