/-! Methods: handlers, facts, contracts. -/
theorem dJ3_checkIndex_8e157_0 : decode cJ3_checkIndex_8e157 0 = .ok (.iload_n 0, 1) := by decide +kernel
theorem dJ3_checkIndex_8e157_1 : decode cJ3_checkIndex_8e157 1 = .ok (.ifCond .lt 8, 3) := by decide +kernel
theorem dJ3_checkIndex_8e157_4 : decode cJ3_checkIndex_8e157 4 = .ok (.iload_n 0, 1) := by decide +kernel
theorem dJ3_checkIndex_8e157_5 : decode cJ3_checkIndex_8e157 5 = .ok (.iload_n 1, 1) := by decide +kernel
theorem dJ3_checkIndex_8e157_6 : decode cJ3_checkIndex_8e157 6 = .ok (.if_icmp .lt 10, 3) := by decide +kernel
theorem dJ3_checkIndex_8e157_16 : decode cJ3_checkIndex_8e157 16 = .ok (.iload_n 0, 1) := by decide +kernel
theorem dJ3_checkIndex_8e157_17 : decode cJ3_checkIndex_8e157 17 = .ok (.ireturn, 1) := by decide +kernel
theorem dJ0_checkIndex_df160_0 : decode cJ0_checkIndex_df160 0 = .ok (.iload_n 0, 1) := by decide +kernel
theorem dJ0_checkIndex_df160_1 : decode cJ0_checkIndex_df160 1 = .ok (.iload_n 1, 1) := by decide +kernel
theorem dJ0_checkIndex_df160_2 : decode cJ0_checkIndex_df160 2 = .ok (.getstatic 1053, 3) := by decide +kernel
theorem dJ0_checkIndex_df160_5 : decode cJ0_checkIndex_df160 5 = .ok (.invokestatic 1059, 3) := by decide +kernel
theorem dJ0_checkIndex_df160_8 : decode cJ0_checkIndex_df160 8 = .ok (.pop, 1) := by decide +kernel
theorem dJ0_checkIndex_df160_9 : decode cJ0_checkIndex_df160 9 = .ok (.return_, 1) := by decide +kernel
theorem rz_pci (l : Launch) {G : rz_G} (w : Value) (hw : w.category = 1) {i n : Nat} (hi : i < n) (hn : n < 2 ^ 31) (M : rz_M) (Z : rz_Z) (hz : Z (rz_i i) M = true) : Met l yJ3_checkIndex_8e157 (Cond.code yJ3_checkIndex_8e157 cJ3_checkIndex_8e157 3 (some .int) :: rz_TB) { frames := 0, cells := 0, slots := 0, locals := 0 } (va_Pc [.int (nI i), .int (nI n), w] (fun U => rz_wd G M U.heap ∧ rz_Kn G U)) (rz_Qi G M.2 Z) 0 0 (fun q => rz_b G ≤ q) := by
  refine Met.ofW (cc := cJ3_checkIndex_8e157) (maxL := 3) (ret := some .int) (by decide) rfl ?_
  intro p e s m args below meth c s₁ B hml hv
  obtain ⟨rfl, hwd, hKn⟩ := hv
  have hx := B.exec
  have hb := B.bytes
  rw [lg_entry_eq]
  have hs : lg_sl [Value.int (nI i), .int (nI n), w] = [Value.int (nI i), .int (nI n), w].map .val := rz_lg_sl (by
    intro v hv
    simp only [List.mem_cons, List.not_mem_nil, or_false] at hv
    rcases hv with rfl | rfl | rfl
    · rfl
    · rfl
    · exact hw)
  rw [hs]
  refine lv_iload_n hx hb dJ3_checkIndex_8e157_0 rfl (x := nI i) rfl ?_
  refine lv_if_lt hx hb dJ3_checkIndex_8e157_1 rfl (fun q => absurd q (nI_pos (by omega))) (fun _ => ?_)
  refine lv_iload_n hx hb dJ3_checkIndex_8e157_4 rfl (x := nI i) rfl ?_
  refine lv_iload_n hx hb dJ3_checkIndex_8e157_5 rfl (x := nI n) rfl ?_
  refine lv_icmp_lt hx hb dJ3_checkIndex_8e157_6 rfl (fun _ => ?_) (fun q => absurd (nI_lt hi hn) q)
  refine lv_iload_n hx hb dJ3_checkIndex_8e157_16 rfl (x := nI i) rfl ?_
  exact W.iret hx hb B.returns (fun t ht hWm => ⟨⟨nI i, (rz_i i, M), rfl, ⟨rfl, hz⟩, by rw [ht]; exact hwd, trivial⟩, va_S.rf.F ht⟩) (fun q hq => by cases hq) dJ3_checkIndex_8e157_17 B.notSynchronized
noncomputable def rgJ0_checkIndex_df160 : rz_L → rz_M → rz_Z → Bool := fun vs M Z => rz_hd vs (fun a T => rz_hd T (fun b U => rz_nil U (rz_int a (fun i => rz_int b (fun n => rz_if (Nat.ble n 2147483647) (rz_if (Nat.ble n i) false (Z rz_o M)) false)))))
def rrJ0_checkIndex_df160 : Room := { frames := 1, cells := 0, slots := 0, locals := 60 }
theorem rmJ0_checkIndex_df160 (l : Launch) {G : rz_G} (hG : rz_Gd G) (vs : rz_L) (M : rz_M) (Z : rz_Z) (hn : vs.length = 2) (h : rgJ0_checkIndex_df160 vs M Z = true) : Met l yJ0_checkIndex_df160 (Cond.code yJ0_checkIndex_df160 cJ0_checkIndex_df160 2 none :: rz_TB) rrJ0_checkIndex_df160 (rz_Pre G vs M) (rz_Qv G M.2 Z) 0 0 (fun q => rz_b G ≤ q) := by
  have h1 := rz_hd_t h
  clear h
  obtain ⟨a, T, rfl, h1⟩ := h1
  have h2 := rz_hd_t h1
  clear h1
  obtain ⟨b, U, rfl, h2⟩ := h2
  have h3 := rz_nil_t h2
  clear h2
  obtain ⟨rfl, h3⟩ := h3
  have h4 := rz_int_t h3
  clear h3
  obtain ⟨i, rfl, h4⟩ := h4
  have h5 := rz_int_t h4
  clear h4
  obtain ⟨n, rfl, h⟩ := h5
  rcases rz_if_t h with ⟨g, h⟩ | ⟨-, h⟩
  · rcases rz_if_t h with ⟨-, h⟩ | ⟨g2, h⟩
    · cases h
    · have g := rz_ble.1.mp g
      have g2 : ¬ n ≤ i := rz_ble.2.mp g2
      refine Met.ofW (cc := cJ0_checkIndex_df160) (maxL := 2) (ret := none) (by decide) rfl ?_
      intro p e s m args below meth c s₁ B hml hv
      obtain ⟨rfl, hwd, hKn⟩ := hv
      have hts := atoms_spec (ws := Cond.code yJ0_checkIndex_df160 cJ0_checkIndex_df160 2 none :: rz_TB) B.pre
      have hC : rz_Cx G rz_TB yJ0_checkIndex_df160 cJ0_checkIndex_df160 2 none rrJ0_checkIndex_df160 p (headSpec (Cond.code yJ0_checkIndex_df160 cJ0_checkIndex_df160 2 none :: rz_TB) rrJ0_checkIndex_df160).room s m _ meth c := ⟨B.exec, B.bytes, hml, B.returns, B.notSynchronized, findClass_of_methodNamed B.named, hts, hKn, rfl⟩
      obtain ⟨hx, hb, -, hr, hlk, ho, -, -, hRm⟩ := id hC
      obtain ⟨hK, hA, hSt⟩ := id hKn
      have hw : ∀ {i j : Nat} {ws : List Cond} {w : Cond}, rz_WW[i]? = some ws → ws[j]? = some w → w.before _ s = true := fun h1 h2 => hts _ (List.mem_cons_of_mem _ (rz_mem h1 h2))
      rw [lg_entry_eq]
      have hs : lg_sl ([rz_i i, rz_i n].map (rz_v G)) = ([rz_i i, rz_i n].map (rz_v G)).map .val := rz_lg_sl (by
        intro v hv
        simp only [List.map_cons, List.map_nil, List.mem_cons, List.not_mem_nil, or_false] at hv
        rcases hv with rfl | rfl <;> rfl)
      rw [hs]
      refine lv_iload_n hx hb dJ0_checkIndex_df160_0 rfl (x := nI i) rfl ?_
      refine lv_iload_n hx hb dJ0_checkIndex_df160_1 rfl (x := nI n) rfl ?_
      obtain ⟨w, hwc, hZ⟩ : ∃ w : Value, w.category = 1 ∧ va_Z "jdk/internal/util/Preconditions" "SIOOBE_FORMATTER" "Ljava/util/function/BiFunction;" w (fun q => rz_b G ≤ q) s s.heap := by
        rcases hSt.2.2.2.2.1 with hZ | ⟨t, hZ⟩
        · exact ⟨_, rfl, hZ⟩
        · exact ⟨_, rfl, hZ⟩
      refine va_gets (own := RJ0) (ref := "jdk/internal/util/Preconditions") hx hb hZ va_S.rf ho (hw (i := 8) (j := 7) rfl rfl) (fun _ z => z) dJ0_checkIndex_df160_2 ?_
      have hR := va_runS (e := e) (below := below) (meth := meth) (As := [.int (nI i), .int (nI n), w]) (rest := []) (nL := 2) (Ts := Cond.code yJ0_checkIndex_df160 cJ0_checkIndex_df160 2 none :: rz_TB) ⟨hx, hb, hml, ho, hts⟩ (rz_pci l w hwc (Nat.lt_of_not_le g2) (by omega) M (fun _ N => Z rz_o N) h) (rz_cwX 3 hC rz_good (rz_mem (i := 14) (j := 6) rfl rfl) (rz_mem (i := 14) (j := 7) rfl rfl) (rz_mem (i := 8) (j := 10) rfl rfl) (rz_mem (i := 14) (j := 8) rfl rfl) ⟨by decide, by decide, by decide +kernel⟩ rfl rfl ⟨by decide, by decide⟩) ⟨fun _ _ _ _ q => ⟨q.1, q.2.1, rz_Kn_same q.2.2 rfl rfl⟩, fun V hV hWm => ⟨rfl, by rw [hV]; exact hwd, rz_Kn_to hKn hWm (fun a h1 h2 => by rw [hV])⟩⟩ (g := F0 m 5 (([rz_i i, rz_i n].map (rz_v G)).map Slot.val ++ List.replicate (2 - (([rz_i i, rz_i n].map (rz_v G)).map Slot.val).length) Slot.unset).toArray [w, .int (nI n), .int (nI i)]) rfl rfl rfl rfl (Nat.zero_le 8) dJ0_checkIndex_df160_5 (locs := []) (H := s.heap) (cells := 0) (slots := 0) ⟨Nat.zero_le _, Nat.zero_le _⟩
      refine va_calli hR va_S.rf (fun _ _ z => z) (fun _ z => z) (fun r u t H1 locs1 ht hvm hpo hB _ _ hS1 => ?_)
      obtain ⟨u1, u2⟩ := u
      refine lv_pop hx hb dJ0_checkIndex_df160_8 rfl ?_
      exact W.vret hx hb hr (fun t2 ht2 hWm => ⟨⟨u2, rfl, hpo.2, by rw [ht2, ← ht]; exact hB.1, hB.2⟩, hS1.F ht2⟩) hS1.2.2 dJ0_checkIndex_df160_9 hlk
  · cases h

theorem dX7_fits_0 : decode cX7_fits 0 = .ok (.iload_n 1, 1) := by decide +kernel
theorem dX7_fits_1 : decode cX7_fits 1 = .ok (.ifCond .lt 40, 3) := by decide +kernel
theorem dX7_fits_4 : decode cX7_fits 4 = .ok (.iload_n 1, 1) := by decide +kernel
theorem dX7_fits_5 : decode cX7_fits 5 = .ok (.bipush 43, 2) := by decide +kernel
theorem dX7_fits_7 : decode cX7_fits 7 = .ok (.if_icmp .ge 32, 3) := by decide +kernel
theorem dX7_fits_10 : decode cX7_fits 10 = .ok (.iload_n 2, 1) := by decide +kernel
theorem dX7_fits_11 : decode cX7_fits 11 = .ok (.ifCond .lt 28, 3) := by decide +kernel
theorem dX7_fits_14 : decode cX7_fits 14 = .ok (.iload_n 2, 1) := by decide +kernel
theorem dX7_fits_15 : decode cX7_fits 15 = .ok (.bipush 43, 2) := by decide +kernel
theorem dX7_fits_17 : decode cX7_fits 17 = .ok (.if_icmp .ge 22, 3) := by decide +kernel
theorem dX7_fits_20 : decode cX7_fits 20 = .ok (.aload_n 0, 1) := by decide +kernel
theorem dX7_fits_21 : decode cX7_fits 21 = .ok (.getfield 20, 3) := by decide +kernel
theorem dX7_fits_24 : decode cX7_fits 24 = .ok (.iload_n 1, 1) := by decide +kernel
theorem dX7_fits_25 : decode cX7_fits 25 = .ok (.laload, 1) := by decide +kernel
theorem dX7_fits_26 : decode cX7_fits 26 = .ok (.iload_n 2, 1) := by decide +kernel
theorem dX7_fits_27 : decode cX7_fits 27 = .ok (.lushr, 1) := by decide +kernel
theorem dX7_fits_28 : decode cX7_fits 28 = .ok (.lconst 1, 1) := by decide +kernel
theorem dX7_fits_29 : decode cX7_fits 29 = .ok (.land, 1) := by decide +kernel
theorem dX7_fits_30 : decode cX7_fits 30 = .ok (.lconst 0, 1) := by decide +kernel
theorem dX7_fits_31 : decode cX7_fits 31 = .ok (.lcmp, 1) := by decide +kernel
theorem dX7_fits_32 : decode cX7_fits 32 = .ok (.ifCond .eq 7, 3) := by decide +kernel
theorem dX7_fits_35 : decode cX7_fits 35 = .ok (.iconst 1, 1) := by decide +kernel
theorem dX7_fits_36 : decode cX7_fits 36 = .ok (.goto 4, 3) := by decide +kernel
theorem dX7_fits_39 : decode cX7_fits 39 = .ok (.iconst 0, 1) := by decide +kernel
theorem dX7_fits_40 : decode cX7_fits 40 = .ok (.ireturn, 1) := by decide +kernel
def rpX7_fits : List Nat := [0, 1, 4, 5, 7, 10, 11, 14, 15, 17, 20, 21, 24, 25, 26, 27, 28, 29, 30, 31, 32, 35, 36, 39, 40, 41]
noncomputable def rcX7_fits : List rz_B := [rz_iload 1, rz_iflt 25, rz_iload 1, rz_cst 43, rz_icmpge 23, rz_iload 2, rz_iflt 23, rz_iload 2, rz_cst 43, rz_icmpge 23, rz_aload 0, rz_getf (Nat.add (Nat.mul 256 9) 1) 5 rz_r, rz_iload 1, rz_lald, rz_iload 2, rz_lushr, rz_lcst 1, rz_land, rz_lcst 0, rz_lcmp, rz_ifeq 23, rz_cst 1, rz_goto 24, rz_cst 0, rz_zret, rz_no]
noncomputable def rgX7_fits : rz_L → rz_M → rz_Z → Bool := rz_go rcX7_fits 5 1000000
def rrX7_fits : Room := { frames := 0, cells := 0, slots := 0, locals := 0 }
theorem rmX7_fits (l : Launch) {G : rz_G} (hG : rz_Gd G) (vs : rz_L) (M : rz_M) (Z : rz_Z) (hn : vs.length = 3) (h : rgX7_fits vs M Z = true) : Met l yX7_fits (Cond.code yX7_fits cX7_fits 5 (some .boolean) :: rz_TB) rrX7_fits (rz_Pre G vs M) (rz_Qi G M.2 Z) 0 0 (fun q => rz_b G ≤ q) := by
  obtain ⟨D, tc, ad, b, xs, rfl⟩ := id hG
  refine rz_body (pcs := rpX7_fits) (by decide) rfl (by rw [hn]; decide) h ?_
  intro p e R s m args below meth c hC
  obtain ⟨hx, hb, hml, hr, hlk, ho, hts, hKn, hRm⟩ := id hC
  obtain ⟨hK, hA, hSt⟩ := id hKn
  have hw : ∀ {i j : Nat} {ws : List Cond} {w : Cond}, rz_WW[i]? = some ws → ws[j]? = some w → w.before args s = true := fun h1 h2 => hts _ (List.mem_cons_of_mem _ (rz_mem h1 h2))
  refine rz_All_c (i := 0) (fun k J hk hJ => rz_iload_n_ok (pc := 0) hx hb dX7_fits_0 rfl hk) ?_
  refine rz_All_c (i := 1) (fun k J hk hJ => rz_iflt_ok (pc := 1) hx hb dX7_fits_1 rfl hk (hJ 25)) ?_
  refine rz_All_c (i := 2) (fun k J hk hJ => rz_iload_n_ok (pc := 4) hx hb dX7_fits_4 rfl hk) ?_
  refine rz_All_c (i := 3) (fun k J hk hJ => rz_bipush_ok (pc := 5) hx hb dX7_fits_5 (by decide) hk) ?_
  refine rz_All_c (i := 4) (fun k J hk hJ => rz_icmpge_ok (pc := 7) hx hb dX7_fits_7 rfl hk (hJ 23)) ?_
  refine rz_All_c (i := 5) (fun k J hk hJ => rz_iload_n_ok (pc := 10) hx hb dX7_fits_10 rfl hk) ?_
  refine rz_All_c (i := 6) (fun k J hk hJ => rz_iflt_ok (pc := 11) hx hb dX7_fits_11 rfl hk (hJ 23)) ?_
  refine rz_All_c (i := 7) (fun k J hk hJ => rz_iload_n_ok (pc := 14) hx hb dX7_fits_14 rfl hk) ?_
  refine rz_All_c (i := 8) (fun k J hk hJ => rz_bipush_ok (pc := 15) hx hb dX7_fits_15 (by decide) hk) ?_
  refine rz_All_c (i := 9) (fun k J hk hJ => rz_icmpge_ok (pc := 17) hx hb dX7_fits_17 rfl hk (hJ 23)) ?_
  refine rz_All_c (i := 10) (fun k J hk hJ => rz_aload_n_ok (pc := 20) hx hb dX7_fits_20 rfl hk) ?_
  refine rz_All_c (i := 11) (fun k J hk hJ => rz_getf_ok (pc := 21) (own := RX7) (ref := "ThreadJudge$Program") (C := RX7) (T := TX7) (N := 22) (ci := 9) (index := 20) (f := 5) (t := 2) (Ts := Cond.code yX7_fits cX7_fits 5 (some .boolean) :: rz_TB) hx hb hts rz_in9 ho hK rfl (by decide) rfl (fun _ => rfl) (hw (i := 19) (j := 20) rfl rfl) (fun _ z => z) dX7_fits_21 hk) ?_
  refine rz_All_c (i := 12) (fun k J hk hJ => rz_iload_n_ok (pc := 24) hx hb dX7_fits_24 rfl hk) ?_
  refine rz_All_c (i := 13) (fun k J hk hJ => rz_lald_ok (pc := 25) hx hb hK dX7_fits_25 hk) ?_
  refine rz_All_c (i := 14) (fun k J hk hJ => rz_iload_n_ok (pc := 26) hx hb dX7_fits_26 rfl hk) ?_
  refine rz_All_c (i := 15) (fun k J hk hJ => rz_lushr_ok (pc := 27) hx hb dX7_fits_27 hk) ?_
  refine rz_All_c (i := 16) (fun k J hk hJ => rz_lconst_ok (pc := 28) hx hb dX7_fits_28 rfl hk) ?_
  refine rz_All_c (i := 17) (fun k J hk hJ => rz_land_ok (pc := 29) hx hb dX7_fits_29 hk) ?_
  refine rz_All_c (i := 18) (fun k J hk hJ => rz_lconst_ok (pc := 30) hx hb dX7_fits_30 rfl hk) ?_
  refine rz_All_c (i := 19) (fun k J hk hJ => rz_lcmp_ok (pc := 31) hx hb dX7_fits_31 hk) ?_
  refine rz_All_c (i := 20) (fun k J hk hJ => rz_ifeq_ok (pc := 32) hx hb dX7_fits_32 rfl hk (hJ 23)) ?_
  refine rz_All_c (i := 21) (fun k J hk hJ => rz_iconst_ok (pc := 35) hx hb dX7_fits_35 rfl hk) ?_
  refine rz_All_c (i := 22) (fun k J hk hJ => rz_goto_ok (pc := 36) hx hb dX7_fits_36 rfl (hJ 24)) ?_
  refine rz_All_c (i := 23) (fun k J hk hJ => rz_iconst_ok (pc := 39) hx hb dX7_fits_39 rfl hk) ?_
  refine rz_All_c (i := 24) (fun k J hk hJ => rz_zret_ok (pc := 40) hC dX7_fits_40) ?_
  refine rz_All_c (i := 25) (fun k J hk hJ => rz_no_ok) ?_
  exact trivial
theorem dX7_isKind_0 : decode cX7_isKind 0 = .ok (.iload_n 1, 1) := by decide +kernel
theorem dX7_isKind_1 : decode cX7_isKind 1 = .ok (.ifCond .lt 28, 3) := by decide +kernel
theorem dX7_isKind_4 : decode cX7_isKind 4 = .ok (.iload_n 1, 1) := by decide +kernel
theorem dX7_isKind_5 : decode cX7_isKind 5 = .ok (.aload_n 0, 1) := by decide +kernel
theorem dX7_isKind_6 : decode cX7_isKind 6 = .ok (.getfield 62, 3) := by decide +kernel
theorem dX7_isKind_9 : decode cX7_isKind 9 = .ok (.if_icmp .ge 20, 3) := by decide +kernel
theorem dX7_isKind_12 : decode cX7_isKind 12 = .ok (.aload_n 0, 1) := by decide +kernel
theorem dX7_isKind_13 : decode cX7_isKind 13 = .ok (.getfield 11, 3) := by decide +kernel
theorem dX7_isKind_16 : decode cX7_isKind 16 = .ok (.iconst 3, 1) := by decide +kernel
theorem dX7_isKind_17 : decode cX7_isKind 17 = .ok (.aaload, 1) := by decide +kernel
theorem dX7_isKind_18 : decode cX7_isKind 18 = .ok (.iload_n 1, 1) := by decide +kernel
theorem dX7_isKind_19 : decode cX7_isKind 19 = .ok (.iaload, 1) := by decide +kernel
theorem dX7_isKind_20 : decode cX7_isKind 20 = .ok (.iload_n 2, 1) := by decide +kernel
theorem dX7_isKind_21 : decode cX7_isKind 21 = .ok (.iand, 1) := by decide +kernel
theorem dX7_isKind_22 : decode cX7_isKind 22 = .ok (.ifCond .eq 7, 3) := by decide +kernel
theorem dX7_isKind_25 : decode cX7_isKind 25 = .ok (.iconst 1, 1) := by decide +kernel
theorem dX7_isKind_26 : decode cX7_isKind 26 = .ok (.goto 4, 3) := by decide +kernel
theorem dX7_isKind_29 : decode cX7_isKind 29 = .ok (.iconst 0, 1) := by decide +kernel
theorem dX7_isKind_30 : decode cX7_isKind 30 = .ok (.ireturn, 1) := by decide +kernel
def rpX7_isKind : List Nat := [0, 1, 4, 5, 6, 9, 12, 13, 16, 17, 18, 19, 20, 21, 22, 25, 26, 29, 30]
noncomputable def rcX7_isKind : List rz_B := [rz_iload 1, rz_iflt 17, rz_iload 1, rz_aload 0, rz_getf (Nat.add (Nat.mul 256 9) 1) 2 rz_i, rz_icmpge 17, rz_aload 0, rz_getf (Nat.add (Nat.mul 256 9) 1) 3 rz_r, rz_cst 3, rz_aald, rz_iload 1, rz_iald, rz_iload 2, rz_iand, rz_ifeq 17, rz_cst 1, rz_goto 18, rz_cst 0, rz_zret]
noncomputable def rgX7_isKind : rz_L → rz_M → rz_Z → Bool := rz_go rcX7_isKind 3 1000000
def rrX7_isKind : Room := { frames := 0, cells := 0, slots := 0, locals := 0 }
theorem rmX7_isKind (l : Launch) {G : rz_G} (hG : rz_Gd G) (vs : rz_L) (M : rz_M) (Z : rz_Z) (hn : vs.length = 3) (h : rgX7_isKind vs M Z = true) : Met l yX7_isKind (Cond.code yX7_isKind cX7_isKind 3 (some .boolean) :: rz_TB) rrX7_isKind (rz_Pre G vs M) (rz_Qi G M.2 Z) 0 0 (fun q => rz_b G ≤ q) := by
  obtain ⟨D, tc, ad, b, xs, rfl⟩ := id hG
  refine rz_body (pcs := rpX7_isKind) (by decide) rfl (by rw [hn]; decide) h ?_
  intro p e R s m args below meth c hC
  obtain ⟨hx, hb, hml, hr, hlk, ho, hts, hKn, hRm⟩ := id hC
  obtain ⟨hK, hA, hSt⟩ := id hKn
  have hw : ∀ {i j : Nat} {ws : List Cond} {w : Cond}, rz_WW[i]? = some ws → ws[j]? = some w → w.before args s = true := fun h1 h2 => hts _ (List.mem_cons_of_mem _ (rz_mem h1 h2))
  refine rz_All_c (i := 0) (fun k J hk hJ => rz_iload_n_ok (pc := 0) hx hb dX7_isKind_0 rfl hk) ?_
  refine rz_All_c (i := 1) (fun k J hk hJ => rz_iflt_ok (pc := 1) hx hb dX7_isKind_1 rfl hk (hJ 17)) ?_
  refine rz_All_c (i := 2) (fun k J hk hJ => rz_iload_n_ok (pc := 4) hx hb dX7_isKind_4 rfl hk) ?_
  refine rz_All_c (i := 3) (fun k J hk hJ => rz_aload_n_ok (pc := 5) hx hb dX7_isKind_5 rfl hk) ?_
  refine rz_All_c (i := 4) (fun k J hk hJ => rz_getf_ok (pc := 6) (own := RX7) (ref := "ThreadJudge$Program") (C := RX7) (T := TX7) (N := 22) (ci := 9) (index := 62) (f := 2) (t := 0) (Ts := Cond.code yX7_isKind cX7_isKind 3 (some .boolean) :: rz_TB) hx hb hts rz_in9 ho hK rfl (by decide) rfl (fun _ => rfl) (hw (i := 1) (j := 4) rfl rfl) (fun _ z => z) dX7_isKind_6 hk) ?_
  refine rz_All_c (i := 5) (fun k J hk hJ => rz_icmpge_ok (pc := 9) hx hb dX7_isKind_9 rfl hk (hJ 17)) ?_
  refine rz_All_c (i := 6) (fun k J hk hJ => rz_aload_n_ok (pc := 12) hx hb dX7_isKind_12 rfl hk) ?_
  refine rz_All_c (i := 7) (fun k J hk hJ => rz_getf_ok (pc := 13) (own := RX7) (ref := "ThreadJudge$Program") (C := RX7) (T := TX7) (N := 22) (ci := 9) (index := 11) (f := 3) (t := 2) (Ts := Cond.code yX7_isKind cX7_isKind 3 (some .boolean) :: rz_TB) hx hb hts rz_in9 ho hK rfl (by decide) rfl (fun _ => rfl) (hw (i := 16) (j := 12) rfl rfl) (fun _ z => z) dX7_isKind_13 hk) ?_
  refine rz_All_c (i := 8) (fun k J hk hJ => rz_iconst_ok (pc := 16) hx hb dX7_isKind_16 rfl hk) ?_
  refine rz_All_c (i := 9) (fun k J hk hJ => rz_aald_ok (pc := 17) hx hb hK dX7_isKind_17 hk) ?_
  refine rz_All_c (i := 10) (fun k J hk hJ => rz_iload_n_ok (pc := 18) hx hb dX7_isKind_18 rfl hk) ?_
  refine rz_All_c (i := 11) (fun k J hk hJ => rz_iald_ok (pc := 19) hx hb hK dX7_isKind_19 hk) ?_
  refine rz_All_c (i := 12) (fun k J hk hJ => rz_iload_n_ok (pc := 20) hx hb dX7_isKind_20 rfl hk) ?_
  refine rz_All_c (i := 13) (fun k J hk hJ => rz_iand_ok (pc := 21) hx hb dX7_isKind_21 hk) ?_
  refine rz_All_c (i := 14) (fun k J hk hJ => rz_ifeq_ok (pc := 22) hx hb dX7_isKind_22 rfl hk (hJ 17)) ?_
  refine rz_All_c (i := 15) (fun k J hk hJ => rz_iconst_ok (pc := 25) hx hb dX7_isKind_25 rfl hk) ?_
  refine rz_All_c (i := 16) (fun k J hk hJ => rz_goto_ok (pc := 26) hx hb dX7_isKind_26 rfl (hJ 18)) ?_
  refine rz_All_c (i := 17) (fun k J hk hJ => rz_iconst_ok (pc := 29) hx hb dX7_isKind_29 rfl hk) ?_
  refine rz_All_c (i := 18) (fun k J hk hJ => rz_zret_ok (pc := 30) hC dX7_isKind_30) ?_
  exact trivial
theorem dX7_own_0 : decode cX7_own 0 = .ok (.aload_n 0, 1) := by decide +kernel
theorem dX7_own_1 : decode cX7_own 1 = .ok (.getfield 11, 3) := by decide +kernel
theorem dX7_own_4 : decode cX7_own 4 = .ok (.iconst 4, 1) := by decide +kernel
theorem dX7_own_5 : decode cX7_own 5 = .ok (.aaload, 1) := by decide +kernel
theorem dX7_own_6 : decode cX7_own 6 = .ok (.iload_n 1, 1) := by decide +kernel
theorem dX7_own_7 : decode cX7_own 7 = .ok (.iaload, 1) := by decide +kernel
theorem dX7_own_8 : decode cX7_own 8 = .ok (.istore_n 3, 1) := by decide +kernel
theorem dX7_own_9 : decode cX7_own 9 = .ok (.iload_n 3, 1) := by decide +kernel
theorem dX7_own_10 : decode cX7_own 10 = .ok (.istore 4, 2) := by decide +kernel
theorem dX7_own_12 : decode cX7_own 12 = .ok (.iload 4, 2) := by decide +kernel
theorem dX7_own_14 : decode cX7_own 14 = .ok (.iload_n 3, 1) := by decide +kernel
theorem dX7_own_15 : decode cX7_own 15 = .ok (.aload_n 0, 1) := by decide +kernel
theorem dX7_own_16 : decode cX7_own 16 = .ok (.getfield 11, 3) := by decide +kernel
theorem dX7_own_19 : decode cX7_own 19 = .ok (.iconst 5, 1) := by decide +kernel
theorem dX7_own_20 : decode cX7_own 20 = .ok (.aaload, 1) := by decide +kernel
theorem dX7_own_21 : decode cX7_own 21 = .ok (.iload_n 1, 1) := by decide +kernel
theorem dX7_own_22 : decode cX7_own 22 = .ok (.iaload, 1) := by decide +kernel
theorem dX7_own_23 : decode cX7_own 23 = .ok (.iadd, 1) := by decide +kernel
theorem dX7_own_24 : decode cX7_own 24 = .ok (.if_icmp .ge 26, 3) := by decide +kernel
theorem dX7_own_27 : decode cX7_own 27 = .ok (.aload_n 0, 1) := by decide +kernel
theorem dX7_own_28 : decode cX7_own 28 = .ok (.getfield 30, 3) := by decide +kernel
theorem dX7_own_31 : decode cX7_own 31 = .ok (.bipush 12, 2) := by decide +kernel
theorem dX7_own_33 : decode cX7_own 33 = .ok (.aaload, 1) := by decide +kernel
theorem dX7_own_34 : decode cX7_own 34 = .ok (.iload 4, 2) := by decide +kernel
theorem dX7_own_36 : decode cX7_own 36 = .ok (.iaload, 1) := by decide +kernel
theorem dX7_own_37 : decode cX7_own 37 = .ok (.iload_n 2, 1) := by decide +kernel
theorem dX7_own_38 : decode cX7_own 38 = .ok (.if_icmp .ne 6, 3) := by decide +kernel
theorem dX7_own_41 : decode cX7_own 41 = .ok (.iload 4, 2) := by decide +kernel
theorem dX7_own_43 : decode cX7_own 43 = .ok (.ireturn, 1) := by decide +kernel
theorem dX7_own_44 : decode cX7_own 44 = .ok (.iinc 4 1, 3) := by decide +kernel
theorem dX7_own_47 : decode cX7_own 47 = .ok (.goto (-35), 3) := by decide +kernel
theorem dX7_own_50 : decode cX7_own 50 = .ok (.iconst (-1), 1) := by decide +kernel
theorem dX7_own_51 : decode cX7_own 51 = .ok (.ireturn, 1) := by decide +kernel
def rpX7_own : List Nat := [0, 1, 4, 5, 6, 7, 8, 9, 10, 12, 14, 15, 16, 19, 20, 21, 22, 23, 24, 27, 28, 31, 33, 34, 36, 37, 38, 41, 43, 44, 47, 50, 51]
noncomputable def rcX7_own : List rz_B := [rz_aload 0, rz_getf (Nat.add (Nat.mul 256 9) 1) 3 rz_r, rz_cst 4, rz_aald, rz_iload 1, rz_iald, rz_istore 3, rz_iload 3, rz_istore 4, rz_iload 4, rz_iload 3, rz_aload 0, rz_getf (Nat.add (Nat.mul 256 9) 1) 3 rz_r, rz_cst 5, rz_aald, rz_iload 1, rz_iald, rz_iadd, rz_icmpge 31, rz_aload 0, rz_getf (Nat.add (Nat.mul 256 9) 1) 10 rz_r, rz_cst 12, rz_aald, rz_iload 4, rz_iald, rz_iload 2, rz_icmpne 29, rz_iload 4, rz_iret, rz_iinc 4 1, rz_goto 9, rz_cst 4294967295, rz_iret]
noncomputable def rgX7_own : rz_L → rz_M → rz_Z → Bool := rz_go rcX7_own 5 1000000
def rrX7_own : Room := { frames := 0, cells := 0, slots := 0, locals := 0 }
theorem rmX7_own (l : Launch) {G : rz_G} (hG : rz_Gd G) (vs : rz_L) (M : rz_M) (Z : rz_Z) (hn : vs.length = 3) (h : rgX7_own vs M Z = true) : Met l yX7_own (Cond.code yX7_own cX7_own 5 (some .int) :: rz_TB) rrX7_own (rz_Pre G vs M) (rz_Qi G M.2 Z) 0 0 (fun q => rz_b G ≤ q) := by
  obtain ⟨D, tc, ad, b, xs, rfl⟩ := id hG
  refine rz_body (pcs := rpX7_own) (by decide) rfl (by rw [hn]; decide) h ?_
  intro p e R s m args below meth c hC
  obtain ⟨hx, hb, hml, hr, hlk, ho, hts, hKn, hRm⟩ := id hC
  obtain ⟨hK, hA, hSt⟩ := id hKn
  have hw : ∀ {i j : Nat} {ws : List Cond} {w : Cond}, rz_WW[i]? = some ws → ws[j]? = some w → w.before args s = true := fun h1 h2 => hts _ (List.mem_cons_of_mem _ (rz_mem h1 h2))
  refine rz_All_c (i := 0) (fun k J hk hJ => rz_aload_n_ok (pc := 0) hx hb dX7_own_0 rfl hk) ?_
  refine rz_All_c (i := 1) (fun k J hk hJ => rz_getf_ok (pc := 1) (own := RX7) (ref := "ThreadJudge$Program") (C := RX7) (T := TX7) (N := 22) (ci := 9) (index := 11) (f := 3) (t := 2) (Ts := Cond.code yX7_own cX7_own 5 (some .int) :: rz_TB) hx hb hts rz_in9 ho hK rfl (by decide) rfl (fun _ => rfl) (hw (i := 16) (j := 12) rfl rfl) (fun _ z => z) dX7_own_1 hk) ?_
  refine rz_All_c (i := 2) (fun k J hk hJ => rz_iconst_ok (pc := 4) hx hb dX7_own_4 rfl hk) ?_
  refine rz_All_c (i := 3) (fun k J hk hJ => rz_aald_ok (pc := 5) hx hb hK dX7_own_5 hk) ?_
  refine rz_All_c (i := 4) (fun k J hk hJ => rz_iload_n_ok (pc := 6) hx hb dX7_own_6 rfl hk) ?_
  refine rz_All_c (i := 5) (fun k J hk hJ => rz_iald_ok (pc := 7) hx hb hK dX7_own_7 hk) ?_
  refine rz_All_c (i := 6) (fun k J hk hJ => rz_istore_n_ok (pc := 8) hx hb dX7_own_8 rfl hk) ?_
  refine rz_All_c (i := 7) (fun k J hk hJ => rz_iload_n_ok (pc := 9) hx hb dX7_own_9 rfl hk) ?_
  refine rz_All_c (i := 8) (fun k J hk hJ => rz_istore_ok (pc := 10) hx hb dX7_own_10 hk) ?_
  refine rz_All_c (i := 9) (fun k J hk hJ => rz_iload_ok (pc := 12) hx hb dX7_own_12 hk) ?_
  refine rz_All_c (i := 10) (fun k J hk hJ => rz_iload_n_ok (pc := 14) hx hb dX7_own_14 rfl hk) ?_
  refine rz_All_c (i := 11) (fun k J hk hJ => rz_aload_n_ok (pc := 15) hx hb dX7_own_15 rfl hk) ?_
  refine rz_All_c (i := 12) (fun k J hk hJ => rz_getf_ok (pc := 16) (own := RX7) (ref := "ThreadJudge$Program") (C := RX7) (T := TX7) (N := 22) (ci := 9) (index := 11) (f := 3) (t := 2) (Ts := Cond.code yX7_own cX7_own 5 (some .int) :: rz_TB) hx hb hts rz_in9 ho hK rfl (by decide) rfl (fun _ => rfl) (hw (i := 16) (j := 12) rfl rfl) (fun _ z => z) dX7_own_16 hk) ?_
  refine rz_All_c (i := 13) (fun k J hk hJ => rz_iconst_ok (pc := 19) hx hb dX7_own_19 rfl hk) ?_
  refine rz_All_c (i := 14) (fun k J hk hJ => rz_aald_ok (pc := 20) hx hb hK dX7_own_20 hk) ?_
  refine rz_All_c (i := 15) (fun k J hk hJ => rz_iload_n_ok (pc := 21) hx hb dX7_own_21 rfl hk) ?_
  refine rz_All_c (i := 16) (fun k J hk hJ => rz_iald_ok (pc := 22) hx hb hK dX7_own_22 hk) ?_
  refine rz_All_c (i := 17) (fun k J hk hJ => rz_iadd_ok (pc := 23) hx hb dX7_own_23 hk) ?_
  refine rz_All_c (i := 18) (fun k J hk hJ => rz_icmpge_ok (pc := 24) hx hb dX7_own_24 rfl hk (hJ 31)) ?_
  refine rz_All_c (i := 19) (fun k J hk hJ => rz_aload_n_ok (pc := 27) hx hb dX7_own_27 rfl hk) ?_
  refine rz_All_c (i := 20) (fun k J hk hJ => rz_getf_ok (pc := 28) (own := RX7) (ref := "ThreadJudge$Program") (C := RX7) (T := TX7) (N := 22) (ci := 9) (index := 30) (f := 10) (t := 2) (Ts := Cond.code yX7_own cX7_own 5 (some .int) :: rz_TB) hx hb hts rz_in9 ho hK rfl (by decide) rfl (fun _ => rfl) (hw (i := 19) (j := 3) rfl rfl) (fun _ z => z) dX7_own_28 hk) ?_
  refine rz_All_c (i := 21) (fun k J hk hJ => rz_bipush_ok (pc := 31) hx hb dX7_own_31 (by decide) hk) ?_
  refine rz_All_c (i := 22) (fun k J hk hJ => rz_aald_ok (pc := 33) hx hb hK dX7_own_33 hk) ?_
  refine rz_All_c (i := 23) (fun k J hk hJ => rz_iload_ok (pc := 34) hx hb dX7_own_34 hk) ?_
  refine rz_All_c (i := 24) (fun k J hk hJ => rz_iald_ok (pc := 36) hx hb hK dX7_own_36 hk) ?_
  refine rz_All_c (i := 25) (fun k J hk hJ => rz_iload_n_ok (pc := 37) hx hb dX7_own_37 rfl hk) ?_
  refine rz_All_c (i := 26) (fun k J hk hJ => rz_icmpne_ok (pc := 38) hx hb dX7_own_38 rfl hk (hJ 29)) ?_
  refine rz_All_c (i := 27) (fun k J hk hJ => rz_iload_ok (pc := 41) hx hb dX7_own_41 hk) ?_
  refine rz_All_c (i := 28) (fun k J hk hJ => rz_iret_ok (pc := 43) hC dX7_own_43) ?_
  refine rz_All_c (i := 29) (fun k J hk hJ => rz_iinc_ok (pc := 44) hx hb dX7_own_44 (by decide) hk) ?_
  refine rz_All_c (i := 30) (fun k J hk hJ => rz_goto_ok (pc := 47) hx hb dX7_own_47 rfl (hJ 9)) ?_
  refine rz_All_c (i := 31) (fun k J hk hJ => rz_iconst_ok (pc := 50) hx hb dX7_own_50 rfl hk) ?_
  refine rz_All_c (i := 32) (fun k J hk hJ => rz_iret_ok (pc := 51) hC dX7_own_51) ?_
  exact trivial
theorem dX4_offers_0 : decode cX4_offers 0 = .ok (.aload_n 0, 1) := by decide +kernel
theorem dX4_offers_1 : decode cX4_offers 1 = .ok (.getfield 9, 3) := by decide +kernel
theorem dX4_offers_4 : decode cX4_offers 4 = .ok (.iload_n 2, 1) := by decide +kernel
theorem dX4_offers_5 : decode cX4_offers 5 = .ok (.iconst 1, 1) := by decide +kernel
theorem dX4_offers_6 : decode cX4_offers 6 = .ok (.invokevirtual 72, 3) := by decide +kernel
theorem dX4_offers_9 : decode cX4_offers 9 = .ok (.ifCond .eq 27, 3) := by decide +kernel
theorem dX4_offers_12 : decode cX4_offers 12 = .ok (.aload_n 0, 1) := by decide +kernel
theorem dX4_offers_13 : decode cX4_offers 13 = .ok (.getfield 9, 3) := by decide +kernel
theorem dX4_offers_16 : decode cX4_offers 16 = .ok (.iload_n 1, 1) := by decide +kernel
theorem dX4_offers_17 : decode cX4_offers 17 = .ok (.iload_n 2, 1) := by decide +kernel
theorem dX4_offers_18 : decode cX4_offers 18 = .ok (.invokevirtual 138, 3) := by decide +kernel
theorem dX4_offers_21 : decode cX4_offers 21 = .ok (.ifCond .eq 15, 3) := by decide +kernel
theorem dX4_offers_24 : decode cX4_offers 24 = .ok (.aload_n 0, 1) := by decide +kernel
theorem dX4_offers_25 : decode cX4_offers 25 = .ok (.getfield 9, 3) := by decide +kernel
theorem dX4_offers_28 : decode cX4_offers 28 = .ok (.iload_n 2, 1) := by decide +kernel
theorem dX4_offers_29 : decode cX4_offers 29 = .ok (.iload_n 3, 1) := by decide +kernel
theorem dX4_offers_30 : decode cX4_offers 30 = .ok (.invokevirtual 154, 3) := by decide +kernel
theorem dX4_offers_33 : decode cX4_offers 33 = .ok (.goto 4, 3) := by decide +kernel
theorem dX4_offers_36 : decode cX4_offers 36 = .ok (.iconst (-1), 1) := by decide +kernel
theorem dX4_offers_37 : decode cX4_offers 37 = .ok (.istore 4, 2) := by decide +kernel
theorem dX4_offers_39 : decode cX4_offers 39 = .ok (.iload 4, 2) := by decide +kernel
theorem dX4_offers_41 : decode cX4_offers 41 = .ok (.ifCond .lt 21, 3) := by decide +kernel
theorem dX4_offers_62 : decode cX4_offers 62 = .ok (.iconst 0, 1) := by decide +kernel
theorem dX4_offers_63 : decode cX4_offers 63 = .ok (.ireturn, 1) := by decide +kernel
def rpX4_offers : List Nat := [0, 1, 4, 5, 6, 9, 12, 13, 16, 17, 18, 21, 24, 25, 28, 29, 30, 33, 36, 37, 39, 41, 44, 62, 63]
noncomputable def rcX4_offers : List rz_B := [rz_aload 0, rz_getf (Nat.add (Nat.mul 256 6) 1) 0 rz_r, rz_iload 2, rz_cst 1, rz_callV 2 (Nat.add (Nat.mul 256 9) 1) rgX7_isKind, rz_ifeq 18, rz_aload 0, rz_getf (Nat.add (Nat.mul 256 6) 1) 0 rz_r, rz_iload 1, rz_iload 2, rz_callV 2 (Nat.add (Nat.mul 256 9) 1) rgX7_fits, rz_ifeq 18, rz_aload 0, rz_getf (Nat.add (Nat.mul 256 6) 1) 0 rz_r, rz_iload 2, rz_iload 3, rz_callV 2 (Nat.add (Nat.mul 256 9) 1) rgX7_own, rz_goto 19, rz_cst 4294967295, rz_istore 4, rz_iload 4, rz_iflt 23, rz_no, rz_cst 0, rz_zret]
noncomputable def rgX4_offers : rz_L → rz_M → rz_Z → Bool := rz_go rcX4_offers 5 1000000
def rrX4_offers : Room := { frames := 1, cells := 0, slots := 0, locals := 24 }
theorem rmX4_offers (l : Launch) {G : rz_G} (hG : rz_Gd G) (vs : rz_L) (M : rz_M) (Z : rz_Z) (hn : vs.length = 4) (h : rgX4_offers vs M Z = true) : Met l yX4_offers (Cond.code yX4_offers cX4_offers 5 (some .boolean) :: rz_TB) rrX4_offers (rz_Pre G vs M) (rz_Qi G M.2 Z) 0 0 (fun q => rz_b G ≤ q) := by
  obtain ⟨D, tc, ad, b, xs, rfl⟩ := id hG
  refine rz_body (pcs := rpX4_offers) (by decide) rfl (by rw [hn]; decide) h ?_
  intro p e R s m args below meth c hC
  obtain ⟨hx, hb, hml, hr, hlk, ho, hts, hKn, hRm⟩ := id hC
  obtain ⟨hK, hA, hSt⟩ := id hKn
  have hw : ∀ {i j : Nat} {ws : List Cond} {w : Cond}, rz_WW[i]? = some ws → ws[j]? = some w → w.before args s = true := fun h1 h2 => hts _ (List.mem_cons_of_mem _ (rz_mem h1 h2))
  refine rz_All_c (i := 0) (fun k J hk hJ => rz_aload_n_ok (pc := 0) hx hb dX4_offers_0 rfl hk) ?_
  refine rz_All_c (i := 1) (fun k J hk hJ => rz_getf_ok (pc := 1) (own := RX4) (ref := "ThreadJudge$Linker") (C := RX4) (T := TX4) (N := 4) (ci := 6) (index := 9) (f := 0) (t := 2) (Ts := Cond.code yX4_offers cX4_offers 5 (some .boolean) :: rz_TB) hx hb hts rz_in6 ho hK rfl (by decide) rfl (fun _ => rfl) (hw (i := 16) (j := 3) rfl rfl) (fun _ z => z) dX4_offers_1 hk) ?_
  refine rz_All_c (i := 2) (fun k J hk hJ => rz_iload_n_ok (pc := 4) hx hb dX4_offers_4 rfl hk) ?_
  refine rz_All_c (i := 3) (fun k J hk hJ => rz_iconst_ok (pc := 5) hx hb dX4_offers_5 rfl hk) ?_
  refine rz_All_c (i := 4) (fun k J hk hJ => rz_callV_ok (pc := 6) (own := RX4) (C := RX7) (T0 := TX7) (N0 := 22) hC rfl (rmX7_isKind l hG) (rz_cwV 2 hC rz_good (rz_mem (i := 16) (j := 21) rfl rfl) (rz_mem (i := 16) (j := 22) rfl rfl) (rz_mem (i := 16) (j := 23) rfl rfl) (rz_mem (i := 1) (j := 0) rfl rfl) (rz_mem (i := 17) (j := 0) rfl rfl) ⟨rfl, by decide, by decide, by decide +kernel⟩ rfl rfl ⟨by decide, by decide⟩) rfl dX4_offers_6 hk) ?_
  refine rz_All_c (i := 5) (fun k J hk hJ => rz_ifeq_ok (pc := 9) hx hb dX4_offers_9 rfl hk (hJ 18)) ?_
  refine rz_All_c (i := 6) (fun k J hk hJ => rz_aload_n_ok (pc := 12) hx hb dX4_offers_12 rfl hk) ?_
  refine rz_All_c (i := 7) (fun k J hk hJ => rz_getf_ok (pc := 13) (own := RX4) (ref := "ThreadJudge$Linker") (C := RX4) (T := TX4) (N := 4) (ci := 6) (index := 9) (f := 0) (t := 2) (Ts := Cond.code yX4_offers cX4_offers 5 (some .boolean) :: rz_TB) hx hb hts rz_in6 ho hK rfl (by decide) rfl (fun _ => rfl) (hw (i := 16) (j := 3) rfl rfl) (fun _ z => z) dX4_offers_13 hk) ?_
  refine rz_All_c (i := 8) (fun k J hk hJ => rz_iload_n_ok (pc := 16) hx hb dX4_offers_16 rfl hk) ?_
  refine rz_All_c (i := 9) (fun k J hk hJ => rz_iload_n_ok (pc := 17) hx hb dX4_offers_17 rfl hk) ?_
  refine rz_All_c (i := 10) (fun k J hk hJ => rz_callV_ok (pc := 18) (own := RX4) (C := RX7) (T0 := TX7) (N0 := 22) hC rfl (rmX7_fits l hG) (rz_cwV 2 hC rz_good (rz_mem (i := 19) (j := 16) rfl rfl) (rz_mem (i := 19) (j := 17) rfl rfl) (rz_mem (i := 19) (j := 18) rfl rfl) (rz_mem (i := 1) (j := 0) rfl rfl) (rz_mem (i := 19) (j := 19) rfl rfl) ⟨rfl, by decide, by decide, by decide +kernel⟩ rfl rfl ⟨by decide, by decide⟩) rfl dX4_offers_18 hk) ?_
  refine rz_All_c (i := 11) (fun k J hk hJ => rz_ifeq_ok (pc := 21) hx hb dX4_offers_21 rfl hk (hJ 18)) ?_
  refine rz_All_c (i := 12) (fun k J hk hJ => rz_aload_n_ok (pc := 24) hx hb dX4_offers_24 rfl hk) ?_
  refine rz_All_c (i := 13) (fun k J hk hJ => rz_getf_ok (pc := 25) (own := RX4) (ref := "ThreadJudge$Linker") (C := RX4) (T := TX4) (N := 4) (ci := 6) (index := 9) (f := 0) (t := 2) (Ts := Cond.code yX4_offers cX4_offers 5 (some .boolean) :: rz_TB) hx hb hts rz_in6 ho hK rfl (by decide) rfl (fun _ => rfl) (hw (i := 16) (j := 3) rfl rfl) (fun _ z => z) dX4_offers_25 hk) ?_
  refine rz_All_c (i := 14) (fun k J hk hJ => rz_iload_n_ok (pc := 28) hx hb dX4_offers_28 rfl hk) ?_
  refine rz_All_c (i := 15) (fun k J hk hJ => rz_iload_n_ok (pc := 29) hx hb dX4_offers_29 rfl hk) ?_
  refine rz_All_c (i := 16) (fun k J hk hJ => rz_callV_ok (pc := 30) (own := RX4) (C := RX7) (T0 := TX7) (N0 := 22) hC rfl (rmX7_own l hG) (rz_cwV 2 hC rz_good (rz_mem (i := 20) (j := 18) rfl rfl) (rz_mem (i := 20) (j := 19) rfl rfl) (rz_mem (i := 20) (j := 20) rfl rfl) (rz_mem (i := 1) (j := 0) rfl rfl) (rz_mem (i := 20) (j := 21) rfl rfl) ⟨rfl, by decide, by decide, by decide +kernel⟩ rfl rfl ⟨by decide, by decide⟩) rfl dX4_offers_30 hk) ?_
  refine rz_All_c (i := 17) (fun k J hk hJ => rz_goto_ok (pc := 33) hx hb dX4_offers_33 rfl (hJ 19)) ?_
  refine rz_All_c (i := 18) (fun k J hk hJ => rz_iconst_ok (pc := 36) hx hb dX4_offers_36 rfl hk) ?_
  refine rz_All_c (i := 19) (fun k J hk hJ => rz_istore_ok (pc := 37) hx hb dX4_offers_37 hk) ?_
  refine rz_All_c (i := 20) (fun k J hk hJ => rz_iload_ok (pc := 39) hx hb dX4_offers_39 hk) ?_
  refine rz_All_c (i := 21) (fun k J hk hJ => rz_iflt_ok (pc := 41) hx hb dX4_offers_41 rfl hk (hJ 23)) ?_
  refine rz_All_c (i := 22) (fun k J hk hJ => rz_no_ok) ?_
  refine rz_All_c (i := 23) (fun k J hk hJ => rz_iconst_ok (pc := 62) hx hb dX4_offers_62 rfl hk) ?_
  refine rz_All_c (i := 24) (fun k J hk hJ => rz_zret_ok (pc := 63) hC dX4_offers_63) ?_
  exact trivial
theorem dX7_hasFlag_0 : decode cX7_hasFlag 0 = .ok (.aload_n 0, 1) := by decide +kernel
theorem dX7_hasFlag_1 : decode cX7_hasFlag 1 = .ok (.getfield 30, 3) := by decide +kernel
theorem dX7_hasFlag_4 : decode cX7_hasFlag 4 = .ok (.iconst 4, 1) := by decide +kernel
theorem dX7_hasFlag_5 : decode cX7_hasFlag 5 = .ok (.aaload, 1) := by decide +kernel
theorem dX7_hasFlag_6 : decode cX7_hasFlag 6 = .ok (.iload_n 1, 1) := by decide +kernel
theorem dX7_hasFlag_7 : decode cX7_hasFlag 7 = .ok (.iaload, 1) := by decide +kernel
theorem dX7_hasFlag_8 : decode cX7_hasFlag 8 = .ok (.iload_n 2, 1) := by decide +kernel
theorem dX7_hasFlag_9 : decode cX7_hasFlag 9 = .ok (.iand, 1) := by decide +kernel
theorem dX7_hasFlag_10 : decode cX7_hasFlag 10 = .ok (.ifCond .eq 7, 3) := by decide +kernel
theorem dX7_hasFlag_13 : decode cX7_hasFlag 13 = .ok (.iconst 1, 1) := by decide +kernel
theorem dX7_hasFlag_14 : decode cX7_hasFlag 14 = .ok (.goto 4, 3) := by decide +kernel
theorem dX7_hasFlag_17 : decode cX7_hasFlag 17 = .ok (.iconst 0, 1) := by decide +kernel
theorem dX7_hasFlag_18 : decode cX7_hasFlag 18 = .ok (.ireturn, 1) := by decide +kernel
def rpX7_hasFlag : List Nat := [0, 1, 4, 5, 6, 7, 8, 9, 10, 13, 14, 17, 18]
noncomputable def rcX7_hasFlag : List rz_B := [rz_aload 0, rz_getf (Nat.add (Nat.mul 256 9) 1) 10 rz_r, rz_cst 4, rz_aald, rz_iload 1, rz_iald, rz_iload 2, rz_iand, rz_ifeq 11, rz_cst 1, rz_goto 12, rz_cst 0, rz_zret]
noncomputable def rgX7_hasFlag : rz_L → rz_M → rz_Z → Bool := rz_go rcX7_hasFlag 3 1000000
def rrX7_hasFlag : Room := { frames := 0, cells := 0, slots := 0, locals := 0 }
theorem rmX7_hasFlag (l : Launch) {G : rz_G} (hG : rz_Gd G) (vs : rz_L) (M : rz_M) (Z : rz_Z) (hn : vs.length = 3) (h : rgX7_hasFlag vs M Z = true) : Met l yX7_hasFlag (Cond.code yX7_hasFlag cX7_hasFlag 3 (some .boolean) :: rz_TB) rrX7_hasFlag (rz_Pre G vs M) (rz_Qi G M.2 Z) 0 0 (fun q => rz_b G ≤ q) := by
  obtain ⟨D, tc, ad, b, xs, rfl⟩ := id hG
  refine rz_body (pcs := rpX7_hasFlag) (by decide) rfl (by rw [hn]; decide) h ?_
  intro p e R s m args below meth c hC
  obtain ⟨hx, hb, hml, hr, hlk, ho, hts, hKn, hRm⟩ := id hC
  obtain ⟨hK, hA, hSt⟩ := id hKn
  have hw : ∀ {i j : Nat} {ws : List Cond} {w : Cond}, rz_WW[i]? = some ws → ws[j]? = some w → w.before args s = true := fun h1 h2 => hts _ (List.mem_cons_of_mem _ (rz_mem h1 h2))
  refine rz_All_c (i := 0) (fun k J hk hJ => rz_aload_n_ok (pc := 0) hx hb dX7_hasFlag_0 rfl hk) ?_
  refine rz_All_c (i := 1) (fun k J hk hJ => rz_getf_ok (pc := 1) (own := RX7) (ref := "ThreadJudge$Program") (C := RX7) (T := TX7) (N := 22) (ci := 9) (index := 30) (f := 10) (t := 2) (Ts := Cond.code yX7_hasFlag cX7_hasFlag 3 (some .boolean) :: rz_TB) hx hb hts rz_in9 ho hK rfl (by decide) rfl (fun _ => rfl) (hw (i := 19) (j := 3) rfl rfl) (fun _ z => z) dX7_hasFlag_1 hk) ?_
  refine rz_All_c (i := 2) (fun k J hk hJ => rz_iconst_ok (pc := 4) hx hb dX7_hasFlag_4 rfl hk) ?_
  refine rz_All_c (i := 3) (fun k J hk hJ => rz_aald_ok (pc := 5) hx hb hK dX7_hasFlag_5 hk) ?_
  refine rz_All_c (i := 4) (fun k J hk hJ => rz_iload_n_ok (pc := 6) hx hb dX7_hasFlag_6 rfl hk) ?_
  refine rz_All_c (i := 5) (fun k J hk hJ => rz_iald_ok (pc := 7) hx hb hK dX7_hasFlag_7 hk) ?_
  refine rz_All_c (i := 6) (fun k J hk hJ => rz_iload_n_ok (pc := 8) hx hb dX7_hasFlag_8 rfl hk) ?_
  refine rz_All_c (i := 7) (fun k J hk hJ => rz_iand_ok (pc := 9) hx hb dX7_hasFlag_9 hk) ?_
  refine rz_All_c (i := 8) (fun k J hk hJ => rz_ifeq_ok (pc := 10) hx hb dX7_hasFlag_10 rfl hk (hJ 11)) ?_
  refine rz_All_c (i := 9) (fun k J hk hJ => rz_iconst_ok (pc := 13) hx hb dX7_hasFlag_13 rfl hk) ?_
  refine rz_All_c (i := 10) (fun k J hk hJ => rz_goto_ok (pc := 14) hx hb dX7_hasFlag_14 rfl (hJ 12)) ?_
  refine rz_All_c (i := 11) (fun k J hk hJ => rz_iconst_ok (pc := 17) hx hb dX7_hasFlag_17 rfl hk) ?_
  refine rz_All_c (i := 12) (fun k J hk hJ => rz_zret_ok (pc := 18) hC dX7_hasFlag_18) ?_
  exact trivial
theorem dX4_choose_0 : decode cX4_choose 0 = .ok (.iload_n 1, 1) := by decide +kernel
theorem dX4_choose_1 : decode cX4_choose 1 = .ok (.istore_n 3, 1) := by decide +kernel
theorem dX4_choose_2 : decode cX4_choose 2 = .ok (.iconst 0, 1) := by decide +kernel
theorem dX4_choose_3 : decode cX4_choose 3 = .ok (.istore 4, 2) := by decide +kernel
theorem dX4_choose_5 : decode cX4_choose 5 = .ok (.iload_n 3, 1) := by decide +kernel
theorem dX4_choose_6 : decode cX4_choose 6 = .ok (.ifCond .lt 78, 3) := by decide +kernel
theorem dX4_choose_9 : decode cX4_choose 9 = .ok (.iload 4, 2) := by decide +kernel
theorem dX4_choose_11 : decode cX4_choose 11 = .ok (.bipush 43, 2) := by decide +kernel
theorem dX4_choose_13 : decode cX4_choose 13 = .ok (.if_icmp .ge 71, 3) := by decide +kernel
theorem dX4_choose_16 : decode cX4_choose 16 = .ok (.aload_n 0, 1) := by decide +kernel
theorem dX4_choose_17 : decode cX4_choose 17 = .ok (.getfield 9, 3) := by decide +kernel
theorem dX4_choose_20 : decode cX4_choose 20 = .ok (.iload_n 3, 1) := by decide +kernel
theorem dX4_choose_21 : decode cX4_choose 21 = .ok (.iload_n 2, 1) := by decide +kernel
theorem dX4_choose_22 : decode cX4_choose 22 = .ok (.invokevirtual 154, 3) := by decide +kernel
theorem dX4_choose_25 : decode cX4_choose 25 = .ok (.istore 5, 2) := by decide +kernel
theorem dX4_choose_27 : decode cX4_choose 27 = .ok (.iload 5, 2) := by decide +kernel
theorem dX4_choose_29 : decode cX4_choose 29 = .ok (.ifCond .lt 37, 3) := by decide +kernel
theorem dX4_choose_32 : decode cX4_choose 32 = .ok (.aload_n 0, 1) := by decide +kernel
theorem dX4_choose_33 : decode cX4_choose 33 = .ok (.getfield 9, 3) := by decide +kernel
theorem dX4_choose_36 : decode cX4_choose 36 = .ok (.iload 5, 2) := by decide +kernel
theorem dX4_choose_38 : decode cX4_choose 38 = .ok (.iconst 1, 1) := by decide +kernel
theorem dX4_choose_39 : decode cX4_choose 39 = .ok (.invokevirtual 132, 3) := by decide +kernel
theorem dX4_choose_42 : decode cX4_choose 42 = .ok (.ifCond .ne 24, 3) := by decide +kernel
theorem dX4_choose_45 : decode cX4_choose 45 = .ok (.aload_n 0, 1) := by decide +kernel
theorem dX4_choose_46 : decode cX4_choose 46 = .ok (.getfield 9, 3) := by decide +kernel
theorem dX4_choose_49 : decode cX4_choose 49 = .ok (.iload 5, 2) := by decide +kernel
theorem dX4_choose_51 : decode cX4_choose 51 = .ok (.bipush 8, 2) := by decide +kernel
theorem dX4_choose_53 : decode cX4_choose 53 = .ok (.invokevirtual 132, 3) := by decide +kernel
theorem dX4_choose_56 : decode cX4_choose 56 = .ok (.ifCond .eq 7, 3) := by decide +kernel
theorem dX4_choose_59 : decode cX4_choose 59 = .ok (.iconst (-1), 1) := by decide +kernel
theorem dX4_choose_60 : decode cX4_choose 60 = .ok (.goto 5, 3) := by decide +kernel
theorem dX4_choose_63 : decode cX4_choose 63 = .ok (.iload 5, 2) := by decide +kernel
theorem dX4_choose_65 : decode cX4_choose 65 = .ok (.ireturn, 1) := by decide +kernel
theorem dX4_choose_66 : decode cX4_choose 66 = .ok (.aload_n 0, 1) := by decide +kernel
theorem dX4_choose_67 : decode cX4_choose 67 = .ok (.getfield 9, 3) := by decide +kernel
theorem dX4_choose_70 : decode cX4_choose 70 = .ok (.getfield 54, 3) := by decide +kernel
theorem dX4_choose_73 : decode cX4_choose 73 = .ok (.iconst 2, 1) := by decide +kernel
theorem dX4_choose_74 : decode cX4_choose 74 = .ok (.aaload, 1) := by decide +kernel
theorem dX4_choose_75 : decode cX4_choose 75 = .ok (.iload_n 3, 1) := by decide +kernel
theorem dX4_choose_76 : decode cX4_choose 76 = .ok (.iaload, 1) := by decide +kernel
theorem dX4_choose_77 : decode cX4_choose 77 = .ok (.istore_n 3, 1) := by decide +kernel
theorem dX4_choose_78 : decode cX4_choose 78 = .ok (.iinc 4 1, 3) := by decide +kernel
theorem dX4_choose_81 : decode cX4_choose 81 = .ok (.goto (-76), 3) := by decide +kernel
theorem dX4_choose_84 : decode cX4_choose 84 = .ok (.iconst (-1), 1) := by decide +kernel
theorem dX4_choose_85 : decode cX4_choose 85 = .ok (.istore_n 3, 1) := by decide +kernel
theorem dX4_choose_86 : decode cX4_choose 86 = .ok (.iconst 0, 1) := by decide +kernel
theorem dX4_choose_87 : decode cX4_choose 87 = .ok (.istore 4, 2) := by decide +kernel
theorem dX4_choose_89 : decode cX4_choose 89 = .ok (.iload 4, 2) := by decide +kernel
theorem dX4_choose_91 : decode cX4_choose 91 = .ok (.aload_n 0, 1) := by decide +kernel
theorem dX4_choose_92 : decode cX4_choose 92 = .ok (.getfield 9, 3) := by decide +kernel
theorem dX4_choose_95 : decode cX4_choose 95 = .ok (.getfield 45, 3) := by decide +kernel
theorem dX4_choose_98 : decode cX4_choose 98 = .ok (.if_icmp .ge 48, 3) := by decide +kernel
theorem dX4_choose_101 : decode cX4_choose 101 = .ok (.aload_n 0, 1) := by decide +kernel
theorem dX4_choose_102 : decode cX4_choose 102 = .ok (.iload_n 1, 1) := by decide +kernel
theorem dX4_choose_103 : decode cX4_choose 103 = .ok (.iload 4, 2) := by decide +kernel
theorem dX4_choose_105 : decode cX4_choose 105 = .ok (.iload_n 2, 1) := by decide +kernel
theorem dX4_choose_106 : decode cX4_choose 106 = .ok (.invokevirtual 157, 3) := by decide +kernel
theorem dX4_choose_109 : decode cX4_choose 109 = .ok (.ifCond .eq 31, 3) := by decide +kernel
theorem dX4_choose_140 : decode cX4_choose 140 = .ok (.iinc 4 1, 3) := by decide +kernel
theorem dX4_choose_143 : decode cX4_choose 143 = .ok (.goto (-54), 3) := by decide +kernel
theorem dX4_choose_146 : decode cX4_choose 146 = .ok (.iload_n 3, 1) := by decide +kernel
theorem dX4_choose_147 : decode cX4_choose 147 = .ok (.ireturn, 1) := by decide +kernel
def rpX4_choose : List Nat := [0, 1, 2, 3, 5, 6, 9, 11, 13, 16, 17, 20, 21, 22, 25, 27, 29, 32, 33, 36, 38, 39, 42, 45, 46, 49, 51, 53, 56, 59, 60, 63, 65, 66, 67, 70, 73, 74, 75, 76, 77, 78, 81, 84, 85, 86, 87, 89, 91, 92, 95, 98, 101, 102, 103, 105, 106, 109, 112, 140, 143, 146, 147]
noncomputable def rcX4_choose : List rz_B := [rz_iload 1, rz_istore 3, rz_cst 0, rz_istore 4, rz_iload 3, rz_iflt 43, rz_iload 4, rz_cst 43, rz_icmpge 43, rz_aload 0, rz_getf (Nat.add (Nat.mul 256 6) 1) 0 rz_r, rz_iload 3, rz_iload 2, rz_callV 2 (Nat.add (Nat.mul 256 9) 1) rgX7_own, rz_istore 5, rz_iload 5, rz_iflt 33, rz_aload 0, rz_getf (Nat.add (Nat.mul 256 6) 1) 0 rz_r, rz_iload 5, rz_cst 1, rz_callV 2 (Nat.add (Nat.mul 256 9) 1) rgX7_hasFlag, rz_ifne 33, rz_aload 0, rz_getf (Nat.add (Nat.mul 256 6) 1) 0 rz_r, rz_iload 5, rz_cst 8, rz_callV 2 (Nat.add (Nat.mul 256 9) 1) rgX7_hasFlag, rz_ifeq 31, rz_cst 4294967295, rz_goto 32, rz_iload 5, rz_iret, rz_aload 0, rz_getf (Nat.add (Nat.mul 256 6) 1) 0 rz_r, rz_getf (Nat.add (Nat.mul 256 9) 1) 3 rz_r, rz_cst 2, rz_aald, rz_iload 3, rz_iald, rz_istore 3, rz_iinc 4 1, rz_goto 4, rz_cst 4294967295, rz_istore 3, rz_cst 0, rz_istore 4, rz_iload 4, rz_aload 0, rz_getf (Nat.add (Nat.mul 256 6) 1) 0 rz_r, rz_getf (Nat.add (Nat.mul 256 9) 1) 2 rz_i, rz_icmpge 61, rz_aload 0, rz_iload 1, rz_iload 4, rz_iload 2, rz_callV 3 (Nat.add (Nat.mul 256 6) 1) rgX4_offers, rz_ifeq 59, rz_no, rz_iinc 4 1, rz_goto 47, rz_iload 3, rz_iret]
noncomputable def rgX4_choose : rz_L → rz_M → rz_Z → Bool := rz_go rcX4_choose 6 1000000
def rrX4_choose : Room := { frames := 2, cells := 0, slots := 0, locals := 48 }
theorem rmX4_choose (l : Launch) {G : rz_G} (hG : rz_Gd G) (vs : rz_L) (M : rz_M) (Z : rz_Z) (hn : vs.length = 3) (h : rgX4_choose vs M Z = true) : Met l yX4_choose (Cond.code yX4_choose cX4_choose 6 (some .int) :: rz_TB) rrX4_choose (rz_Pre G vs M) (rz_Qi G M.2 Z) 0 0 (fun q => rz_b G ≤ q) := by
  obtain ⟨D, tc, ad, b, xs, rfl⟩ := id hG
  refine rz_body (pcs := rpX4_choose) (by decide) rfl (by rw [hn]; decide) h ?_
  intro p e R s m args below meth c hC
  obtain ⟨hx, hb, hml, hr, hlk, ho, hts, hKn, hRm⟩ := id hC
  obtain ⟨hK, hA, hSt⟩ := id hKn
  have hw : ∀ {i j : Nat} {ws : List Cond} {w : Cond}, rz_WW[i]? = some ws → ws[j]? = some w → w.before args s = true := fun h1 h2 => hts _ (List.mem_cons_of_mem _ (rz_mem h1 h2))
  refine rz_All_c (i := 0) (fun k J hk hJ => rz_iload_n_ok (pc := 0) hx hb dX4_choose_0 rfl hk) ?_
  refine rz_All_c (i := 1) (fun k J hk hJ => rz_istore_n_ok (pc := 1) hx hb dX4_choose_1 rfl hk) ?_
  refine rz_All_c (i := 2) (fun k J hk hJ => rz_iconst_ok (pc := 2) hx hb dX4_choose_2 rfl hk) ?_
  refine rz_All_c (i := 3) (fun k J hk hJ => rz_istore_ok (pc := 3) hx hb dX4_choose_3 hk) ?_
  refine rz_All_c (i := 4) (fun k J hk hJ => rz_iload_n_ok (pc := 5) hx hb dX4_choose_5 rfl hk) ?_
  refine rz_All_c (i := 5) (fun k J hk hJ => rz_iflt_ok (pc := 6) hx hb dX4_choose_6 rfl hk (hJ 43)) ?_
  refine rz_All_c (i := 6) (fun k J hk hJ => rz_iload_ok (pc := 9) hx hb dX4_choose_9 hk) ?_
  refine rz_All_c (i := 7) (fun k J hk hJ => rz_bipush_ok (pc := 11) hx hb dX4_choose_11 (by decide) hk) ?_
  refine rz_All_c (i := 8) (fun k J hk hJ => rz_icmpge_ok (pc := 13) hx hb dX4_choose_13 rfl hk (hJ 43)) ?_
  refine rz_All_c (i := 9) (fun k J hk hJ => rz_aload_n_ok (pc := 16) hx hb dX4_choose_16 rfl hk) ?_
  refine rz_All_c (i := 10) (fun k J hk hJ => rz_getf_ok (pc := 17) (own := RX4) (ref := "ThreadJudge$Linker") (C := RX4) (T := TX4) (N := 4) (ci := 6) (index := 9) (f := 0) (t := 2) (Ts := Cond.code yX4_choose cX4_choose 6 (some .int) :: rz_TB) hx hb hts rz_in6 ho hK rfl (by decide) rfl (fun _ => rfl) (hw (i := 16) (j := 3) rfl rfl) (fun _ z => z) dX4_choose_17 hk) ?_
  refine rz_All_c (i := 11) (fun k J hk hJ => rz_iload_n_ok (pc := 20) hx hb dX4_choose_20 rfl hk) ?_
  refine rz_All_c (i := 12) (fun k J hk hJ => rz_iload_n_ok (pc := 21) hx hb dX4_choose_21 rfl hk) ?_
  refine rz_All_c (i := 13) (fun k J hk hJ => rz_callV_ok (pc := 22) (own := RX4) (C := RX7) (T0 := TX7) (N0 := 22) hC rfl (rmX7_own l hG) (rz_cwV 2 hC rz_good (rz_mem (i := 20) (j := 18) rfl rfl) (rz_mem (i := 20) (j := 19) rfl rfl) (rz_mem (i := 20) (j := 20) rfl rfl) (rz_mem (i := 1) (j := 0) rfl rfl) (rz_mem (i := 20) (j := 21) rfl rfl) ⟨rfl, by decide, by decide, by decide +kernel⟩ rfl rfl ⟨by decide, by decide⟩) rfl dX4_choose_22 hk) ?_
  refine rz_All_c (i := 14) (fun k J hk hJ => rz_istore_ok (pc := 25) hx hb dX4_choose_25 hk) ?_
  refine rz_All_c (i := 15) (fun k J hk hJ => rz_iload_ok (pc := 27) hx hb dX4_choose_27 hk) ?_
  refine rz_All_c (i := 16) (fun k J hk hJ => rz_iflt_ok (pc := 29) hx hb dX4_choose_29 rfl hk (hJ 33)) ?_
  refine rz_All_c (i := 17) (fun k J hk hJ => rz_aload_n_ok (pc := 32) hx hb dX4_choose_32 rfl hk) ?_
  refine rz_All_c (i := 18) (fun k J hk hJ => rz_getf_ok (pc := 33) (own := RX4) (ref := "ThreadJudge$Linker") (C := RX4) (T := TX4) (N := 4) (ci := 6) (index := 9) (f := 0) (t := 2) (Ts := Cond.code yX4_choose cX4_choose 6 (some .int) :: rz_TB) hx hb hts rz_in6 ho hK rfl (by decide) rfl (fun _ => rfl) (hw (i := 16) (j := 3) rfl rfl) (fun _ z => z) dX4_choose_33 hk) ?_
  refine rz_All_c (i := 19) (fun k J hk hJ => rz_iload_ok (pc := 36) hx hb dX4_choose_36 hk) ?_
  refine rz_All_c (i := 20) (fun k J hk hJ => rz_iconst_ok (pc := 38) hx hb dX4_choose_38 rfl hk) ?_
  refine rz_All_c (i := 21) (fun k J hk hJ => rz_callV_ok (pc := 39) (own := RX4) (C := RX7) (T0 := TX7) (N0 := 22) hC rfl (rmX7_hasFlag l hG) (rz_cwV 2 hC rz_good (rz_mem (i := 18) (j := 23) rfl rfl) (rz_mem (i := 19) (j := 0) rfl rfl) (rz_mem (i := 19) (j := 1) rfl rfl) (rz_mem (i := 1) (j := 0) rfl rfl) (rz_mem (i := 19) (j := 2) rfl rfl) ⟨rfl, by decide, by decide, by decide +kernel⟩ rfl rfl ⟨by decide, by decide⟩) rfl dX4_choose_39 hk) ?_
  refine rz_All_c (i := 22) (fun k J hk hJ => rz_ifne_ok (pc := 42) hx hb dX4_choose_42 rfl hk (hJ 33)) ?_
  refine rz_All_c (i := 23) (fun k J hk hJ => rz_aload_n_ok (pc := 45) hx hb dX4_choose_45 rfl hk) ?_
  refine rz_All_c (i := 24) (fun k J hk hJ => rz_getf_ok (pc := 46) (own := RX4) (ref := "ThreadJudge$Linker") (C := RX4) (T := TX4) (N := 4) (ci := 6) (index := 9) (f := 0) (t := 2) (Ts := Cond.code yX4_choose cX4_choose 6 (some .int) :: rz_TB) hx hb hts rz_in6 ho hK rfl (by decide) rfl (fun _ => rfl) (hw (i := 16) (j := 3) rfl rfl) (fun _ z => z) dX4_choose_46 hk) ?_
  refine rz_All_c (i := 25) (fun k J hk hJ => rz_iload_ok (pc := 49) hx hb dX4_choose_49 hk) ?_
  refine rz_All_c (i := 26) (fun k J hk hJ => rz_bipush_ok (pc := 51) hx hb dX4_choose_51 (by decide) hk) ?_
  refine rz_All_c (i := 27) (fun k J hk hJ => rz_callV_ok (pc := 53) (own := RX4) (C := RX7) (T0 := TX7) (N0 := 22) hC rfl (rmX7_hasFlag l hG) (rz_cwV 2 hC rz_good (rz_mem (i := 18) (j := 23) rfl rfl) (rz_mem (i := 19) (j := 0) rfl rfl) (rz_mem (i := 19) (j := 1) rfl rfl) (rz_mem (i := 1) (j := 0) rfl rfl) (rz_mem (i := 19) (j := 2) rfl rfl) ⟨rfl, by decide, by decide, by decide +kernel⟩ rfl rfl ⟨by decide, by decide⟩) rfl dX4_choose_53 hk) ?_
  refine rz_All_c (i := 28) (fun k J hk hJ => rz_ifeq_ok (pc := 56) hx hb dX4_choose_56 rfl hk (hJ 31)) ?_
  refine rz_All_c (i := 29) (fun k J hk hJ => rz_iconst_ok (pc := 59) hx hb dX4_choose_59 rfl hk) ?_
  refine rz_All_c (i := 30) (fun k J hk hJ => rz_goto_ok (pc := 60) hx hb dX4_choose_60 rfl (hJ 32)) ?_
  refine rz_All_c (i := 31) (fun k J hk hJ => rz_iload_ok (pc := 63) hx hb dX4_choose_63 hk) ?_
  refine rz_All_c (i := 32) (fun k J hk hJ => rz_iret_ok (pc := 65) hC dX4_choose_65) ?_
  refine rz_All_c (i := 33) (fun k J hk hJ => rz_aload_n_ok (pc := 66) hx hb dX4_choose_66 rfl hk) ?_
  refine rz_All_c (i := 34) (fun k J hk hJ => rz_getf_ok (pc := 67) (own := RX4) (ref := "ThreadJudge$Linker") (C := RX4) (T := TX4) (N := 4) (ci := 6) (index := 9) (f := 0) (t := 2) (Ts := Cond.code yX4_choose cX4_choose 6 (some .int) :: rz_TB) hx hb hts rz_in6 ho hK rfl (by decide) rfl (fun _ => rfl) (hw (i := 16) (j := 3) rfl rfl) (fun _ z => z) dX4_choose_67 hk) ?_
  refine rz_All_c (i := 35) (fun k J hk hJ => rz_getf_ok (pc := 70) (own := RX4) (ref := "ThreadJudge$Program") (C := RX7) (T := TX7) (N := 22) (ci := 9) (index := 54) (f := 3) (t := 2) (Ts := Cond.code yX4_choose cX4_choose 6 (some .int) :: rz_TB) hx hb hts rz_in9 ho hK rfl (by decide) rfl (fun _ => rfl) (hw (i := 16) (j := 6) rfl rfl) (fun _ z => z) dX4_choose_70 hk) ?_
  refine rz_All_c (i := 36) (fun k J hk hJ => rz_iconst_ok (pc := 73) hx hb dX4_choose_73 rfl hk) ?_
  refine rz_All_c (i := 37) (fun k J hk hJ => rz_aald_ok (pc := 74) hx hb hK dX4_choose_74 hk) ?_
  refine rz_All_c (i := 38) (fun k J hk hJ => rz_iload_n_ok (pc := 75) hx hb dX4_choose_75 rfl hk) ?_
  refine rz_All_c (i := 39) (fun k J hk hJ => rz_iald_ok (pc := 76) hx hb hK dX4_choose_76 hk) ?_
  refine rz_All_c (i := 40) (fun k J hk hJ => rz_istore_n_ok (pc := 77) hx hb dX4_choose_77 rfl hk) ?_
  refine rz_All_c (i := 41) (fun k J hk hJ => rz_iinc_ok (pc := 78) hx hb dX4_choose_78 (by decide) hk) ?_
  refine rz_All_c (i := 42) (fun k J hk hJ => rz_goto_ok (pc := 81) hx hb dX4_choose_81 rfl (hJ 4)) ?_
  refine rz_All_c (i := 43) (fun k J hk hJ => rz_iconst_ok (pc := 84) hx hb dX4_choose_84 rfl hk) ?_
  refine rz_All_c (i := 44) (fun k J hk hJ => rz_istore_n_ok (pc := 85) hx hb dX4_choose_85 rfl hk) ?_
  refine rz_All_c (i := 45) (fun k J hk hJ => rz_iconst_ok (pc := 86) hx hb dX4_choose_86 rfl hk) ?_
  refine rz_All_c (i := 46) (fun k J hk hJ => rz_istore_ok (pc := 87) hx hb dX4_choose_87 hk) ?_
  refine rz_All_c (i := 47) (fun k J hk hJ => rz_iload_ok (pc := 89) hx hb dX4_choose_89 hk) ?_
  refine rz_All_c (i := 48) (fun k J hk hJ => rz_aload_n_ok (pc := 91) hx hb dX4_choose_91 rfl hk) ?_
  refine rz_All_c (i := 49) (fun k J hk hJ => rz_getf_ok (pc := 92) (own := RX4) (ref := "ThreadJudge$Linker") (C := RX4) (T := TX4) (N := 4) (ci := 6) (index := 9) (f := 0) (t := 2) (Ts := Cond.code yX4_choose cX4_choose 6 (some .int) :: rz_TB) hx hb hts rz_in6 ho hK rfl (by decide) rfl (fun _ => rfl) (hw (i := 16) (j := 3) rfl rfl) (fun _ z => z) dX4_choose_92 hk) ?_
  refine rz_All_c (i := 50) (fun k J hk hJ => rz_getf_ok (pc := 95) (own := RX4) (ref := "ThreadJudge$Program") (C := RX7) (T := TX7) (N := 22) (ci := 9) (index := 45) (f := 2) (t := 0) (Ts := Cond.code yX4_choose cX4_choose 6 (some .int) :: rz_TB) hx hb hts rz_in9 ho hK rfl (by decide) rfl (fun _ => rfl) (hw (i := 16) (j := 4) rfl rfl) (fun _ z => z) dX4_choose_95 hk) ?_
  refine rz_All_c (i := 51) (fun k J hk hJ => rz_icmpge_ok (pc := 98) hx hb dX4_choose_98 rfl hk (hJ 61)) ?_
  refine rz_All_c (i := 52) (fun k J hk hJ => rz_aload_n_ok (pc := 101) hx hb dX4_choose_101 rfl hk) ?_
  refine rz_All_c (i := 53) (fun k J hk hJ => rz_iload_n_ok (pc := 102) hx hb dX4_choose_102 rfl hk) ?_
  refine rz_All_c (i := 54) (fun k J hk hJ => rz_iload_ok (pc := 103) hx hb dX4_choose_103 hk) ?_
  refine rz_All_c (i := 55) (fun k J hk hJ => rz_iload_n_ok (pc := 105) hx hb dX4_choose_105 rfl hk) ?_
  refine rz_All_c (i := 56) (fun k J hk hJ => rz_callV_ok (pc := 106) (own := RX4) (C := RX4) (T0 := TX4) (N0 := 4) hC rfl (rmX4_offers l hG) (rz_cwV 3 hC rz_good (rz_mem (i := 20) (j := 22) rfl rfl) (rz_mem (i := 20) (j := 23) rfl rfl) (rz_mem (i := 21) (j := 0) rfl rfl) (rz_mem (i := 15) (j := 19) rfl rfl) (rz_mem (i := 21) (j := 1) rfl rfl) ⟨rfl, by decide, by decide, by decide +kernel⟩ rfl rfl ⟨by decide, by decide⟩) rfl dX4_choose_106 hk) ?_
  refine rz_All_c (i := 57) (fun k J hk hJ => rz_ifeq_ok (pc := 109) hx hb dX4_choose_109 rfl hk (hJ 59)) ?_
  refine rz_All_c (i := 58) (fun k J hk hJ => rz_no_ok) ?_
  refine rz_All_c (i := 59) (fun k J hk hJ => rz_iinc_ok (pc := 140) hx hb dX4_choose_140 (by decide) hk) ?_
  refine rz_All_c (i := 60) (fun k J hk hJ => rz_goto_ok (pc := 143) hx hb dX4_choose_143 rfl (hJ 47)) ?_
  refine rz_All_c (i := 61) (fun k J hk hJ => rz_iload_n_ok (pc := 146) hx hb dX4_choose_146 rfl hk) ?_
  refine rz_All_c (i := 62) (fun k J hk hJ => rz_iret_ok (pc := 147) hC dX4_choose_147) ?_
  exact trivial
theorem dX4_chooseAll_0 : decode cX4_chooseAll 0 = .ok (.iconst 0, 1) := by decide +kernel
theorem dX4_chooseAll_1 : decode cX4_chooseAll 1 = .ok (.istore_n 1, 1) := by decide +kernel
theorem dX4_chooseAll_2 : decode cX4_chooseAll 2 = .ok (.iload_n 1, 1) := by decide +kernel
theorem dX4_chooseAll_3 : decode cX4_chooseAll 3 = .ok (.aload_n 0, 1) := by decide +kernel
theorem dX4_chooseAll_4 : decode cX4_chooseAll 4 = .ok (.getfield 9, 3) := by decide +kernel
theorem dX4_chooseAll_7 : decode cX4_chooseAll 7 = .ok (.getfield 45, 3) := by decide +kernel
theorem dX4_chooseAll_10 : decode cX4_chooseAll 10 = .ok (.if_icmp .ge 68, 3) := by decide +kernel
theorem dX4_chooseAll_13 : decode cX4_chooseAll 13 = .ok (.iconst 0, 1) := by decide +kernel
theorem dX4_chooseAll_14 : decode cX4_chooseAll 14 = .ok (.istore_n 2, 1) := by decide +kernel
theorem dX4_chooseAll_15 : decode cX4_chooseAll 15 = .ok (.iload_n 2, 1) := by decide +kernel
theorem dX4_chooseAll_16 : decode cX4_chooseAll 16 = .ok (.aload_n 0, 1) := by decide +kernel
theorem dX4_chooseAll_17 : decode cX4_chooseAll 17 = .ok (.getfield 9, 3) := by decide +kernel
theorem dX4_chooseAll_20 : decode cX4_chooseAll 20 = .ok (.getfield 92, 3) := by decide +kernel
theorem dX4_chooseAll_23 : decode cX4_chooseAll 23 = .ok (.if_icmp .ge 49, 3) := by decide +kernel
theorem dX4_chooseAll_26 : decode cX4_chooseAll 26 = .ok (.aload_n 0, 1) := by decide +kernel
theorem dX4_chooseAll_27 : decode cX4_chooseAll 27 = .ok (.getfield 9, 3) := by decide +kernel
theorem dX4_chooseAll_30 : decode cX4_chooseAll 30 = .ok (.getfield 147, 3) := by decide +kernel
theorem dX4_chooseAll_33 : decode cX4_chooseAll 33 = .ok (.iload_n 1, 1) := by decide +kernel
theorem dX4_chooseAll_34 : decode cX4_chooseAll 34 = .ok (.bipush 117, 2) := by decide +kernel
theorem dX4_chooseAll_36 : decode cX4_chooseAll 36 = .ok (.imul, 1) := by decide +kernel
theorem dX4_chooseAll_37 : decode cX4_chooseAll 37 = .ok (.iload_n 2, 1) := by decide +kernel
theorem dX4_chooseAll_38 : decode cX4_chooseAll 38 = .ok (.iadd, 1) := by decide +kernel
theorem dX4_chooseAll_39 : decode cX4_chooseAll 39 = .ok (.aload_n 0, 1) := by decide +kernel
theorem dX4_chooseAll_40 : decode cX4_chooseAll 40 = .ok (.getfield 9, 3) := by decide +kernel
theorem dX4_chooseAll_43 : decode cX4_chooseAll 43 = .ok (.getfield 95, 3) := by decide +kernel
theorem dX4_chooseAll_46 : decode cX4_chooseAll 46 = .ok (.bipush 12, 2) := by decide +kernel
theorem dX4_chooseAll_48 : decode cX4_chooseAll 48 = .ok (.aaload, 1) := by decide +kernel
theorem dX4_chooseAll_49 : decode cX4_chooseAll 49 = .ok (.iload_n 2, 1) := by decide +kernel
theorem dX4_chooseAll_50 : decode cX4_chooseAll 50 = .ok (.iaload, 1) := by decide +kernel
theorem dX4_chooseAll_51 : decode cX4_chooseAll 51 = .ok (.iload_n 2, 1) := by decide +kernel
theorem dX4_chooseAll_52 : decode cX4_chooseAll 52 = .ok (.if_icmp .ne 12, 3) := by decide +kernel
theorem dX4_chooseAll_55 : decode cX4_chooseAll 55 = .ok (.aload_n 0, 1) := by decide +kernel
theorem dX4_chooseAll_56 : decode cX4_chooseAll 56 = .ok (.iload_n 1, 1) := by decide +kernel
theorem dX4_chooseAll_57 : decode cX4_chooseAll 57 = .ok (.iload_n 2, 1) := by decide +kernel
theorem dX4_chooseAll_58 : decode cX4_chooseAll 58 = .ok (.invokevirtual 150, 3) := by decide +kernel
theorem dX4_chooseAll_61 : decode cX4_chooseAll 61 = .ok (.goto 4, 3) := by decide +kernel
theorem dX4_chooseAll_64 : decode cX4_chooseAll 64 = .ok (.iconst (-1), 1) := by decide +kernel
theorem dX4_chooseAll_65 : decode cX4_chooseAll 65 = .ok (.iastore, 1) := by decide +kernel
theorem dX4_chooseAll_66 : decode cX4_chooseAll 66 = .ok (.iinc 2 1, 3) := by decide +kernel
theorem dX4_chooseAll_69 : decode cX4_chooseAll 69 = .ok (.goto (-54), 3) := by decide +kernel
theorem dX4_chooseAll_72 : decode cX4_chooseAll 72 = .ok (.iinc 1 1, 3) := by decide +kernel
theorem dX4_chooseAll_75 : decode cX4_chooseAll 75 = .ok (.goto (-73), 3) := by decide +kernel
theorem dX4_chooseAll_78 : decode cX4_chooseAll 78 = .ok (.return_, 1) := by decide +kernel
def rpX4_chooseAll : List Nat := [0, 1, 2, 3, 4, 7, 10, 13, 14, 15, 16, 17, 20, 23, 26, 27, 30, 33, 34, 36, 37, 38, 39, 40, 43, 46, 48, 49, 50, 51, 52, 55, 56, 57, 58, 61, 64, 65, 66, 69, 72, 75, 78]
noncomputable def rcX4_chooseAll : List rz_B := [rz_cst 0, rz_istore 1, rz_iload 1, rz_aload 0, rz_getf (Nat.add (Nat.mul 256 6) 1) 0 rz_r, rz_getf (Nat.add (Nat.mul 256 9) 1) 2 rz_i, rz_icmpge 42, rz_cst 0, rz_istore 2, rz_iload 2, rz_aload 0, rz_getf (Nat.add (Nat.mul 256 6) 1) 0 rz_r, rz_getf (Nat.add (Nat.mul 256 9) 1) 9 rz_i, rz_icmpge 40, rz_aload 0, rz_getf (Nat.add (Nat.mul 256 6) 1) 0 rz_r, rz_getf (Nat.add (Nat.mul 256 9) 1) 12 rz_r, rz_iload 1, rz_cst 117, rz_imul, rz_iload 2, rz_iadd, rz_aload 0, rz_getf (Nat.add (Nat.mul 256 6) 1) 0 rz_r, rz_getf (Nat.add (Nat.mul 256 9) 1) 10 rz_r, rz_cst 12, rz_aald, rz_iload 2, rz_iald, rz_iload 2, rz_icmpne 36, rz_aload 0, rz_iload 1, rz_iload 2, rz_callV 2 (Nat.add (Nat.mul 256 6) 1) rgX4_choose, rz_goto 37, rz_cst 4294967295, rz_iast, rz_iinc 2 1, rz_goto 9, rz_iinc 1 1, rz_goto 2, rz_vret]
noncomputable def rgX4_chooseAll : rz_L → rz_M → rz_Z → Bool := rz_go rcX4_chooseAll 3 1000000
def rrX4_chooseAll : Room := { frames := 3, cells := 0, slots := 0, locals := 73 }
theorem rmX4_chooseAll (l : Launch) {G : rz_G} (hG : rz_Gd G) (vs : rz_L) (M : rz_M) (Z : rz_Z) (hn : vs.length = 1) (h : rgX4_chooseAll vs M Z = true) : Met l yX4_chooseAll (Cond.code yX4_chooseAll cX4_chooseAll 3 none :: rz_TB) rrX4_chooseAll (rz_Pre G vs M) (rz_Qv G M.2 Z) 0 0 (fun q => rz_b G ≤ q) := by
  obtain ⟨D, tc, ad, b, xs, rfl⟩ := id hG
  refine rz_body (pcs := rpX4_chooseAll) (by decide) rfl (by rw [hn]; decide) h ?_
  intro p e R s m args below meth c hC
  obtain ⟨hx, hb, hml, hr, hlk, ho, hts, hKn, hRm⟩ := id hC
  obtain ⟨hK, hA, hSt⟩ := id hKn
  have hw : ∀ {i j : Nat} {ws : List Cond} {w : Cond}, rz_WW[i]? = some ws → ws[j]? = some w → w.before args s = true := fun h1 h2 => hts _ (List.mem_cons_of_mem _ (rz_mem h1 h2))
  refine rz_All_c (i := 0) (fun k J hk hJ => rz_iconst_ok (pc := 0) hx hb dX4_chooseAll_0 rfl hk) ?_
  refine rz_All_c (i := 1) (fun k J hk hJ => rz_istore_n_ok (pc := 1) hx hb dX4_chooseAll_1 rfl hk) ?_
  refine rz_All_c (i := 2) (fun k J hk hJ => rz_iload_n_ok (pc := 2) hx hb dX4_chooseAll_2 rfl hk) ?_
  refine rz_All_c (i := 3) (fun k J hk hJ => rz_aload_n_ok (pc := 3) hx hb dX4_chooseAll_3 rfl hk) ?_
  refine rz_All_c (i := 4) (fun k J hk hJ => rz_getf_ok (pc := 4) (own := RX4) (ref := "ThreadJudge$Linker") (C := RX4) (T := TX4) (N := 4) (ci := 6) (index := 9) (f := 0) (t := 2) (Ts := Cond.code yX4_chooseAll cX4_chooseAll 3 none :: rz_TB) hx hb hts rz_in6 ho hK rfl (by decide) rfl (fun _ => rfl) (hw (i := 16) (j := 3) rfl rfl) (fun _ z => z) dX4_chooseAll_4 hk) ?_
  refine rz_All_c (i := 5) (fun k J hk hJ => rz_getf_ok (pc := 7) (own := RX4) (ref := "ThreadJudge$Program") (C := RX7) (T := TX7) (N := 22) (ci := 9) (index := 45) (f := 2) (t := 0) (Ts := Cond.code yX4_chooseAll cX4_chooseAll 3 none :: rz_TB) hx hb hts rz_in9 ho hK rfl (by decide) rfl (fun _ => rfl) (hw (i := 16) (j := 4) rfl rfl) (fun _ z => z) dX4_chooseAll_7 hk) ?_
  refine rz_All_c (i := 6) (fun k J hk hJ => rz_icmpge_ok (pc := 10) hx hb dX4_chooseAll_10 rfl hk (hJ 42)) ?_
  refine rz_All_c (i := 7) (fun k J hk hJ => rz_iconst_ok (pc := 13) hx hb dX4_chooseAll_13 rfl hk) ?_
  refine rz_All_c (i := 8) (fun k J hk hJ => rz_istore_n_ok (pc := 14) hx hb dX4_chooseAll_14 rfl hk) ?_
  refine rz_All_c (i := 9) (fun k J hk hJ => rz_iload_n_ok (pc := 15) hx hb dX4_chooseAll_15 rfl hk) ?_
  refine rz_All_c (i := 10) (fun k J hk hJ => rz_aload_n_ok (pc := 16) hx hb dX4_chooseAll_16 rfl hk) ?_
  refine rz_All_c (i := 11) (fun k J hk hJ => rz_getf_ok (pc := 17) (own := RX4) (ref := "ThreadJudge$Linker") (C := RX4) (T := TX4) (N := 4) (ci := 6) (index := 9) (f := 0) (t := 2) (Ts := Cond.code yX4_chooseAll cX4_chooseAll 3 none :: rz_TB) hx hb hts rz_in6 ho hK rfl (by decide) rfl (fun _ => rfl) (hw (i := 16) (j := 3) rfl rfl) (fun _ z => z) dX4_chooseAll_17 hk) ?_
  refine rz_All_c (i := 12) (fun k J hk hJ => rz_getf_ok (pc := 20) (own := RX4) (ref := "ThreadJudge$Program") (C := RX7) (T := TX7) (N := 22) (ci := 9) (index := 92) (f := 9) (t := 0) (Ts := Cond.code yX4_chooseAll cX4_chooseAll 3 none :: rz_TB) hx hb hts rz_in9 ho hK rfl (by decide) rfl (fun _ => rfl) (hw (i := 17) (j := 12) rfl rfl) (fun _ z => z) dX4_chooseAll_20 hk) ?_
  refine rz_All_c (i := 13) (fun k J hk hJ => rz_icmpge_ok (pc := 23) hx hb dX4_chooseAll_23 rfl hk (hJ 40)) ?_
  refine rz_All_c (i := 14) (fun k J hk hJ => rz_aload_n_ok (pc := 26) hx hb dX4_chooseAll_26 rfl hk) ?_
  refine rz_All_c (i := 15) (fun k J hk hJ => rz_getf_ok (pc := 27) (own := RX4) (ref := "ThreadJudge$Linker") (C := RX4) (T := TX4) (N := 4) (ci := 6) (index := 9) (f := 0) (t := 2) (Ts := Cond.code yX4_chooseAll cX4_chooseAll 3 none :: rz_TB) hx hb hts rz_in6 ho hK rfl (by decide) rfl (fun _ => rfl) (hw (i := 16) (j := 3) rfl rfl) (fun _ z => z) dX4_chooseAll_27 hk) ?_
  refine rz_All_c (i := 16) (fun k J hk hJ => rz_getf_ok (pc := 30) (own := RX4) (ref := "ThreadJudge$Program") (C := RX7) (T := TX7) (N := 22) (ci := 9) (index := 147) (f := 12) (t := 2) (Ts := Cond.code yX4_chooseAll cX4_chooseAll 3 none :: rz_TB) hx hb hts rz_in9 ho hK rfl (by decide) rfl (fun _ => rfl) (hw (i := 20) (j := 13) rfl rfl) (fun _ z => z) dX4_chooseAll_30 hk) ?_
  refine rz_All_c (i := 17) (fun k J hk hJ => rz_iload_n_ok (pc := 33) hx hb dX4_chooseAll_33 rfl hk) ?_
  refine rz_All_c (i := 18) (fun k J hk hJ => rz_bipush_ok (pc := 34) hx hb dX4_chooseAll_34 (by decide) hk) ?_
  refine rz_All_c (i := 19) (fun k J hk hJ => rz_imul_ok (pc := 36) hx hb dX4_chooseAll_36 hk) ?_
  refine rz_All_c (i := 20) (fun k J hk hJ => rz_iload_n_ok (pc := 37) hx hb dX4_chooseAll_37 rfl hk) ?_
  refine rz_All_c (i := 21) (fun k J hk hJ => rz_iadd_ok (pc := 38) hx hb dX4_chooseAll_38 hk) ?_
  refine rz_All_c (i := 22) (fun k J hk hJ => rz_aload_n_ok (pc := 39) hx hb dX4_chooseAll_39 rfl hk) ?_
  refine rz_All_c (i := 23) (fun k J hk hJ => rz_getf_ok (pc := 40) (own := RX4) (ref := "ThreadJudge$Linker") (C := RX4) (T := TX4) (N := 4) (ci := 6) (index := 9) (f := 0) (t := 2) (Ts := Cond.code yX4_chooseAll cX4_chooseAll 3 none :: rz_TB) hx hb hts rz_in6 ho hK rfl (by decide) rfl (fun _ => rfl) (hw (i := 16) (j := 3) rfl rfl) (fun _ z => z) dX4_chooseAll_40 hk) ?_
  refine rz_All_c (i := 24) (fun k J hk hJ => rz_getf_ok (pc := 43) (own := RX4) (ref := "ThreadJudge$Program") (C := RX7) (T := TX7) (N := 22) (ci := 9) (index := 95) (f := 10) (t := 2) (Ts := Cond.code yX4_chooseAll cX4_chooseAll 3 none :: rz_TB) hx hb hts rz_in9 ho hK rfl (by decide) rfl (fun _ => rfl) (hw (i := 17) (j := 13) rfl rfl) (fun _ z => z) dX4_chooseAll_43 hk) ?_
  refine rz_All_c (i := 25) (fun k J hk hJ => rz_bipush_ok (pc := 46) hx hb dX4_chooseAll_46 (by decide) hk) ?_
  refine rz_All_c (i := 26) (fun k J hk hJ => rz_aald_ok (pc := 48) hx hb hK dX4_chooseAll_48 hk) ?_
  refine rz_All_c (i := 27) (fun k J hk hJ => rz_iload_n_ok (pc := 49) hx hb dX4_chooseAll_49 rfl hk) ?_
  refine rz_All_c (i := 28) (fun k J hk hJ => rz_iald_ok (pc := 50) hx hb hK dX4_chooseAll_50 hk) ?_
  refine rz_All_c (i := 29) (fun k J hk hJ => rz_iload_n_ok (pc := 51) hx hb dX4_chooseAll_51 rfl hk) ?_
  refine rz_All_c (i := 30) (fun k J hk hJ => rz_icmpne_ok (pc := 52) hx hb dX4_chooseAll_52 rfl hk (hJ 36)) ?_
  refine rz_All_c (i := 31) (fun k J hk hJ => rz_aload_n_ok (pc := 55) hx hb dX4_chooseAll_55 rfl hk) ?_
  refine rz_All_c (i := 32) (fun k J hk hJ => rz_iload_n_ok (pc := 56) hx hb dX4_chooseAll_56 rfl hk) ?_
  refine rz_All_c (i := 33) (fun k J hk hJ => rz_iload_n_ok (pc := 57) hx hb dX4_chooseAll_57 rfl hk) ?_
  refine rz_All_c (i := 34) (fun k J hk hJ => rz_callV_ok (pc := 58) (own := RX4) (C := RX4) (T0 := TX4) (N0 := 4) hC rfl (rmX4_choose l hG) (rz_cwV 2 hC rz_good (rz_mem (i := 20) (j := 14) rfl rfl) (rz_mem (i := 20) (j := 15) rfl rfl) (rz_mem (i := 20) (j := 16) rfl rfl) (rz_mem (i := 15) (j := 19) rfl rfl) (rz_mem (i := 20) (j := 17) rfl rfl) ⟨rfl, by decide, by decide, by decide +kernel⟩ rfl rfl ⟨by decide, by decide⟩) rfl dX4_chooseAll_58 hk) ?_
  refine rz_All_c (i := 35) (fun k J hk hJ => rz_goto_ok (pc := 61) hx hb dX4_chooseAll_61 rfl (hJ 37)) ?_
  refine rz_All_c (i := 36) (fun k J hk hJ => rz_iconst_ok (pc := 64) hx hb dX4_chooseAll_64 rfl hk) ?_
  refine rz_All_c (i := 37) (fun k J hk hJ => rz_iast_ok (pc := 65) hx hb hK hA dX4_chooseAll_65 hk) ?_
  refine rz_All_c (i := 38) (fun k J hk hJ => rz_iinc_ok (pc := 66) hx hb dX4_chooseAll_66 (by decide) hk) ?_
  refine rz_All_c (i := 39) (fun k J hk hJ => rz_goto_ok (pc := 69) hx hb dX4_chooseAll_69 rfl (hJ 9)) ?_
  refine rz_All_c (i := 40) (fun k J hk hJ => rz_iinc_ok (pc := 72) hx hb dX4_chooseAll_72 (by decide) hk) ?_
  refine rz_All_c (i := 41) (fun k J hk hJ => rz_goto_ok (pc := 75) hx hb dX4_chooseAll_75 rfl (hJ 2)) ?_
  refine rz_All_c (i := 42) (fun k J hk hJ => rz_vret_ok (pc := 78) hC dX4_chooseAll_78) ?_
  exact trivial
theorem dX4_note_0 : decode cX4_note 0 = .ok (.aload_n 0, 1) := by decide +kernel
theorem dX4_note_1 : decode cX4_note 1 = .ok (.getfield 19, 3) := by decide +kernel
theorem dX4_note_4 : decode cX4_note 4 = .ok (.ifCond .eq 11, 3) := by decide +kernel
theorem dX4_note_15 : decode cX4_note 15 = .ok (.aload_n 0, 1) := by decide +kernel
theorem dX4_note_16 : decode cX4_note 16 = .ok (.iload_n 1, 1) := by decide +kernel
theorem dX4_note_17 : decode cX4_note 17 = .ok (.putfield 19, 3) := by decide +kernel
theorem dX4_note_20 : decode cX4_note 20 = .ok (.aload_n 0, 1) := by decide +kernel
theorem dX4_note_21 : decode cX4_note 21 = .ok (.iload_n 2, 1) := by decide +kernel
theorem dX4_note_22 : decode cX4_note 22 = .ok (.putfield 23, 3) := by decide +kernel
theorem dX4_note_25 : decode cX4_note 25 = .ok (.return_, 1) := by decide +kernel
def rpX4_note : List Nat := [0, 1, 4, 7, 15, 16, 17, 20, 21, 22, 25]
noncomputable def rcX4_note : List rz_B := [rz_aload 0, rz_getf (Nat.add (Nat.mul 256 6) 1) 2 rz_i, rz_ifeq 4, rz_no, rz_aload 0, rz_iload 1, rz_putf (Nat.add (Nat.mul 256 6) 1) 2 rz_unI, rz_aload 0, rz_iload 2, rz_putf (Nat.add (Nat.mul 256 6) 1) 3 rz_unI, rz_vret]
noncomputable def rgX4_note : rz_L → rz_M → rz_Z → Bool := rz_go rcX4_note 3 1000000
def rrX4_note : Room := { frames := 0, cells := 0, slots := 0, locals := 0 }
theorem rmX4_note (l : Launch) {G : rz_G} (hG : rz_Gd G) (vs : rz_L) (M : rz_M) (Z : rz_Z) (hn : vs.length = 3) (h : rgX4_note vs M Z = true) : Met l yX4_note (Cond.code yX4_note cX4_note 3 none :: rz_TB) rrX4_note (rz_Pre G vs M) (rz_Qv G M.2 Z) 0 0 (fun q => rz_b G ≤ q) := by
  obtain ⟨D, tc, ad, b, xs, rfl⟩ := id hG
  refine rz_body (pcs := rpX4_note) (by decide) rfl (by rw [hn]; decide) h ?_
  intro p e R s m args below meth c hC
  obtain ⟨hx, hb, hml, hr, hlk, ho, hts, hKn, hRm⟩ := id hC
  obtain ⟨hK, hA, hSt⟩ := id hKn
  have hw : ∀ {i j : Nat} {ws : List Cond} {w : Cond}, rz_WW[i]? = some ws → ws[j]? = some w → w.before args s = true := fun h1 h2 => hts _ (List.mem_cons_of_mem _ (rz_mem h1 h2))
  refine rz_All_c (i := 0) (fun k J hk hJ => rz_aload_n_ok (pc := 0) hx hb dX4_note_0 rfl hk) ?_
  refine rz_All_c (i := 1) (fun k J hk hJ => rz_getf_ok (pc := 1) (own := RX4) (ref := "ThreadJudge$Linker") (C := RX4) (T := TX4) (N := 4) (ci := 6) (index := 19) (f := 2) (t := 0) (Ts := Cond.code yX4_note cX4_note 3 none :: rz_TB) hx hb hts rz_in6 ho hK rfl (by decide) rfl (fun _ => rfl) (hw (i := 15) (j := 21) rfl rfl) (fun _ z => z) dX4_note_1 hk) ?_
  refine rz_All_c (i := 2) (fun k J hk hJ => rz_ifeq_ok (pc := 4) hx hb dX4_note_4 rfl hk (hJ 4)) ?_
  refine rz_All_c (i := 3) (fun k J hk hJ => rz_no_ok) ?_
  refine rz_All_c (i := 4) (fun k J hk hJ => rz_aload_n_ok (pc := 15) hx hb dX4_note_15 rfl hk) ?_
  refine rz_All_c (i := 5) (fun k J hk hJ => rz_iload_n_ok (pc := 16) hx hb dX4_note_16 rfl hk) ?_
  refine rz_All_c (i := 6) (fun k J hk hJ => rz_putf_ok (pc := 17) (own := RX4) (ref := "ThreadJudge$Linker") (C := RX4) (T := TX4) (N := 4) (ci := 6) (index := 19) (f := 2) (t := 0) (Ts := Cond.code yX4_note cX4_note 3 none :: rz_TB) hx hb hts rz_in6 tyX4 tyX4_ok nmX4 ho hK hA rfl (by decide) rfl (rz_UnI _) rfl (tyX4_ok 2 (by decide)) (hw (i := 15) (j := 21) rfl rfl) (fun _ z => z) dX4_note_17 hk) ?_
  refine rz_All_c (i := 7) (fun k J hk hJ => rz_aload_n_ok (pc := 20) hx hb dX4_note_20 rfl hk) ?_
  refine rz_All_c (i := 8) (fun k J hk hJ => rz_iload_n_ok (pc := 21) hx hb dX4_note_21 rfl hk) ?_
  refine rz_All_c (i := 9) (fun k J hk hJ => rz_putf_ok (pc := 22) (own := RX4) (ref := "ThreadJudge$Linker") (C := RX4) (T := TX4) (N := 4) (ci := 6) (index := 23) (f := 3) (t := 0) (Ts := Cond.code yX4_note cX4_note 3 none :: rz_TB) hx hb hts rz_in6 tyX4 tyX4_ok nmX4 ho hK hA rfl (by decide) rfl (rz_UnI _) rfl (tyX4_ok 3 (by decide)) (hw (i := 15) (j := 22) rfl rfl) (fun _ z => z) dX4_note_22 hk) ?_
  refine rz_All_c (i := 10) (fun k J hk hJ => rz_vret_ok (pc := 25) hC dX4_note_25) ?_
  exact trivial
theorem dX4_signOf_0 : decode cX4_signOf 0 = .ok (.iconst 0, 1) := by decide +kernel
theorem dX4_signOf_1 : decode cX4_signOf 1 = .ok (.istore 5, 2) := by decide +kernel
theorem dX4_signOf_3 : decode cX4_signOf 3 = .ok (.iload 5, 2) := by decide +kernel
theorem dX4_signOf_5 : decode cX4_signOf 5 = .ok (.aload_n 0, 1) := by decide +kernel
theorem dX4_signOf_6 : decode cX4_signOf 6 = .ok (.getfield 9, 3) := by decide +kernel
theorem dX4_signOf_9 : decode cX4_signOf 9 = .ok (.getfield 92, 3) := by decide +kernel
theorem dX4_signOf_12 : decode cX4_signOf 12 = .ok (.if_icmp .ge 93, 3) := by decide +kernel
theorem dX4_signOf_15 : decode cX4_signOf 15 = .ok (.aload_n 0, 1) := by decide +kernel
theorem dX4_signOf_16 : decode cX4_signOf 16 = .ok (.getfield 9, 3) := by decide +kernel
theorem dX4_signOf_19 : decode cX4_signOf 19 = .ok (.getfield 95, 3) := by decide +kernel
theorem dX4_signOf_22 : decode cX4_signOf 22 = .ok (.iconst 0, 1) := by decide +kernel
theorem dX4_signOf_23 : decode cX4_signOf 23 = .ok (.aaload, 1) := by decide +kernel
theorem dX4_signOf_24 : decode cX4_signOf 24 = .ok (.iload 5, 2) := by decide +kernel
theorem dX4_signOf_26 : decode cX4_signOf 26 = .ok (.iaload, 1) := by decide +kernel
theorem dX4_signOf_27 : decode cX4_signOf 27 = .ok (.iload_n 1, 1) := by decide +kernel
theorem dX4_signOf_28 : decode cX4_signOf 28 = .ok (.if_icmp .ne 71, 3) := by decide +kernel
theorem dX4_signOf_31 : decode cX4_signOf 31 = .ok (.aload_n 0, 1) := by decide +kernel
theorem dX4_signOf_32 : decode cX4_signOf 32 = .ok (.getfield 9, 3) := by decide +kernel
theorem dX4_signOf_35 : decode cX4_signOf 35 = .ok (.getfield 95, 3) := by decide +kernel
theorem dX4_signOf_38 : decode cX4_signOf 38 = .ok (.iconst 5, 1) := by decide +kernel
theorem dX4_signOf_39 : decode cX4_signOf 39 = .ok (.aaload, 1) := by decide +kernel
theorem dX4_signOf_40 : decode cX4_signOf 40 = .ok (.iload 5, 2) := by decide +kernel
theorem dX4_signOf_42 : decode cX4_signOf 42 = .ok (.iaload, 1) := by decide +kernel
theorem dX4_signOf_43 : decode cX4_signOf 43 = .ok (.iload 4, 2) := by decide +kernel
theorem dX4_signOf_45 : decode cX4_signOf 45 = .ok (.if_icmp .ne 54, 3) := by decide +kernel
theorem dX4_signOf_48 : decode cX4_signOf 48 = .ok (.iconst 0, 1) := by decide +kernel
theorem dX4_signOf_49 : decode cX4_signOf 49 = .ok (.istore 6, 2) := by decide +kernel
theorem dX4_signOf_51 : decode cX4_signOf 51 = .ok (.iload 6, 2) := by decide +kernel
theorem dX4_signOf_53 : decode cX4_signOf 53 = .ok (.iload 4, 2) := by decide +kernel
theorem dX4_signOf_55 : decode cX4_signOf 55 = .ok (.if_icmp .ge 34, 3) := by decide +kernel
theorem dX4_signOf_58 : decode cX4_signOf 58 = .ok (.aload_n 0, 1) := by decide +kernel
theorem dX4_signOf_59 : decode cX4_signOf 59 = .ok (.getfield 9, 3) := by decide +kernel
theorem dX4_signOf_62 : decode cX4_signOf 62 = .ok (.getfield 98, 3) := by decide +kernel
theorem dX4_signOf_65 : decode cX4_signOf 65 = .ok (.iload 5, 2) := by decide +kernel
theorem dX4_signOf_67 : decode cX4_signOf 67 = .ok (.bipush 6, 2) := by decide +kernel
theorem dX4_signOf_69 : decode cX4_signOf 69 = .ok (.imul, 1) := by decide +kernel
theorem dX4_signOf_70 : decode cX4_signOf 70 = .ok (.iload 6, 2) := by decide +kernel
theorem dX4_signOf_72 : decode cX4_signOf 72 = .ok (.iadd, 1) := by decide +kernel
theorem dX4_signOf_73 : decode cX4_signOf 73 = .ok (.iaload, 1) := by decide +kernel
theorem dX4_signOf_74 : decode cX4_signOf 74 = .ok (.aload_n 2, 1) := by decide +kernel
theorem dX4_signOf_75 : decode cX4_signOf 75 = .ok (.iload_n 3, 1) := by decide +kernel
theorem dX4_signOf_76 : decode cX4_signOf 76 = .ok (.iload 6, 2) := by decide +kernel
theorem dX4_signOf_78 : decode cX4_signOf 78 = .ok (.iadd, 1) := by decide +kernel
theorem dX4_signOf_79 : decode cX4_signOf 79 = .ok (.iaload, 1) := by decide +kernel
theorem dX4_signOf_80 : decode cX4_signOf 80 = .ok (.if_icmp .ne 9, 3) := by decide +kernel
theorem dX4_signOf_83 : decode cX4_signOf 83 = .ok (.iinc 6 1, 3) := by decide +kernel
theorem dX4_signOf_86 : decode cX4_signOf 86 = .ok (.goto (-35), 3) := by decide +kernel
theorem dX4_signOf_89 : decode cX4_signOf 89 = .ok (.iload 6, 2) := by decide +kernel
theorem dX4_signOf_91 : decode cX4_signOf 91 = .ok (.iload 4, 2) := by decide +kernel
theorem dX4_signOf_93 : decode cX4_signOf 93 = .ok (.if_icmp .ne 6, 3) := by decide +kernel
theorem dX4_signOf_96 : decode cX4_signOf 96 = .ok (.iload 5, 2) := by decide +kernel
theorem dX4_signOf_98 : decode cX4_signOf 98 = .ok (.ireturn, 1) := by decide +kernel
theorem dX4_signOf_99 : decode cX4_signOf 99 = .ok (.iinc 5 1, 3) := by decide +kernel
theorem dX4_signOf_102 : decode cX4_signOf 102 = .ok (.goto (-99), 3) := by decide +kernel
theorem dX4_signOf_105 : decode cX4_signOf 105 = .ok (.iconst (-1), 1) := by decide +kernel
theorem dX4_signOf_106 : decode cX4_signOf 106 = .ok (.ireturn, 1) := by decide +kernel
def rpX4_signOf : List Nat := [0, 1, 3, 5, 6, 9, 12, 15, 16, 19, 22, 23, 24, 26, 27, 28, 31, 32, 35, 38, 39, 40, 42, 43, 45, 48, 49, 51, 53, 55, 58, 59, 62, 65, 67, 69, 70, 72, 73, 74, 75, 76, 78, 79, 80, 83, 86, 89, 91, 93, 96, 98, 99, 102, 105, 106]
noncomputable def rcX4_signOf : List rz_B := [rz_cst 0, rz_istore 5, rz_iload 5, rz_aload 0, rz_getf (Nat.add (Nat.mul 256 6) 1) 0 rz_r, rz_getf (Nat.add (Nat.mul 256 9) 1) 9 rz_i, rz_icmpge 54, rz_aload 0, rz_getf (Nat.add (Nat.mul 256 6) 1) 0 rz_r, rz_getf (Nat.add (Nat.mul 256 9) 1) 10 rz_r, rz_cst 0, rz_aald, rz_iload 5, rz_iald, rz_iload 1, rz_icmpne 52, rz_aload 0, rz_getf (Nat.add (Nat.mul 256 6) 1) 0 rz_r, rz_getf (Nat.add (Nat.mul 256 9) 1) 10 rz_r, rz_cst 5, rz_aald, rz_iload 5, rz_iald, rz_iload 4, rz_icmpne 52, rz_cst 0, rz_istore 6, rz_iload 6, rz_iload 4, rz_icmpge 47, rz_aload 0, rz_getf (Nat.add (Nat.mul 256 6) 1) 0 rz_r, rz_getf (Nat.add (Nat.mul 256 9) 1) 11 rz_r, rz_iload 5, rz_cst 6, rz_imul, rz_iload 6, rz_iadd, rz_iald, rz_aload 2, rz_iload 3, rz_iload 6, rz_iadd, rz_iald, rz_icmpne 47, rz_iinc 6 1, rz_goto 27, rz_iload 6, rz_iload 4, rz_icmpne 52, rz_iload 5, rz_iret, rz_iinc 5 1, rz_goto 2, rz_cst 4294967295, rz_iret]
noncomputable def rgX4_signOf : rz_L → rz_M → rz_Z → Bool := rz_go rcX4_signOf 7 1000000
def rrX4_signOf : Room := { frames := 0, cells := 0, slots := 0, locals := 0 }
theorem rmX4_signOf (l : Launch) {G : rz_G} (hG : rz_Gd G) (vs : rz_L) (M : rz_M) (Z : rz_Z) (hn : vs.length = 5) (h : rgX4_signOf vs M Z = true) : Met l yX4_signOf (Cond.code yX4_signOf cX4_signOf 7 (some .int) :: rz_TB) rrX4_signOf (rz_Pre G vs M) (rz_Qi G M.2 Z) 0 0 (fun q => rz_b G ≤ q) := by
  obtain ⟨D, tc, ad, b, xs, rfl⟩ := id hG
  refine rz_body (pcs := rpX4_signOf) (by decide) rfl (by rw [hn]; decide) h ?_
  intro p e R s m args below meth c hC
  obtain ⟨hx, hb, hml, hr, hlk, ho, hts, hKn, hRm⟩ := id hC
  obtain ⟨hK, hA, hSt⟩ := id hKn
  have hw : ∀ {i j : Nat} {ws : List Cond} {w : Cond}, rz_WW[i]? = some ws → ws[j]? = some w → w.before args s = true := fun h1 h2 => hts _ (List.mem_cons_of_mem _ (rz_mem h1 h2))
  refine rz_All_c (i := 0) (fun k J hk hJ => rz_iconst_ok (pc := 0) hx hb dX4_signOf_0 rfl hk) ?_
  refine rz_All_c (i := 1) (fun k J hk hJ => rz_istore_ok (pc := 1) hx hb dX4_signOf_1 hk) ?_
  refine rz_All_c (i := 2) (fun k J hk hJ => rz_iload_ok (pc := 3) hx hb dX4_signOf_3 hk) ?_
  refine rz_All_c (i := 3) (fun k J hk hJ => rz_aload_n_ok (pc := 5) hx hb dX4_signOf_5 rfl hk) ?_
  refine rz_All_c (i := 4) (fun k J hk hJ => rz_getf_ok (pc := 6) (own := RX4) (ref := "ThreadJudge$Linker") (C := RX4) (T := TX4) (N := 4) (ci := 6) (index := 9) (f := 0) (t := 2) (Ts := Cond.code yX4_signOf cX4_signOf 7 (some .int) :: rz_TB) hx hb hts rz_in6 ho hK rfl (by decide) rfl (fun _ => rfl) (hw (i := 16) (j := 3) rfl rfl) (fun _ z => z) dX4_signOf_6 hk) ?_
  refine rz_All_c (i := 5) (fun k J hk hJ => rz_getf_ok (pc := 9) (own := RX4) (ref := "ThreadJudge$Program") (C := RX7) (T := TX7) (N := 22) (ci := 9) (index := 92) (f := 9) (t := 0) (Ts := Cond.code yX4_signOf cX4_signOf 7 (some .int) :: rz_TB) hx hb hts rz_in9 ho hK rfl (by decide) rfl (fun _ => rfl) (hw (i := 17) (j := 12) rfl rfl) (fun _ z => z) dX4_signOf_9 hk) ?_
  refine rz_All_c (i := 6) (fun k J hk hJ => rz_icmpge_ok (pc := 12) hx hb dX4_signOf_12 rfl hk (hJ 54)) ?_
  refine rz_All_c (i := 7) (fun k J hk hJ => rz_aload_n_ok (pc := 15) hx hb dX4_signOf_15 rfl hk) ?_
  refine rz_All_c (i := 8) (fun k J hk hJ => rz_getf_ok (pc := 16) (own := RX4) (ref := "ThreadJudge$Linker") (C := RX4) (T := TX4) (N := 4) (ci := 6) (index := 9) (f := 0) (t := 2) (Ts := Cond.code yX4_signOf cX4_signOf 7 (some .int) :: rz_TB) hx hb hts rz_in6 ho hK rfl (by decide) rfl (fun _ => rfl) (hw (i := 16) (j := 3) rfl rfl) (fun _ z => z) dX4_signOf_16 hk) ?_
  refine rz_All_c (i := 9) (fun k J hk hJ => rz_getf_ok (pc := 19) (own := RX4) (ref := "ThreadJudge$Program") (C := RX7) (T := TX7) (N := 22) (ci := 9) (index := 95) (f := 10) (t := 2) (Ts := Cond.code yX4_signOf cX4_signOf 7 (some .int) :: rz_TB) hx hb hts rz_in9 ho hK rfl (by decide) rfl (fun _ => rfl) (hw (i := 17) (j := 13) rfl rfl) (fun _ z => z) dX4_signOf_19 hk) ?_
  refine rz_All_c (i := 10) (fun k J hk hJ => rz_iconst_ok (pc := 22) hx hb dX4_signOf_22 rfl hk) ?_
  refine rz_All_c (i := 11) (fun k J hk hJ => rz_aald_ok (pc := 23) hx hb hK dX4_signOf_23 hk) ?_
  refine rz_All_c (i := 12) (fun k J hk hJ => rz_iload_ok (pc := 24) hx hb dX4_signOf_24 hk) ?_
  refine rz_All_c (i := 13) (fun k J hk hJ => rz_iald_ok (pc := 26) hx hb hK dX4_signOf_26 hk) ?_
  refine rz_All_c (i := 14) (fun k J hk hJ => rz_iload_n_ok (pc := 27) hx hb dX4_signOf_27 rfl hk) ?_
  refine rz_All_c (i := 15) (fun k J hk hJ => rz_icmpne_ok (pc := 28) hx hb dX4_signOf_28 rfl hk (hJ 52)) ?_
  refine rz_All_c (i := 16) (fun k J hk hJ => rz_aload_n_ok (pc := 31) hx hb dX4_signOf_31 rfl hk) ?_
  refine rz_All_c (i := 17) (fun k J hk hJ => rz_getf_ok (pc := 32) (own := RX4) (ref := "ThreadJudge$Linker") (C := RX4) (T := TX4) (N := 4) (ci := 6) (index := 9) (f := 0) (t := 2) (Ts := Cond.code yX4_signOf cX4_signOf 7 (some .int) :: rz_TB) hx hb hts rz_in6 ho hK rfl (by decide) rfl (fun _ => rfl) (hw (i := 16) (j := 3) rfl rfl) (fun _ z => z) dX4_signOf_32 hk) ?_
  refine rz_All_c (i := 18) (fun k J hk hJ => rz_getf_ok (pc := 35) (own := RX4) (ref := "ThreadJudge$Program") (C := RX7) (T := TX7) (N := 22) (ci := 9) (index := 95) (f := 10) (t := 2) (Ts := Cond.code yX4_signOf cX4_signOf 7 (some .int) :: rz_TB) hx hb hts rz_in9 ho hK rfl (by decide) rfl (fun _ => rfl) (hw (i := 17) (j := 13) rfl rfl) (fun _ z => z) dX4_signOf_35 hk) ?_
  refine rz_All_c (i := 19) (fun k J hk hJ => rz_iconst_ok (pc := 38) hx hb dX4_signOf_38 rfl hk) ?_
  refine rz_All_c (i := 20) (fun k J hk hJ => rz_aald_ok (pc := 39) hx hb hK dX4_signOf_39 hk) ?_
  refine rz_All_c (i := 21) (fun k J hk hJ => rz_iload_ok (pc := 40) hx hb dX4_signOf_40 hk) ?_
  refine rz_All_c (i := 22) (fun k J hk hJ => rz_iald_ok (pc := 42) hx hb hK dX4_signOf_42 hk) ?_
  refine rz_All_c (i := 23) (fun k J hk hJ => rz_iload_ok (pc := 43) hx hb dX4_signOf_43 hk) ?_
  refine rz_All_c (i := 24) (fun k J hk hJ => rz_icmpne_ok (pc := 45) hx hb dX4_signOf_45 rfl hk (hJ 52)) ?_
  refine rz_All_c (i := 25) (fun k J hk hJ => rz_iconst_ok (pc := 48) hx hb dX4_signOf_48 rfl hk) ?_
  refine rz_All_c (i := 26) (fun k J hk hJ => rz_istore_ok (pc := 49) hx hb dX4_signOf_49 hk) ?_
  refine rz_All_c (i := 27) (fun k J hk hJ => rz_iload_ok (pc := 51) hx hb dX4_signOf_51 hk) ?_
  refine rz_All_c (i := 28) (fun k J hk hJ => rz_iload_ok (pc := 53) hx hb dX4_signOf_53 hk) ?_
  refine rz_All_c (i := 29) (fun k J hk hJ => rz_icmpge_ok (pc := 55) hx hb dX4_signOf_55 rfl hk (hJ 47)) ?_
  refine rz_All_c (i := 30) (fun k J hk hJ => rz_aload_n_ok (pc := 58) hx hb dX4_signOf_58 rfl hk) ?_
  refine rz_All_c (i := 31) (fun k J hk hJ => rz_getf_ok (pc := 59) (own := RX4) (ref := "ThreadJudge$Linker") (C := RX4) (T := TX4) (N := 4) (ci := 6) (index := 9) (f := 0) (t := 2) (Ts := Cond.code yX4_signOf cX4_signOf 7 (some .int) :: rz_TB) hx hb hts rz_in6 ho hK rfl (by decide) rfl (fun _ => rfl) (hw (i := 16) (j := 3) rfl rfl) (fun _ z => z) dX4_signOf_59 hk) ?_
  refine rz_All_c (i := 32) (fun k J hk hJ => rz_getf_ok (pc := 62) (own := RX4) (ref := "ThreadJudge$Program") (C := RX7) (T := TX7) (N := 22) (ci := 9) (index := 98) (f := 11) (t := 2) (Ts := Cond.code yX4_signOf cX4_signOf 7 (some .int) :: rz_TB) hx hb hts rz_in9 ho hK rfl (by decide) rfl (fun _ => rfl) (hw (i := 17) (j := 14) rfl rfl) (fun _ z => z) dX4_signOf_62 hk) ?_
  refine rz_All_c (i := 33) (fun k J hk hJ => rz_iload_ok (pc := 65) hx hb dX4_signOf_65 hk) ?_
  refine rz_All_c (i := 34) (fun k J hk hJ => rz_bipush_ok (pc := 67) hx hb dX4_signOf_67 (by decide) hk) ?_
  refine rz_All_c (i := 35) (fun k J hk hJ => rz_imul_ok (pc := 69) hx hb dX4_signOf_69 hk) ?_
  refine rz_All_c (i := 36) (fun k J hk hJ => rz_iload_ok (pc := 70) hx hb dX4_signOf_70 hk) ?_
  refine rz_All_c (i := 37) (fun k J hk hJ => rz_iadd_ok (pc := 72) hx hb dX4_signOf_72 hk) ?_
  refine rz_All_c (i := 38) (fun k J hk hJ => rz_iald_ok (pc := 73) hx hb hK dX4_signOf_73 hk) ?_
  refine rz_All_c (i := 39) (fun k J hk hJ => rz_aload_n_ok (pc := 74) hx hb dX4_signOf_74 rfl hk) ?_
  refine rz_All_c (i := 40) (fun k J hk hJ => rz_iload_n_ok (pc := 75) hx hb dX4_signOf_75 rfl hk) ?_
  refine rz_All_c (i := 41) (fun k J hk hJ => rz_iload_ok (pc := 76) hx hb dX4_signOf_76 hk) ?_
  refine rz_All_c (i := 42) (fun k J hk hJ => rz_iadd_ok (pc := 78) hx hb dX4_signOf_78 hk) ?_
  refine rz_All_c (i := 43) (fun k J hk hJ => rz_iald_ok (pc := 79) hx hb hK dX4_signOf_79 hk) ?_
  refine rz_All_c (i := 44) (fun k J hk hJ => rz_icmpne_ok (pc := 80) hx hb dX4_signOf_80 rfl hk (hJ 47)) ?_
  refine rz_All_c (i := 45) (fun k J hk hJ => rz_iinc_ok (pc := 83) hx hb dX4_signOf_83 (by decide) hk) ?_
  refine rz_All_c (i := 46) (fun k J hk hJ => rz_goto_ok (pc := 86) hx hb dX4_signOf_86 rfl (hJ 27)) ?_
  refine rz_All_c (i := 47) (fun k J hk hJ => rz_iload_ok (pc := 89) hx hb dX4_signOf_89 hk) ?_
  refine rz_All_c (i := 48) (fun k J hk hJ => rz_iload_ok (pc := 91) hx hb dX4_signOf_91 hk) ?_
  refine rz_All_c (i := 49) (fun k J hk hJ => rz_icmpne_ok (pc := 93) hx hb dX4_signOf_93 rfl hk (hJ 52)) ?_
  refine rz_All_c (i := 50) (fun k J hk hJ => rz_iload_ok (pc := 96) hx hb dX4_signOf_96 hk) ?_
  refine rz_All_c (i := 51) (fun k J hk hJ => rz_iret_ok (pc := 98) hC dX4_signOf_98) ?_
  refine rz_All_c (i := 52) (fun k J hk hJ => rz_iinc_ok (pc := 99) hx hb dX4_signOf_99 (by decide) hk) ?_
  refine rz_All_c (i := 53) (fun k J hk hJ => rz_goto_ok (pc := 102) hx hb dX4_signOf_102 rfl (hJ 2)) ?_
  refine rz_All_c (i := 54) (fun k J hk hJ => rz_iconst_ok (pc := 105) hx hb dX4_signOf_105 rfl hk) ?_
  refine rz_All_c (i := 55) (fun k J hk hJ => rz_iret_ok (pc := 106) hC dX4_signOf_106) ?_
  exact trivial
theorem dX4_findMain_0 : decode cX4_findMain 0 = .ok (.aload_n 0, 1) := by decide +kernel
theorem dX4_findMain_1 : decode cX4_findMain 1 = .ok (.bipush 75, 2) := by decide +kernel
theorem dX4_findMain_3 : decode cX4_findMain 3 = .ok (.aload_n 0, 1) := by decide +kernel
theorem dX4_findMain_4 : decode cX4_findMain 4 = .ok (.getfield 9, 3) := by decide +kernel
theorem dX4_findMain_7 : decode cX4_findMain 7 = .ok (.getfield 98, 3) := by decide +kernel
theorem dX4_findMain_10 : decode cX4_findMain 10 = .ok (.iconst 0, 1) := by decide +kernel
theorem dX4_findMain_11 : decode cX4_findMain 11 = .ok (.iconst 0, 1) := by decide +kernel
theorem dX4_findMain_12 : decode cX4_findMain 12 = .ok (.invokevirtual 101, 3) := by decide +kernel
theorem dX4_findMain_15 : decode cX4_findMain 15 = .ok (.istore_n 2, 1) := by decide +kernel
theorem dX4_findMain_16 : decode cX4_findMain 16 = .ok (.bipush 19, 2) := by decide +kernel
theorem dX4_findMain_18 : decode cX4_findMain 18 = .ok (.istore_n 3, 1) := by decide +kernel
theorem dX4_findMain_19 : decode cX4_findMain 19 = .ok (.iload_n 2, 1) := by decide +kernel
theorem dX4_findMain_20 : decode cX4_findMain 20 = .ok (.ifCond .lt 88, 3) := by decide +kernel
theorem dX4_findMain_108 : decode cX4_findMain 108 = .ok (.aload_n 0, 1) := by decide +kernel
theorem dX4_findMain_109 : decode cX4_findMain 109 = .ok (.bipush 13, 2) := by decide +kernel
theorem dX4_findMain_111 : decode cX4_findMain 111 = .ok (.iload_n 1, 1) := by decide +kernel
theorem dX4_findMain_112 : decode cX4_findMain 112 = .ok (.invokevirtual 62, 3) := by decide +kernel
theorem dX4_findMain_115 : decode cX4_findMain 115 = .ok (.return_, 1) := by decide +kernel
def rpX4_findMain : List Nat := [0, 1, 3, 4, 7, 10, 11, 12, 15, 16, 18, 19, 20, 23, 108, 109, 111, 112, 115]
noncomputable def rcX4_findMain : List rz_B := [rz_aload 0, rz_cst 75, rz_aload 0, rz_getf (Nat.add (Nat.mul 256 6) 1) 0 rz_r, rz_getf (Nat.add (Nat.mul 256 9) 1) 11 rz_r, rz_cst 0, rz_cst 0, rz_callV 4 (Nat.add (Nat.mul 256 6) 1) rgX4_signOf, rz_istore 2, rz_cst 19, rz_istore 3, rz_iload 2, rz_iflt 14, rz_no, rz_aload 0, rz_cst 13, rz_iload 1, rz_callVv 2 (Nat.add (Nat.mul 256 6) 1) rgX4_note, rz_vret]
noncomputable def rgX4_findMain : rz_L → rz_M → rz_Z → Bool := rz_go rcX4_findMain 5 1000000
def rrX4_findMain : Room := { frames := 1, cells := 0, slots := 0, locals := 26 }
theorem rmX4_findMain (l : Launch) {G : rz_G} (hG : rz_Gd G) (vs : rz_L) (M : rz_M) (Z : rz_Z) (hn : vs.length = 2) (h : rgX4_findMain vs M Z = true) : Met l yX4_findMain (Cond.code yX4_findMain cX4_findMain 5 none :: rz_TB) rrX4_findMain (rz_Pre G vs M) (rz_Qv G M.2 Z) 0 0 (fun q => rz_b G ≤ q) := by
  obtain ⟨D, tc, ad, b, xs, rfl⟩ := id hG
  refine rz_body (pcs := rpX4_findMain) (by decide) rfl (by rw [hn]; decide) h ?_
  intro p e R s m args below meth c hC
  obtain ⟨hx, hb, hml, hr, hlk, ho, hts, hKn, hRm⟩ := id hC
  obtain ⟨hK, hA, hSt⟩ := id hKn
  have hw : ∀ {i j : Nat} {ws : List Cond} {w : Cond}, rz_WW[i]? = some ws → ws[j]? = some w → w.before args s = true := fun h1 h2 => hts _ (List.mem_cons_of_mem _ (rz_mem h1 h2))
  refine rz_All_c (i := 0) (fun k J hk hJ => rz_aload_n_ok (pc := 0) hx hb dX4_findMain_0 rfl hk) ?_
  refine rz_All_c (i := 1) (fun k J hk hJ => rz_bipush_ok (pc := 1) hx hb dX4_findMain_1 (by decide) hk) ?_
  refine rz_All_c (i := 2) (fun k J hk hJ => rz_aload_n_ok (pc := 3) hx hb dX4_findMain_3 rfl hk) ?_
  refine rz_All_c (i := 3) (fun k J hk hJ => rz_getf_ok (pc := 4) (own := RX4) (ref := "ThreadJudge$Linker") (C := RX4) (T := TX4) (N := 4) (ci := 6) (index := 9) (f := 0) (t := 2) (Ts := Cond.code yX4_findMain cX4_findMain 5 none :: rz_TB) hx hb hts rz_in6 ho hK rfl (by decide) rfl (fun _ => rfl) (hw (i := 16) (j := 3) rfl rfl) (fun _ z => z) dX4_findMain_4 hk) ?_
  refine rz_All_c (i := 4) (fun k J hk hJ => rz_getf_ok (pc := 7) (own := RX4) (ref := "ThreadJudge$Program") (C := RX7) (T := TX7) (N := 22) (ci := 9) (index := 98) (f := 11) (t := 2) (Ts := Cond.code yX4_findMain cX4_findMain 5 none :: rz_TB) hx hb hts rz_in9 ho hK rfl (by decide) rfl (fun _ => rfl) (hw (i := 17) (j := 14) rfl rfl) (fun _ z => z) dX4_findMain_7 hk) ?_
  refine rz_All_c (i := 5) (fun k J hk hJ => rz_iconst_ok (pc := 10) hx hb dX4_findMain_10 rfl hk) ?_
  refine rz_All_c (i := 6) (fun k J hk hJ => rz_iconst_ok (pc := 11) hx hb dX4_findMain_11 rfl hk) ?_
  refine rz_All_c (i := 7) (fun k J hk hJ => rz_callV_ok (pc := 12) (own := RX4) (C := RX4) (T0 := TX4) (N0 := 4) hC rfl (rmX4_signOf l hG) (rz_cwV 4 hC rz_good (rz_mem (i := 17) (j := 19) rfl rfl) (rz_mem (i := 17) (j := 20) rfl rfl) (rz_mem (i := 17) (j := 21) rfl rfl) (rz_mem (i := 15) (j := 19) rfl rfl) (rz_mem (i := 17) (j := 22) rfl rfl) ⟨rfl, by decide, by decide, by decide +kernel⟩ rfl rfl ⟨by decide, by decide⟩) rfl dX4_findMain_12 hk) ?_
  refine rz_All_c (i := 8) (fun k J hk hJ => rz_istore_n_ok (pc := 15) hx hb dX4_findMain_15 rfl hk) ?_
  refine rz_All_c (i := 9) (fun k J hk hJ => rz_bipush_ok (pc := 16) hx hb dX4_findMain_16 (by decide) hk) ?_
  refine rz_All_c (i := 10) (fun k J hk hJ => rz_istore_n_ok (pc := 18) hx hb dX4_findMain_18 rfl hk) ?_
  refine rz_All_c (i := 11) (fun k J hk hJ => rz_iload_n_ok (pc := 19) hx hb dX4_findMain_19 rfl hk) ?_
  refine rz_All_c (i := 12) (fun k J hk hJ => rz_iflt_ok (pc := 20) hx hb dX4_findMain_20 rfl hk (hJ 14)) ?_
  refine rz_All_c (i := 13) (fun k J hk hJ => rz_no_ok) ?_
  refine rz_All_c (i := 14) (fun k J hk hJ => rz_aload_n_ok (pc := 108) hx hb dX4_findMain_108 rfl hk) ?_
  refine rz_All_c (i := 15) (fun k J hk hJ => rz_bipush_ok (pc := 109) hx hb dX4_findMain_109 (by decide) hk) ?_
  refine rz_All_c (i := 16) (fun k J hk hJ => rz_iload_n_ok (pc := 111) hx hb dX4_findMain_111 rfl hk) ?_
  refine rz_All_c (i := 17) (fun k J hk hJ => rz_callVv_ok (pc := 112) (own := RX4) (C := RX4) (T0 := TX4) (N0 := 4) hC rfl (rmX4_note l hG) (rz_cwV 2 hC rz_good (rz_mem (i := 16) (j := 13) rfl rfl) (rz_mem (i := 16) (j := 14) rfl rfl) (rz_mem (i := 16) (j := 15) rfl rfl) (rz_mem (i := 15) (j := 19) rfl rfl) (rz_mem (i := 16) (j := 16) rfl rfl) ⟨rfl, by decide, by decide, by decide +kernel⟩ rfl rfl ⟨by decide, by decide⟩) rfl dX4_findMain_112 hk) ?_
  refine rz_All_c (i := 18) (fun k J hk hJ => rz_vret_ok (pc := 115) hC dX4_findMain_115) ?_
  exact trivial
theorem dX7_named_0 : decode cX7_named 0 = .ok (.iconst 0, 1) := by decide +kernel
theorem dX7_named_1 : decode cX7_named 1 = .ok (.istore_n 2, 1) := by decide +kernel
theorem dX7_named_2 : decode cX7_named 2 = .ok (.iload_n 2, 1) := by decide +kernel
theorem dX7_named_3 : decode cX7_named 3 = .ok (.aload_n 0, 1) := by decide +kernel
theorem dX7_named_4 : decode cX7_named 4 = .ok (.getfield 62, 3) := by decide +kernel
theorem dX7_named_7 : decode cX7_named 7 = .ok (.if_icmp .ge 23, 3) := by decide +kernel
theorem dX7_named_10 : decode cX7_named 10 = .ok (.aload_n 0, 1) := by decide +kernel
theorem dX7_named_11 : decode cX7_named 11 = .ok (.getfield 11, 3) := by decide +kernel
theorem dX7_named_14 : decode cX7_named 14 = .ok (.iconst 0, 1) := by decide +kernel
theorem dX7_named_15 : decode cX7_named 15 = .ok (.aaload, 1) := by decide +kernel
theorem dX7_named_16 : decode cX7_named 16 = .ok (.iload_n 2, 1) := by decide +kernel
theorem dX7_named_17 : decode cX7_named 17 = .ok (.iaload, 1) := by decide +kernel
theorem dX7_named_18 : decode cX7_named 18 = .ok (.iload_n 1, 1) := by decide +kernel
theorem dX7_named_19 : decode cX7_named 19 = .ok (.if_icmp .ne 5, 3) := by decide +kernel
theorem dX7_named_22 : decode cX7_named 22 = .ok (.iload_n 2, 1) := by decide +kernel
theorem dX7_named_23 : decode cX7_named 23 = .ok (.ireturn, 1) := by decide +kernel
theorem dX7_named_24 : decode cX7_named 24 = .ok (.iinc 2 1, 3) := by decide +kernel
theorem dX7_named_27 : decode cX7_named 27 = .ok (.goto (-25), 3) := by decide +kernel
def rpX7_named : List Nat := [0, 1, 2, 3, 4, 7, 10, 11, 14, 15, 16, 17, 18, 19, 22, 23, 24, 27, 30]
noncomputable def rcX7_named : List rz_B := [rz_cst 0, rz_istore 2, rz_iload 2, rz_aload 0, rz_getf (Nat.add (Nat.mul 256 9) 1) 2 rz_i, rz_icmpge 18, rz_aload 0, rz_getf (Nat.add (Nat.mul 256 9) 1) 3 rz_r, rz_cst 0, rz_aald, rz_iload 2, rz_iald, rz_iload 1, rz_icmpne 16, rz_iload 2, rz_iret, rz_iinc 2 1, rz_goto 2, rz_no]
noncomputable def rgX7_named : rz_L → rz_M → rz_Z → Bool := rz_go rcX7_named 3 1000000
def rrX7_named : Room := { frames := 0, cells := 0, slots := 0, locals := 0 }
theorem rmX7_named (l : Launch) {G : rz_G} (hG : rz_Gd G) (vs : rz_L) (M : rz_M) (Z : rz_Z) (hn : vs.length = 2) (h : rgX7_named vs M Z = true) : Met l yX7_named (Cond.code yX7_named cX7_named 3 (some .int) :: rz_TB) rrX7_named (rz_Pre G vs M) (rz_Qi G M.2 Z) 0 0 (fun q => rz_b G ≤ q) := by
  obtain ⟨D, tc, ad, b, xs, rfl⟩ := id hG
  refine rz_body (pcs := rpX7_named) (by decide) rfl (by rw [hn]; decide) h ?_
  intro p e R s m args below meth c hC
  obtain ⟨hx, hb, hml, hr, hlk, ho, hts, hKn, hRm⟩ := id hC
  obtain ⟨hK, hA, hSt⟩ := id hKn
  have hw : ∀ {i j : Nat} {ws : List Cond} {w : Cond}, rz_WW[i]? = some ws → ws[j]? = some w → w.before args s = true := fun h1 h2 => hts _ (List.mem_cons_of_mem _ (rz_mem h1 h2))
  refine rz_All_c (i := 0) (fun k J hk hJ => rz_iconst_ok (pc := 0) hx hb dX7_named_0 rfl hk) ?_
  refine rz_All_c (i := 1) (fun k J hk hJ => rz_istore_n_ok (pc := 1) hx hb dX7_named_1 rfl hk) ?_
  refine rz_All_c (i := 2) (fun k J hk hJ => rz_iload_n_ok (pc := 2) hx hb dX7_named_2 rfl hk) ?_
  refine rz_All_c (i := 3) (fun k J hk hJ => rz_aload_n_ok (pc := 3) hx hb dX7_named_3 rfl hk) ?_
  refine rz_All_c (i := 4) (fun k J hk hJ => rz_getf_ok (pc := 4) (own := RX7) (ref := "ThreadJudge$Program") (C := RX7) (T := TX7) (N := 22) (ci := 9) (index := 62) (f := 2) (t := 0) (Ts := Cond.code yX7_named cX7_named 3 (some .int) :: rz_TB) hx hb hts rz_in9 ho hK rfl (by decide) rfl (fun _ => rfl) (hw (i := 1) (j := 4) rfl rfl) (fun _ z => z) dX7_named_4 hk) ?_
  refine rz_All_c (i := 5) (fun k J hk hJ => rz_icmpge_ok (pc := 7) hx hb dX7_named_7 rfl hk (hJ 18)) ?_
  refine rz_All_c (i := 6) (fun k J hk hJ => rz_aload_n_ok (pc := 10) hx hb dX7_named_10 rfl hk) ?_
  refine rz_All_c (i := 7) (fun k J hk hJ => rz_getf_ok (pc := 11) (own := RX7) (ref := "ThreadJudge$Program") (C := RX7) (T := TX7) (N := 22) (ci := 9) (index := 11) (f := 3) (t := 2) (Ts := Cond.code yX7_named cX7_named 3 (some .int) :: rz_TB) hx hb hts rz_in9 ho hK rfl (by decide) rfl (fun _ => rfl) (hw (i := 16) (j := 12) rfl rfl) (fun _ z => z) dX7_named_11 hk) ?_
  refine rz_All_c (i := 8) (fun k J hk hJ => rz_iconst_ok (pc := 14) hx hb dX7_named_14 rfl hk) ?_
  refine rz_All_c (i := 9) (fun k J hk hJ => rz_aald_ok (pc := 15) hx hb hK dX7_named_15 hk) ?_
  refine rz_All_c (i := 10) (fun k J hk hJ => rz_iload_n_ok (pc := 16) hx hb dX7_named_16 rfl hk) ?_
  refine rz_All_c (i := 11) (fun k J hk hJ => rz_iald_ok (pc := 17) hx hb hK dX7_named_17 hk) ?_
  refine rz_All_c (i := 12) (fun k J hk hJ => rz_iload_n_ok (pc := 18) hx hb dX7_named_18 rfl hk) ?_
  refine rz_All_c (i := 13) (fun k J hk hJ => rz_icmpne_ok (pc := 19) hx hb dX7_named_19 rfl hk (hJ 16)) ?_
  refine rz_All_c (i := 14) (fun k J hk hJ => rz_iload_n_ok (pc := 22) hx hb dX7_named_22 rfl hk) ?_
  refine rz_All_c (i := 15) (fun k J hk hJ => rz_iret_ok (pc := 23) hC dX7_named_23) ?_
  refine rz_All_c (i := 16) (fun k J hk hJ => rz_iinc_ok (pc := 24) hx hb dX7_named_24 (by decide) hk) ?_
  refine rz_All_c (i := 17) (fun k J hk hJ => rz_goto_ok (pc := 27) hx hb dX7_named_27 rfl (hJ 2)) ?_
  refine rz_All_c (i := 18) (fun k J hk hJ => rz_no_ok) ?_
  exact trivial
theorem dX4_linkImplemented_0 : decode cX4_linkImplemented 0 = .ok (.iconst 0, 1) := by decide +kernel
theorem dX4_linkImplemented_1 : decode cX4_linkImplemented 1 = .ok (.istore_n 2, 1) := by decide +kernel
theorem dX4_linkImplemented_2 : decode cX4_linkImplemented 2 = .ok (.iload_n 2, 1) := by decide +kernel
theorem dX4_linkImplemented_3 : decode cX4_linkImplemented 3 = .ok (.aload_n 0, 1) := by decide +kernel
theorem dX4_linkImplemented_4 : decode cX4_linkImplemented 4 = .ok (.getfield 9, 3) := by decide +kernel
theorem dX4_linkImplemented_7 : decode cX4_linkImplemented 7 = .ok (.getfield 54, 3) := by decide +kernel
theorem dX4_linkImplemented_10 : decode cX4_linkImplemented 10 = .ok (.bipush 8, 2) := by decide +kernel
theorem dX4_linkImplemented_12 : decode cX4_linkImplemented 12 = .ok (.aaload, 1) := by decide +kernel
theorem dX4_linkImplemented_13 : decode cX4_linkImplemented 13 = .ok (.iload_n 1, 1) := by decide +kernel
theorem dX4_linkImplemented_14 : decode cX4_linkImplemented 14 = .ok (.iaload, 1) := by decide +kernel
theorem dX4_linkImplemented_15 : decode cX4_linkImplemented 15 = .ok (.if_icmp .ge 92, 3) := by decide +kernel
theorem dX4_linkImplemented_18 : decode cX4_linkImplemented 18 = .ok (.aload_n 0, 1) := by decide +kernel
theorem dX4_linkImplemented_19 : decode cX4_linkImplemented 19 = .ok (.getfield 9, 3) := by decide +kernel
theorem dX4_linkImplemented_22 : decode cX4_linkImplemented 22 = .ok (.aload_n 0, 1) := by decide +kernel
theorem dX4_linkImplemented_23 : decode cX4_linkImplemented 23 = .ok (.getfield 9, 3) := by decide +kernel
theorem dX4_linkImplemented_26 : decode cX4_linkImplemented 26 = .ok (.getfield 79, 3) := by decide +kernel
theorem dX4_linkImplemented_29 : decode cX4_linkImplemented 29 = .ok (.iload_n 1, 1) := by decide +kernel
theorem dX4_linkImplemented_30 : decode cX4_linkImplemented 30 = .ok (.bipush 12, 2) := by decide +kernel
theorem dX4_linkImplemented_32 : decode cX4_linkImplemented 32 = .ok (.imul, 1) := by decide +kernel
theorem dX4_linkImplemented_33 : decode cX4_linkImplemented 33 = .ok (.iload_n 2, 1) := by decide +kernel
theorem dX4_linkImplemented_34 : decode cX4_linkImplemented 34 = .ok (.iconst 2, 1) := by decide +kernel
theorem dX4_linkImplemented_35 : decode cX4_linkImplemented 35 = .ok (.imul, 1) := by decide +kernel
theorem dX4_linkImplemented_36 : decode cX4_linkImplemented 36 = .ok (.iadd, 1) := by decide +kernel
theorem dX4_linkImplemented_37 : decode cX4_linkImplemented 37 = .ok (.iaload, 1) := by decide +kernel
theorem dX4_linkImplemented_38 : decode cX4_linkImplemented 38 = .ok (.invokevirtual 58, 3) := by decide +kernel
theorem dX4_linkImplemented_41 : decode cX4_linkImplemented 41 = .ok (.istore_n 3, 1) := by decide +kernel
theorem dX4_linkImplemented_42 : decode cX4_linkImplemented 42 = .ok (.iload_n 3, 1) := by decide +kernel
theorem dX4_linkImplemented_43 : decode cX4_linkImplemented 43 = .ok (.ifCond .lt 15, 3) := by decide +kernel
theorem dX4_linkImplemented_46 : decode cX4_linkImplemented 46 = .ok (.aload_n 0, 1) := by decide +kernel
theorem dX4_linkImplemented_47 : decode cX4_linkImplemented 47 = .ok (.getfield 9, 3) := by decide +kernel
theorem dX4_linkImplemented_50 : decode cX4_linkImplemented 50 = .ok (.iload_n 3, 1) := by decide +kernel
theorem dX4_linkImplemented_51 : decode cX4_linkImplemented 51 = .ok (.iconst 1, 1) := by decide +kernel
theorem dX4_linkImplemented_52 : decode cX4_linkImplemented 52 = .ok (.invokevirtual 72, 3) := by decide +kernel
theorem dX4_linkImplemented_55 : decode cX4_linkImplemented 55 = .ok (.ifCond .ne 27, 3) := by decide +kernel
theorem dX4_linkImplemented_82 : decode cX4_linkImplemented 82 = .ok (.iload_n 3, 1) := by decide +kernel
theorem dX4_linkImplemented_83 : decode cX4_linkImplemented 83 = .ok (.ifCond .lt 18, 3) := by decide +kernel
theorem dX4_linkImplemented_86 : decode cX4_linkImplemented 86 = .ok (.aload_n 0, 1) := by decide +kernel
theorem dX4_linkImplemented_87 : decode cX4_linkImplemented 87 = .ok (.getfield 9, 3) := by decide +kernel
theorem dX4_linkImplemented_90 : decode cX4_linkImplemented 90 = .ok (.getfield 50, 3) := by decide +kernel
theorem dX4_linkImplemented_93 : decode cX4_linkImplemented 93 = .ok (.iload_n 1, 1) := by decide +kernel
theorem dX4_linkImplemented_94 : decode cX4_linkImplemented 94 = .ok (.dup2, 1) := by decide +kernel
theorem dX4_linkImplemented_95 : decode cX4_linkImplemented 95 = .ok (.laload, 1) := by decide +kernel
theorem dX4_linkImplemented_96 : decode cX4_linkImplemented 96 = .ok (.lconst 1, 1) := by decide +kernel
theorem dX4_linkImplemented_97 : decode cX4_linkImplemented 97 = .ok (.iload_n 3, 1) := by decide +kernel
theorem dX4_linkImplemented_98 : decode cX4_linkImplemented 98 = .ok (.lshl, 1) := by decide +kernel
theorem dX4_linkImplemented_99 : decode cX4_linkImplemented 99 = .ok (.lor, 1) := by decide +kernel
theorem dX4_linkImplemented_100 : decode cX4_linkImplemented 100 = .ok (.lastore, 1) := by decide +kernel
theorem dX4_linkImplemented_101 : decode cX4_linkImplemented 101 = .ok (.iinc 2 1, 3) := by decide +kernel
theorem dX4_linkImplemented_104 : decode cX4_linkImplemented 104 = .ok (.goto (-102), 3) := by decide +kernel
theorem dX4_linkImplemented_107 : decode cX4_linkImplemented 107 = .ok (.return_, 1) := by decide +kernel
def rpX4_linkImplemented : List Nat := [0, 1, 2, 3, 4, 7, 10, 12, 13, 14, 15, 18, 19, 22, 23, 26, 29, 30, 32, 33, 34, 35, 36, 37, 38, 41, 42, 43, 46, 47, 50, 51, 52, 55, 58, 82, 83, 86, 87, 90, 93, 94, 95, 96, 97, 98, 99, 100, 101, 104, 107]
noncomputable def rcX4_linkImplemented : List rz_B := [rz_cst 0, rz_istore 2, rz_iload 2, rz_aload 0, rz_getf (Nat.add (Nat.mul 256 6) 1) 0 rz_r, rz_getf (Nat.add (Nat.mul 256 9) 1) 3 rz_r, rz_cst 8, rz_aald, rz_iload 1, rz_iald, rz_icmpge 50, rz_aload 0, rz_getf (Nat.add (Nat.mul 256 6) 1) 0 rz_r, rz_aload 0, rz_getf (Nat.add (Nat.mul 256 6) 1) 0 rz_r, rz_getf (Nat.add (Nat.mul 256 9) 1) 4 rz_r, rz_iload 1, rz_cst 12, rz_imul, rz_iload 2, rz_cst 2, rz_imul, rz_iadd, rz_iald, rz_callV 1 (Nat.add (Nat.mul 256 9) 1) rgX7_named, rz_istore 3, rz_iload 3, rz_iflt 34, rz_aload 0, rz_getf (Nat.add (Nat.mul 256 6) 1) 0 rz_r, rz_iload 3, rz_cst 1, rz_callV 2 (Nat.add (Nat.mul 256 9) 1) rgX7_isKind, rz_ifne 35, rz_no, rz_iload 3, rz_iflt 48, rz_aload 0, rz_getf (Nat.add (Nat.mul 256 6) 1) 0 rz_r, rz_getf (Nat.add (Nat.mul 256 9) 1) 5 rz_r, rz_iload 1, rz_dup2, rz_lald, rz_lcst 1, rz_iload 3, rz_lshl, rz_lor, rz_last, rz_iinc 2 1, rz_goto 2, rz_vret]
noncomputable def rgX4_linkImplemented : rz_L → rz_M → rz_Z → Bool := rz_go rcX4_linkImplemented 4 1000000
def rrX4_linkImplemented : Room := { frames := 1, cells := 0, slots := 0, locals := 22 }
theorem rmX4_linkImplemented (l : Launch) {G : rz_G} (hG : rz_Gd G) (vs : rz_L) (M : rz_M) (Z : rz_Z) (hn : vs.length = 2) (h : rgX4_linkImplemented vs M Z = true) : Met l yX4_linkImplemented (Cond.code yX4_linkImplemented cX4_linkImplemented 4 none :: rz_TB) rrX4_linkImplemented (rz_Pre G vs M) (rz_Qv G M.2 Z) 0 0 (fun q => rz_b G ≤ q) := by
  obtain ⟨D, tc, ad, b, xs, rfl⟩ := id hG
  refine rz_body (pcs := rpX4_linkImplemented) (by decide) rfl (by rw [hn]; decide) h ?_
  intro p e R s m args below meth c hC
  obtain ⟨hx, hb, hml, hr, hlk, ho, hts, hKn, hRm⟩ := id hC
  obtain ⟨hK, hA, hSt⟩ := id hKn
  have hw : ∀ {i j : Nat} {ws : List Cond} {w : Cond}, rz_WW[i]? = some ws → ws[j]? = some w → w.before args s = true := fun h1 h2 => hts _ (List.mem_cons_of_mem _ (rz_mem h1 h2))
  refine rz_All_c (i := 0) (fun k J hk hJ => rz_iconst_ok (pc := 0) hx hb dX4_linkImplemented_0 rfl hk) ?_
  refine rz_All_c (i := 1) (fun k J hk hJ => rz_istore_n_ok (pc := 1) hx hb dX4_linkImplemented_1 rfl hk) ?_
  refine rz_All_c (i := 2) (fun k J hk hJ => rz_iload_n_ok (pc := 2) hx hb dX4_linkImplemented_2 rfl hk) ?_
  refine rz_All_c (i := 3) (fun k J hk hJ => rz_aload_n_ok (pc := 3) hx hb dX4_linkImplemented_3 rfl hk) ?_
  refine rz_All_c (i := 4) (fun k J hk hJ => rz_getf_ok (pc := 4) (own := RX4) (ref := "ThreadJudge$Linker") (C := RX4) (T := TX4) (N := 4) (ci := 6) (index := 9) (f := 0) (t := 2) (Ts := Cond.code yX4_linkImplemented cX4_linkImplemented 4 none :: rz_TB) hx hb hts rz_in6 ho hK rfl (by decide) rfl (fun _ => rfl) (hw (i := 16) (j := 3) rfl rfl) (fun _ z => z) dX4_linkImplemented_4 hk) ?_
  refine rz_All_c (i := 5) (fun k J hk hJ => rz_getf_ok (pc := 7) (own := RX4) (ref := "ThreadJudge$Program") (C := RX7) (T := TX7) (N := 22) (ci := 9) (index := 54) (f := 3) (t := 2) (Ts := Cond.code yX4_linkImplemented cX4_linkImplemented 4 none :: rz_TB) hx hb hts rz_in9 ho hK rfl (by decide) rfl (fun _ => rfl) (hw (i := 16) (j := 6) rfl rfl) (fun _ z => z) dX4_linkImplemented_7 hk) ?_
  refine rz_All_c (i := 6) (fun k J hk hJ => rz_bipush_ok (pc := 10) hx hb dX4_linkImplemented_10 (by decide) hk) ?_
  refine rz_All_c (i := 7) (fun k J hk hJ => rz_aald_ok (pc := 12) hx hb hK dX4_linkImplemented_12 hk) ?_
  refine rz_All_c (i := 8) (fun k J hk hJ => rz_iload_n_ok (pc := 13) hx hb dX4_linkImplemented_13 rfl hk) ?_
  refine rz_All_c (i := 9) (fun k J hk hJ => rz_iald_ok (pc := 14) hx hb hK dX4_linkImplemented_14 hk) ?_
  refine rz_All_c (i := 10) (fun k J hk hJ => rz_icmpge_ok (pc := 15) hx hb dX4_linkImplemented_15 rfl hk (hJ 50)) ?_
  refine rz_All_c (i := 11) (fun k J hk hJ => rz_aload_n_ok (pc := 18) hx hb dX4_linkImplemented_18 rfl hk) ?_
  refine rz_All_c (i := 12) (fun k J hk hJ => rz_getf_ok (pc := 19) (own := RX4) (ref := "ThreadJudge$Linker") (C := RX4) (T := TX4) (N := 4) (ci := 6) (index := 9) (f := 0) (t := 2) (Ts := Cond.code yX4_linkImplemented cX4_linkImplemented 4 none :: rz_TB) hx hb hts rz_in6 ho hK rfl (by decide) rfl (fun _ => rfl) (hw (i := 16) (j := 3) rfl rfl) (fun _ z => z) dX4_linkImplemented_19 hk) ?_
  refine rz_All_c (i := 13) (fun k J hk hJ => rz_aload_n_ok (pc := 22) hx hb dX4_linkImplemented_22 rfl hk) ?_
  refine rz_All_c (i := 14) (fun k J hk hJ => rz_getf_ok (pc := 23) (own := RX4) (ref := "ThreadJudge$Linker") (C := RX4) (T := TX4) (N := 4) (ci := 6) (index := 9) (f := 0) (t := 2) (Ts := Cond.code yX4_linkImplemented cX4_linkImplemented 4 none :: rz_TB) hx hb hts rz_in6 ho hK rfl (by decide) rfl (fun _ => rfl) (hw (i := 16) (j := 3) rfl rfl) (fun _ z => z) dX4_linkImplemented_23 hk) ?_
  refine rz_All_c (i := 15) (fun k J hk hJ => rz_getf_ok (pc := 26) (own := RX4) (ref := "ThreadJudge$Program") (C := RX7) (T := TX7) (N := 22) (ci := 9) (index := 79) (f := 4) (t := 2) (Ts := Cond.code yX4_linkImplemented cX4_linkImplemented 4 none :: rz_TB) hx hb hts rz_in9 ho hK rfl (by decide) rfl (fun _ => rfl) (hw (i := 17) (j := 5) rfl rfl) (fun _ z => z) dX4_linkImplemented_26 hk) ?_
  refine rz_All_c (i := 16) (fun k J hk hJ => rz_iload_n_ok (pc := 29) hx hb dX4_linkImplemented_29 rfl hk) ?_
  refine rz_All_c (i := 17) (fun k J hk hJ => rz_bipush_ok (pc := 30) hx hb dX4_linkImplemented_30 (by decide) hk) ?_
  refine rz_All_c (i := 18) (fun k J hk hJ => rz_imul_ok (pc := 32) hx hb dX4_linkImplemented_32 hk) ?_
  refine rz_All_c (i := 19) (fun k J hk hJ => rz_iload_n_ok (pc := 33) hx hb dX4_linkImplemented_33 rfl hk) ?_
  refine rz_All_c (i := 20) (fun k J hk hJ => rz_iconst_ok (pc := 34) hx hb dX4_linkImplemented_34 rfl hk) ?_
  refine rz_All_c (i := 21) (fun k J hk hJ => rz_imul_ok (pc := 35) hx hb dX4_linkImplemented_35 hk) ?_
  refine rz_All_c (i := 22) (fun k J hk hJ => rz_iadd_ok (pc := 36) hx hb dX4_linkImplemented_36 hk) ?_
  refine rz_All_c (i := 23) (fun k J hk hJ => rz_iald_ok (pc := 37) hx hb hK dX4_linkImplemented_37 hk) ?_
  refine rz_All_c (i := 24) (fun k J hk hJ => rz_callV_ok (pc := 38) (own := RX4) (C := RX7) (T0 := TX7) (N0 := 22) hC rfl (rmX7_named l hG) (rz_cwV 1 hC rz_good (rz_mem (i := 16) (j := 8) rfl rfl) (rz_mem (i := 16) (j := 9) rfl rfl) (rz_mem (i := 16) (j := 10) rfl rfl) (rz_mem (i := 1) (j := 0) rfl rfl) (rz_mem (i := 16) (j := 11) rfl rfl) ⟨rfl, by decide, by decide, by decide +kernel⟩ rfl rfl ⟨by decide, by decide⟩) rfl dX4_linkImplemented_38 hk) ?_
  refine rz_All_c (i := 25) (fun k J hk hJ => rz_istore_n_ok (pc := 41) hx hb dX4_linkImplemented_41 rfl hk) ?_
  refine rz_All_c (i := 26) (fun k J hk hJ => rz_iload_n_ok (pc := 42) hx hb dX4_linkImplemented_42 rfl hk) ?_
  refine rz_All_c (i := 27) (fun k J hk hJ => rz_iflt_ok (pc := 43) hx hb dX4_linkImplemented_43 rfl hk (hJ 34)) ?_
  refine rz_All_c (i := 28) (fun k J hk hJ => rz_aload_n_ok (pc := 46) hx hb dX4_linkImplemented_46 rfl hk) ?_
  refine rz_All_c (i := 29) (fun k J hk hJ => rz_getf_ok (pc := 47) (own := RX4) (ref := "ThreadJudge$Linker") (C := RX4) (T := TX4) (N := 4) (ci := 6) (index := 9) (f := 0) (t := 2) (Ts := Cond.code yX4_linkImplemented cX4_linkImplemented 4 none :: rz_TB) hx hb hts rz_in6 ho hK rfl (by decide) rfl (fun _ => rfl) (hw (i := 16) (j := 3) rfl rfl) (fun _ z => z) dX4_linkImplemented_47 hk) ?_
  refine rz_All_c (i := 30) (fun k J hk hJ => rz_iload_n_ok (pc := 50) hx hb dX4_linkImplemented_50 rfl hk) ?_
  refine rz_All_c (i := 31) (fun k J hk hJ => rz_iconst_ok (pc := 51) hx hb dX4_linkImplemented_51 rfl hk) ?_
  refine rz_All_c (i := 32) (fun k J hk hJ => rz_callV_ok (pc := 52) (own := RX4) (C := RX7) (T0 := TX7) (N0 := 22) hC rfl (rmX7_isKind l hG) (rz_cwV 2 hC rz_good (rz_mem (i := 16) (j := 21) rfl rfl) (rz_mem (i := 16) (j := 22) rfl rfl) (rz_mem (i := 16) (j := 23) rfl rfl) (rz_mem (i := 1) (j := 0) rfl rfl) (rz_mem (i := 17) (j := 0) rfl rfl) ⟨rfl, by decide, by decide, by decide +kernel⟩ rfl rfl ⟨by decide, by decide⟩) rfl dX4_linkImplemented_52 hk) ?_
  refine rz_All_c (i := 33) (fun k J hk hJ => rz_ifne_ok (pc := 55) hx hb dX4_linkImplemented_55 rfl hk (hJ 35)) ?_
  refine rz_All_c (i := 34) (fun k J hk hJ => rz_no_ok) ?_
  refine rz_All_c (i := 35) (fun k J hk hJ => rz_iload_n_ok (pc := 82) hx hb dX4_linkImplemented_82 rfl hk) ?_
  refine rz_All_c (i := 36) (fun k J hk hJ => rz_iflt_ok (pc := 83) hx hb dX4_linkImplemented_83 rfl hk (hJ 48)) ?_
  refine rz_All_c (i := 37) (fun k J hk hJ => rz_aload_n_ok (pc := 86) hx hb dX4_linkImplemented_86 rfl hk) ?_
  refine rz_All_c (i := 38) (fun k J hk hJ => rz_getf_ok (pc := 87) (own := RX4) (ref := "ThreadJudge$Linker") (C := RX4) (T := TX4) (N := 4) (ci := 6) (index := 9) (f := 0) (t := 2) (Ts := Cond.code yX4_linkImplemented cX4_linkImplemented 4 none :: rz_TB) hx hb hts rz_in6 ho hK rfl (by decide) rfl (fun _ => rfl) (hw (i := 16) (j := 3) rfl rfl) (fun _ z => z) dX4_linkImplemented_87 hk) ?_
  refine rz_All_c (i := 39) (fun k J hk hJ => rz_getf_ok (pc := 90) (own := RX4) (ref := "ThreadJudge$Program") (C := RX7) (T := TX7) (N := 22) (ci := 9) (index := 50) (f := 5) (t := 2) (Ts := Cond.code yX4_linkImplemented cX4_linkImplemented 4 none :: rz_TB) hx hb hts rz_in9 ho hK rfl (by decide) rfl (fun _ => rfl) (hw (i := 16) (j := 5) rfl rfl) (fun _ z => z) dX4_linkImplemented_90 hk) ?_
  refine rz_All_c (i := 40) (fun k J hk hJ => rz_iload_n_ok (pc := 93) hx hb dX4_linkImplemented_93 rfl hk) ?_
  refine rz_All_c (i := 41) (fun k J hk hJ => rz_dup2_ok (pc := 94) hx hb dX4_linkImplemented_94 hk) ?_
  refine rz_All_c (i := 42) (fun k J hk hJ => rz_lald_ok (pc := 95) hx hb hK dX4_linkImplemented_95 hk) ?_
  refine rz_All_c (i := 43) (fun k J hk hJ => rz_lconst_ok (pc := 96) hx hb dX4_linkImplemented_96 rfl hk) ?_
  refine rz_All_c (i := 44) (fun k J hk hJ => rz_iload_n_ok (pc := 97) hx hb dX4_linkImplemented_97 rfl hk) ?_
  refine rz_All_c (i := 45) (fun k J hk hJ => rz_lshl_ok (pc := 98) hx hb dX4_linkImplemented_98 hk) ?_
  refine rz_All_c (i := 46) (fun k J hk hJ => rz_lor_ok (pc := 99) hx hb dX4_linkImplemented_99 hk) ?_
  refine rz_All_c (i := 47) (fun k J hk hJ => rz_last_ok (pc := 100) hx hb hK hA dX4_linkImplemented_100 hk) ?_
  refine rz_All_c (i := 48) (fun k J hk hJ => rz_iinc_ok (pc := 101) hx hb dX4_linkImplemented_101 (by decide) hk) ?_
  refine rz_All_c (i := 49) (fun k J hk hJ => rz_goto_ok (pc := 104) hx hb dX4_linkImplemented_104 rfl (hJ 2)) ?_
  refine rz_All_c (i := 50) (fun k J hk hJ => rz_vret_ok (pc := 107) hC dX4_linkImplemented_107) ?_
  exact trivial
