/-! Methods: handlers, facts, contracts. -/
theorem dX12_reached_0 : decode cX12_reached 0 = .ok (.aload_n 0, 1) := by decide +kernel
theorem dX12_reached_1 : decode cX12_reached 1 = .ok (.getfield 1004, 3) := by decide +kernel
theorem dX12_reached_4 : decode cX12_reached 4 = .ok (.ifCond .eq 20, 3) := by decide +kernel
theorem dX12_reached_24 : decode cX12_reached 24 = .ok (.iconst (-1), 1) := by decide +kernel
theorem dX12_reached_25 : decode cX12_reached 25 = .ok (.ireturn, 1) := by decide +kernel
def rpX12_reached : List Nat := [0, 1, 4, 7, 24, 25]
noncomputable def rcX12_reached : List rz_B := [rz_aload 0, rz_getf (Nat.add (Nat.mul 256 14) 1) 103 rz_i, rz_ifeq 4, rz_no, rz_cst 4294967295, rz_iret]
noncomputable def rgX12_reached : rz_L → rz_M → rz_Z → Bool := rz_go rcX12_reached 3 1000000
def rrX12_reached : Room := { frames := 0, cells := 0, slots := 0, locals := 0 }
theorem rmX12_reached (l : Launch) {G : rz_G} (hG : rz_Gd G) (vs : rz_L) (M : rz_M) (Z : rz_Z) (hn : vs.length = 3) (h : rgX12_reached vs M Z = true) : Met l yX12_reached (Cond.code yX12_reached cX12_reached 3 (some .int) :: rz_TB) rrX12_reached (rz_Pre G vs M) (rz_Qi G M.2 Z) 0 0 (fun q => rz_b G ≤ q) := by
  obtain ⟨D, tc, ad, b, xs, rfl⟩ := id hG
  refine rz_body (pcs := rpX12_reached) (by decide) rfl (by rw [hn]; decide) h ?_
  intro p e R s m args below meth c hC
  obtain ⟨hx, hb, hml, hr, hlk, ho, hts, hKn, hRm⟩ := id hC
  obtain ⟨hK, hA, hSt⟩ := id hKn
  have hw : ∀ {i j : Nat} {ws : List Cond} {w : Cond}, rz_WW[i]? = some ws → ws[j]? = some w → w.before args s = true := fun h1 h2 => hts _ (List.mem_cons_of_mem _ (rz_mem h1 h2))
  refine rz_All_c (i := 0) (fun k J hk hJ => rz_aload_n_ok (pc := 0) hx hb dX12_reached_0 rfl hk) ?_
  refine rz_All_c (i := 1) (fun k J hk hJ => rz_getf_ok (pc := 1) (own := RX12) (ref := "ThreadJudgeModel") (C := RX12) (T := TX12) (N := 257) (ci := 14) (index := 1004) (f := 103) (t := 0) (Ts := Cond.code yX12_reached cX12_reached 3 (some .int) :: rz_TB) hx hb hts rz_in14 ho hK rfl (by decide) rfl (fun _ => rfl) (hw (i := 32) (j := 1) rfl rfl) (fun _ z => z) dX12_reached_1 hk) ?_
  refine rz_All_c (i := 2) (fun k J hk hJ => rz_ifeq_ok (pc := 4) hx hb dX12_reached_4 rfl hk (hJ 4)) ?_
  refine rz_All_c (i := 3) (fun k J hk hJ => rz_no_ok) ?_
  refine rz_All_c (i := 4) (fun k J hk hJ => rz_iconst_ok (pc := 24) hx hb dX12_reached_24 rfl hk) ?_
  refine rz_All_c (i := 5) (fun k J hk hJ => rz_iret_ok (pc := 25) hC dX12_reached_25) ?_
  exact trivial
theorem dX11_begins_0 : decode cX11_begins 0 = .ok (.aload_n 0, 1) := by decide +kernel
theorem dX11_begins_1 : decode cX11_begins 1 = .ok (.getfield 52, 3) := by decide +kernel
theorem dX11_begins_4 : decode cX11_begins 4 = .ok (.getfield 122, 3) := by decide +kernel
theorem dX11_begins_7 : decode cX11_begins 7 = .ok (.ifCond .eq 11, 3) := by decide +kernel
theorem dX11_begins_18 : decode cX11_begins 18 = .ok (.iconst (-1), 1) := by decide +kernel
theorem dX11_begins_19 : decode cX11_begins 19 = .ok (.ireturn, 1) := by decide +kernel
def rpX11_begins : List Nat := [0, 1, 4, 7, 10, 18, 19]
noncomputable def rcX11_begins : List rz_B := [rz_aload 0, rz_getf (Nat.add (Nat.mul 256 13) 1) 9 rz_r, rz_getf (Nat.add (Nat.mul 256 4) 1) 1 rz_i, rz_ifeq 5, rz_no, rz_cst 4294967295, rz_iret]
noncomputable def rgX11_begins : rz_L → rz_M → rz_Z → Bool := rz_go rcX11_begins 2 1000000
def rrX11_begins : Room := { frames := 0, cells := 0, slots := 0, locals := 0 }
theorem rmX11_begins (l : Launch) {G : rz_G} (hG : rz_Gd G) (vs : rz_L) (M : rz_M) (Z : rz_Z) (hn : vs.length = 2) (h : rgX11_begins vs M Z = true) : Met l yX11_begins (Cond.code yX11_begins cX11_begins 2 (some .int) :: rz_TB) rrX11_begins (rz_Pre G vs M) (rz_Qi G M.2 Z) 0 0 (fun q => rz_b G ≤ q) := by
  obtain ⟨D, tc, ad, b, xs, rfl⟩ := id hG
  refine rz_body (pcs := rpX11_begins) (by decide) rfl (by rw [hn]; decide) h ?_
  intro p e R s m args below meth c hC
  obtain ⟨hx, hb, hml, hr, hlk, ho, hts, hKn, hRm⟩ := id hC
  obtain ⟨hK, hA, hSt⟩ := id hKn
  have hw : ∀ {i j : Nat} {ws : List Cond} {w : Cond}, rz_WW[i]? = some ws → ws[j]? = some w → w.before args s = true := fun h1 h2 => hts _ (List.mem_cons_of_mem _ (rz_mem h1 h2))
  refine rz_All_c (i := 0) (fun k J hk hJ => rz_aload_n_ok (pc := 0) hx hb dX11_begins_0 rfl hk) ?_
  refine rz_All_c (i := 1) (fun k J hk hJ => rz_getf_ok (pc := 1) (own := RX11) (ref := "ThreadJudge") (C := RX11) (T := TX11) (N := 16) (ci := 13) (index := 52) (f := 9) (t := 2) (Ts := Cond.code yX11_begins cX11_begins 2 (some .int) :: rz_TB) hx hb hts rz_in13 ho hK rfl (by decide) rfl (fun _ => rfl) (hw (i := 0) (j := 1) rfl rfl) (fun _ z => z) dX11_begins_1 hk) ?_
  refine rz_All_c (i := 2) (fun k J hk hJ => rz_getf_ok (pc := 4) (own := RX11) (ref := "ThreadJudge$Flow") (C := RX2) (T := TX2) (N := 22) (ci := 4) (index := 122) (f := 1) (t := 0) (Ts := Cond.code yX11_begins cX11_begins 2 (some .int) :: rz_TB) hx hb hts rz_in4 ho hK rfl (by decide) rfl (fun _ => rfl) (hw (i := 0) (j := 2) rfl rfl) (fun _ z => z) dX11_begins_4 hk) ?_
  refine rz_All_c (i := 3) (fun k J hk hJ => rz_ifeq_ok (pc := 7) hx hb dX11_begins_7 rfl hk (hJ 5)) ?_
  refine rz_All_c (i := 4) (fun k J hk hJ => rz_no_ok) ?_
  refine rz_All_c (i := 5) (fun k J hk hJ => rz_iconst_ok (pc := 18) hx hb dX11_begins_18 rfl hk) ?_
  refine rz_All_c (i := 6) (fun k J hk hJ => rz_iret_ok (pc := 19) hC dX11_begins_19) ?_
  exact trivial
theorem dX12_begins_0 : decode cX12_begins 0 = .ok (.aload_n 0, 1) := by decide +kernel
theorem dX12_begins_1 : decode cX12_begins 1 = .ok (.getfield 1004, 3) := by decide +kernel
theorem dX12_begins_4 : decode cX12_begins 4 = .ok (.ifCond .eq 11, 3) := by decide +kernel
theorem dX12_begins_15 : decode cX12_begins 15 = .ok (.iconst (-1), 1) := by decide +kernel
theorem dX12_begins_16 : decode cX12_begins 16 = .ok (.goto 12, 3) := by decide +kernel
theorem dX12_begins_28 : decode cX12_begins 28 = .ok (.ireturn, 1) := by decide +kernel
def rpX12_begins : List Nat := [0, 1, 4, 7, 15, 16, 28]
noncomputable def rcX12_begins : List rz_B := [rz_aload 0, rz_getf (Nat.add (Nat.mul 256 14) 1) 103 rz_i, rz_ifeq 4, rz_no, rz_cst 4294967295, rz_goto 6, rz_iret]
noncomputable def rgX12_begins : rz_L → rz_M → rz_Z → Bool := rz_go rcX12_begins 2 1000000
def rrX12_begins : Room := { frames := 0, cells := 0, slots := 0, locals := 0 }
theorem rmX12_begins (l : Launch) {G : rz_G} (hG : rz_Gd G) (vs : rz_L) (M : rz_M) (Z : rz_Z) (hn : vs.length = 2) (h : rgX12_begins vs M Z = true) : Met l yX12_begins (Cond.code yX12_begins cX12_begins 2 (some .int) :: rz_TB) rrX12_begins (rz_Pre G vs M) (rz_Qi G M.2 Z) 0 0 (fun q => rz_b G ≤ q) := by
  obtain ⟨D, tc, ad, b, xs, rfl⟩ := id hG
  refine rz_body (pcs := rpX12_begins) (by decide) rfl (by rw [hn]; decide) h ?_
  intro p e R s m args below meth c hC
  obtain ⟨hx, hb, hml, hr, hlk, ho, hts, hKn, hRm⟩ := id hC
  obtain ⟨hK, hA, hSt⟩ := id hKn
  have hw : ∀ {i j : Nat} {ws : List Cond} {w : Cond}, rz_WW[i]? = some ws → ws[j]? = some w → w.before args s = true := fun h1 h2 => hts _ (List.mem_cons_of_mem _ (rz_mem h1 h2))
  refine rz_All_c (i := 0) (fun k J hk hJ => rz_aload_n_ok (pc := 0) hx hb dX12_begins_0 rfl hk) ?_
  refine rz_All_c (i := 1) (fun k J hk hJ => rz_getf_ok (pc := 1) (own := RX12) (ref := "ThreadJudgeModel") (C := RX12) (T := TX12) (N := 257) (ci := 14) (index := 1004) (f := 103) (t := 0) (Ts := Cond.code yX12_begins cX12_begins 2 (some .int) :: rz_TB) hx hb hts rz_in14 ho hK rfl (by decide) rfl (fun _ => rfl) (hw (i := 32) (j := 1) rfl rfl) (fun _ z => z) dX12_begins_1 hk) ?_
  refine rz_All_c (i := 2) (fun k J hk hJ => rz_ifeq_ok (pc := 4) hx hb dX12_begins_4 rfl hk (hJ 4)) ?_
  refine rz_All_c (i := 3) (fun k J hk hJ => rz_no_ok) ?_
  refine rz_All_c (i := 4) (fun k J hk hJ => rz_iconst_ok (pc := 15) hx hb dX12_begins_15 rfl hk) ?_
  refine rz_All_c (i := 5) (fun k J hk hJ => rz_goto_ok (pc := 16) hx hb dX12_begins_16 rfl (hJ 6)) ?_
  refine rz_All_c (i := 6) (fun k J hk hJ => rz_iret_ok (pc := 28) hC dX12_begins_28) ?_
  exact trivial
theorem dX11_thread_0 : decode cX11_thread 0 = .ok (.aload_n 0, 1) := by decide +kernel
theorem dX11_thread_1 : decode cX11_thread 1 = .ok (.getfield 52, 3) := by decide +kernel
theorem dX11_thread_4 : decode cX11_thread 4 = .ok (.getfield 122, 3) := by decide +kernel
theorem dX11_thread_7 : decode cX11_thread 7 = .ok (.ifCond .eq 18, 3) := by decide +kernel
theorem dX11_thread_25 : decode cX11_thread 25 = .ok (.iconst (-1), 1) := by decide +kernel
theorem dX11_thread_26 : decode cX11_thread 26 = .ok (.ireturn, 1) := by decide +kernel
def rpX11_thread : List Nat := [0, 1, 4, 7, 10, 25, 26]
noncomputable def rcX11_thread : List rz_B := [rz_aload 0, rz_getf (Nat.add (Nat.mul 256 13) 1) 9 rz_r, rz_getf (Nat.add (Nat.mul 256 4) 1) 1 rz_i, rz_ifeq 5, rz_no, rz_cst 4294967295, rz_iret]
noncomputable def rgX11_thread : rz_L → rz_M → rz_Z → Bool := rz_go rcX11_thread 3 1000000
def rrX11_thread : Room := { frames := 0, cells := 0, slots := 0, locals := 0 }
theorem rmX11_thread (l : Launch) {G : rz_G} (hG : rz_Gd G) (vs : rz_L) (M : rz_M) (Z : rz_Z) (hn : vs.length = 3) (h : rgX11_thread vs M Z = true) : Met l yX11_thread (Cond.code yX11_thread cX11_thread 3 (some .int) :: rz_TB) rrX11_thread (rz_Pre G vs M) (rz_Qi G M.2 Z) 0 0 (fun q => rz_b G ≤ q) := by
  obtain ⟨D, tc, ad, b, xs, rfl⟩ := id hG
  refine rz_body (pcs := rpX11_thread) (by decide) rfl (by rw [hn]; decide) h ?_
  intro p e R s m args below meth c hC
  obtain ⟨hx, hb, hml, hr, hlk, ho, hts, hKn, hRm⟩ := id hC
  obtain ⟨hK, hA, hSt⟩ := id hKn
  have hw : ∀ {i j : Nat} {ws : List Cond} {w : Cond}, rz_WW[i]? = some ws → ws[j]? = some w → w.before args s = true := fun h1 h2 => hts _ (List.mem_cons_of_mem _ (rz_mem h1 h2))
  refine rz_All_c (i := 0) (fun k J hk hJ => rz_aload_n_ok (pc := 0) hx hb dX11_thread_0 rfl hk) ?_
  refine rz_All_c (i := 1) (fun k J hk hJ => rz_getf_ok (pc := 1) (own := RX11) (ref := "ThreadJudge") (C := RX11) (T := TX11) (N := 16) (ci := 13) (index := 52) (f := 9) (t := 2) (Ts := Cond.code yX11_thread cX11_thread 3 (some .int) :: rz_TB) hx hb hts rz_in13 ho hK rfl (by decide) rfl (fun _ => rfl) (hw (i := 0) (j := 1) rfl rfl) (fun _ z => z) dX11_thread_1 hk) ?_
  refine rz_All_c (i := 2) (fun k J hk hJ => rz_getf_ok (pc := 4) (own := RX11) (ref := "ThreadJudge$Flow") (C := RX2) (T := TX2) (N := 22) (ci := 4) (index := 122) (f := 1) (t := 0) (Ts := Cond.code yX11_thread cX11_thread 3 (some .int) :: rz_TB) hx hb hts rz_in4 ho hK rfl (by decide) rfl (fun _ => rfl) (hw (i := 0) (j := 2) rfl rfl) (fun _ z => z) dX11_thread_4 hk) ?_
  refine rz_All_c (i := 3) (fun k J hk hJ => rz_ifeq_ok (pc := 7) hx hb dX11_thread_7 rfl hk (hJ 5)) ?_
  refine rz_All_c (i := 4) (fun k J hk hJ => rz_no_ok) ?_
  refine rz_All_c (i := 5) (fun k J hk hJ => rz_iconst_ok (pc := 25) hx hb dX11_thread_25 rfl hk) ?_
  refine rz_All_c (i := 6) (fun k J hk hJ => rz_iret_ok (pc := 26) hC dX11_thread_26) ?_
  exact trivial
theorem dX12_thread_0 : decode cX12_thread 0 = .ok (.aload_n 0, 1) := by decide +kernel
theorem dX12_thread_1 : decode cX12_thread 1 = .ok (.getfield 1004, 3) := by decide +kernel
theorem dX12_thread_4 : decode cX12_thread 4 = .ok (.ifCond .eq 24, 3) := by decide +kernel
theorem dX12_thread_28 : decode cX12_thread 28 = .ok (.iconst (-1), 1) := by decide +kernel
theorem dX12_thread_29 : decode cX12_thread 29 = .ok (.ireturn, 1) := by decide +kernel
def rpX12_thread : List Nat := [0, 1, 4, 7, 28, 29]
noncomputable def rcX12_thread : List rz_B := [rz_aload 0, rz_getf (Nat.add (Nat.mul 256 14) 1) 103 rz_i, rz_ifeq 4, rz_no, rz_cst 4294967295, rz_iret]
noncomputable def rgX12_thread : rz_L → rz_M → rz_Z → Bool := rz_go rcX12_thread 5 1000000
def rrX12_thread : Room := { frames := 0, cells := 0, slots := 0, locals := 0 }
theorem rmX12_thread (l : Launch) {G : rz_G} (hG : rz_Gd G) (vs : rz_L) (M : rz_M) (Z : rz_Z) (hn : vs.length = 3) (h : rgX12_thread vs M Z = true) : Met l yX12_thread (Cond.code yX12_thread cX12_thread 5 (some .int) :: rz_TB) rrX12_thread (rz_Pre G vs M) (rz_Qi G M.2 Z) 0 0 (fun q => rz_b G ≤ q) := by
  obtain ⟨D, tc, ad, b, xs, rfl⟩ := id hG
  refine rz_body (pcs := rpX12_thread) (by decide) rfl (by rw [hn]; decide) h ?_
  intro p e R s m args below meth c hC
  obtain ⟨hx, hb, hml, hr, hlk, ho, hts, hKn, hRm⟩ := id hC
  obtain ⟨hK, hA, hSt⟩ := id hKn
  have hw : ∀ {i j : Nat} {ws : List Cond} {w : Cond}, rz_WW[i]? = some ws → ws[j]? = some w → w.before args s = true := fun h1 h2 => hts _ (List.mem_cons_of_mem _ (rz_mem h1 h2))
  refine rz_All_c (i := 0) (fun k J hk hJ => rz_aload_n_ok (pc := 0) hx hb dX12_thread_0 rfl hk) ?_
  refine rz_All_c (i := 1) (fun k J hk hJ => rz_getf_ok (pc := 1) (own := RX12) (ref := "ThreadJudgeModel") (C := RX12) (T := TX12) (N := 257) (ci := 14) (index := 1004) (f := 103) (t := 0) (Ts := Cond.code yX12_thread cX12_thread 5 (some .int) :: rz_TB) hx hb hts rz_in14 ho hK rfl (by decide) rfl (fun _ => rfl) (hw (i := 32) (j := 1) rfl rfl) (fun _ z => z) dX12_thread_1 hk) ?_
  refine rz_All_c (i := 2) (fun k J hk hJ => rz_ifeq_ok (pc := 4) hx hb dX12_thread_4 rfl hk (hJ 4)) ?_
  refine rz_All_c (i := 3) (fun k J hk hJ => rz_no_ok) ?_
  refine rz_All_c (i := 4) (fun k J hk hJ => rz_iconst_ok (pc := 28) hx hb dX12_thread_28 rfl hk) ?_
  refine rz_All_c (i := 5) (fun k J hk hJ => rz_iret_ok (pc := 29) hC dX12_thread_29) ?_
  exact trivial
theorem dX11_parallel_0 : decode cX11_parallel 0 = .ok (.aload_n 0, 1) := by decide +kernel
theorem dX11_parallel_1 : decode cX11_parallel 1 = .ok (.getfield 52, 3) := by decide +kernel
theorem dX11_parallel_4 : decode cX11_parallel 4 = .ok (.getfield 122, 3) := by decide +kernel
theorem dX11_parallel_7 : decode cX11_parallel 7 = .ok (.ifCond .eq 19, 3) := by decide +kernel
theorem dX11_parallel_26 : decode cX11_parallel 26 = .ok (.iconst (-1), 1) := by decide +kernel
theorem dX11_parallel_27 : decode cX11_parallel 27 = .ok (.ireturn, 1) := by decide +kernel
def rpX11_parallel : List Nat := [0, 1, 4, 7, 10, 26, 27]
noncomputable def rcX11_parallel : List rz_B := [rz_aload 0, rz_getf (Nat.add (Nat.mul 256 13) 1) 9 rz_r, rz_getf (Nat.add (Nat.mul 256 4) 1) 1 rz_i, rz_ifeq 5, rz_no, rz_cst 4294967295, rz_iret]
noncomputable def rgX11_parallel : rz_L → rz_M → rz_Z → Bool := rz_go rcX11_parallel 3 1000000
def rrX11_parallel : Room := { frames := 0, cells := 0, slots := 0, locals := 0 }
theorem rmX11_parallel (l : Launch) {G : rz_G} (hG : rz_Gd G) (vs : rz_L) (M : rz_M) (Z : rz_Z) (hn : vs.length = 3) (h : rgX11_parallel vs M Z = true) : Met l yX11_parallel (Cond.code yX11_parallel cX11_parallel 3 (some .int) :: rz_TB) rrX11_parallel (rz_Pre G vs M) (rz_Qi G M.2 Z) 0 0 (fun q => rz_b G ≤ q) := by
  obtain ⟨D, tc, ad, b, xs, rfl⟩ := id hG
  refine rz_body (pcs := rpX11_parallel) (by decide) rfl (by rw [hn]; decide) h ?_
  intro p e R s m args below meth c hC
  obtain ⟨hx, hb, hml, hr, hlk, ho, hts, hKn, hRm⟩ := id hC
  obtain ⟨hK, hA, hSt⟩ := id hKn
  have hw : ∀ {i j : Nat} {ws : List Cond} {w : Cond}, rz_WW[i]? = some ws → ws[j]? = some w → w.before args s = true := fun h1 h2 => hts _ (List.mem_cons_of_mem _ (rz_mem h1 h2))
  refine rz_All_c (i := 0) (fun k J hk hJ => rz_aload_n_ok (pc := 0) hx hb dX11_parallel_0 rfl hk) ?_
  refine rz_All_c (i := 1) (fun k J hk hJ => rz_getf_ok (pc := 1) (own := RX11) (ref := "ThreadJudge") (C := RX11) (T := TX11) (N := 16) (ci := 13) (index := 52) (f := 9) (t := 2) (Ts := Cond.code yX11_parallel cX11_parallel 3 (some .int) :: rz_TB) hx hb hts rz_in13 ho hK rfl (by decide) rfl (fun _ => rfl) (hw (i := 0) (j := 1) rfl rfl) (fun _ z => z) dX11_parallel_1 hk) ?_
  refine rz_All_c (i := 2) (fun k J hk hJ => rz_getf_ok (pc := 4) (own := RX11) (ref := "ThreadJudge$Flow") (C := RX2) (T := TX2) (N := 22) (ci := 4) (index := 122) (f := 1) (t := 0) (Ts := Cond.code yX11_parallel cX11_parallel 3 (some .int) :: rz_TB) hx hb hts rz_in4 ho hK rfl (by decide) rfl (fun _ => rfl) (hw (i := 0) (j := 2) rfl rfl) (fun _ z => z) dX11_parallel_4 hk) ?_
  refine rz_All_c (i := 3) (fun k J hk hJ => rz_ifeq_ok (pc := 7) hx hb dX11_parallel_7 rfl hk (hJ 5)) ?_
  refine rz_All_c (i := 4) (fun k J hk hJ => rz_no_ok) ?_
  refine rz_All_c (i := 5) (fun k J hk hJ => rz_iconst_ok (pc := 26) hx hb dX11_parallel_26 rfl hk) ?_
  refine rz_All_c (i := 6) (fun k J hk hJ => rz_iret_ok (pc := 27) hC dX11_parallel_27) ?_
  exact trivial
theorem dX12_parallel_0 : decode cX12_parallel 0 = .ok (.aload_n 0, 1) := by decide +kernel
theorem dX12_parallel_1 : decode cX12_parallel 1 = .ok (.getfield 1004, 3) := by decide +kernel
theorem dX12_parallel_4 : decode cX12_parallel 4 = .ok (.ifCond .eq 37, 3) := by decide +kernel
theorem dX12_parallel_41 : decode cX12_parallel 41 = .ok (.iconst (-1), 1) := by decide +kernel
theorem dX12_parallel_42 : decode cX12_parallel 42 = .ok (.ireturn, 1) := by decide +kernel
def rpX12_parallel : List Nat := [0, 1, 4, 7, 41, 42]
noncomputable def rcX12_parallel : List rz_B := [rz_aload 0, rz_getf (Nat.add (Nat.mul 256 14) 1) 103 rz_i, rz_ifeq 4, rz_no, rz_cst 4294967295, rz_iret]
noncomputable def rgX12_parallel : rz_L → rz_M → rz_Z → Bool := rz_go rcX12_parallel 7 1000000
def rrX12_parallel : Room := { frames := 0, cells := 0, slots := 0, locals := 0 }
theorem rmX12_parallel (l : Launch) {G : rz_G} (hG : rz_Gd G) (vs : rz_L) (M : rz_M) (Z : rz_Z) (hn : vs.length = 3) (h : rgX12_parallel vs M Z = true) : Met l yX12_parallel (Cond.code yX12_parallel cX12_parallel 7 (some .int) :: rz_TB) rrX12_parallel (rz_Pre G vs M) (rz_Qi G M.2 Z) 0 0 (fun q => rz_b G ≤ q) := by
  obtain ⟨D, tc, ad, b, xs, rfl⟩ := id hG
  refine rz_body (pcs := rpX12_parallel) (by decide) rfl (by rw [hn]; decide) h ?_
  intro p e R s m args below meth c hC
  obtain ⟨hx, hb, hml, hr, hlk, ho, hts, hKn, hRm⟩ := id hC
  obtain ⟨hK, hA, hSt⟩ := id hKn
  have hw : ∀ {i j : Nat} {ws : List Cond} {w : Cond}, rz_WW[i]? = some ws → ws[j]? = some w → w.before args s = true := fun h1 h2 => hts _ (List.mem_cons_of_mem _ (rz_mem h1 h2))
  refine rz_All_c (i := 0) (fun k J hk hJ => rz_aload_n_ok (pc := 0) hx hb dX12_parallel_0 rfl hk) ?_
  refine rz_All_c (i := 1) (fun k J hk hJ => rz_getf_ok (pc := 1) (own := RX12) (ref := "ThreadJudgeModel") (C := RX12) (T := TX12) (N := 257) (ci := 14) (index := 1004) (f := 103) (t := 0) (Ts := Cond.code yX12_parallel cX12_parallel 7 (some .int) :: rz_TB) hx hb hts rz_in14 ho hK rfl (by decide) rfl (fun _ => rfl) (hw (i := 32) (j := 1) rfl rfl) (fun _ z => z) dX12_parallel_1 hk) ?_
  refine rz_All_c (i := 2) (fun k J hk hJ => rz_ifeq_ok (pc := 4) hx hb dX12_parallel_4 rfl hk (hJ 4)) ?_
  refine rz_All_c (i := 3) (fun k J hk hJ => rz_no_ok) ?_
  refine rz_All_c (i := 4) (fun k J hk hJ => rz_iconst_ok (pc := 41) hx hb dX12_parallel_41 rfl hk) ?_
  refine rz_All_c (i := 5) (fun k J hk hJ => rz_iret_ok (pc := 42) hC dX12_parallel_42) ?_
  exact trivial
theorem dX11_held_0 : decode cX11_held 0 = .ok (.aload_n 0, 1) := by decide +kernel
theorem dX11_held_1 : decode cX11_held 1 = .ok (.getfield 52, 3) := by decide +kernel
theorem dX11_held_4 : decode cX11_held 4 = .ok (.getfield 122, 3) := by decide +kernel
theorem dX11_held_7 : decode cX11_held 7 = .ok (.ifCond .eq 11, 3) := by decide +kernel
theorem dX11_held_18 : decode cX11_held 18 = .ok (.iconst (-1), 1) := by decide +kernel
theorem dX11_held_19 : decode cX11_held 19 = .ok (.ireturn, 1) := by decide +kernel
def rpX11_held : List Nat := [0, 1, 4, 7, 10, 18, 19]
noncomputable def rcX11_held : List rz_B := [rz_aload 0, rz_getf (Nat.add (Nat.mul 256 13) 1) 9 rz_r, rz_getf (Nat.add (Nat.mul 256 4) 1) 1 rz_i, rz_ifeq 5, rz_no, rz_cst 4294967295, rz_iret]
noncomputable def rgX11_held : rz_L → rz_M → rz_Z → Bool := rz_go rcX11_held 4 1000000
def rrX11_held : Room := { frames := 0, cells := 0, slots := 0, locals := 0 }
theorem rmX11_held (l : Launch) {G : rz_G} (hG : rz_Gd G) (vs : rz_L) (M : rz_M) (Z : rz_Z) (hn : vs.length = 4) (h : rgX11_held vs M Z = true) : Met l yX11_held (Cond.code yX11_held cX11_held 4 (some .int) :: rz_TB) rrX11_held (rz_Pre G vs M) (rz_Qi G M.2 Z) 0 0 (fun q => rz_b G ≤ q) := by
  obtain ⟨D, tc, ad, b, xs, rfl⟩ := id hG
  refine rz_body (pcs := rpX11_held) (by decide) rfl (by rw [hn]; decide) h ?_
  intro p e R s m args below meth c hC
  obtain ⟨hx, hb, hml, hr, hlk, ho, hts, hKn, hRm⟩ := id hC
  obtain ⟨hK, hA, hSt⟩ := id hKn
  have hw : ∀ {i j : Nat} {ws : List Cond} {w : Cond}, rz_WW[i]? = some ws → ws[j]? = some w → w.before args s = true := fun h1 h2 => hts _ (List.mem_cons_of_mem _ (rz_mem h1 h2))
  refine rz_All_c (i := 0) (fun k J hk hJ => rz_aload_n_ok (pc := 0) hx hb dX11_held_0 rfl hk) ?_
  refine rz_All_c (i := 1) (fun k J hk hJ => rz_getf_ok (pc := 1) (own := RX11) (ref := "ThreadJudge") (C := RX11) (T := TX11) (N := 16) (ci := 13) (index := 52) (f := 9) (t := 2) (Ts := Cond.code yX11_held cX11_held 4 (some .int) :: rz_TB) hx hb hts rz_in13 ho hK rfl (by decide) rfl (fun _ => rfl) (hw (i := 0) (j := 1) rfl rfl) (fun _ z => z) dX11_held_1 hk) ?_
  refine rz_All_c (i := 2) (fun k J hk hJ => rz_getf_ok (pc := 4) (own := RX11) (ref := "ThreadJudge$Flow") (C := RX2) (T := TX2) (N := 22) (ci := 4) (index := 122) (f := 1) (t := 0) (Ts := Cond.code yX11_held cX11_held 4 (some .int) :: rz_TB) hx hb hts rz_in4 ho hK rfl (by decide) rfl (fun _ => rfl) (hw (i := 0) (j := 2) rfl rfl) (fun _ z => z) dX11_held_4 hk) ?_
  refine rz_All_c (i := 3) (fun k J hk hJ => rz_ifeq_ok (pc := 7) hx hb dX11_held_7 rfl hk (hJ 5)) ?_
  refine rz_All_c (i := 4) (fun k J hk hJ => rz_no_ok) ?_
  refine rz_All_c (i := 5) (fun k J hk hJ => rz_iconst_ok (pc := 18) hx hb dX11_held_18 rfl hk) ?_
  refine rz_All_c (i := 6) (fun k J hk hJ => rz_iret_ok (pc := 19) hC dX11_held_19) ?_
  exact trivial
theorem dX12_held_0 : decode cX12_held 0 = .ok (.aload_n 0, 1) := by decide +kernel
theorem dX12_held_1 : decode cX12_held 1 = .ok (.getfield 1004, 3) := by decide +kernel
theorem dX12_held_4 : decode cX12_held 4 = .ok (.ifCond .eq 20, 3) := by decide +kernel
theorem dX12_held_24 : decode cX12_held 24 = .ok (.iconst (-1), 1) := by decide +kernel
theorem dX12_held_25 : decode cX12_held 25 = .ok (.ireturn, 1) := by decide +kernel
def rpX12_held : List Nat := [0, 1, 4, 7, 24, 25]
noncomputable def rcX12_held : List rz_B := [rz_aload 0, rz_getf (Nat.add (Nat.mul 256 14) 1) 103 rz_i, rz_ifeq 4, rz_no, rz_cst 4294967295, rz_iret]
noncomputable def rgX12_held : rz_L → rz_M → rz_Z → Bool := rz_go rcX12_held 8 1000000
def rrX12_held : Room := { frames := 0, cells := 0, slots := 0, locals := 0 }
theorem rmX12_held (l : Launch) {G : rz_G} (hG : rz_Gd G) (vs : rz_L) (M : rz_M) (Z : rz_Z) (hn : vs.length = 4) (h : rgX12_held vs M Z = true) : Met l yX12_held (Cond.code yX12_held cX12_held 8 (some .int) :: rz_TB) rrX12_held (rz_Pre G vs M) (rz_Qi G M.2 Z) 0 0 (fun q => rz_b G ≤ q) := by
  obtain ⟨D, tc, ad, b, xs, rfl⟩ := id hG
  refine rz_body (pcs := rpX12_held) (by decide) rfl (by rw [hn]; decide) h ?_
  intro p e R s m args below meth c hC
  obtain ⟨hx, hb, hml, hr, hlk, ho, hts, hKn, hRm⟩ := id hC
  obtain ⟨hK, hA, hSt⟩ := id hKn
  have hw : ∀ {i j : Nat} {ws : List Cond} {w : Cond}, rz_WW[i]? = some ws → ws[j]? = some w → w.before args s = true := fun h1 h2 => hts _ (List.mem_cons_of_mem _ (rz_mem h1 h2))
  refine rz_All_c (i := 0) (fun k J hk hJ => rz_aload_n_ok (pc := 0) hx hb dX12_held_0 rfl hk) ?_
  refine rz_All_c (i := 1) (fun k J hk hJ => rz_getf_ok (pc := 1) (own := RX12) (ref := "ThreadJudgeModel") (C := RX12) (T := TX12) (N := 257) (ci := 14) (index := 1004) (f := 103) (t := 0) (Ts := Cond.code yX12_held cX12_held 8 (some .int) :: rz_TB) hx hb hts rz_in14 ho hK rfl (by decide) rfl (fun _ => rfl) (hw (i := 32) (j := 1) rfl rfl) (fun _ z => z) dX12_held_1 hk) ?_
  refine rz_All_c (i := 2) (fun k J hk hJ => rz_ifeq_ok (pc := 4) hx hb dX12_held_4 rfl hk (hJ 4)) ?_
  refine rz_All_c (i := 3) (fun k J hk hJ => rz_no_ok) ?_
  refine rz_All_c (i := 4) (fun k J hk hJ => rz_iconst_ok (pc := 24) hx hb dX12_held_24 rfl hk) ?_
  refine rz_All_c (i := 5) (fun k J hk hJ => rz_iret_ok (pc := 25) hC dX12_held_25) ?_
  exact trivial
theorem dX11_race_0 : decode cX11_race 0 = .ok (.aload_n 0, 1) := by decide +kernel
theorem dX11_race_1 : decode cX11_race 1 = .ok (.getfield 52, 3) := by decide +kernel
theorem dX11_race_4 : decode cX11_race 4 = .ok (.getfield 122, 3) := by decide +kernel
theorem dX11_race_7 : decode cX11_race 7 = .ok (.ifCond .eq 27, 3) := by decide +kernel
theorem dX11_race_34 : decode cX11_race 34 = .ok (.iconst (-1), 1) := by decide +kernel
theorem dX11_race_35 : decode cX11_race 35 = .ok (.ireturn, 1) := by decide +kernel
def rpX11_race : List Nat := [0, 1, 4, 7, 10, 34, 35]
noncomputable def rcX11_race : List rz_B := [rz_aload 0, rz_getf (Nat.add (Nat.mul 256 13) 1) 9 rz_r, rz_getf (Nat.add (Nat.mul 256 4) 1) 1 rz_i, rz_ifeq 5, rz_no, rz_cst 4294967295, rz_iret]
noncomputable def rgX11_race : rz_L → rz_M → rz_Z → Bool := rz_go rcX11_race 3 1000000
def rrX11_race : Room := { frames := 0, cells := 0, slots := 0, locals := 0 }
theorem rmX11_race (l : Launch) {G : rz_G} (hG : rz_Gd G) (vs : rz_L) (M : rz_M) (Z : rz_Z) (hn : vs.length = 3) (h : rgX11_race vs M Z = true) : Met l yX11_race (Cond.code yX11_race cX11_race 3 (some .int) :: rz_TB) rrX11_race (rz_Pre G vs M) (rz_Qi G M.2 Z) 0 0 (fun q => rz_b G ≤ q) := by
  obtain ⟨D, tc, ad, b, xs, rfl⟩ := id hG
  refine rz_body (pcs := rpX11_race) (by decide) rfl (by rw [hn]; decide) h ?_
  intro p e R s m args below meth c hC
  obtain ⟨hx, hb, hml, hr, hlk, ho, hts, hKn, hRm⟩ := id hC
  obtain ⟨hK, hA, hSt⟩ := id hKn
  have hw : ∀ {i j : Nat} {ws : List Cond} {w : Cond}, rz_WW[i]? = some ws → ws[j]? = some w → w.before args s = true := fun h1 h2 => hts _ (List.mem_cons_of_mem _ (rz_mem h1 h2))
  refine rz_All_c (i := 0) (fun k J hk hJ => rz_aload_n_ok (pc := 0) hx hb dX11_race_0 rfl hk) ?_
  refine rz_All_c (i := 1) (fun k J hk hJ => rz_getf_ok (pc := 1) (own := RX11) (ref := "ThreadJudge") (C := RX11) (T := TX11) (N := 16) (ci := 13) (index := 52) (f := 9) (t := 2) (Ts := Cond.code yX11_race cX11_race 3 (some .int) :: rz_TB) hx hb hts rz_in13 ho hK rfl (by decide) rfl (fun _ => rfl) (hw (i := 0) (j := 1) rfl rfl) (fun _ z => z) dX11_race_1 hk) ?_
  refine rz_All_c (i := 2) (fun k J hk hJ => rz_getf_ok (pc := 4) (own := RX11) (ref := "ThreadJudge$Flow") (C := RX2) (T := TX2) (N := 22) (ci := 4) (index := 122) (f := 1) (t := 0) (Ts := Cond.code yX11_race cX11_race 3 (some .int) :: rz_TB) hx hb hts rz_in4 ho hK rfl (by decide) rfl (fun _ => rfl) (hw (i := 0) (j := 2) rfl rfl) (fun _ z => z) dX11_race_4 hk) ?_
  refine rz_All_c (i := 3) (fun k J hk hJ => rz_ifeq_ok (pc := 7) hx hb dX11_race_7 rfl hk (hJ 5)) ?_
  refine rz_All_c (i := 4) (fun k J hk hJ => rz_no_ok) ?_
  refine rz_All_c (i := 5) (fun k J hk hJ => rz_iconst_ok (pc := 34) hx hb dX11_race_34 rfl hk) ?_
  refine rz_All_c (i := 6) (fun k J hk hJ => rz_iret_ok (pc := 35) hC dX11_race_35) ?_
  exact trivial
theorem dX12_race_0 : decode cX12_race 0 = .ok (.aload_n 0, 1) := by decide +kernel
theorem dX12_race_1 : decode cX12_race 1 = .ok (.getfield 1004, 3) := by decide +kernel
theorem dX12_race_4 : decode cX12_race 4 = .ok (.ifCond .eq 24, 3) := by decide +kernel
theorem dX12_race_28 : decode cX12_race 28 = .ok (.iconst (-1), 1) := by decide +kernel
theorem dX12_race_29 : decode cX12_race 29 = .ok (.ireturn, 1) := by decide +kernel
def rpX12_race : List Nat := [0, 1, 4, 7, 28, 29]
noncomputable def rcX12_race : List rz_B := [rz_aload 0, rz_getf (Nat.add (Nat.mul 256 14) 1) 103 rz_i, rz_ifeq 4, rz_no, rz_cst 4294967295, rz_iret]
noncomputable def rgX12_race : rz_L → rz_M → rz_Z → Bool := rz_go rcX12_race 6 1000000
def rrX12_race : Room := { frames := 0, cells := 0, slots := 0, locals := 0 }
theorem rmX12_race (l : Launch) {G : rz_G} (hG : rz_Gd G) (vs : rz_L) (M : rz_M) (Z : rz_Z) (hn : vs.length = 3) (h : rgX12_race vs M Z = true) : Met l yX12_race (Cond.code yX12_race cX12_race 6 (some .int) :: rz_TB) rrX12_race (rz_Pre G vs M) (rz_Qi G M.2 Z) 0 0 (fun q => rz_b G ≤ q) := by
  obtain ⟨D, tc, ad, b, xs, rfl⟩ := id hG
  refine rz_body (pcs := rpX12_race) (by decide) rfl (by rw [hn]; decide) h ?_
  intro p e R s m args below meth c hC
  obtain ⟨hx, hb, hml, hr, hlk, ho, hts, hKn, hRm⟩ := id hC
  obtain ⟨hK, hA, hSt⟩ := id hKn
  have hw : ∀ {i j : Nat} {ws : List Cond} {w : Cond}, rz_WW[i]? = some ws → ws[j]? = some w → w.before args s = true := fun h1 h2 => hts _ (List.mem_cons_of_mem _ (rz_mem h1 h2))
  refine rz_All_c (i := 0) (fun k J hk hJ => rz_aload_n_ok (pc := 0) hx hb dX12_race_0 rfl hk) ?_
  refine rz_All_c (i := 1) (fun k J hk hJ => rz_getf_ok (pc := 1) (own := RX12) (ref := "ThreadJudgeModel") (C := RX12) (T := TX12) (N := 257) (ci := 14) (index := 1004) (f := 103) (t := 0) (Ts := Cond.code yX12_race cX12_race 6 (some .int) :: rz_TB) hx hb hts rz_in14 ho hK rfl (by decide) rfl (fun _ => rfl) (hw (i := 32) (j := 1) rfl rfl) (fun _ z => z) dX12_race_1 hk) ?_
  refine rz_All_c (i := 2) (fun k J hk hJ => rz_ifeq_ok (pc := 4) hx hb dX12_race_4 rfl hk (hJ 4)) ?_
  refine rz_All_c (i := 3) (fun k J hk hJ => rz_no_ok) ?_
  refine rz_All_c (i := 4) (fun k J hk hJ => rz_iconst_ok (pc := 28) hx hb dX12_race_28 rfl hk) ?_
  refine rz_All_c (i := 5) (fun k J hk hJ => rz_iret_ok (pc := 29) hC dX12_race_29) ?_
  exact trivial
theorem dX11_knot_0 : decode cX11_knot 0 = .ok (.aload_n 0, 1) := by decide +kernel
theorem dX11_knot_1 : decode cX11_knot 1 = .ok (.getfield 52, 3) := by decide +kernel
theorem dX11_knot_4 : decode cX11_knot 4 = .ok (.getfield 122, 3) := by decide +kernel
theorem dX11_knot_7 : decode cX11_knot 7 = .ok (.ifCond .eq 27, 3) := by decide +kernel
theorem dX11_knot_34 : decode cX11_knot 34 = .ok (.iconst (-1), 1) := by decide +kernel
theorem dX11_knot_35 : decode cX11_knot 35 = .ok (.ireturn, 1) := by decide +kernel
def rpX11_knot : List Nat := [0, 1, 4, 7, 10, 34, 35]
noncomputable def rcX11_knot : List rz_B := [rz_aload 0, rz_getf (Nat.add (Nat.mul 256 13) 1) 9 rz_r, rz_getf (Nat.add (Nat.mul 256 4) 1) 1 rz_i, rz_ifeq 5, rz_no, rz_cst 4294967295, rz_iret]
noncomputable def rgX11_knot : rz_L → rz_M → rz_Z → Bool := rz_go rcX11_knot 3 1000000
def rrX11_knot : Room := { frames := 0, cells := 0, slots := 0, locals := 0 }
theorem rmX11_knot (l : Launch) {G : rz_G} (hG : rz_Gd G) (vs : rz_L) (M : rz_M) (Z : rz_Z) (hn : vs.length = 3) (h : rgX11_knot vs M Z = true) : Met l yX11_knot (Cond.code yX11_knot cX11_knot 3 (some .int) :: rz_TB) rrX11_knot (rz_Pre G vs M) (rz_Qi G M.2 Z) 0 0 (fun q => rz_b G ≤ q) := by
  obtain ⟨D, tc, ad, b, xs, rfl⟩ := id hG
  refine rz_body (pcs := rpX11_knot) (by decide) rfl (by rw [hn]; decide) h ?_
  intro p e R s m args below meth c hC
  obtain ⟨hx, hb, hml, hr, hlk, ho, hts, hKn, hRm⟩ := id hC
  obtain ⟨hK, hA, hSt⟩ := id hKn
  have hw : ∀ {i j : Nat} {ws : List Cond} {w : Cond}, rz_WW[i]? = some ws → ws[j]? = some w → w.before args s = true := fun h1 h2 => hts _ (List.mem_cons_of_mem _ (rz_mem h1 h2))
  refine rz_All_c (i := 0) (fun k J hk hJ => rz_aload_n_ok (pc := 0) hx hb dX11_knot_0 rfl hk) ?_
  refine rz_All_c (i := 1) (fun k J hk hJ => rz_getf_ok (pc := 1) (own := RX11) (ref := "ThreadJudge") (C := RX11) (T := TX11) (N := 16) (ci := 13) (index := 52) (f := 9) (t := 2) (Ts := Cond.code yX11_knot cX11_knot 3 (some .int) :: rz_TB) hx hb hts rz_in13 ho hK rfl (by decide) rfl (fun _ => rfl) (hw (i := 0) (j := 1) rfl rfl) (fun _ z => z) dX11_knot_1 hk) ?_
  refine rz_All_c (i := 2) (fun k J hk hJ => rz_getf_ok (pc := 4) (own := RX11) (ref := "ThreadJudge$Flow") (C := RX2) (T := TX2) (N := 22) (ci := 4) (index := 122) (f := 1) (t := 0) (Ts := Cond.code yX11_knot cX11_knot 3 (some .int) :: rz_TB) hx hb hts rz_in4 ho hK rfl (by decide) rfl (fun _ => rfl) (hw (i := 0) (j := 2) rfl rfl) (fun _ z => z) dX11_knot_4 hk) ?_
  refine rz_All_c (i := 3) (fun k J hk hJ => rz_ifeq_ok (pc := 7) hx hb dX11_knot_7 rfl hk (hJ 5)) ?_
  refine rz_All_c (i := 4) (fun k J hk hJ => rz_no_ok) ?_
  refine rz_All_c (i := 5) (fun k J hk hJ => rz_iconst_ok (pc := 34) hx hb dX11_knot_34 rfl hk) ?_
  refine rz_All_c (i := 6) (fun k J hk hJ => rz_iret_ok (pc := 35) hC dX11_knot_35) ?_
  exact trivial
theorem dX12_knot_0 : decode cX12_knot 0 = .ok (.aload_n 0, 1) := by decide +kernel
theorem dX12_knot_1 : decode cX12_knot 1 = .ok (.getfield 1004, 3) := by decide +kernel
theorem dX12_knot_4 : decode cX12_knot 4 = .ok (.ifCond .eq 24, 3) := by decide +kernel
theorem dX12_knot_28 : decode cX12_knot 28 = .ok (.iconst (-1), 1) := by decide +kernel
theorem dX12_knot_29 : decode cX12_knot 29 = .ok (.ireturn, 1) := by decide +kernel
def rpX12_knot : List Nat := [0, 1, 4, 7, 28, 29]
noncomputable def rcX12_knot : List rz_B := [rz_aload 0, rz_getf (Nat.add (Nat.mul 256 14) 1) 103 rz_i, rz_ifeq 4, rz_no, rz_cst 4294967295, rz_iret]
noncomputable def rgX12_knot : rz_L → rz_M → rz_Z → Bool := rz_go rcX12_knot 7 1000000
def rrX12_knot : Room := { frames := 0, cells := 0, slots := 0, locals := 0 }
theorem rmX12_knot (l : Launch) {G : rz_G} (hG : rz_Gd G) (vs : rz_L) (M : rz_M) (Z : rz_Z) (hn : vs.length = 3) (h : rgX12_knot vs M Z = true) : Met l yX12_knot (Cond.code yX12_knot cX12_knot 7 (some .int) :: rz_TB) rrX12_knot (rz_Pre G vs M) (rz_Qi G M.2 Z) 0 0 (fun q => rz_b G ≤ q) := by
  obtain ⟨D, tc, ad, b, xs, rfl⟩ := id hG
  refine rz_body (pcs := rpX12_knot) (by decide) rfl (by rw [hn]; decide) h ?_
  intro p e R s m args below meth c hC
  obtain ⟨hx, hb, hml, hr, hlk, ho, hts, hKn, hRm⟩ := id hC
  obtain ⟨hK, hA, hSt⟩ := id hKn
  have hw : ∀ {i j : Nat} {ws : List Cond} {w : Cond}, rz_WW[i]? = some ws → ws[j]? = some w → w.before args s = true := fun h1 h2 => hts _ (List.mem_cons_of_mem _ (rz_mem h1 h2))
  refine rz_All_c (i := 0) (fun k J hk hJ => rz_aload_n_ok (pc := 0) hx hb dX12_knot_0 rfl hk) ?_
  refine rz_All_c (i := 1) (fun k J hk hJ => rz_getf_ok (pc := 1) (own := RX12) (ref := "ThreadJudgeModel") (C := RX12) (T := TX12) (N := 257) (ci := 14) (index := 1004) (f := 103) (t := 0) (Ts := Cond.code yX12_knot cX12_knot 7 (some .int) :: rz_TB) hx hb hts rz_in14 ho hK rfl (by decide) rfl (fun _ => rfl) (hw (i := 32) (j := 1) rfl rfl) (fun _ z => z) dX12_knot_1 hk) ?_
  refine rz_All_c (i := 2) (fun k J hk hJ => rz_ifeq_ok (pc := 4) hx hb dX12_knot_4 rfl hk (hJ 4)) ?_
  refine rz_All_c (i := 3) (fun k J hk hJ => rz_no_ok) ?_
  refine rz_All_c (i := 4) (fun k J hk hJ => rz_iconst_ok (pc := 28) hx hb dX12_knot_28 rfl hk) ?_
  refine rz_All_c (i := 5) (fun k J hk hJ => rz_iret_ok (pc := 29) hC dX12_knot_29) ?_
  exact trivial
theorem dX11_waits_0 : decode cX11_waits 0 = .ok (.aload_n 0, 1) := by decide +kernel
theorem dX11_waits_1 : decode cX11_waits 1 = .ok (.getfield 52, 3) := by decide +kernel
theorem dX11_waits_4 : decode cX11_waits 4 = .ok (.getfield 122, 3) := by decide +kernel
theorem dX11_waits_7 : decode cX11_waits 7 = .ok (.ifCond .eq 27, 3) := by decide +kernel
theorem dX11_waits_34 : decode cX11_waits 34 = .ok (.iconst (-1), 1) := by decide +kernel
theorem dX11_waits_35 : decode cX11_waits 35 = .ok (.ireturn, 1) := by decide +kernel
def rpX11_waits : List Nat := [0, 1, 4, 7, 10, 34, 35]
noncomputable def rcX11_waits : List rz_B := [rz_aload 0, rz_getf (Nat.add (Nat.mul 256 13) 1) 9 rz_r, rz_getf (Nat.add (Nat.mul 256 4) 1) 1 rz_i, rz_ifeq 5, rz_no, rz_cst 4294967295, rz_iret]
noncomputable def rgX11_waits : rz_L → rz_M → rz_Z → Bool := rz_go rcX11_waits 3 1000000
def rrX11_waits : Room := { frames := 0, cells := 0, slots := 0, locals := 0 }
theorem rmX11_waits (l : Launch) {G : rz_G} (hG : rz_Gd G) (vs : rz_L) (M : rz_M) (Z : rz_Z) (hn : vs.length = 3) (h : rgX11_waits vs M Z = true) : Met l yX11_waits (Cond.code yX11_waits cX11_waits 3 (some .int) :: rz_TB) rrX11_waits (rz_Pre G vs M) (rz_Qi G M.2 Z) 0 0 (fun q => rz_b G ≤ q) := by
  obtain ⟨D, tc, ad, b, xs, rfl⟩ := id hG
  refine rz_body (pcs := rpX11_waits) (by decide) rfl (by rw [hn]; decide) h ?_
  intro p e R s m args below meth c hC
  obtain ⟨hx, hb, hml, hr, hlk, ho, hts, hKn, hRm⟩ := id hC
  obtain ⟨hK, hA, hSt⟩ := id hKn
  have hw : ∀ {i j : Nat} {ws : List Cond} {w : Cond}, rz_WW[i]? = some ws → ws[j]? = some w → w.before args s = true := fun h1 h2 => hts _ (List.mem_cons_of_mem _ (rz_mem h1 h2))
  refine rz_All_c (i := 0) (fun k J hk hJ => rz_aload_n_ok (pc := 0) hx hb dX11_waits_0 rfl hk) ?_
  refine rz_All_c (i := 1) (fun k J hk hJ => rz_getf_ok (pc := 1) (own := RX11) (ref := "ThreadJudge") (C := RX11) (T := TX11) (N := 16) (ci := 13) (index := 52) (f := 9) (t := 2) (Ts := Cond.code yX11_waits cX11_waits 3 (some .int) :: rz_TB) hx hb hts rz_in13 ho hK rfl (by decide) rfl (fun _ => rfl) (hw (i := 0) (j := 1) rfl rfl) (fun _ z => z) dX11_waits_1 hk) ?_
  refine rz_All_c (i := 2) (fun k J hk hJ => rz_getf_ok (pc := 4) (own := RX11) (ref := "ThreadJudge$Flow") (C := RX2) (T := TX2) (N := 22) (ci := 4) (index := 122) (f := 1) (t := 0) (Ts := Cond.code yX11_waits cX11_waits 3 (some .int) :: rz_TB) hx hb hts rz_in4 ho hK rfl (by decide) rfl (fun _ => rfl) (hw (i := 0) (j := 2) rfl rfl) (fun _ z => z) dX11_waits_4 hk) ?_
  refine rz_All_c (i := 3) (fun k J hk hJ => rz_ifeq_ok (pc := 7) hx hb dX11_waits_7 rfl hk (hJ 5)) ?_
  refine rz_All_c (i := 4) (fun k J hk hJ => rz_no_ok) ?_
  refine rz_All_c (i := 5) (fun k J hk hJ => rz_iconst_ok (pc := 34) hx hb dX11_waits_34 rfl hk) ?_
  refine rz_All_c (i := 6) (fun k J hk hJ => rz_iret_ok (pc := 35) hC dX11_waits_35) ?_
  exact trivial
theorem dX12_waits_0 : decode cX12_waits 0 = .ok (.aload_n 0, 1) := by decide +kernel
theorem dX12_waits_1 : decode cX12_waits 1 = .ok (.getfield 1004, 3) := by decide +kernel
theorem dX12_waits_4 : decode cX12_waits 4 = .ok (.ifCond .eq 24, 3) := by decide +kernel
theorem dX12_waits_28 : decode cX12_waits 28 = .ok (.iconst (-1), 1) := by decide +kernel
theorem dX12_waits_29 : decode cX12_waits 29 = .ok (.ireturn, 1) := by decide +kernel
def rpX12_waits : List Nat := [0, 1, 4, 7, 28, 29]
noncomputable def rcX12_waits : List rz_B := [rz_aload 0, rz_getf (Nat.add (Nat.mul 256 14) 1) 103 rz_i, rz_ifeq 4, rz_no, rz_cst 4294967295, rz_iret]
noncomputable def rgX12_waits : rz_L → rz_M → rz_Z → Bool := rz_go rcX12_waits 5 1000000
def rrX12_waits : Room := { frames := 0, cells := 0, slots := 0, locals := 0 }
theorem rmX12_waits (l : Launch) {G : rz_G} (hG : rz_Gd G) (vs : rz_L) (M : rz_M) (Z : rz_Z) (hn : vs.length = 3) (h : rgX12_waits vs M Z = true) : Met l yX12_waits (Cond.code yX12_waits cX12_waits 5 (some .int) :: rz_TB) rrX12_waits (rz_Pre G vs M) (rz_Qi G M.2 Z) 0 0 (fun q => rz_b G ≤ q) := by
  obtain ⟨D, tc, ad, b, xs, rfl⟩ := id hG
  refine rz_body (pcs := rpX12_waits) (by decide) rfl (by rw [hn]; decide) h ?_
  intro p e R s m args below meth c hC
  obtain ⟨hx, hb, hml, hr, hlk, ho, hts, hKn, hRm⟩ := id hC
  obtain ⟨hK, hA, hSt⟩ := id hKn
  have hw : ∀ {i j : Nat} {ws : List Cond} {w : Cond}, rz_WW[i]? = some ws → ws[j]? = some w → w.before args s = true := fun h1 h2 => hts _ (List.mem_cons_of_mem _ (rz_mem h1 h2))
  refine rz_All_c (i := 0) (fun k J hk hJ => rz_aload_n_ok (pc := 0) hx hb dX12_waits_0 rfl hk) ?_
  refine rz_All_c (i := 1) (fun k J hk hJ => rz_getf_ok (pc := 1) (own := RX12) (ref := "ThreadJudgeModel") (C := RX12) (T := TX12) (N := 257) (ci := 14) (index := 1004) (f := 103) (t := 0) (Ts := Cond.code yX12_waits cX12_waits 5 (some .int) :: rz_TB) hx hb hts rz_in14 ho hK rfl (by decide) rfl (fun _ => rfl) (hw (i := 32) (j := 1) rfl rfl) (fun _ z => z) dX12_waits_1 hk) ?_
  refine rz_All_c (i := 2) (fun k J hk hJ => rz_ifeq_ok (pc := 4) hx hb dX12_waits_4 rfl hk (hJ 4)) ?_
  refine rz_All_c (i := 3) (fun k J hk hJ => rz_no_ok) ?_
  refine rz_All_c (i := 4) (fun k J hk hJ => rz_iconst_ok (pc := 28) hx hb dX12_waits_28 rfl hk) ?_
  refine rz_All_c (i := 5) (fun k J hk hJ => rz_iret_ok (pc := 29) hC dX12_waits_29) ?_
  exact trivial
theorem dX11_unresolved_0 : decode cX11_unresolved 0 = .ok (.aload_n 0, 1) := by decide +kernel
theorem dX11_unresolved_1 : decode cX11_unresolved 1 = .ok (.getfield 52, 3) := by decide +kernel
theorem dX11_unresolved_4 : decode cX11_unresolved 4 = .ok (.getfield 122, 3) := by decide +kernel
theorem dX11_unresolved_7 : decode cX11_unresolved 7 = .ok (.ifCond .eq 14, 3) := by decide +kernel
theorem dX11_unresolved_21 : decode cX11_unresolved 21 = .ok (.iconst (-1), 1) := by decide +kernel
theorem dX11_unresolved_22 : decode cX11_unresolved 22 = .ok (.ireturn, 1) := by decide +kernel
def rpX11_unresolved : List Nat := [0, 1, 4, 7, 10, 21, 22]
noncomputable def rcX11_unresolved : List rz_B := [rz_aload 0, rz_getf (Nat.add (Nat.mul 256 13) 1) 9 rz_r, rz_getf (Nat.add (Nat.mul 256 4) 1) 1 rz_i, rz_ifeq 5, rz_no, rz_cst 4294967295, rz_iret]
noncomputable def rgX11_unresolved : rz_L → rz_M → rz_Z → Bool := rz_go rcX11_unresolved 2 1000000
def rrX11_unresolved : Room := { frames := 0, cells := 0, slots := 0, locals := 0 }
theorem rmX11_unresolved (l : Launch) {G : rz_G} (hG : rz_Gd G) (vs : rz_L) (M : rz_M) (Z : rz_Z) (hn : vs.length = 2) (h : rgX11_unresolved vs M Z = true) : Met l yX11_unresolved (Cond.code yX11_unresolved cX11_unresolved 2 (some .int) :: rz_TB) rrX11_unresolved (rz_Pre G vs M) (rz_Qi G M.2 Z) 0 0 (fun q => rz_b G ≤ q) := by
  obtain ⟨D, tc, ad, b, xs, rfl⟩ := id hG
  refine rz_body (pcs := rpX11_unresolved) (by decide) rfl (by rw [hn]; decide) h ?_
  intro p e R s m args below meth c hC
  obtain ⟨hx, hb, hml, hr, hlk, ho, hts, hKn, hRm⟩ := id hC
  obtain ⟨hK, hA, hSt⟩ := id hKn
  have hw : ∀ {i j : Nat} {ws : List Cond} {w : Cond}, rz_WW[i]? = some ws → ws[j]? = some w → w.before args s = true := fun h1 h2 => hts _ (List.mem_cons_of_mem _ (rz_mem h1 h2))
  refine rz_All_c (i := 0) (fun k J hk hJ => rz_aload_n_ok (pc := 0) hx hb dX11_unresolved_0 rfl hk) ?_
  refine rz_All_c (i := 1) (fun k J hk hJ => rz_getf_ok (pc := 1) (own := RX11) (ref := "ThreadJudge") (C := RX11) (T := TX11) (N := 16) (ci := 13) (index := 52) (f := 9) (t := 2) (Ts := Cond.code yX11_unresolved cX11_unresolved 2 (some .int) :: rz_TB) hx hb hts rz_in13 ho hK rfl (by decide) rfl (fun _ => rfl) (hw (i := 0) (j := 1) rfl rfl) (fun _ z => z) dX11_unresolved_1 hk) ?_
  refine rz_All_c (i := 2) (fun k J hk hJ => rz_getf_ok (pc := 4) (own := RX11) (ref := "ThreadJudge$Flow") (C := RX2) (T := TX2) (N := 22) (ci := 4) (index := 122) (f := 1) (t := 0) (Ts := Cond.code yX11_unresolved cX11_unresolved 2 (some .int) :: rz_TB) hx hb hts rz_in4 ho hK rfl (by decide) rfl (fun _ => rfl) (hw (i := 0) (j := 2) rfl rfl) (fun _ z => z) dX11_unresolved_4 hk) ?_
  refine rz_All_c (i := 3) (fun k J hk hJ => rz_ifeq_ok (pc := 7) hx hb dX11_unresolved_7 rfl hk (hJ 5)) ?_
  refine rz_All_c (i := 4) (fun k J hk hJ => rz_no_ok) ?_
  refine rz_All_c (i := 5) (fun k J hk hJ => rz_iconst_ok (pc := 21) hx hb dX11_unresolved_21 rfl hk) ?_
  refine rz_All_c (i := 6) (fun k J hk hJ => rz_iret_ok (pc := 22) hC dX11_unresolved_22) ?_
  exact trivial
theorem dX12_unresolved_0 : decode cX12_unresolved 0 = .ok (.aload_n 0, 1) := by decide +kernel
theorem dX12_unresolved_1 : decode cX12_unresolved 1 = .ok (.getfield 1004, 3) := by decide +kernel
theorem dX12_unresolved_4 : decode cX12_unresolved 4 = .ok (.ifCond .eq 15, 3) := by decide +kernel
theorem dX12_unresolved_19 : decode cX12_unresolved 19 = .ok (.iconst (-1), 1) := by decide +kernel
theorem dX12_unresolved_20 : decode cX12_unresolved 20 = .ok (.ireturn, 1) := by decide +kernel
def rpX12_unresolved : List Nat := [0, 1, 4, 7, 19, 20]
noncomputable def rcX12_unresolved : List rz_B := [rz_aload 0, rz_getf (Nat.add (Nat.mul 256 14) 1) 103 rz_i, rz_ifeq 4, rz_no, rz_cst 4294967295, rz_iret]
noncomputable def rgX12_unresolved : rz_L → rz_M → rz_Z → Bool := rz_go rcX12_unresolved 4 1000000
def rrX12_unresolved : Room := { frames := 0, cells := 0, slots := 0, locals := 0 }
theorem rmX12_unresolved (l : Launch) {G : rz_G} (hG : rz_Gd G) (vs : rz_L) (M : rz_M) (Z : rz_Z) (hn : vs.length = 2) (h : rgX12_unresolved vs M Z = true) : Met l yX12_unresolved (Cond.code yX12_unresolved cX12_unresolved 4 (some .int) :: rz_TB) rrX12_unresolved (rz_Pre G vs M) (rz_Qi G M.2 Z) 0 0 (fun q => rz_b G ≤ q) := by
  obtain ⟨D, tc, ad, b, xs, rfl⟩ := id hG
  refine rz_body (pcs := rpX12_unresolved) (by decide) rfl (by rw [hn]; decide) h ?_
  intro p e R s m args below meth c hC
  obtain ⟨hx, hb, hml, hr, hlk, ho, hts, hKn, hRm⟩ := id hC
  obtain ⟨hK, hA, hSt⟩ := id hKn
  have hw : ∀ {i j : Nat} {ws : List Cond} {w : Cond}, rz_WW[i]? = some ws → ws[j]? = some w → w.before args s = true := fun h1 h2 => hts _ (List.mem_cons_of_mem _ (rz_mem h1 h2))
  refine rz_All_c (i := 0) (fun k J hk hJ => rz_aload_n_ok (pc := 0) hx hb dX12_unresolved_0 rfl hk) ?_
  refine rz_All_c (i := 1) (fun k J hk hJ => rz_getf_ok (pc := 1) (own := RX12) (ref := "ThreadJudgeModel") (C := RX12) (T := TX12) (N := 257) (ci := 14) (index := 1004) (f := 103) (t := 0) (Ts := Cond.code yX12_unresolved cX12_unresolved 4 (some .int) :: rz_TB) hx hb hts rz_in14 ho hK rfl (by decide) rfl (fun _ => rfl) (hw (i := 32) (j := 1) rfl rfl) (fun _ z => z) dX12_unresolved_1 hk) ?_
  refine rz_All_c (i := 2) (fun k J hk hJ => rz_ifeq_ok (pc := 4) hx hb dX12_unresolved_4 rfl hk (hJ 4)) ?_
  refine rz_All_c (i := 3) (fun k J hk hJ => rz_no_ok) ?_
  refine rz_All_c (i := 4) (fun k J hk hJ => rz_iconst_ok (pc := 19) hx hb dX12_unresolved_19 rfl hk) ?_
  refine rz_All_c (i := 5) (fun k J hk hJ => rz_iret_ok (pc := 20) hC dX12_unresolved_20) ?_
  exact trivial
theorem dX11_way_0 : decode cX11_way 0 = .ok (.aload_n 0, 1) := by decide +kernel
theorem dX11_way_1 : decode cX11_way 1 = .ok (.getfield 52, 3) := by decide +kernel
theorem dX11_way_4 : decode cX11_way 4 = .ok (.getfield 122, 3) := by decide +kernel
theorem dX11_way_7 : decode cX11_way 7 = .ok (.ifCond .eq 11, 3) := by decide +kernel
theorem dX11_way_18 : decode cX11_way 18 = .ok (.iconst (-1), 1) := by decide +kernel
theorem dX11_way_19 : decode cX11_way 19 = .ok (.ireturn, 1) := by decide +kernel
def rpX11_way : List Nat := [0, 1, 4, 7, 10, 18, 19]
noncomputable def rcX11_way : List rz_B := [rz_aload 0, rz_getf (Nat.add (Nat.mul 256 13) 1) 9 rz_r, rz_getf (Nat.add (Nat.mul 256 4) 1) 1 rz_i, rz_ifeq 5, rz_no, rz_cst 4294967295, rz_iret]
noncomputable def rgX11_way : rz_L → rz_M → rz_Z → Bool := rz_go rcX11_way 3 1000000
def rrX11_way : Room := { frames := 0, cells := 0, slots := 0, locals := 0 }
theorem rmX11_way (l : Launch) {G : rz_G} (hG : rz_Gd G) (vs : rz_L) (M : rz_M) (Z : rz_Z) (hn : vs.length = 3) (h : rgX11_way vs M Z = true) : Met l yX11_way (Cond.code yX11_way cX11_way 3 (some .int) :: rz_TB) rrX11_way (rz_Pre G vs M) (rz_Qi G M.2 Z) 0 0 (fun q => rz_b G ≤ q) := by
  obtain ⟨D, tc, ad, b, xs, rfl⟩ := id hG
  refine rz_body (pcs := rpX11_way) (by decide) rfl (by rw [hn]; decide) h ?_
  intro p e R s m args below meth c hC
  obtain ⟨hx, hb, hml, hr, hlk, ho, hts, hKn, hRm⟩ := id hC
  obtain ⟨hK, hA, hSt⟩ := id hKn
  have hw : ∀ {i j : Nat} {ws : List Cond} {w : Cond}, rz_WW[i]? = some ws → ws[j]? = some w → w.before args s = true := fun h1 h2 => hts _ (List.mem_cons_of_mem _ (rz_mem h1 h2))
  refine rz_All_c (i := 0) (fun k J hk hJ => rz_aload_n_ok (pc := 0) hx hb dX11_way_0 rfl hk) ?_
  refine rz_All_c (i := 1) (fun k J hk hJ => rz_getf_ok (pc := 1) (own := RX11) (ref := "ThreadJudge") (C := RX11) (T := TX11) (N := 16) (ci := 13) (index := 52) (f := 9) (t := 2) (Ts := Cond.code yX11_way cX11_way 3 (some .int) :: rz_TB) hx hb hts rz_in13 ho hK rfl (by decide) rfl (fun _ => rfl) (hw (i := 0) (j := 1) rfl rfl) (fun _ z => z) dX11_way_1 hk) ?_
  refine rz_All_c (i := 2) (fun k J hk hJ => rz_getf_ok (pc := 4) (own := RX11) (ref := "ThreadJudge$Flow") (C := RX2) (T := TX2) (N := 22) (ci := 4) (index := 122) (f := 1) (t := 0) (Ts := Cond.code yX11_way cX11_way 3 (some .int) :: rz_TB) hx hb hts rz_in4 ho hK rfl (by decide) rfl (fun _ => rfl) (hw (i := 0) (j := 2) rfl rfl) (fun _ z => z) dX11_way_4 hk) ?_
  refine rz_All_c (i := 3) (fun k J hk hJ => rz_ifeq_ok (pc := 7) hx hb dX11_way_7 rfl hk (hJ 5)) ?_
  refine rz_All_c (i := 4) (fun k J hk hJ => rz_no_ok) ?_
  refine rz_All_c (i := 5) (fun k J hk hJ => rz_iconst_ok (pc := 18) hx hb dX11_way_18 rfl hk) ?_
  refine rz_All_c (i := 6) (fun k J hk hJ => rz_iret_ok (pc := 19) hC dX11_way_19) ?_
  exact trivial
theorem dX12_way_0 : decode cX12_way 0 = .ok (.aload_n 0, 1) := by decide +kernel
theorem dX12_way_1 : decode cX12_way 1 = .ok (.getfield 1004, 3) := by decide +kernel
theorem dX12_way_4 : decode cX12_way 4 = .ok (.ifCond .eq 16, 3) := by decide +kernel
theorem dX12_way_20 : decode cX12_way 20 = .ok (.iconst (-1), 1) := by decide +kernel
theorem dX12_way_21 : decode cX12_way 21 = .ok (.ireturn, 1) := by decide +kernel
def rpX12_way : List Nat := [0, 1, 4, 7, 20, 21]
noncomputable def rcX12_way : List rz_B := [rz_aload 0, rz_getf (Nat.add (Nat.mul 256 14) 1) 103 rz_i, rz_ifeq 4, rz_no, rz_cst 4294967295, rz_iret]
noncomputable def rgX12_way : rz_L → rz_M → rz_Z → Bool := rz_go rcX12_way 8 1000000
def rrX12_way : Room := { frames := 0, cells := 0, slots := 0, locals := 0 }
theorem rmX12_way (l : Launch) {G : rz_G} (hG : rz_Gd G) (vs : rz_L) (M : rz_M) (Z : rz_Z) (hn : vs.length = 3) (h : rgX12_way vs M Z = true) : Met l yX12_way (Cond.code yX12_way cX12_way 8 (some .int) :: rz_TB) rrX12_way (rz_Pre G vs M) (rz_Qi G M.2 Z) 0 0 (fun q => rz_b G ≤ q) := by
  obtain ⟨D, tc, ad, b, xs, rfl⟩ := id hG
  refine rz_body (pcs := rpX12_way) (by decide) rfl (by rw [hn]; decide) h ?_
  intro p e R s m args below meth c hC
  obtain ⟨hx, hb, hml, hr, hlk, ho, hts, hKn, hRm⟩ := id hC
  obtain ⟨hK, hA, hSt⟩ := id hKn
  have hw : ∀ {i j : Nat} {ws : List Cond} {w : Cond}, rz_WW[i]? = some ws → ws[j]? = some w → w.before args s = true := fun h1 h2 => hts _ (List.mem_cons_of_mem _ (rz_mem h1 h2))
  refine rz_All_c (i := 0) (fun k J hk hJ => rz_aload_n_ok (pc := 0) hx hb dX12_way_0 rfl hk) ?_
  refine rz_All_c (i := 1) (fun k J hk hJ => rz_getf_ok (pc := 1) (own := RX12) (ref := "ThreadJudgeModel") (C := RX12) (T := TX12) (N := 257) (ci := 14) (index := 1004) (f := 103) (t := 0) (Ts := Cond.code yX12_way cX12_way 8 (some .int) :: rz_TB) hx hb hts rz_in14 ho hK rfl (by decide) rfl (fun _ => rfl) (hw (i := 32) (j := 1) rfl rfl) (fun _ z => z) dX12_way_1 hk) ?_
  refine rz_All_c (i := 2) (fun k J hk hJ => rz_ifeq_ok (pc := 4) hx hb dX12_way_4 rfl hk (hJ 4)) ?_
  refine rz_All_c (i := 3) (fun k J hk hJ => rz_no_ok) ?_
  refine rz_All_c (i := 4) (fun k J hk hJ => rz_iconst_ok (pc := 20) hx hb dX12_way_20 rfl hk) ?_
  refine rz_All_c (i := 5) (fun k J hk hJ => rz_iret_ok (pc := 21) hC dX12_way_21) ?_
  exact trivial
theorem dX8_add_0 : decode cX8_add 0 = .ok (.iload_n 1, 1) := by decide +kernel
theorem dX8_add_1 : decode cX8_add 1 = .ok (.bipush 32, 2) := by decide +kernel
theorem dX8_add_3 : decode cX8_add 3 = .ok (.if_icmp .lt 19, 3) := by decide +kernel
theorem dX8_add_6 : decode cX8_add 6 = .ok (.iload_n 1, 1) := by decide +kernel
theorem dX8_add_7 : decode cX8_add 7 = .ok (.bipush 126, 2) := by decide +kernel
theorem dX8_add_9 : decode cX8_add 9 = .ok (.if_icmp .gt 13, 3) := by decide +kernel
theorem dX8_add_12 : decode cX8_add 12 = .ok (.aload_n 0, 1) := by decide +kernel
theorem dX8_add_13 : decode cX8_add 13 = .ok (.getfield 58, 3) := by decide +kernel
theorem dX8_add_16 : decode cX8_add 16 = .ok (.sipush 200, 3) := by decide +kernel
theorem dX8_add_19 : decode cX8_add 19 = .ok (.if_icmp .lt 5, 3) := by decide +kernel
theorem dX8_add_22 : decode cX8_add 22 = .ok (.iconst (-1), 1) := by decide +kernel
theorem dX8_add_23 : decode cX8_add 23 = .ok (.ireturn, 1) := by decide +kernel
theorem dX8_add_24 : decode cX8_add 24 = .ok (.aload_n 0, 1) := by decide +kernel
theorem dX8_add_25 : decode cX8_add 25 = .ok (.getfield 9, 3) := by decide +kernel
theorem dX8_add_28 : decode cX8_add 28 = .ok (.aload_n 0, 1) := by decide +kernel
theorem dX8_add_29 : decode cX8_add 29 = .ok (.dup, 1) := by decide +kernel
theorem dX8_add_30 : decode cX8_add 30 = .ok (.getfield 58, 3) := by decide +kernel
theorem dX8_add_33 : decode cX8_add 33 = .ok (.dup_x1, 1) := by decide +kernel
theorem dX8_add_34 : decode cX8_add 34 = .ok (.iconst 1, 1) := by decide +kernel
theorem dX8_add_35 : decode cX8_add 35 = .ok (.iadd, 1) := by decide +kernel
theorem dX8_add_36 : decode cX8_add 36 = .ok (.putfield 58, 3) := by decide +kernel
theorem dX8_add_39 : decode cX8_add 39 = .ok (.iload_n 1, 1) := by decide +kernel
theorem dX8_add_40 : decode cX8_add 40 = .ok (.i2c, 1) := by decide +kernel
theorem dX8_add_41 : decode cX8_add 41 = .ok (.castore, 1) := by decide +kernel
theorem dX8_add_42 : decode cX8_add 42 = .ok (.aload_n 0, 1) := by decide +kernel
theorem dX8_add_43 : decode cX8_add 43 = .ok (.getfield 58, 3) := by decide +kernel
theorem dX8_add_46 : decode cX8_add 46 = .ok (.ireturn, 1) := by decide +kernel
def rpX8_add : List Nat := [0, 1, 3, 6, 7, 9, 12, 13, 16, 19, 22, 23, 24, 25, 28, 29, 30, 33, 34, 35, 36, 39, 40, 41, 42, 43, 46]
noncomputable def rcX8_add : List rz_B := [rz_iload 1, rz_cst 32, rz_icmpltK 10, rz_iload 1, rz_cst 126, rz_icmpgtK 10, rz_aload 0, rz_getf (Nat.add (Nat.mul 256 10) 1) 5 rz_i, rz_cst 200, rz_icmplt 12, rz_cst 4294967295, rz_iret, rz_aload 0, rz_getf (Nat.add (Nat.mul 256 10) 1) 4 rz_r, rz_aload 0, rz_dup, rz_getf (Nat.add (Nat.mul 256 10) 1) 5 rz_i, rz_dup_x1, rz_cst 1, rz_iadd, rz_putf (Nat.add (Nat.mul 256 10) 1) 5 rz_unI, rz_iload 1, rz_i2c, rz_cast, rz_aload 0, rz_getf (Nat.add (Nat.mul 256 10) 1) 5 rz_i, rz_iret]
noncomputable def rgX8_add : rz_L → rz_M → rz_Z → Bool := rz_go rcX8_add 2 1000000
def rrX8_add : Room := { frames := 0, cells := 0, slots := 0, locals := 0 }
theorem rmX8_add (l : Launch) {G : rz_G} (hG : rz_Gd G) (vs : rz_L) (M : rz_M) (Z : rz_Z) (hn : vs.length = 2) (h : rgX8_add vs M Z = true) : Met l yX8_add (Cond.code yX8_add cX8_add 2 (some .int) :: rz_TB) rrX8_add (rz_Pre G vs M) (rz_Qi G M.2 Z) 0 0 (fun q => rz_b G ≤ q) := by
  obtain ⟨D, tc, ad, b, xs, rfl⟩ := id hG
  refine rz_body (pcs := rpX8_add) (by decide) rfl (by rw [hn]; decide) h ?_
  intro p e R s m args below meth c hC
  obtain ⟨hx, hb, hml, hr, hlk, ho, hts, hKn, hRm⟩ := id hC
  obtain ⟨hK, hA, hSt⟩ := id hKn
  have hw : ∀ {i j : Nat} {ws : List Cond} {w : Cond}, rz_WW[i]? = some ws → ws[j]? = some w → w.before args s = true := fun h1 h2 => hts _ (List.mem_cons_of_mem _ (rz_mem h1 h2))
  refine rz_All_c (i := 0) (fun k J hk hJ => rz_iload_n_ok (pc := 0) hx hb dX8_add_0 rfl hk) ?_
  refine rz_All_c (i := 1) (fun k J hk hJ => rz_bipush_ok (pc := 1) hx hb dX8_add_1 (by decide) hk) ?_
  refine rz_All_c (i := 2) (fun k J hk hJ => rz_icmpltK_ok (pc := 3) hx hb hSt.2.2.2.2.2.2.2 dX8_add_3 rfl hk (hJ 10)) ?_
  refine rz_All_c (i := 3) (fun k J hk hJ => rz_iload_n_ok (pc := 6) hx hb dX8_add_6 rfl hk) ?_
  refine rz_All_c (i := 4) (fun k J hk hJ => rz_bipush_ok (pc := 7) hx hb dX8_add_7 (by decide) hk) ?_
  refine rz_All_c (i := 5) (fun k J hk hJ => rz_icmpgtK_ok (pc := 9) hx hb hSt.2.2.2.2.2.2.2 dX8_add_9 rfl hk (hJ 10)) ?_
  refine rz_All_c (i := 6) (fun k J hk hJ => rz_aload_n_ok (pc := 12) hx hb dX8_add_12 rfl hk) ?_
  refine rz_All_c (i := 7) (fun k J hk hJ => rz_getf_ok (pc := 13) (own := RX8) (ref := "ThreadJudge$Question") (C := RX8) (T := TX8) (N := 18) (ci := 10) (index := 58) (f := 5) (t := 0) (Ts := Cond.code yX8_add cX8_add 2 (some .int) :: rz_TB) hx hb hts rz_in10 ho hK rfl (by decide) rfl (fun _ => rfl) (hw (i := 84) (j := 91) rfl rfl) (fun _ z => z) dX8_add_13 hk) ?_
  refine rz_All_c (i := 8) (fun k J hk hJ => rz_sipush_ok (pc := 16) hx hb dX8_add_16 (by decide) hk) ?_
  refine rz_All_c (i := 9) (fun k J hk hJ => rz_icmplt_ok (pc := 19) hx hb dX8_add_19 rfl hk (hJ 12)) ?_
  refine rz_All_c (i := 10) (fun k J hk hJ => rz_iconst_ok (pc := 22) hx hb dX8_add_22 rfl hk) ?_
  refine rz_All_c (i := 11) (fun k J hk hJ => rz_iret_ok (pc := 23) hC dX8_add_23) ?_
  refine rz_All_c (i := 12) (fun k J hk hJ => rz_aload_n_ok (pc := 24) hx hb dX8_add_24 rfl hk) ?_
  refine rz_All_c (i := 13) (fun k J hk hJ => rz_getf_ok (pc := 25) (own := RX8) (ref := "ThreadJudge$Question") (C := RX8) (T := TX8) (N := 18) (ci := 10) (index := 9) (f := 4) (t := 2) (Ts := Cond.code yX8_add cX8_add 2 (some .int) :: rz_TB) hx hb hts rz_in10 ho hK rfl (by decide) rfl (fun _ => rfl) (hw (i := 72) (j := 18) rfl rfl) (fun _ z => z) dX8_add_25 hk) ?_
  refine rz_All_c (i := 14) (fun k J hk hJ => rz_aload_n_ok (pc := 28) hx hb dX8_add_28 rfl hk) ?_
  refine rz_All_c (i := 15) (fun k J hk hJ => rz_dup_ok (pc := 29) hx hb dX8_add_29 hk) ?_
  refine rz_All_c (i := 16) (fun k J hk hJ => rz_getf_ok (pc := 30) (own := RX8) (ref := "ThreadJudge$Question") (C := RX8) (T := TX8) (N := 18) (ci := 10) (index := 58) (f := 5) (t := 0) (Ts := Cond.code yX8_add cX8_add 2 (some .int) :: rz_TB) hx hb hts rz_in10 ho hK rfl (by decide) rfl (fun _ => rfl) (hw (i := 84) (j := 91) rfl rfl) (fun _ z => z) dX8_add_30 hk) ?_
  refine rz_All_c (i := 17) (fun k J hk hJ => rz_dup_x1_ok (pc := 33) hx hb dX8_add_33 hk) ?_
  refine rz_All_c (i := 18) (fun k J hk hJ => rz_iconst_ok (pc := 34) hx hb dX8_add_34 rfl hk) ?_
  refine rz_All_c (i := 19) (fun k J hk hJ => rz_iadd_ok (pc := 35) hx hb dX8_add_35 hk) ?_
  refine rz_All_c (i := 20) (fun k J hk hJ => rz_putf_ok (pc := 36) (own := RX8) (ref := "ThreadJudge$Question") (C := RX8) (T := TX8) (N := 18) (ci := 10) (index := 58) (f := 5) (t := 0) (Ts := Cond.code yX8_add cX8_add 2 (some .int) :: rz_TB) hx hb hts rz_in10 tyX8 tyX8_ok nmX8 ho hK hA rfl (by decide) rfl (rz_UnI _) rfl (tyX8_ok 5 (by decide)) (hw (i := 84) (j := 91) rfl rfl) (fun _ z => z) dX8_add_36 hk) ?_
  refine rz_All_c (i := 21) (fun k J hk hJ => rz_iload_n_ok (pc := 39) hx hb dX8_add_39 rfl hk) ?_
  refine rz_All_c (i := 22) (fun k J hk hJ => rz_i2c_ok (pc := 40) hx hb dX8_add_40 hk) ?_
  refine rz_All_c (i := 23) (fun k J hk hJ => rz_cast_ok (pc := 41) hx hb hK hA dX8_add_41 hk) ?_
  refine rz_All_c (i := 24) (fun k J hk hJ => rz_aload_n_ok (pc := 42) hx hb dX8_add_42 rfl hk) ?_
  refine rz_All_c (i := 25) (fun k J hk hJ => rz_getf_ok (pc := 43) (own := RX8) (ref := "ThreadJudge$Question") (C := RX8) (T := TX8) (N := 18) (ci := 10) (index := 58) (f := 5) (t := 0) (Ts := Cond.code yX8_add cX8_add 2 (some .int) :: rz_TB) hx hb hts rz_in10 ho hK rfl (by decide) rfl (fun _ => rfl) (hw (i := 84) (j := 91) rfl rfl) (fun _ z => z) dX8_add_43 hk) ?_
  refine rz_All_c (i := 26) (fun k J hk hJ => rz_iret_ok (pc := 46) hC dX8_add_46) ?_
  exact trivial
theorem dX11_ask_0 : decode cX11_ask 0 = .ok (.aload_n 0, 1) := by decide +kernel
theorem dX11_ask_1 : decode cX11_ask 1 = .ok (.getfield 79, 3) := by decide +kernel
theorem dX11_ask_4 : decode cX11_ask 4 = .ok (.iload_n 1, 1) := by decide +kernel
theorem dX11_ask_5 : decode cX11_ask 5 = .ok (.invokevirtual 321, 3) := by decide +kernel
theorem dX11_ask_8 : decode cX11_ask 8 = .ok (.ireturn, 1) := by decide +kernel
def rpX11_ask : List Nat := [0, 1, 4, 5, 8]
noncomputable def rcX11_ask : List rz_B := [rz_aload 0, rz_getf (Nat.add (Nat.mul 256 13) 1) 12 rz_r, rz_iload 1, rz_callV 1 (Nat.add (Nat.mul 256 10) 1) rgX8_add, rz_iret]
noncomputable def rgX11_ask : rz_L → rz_M → rz_Z → Bool := rz_go rcX11_ask 2 1000000
def rrX11_ask : Room := { frames := 1, cells := 0, slots := 0, locals := 21 }
theorem rmX11_ask (l : Launch) {G : rz_G} (hG : rz_Gd G) (vs : rz_L) (M : rz_M) (Z : rz_Z) (hn : vs.length = 2) (h : rgX11_ask vs M Z = true) : Met l yX11_ask (Cond.code yX11_ask cX11_ask 2 (some .int) :: rz_TB) rrX11_ask (rz_Pre G vs M) (rz_Qi G M.2 Z) 0 0 (fun q => rz_b G ≤ q) := by
  obtain ⟨D, tc, ad, b, xs, rfl⟩ := id hG
  refine rz_body (pcs := rpX11_ask) (by decide) rfl (by rw [hn]; decide) h ?_
  intro p e R s m args below meth c hC
  obtain ⟨hx, hb, hml, hr, hlk, ho, hts, hKn, hRm⟩ := id hC
  obtain ⟨hK, hA, hSt⟩ := id hKn
  have hw : ∀ {i j : Nat} {ws : List Cond} {w : Cond}, rz_WW[i]? = some ws → ws[j]? = some w → w.before args s = true := fun h1 h2 => hts _ (List.mem_cons_of_mem _ (rz_mem h1 h2))
  refine rz_All_c (i := 0) (fun k J hk hJ => rz_aload_n_ok (pc := 0) hx hb dX11_ask_0 rfl hk) ?_
  refine rz_All_c (i := 1) (fun k J hk hJ => rz_getf_ok (pc := 1) (own := RX11) (ref := "ThreadJudge") (C := RX11) (T := TX11) (N := 16) (ci := 13) (index := 79) (f := 12) (t := 2) (Ts := Cond.code yX11_ask cX11_ask 2 (some .int) :: rz_TB) hx hb hts rz_in13 ho hK rfl (by decide) rfl (fun _ => rfl) (hw (i := 0) (j := 5) rfl rfl) (fun _ z => z) dX11_ask_1 hk) ?_
  refine rz_All_c (i := 2) (fun k J hk hJ => rz_iload_n_ok (pc := 4) hx hb dX11_ask_4 rfl hk) ?_
  refine rz_All_c (i := 3) (fun k J hk hJ => rz_callV_ok (pc := 5) (own := RX11) (C := RX8) (T0 := TX8) (N0 := 18) hC rfl (rmX8_add l hG) (rz_cwV 1 hC rz_good (rz_mem (i := 84) (j := 93) rfl rfl) (rz_mem (i := 84) (j := 94) rfl rfl) (rz_mem (i := 84) (j := 95) rfl rfl) (rz_mem (i := 1) (j := 14) rfl rfl) (rz_mem (i := 84) (j := 90) rfl rfl) ⟨rfl, by decide, by decide, by decide +kernel⟩ rfl rfl ⟨by decide, by decide⟩) rfl dX11_ask_5 hk) ?_
  refine rz_All_c (i := 4) (fun k J hk hJ => rz_iret_ok (pc := 8) hC dX11_ask_8) ?_
  exact trivial
theorem dX12_ask_0 : decode cX12_ask 0 = .ok (.iload_n 1, 1) := by decide +kernel
theorem dX12_ask_1 : decode cX12_ask 1 = .ok (.bipush 32, 2) := by decide +kernel
theorem dX12_ask_3 : decode cX12_ask 3 = .ok (.if_icmp .lt 19, 3) := by decide +kernel
theorem dX12_ask_6 : decode cX12_ask 6 = .ok (.iload_n 1, 1) := by decide +kernel
theorem dX12_ask_7 : decode cX12_ask 7 = .ok (.bipush 126, 2) := by decide +kernel
theorem dX12_ask_9 : decode cX12_ask 9 = .ok (.if_icmp .gt 13, 3) := by decide +kernel
theorem dX12_ask_12 : decode cX12_ask 12 = .ok (.aload_n 0, 1) := by decide +kernel
theorem dX12_ask_13 : decode cX12_ask 13 = .ok (.getfield 1435, 3) := by decide +kernel
theorem dX12_ask_16 : decode cX12_ask 16 = .ok (.sipush 200, 3) := by decide +kernel
theorem dX12_ask_19 : decode cX12_ask 19 = .ok (.if_icmp .ne 5, 3) := by decide +kernel
theorem dX12_ask_22 : decode cX12_ask 22 = .ok (.iconst (-1), 1) := by decide +kernel
theorem dX12_ask_23 : decode cX12_ask 23 = .ok (.ireturn, 1) := by decide +kernel
theorem dX12_ask_24 : decode cX12_ask 24 = .ok (.aload_n 0, 1) := by decide +kernel
theorem dX12_ask_25 : decode cX12_ask 25 = .ok (.getfield 384, 3) := by decide +kernel
theorem dX12_ask_28 : decode cX12_ask 28 = .ok (.aload_n 0, 1) := by decide +kernel
theorem dX12_ask_29 : decode cX12_ask 29 = .ok (.getfield 1435, 3) := by decide +kernel
theorem dX12_ask_32 : decode cX12_ask 32 = .ok (.iload_n 1, 1) := by decide +kernel
theorem dX12_ask_33 : decode cX12_ask 33 = .ok (.iastore, 1) := by decide +kernel
theorem dX12_ask_34 : decode cX12_ask 34 = .ok (.aload_n 0, 1) := by decide +kernel
theorem dX12_ask_35 : decode cX12_ask 35 = .ok (.dup, 1) := by decide +kernel
theorem dX12_ask_36 : decode cX12_ask 36 = .ok (.getfield 1435, 3) := by decide +kernel
theorem dX12_ask_39 : decode cX12_ask 39 = .ok (.iconst 1, 1) := by decide +kernel
theorem dX12_ask_40 : decode cX12_ask 40 = .ok (.iadd, 1) := by decide +kernel
theorem dX12_ask_41 : decode cX12_ask 41 = .ok (.putfield 1435, 3) := by decide +kernel
theorem dX12_ask_44 : decode cX12_ask 44 = .ok (.aload_n 0, 1) := by decide +kernel
theorem dX12_ask_45 : decode cX12_ask 45 = .ok (.getfield 1435, 3) := by decide +kernel
theorem dX12_ask_48 : decode cX12_ask 48 = .ok (.ireturn, 1) := by decide +kernel
def rpX12_ask : List Nat := [0, 1, 3, 6, 7, 9, 12, 13, 16, 19, 22, 23, 24, 25, 28, 29, 32, 33, 34, 35, 36, 39, 40, 41, 44, 45, 48]
noncomputable def rcX12_ask : List rz_B := [rz_iload 1, rz_cst 32, rz_icmpltK 10, rz_iload 1, rz_cst 126, rz_icmpgtK 10, rz_aload 0, rz_getf (Nat.add (Nat.mul 256 14) 1) 170 rz_i, rz_cst 200, rz_icmpne 12, rz_cst 4294967295, rz_iret, rz_aload 0, rz_getf (Nat.add (Nat.mul 256 14) 1) 169 rz_r, rz_aload 0, rz_getf (Nat.add (Nat.mul 256 14) 1) 170 rz_i, rz_iload 1, rz_iast, rz_aload 0, rz_dup, rz_getf (Nat.add (Nat.mul 256 14) 1) 170 rz_i, rz_cst 1, rz_iadd, rz_putf (Nat.add (Nat.mul 256 14) 1) 170 rz_unI, rz_aload 0, rz_getf (Nat.add (Nat.mul 256 14) 1) 170 rz_i, rz_iret]
noncomputable def rgX12_ask : rz_L → rz_M → rz_Z → Bool := rz_go rcX12_ask 2 1000000
def rrX12_ask : Room := { frames := 0, cells := 0, slots := 0, locals := 0 }
theorem rmX12_ask (l : Launch) {G : rz_G} (hG : rz_Gd G) (vs : rz_L) (M : rz_M) (Z : rz_Z) (hn : vs.length = 2) (h : rgX12_ask vs M Z = true) : Met l yX12_ask (Cond.code yX12_ask cX12_ask 2 (some .int) :: rz_TB) rrX12_ask (rz_Pre G vs M) (rz_Qi G M.2 Z) 0 0 (fun q => rz_b G ≤ q) := by
  obtain ⟨D, tc, ad, b, xs, rfl⟩ := id hG
  refine rz_body (pcs := rpX12_ask) (by decide) rfl (by rw [hn]; decide) h ?_
  intro p e R s m args below meth c hC
  obtain ⟨hx, hb, hml, hr, hlk, ho, hts, hKn, hRm⟩ := id hC
  obtain ⟨hK, hA, hSt⟩ := id hKn
  have hw : ∀ {i j : Nat} {ws : List Cond} {w : Cond}, rz_WW[i]? = some ws → ws[j]? = some w → w.before args s = true := fun h1 h2 => hts _ (List.mem_cons_of_mem _ (rz_mem h1 h2))
  refine rz_All_c (i := 0) (fun k J hk hJ => rz_iload_n_ok (pc := 0) hx hb dX12_ask_0 rfl hk) ?_
  refine rz_All_c (i := 1) (fun k J hk hJ => rz_bipush_ok (pc := 1) hx hb dX12_ask_1 (by decide) hk) ?_
  refine rz_All_c (i := 2) (fun k J hk hJ => rz_icmpltK_ok (pc := 3) hx hb hSt.2.2.2.2.2.2.2 dX12_ask_3 rfl hk (hJ 10)) ?_
  refine rz_All_c (i := 3) (fun k J hk hJ => rz_iload_n_ok (pc := 6) hx hb dX12_ask_6 rfl hk) ?_
  refine rz_All_c (i := 4) (fun k J hk hJ => rz_bipush_ok (pc := 7) hx hb dX12_ask_7 (by decide) hk) ?_
  refine rz_All_c (i := 5) (fun k J hk hJ => rz_icmpgtK_ok (pc := 9) hx hb hSt.2.2.2.2.2.2.2 dX12_ask_9 rfl hk (hJ 10)) ?_
  refine rz_All_c (i := 6) (fun k J hk hJ => rz_aload_n_ok (pc := 12) hx hb dX12_ask_12 rfl hk) ?_
  refine rz_All_c (i := 7) (fun k J hk hJ => rz_getf_ok (pc := 13) (own := RX12) (ref := "ThreadJudgeModel") (C := RX12) (T := TX12) (N := 257) (ci := 14) (index := 1435) (f := 170) (t := 0) (Ts := Cond.code yX12_ask cX12_ask 2 (some .int) :: rz_TB) hx hb hts rz_in14 ho hK rfl (by decide) rfl (fun _ => rfl) (hw (i := 84) (j := 97) rfl rfl) (fun _ z => z) dX12_ask_13 hk) ?_
  refine rz_All_c (i := 8) (fun k J hk hJ => rz_sipush_ok (pc := 16) hx hb dX12_ask_16 (by decide) hk) ?_
  refine rz_All_c (i := 9) (fun k J hk hJ => rz_icmpne_ok (pc := 19) hx hb dX12_ask_19 rfl hk (hJ 12)) ?_
  refine rz_All_c (i := 10) (fun k J hk hJ => rz_iconst_ok (pc := 22) hx hb dX12_ask_22 rfl hk) ?_
  refine rz_All_c (i := 11) (fun k J hk hJ => rz_iret_ok (pc := 23) hC dX12_ask_23) ?_
  refine rz_All_c (i := 12) (fun k J hk hJ => rz_aload_n_ok (pc := 24) hx hb dX12_ask_24 rfl hk) ?_
  refine rz_All_c (i := 13) (fun k J hk hJ => rz_getf_ok (pc := 25) (own := RX12) (ref := "ThreadJudgeModel") (C := RX12) (T := TX12) (N := 257) (ci := 14) (index := 384) (f := 169) (t := 2) (Ts := Cond.code yX12_ask cX12_ask 2 (some .int) :: rz_TB) hx hb hts rz_in14 ho hK rfl (by decide) rfl (fun _ => rfl) (hw (i := 80) (j := 13) rfl rfl) (fun _ z => z) dX12_ask_25 hk) ?_
  refine rz_All_c (i := 14) (fun k J hk hJ => rz_aload_n_ok (pc := 28) hx hb dX12_ask_28 rfl hk) ?_
  refine rz_All_c (i := 15) (fun k J hk hJ => rz_getf_ok (pc := 29) (own := RX12) (ref := "ThreadJudgeModel") (C := RX12) (T := TX12) (N := 257) (ci := 14) (index := 1435) (f := 170) (t := 0) (Ts := Cond.code yX12_ask cX12_ask 2 (some .int) :: rz_TB) hx hb hts rz_in14 ho hK rfl (by decide) rfl (fun _ => rfl) (hw (i := 84) (j := 97) rfl rfl) (fun _ z => z) dX12_ask_29 hk) ?_
  refine rz_All_c (i := 16) (fun k J hk hJ => rz_iload_n_ok (pc := 32) hx hb dX12_ask_32 rfl hk) ?_
  refine rz_All_c (i := 17) (fun k J hk hJ => rz_iast_ok (pc := 33) hx hb hK hA dX12_ask_33 hk) ?_
  refine rz_All_c (i := 18) (fun k J hk hJ => rz_aload_n_ok (pc := 34) hx hb dX12_ask_34 rfl hk) ?_
  refine rz_All_c (i := 19) (fun k J hk hJ => rz_dup_ok (pc := 35) hx hb dX12_ask_35 hk) ?_
  refine rz_All_c (i := 20) (fun k J hk hJ => rz_getf_ok (pc := 36) (own := RX12) (ref := "ThreadJudgeModel") (C := RX12) (T := TX12) (N := 257) (ci := 14) (index := 1435) (f := 170) (t := 0) (Ts := Cond.code yX12_ask cX12_ask 2 (some .int) :: rz_TB) hx hb hts rz_in14 ho hK rfl (by decide) rfl (fun _ => rfl) (hw (i := 84) (j := 97) rfl rfl) (fun _ z => z) dX12_ask_36 hk) ?_
  refine rz_All_c (i := 21) (fun k J hk hJ => rz_iconst_ok (pc := 39) hx hb dX12_ask_39 rfl hk) ?_
  refine rz_All_c (i := 22) (fun k J hk hJ => rz_iadd_ok (pc := 40) hx hb dX12_ask_40 hk) ?_
  refine rz_All_c (i := 23) (fun k J hk hJ => rz_putf_ok (pc := 41) (own := RX12) (ref := "ThreadJudgeModel") (C := RX12) (T := TX12) (N := 257) (ci := 14) (index := 1435) (f := 170) (t := 0) (Ts := Cond.code yX12_ask cX12_ask 2 (some .int) :: rz_TB) hx hb hts rz_in14 tyX12 tyX12_ok nmX12 ho hK hA rfl (by decide) rfl (rz_UnI _) rfl (tyX12_ok 170 (by decide)) (hw (i := 84) (j := 97) rfl rfl) (fun _ z => z) dX12_ask_41 hk) ?_
  refine rz_All_c (i := 24) (fun k J hk hJ => rz_aload_n_ok (pc := 44) hx hb dX12_ask_44 rfl hk) ?_
  refine rz_All_c (i := 25) (fun k J hk hJ => rz_getf_ok (pc := 45) (own := RX12) (ref := "ThreadJudgeModel") (C := RX12) (T := TX12) (N := 257) (ci := 14) (index := 1435) (f := 170) (t := 0) (Ts := Cond.code yX12_ask cX12_ask 2 (some .int) :: rz_TB) hx hb hts rz_in14 ho hK rfl (by decide) rfl (fun _ => rfl) (hw (i := 84) (j := 97) rfl rfl) (fun _ z => z) dX12_ask_45 hk) ?_
  refine rz_All_c (i := 26) (fun k J hk hJ => rz_iret_ok (pc := 48) hC dX12_ask_48) ?_
  exact trivial
theorem dX11_answer_0 : decode cX11_answer 0 = .ok (.aload_n 0, 1) := by decide +kernel
theorem dX11_answer_1 : decode cX11_answer 1 = .ok (.getfield 52, 3) := by decide +kernel
theorem dX11_answer_4 : decode cX11_answer 4 = .ok (.getfield 122, 3) := by decide +kernel
theorem dX11_answer_7 : decode cX11_answer 7 = .ok (.ifCond .eq 13, 3) := by decide +kernel
theorem dX11_answer_20 : decode cX11_answer 20 = .ok (.sipush (-1000), 3) := by decide +kernel
theorem dX11_answer_23 : decode cX11_answer 23 = .ok (.ireturn, 1) := by decide +kernel
def rpX11_answer : List Nat := [0, 1, 4, 7, 10, 20, 23]
noncomputable def rcX11_answer : List rz_B := [rz_aload 0, rz_getf (Nat.add (Nat.mul 256 13) 1) 9 rz_r, rz_getf (Nat.add (Nat.mul 256 4) 1) 1 rz_i, rz_ifeq 5, rz_no, rz_cst 4294966296, rz_iret]
noncomputable def rgX11_answer : rz_L → rz_M → rz_Z → Bool := rz_go rcX11_answer 1 1000000
def rrX11_answer : Room := { frames := 0, cells := 0, slots := 0, locals := 0 }
theorem rmX11_answer (l : Launch) {G : rz_G} (hG : rz_Gd G) (vs : rz_L) (M : rz_M) (Z : rz_Z) (hn : vs.length = 1) (h : rgX11_answer vs M Z = true) : Met l yX11_answer (Cond.code yX11_answer cX11_answer 1 (some .int) :: rz_TB) rrX11_answer (rz_Pre G vs M) (rz_Qi G M.2 Z) 0 0 (fun q => rz_b G ≤ q) := by
  obtain ⟨D, tc, ad, b, xs, rfl⟩ := id hG
  refine rz_body (pcs := rpX11_answer) (by decide) rfl (by rw [hn]; decide) h ?_
  intro p e R s m args below meth c hC
  obtain ⟨hx, hb, hml, hr, hlk, ho, hts, hKn, hRm⟩ := id hC
  obtain ⟨hK, hA, hSt⟩ := id hKn
  have hw : ∀ {i j : Nat} {ws : List Cond} {w : Cond}, rz_WW[i]? = some ws → ws[j]? = some w → w.before args s = true := fun h1 h2 => hts _ (List.mem_cons_of_mem _ (rz_mem h1 h2))
  refine rz_All_c (i := 0) (fun k J hk hJ => rz_aload_n_ok (pc := 0) hx hb dX11_answer_0 rfl hk) ?_
  refine rz_All_c (i := 1) (fun k J hk hJ => rz_getf_ok (pc := 1) (own := RX11) (ref := "ThreadJudge") (C := RX11) (T := TX11) (N := 16) (ci := 13) (index := 52) (f := 9) (t := 2) (Ts := Cond.code yX11_answer cX11_answer 1 (some .int) :: rz_TB) hx hb hts rz_in13 ho hK rfl (by decide) rfl (fun _ => rfl) (hw (i := 0) (j := 1) rfl rfl) (fun _ z => z) dX11_answer_1 hk) ?_
  refine rz_All_c (i := 2) (fun k J hk hJ => rz_getf_ok (pc := 4) (own := RX11) (ref := "ThreadJudge$Flow") (C := RX2) (T := TX2) (N := 22) (ci := 4) (index := 122) (f := 1) (t := 0) (Ts := Cond.code yX11_answer cX11_answer 1 (some .int) :: rz_TB) hx hb hts rz_in4 ho hK rfl (by decide) rfl (fun _ => rfl) (hw (i := 0) (j := 2) rfl rfl) (fun _ z => z) dX11_answer_4 hk) ?_
  refine rz_All_c (i := 3) (fun k J hk hJ => rz_ifeq_ok (pc := 7) hx hb dX11_answer_7 rfl hk (hJ 5)) ?_
  refine rz_All_c (i := 4) (fun k J hk hJ => rz_no_ok) ?_
  refine rz_All_c (i := 5) (fun k J hk hJ => rz_sipush_ok (pc := 20) hx hb dX11_answer_20 (by decide) hk) ?_
  refine rz_All_c (i := 6) (fun k J hk hJ => rz_iret_ok (pc := 23) hC dX11_answer_23) ?_
  exact trivial
theorem dX12_answer_0 : decode cX12_answer 0 = .ok (.aload_n 0, 1) := by decide +kernel
theorem dX12_answer_1 : decode cX12_answer 1 = .ok (.getfield 1004, 3) := by decide +kernel
theorem dX12_answer_4 : decode cX12_answer 4 = .ok (.ifCond .ne 7, 3) := by decide +kernel
theorem dX12_answer_7 : decode cX12_answer 7 = .ok (.sipush (-1000), 3) := by decide +kernel
theorem dX12_answer_10 : decode cX12_answer 10 = .ok (.ireturn, 1) := by decide +kernel
def rpX12_answer : List Nat := [0, 1, 4, 7, 10, 11]
noncomputable def rcX12_answer : List rz_B := [rz_aload 0, rz_getf (Nat.add (Nat.mul 256 14) 1) 103 rz_i, rz_ifne 5, rz_cst 4294966296, rz_iret, rz_no]
noncomputable def rgX12_answer : rz_L → rz_M → rz_Z → Bool := rz_go rcX12_answer 3 1000000
def rrX12_answer : Room := { frames := 0, cells := 0, slots := 0, locals := 0 }
theorem rmX12_answer (l : Launch) {G : rz_G} (hG : rz_Gd G) (vs : rz_L) (M : rz_M) (Z : rz_Z) (hn : vs.length = 1) (h : rgX12_answer vs M Z = true) : Met l yX12_answer (Cond.code yX12_answer cX12_answer 3 (some .int) :: rz_TB) rrX12_answer (rz_Pre G vs M) (rz_Qi G M.2 Z) 0 0 (fun q => rz_b G ≤ q) := by
  obtain ⟨D, tc, ad, b, xs, rfl⟩ := id hG
  refine rz_body (pcs := rpX12_answer) (by decide) rfl (by rw [hn]; decide) h ?_
  intro p e R s m args below meth c hC
  obtain ⟨hx, hb, hml, hr, hlk, ho, hts, hKn, hRm⟩ := id hC
  obtain ⟨hK, hA, hSt⟩ := id hKn
  have hw : ∀ {i j : Nat} {ws : List Cond} {w : Cond}, rz_WW[i]? = some ws → ws[j]? = some w → w.before args s = true := fun h1 h2 => hts _ (List.mem_cons_of_mem _ (rz_mem h1 h2))
  refine rz_All_c (i := 0) (fun k J hk hJ => rz_aload_n_ok (pc := 0) hx hb dX12_answer_0 rfl hk) ?_
  refine rz_All_c (i := 1) (fun k J hk hJ => rz_getf_ok (pc := 1) (own := RX12) (ref := "ThreadJudgeModel") (C := RX12) (T := TX12) (N := 257) (ci := 14) (index := 1004) (f := 103) (t := 0) (Ts := Cond.code yX12_answer cX12_answer 3 (some .int) :: rz_TB) hx hb hts rz_in14 ho hK rfl (by decide) rfl (fun _ => rfl) (hw (i := 32) (j := 1) rfl rfl) (fun _ z => z) dX12_answer_1 hk) ?_
  refine rz_All_c (i := 2) (fun k J hk hJ => rz_ifne_ok (pc := 4) hx hb dX12_answer_4 rfl hk (hJ 5)) ?_
  refine rz_All_c (i := 3) (fun k J hk hJ => rz_sipush_ok (pc := 7) hx hb dX12_answer_7 (by decide) hk) ?_
  refine rz_All_c (i := 4) (fun k J hk hJ => rz_iret_ok (pc := 10) hC dX12_answer_10) ?_
  refine rz_All_c (i := 5) (fun k J hk hJ => rz_no_ok) ?_
  exact trivial
theorem dX8_nth_0 : decode cX8_nth 0 = .ok (.iload_n 1, 1) := by decide +kernel
theorem dX8_nth_1 : decode cX8_nth 1 = .ok (.aload_n 0, 1) := by decide +kernel
theorem dX8_nth_2 : decode cX8_nth 2 = .ok (.getfield 54, 3) := by decide +kernel
theorem dX8_nth_5 : decode cX8_nth 5 = .ok (.if_icmp .ge 19, 3) := by decide +kernel
theorem dX8_nth_24 : decode cX8_nth 24 = .ok (.iconst (-1), 1) := by decide +kernel
theorem dX8_nth_25 : decode cX8_nth 25 = .ok (.ireturn, 1) := by decide +kernel
def rpX8_nth : List Nat := [0, 1, 2, 5, 8, 24, 25]
noncomputable def rcX8_nth : List rz_B := [rz_iload 1, rz_aload 0, rz_getf (Nat.add (Nat.mul 256 10) 1) 7 rz_i, rz_icmpgeK 5, rz_no, rz_cst 4294967295, rz_iret]
noncomputable def rgX8_nth : rz_L → rz_M → rz_Z → Bool := rz_go rcX8_nth 2 1000000
def rrX8_nth : Room := { frames := 0, cells := 0, slots := 0, locals := 0 }
theorem rmX8_nth (l : Launch) {G : rz_G} (hG : rz_Gd G) (vs : rz_L) (M : rz_M) (Z : rz_Z) (hn : vs.length = 2) (h : rgX8_nth vs M Z = true) : Met l yX8_nth (Cond.code yX8_nth cX8_nth 2 (some .int) :: rz_TB) rrX8_nth (rz_Pre G vs M) (rz_Qi G M.2 Z) 0 0 (fun q => rz_b G ≤ q) := by
  obtain ⟨D, tc, ad, b, xs, rfl⟩ := id hG
  refine rz_body (pcs := rpX8_nth) (by decide) rfl (by rw [hn]; decide) h ?_
  intro p e R s m args below meth c hC
  obtain ⟨hx, hb, hml, hr, hlk, ho, hts, hKn, hRm⟩ := id hC
  obtain ⟨hK, hA, hSt⟩ := id hKn
  have hw : ∀ {i j : Nat} {ws : List Cond} {w : Cond}, rz_WW[i]? = some ws → ws[j]? = some w → w.before args s = true := fun h1 h2 => hts _ (List.mem_cons_of_mem _ (rz_mem h1 h2))
  refine rz_All_c (i := 0) (fun k J hk hJ => rz_iload_n_ok (pc := 0) hx hb dX8_nth_0 rfl hk) ?_
  refine rz_All_c (i := 1) (fun k J hk hJ => rz_aload_n_ok (pc := 1) hx hb dX8_nth_1 rfl hk) ?_
  refine rz_All_c (i := 2) (fun k J hk hJ => rz_getf_ok (pc := 2) (own := RX8) (ref := "ThreadJudge$Question") (C := RX8) (T := TX8) (N := 18) (ci := 10) (index := 54) (f := 7) (t := 0) (Ts := Cond.code yX8_nth cX8_nth 2 (some .int) :: rz_TB) hx hb hts rz_in10 ho hK rfl (by decide) rfl (fun _ => rfl) (hw (i := 1) (j := 16) rfl rfl) (fun _ z => z) dX8_nth_2 hk) ?_
  refine rz_All_c (i := 3) (fun k J hk hJ => rz_icmpgeK_ok (pc := 5) hx hb hSt.2.2.2.2.2.2.2 dX8_nth_5 rfl hk (hJ 5)) ?_
  refine rz_All_c (i := 4) (fun k J hk hJ => rz_no_ok) ?_
  refine rz_All_c (i := 5) (fun k J hk hJ => rz_iconst_ok (pc := 24) hx hb dX8_nth_24 rfl hk) ?_
  refine rz_All_c (i := 6) (fun k J hk hJ => rz_iret_ok (pc := 25) hC dX8_nth_25) ?_
  exact trivial
theorem dX11_answered_0 : decode cX11_answered 0 = .ok (.iload_n 1, 1) := by decide +kernel
theorem dX11_answered_1 : decode cX11_answered 1 = .ok (.ifCond .ge 7, 3) := by decide +kernel
theorem dX11_answered_4 : decode cX11_answered 4 = .ok (.iconst (-1), 1) := by decide +kernel
theorem dX11_answered_5 : decode cX11_answered 5 = .ok (.goto 11, 3) := by decide +kernel
theorem dX11_answered_8 : decode cX11_answered 8 = .ok (.aload_n 0, 1) := by decide +kernel
theorem dX11_answered_9 : decode cX11_answered 9 = .ok (.getfield 79, 3) := by decide +kernel
theorem dX11_answered_12 : decode cX11_answered 12 = .ok (.iload_n 1, 1) := by decide +kernel
theorem dX11_answered_13 : decode cX11_answered 13 = .ok (.invokevirtual 326, 3) := by decide +kernel
theorem dX11_answered_16 : decode cX11_answered 16 = .ok (.ireturn, 1) := by decide +kernel
def rpX11_answered : List Nat := [0, 1, 4, 5, 8, 9, 12, 13, 16]
noncomputable def rcX11_answered : List rz_B := [rz_iload 1, rz_ifgeK 4, rz_cst 4294967295, rz_goto 8, rz_aload 0, rz_getf (Nat.add (Nat.mul 256 13) 1) 12 rz_r, rz_iload 1, rz_callV 1 (Nat.add (Nat.mul 256 10) 1) rgX8_nth, rz_iret]
noncomputable def rgX11_answered : rz_L → rz_M → rz_Z → Bool := rz_go rcX11_answered 2 1000000
def rrX11_answered : Room := { frames := 1, cells := 0, slots := 0, locals := 21 }
theorem rmX11_answered (l : Launch) {G : rz_G} (hG : rz_Gd G) (vs : rz_L) (M : rz_M) (Z : rz_Z) (hn : vs.length = 2) (h : rgX11_answered vs M Z = true) : Met l yX11_answered (Cond.code yX11_answered cX11_answered 2 (some .int) :: rz_TB) rrX11_answered (rz_Pre G vs M) (rz_Qi G M.2 Z) 0 0 (fun q => rz_b G ≤ q) := by
  obtain ⟨D, tc, ad, b, xs, rfl⟩ := id hG
  refine rz_body (pcs := rpX11_answered) (by decide) rfl (by rw [hn]; decide) h ?_
  intro p e R s m args below meth c hC
  obtain ⟨hx, hb, hml, hr, hlk, ho, hts, hKn, hRm⟩ := id hC
  obtain ⟨hK, hA, hSt⟩ := id hKn
  have hw : ∀ {i j : Nat} {ws : List Cond} {w : Cond}, rz_WW[i]? = some ws → ws[j]? = some w → w.before args s = true := fun h1 h2 => hts _ (List.mem_cons_of_mem _ (rz_mem h1 h2))
  refine rz_All_c (i := 0) (fun k J hk hJ => rz_iload_n_ok (pc := 0) hx hb dX11_answered_0 rfl hk) ?_
  refine rz_All_c (i := 1) (fun k J hk hJ => rz_ifgeK_ok (pc := 1) hx hb hSt.2.2.2.2.2.2.2 dX11_answered_1 rfl hk (hJ 4)) ?_
  refine rz_All_c (i := 2) (fun k J hk hJ => rz_iconst_ok (pc := 4) hx hb dX11_answered_4 rfl hk) ?_
  refine rz_All_c (i := 3) (fun k J hk hJ => rz_goto_ok (pc := 5) hx hb dX11_answered_5 rfl (hJ 8)) ?_
  refine rz_All_c (i := 4) (fun k J hk hJ => rz_aload_n_ok (pc := 8) hx hb dX11_answered_8 rfl hk) ?_
  refine rz_All_c (i := 5) (fun k J hk hJ => rz_getf_ok (pc := 9) (own := RX11) (ref := "ThreadJudge") (C := RX11) (T := TX11) (N := 16) (ci := 13) (index := 79) (f := 12) (t := 2) (Ts := Cond.code yX11_answered cX11_answered 2 (some .int) :: rz_TB) hx hb hts rz_in13 ho hK rfl (by decide) rfl (fun _ => rfl) (hw (i := 0) (j := 5) rfl rfl) (fun _ z => z) dX11_answered_9 hk) ?_
  refine rz_All_c (i := 6) (fun k J hk hJ => rz_iload_n_ok (pc := 12) hx hb dX11_answered_12 rfl hk) ?_
  refine rz_All_c (i := 7) (fun k J hk hJ => rz_callV_ok (pc := 13) (own := RX11) (C := RX8) (T0 := TX8) (N0 := 18) hC rfl (rmX8_nth l hG) (rz_cwV 1 hC rz_good (rz_mem (i := 84) (j := 102) rfl rfl) (rz_mem (i := 84) (j := 103) rfl rfl) (rz_mem (i := 84) (j := 104) rfl rfl) (rz_mem (i := 1) (j := 14) rfl rfl) (rz_mem (i := 84) (j := 100) rfl rfl) ⟨rfl, by decide, by decide, by decide +kernel⟩ rfl rfl ⟨by decide, by decide⟩) rfl dX11_answered_13 hk) ?_
  refine rz_All_c (i := 8) (fun k J hk hJ => rz_iret_ok (pc := 16) hC dX11_answered_16) ?_
  exact trivial
theorem dX12_answered_0 : decode cX12_answered 0 = .ok (.aload_n 0, 1) := by decide +kernel
theorem dX12_answered_1 : decode cX12_answered 1 = .ok (.getfield 387, 3) := by decide +kernel
theorem dX12_answered_4 : decode cX12_answered 4 = .ok (.iconst (-1), 1) := by decide +kernel
theorem dX12_answered_5 : decode cX12_answered 5 = .ok (.if_icmp .eq 7, 3) := by decide +kernel
theorem dX12_answered_12 : decode cX12_answered 12 = .ok (.iconst (-1), 1) := by decide +kernel
theorem dX12_answered_13 : decode cX12_answered 13 = .ok (.goto 16, 3) := by decide +kernel
theorem dX12_answered_29 : decode cX12_answered 29 = .ok (.ireturn, 1) := by decide +kernel
def rpX12_answered : List Nat := [0, 1, 4, 5, 8, 12, 13, 29]
noncomputable def rcX12_answered : List rz_B := [rz_aload 0, rz_getf (Nat.add (Nat.mul 256 14) 1) 173 rz_i, rz_cst 4294967295, rz_icmpeq 5, rz_no, rz_cst 4294967295, rz_goto 7, rz_iret]
noncomputable def rgX12_answered : rz_L → rz_M → rz_Z → Bool := rz_go rcX12_answered 2 1000000
def rrX12_answered : Room := { frames := 0, cells := 0, slots := 0, locals := 0 }
theorem rmX12_answered (l : Launch) {G : rz_G} (hG : rz_Gd G) (vs : rz_L) (M : rz_M) (Z : rz_Z) (hn : vs.length = 2) (h : rgX12_answered vs M Z = true) : Met l yX12_answered (Cond.code yX12_answered cX12_answered 2 (some .int) :: rz_TB) rrX12_answered (rz_Pre G vs M) (rz_Qi G M.2 Z) 0 0 (fun q => rz_b G ≤ q) := by
  obtain ⟨D, tc, ad, b, xs, rfl⟩ := id hG
  refine rz_body (pcs := rpX12_answered) (by decide) rfl (by rw [hn]; decide) h ?_
  intro p e R s m args below meth c hC
  obtain ⟨hx, hb, hml, hr, hlk, ho, hts, hKn, hRm⟩ := id hC
  obtain ⟨hK, hA, hSt⟩ := id hKn
  have hw : ∀ {i j : Nat} {ws : List Cond} {w : Cond}, rz_WW[i]? = some ws → ws[j]? = some w → w.before args s = true := fun h1 h2 => hts _ (List.mem_cons_of_mem _ (rz_mem h1 h2))
  refine rz_All_c (i := 0) (fun k J hk hJ => rz_aload_n_ok (pc := 0) hx hb dX12_answered_0 rfl hk) ?_
  refine rz_All_c (i := 1) (fun k J hk hJ => rz_getf_ok (pc := 1) (own := RX12) (ref := "ThreadJudgeModel") (C := RX12) (T := TX12) (N := 257) (ci := 14) (index := 387) (f := 173) (t := 0) (Ts := Cond.code yX12_answered cX12_answered 2 (some .int) :: rz_TB) hx hb hts rz_in14 ho hK rfl (by decide) rfl (fun _ => rfl) (hw (i := 32) (j := 3) rfl rfl) (fun _ z => z) dX12_answered_1 hk) ?_
  refine rz_All_c (i := 2) (fun k J hk hJ => rz_iconst_ok (pc := 4) hx hb dX12_answered_4 rfl hk) ?_
  refine rz_All_c (i := 3) (fun k J hk hJ => rz_icmpeq_ok (pc := 5) hx hb dX12_answered_5 rfl hk (hJ 5)) ?_
  refine rz_All_c (i := 4) (fun k J hk hJ => rz_no_ok) ?_
  refine rz_All_c (i := 5) (fun k J hk hJ => rz_iconst_ok (pc := 12) hx hb dX12_answered_12 rfl hk) ?_
  refine rz_All_c (i := 6) (fun k J hk hJ => rz_goto_ok (pc := 13) hx hb dX12_answered_13 rfl (hJ 7)) ?_
  refine rz_All_c (i := 7) (fun k J hk hJ => rz_iret_ok (pc := 29) hC dX12_answered_29) ?_
  exact trivial
theorem dX11_begin_0 : decode cX11_begin 0 = .ok (.aload_n 0, 1) := by decide +kernel
theorem dX11_begin_1 : decode cX11_begin 1 = .ok (.getfield 20, 3) := by decide +kernel
theorem dX11_begin_4 : decode cX11_begin 4 = .ok (.getfield 108, 3) := by decide +kernel
theorem dX11_begin_7 : decode cX11_begin 7 = .ok (.ifCond .ne 5, 3) := by decide +kernel
theorem dX11_begin_10 : decode cX11_begin 10 = .ok (.iconst 0, 1) := by decide +kernel
theorem dX11_begin_11 : decode cX11_begin 11 = .ok (.ireturn, 1) := by decide +kernel
def rpX11_begin : List Nat := [0, 1, 4, 7, 10, 11, 12]
noncomputable def rcX11_begin : List rz_B := [rz_aload 0, rz_getf (Nat.add (Nat.mul 256 13) 1) 5 rz_r, rz_getf (Nat.add (Nat.mul 256 9) 1) 0 rz_i, rz_ifne 6, rz_cst 0, rz_zret, rz_no]
noncomputable def rgX11_begin : rz_L → rz_M → rz_Z → Bool := rz_go rcX11_begin 1 1000000
def rrX11_begin : Room := { frames := 0, cells := 0, slots := 0, locals := 0 }
theorem rmX11_begin (l : Launch) {G : rz_G} (hG : rz_Gd G) (vs : rz_L) (M : rz_M) (Z : rz_Z) (hn : vs.length = 1) (h : rgX11_begin vs M Z = true) : Met l yX11_begin (Cond.code yX11_begin cX11_begin 1 (some .boolean) :: rz_TB) rrX11_begin (rz_Pre G vs M) (rz_Qi G M.2 Z) 0 0 (fun q => rz_b G ≤ q) := by
  obtain ⟨D, tc, ad, b, xs, rfl⟩ := id hG
  refine rz_body (pcs := rpX11_begin) (by decide) rfl (by rw [hn]; decide) h ?_
  intro p e R s m args below meth c hC
  obtain ⟨hx, hb, hml, hr, hlk, ho, hts, hKn, hRm⟩ := id hC
  obtain ⟨hK, hA, hSt⟩ := id hKn
  have hw : ∀ {i j : Nat} {ws : List Cond} {w : Cond}, rz_WW[i]? = some ws → ws[j]? = some w → w.before args s = true := fun h1 h2 => hts _ (List.mem_cons_of_mem _ (rz_mem h1 h2))
  refine rz_All_c (i := 0) (fun k J hk hJ => rz_aload_n_ok (pc := 0) hx hb dX11_begin_0 rfl hk) ?_
  refine rz_All_c (i := 1) (fun k J hk hJ => rz_getf_ok (pc := 1) (own := RX11) (ref := "ThreadJudge") (C := RX11) (T := TX11) (N := 16) (ci := 13) (index := 20) (f := 5) (t := 2) (Ts := Cond.code yX11_begin cX11_begin 1 (some .boolean) :: rz_TB) hx hb hts rz_in13 ho hK rfl (by decide) rfl (fun _ => rfl) (hw (i := 0) (j := 0) rfl rfl) (fun _ z => z) dX11_begin_1 hk) ?_
  refine rz_All_c (i := 2) (fun k J hk hJ => rz_getf_ok (pc := 4) (own := RX11) (ref := "ThreadJudge$Program") (C := RX7) (T := TX7) (N := 22) (ci := 9) (index := 108) (f := 0) (t := 0) (Ts := Cond.code yX11_begin cX11_begin 1 (some .boolean) :: rz_TB) hx hb hts rz_in9 ho hK rfl (by decide) rfl (fun _ => rfl) (hw (i := 0) (j := 20) rfl rfl) (fun _ z => z) dX11_begin_4 hk) ?_
  refine rz_All_c (i := 3) (fun k J hk hJ => rz_ifne_ok (pc := 7) hx hb dX11_begin_7 rfl hk (hJ 6)) ?_
  refine rz_All_c (i := 4) (fun k J hk hJ => rz_iconst_ok (pc := 10) hx hb dX11_begin_10 rfl hk) ?_
  refine rz_All_c (i := 5) (fun k J hk hJ => rz_zret_ok (pc := 11) hC dX11_begin_11) ?_
  refine rz_All_c (i := 6) (fun k J hk hJ => rz_no_ok) ?_
  exact trivial
theorem dX12_begin_0 : decode cX12_begin 0 = .ok (.aload_n 0, 1) := by decide +kernel
theorem dX12_begin_1 : decode cX12_begin 1 = .ok (.getfield 1001, 3) := by decide +kernel
theorem dX12_begin_4 : decode cX12_begin 4 = .ok (.ifCond .ne 5, 3) := by decide +kernel
theorem dX12_begin_7 : decode cX12_begin 7 = .ok (.iconst 0, 1) := by decide +kernel
theorem dX12_begin_8 : decode cX12_begin 8 = .ok (.ireturn, 1) := by decide +kernel
def rpX12_begin : List Nat := [0, 1, 4, 7, 8, 9]
noncomputable def rcX12_begin : List rz_B := [rz_aload 0, rz_getf (Nat.add (Nat.mul 256 14) 1) 99 rz_i, rz_ifne 5, rz_cst 0, rz_zret, rz_no]
noncomputable def rgX12_begin : rz_L → rz_M → rz_Z → Bool := rz_go rcX12_begin 3 1000000
def rrX12_begin : Room := { frames := 0, cells := 0, slots := 0, locals := 0 }
theorem rmX12_begin (l : Launch) {G : rz_G} (hG : rz_Gd G) (vs : rz_L) (M : rz_M) (Z : rz_Z) (hn : vs.length = 1) (h : rgX12_begin vs M Z = true) : Met l yX12_begin (Cond.code yX12_begin cX12_begin 3 (some .boolean) :: rz_TB) rrX12_begin (rz_Pre G vs M) (rz_Qi G M.2 Z) 0 0 (fun q => rz_b G ≤ q) := by
  obtain ⟨D, tc, ad, b, xs, rfl⟩ := id hG
  refine rz_body (pcs := rpX12_begin) (by decide) rfl (by rw [hn]; decide) h ?_
  intro p e R s m args below meth c hC
  obtain ⟨hx, hb, hml, hr, hlk, ho, hts, hKn, hRm⟩ := id hC
  obtain ⟨hK, hA, hSt⟩ := id hKn
  have hw : ∀ {i j : Nat} {ws : List Cond} {w : Cond}, rz_WW[i]? = some ws → ws[j]? = some w → w.before args s = true := fun h1 h2 => hts _ (List.mem_cons_of_mem _ (rz_mem h1 h2))
  refine rz_All_c (i := 0) (fun k J hk hJ => rz_aload_n_ok (pc := 0) hx hb dX12_begin_0 rfl hk) ?_
  refine rz_All_c (i := 1) (fun k J hk hJ => rz_getf_ok (pc := 1) (own := RX12) (ref := "ThreadJudgeModel") (C := RX12) (T := TX12) (N := 257) (ci := 14) (index := 1001) (f := 99) (t := 0) (Ts := Cond.code yX12_begin cX12_begin 3 (some .boolean) :: rz_TB) hx hb hts rz_in14 ho hK rfl (by decide) rfl (fun _ => rfl) (hw (i := 32) (j := 0) rfl rfl) (fun _ z => z) dX12_begin_1 hk) ?_
  refine rz_All_c (i := 2) (fun k J hk hJ => rz_ifne_ok (pc := 4) hx hb dX12_begin_4 rfl hk (hJ 5)) ?_
  refine rz_All_c (i := 3) (fun k J hk hJ => rz_iconst_ok (pc := 7) hx hb dX12_begin_7 rfl hk) ?_
  refine rz_All_c (i := 4) (fun k J hk hJ => rz_zret_ok (pc := 8) hC dX12_begin_8) ?_
  refine rz_All_c (i := 5) (fun k J hk hJ => rz_no_ok) ?_
  exact trivial
theorem dX11_step_0 : decode cX11_step 0 = .ok (.aload_n 0, 1) := by decide +kernel
theorem dX11_step_1 : decode cX11_step 1 = .ok (.getfield 104, 3) := by decide +kernel
theorem dX11_step_4 : decode cX11_step 4 = .ok (.getfield 125, 3) := by decide +kernel
theorem dX11_step_7 : decode cX11_step 7 = .ok (.ifCond .eq 14, 3) := by decide +kernel
theorem dX11_step_21 : decode cX11_step 21 = .ok (.iconst (-1), 1) := by decide +kernel
theorem dX11_step_22 : decode cX11_step 22 = .ok (.ireturn, 1) := by decide +kernel
def rpX11_step : List Nat := [0, 1, 4, 7, 10, 21, 22]
noncomputable def rcX11_step : List rz_B := [rz_aload 0, rz_getf (Nat.add (Nat.mul 256 13) 1) 15 rz_r, rz_getf (Nat.add (Nat.mul 256 7) 1) 5 rz_i, rz_ifeq 5, rz_no, rz_cst 4294967295, rz_iret]
noncomputable def rgX11_step : rz_L → rz_M → rz_Z → Bool := rz_go rcX11_step 2 1000000
def rrX11_step : Room := { frames := 0, cells := 0, slots := 0, locals := 0 }
theorem rmX11_step (l : Launch) {G : rz_G} (hG : rz_Gd G) (vs : rz_L) (M : rz_M) (Z : rz_Z) (hn : vs.length = 2) (h : rgX11_step vs M Z = true) : Met l yX11_step (Cond.code yX11_step cX11_step 2 (some .int) :: rz_TB) rrX11_step (rz_Pre G vs M) (rz_Qi G M.2 Z) 0 0 (fun q => rz_b G ≤ q) := by
  obtain ⟨D, tc, ad, b, xs, rfl⟩ := id hG
  refine rz_body (pcs := rpX11_step) (by decide) rfl (by rw [hn]; decide) h ?_
  intro p e R s m args below meth c hC
  obtain ⟨hx, hb, hml, hr, hlk, ho, hts, hKn, hRm⟩ := id hC
  obtain ⟨hK, hA, hSt⟩ := id hKn
  have hw : ∀ {i j : Nat} {ws : List Cond} {w : Cond}, rz_WW[i]? = some ws → ws[j]? = some w → w.before args s = true := fun h1 h2 => hts _ (List.mem_cons_of_mem _ (rz_mem h1 h2))
  refine rz_All_c (i := 0) (fun k J hk hJ => rz_aload_n_ok (pc := 0) hx hb dX11_step_0 rfl hk) ?_
  refine rz_All_c (i := 1) (fun k J hk hJ => rz_getf_ok (pc := 1) (own := RX11) (ref := "ThreadJudge") (C := RX11) (T := TX11) (N := 16) (ci := 13) (index := 104) (f := 15) (t := 2) (Ts := Cond.code yX11_step cX11_step 2 (some .int) :: rz_TB) hx hb hts rz_in13 ho hK rfl (by decide) rfl (fun _ => rfl) (hw (i := 0) (j := 3) rfl rfl) (fun _ z => z) dX11_step_1 hk) ?_
  refine rz_All_c (i := 2) (fun k J hk hJ => rz_getf_ok (pc := 4) (own := RX11) (ref := "ThreadJudge$Machine") (C := RX5) (T := TX5) (N := 19) (ci := 7) (index := 125) (f := 5) (t := 0) (Ts := Cond.code yX11_step cX11_step 2 (some .int) :: rz_TB) hx hb hts rz_in7 ho hK rfl (by decide) rfl (fun _ => rfl) (hw (i := 0) (j := 4) rfl rfl) (fun _ z => z) dX11_step_4 hk) ?_
  refine rz_All_c (i := 3) (fun k J hk hJ => rz_ifeq_ok (pc := 7) hx hb dX11_step_7 rfl hk (hJ 5)) ?_
  refine rz_All_c (i := 4) (fun k J hk hJ => rz_no_ok) ?_
  refine rz_All_c (i := 5) (fun k J hk hJ => rz_iconst_ok (pc := 21) hx hb dX11_step_21 rfl hk) ?_
  refine rz_All_c (i := 6) (fun k J hk hJ => rz_iret_ok (pc := 22) hC dX11_step_22) ?_
  exact trivial
theorem dX12_step_0 : decode cX12_step 0 = .ok (.aload_n 0, 1) := by decide +kernel
theorem dX12_step_1 : decode cX12_step 1 = .ok (.getfield 1007, 3) := by decide +kernel
theorem dX12_step_4 : decode cX12_step 4 = .ok (.ifCond .ne 5, 3) := by decide +kernel
theorem dX12_step_7 : decode cX12_step 7 = .ok (.iconst (-1), 1) := by decide +kernel
theorem dX12_step_8 : decode cX12_step 8 = .ok (.ireturn, 1) := by decide +kernel
def rpX12_step : List Nat := [0, 1, 4, 7, 8, 9]
noncomputable def rcX12_step : List rz_B := [rz_aload 0, rz_getf (Nat.add (Nat.mul 256 14) 1) 189 rz_i, rz_ifne 5, rz_cst 4294967295, rz_iret, rz_no]
noncomputable def rgX12_step : rz_L → rz_M → rz_Z → Bool := rz_go rcX12_step 2 1000000
def rrX12_step : Room := { frames := 0, cells := 0, slots := 0, locals := 0 }
theorem rmX12_step (l : Launch) {G : rz_G} (hG : rz_Gd G) (vs : rz_L) (M : rz_M) (Z : rz_Z) (hn : vs.length = 2) (h : rgX12_step vs M Z = true) : Met l yX12_step (Cond.code yX12_step cX12_step 2 (some .int) :: rz_TB) rrX12_step (rz_Pre G vs M) (rz_Qi G M.2 Z) 0 0 (fun q => rz_b G ≤ q) := by
  obtain ⟨D, tc, ad, b, xs, rfl⟩ := id hG
  refine rz_body (pcs := rpX12_step) (by decide) rfl (by rw [hn]; decide) h ?_
  intro p e R s m args below meth c hC
  obtain ⟨hx, hb, hml, hr, hlk, ho, hts, hKn, hRm⟩ := id hC
  obtain ⟨hK, hA, hSt⟩ := id hKn
  have hw : ∀ {i j : Nat} {ws : List Cond} {w : Cond}, rz_WW[i]? = some ws → ws[j]? = some w → w.before args s = true := fun h1 h2 => hts _ (List.mem_cons_of_mem _ (rz_mem h1 h2))
  refine rz_All_c (i := 0) (fun k J hk hJ => rz_aload_n_ok (pc := 0) hx hb dX12_step_0 rfl hk) ?_
  refine rz_All_c (i := 1) (fun k J hk hJ => rz_getf_ok (pc := 1) (own := RX12) (ref := "ThreadJudgeModel") (C := RX12) (T := TX12) (N := 257) (ci := 14) (index := 1007) (f := 189) (t := 0) (Ts := Cond.code yX12_step cX12_step 2 (some .int) :: rz_TB) hx hb hts rz_in14 ho hK rfl (by decide) rfl (fun _ => rfl) (hw (i := 32) (j := 2) rfl rfl) (fun _ z => z) dX12_step_1 hk) ?_
  refine rz_All_c (i := 2) (fun k J hk hJ => rz_ifne_ok (pc := 4) hx hb dX12_step_4 rfl hk (hJ 5)) ?_
  refine rz_All_c (i := 3) (fun k J hk hJ => rz_iconst_ok (pc := 7) hx hb dX12_step_7 rfl hk) ?_
  refine rz_All_c (i := 4) (fun k J hk hJ => rz_iret_ok (pc := 8) hC dX12_step_8) ?_
  refine rz_All_c (i := 5) (fun k J hk hJ => rz_no_ok) ?_
  exact trivial
theorem dX11_run_0 : decode cX11_run 0 = .ok (.aload_n 0, 1) := by decide +kernel
theorem dX11_run_1 : decode cX11_run 1 = .ok (.getfield 104, 3) := by decide +kernel
theorem dX11_run_4 : decode cX11_run 4 = .ok (.getfield 125, 3) := by decide +kernel
theorem dX11_run_7 : decode cX11_run 7 = .ok (.ifCond .eq 15, 3) := by decide +kernel
theorem dX11_run_22 : decode cX11_run 22 = .ok (.iconst (-1), 1) := by decide +kernel
theorem dX11_run_23 : decode cX11_run 23 = .ok (.ireturn, 1) := by decide +kernel
def rpX11_run : List Nat := [0, 1, 4, 7, 10, 22, 23]
noncomputable def rcX11_run : List rz_B := [rz_aload 0, rz_getf (Nat.add (Nat.mul 256 13) 1) 15 rz_r, rz_getf (Nat.add (Nat.mul 256 7) 1) 5 rz_i, rz_ifeq 5, rz_no, rz_cst 4294967295, rz_iret]
noncomputable def rgX11_run : rz_L → rz_M → rz_Z → Bool := rz_go rcX11_run 5 1000000
def rrX11_run : Room := { frames := 0, cells := 0, slots := 0, locals := 0 }
theorem rmX11_run (l : Launch) {G : rz_G} (hG : rz_Gd G) (vs : rz_L) (M : rz_M) (Z : rz_Z) (hn : vs.length = 3) (h : rgX11_run vs M Z = true) : Met l yX11_run (Cond.code yX11_run cX11_run 5 (some .int) :: rz_TB) rrX11_run (rz_Pre G vs M) (rz_Qi G M.2 Z) 0 0 (fun q => rz_b G ≤ q) := by
  obtain ⟨D, tc, ad, b, xs, rfl⟩ := id hG
  refine rz_body (pcs := rpX11_run) (by decide) rfl (by rw [hn]; decide) h ?_
  intro p e R s m args below meth c hC
  obtain ⟨hx, hb, hml, hr, hlk, ho, hts, hKn, hRm⟩ := id hC
  obtain ⟨hK, hA, hSt⟩ := id hKn
  have hw : ∀ {i j : Nat} {ws : List Cond} {w : Cond}, rz_WW[i]? = some ws → ws[j]? = some w → w.before args s = true := fun h1 h2 => hts _ (List.mem_cons_of_mem _ (rz_mem h1 h2))
  refine rz_All_c (i := 0) (fun k J hk hJ => rz_aload_n_ok (pc := 0) hx hb dX11_run_0 rfl hk) ?_
  refine rz_All_c (i := 1) (fun k J hk hJ => rz_getf_ok (pc := 1) (own := RX11) (ref := "ThreadJudge") (C := RX11) (T := TX11) (N := 16) (ci := 13) (index := 104) (f := 15) (t := 2) (Ts := Cond.code yX11_run cX11_run 5 (some .int) :: rz_TB) hx hb hts rz_in13 ho hK rfl (by decide) rfl (fun _ => rfl) (hw (i := 0) (j := 3) rfl rfl) (fun _ z => z) dX11_run_1 hk) ?_
  refine rz_All_c (i := 2) (fun k J hk hJ => rz_getf_ok (pc := 4) (own := RX11) (ref := "ThreadJudge$Machine") (C := RX5) (T := TX5) (N := 19) (ci := 7) (index := 125) (f := 5) (t := 0) (Ts := Cond.code yX11_run cX11_run 5 (some .int) :: rz_TB) hx hb hts rz_in7 ho hK rfl (by decide) rfl (fun _ => rfl) (hw (i := 0) (j := 4) rfl rfl) (fun _ z => z) dX11_run_4 hk) ?_
  refine rz_All_c (i := 3) (fun k J hk hJ => rz_ifeq_ok (pc := 7) hx hb dX11_run_7 rfl hk (hJ 5)) ?_
  refine rz_All_c (i := 4) (fun k J hk hJ => rz_no_ok) ?_
  refine rz_All_c (i := 5) (fun k J hk hJ => rz_iconst_ok (pc := 22) hx hb dX11_run_22 rfl hk) ?_
  refine rz_All_c (i := 6) (fun k J hk hJ => rz_iret_ok (pc := 23) hC dX11_run_23) ?_
  exact trivial
theorem dX12_run_0 : decode cX12_run 0 = .ok (.aload_n 0, 1) := by decide +kernel
theorem dX12_run_1 : decode cX12_run 1 = .ok (.getfield 1007, 3) := by decide +kernel
theorem dX12_run_4 : decode cX12_run 4 = .ok (.ifCond .eq 15, 3) := by decide +kernel
theorem dX12_run_19 : decode cX12_run 19 = .ok (.iconst (-1), 1) := by decide +kernel
theorem dX12_run_20 : decode cX12_run 20 = .ok (.ireturn, 1) := by decide +kernel
def rpX12_run : List Nat := [0, 1, 4, 7, 19, 20]
noncomputable def rcX12_run : List rz_B := [rz_aload 0, rz_getf (Nat.add (Nat.mul 256 14) 1) 189 rz_i, rz_ifeq 4, rz_no, rz_cst 4294967295, rz_iret]
noncomputable def rgX12_run : rz_L → rz_M → rz_Z → Bool := rz_go rcX12_run 8 1000000
def rrX12_run : Room := { frames := 0, cells := 0, slots := 0, locals := 0 }
theorem rmX12_run (l : Launch) {G : rz_G} (hG : rz_Gd G) (vs : rz_L) (M : rz_M) (Z : rz_Z) (hn : vs.length = 3) (h : rgX12_run vs M Z = true) : Met l yX12_run (Cond.code yX12_run cX12_run 8 (some .int) :: rz_TB) rrX12_run (rz_Pre G vs M) (rz_Qi G M.2 Z) 0 0 (fun q => rz_b G ≤ q) := by
  obtain ⟨D, tc, ad, b, xs, rfl⟩ := id hG
  refine rz_body (pcs := rpX12_run) (by decide) rfl (by rw [hn]; decide) h ?_
  intro p e R s m args below meth c hC
  obtain ⟨hx, hb, hml, hr, hlk, ho, hts, hKn, hRm⟩ := id hC
  obtain ⟨hK, hA, hSt⟩ := id hKn
  have hw : ∀ {i j : Nat} {ws : List Cond} {w : Cond}, rz_WW[i]? = some ws → ws[j]? = some w → w.before args s = true := fun h1 h2 => hts _ (List.mem_cons_of_mem _ (rz_mem h1 h2))
  refine rz_All_c (i := 0) (fun k J hk hJ => rz_aload_n_ok (pc := 0) hx hb dX12_run_0 rfl hk) ?_
  refine rz_All_c (i := 1) (fun k J hk hJ => rz_getf_ok (pc := 1) (own := RX12) (ref := "ThreadJudgeModel") (C := RX12) (T := TX12) (N := 257) (ci := 14) (index := 1007) (f := 189) (t := 0) (Ts := Cond.code yX12_run cX12_run 8 (some .int) :: rz_TB) hx hb hts rz_in14 ho hK rfl (by decide) rfl (fun _ => rfl) (hw (i := 32) (j := 2) rfl rfl) (fun _ z => z) dX12_run_1 hk) ?_
  refine rz_All_c (i := 2) (fun k J hk hJ => rz_ifeq_ok (pc := 4) hx hb dX12_run_4 rfl hk (hJ 4)) ?_
  refine rz_All_c (i := 3) (fun k J hk hJ => rz_no_ok) ?_
  refine rz_All_c (i := 4) (fun k J hk hJ => rz_iconst_ok (pc := 19) hx hb dX12_run_19 rfl hk) ?_
  refine rz_All_c (i := 5) (fun k J hk hJ => rz_iret_ok (pc := 20) hC dX12_run_20) ?_
  exact trivial
theorem dX11_state_0 : decode cX11_state 0 = .ok (.aload_n 0, 1) := by decide +kernel
theorem dX11_state_1 : decode cX11_state 1 = .ok (.getfield 104, 3) := by decide +kernel
theorem dX11_state_4 : decode cX11_state 4 = .ok (.getfield 125, 3) := by decide +kernel
theorem dX11_state_7 : decode cX11_state 7 = .ok (.ifCond .eq 18, 3) := by decide +kernel
theorem dX11_state_25 : decode cX11_state 25 = .ok (.iconst (-1), 1) := by decide +kernel
theorem dX11_state_26 : decode cX11_state 26 = .ok (.ireturn, 1) := by decide +kernel
def rpX11_state : List Nat := [0, 1, 4, 7, 10, 25, 26]
noncomputable def rcX11_state : List rz_B := [rz_aload 0, rz_getf (Nat.add (Nat.mul 256 13) 1) 15 rz_r, rz_getf (Nat.add (Nat.mul 256 7) 1) 5 rz_i, rz_ifeq 5, rz_no, rz_cst 4294967295, rz_iret]
noncomputable def rgX11_state : rz_L → rz_M → rz_Z → Bool := rz_go rcX11_state 3 1000000
def rrX11_state : Room := { frames := 0, cells := 0, slots := 0, locals := 0 }
theorem rmX11_state (l : Launch) {G : rz_G} (hG : rz_Gd G) (vs : rz_L) (M : rz_M) (Z : rz_Z) (hn : vs.length = 3) (h : rgX11_state vs M Z = true) : Met l yX11_state (Cond.code yX11_state cX11_state 3 (some .int) :: rz_TB) rrX11_state (rz_Pre G vs M) (rz_Qi G M.2 Z) 0 0 (fun q => rz_b G ≤ q) := by
  obtain ⟨D, tc, ad, b, xs, rfl⟩ := id hG
  refine rz_body (pcs := rpX11_state) (by decide) rfl (by rw [hn]; decide) h ?_
  intro p e R s m args below meth c hC
  obtain ⟨hx, hb, hml, hr, hlk, ho, hts, hKn, hRm⟩ := id hC
  obtain ⟨hK, hA, hSt⟩ := id hKn
  have hw : ∀ {i j : Nat} {ws : List Cond} {w : Cond}, rz_WW[i]? = some ws → ws[j]? = some w → w.before args s = true := fun h1 h2 => hts _ (List.mem_cons_of_mem _ (rz_mem h1 h2))
  refine rz_All_c (i := 0) (fun k J hk hJ => rz_aload_n_ok (pc := 0) hx hb dX11_state_0 rfl hk) ?_
  refine rz_All_c (i := 1) (fun k J hk hJ => rz_getf_ok (pc := 1) (own := RX11) (ref := "ThreadJudge") (C := RX11) (T := TX11) (N := 16) (ci := 13) (index := 104) (f := 15) (t := 2) (Ts := Cond.code yX11_state cX11_state 3 (some .int) :: rz_TB) hx hb hts rz_in13 ho hK rfl (by decide) rfl (fun _ => rfl) (hw (i := 0) (j := 3) rfl rfl) (fun _ z => z) dX11_state_1 hk) ?_
  refine rz_All_c (i := 2) (fun k J hk hJ => rz_getf_ok (pc := 4) (own := RX11) (ref := "ThreadJudge$Machine") (C := RX5) (T := TX5) (N := 19) (ci := 7) (index := 125) (f := 5) (t := 0) (Ts := Cond.code yX11_state cX11_state 3 (some .int) :: rz_TB) hx hb hts rz_in7 ho hK rfl (by decide) rfl (fun _ => rfl) (hw (i := 0) (j := 4) rfl rfl) (fun _ z => z) dX11_state_4 hk) ?_
  refine rz_All_c (i := 3) (fun k J hk hJ => rz_ifeq_ok (pc := 7) hx hb dX11_state_7 rfl hk (hJ 5)) ?_
  refine rz_All_c (i := 4) (fun k J hk hJ => rz_no_ok) ?_
  refine rz_All_c (i := 5) (fun k J hk hJ => rz_iconst_ok (pc := 25) hx hb dX11_state_25 rfl hk) ?_
  refine rz_All_c (i := 6) (fun k J hk hJ => rz_iret_ok (pc := 26) hC dX11_state_26) ?_
  exact trivial
theorem dX12_noThread_0 : decode cX12_noThread 0 = .ok (.aload_n 0, 1) := by decide +kernel
theorem dX12_noThread_1 : decode cX12_noThread 1 = .ok (.getfield 1007, 3) := by decide +kernel
theorem dX12_noThread_4 : decode cX12_noThread 4 = .ok (.ifCond .eq 15, 3) := by decide +kernel
theorem dX12_noThread_19 : decode cX12_noThread 19 = .ok (.iconst 1, 1) := by decide +kernel
theorem dX12_noThread_20 : decode cX12_noThread 20 = .ok (.goto 4, 3) := by decide +kernel
theorem dX12_noThread_24 : decode cX12_noThread 24 = .ok (.ireturn, 1) := by decide +kernel
def rpX12_noThread : List Nat := [0, 1, 4, 7, 19, 20, 24]
noncomputable def rcX12_noThread : List rz_B := [rz_aload 0, rz_getf (Nat.add (Nat.mul 256 14) 1) 189 rz_i, rz_ifeq 4, rz_no, rz_cst 1, rz_goto 6, rz_zret]
noncomputable def rgX12_noThread : rz_L → rz_M → rz_Z → Bool := rz_go rcX12_noThread 2 1000000
def rrX12_noThread : Room := { frames := 0, cells := 0, slots := 0, locals := 0 }
theorem rmX12_noThread (l : Launch) {G : rz_G} (hG : rz_Gd G) (vs : rz_L) (M : rz_M) (Z : rz_Z) (hn : vs.length = 2) (h : rgX12_noThread vs M Z = true) : Met l yX12_noThread (Cond.code yX12_noThread cX12_noThread 2 (some .boolean) :: rz_TB) rrX12_noThread (rz_Pre G vs M) (rz_Qi G M.2 Z) 0 0 (fun q => rz_b G ≤ q) := by
  obtain ⟨D, tc, ad, b, xs, rfl⟩ := id hG
  refine rz_body (pcs := rpX12_noThread) (by decide) rfl (by rw [hn]; decide) h ?_
  intro p e R s m args below meth c hC
  obtain ⟨hx, hb, hml, hr, hlk, ho, hts, hKn, hRm⟩ := id hC
  obtain ⟨hK, hA, hSt⟩ := id hKn
  have hw : ∀ {i j : Nat} {ws : List Cond} {w : Cond}, rz_WW[i]? = some ws → ws[j]? = some w → w.before args s = true := fun h1 h2 => hts _ (List.mem_cons_of_mem _ (rz_mem h1 h2))
  refine rz_All_c (i := 0) (fun k J hk hJ => rz_aload_n_ok (pc := 0) hx hb dX12_noThread_0 rfl hk) ?_
  refine rz_All_c (i := 1) (fun k J hk hJ => rz_getf_ok (pc := 1) (own := RX12) (ref := "ThreadJudgeModel") (C := RX12) (T := TX12) (N := 257) (ci := 14) (index := 1007) (f := 189) (t := 0) (Ts := Cond.code yX12_noThread cX12_noThread 2 (some .boolean) :: rz_TB) hx hb hts rz_in14 ho hK rfl (by decide) rfl (fun _ => rfl) (hw (i := 32) (j := 2) rfl rfl) (fun _ z => z) dX12_noThread_1 hk) ?_
  refine rz_All_c (i := 2) (fun k J hk hJ => rz_ifeq_ok (pc := 4) hx hb dX12_noThread_4 rfl hk (hJ 4)) ?_
  refine rz_All_c (i := 3) (fun k J hk hJ => rz_no_ok) ?_
  refine rz_All_c (i := 4) (fun k J hk hJ => rz_iconst_ok (pc := 19) hx hb dX12_noThread_19 rfl hk) ?_
  refine rz_All_c (i := 5) (fun k J hk hJ => rz_goto_ok (pc := 20) hx hb dX12_noThread_20 rfl (hJ 6)) ?_
  refine rz_All_c (i := 6) (fun k J hk hJ => rz_zret_ok (pc := 24) hC dX12_noThread_24) ?_
  exact trivial
theorem dX12_state_0 : decode cX12_state 0 = .ok (.aload_n 0, 1) := by decide +kernel
theorem dX12_state_1 : decode cX12_state 1 = .ok (.iload_n 1, 1) := by decide +kernel
theorem dX12_state_2 : decode cX12_state 2 = .ok (.invokevirtual 1882, 3) := by decide +kernel
theorem dX12_state_5 : decode cX12_state 5 = .ok (.ifCond .ne 12, 3) := by decide +kernel
theorem dX12_state_17 : decode cX12_state 17 = .ok (.iconst (-1), 1) := by decide +kernel
theorem dX12_state_18 : decode cX12_state 18 = .ok (.ireturn, 1) := by decide +kernel
def rpX12_state : List Nat := [0, 1, 2, 5, 8, 17, 18]
noncomputable def rcX12_state : List rz_B := [rz_aload 0, rz_iload 1, rz_callV 1 (Nat.add (Nat.mul 256 14) 1) rgX12_noThread, rz_ifne 5, rz_no, rz_cst 4294967295, rz_iret]
noncomputable def rgX12_state : rz_L → rz_M → rz_Z → Bool := rz_go rcX12_state 4 1000000
def rrX12_state : Room := { frames := 1, cells := 0, slots := 0, locals := 21 }
theorem rmX12_state (l : Launch) {G : rz_G} (hG : rz_Gd G) (vs : rz_L) (M : rz_M) (Z : rz_Z) (hn : vs.length = 3) (h : rgX12_state vs M Z = true) : Met l yX12_state (Cond.code yX12_state cX12_state 4 (some .int) :: rz_TB) rrX12_state (rz_Pre G vs M) (rz_Qi G M.2 Z) 0 0 (fun q => rz_b G ≤ q) := by
  obtain ⟨D, tc, ad, b, xs, rfl⟩ := id hG
  refine rz_body (pcs := rpX12_state) (by decide) rfl (by rw [hn]; decide) h ?_
  intro p e R s m args below meth c hC
  obtain ⟨hx, hb, hml, hr, hlk, ho, hts, hKn, hRm⟩ := id hC
  obtain ⟨hK, hA, hSt⟩ := id hKn
  have hw : ∀ {i j : Nat} {ws : List Cond} {w : Cond}, rz_WW[i]? = some ws → ws[j]? = some w → w.before args s = true := fun h1 h2 => hts _ (List.mem_cons_of_mem _ (rz_mem h1 h2))
  refine rz_All_c (i := 0) (fun k J hk hJ => rz_aload_n_ok (pc := 0) hx hb dX12_state_0 rfl hk) ?_
  refine rz_All_c (i := 1) (fun k J hk hJ => rz_iload_n_ok (pc := 1) hx hb dX12_state_1 rfl hk) ?_
  refine rz_All_c (i := 2) (fun k J hk hJ => rz_callV_ok (pc := 2) (own := RX12) (C := RX12) (T0 := TX12) (N0 := 257) hC rfl (rmX12_noThread l hG) (rz_cwV 1 hC rz_good (rz_mem (i := 84) (j := 115) rfl rfl) (rz_mem (i := 84) (j := 116) rfl rfl) (rz_mem (i := 84) (j := 117) rfl rfl) (rz_mem (i := 32) (j := 8) rfl rfl) (rz_mem (i := 84) (j := 113) rfl rfl) ⟨rfl, by decide, by decide, by decide +kernel⟩ rfl rfl ⟨by decide, by decide⟩) rfl dX12_state_2 hk) ?_
  refine rz_All_c (i := 3) (fun k J hk hJ => rz_ifne_ok (pc := 5) hx hb dX12_state_5 rfl hk (hJ 5)) ?_
  refine rz_All_c (i := 4) (fun k J hk hJ => rz_no_ok) ?_
  refine rz_All_c (i := 5) (fun k J hk hJ => rz_iconst_ok (pc := 17) hx hb dX12_state_17 rfl hk) ?_
  refine rz_All_c (i := 6) (fun k J hk hJ => rz_iret_ok (pc := 18) hC dX12_state_18) ?_
  exact trivial
