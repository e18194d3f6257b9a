/-! Methods: handlers, facts, contracts. -/
theorem dX11_local_0 : decode cX11_local 0 = .ok (.aload_n 0, 1) := by decide +kernel
theorem dX11_local_1 : decode cX11_local 1 = .ok (.getfield 104, 3) := by decide +kernel
theorem dX11_local_4 : decode cX11_local 4 = .ok (.getfield 125, 3) := by decide +kernel
theorem dX11_local_7 : decode cX11_local 7 = .ok (.ifCond .eq 18, 3) := by decide +kernel
theorem dX11_local_25 : decode cX11_local 25 = .ok (.iconst (-1), 1) := by decide +kernel
theorem dX11_local_26 : decode cX11_local 26 = .ok (.ireturn, 1) := by decide +kernel
def rpX11_local : List Nat := [0, 1, 4, 7, 10, 25, 26]
noncomputable def rcX11_local : List rz_B := [rz_aload 0, rz_getf (Nat.add (Nat.mul 256 13) 1) 15 rz_r, rz_getf (Nat.add (Nat.mul 256 7) 1) 5 rz_i, rz_ifeq 5, rz_no, rz_cst 4294967295, rz_iret]
noncomputable def rgX11_local : rz_L → rz_M → rz_Z → Bool := rz_go rcX11_local 3 1000000
def rrX11_local : Room := { frames := 0, cells := 0, slots := 0, locals := 0 }
theorem rmX11_local (l : Launch) {G : rz_G} (hG : rz_Gd G) (vs : rz_L) (M : rz_M) (Z : rz_Z) (hn : vs.length = 3) (h : rgX11_local vs M Z = true) : Met l yX11_local (Cond.code yX11_local cX11_local 3 (some .int) :: rz_TB) rrX11_local (rz_Pre G vs M) (rz_Qi G M.2 Z) 0 0 (fun q => rz_b G ≤ q) := by
  obtain ⟨D, tc, ad, b, xs, rfl⟩ := id hG
  refine rz_body (pcs := rpX11_local) (by decide) rfl (by rw [hn]; decide) h ?_
  intro p e R s m args below meth c hC
  obtain ⟨hx, hb, hml, hr, hlk, ho, hts, hKn, hRm⟩ := id hC
  obtain ⟨hK, hA, hSt⟩ := id hKn
  have hw : ∀ {i j : Nat} {ws : List Cond} {w : Cond}, rz_WW[i]? = some ws → ws[j]? = some w → w.before args s = true := fun h1 h2 => hts _ (List.mem_cons_of_mem _ (rz_mem h1 h2))
  refine rz_All_c (i := 0) (fun k J hk hJ => rz_aload_n_ok (pc := 0) hx hb dX11_local_0 rfl hk) ?_
  refine rz_All_c (i := 1) (fun k J hk hJ => rz_getf_ok (pc := 1) (own := RX11) (ref := "ThreadJudge") (C := RX11) (T := TX11) (N := 16) (ci := 13) (index := 104) (f := 15) (t := 2) (Ts := Cond.code yX11_local cX11_local 3 (some .int) :: rz_TB) hx hb hts rz_in13 ho hK rfl (by decide) rfl (fun _ => rfl) (hw (i := 0) (j := 3) rfl rfl) (fun _ z => z) dX11_local_1 hk) ?_
  refine rz_All_c (i := 2) (fun k J hk hJ => rz_getf_ok (pc := 4) (own := RX11) (ref := "ThreadJudge$Machine") (C := RX5) (T := TX5) (N := 19) (ci := 7) (index := 125) (f := 5) (t := 0) (Ts := Cond.code yX11_local cX11_local 3 (some .int) :: rz_TB) hx hb hts rz_in7 ho hK rfl (by decide) rfl (fun _ => rfl) (hw (i := 0) (j := 4) rfl rfl) (fun _ z => z) dX11_local_4 hk) ?_
  refine rz_All_c (i := 3) (fun k J hk hJ => rz_ifeq_ok (pc := 7) hx hb dX11_local_7 rfl hk (hJ 5)) ?_
  refine rz_All_c (i := 4) (fun k J hk hJ => rz_no_ok) ?_
  refine rz_All_c (i := 5) (fun k J hk hJ => rz_iconst_ok (pc := 25) hx hb dX11_local_25 rfl hk) ?_
  refine rz_All_c (i := 6) (fun k J hk hJ => rz_iret_ok (pc := 26) hC dX11_local_26) ?_
  exact trivial
theorem dX12_local_0 : decode cX12_local 0 = .ok (.aload_n 0, 1) := by decide +kernel
theorem dX12_local_1 : decode cX12_local 1 = .ok (.iload_n 1, 1) := by decide +kernel
theorem dX12_local_2 : decode cX12_local 2 = .ok (.invokevirtual 1882, 3) := by decide +kernel
theorem dX12_local_5 : decode cX12_local 5 = .ok (.ifCond .ne 33, 3) := by decide +kernel
theorem dX12_local_38 : decode cX12_local 38 = .ok (.iconst (-1), 1) := by decide +kernel
theorem dX12_local_39 : decode cX12_local 39 = .ok (.ireturn, 1) := by decide +kernel
def rpX12_local : List Nat := [0, 1, 2, 5, 8, 38, 39]
noncomputable def rcX12_local : List rz_B := [rz_aload 0, rz_iload 1, rz_callV 1 (Nat.add (Nat.mul 256 14) 1) rgX12_noThread, rz_ifne 5, rz_no, rz_cst 4294967295, rz_iret]
noncomputable def rgX12_local : rz_L → rz_M → rz_Z → Bool := rz_go rcX12_local 3 1000000
def rrX12_local : Room := { frames := 1, cells := 0, slots := 0, locals := 21 }
theorem rmX12_local (l : Launch) {G : rz_G} (hG : rz_Gd G) (vs : rz_L) (M : rz_M) (Z : rz_Z) (hn : vs.length = 3) (h : rgX12_local vs M Z = true) : Met l yX12_local (Cond.code yX12_local cX12_local 3 (some .int) :: rz_TB) rrX12_local (rz_Pre G vs M) (rz_Qi G M.2 Z) 0 0 (fun q => rz_b G ≤ q) := by
  obtain ⟨D, tc, ad, b, xs, rfl⟩ := id hG
  refine rz_body (pcs := rpX12_local) (by decide) rfl (by rw [hn]; decide) h ?_
  intro p e R s m args below meth c hC
  obtain ⟨hx, hb, hml, hr, hlk, ho, hts, hKn, hRm⟩ := id hC
  obtain ⟨hK, hA, hSt⟩ := id hKn
  have hw : ∀ {i j : Nat} {ws : List Cond} {w : Cond}, rz_WW[i]? = some ws → ws[j]? = some w → w.before args s = true := fun h1 h2 => hts _ (List.mem_cons_of_mem _ (rz_mem h1 h2))
  refine rz_All_c (i := 0) (fun k J hk hJ => rz_aload_n_ok (pc := 0) hx hb dX12_local_0 rfl hk) ?_
  refine rz_All_c (i := 1) (fun k J hk hJ => rz_iload_n_ok (pc := 1) hx hb dX12_local_1 rfl hk) ?_
  refine rz_All_c (i := 2) (fun k J hk hJ => rz_callV_ok (pc := 2) (own := RX12) (C := RX12) (T0 := TX12) (N0 := 257) hC rfl (rmX12_noThread l hG) (rz_cwV 1 hC rz_good (rz_mem (i := 84) (j := 115) rfl rfl) (rz_mem (i := 84) (j := 116) rfl rfl) (rz_mem (i := 84) (j := 117) rfl rfl) (rz_mem (i := 32) (j := 8) rfl rfl) (rz_mem (i := 84) (j := 113) rfl rfl) ⟨rfl, by decide, by decide, by decide +kernel⟩ rfl rfl ⟨by decide, by decide⟩) rfl dX12_local_2 hk) ?_
  refine rz_All_c (i := 3) (fun k J hk hJ => rz_ifne_ok (pc := 5) hx hb dX12_local_5 rfl hk (hJ 5)) ?_
  refine rz_All_c (i := 4) (fun k J hk hJ => rz_no_ok) ?_
  refine rz_All_c (i := 5) (fun k J hk hJ => rz_iconst_ok (pc := 38) hx hb dX12_local_38 rfl hk) ?_
  refine rz_All_c (i := 6) (fun k J hk hJ => rz_iret_ok (pc := 39) hC dX12_local_39) ?_
  exact trivial
theorem dX11_thing_0 : decode cX11_thing 0 = .ok (.aload_n 0, 1) := by decide +kernel
theorem dX11_thing_1 : decode cX11_thing 1 = .ok (.getfield 104, 3) := by decide +kernel
theorem dX11_thing_4 : decode cX11_thing 4 = .ok (.getfield 125, 3) := by decide +kernel
theorem dX11_thing_7 : decode cX11_thing 7 = .ok (.ifCond .eq 18, 3) := by decide +kernel
theorem dX11_thing_25 : decode cX11_thing 25 = .ok (.iconst (-1), 1) := by decide +kernel
theorem dX11_thing_26 : decode cX11_thing 26 = .ok (.ireturn, 1) := by decide +kernel
def rpX11_thing : List Nat := [0, 1, 4, 7, 10, 25, 26]
noncomputable def rcX11_thing : List rz_B := [rz_aload 0, rz_getf (Nat.add (Nat.mul 256 13) 1) 15 rz_r, rz_getf (Nat.add (Nat.mul 256 7) 1) 5 rz_i, rz_ifeq 5, rz_no, rz_cst 4294967295, rz_iret]
noncomputable def rgX11_thing : rz_L → rz_M → rz_Z → Bool := rz_go rcX11_thing 3 1000000
def rrX11_thing : Room := { frames := 0, cells := 0, slots := 0, locals := 0 }
theorem rmX11_thing (l : Launch) {G : rz_G} (hG : rz_Gd G) (vs : rz_L) (M : rz_M) (Z : rz_Z) (hn : vs.length = 3) (h : rgX11_thing vs M Z = true) : Met l yX11_thing (Cond.code yX11_thing cX11_thing 3 (some .int) :: rz_TB) rrX11_thing (rz_Pre G vs M) (rz_Qi G M.2 Z) 0 0 (fun q => rz_b G ≤ q) := by
  obtain ⟨D, tc, ad, b, xs, rfl⟩ := id hG
  refine rz_body (pcs := rpX11_thing) (by decide) rfl (by rw [hn]; decide) h ?_
  intro p e R s m args below meth c hC
  obtain ⟨hx, hb, hml, hr, hlk, ho, hts, hKn, hRm⟩ := id hC
  obtain ⟨hK, hA, hSt⟩ := id hKn
  have hw : ∀ {i j : Nat} {ws : List Cond} {w : Cond}, rz_WW[i]? = some ws → ws[j]? = some w → w.before args s = true := fun h1 h2 => hts _ (List.mem_cons_of_mem _ (rz_mem h1 h2))
  refine rz_All_c (i := 0) (fun k J hk hJ => rz_aload_n_ok (pc := 0) hx hb dX11_thing_0 rfl hk) ?_
  refine rz_All_c (i := 1) (fun k J hk hJ => rz_getf_ok (pc := 1) (own := RX11) (ref := "ThreadJudge") (C := RX11) (T := TX11) (N := 16) (ci := 13) (index := 104) (f := 15) (t := 2) (Ts := Cond.code yX11_thing cX11_thing 3 (some .int) :: rz_TB) hx hb hts rz_in13 ho hK rfl (by decide) rfl (fun _ => rfl) (hw (i := 0) (j := 3) rfl rfl) (fun _ z => z) dX11_thing_1 hk) ?_
  refine rz_All_c (i := 2) (fun k J hk hJ => rz_getf_ok (pc := 4) (own := RX11) (ref := "ThreadJudge$Machine") (C := RX5) (T := TX5) (N := 19) (ci := 7) (index := 125) (f := 5) (t := 0) (Ts := Cond.code yX11_thing cX11_thing 3 (some .int) :: rz_TB) hx hb hts rz_in7 ho hK rfl (by decide) rfl (fun _ => rfl) (hw (i := 0) (j := 4) rfl rfl) (fun _ z => z) dX11_thing_4 hk) ?_
  refine rz_All_c (i := 3) (fun k J hk hJ => rz_ifeq_ok (pc := 7) hx hb dX11_thing_7 rfl hk (hJ 5)) ?_
  refine rz_All_c (i := 4) (fun k J hk hJ => rz_no_ok) ?_
  refine rz_All_c (i := 5) (fun k J hk hJ => rz_iconst_ok (pc := 25) hx hb dX11_thing_25 rfl hk) ?_
  refine rz_All_c (i := 6) (fun k J hk hJ => rz_iret_ok (pc := 26) hC dX11_thing_26) ?_
  exact trivial
theorem dX12_noThing_0 : decode cX12_noThing 0 = .ok (.aload_n 0, 1) := by decide +kernel
theorem dX12_noThing_1 : decode cX12_noThing 1 = .ok (.getfield 1007, 3) := by decide +kernel
theorem dX12_noThing_4 : decode cX12_noThing 4 = .ok (.ifCond .eq 15, 3) := by decide +kernel
theorem dX12_noThing_19 : decode cX12_noThing 19 = .ok (.iconst 1, 1) := by decide +kernel
theorem dX12_noThing_20 : decode cX12_noThing 20 = .ok (.goto 4, 3) := by decide +kernel
theorem dX12_noThing_24 : decode cX12_noThing 24 = .ok (.ireturn, 1) := by decide +kernel
def rpX12_noThing : List Nat := [0, 1, 4, 7, 19, 20, 24]
noncomputable def rcX12_noThing : List rz_B := [rz_aload 0, rz_getf (Nat.add (Nat.mul 256 14) 1) 189 rz_i, rz_ifeq 4, rz_no, rz_cst 1, rz_goto 6, rz_zret]
noncomputable def rgX12_noThing : rz_L → rz_M → rz_Z → Bool := rz_go rcX12_noThing 2 1000000
def rrX12_noThing : Room := { frames := 0, cells := 0, slots := 0, locals := 0 }
theorem rmX12_noThing (l : Launch) {G : rz_G} (hG : rz_Gd G) (vs : rz_L) (M : rz_M) (Z : rz_Z) (hn : vs.length = 2) (h : rgX12_noThing vs M Z = true) : Met l yX12_noThing (Cond.code yX12_noThing cX12_noThing 2 (some .boolean) :: rz_TB) rrX12_noThing (rz_Pre G vs M) (rz_Qi G M.2 Z) 0 0 (fun q => rz_b G ≤ q) := by
  obtain ⟨D, tc, ad, b, xs, rfl⟩ := id hG
  refine rz_body (pcs := rpX12_noThing) (by decide) rfl (by rw [hn]; decide) h ?_
  intro p e R s m args below meth c hC
  obtain ⟨hx, hb, hml, hr, hlk, ho, hts, hKn, hRm⟩ := id hC
  obtain ⟨hK, hA, hSt⟩ := id hKn
  have hw : ∀ {i j : Nat} {ws : List Cond} {w : Cond}, rz_WW[i]? = some ws → ws[j]? = some w → w.before args s = true := fun h1 h2 => hts _ (List.mem_cons_of_mem _ (rz_mem h1 h2))
  refine rz_All_c (i := 0) (fun k J hk hJ => rz_aload_n_ok (pc := 0) hx hb dX12_noThing_0 rfl hk) ?_
  refine rz_All_c (i := 1) (fun k J hk hJ => rz_getf_ok (pc := 1) (own := RX12) (ref := "ThreadJudgeModel") (C := RX12) (T := TX12) (N := 257) (ci := 14) (index := 1007) (f := 189) (t := 0) (Ts := Cond.code yX12_noThing cX12_noThing 2 (some .boolean) :: rz_TB) hx hb hts rz_in14 ho hK rfl (by decide) rfl (fun _ => rfl) (hw (i := 32) (j := 2) rfl rfl) (fun _ z => z) dX12_noThing_1 hk) ?_
  refine rz_All_c (i := 2) (fun k J hk hJ => rz_ifeq_ok (pc := 4) hx hb dX12_noThing_4 rfl hk (hJ 4)) ?_
  refine rz_All_c (i := 3) (fun k J hk hJ => rz_no_ok) ?_
  refine rz_All_c (i := 4) (fun k J hk hJ => rz_iconst_ok (pc := 19) hx hb dX12_noThing_19 rfl hk) ?_
  refine rz_All_c (i := 5) (fun k J hk hJ => rz_goto_ok (pc := 20) hx hb dX12_noThing_20 rfl (hJ 6)) ?_
  refine rz_All_c (i := 6) (fun k J hk hJ => rz_zret_ok (pc := 24) hC dX12_noThing_24) ?_
  exact trivial
theorem dX12_thing_0 : decode cX12_thing 0 = .ok (.aload_n 0, 1) := by decide +kernel
theorem dX12_thing_1 : decode cX12_thing 1 = .ok (.iload_n 1, 1) := by decide +kernel
theorem dX12_thing_2 : decode cX12_thing 2 = .ok (.invokevirtual 1885, 3) := by decide +kernel
theorem dX12_thing_5 : decode cX12_thing 5 = .ok (.ifCond .eq 5, 3) := by decide +kernel
theorem dX12_thing_8 : decode cX12_thing 8 = .ok (.iconst (-1), 1) := by decide +kernel
theorem dX12_thing_9 : decode cX12_thing 9 = .ok (.ireturn, 1) := by decide +kernel
def rpX12_thing : List Nat := [0, 1, 2, 5, 8, 9, 10]
noncomputable def rcX12_thing : List rz_B := [rz_aload 0, rz_iload 1, rz_callV 1 (Nat.add (Nat.mul 256 14) 1) rgX12_noThing, rz_ifeq 6, rz_cst 4294967295, rz_iret, rz_no]
noncomputable def rgX12_thing : rz_L → rz_M → rz_Z → Bool := rz_go rcX12_thing 3 1000000
def rrX12_thing : Room := { frames := 1, cells := 0, slots := 0, locals := 21 }
theorem rmX12_thing (l : Launch) {G : rz_G} (hG : rz_Gd G) (vs : rz_L) (M : rz_M) (Z : rz_Z) (hn : vs.length = 3) (h : rgX12_thing vs M Z = true) : Met l yX12_thing (Cond.code yX12_thing cX12_thing 3 (some .int) :: rz_TB) rrX12_thing (rz_Pre G vs M) (rz_Qi G M.2 Z) 0 0 (fun q => rz_b G ≤ q) := by
  obtain ⟨D, tc, ad, b, xs, rfl⟩ := id hG
  refine rz_body (pcs := rpX12_thing) (by decide) rfl (by rw [hn]; decide) h ?_
  intro p e R s m args below meth c hC
  obtain ⟨hx, hb, hml, hr, hlk, ho, hts, hKn, hRm⟩ := id hC
  obtain ⟨hK, hA, hSt⟩ := id hKn
  have hw : ∀ {i j : Nat} {ws : List Cond} {w : Cond}, rz_WW[i]? = some ws → ws[j]? = some w → w.before args s = true := fun h1 h2 => hts _ (List.mem_cons_of_mem _ (rz_mem h1 h2))
  refine rz_All_c (i := 0) (fun k J hk hJ => rz_aload_n_ok (pc := 0) hx hb dX12_thing_0 rfl hk) ?_
  refine rz_All_c (i := 1) (fun k J hk hJ => rz_iload_n_ok (pc := 1) hx hb dX12_thing_1 rfl hk) ?_
  refine rz_All_c (i := 2) (fun k J hk hJ => rz_callV_ok (pc := 2) (own := RX12) (C := RX12) (T0 := TX12) (N0 := 257) hC rfl (rmX12_noThing l hG) (rz_cwV 1 hC rz_good (rz_mem (i := 84) (j := 123) rfl rfl) (rz_mem (i := 84) (j := 124) rfl rfl) (rz_mem (i := 84) (j := 125) rfl rfl) (rz_mem (i := 32) (j := 8) rfl rfl) (rz_mem (i := 84) (j := 121) rfl rfl) ⟨rfl, by decide, by decide, by decide +kernel⟩ rfl rfl ⟨by decide, by decide⟩) rfl dX12_thing_2 hk) ?_
  refine rz_All_c (i := 3) (fun k J hk hJ => rz_ifeq_ok (pc := 5) hx hb dX12_thing_5 rfl hk (hJ 6)) ?_
  refine rz_All_c (i := 4) (fun k J hk hJ => rz_iconst_ok (pc := 8) hx hb dX12_thing_8 rfl hk) ?_
  refine rz_All_c (i := 5) (fun k J hk hJ => rz_iret_ok (pc := 9) hC dX12_thing_9) ?_
  refine rz_All_c (i := 6) (fun k J hk hJ => rz_no_ok) ?_
  exact trivial
theorem dX11_value_0 : decode cX11_value 0 = .ok (.aload_n 0, 1) := by decide +kernel
theorem dX11_value_1 : decode cX11_value 1 = .ok (.getfield 104, 3) := by decide +kernel
theorem dX11_value_4 : decode cX11_value 4 = .ok (.getfield 125, 3) := by decide +kernel
theorem dX11_value_7 : decode cX11_value 7 = .ok (.ifCond .eq 15, 3) := by decide +kernel
theorem dX11_value_22 : decode cX11_value 22 = .ok (.iconst (-1), 1) := by decide +kernel
theorem dX11_value_23 : decode cX11_value 23 = .ok (.ireturn, 1) := by decide +kernel
def rpX11_value : List Nat := [0, 1, 4, 7, 10, 22, 23]
noncomputable def rcX11_value : List rz_B := [rz_aload 0, rz_getf (Nat.add (Nat.mul 256 13) 1) 15 rz_r, rz_getf (Nat.add (Nat.mul 256 7) 1) 5 rz_i, rz_ifeq 5, rz_no, rz_cst 4294967295, rz_iret]
noncomputable def rgX11_value : rz_L → rz_M → rz_Z → Bool := rz_go rcX11_value 3 1000000
def rrX11_value : Room := { frames := 0, cells := 0, slots := 0, locals := 0 }
theorem rmX11_value (l : Launch) {G : rz_G} (hG : rz_Gd G) (vs : rz_L) (M : rz_M) (Z : rz_Z) (hn : vs.length = 3) (h : rgX11_value vs M Z = true) : Met l yX11_value (Cond.code yX11_value cX11_value 3 (some .int) :: rz_TB) rrX11_value (rz_Pre G vs M) (rz_Qi G M.2 Z) 0 0 (fun q => rz_b G ≤ q) := by
  obtain ⟨D, tc, ad, b, xs, rfl⟩ := id hG
  refine rz_body (pcs := rpX11_value) (by decide) rfl (by rw [hn]; decide) h ?_
  intro p e R s m args below meth c hC
  obtain ⟨hx, hb, hml, hr, hlk, ho, hts, hKn, hRm⟩ := id hC
  obtain ⟨hK, hA, hSt⟩ := id hKn
  have hw : ∀ {i j : Nat} {ws : List Cond} {w : Cond}, rz_WW[i]? = some ws → ws[j]? = some w → w.before args s = true := fun h1 h2 => hts _ (List.mem_cons_of_mem _ (rz_mem h1 h2))
  refine rz_All_c (i := 0) (fun k J hk hJ => rz_aload_n_ok (pc := 0) hx hb dX11_value_0 rfl hk) ?_
  refine rz_All_c (i := 1) (fun k J hk hJ => rz_getf_ok (pc := 1) (own := RX11) (ref := "ThreadJudge") (C := RX11) (T := TX11) (N := 16) (ci := 13) (index := 104) (f := 15) (t := 2) (Ts := Cond.code yX11_value cX11_value 3 (some .int) :: rz_TB) hx hb hts rz_in13 ho hK rfl (by decide) rfl (fun _ => rfl) (hw (i := 0) (j := 3) rfl rfl) (fun _ z => z) dX11_value_1 hk) ?_
  refine rz_All_c (i := 2) (fun k J hk hJ => rz_getf_ok (pc := 4) (own := RX11) (ref := "ThreadJudge$Machine") (C := RX5) (T := TX5) (N := 19) (ci := 7) (index := 125) (f := 5) (t := 0) (Ts := Cond.code yX11_value cX11_value 3 (some .int) :: rz_TB) hx hb hts rz_in7 ho hK rfl (by decide) rfl (fun _ => rfl) (hw (i := 0) (j := 4) rfl rfl) (fun _ z => z) dX11_value_4 hk) ?_
  refine rz_All_c (i := 3) (fun k J hk hJ => rz_ifeq_ok (pc := 7) hx hb dX11_value_7 rfl hk (hJ 5)) ?_
  refine rz_All_c (i := 4) (fun k J hk hJ => rz_no_ok) ?_
  refine rz_All_c (i := 5) (fun k J hk hJ => rz_iconst_ok (pc := 22) hx hb dX11_value_22 rfl hk) ?_
  refine rz_All_c (i := 6) (fun k J hk hJ => rz_iret_ok (pc := 23) hC dX11_value_23) ?_
  exact trivial
theorem dX12_value_0 : decode cX12_value 0 = .ok (.aload_n 0, 1) := by decide +kernel
theorem dX12_value_1 : decode cX12_value 1 = .ok (.getfield 1007, 3) := by decide +kernel
theorem dX12_value_4 : decode cX12_value 4 = .ok (.ifCond .eq 11, 3) := by decide +kernel
theorem dX12_value_15 : decode cX12_value 15 = .ok (.iconst (-1), 1) := by decide +kernel
theorem dX12_value_16 : decode cX12_value 16 = .ok (.ireturn, 1) := by decide +kernel
def rpX12_value : List Nat := [0, 1, 4, 7, 15, 16]
noncomputable def rcX12_value : List rz_B := [rz_aload 0, rz_getf (Nat.add (Nat.mul 256 14) 1) 189 rz_i, rz_ifeq 4, rz_no, rz_cst 4294967295, rz_iret]
noncomputable def rgX12_value : rz_L → rz_M → rz_Z → Bool := rz_go rcX12_value 4 1000000
def rrX12_value : Room := { frames := 0, cells := 0, slots := 0, locals := 0 }
theorem rmX12_value (l : Launch) {G : rz_G} (hG : rz_Gd G) (vs : rz_L) (M : rz_M) (Z : rz_Z) (hn : vs.length = 3) (h : rgX12_value vs M Z = true) : Met l yX12_value (Cond.code yX12_value cX12_value 4 (some .int) :: rz_TB) rrX12_value (rz_Pre G vs M) (rz_Qi G M.2 Z) 0 0 (fun q => rz_b G ≤ q) := by
  obtain ⟨D, tc, ad, b, xs, rfl⟩ := id hG
  refine rz_body (pcs := rpX12_value) (by decide) rfl (by rw [hn]; decide) h ?_
  intro p e R s m args below meth c hC
  obtain ⟨hx, hb, hml, hr, hlk, ho, hts, hKn, hRm⟩ := id hC
  obtain ⟨hK, hA, hSt⟩ := id hKn
  have hw : ∀ {i j : Nat} {ws : List Cond} {w : Cond}, rz_WW[i]? = some ws → ws[j]? = some w → w.before args s = true := fun h1 h2 => hts _ (List.mem_cons_of_mem _ (rz_mem h1 h2))
  refine rz_All_c (i := 0) (fun k J hk hJ => rz_aload_n_ok (pc := 0) hx hb dX12_value_0 rfl hk) ?_
  refine rz_All_c (i := 1) (fun k J hk hJ => rz_getf_ok (pc := 1) (own := RX12) (ref := "ThreadJudgeModel") (C := RX12) (T := TX12) (N := 257) (ci := 14) (index := 1007) (f := 189) (t := 0) (Ts := Cond.code yX12_value cX12_value 4 (some .int) :: rz_TB) hx hb hts rz_in14 ho hK rfl (by decide) rfl (fun _ => rfl) (hw (i := 32) (j := 2) rfl rfl) (fun _ z => z) dX12_value_1 hk) ?_
  refine rz_All_c (i := 2) (fun k J hk hJ => rz_ifeq_ok (pc := 4) hx hb dX12_value_4 rfl hk (hJ 4)) ?_
  refine rz_All_c (i := 3) (fun k J hk hJ => rz_no_ok) ?_
  refine rz_All_c (i := 4) (fun k J hk hJ => rz_iconst_ok (pc := 15) hx hb dX12_value_15 rfl hk) ?_
  refine rz_All_c (i := 5) (fun k J hk hJ => rz_iret_ok (pc := 16) hC dX12_value_16) ?_
  exact trivial
theorem dX11_said_0 : decode cX11_said 0 = .ok (.aload_n 0, 1) := by decide +kernel
theorem dX11_said_1 : decode cX11_said 1 = .ok (.getfield 104, 3) := by decide +kernel
theorem dX11_said_4 : decode cX11_said 4 = .ok (.getfield 125, 3) := by decide +kernel
theorem dX11_said_7 : decode cX11_said 7 = .ok (.ifCond .eq 18, 3) := by decide +kernel
theorem dX11_said_25 : decode cX11_said 25 = .ok (.iconst (-1), 1) := by decide +kernel
theorem dX11_said_26 : decode cX11_said 26 = .ok (.ireturn, 1) := by decide +kernel
def rpX11_said : List Nat := [0, 1, 4, 7, 10, 25, 26]
noncomputable def rcX11_said : List rz_B := [rz_aload 0, rz_getf (Nat.add (Nat.mul 256 13) 1) 15 rz_r, rz_getf (Nat.add (Nat.mul 256 7) 1) 5 rz_i, rz_ifeq 5, rz_no, rz_cst 4294967295, rz_iret]
noncomputable def rgX11_said : rz_L → rz_M → rz_Z → Bool := rz_go rcX11_said 2 1000000
def rrX11_said : Room := { frames := 0, cells := 0, slots := 0, locals := 0 }
theorem rmX11_said (l : Launch) {G : rz_G} (hG : rz_Gd G) (vs : rz_L) (M : rz_M) (Z : rz_Z) (hn : vs.length = 2) (h : rgX11_said vs M Z = true) : Met l yX11_said (Cond.code yX11_said cX11_said 2 (some .int) :: rz_TB) rrX11_said (rz_Pre G vs M) (rz_Qi G M.2 Z) 0 0 (fun q => rz_b G ≤ q) := by
  obtain ⟨D, tc, ad, b, xs, rfl⟩ := id hG
  refine rz_body (pcs := rpX11_said) (by decide) rfl (by rw [hn]; decide) h ?_
  intro p e R s m args below meth c hC
  obtain ⟨hx, hb, hml, hr, hlk, ho, hts, hKn, hRm⟩ := id hC
  obtain ⟨hK, hA, hSt⟩ := id hKn
  have hw : ∀ {i j : Nat} {ws : List Cond} {w : Cond}, rz_WW[i]? = some ws → ws[j]? = some w → w.before args s = true := fun h1 h2 => hts _ (List.mem_cons_of_mem _ (rz_mem h1 h2))
  refine rz_All_c (i := 0) (fun k J hk hJ => rz_aload_n_ok (pc := 0) hx hb dX11_said_0 rfl hk) ?_
  refine rz_All_c (i := 1) (fun k J hk hJ => rz_getf_ok (pc := 1) (own := RX11) (ref := "ThreadJudge") (C := RX11) (T := TX11) (N := 16) (ci := 13) (index := 104) (f := 15) (t := 2) (Ts := Cond.code yX11_said cX11_said 2 (some .int) :: rz_TB) hx hb hts rz_in13 ho hK rfl (by decide) rfl (fun _ => rfl) (hw (i := 0) (j := 3) rfl rfl) (fun _ z => z) dX11_said_1 hk) ?_
  refine rz_All_c (i := 2) (fun k J hk hJ => rz_getf_ok (pc := 4) (own := RX11) (ref := "ThreadJudge$Machine") (C := RX5) (T := TX5) (N := 19) (ci := 7) (index := 125) (f := 5) (t := 0) (Ts := Cond.code yX11_said cX11_said 2 (some .int) :: rz_TB) hx hb hts rz_in7 ho hK rfl (by decide) rfl (fun _ => rfl) (hw (i := 0) (j := 4) rfl rfl) (fun _ z => z) dX11_said_4 hk) ?_
  refine rz_All_c (i := 3) (fun k J hk hJ => rz_ifeq_ok (pc := 7) hx hb dX11_said_7 rfl hk (hJ 5)) ?_
  refine rz_All_c (i := 4) (fun k J hk hJ => rz_no_ok) ?_
  refine rz_All_c (i := 5) (fun k J hk hJ => rz_iconst_ok (pc := 25) hx hb dX11_said_25 rfl hk) ?_
  refine rz_All_c (i := 6) (fun k J hk hJ => rz_iret_ok (pc := 26) hC dX11_said_26) ?_
  exact trivial
theorem dX12_said_0 : decode cX12_said 0 = .ok (.aload_n 0, 1) := by decide +kernel
theorem dX12_said_1 : decode cX12_said 1 = .ok (.getfield 1007, 3) := by decide +kernel
theorem dX12_said_4 : decode cX12_said 4 = .ok (.ifCond .eq 15, 3) := by decide +kernel
theorem dX12_said_19 : decode cX12_said 19 = .ok (.iconst (-1), 1) := by decide +kernel
theorem dX12_said_20 : decode cX12_said 20 = .ok (.goto 9, 3) := by decide +kernel
theorem dX12_said_29 : decode cX12_said 29 = .ok (.ireturn, 1) := by decide +kernel
def rpX12_said : List Nat := [0, 1, 4, 7, 19, 20, 29]
noncomputable def rcX12_said : List rz_B := [rz_aload 0, rz_getf (Nat.add (Nat.mul 256 14) 1) 189 rz_i, rz_ifeq 4, rz_no, rz_cst 4294967295, rz_goto 6, rz_iret]
noncomputable def rgX12_said : rz_L → rz_M → rz_Z → Bool := rz_go rcX12_said 2 1000000
def rrX12_said : Room := { frames := 0, cells := 0, slots := 0, locals := 0 }
theorem rmX12_said (l : Launch) {G : rz_G} (hG : rz_Gd G) (vs : rz_L) (M : rz_M) (Z : rz_Z) (hn : vs.length = 2) (h : rgX12_said vs M Z = true) : Met l yX12_said (Cond.code yX12_said cX12_said 2 (some .int) :: rz_TB) rrX12_said (rz_Pre G vs M) (rz_Qi G M.2 Z) 0 0 (fun q => rz_b G ≤ q) := by
  obtain ⟨D, tc, ad, b, xs, rfl⟩ := id hG
  refine rz_body (pcs := rpX12_said) (by decide) rfl (by rw [hn]; decide) h ?_
  intro p e R s m args below meth c hC
  obtain ⟨hx, hb, hml, hr, hlk, ho, hts, hKn, hRm⟩ := id hC
  obtain ⟨hK, hA, hSt⟩ := id hKn
  have hw : ∀ {i j : Nat} {ws : List Cond} {w : Cond}, rz_WW[i]? = some ws → ws[j]? = some w → w.before args s = true := fun h1 h2 => hts _ (List.mem_cons_of_mem _ (rz_mem h1 h2))
  refine rz_All_c (i := 0) (fun k J hk hJ => rz_aload_n_ok (pc := 0) hx hb dX12_said_0 rfl hk) ?_
  refine rz_All_c (i := 1) (fun k J hk hJ => rz_getf_ok (pc := 1) (own := RX12) (ref := "ThreadJudgeModel") (C := RX12) (T := TX12) (N := 257) (ci := 14) (index := 1007) (f := 189) (t := 0) (Ts := Cond.code yX12_said cX12_said 2 (some .int) :: rz_TB) hx hb hts rz_in14 ho hK rfl (by decide) rfl (fun _ => rfl) (hw (i := 32) (j := 2) rfl rfl) (fun _ z => z) dX12_said_1 hk) ?_
  refine rz_All_c (i := 2) (fun k J hk hJ => rz_ifeq_ok (pc := 4) hx hb dX12_said_4 rfl hk (hJ 4)) ?_
  refine rz_All_c (i := 3) (fun k J hk hJ => rz_no_ok) ?_
  refine rz_All_c (i := 4) (fun k J hk hJ => rz_iconst_ok (pc := 19) hx hb dX12_said_19 rfl hk) ?_
  refine rz_All_c (i := 5) (fun k J hk hJ => rz_goto_ok (pc := 20) hx hb dX12_said_20 rfl (hJ 6)) ?_
  refine rz_All_c (i := 6) (fun k J hk hJ => rz_iret_ok (pc := 29) hC dX12_said_29) ?_
  exact trivial
theorem dX11_clash_0 : decode cX11_clash 0 = .ok (.aload_n 0, 1) := by decide +kernel
theorem dX11_clash_1 : decode cX11_clash 1 = .ok (.getfield 104, 3) := by decide +kernel
theorem dX11_clash_4 : decode cX11_clash 4 = .ok (.getfield 125, 3) := by decide +kernel
theorem dX11_clash_7 : decode cX11_clash 7 = .ok (.ifCond .eq 27, 3) := by decide +kernel
theorem dX11_clash_34 : decode cX11_clash 34 = .ok (.iconst (-1), 1) := by decide +kernel
theorem dX11_clash_35 : decode cX11_clash 35 = .ok (.ireturn, 1) := by decide +kernel
def rpX11_clash : List Nat := [0, 1, 4, 7, 10, 34, 35]
noncomputable def rcX11_clash : List rz_B := [rz_aload 0, rz_getf (Nat.add (Nat.mul 256 13) 1) 15 rz_r, rz_getf (Nat.add (Nat.mul 256 7) 1) 5 rz_i, rz_ifeq 5, rz_no, rz_cst 4294967295, rz_iret]
noncomputable def rgX11_clash : rz_L → rz_M → rz_Z → Bool := rz_go rcX11_clash 3 1000000
def rrX11_clash : Room := { frames := 0, cells := 0, slots := 0, locals := 0 }
theorem rmX11_clash (l : Launch) {G : rz_G} (hG : rz_Gd G) (vs : rz_L) (M : rz_M) (Z : rz_Z) (hn : vs.length = 3) (h : rgX11_clash vs M Z = true) : Met l yX11_clash (Cond.code yX11_clash cX11_clash 3 (some .int) :: rz_TB) rrX11_clash (rz_Pre G vs M) (rz_Qi G M.2 Z) 0 0 (fun q => rz_b G ≤ q) := by
  obtain ⟨D, tc, ad, b, xs, rfl⟩ := id hG
  refine rz_body (pcs := rpX11_clash) (by decide) rfl (by rw [hn]; decide) h ?_
  intro p e R s m args below meth c hC
  obtain ⟨hx, hb, hml, hr, hlk, ho, hts, hKn, hRm⟩ := id hC
  obtain ⟨hK, hA, hSt⟩ := id hKn
  have hw : ∀ {i j : Nat} {ws : List Cond} {w : Cond}, rz_WW[i]? = some ws → ws[j]? = some w → w.before args s = true := fun h1 h2 => hts _ (List.mem_cons_of_mem _ (rz_mem h1 h2))
  refine rz_All_c (i := 0) (fun k J hk hJ => rz_aload_n_ok (pc := 0) hx hb dX11_clash_0 rfl hk) ?_
  refine rz_All_c (i := 1) (fun k J hk hJ => rz_getf_ok (pc := 1) (own := RX11) (ref := "ThreadJudge") (C := RX11) (T := TX11) (N := 16) (ci := 13) (index := 104) (f := 15) (t := 2) (Ts := Cond.code yX11_clash cX11_clash 3 (some .int) :: rz_TB) hx hb hts rz_in13 ho hK rfl (by decide) rfl (fun _ => rfl) (hw (i := 0) (j := 3) rfl rfl) (fun _ z => z) dX11_clash_1 hk) ?_
  refine rz_All_c (i := 2) (fun k J hk hJ => rz_getf_ok (pc := 4) (own := RX11) (ref := "ThreadJudge$Machine") (C := RX5) (T := TX5) (N := 19) (ci := 7) (index := 125) (f := 5) (t := 0) (Ts := Cond.code yX11_clash cX11_clash 3 (some .int) :: rz_TB) hx hb hts rz_in7 ho hK rfl (by decide) rfl (fun _ => rfl) (hw (i := 0) (j := 4) rfl rfl) (fun _ z => z) dX11_clash_4 hk) ?_
  refine rz_All_c (i := 3) (fun k J hk hJ => rz_ifeq_ok (pc := 7) hx hb dX11_clash_7 rfl hk (hJ 5)) ?_
  refine rz_All_c (i := 4) (fun k J hk hJ => rz_no_ok) ?_
  refine rz_All_c (i := 5) (fun k J hk hJ => rz_iconst_ok (pc := 34) hx hb dX11_clash_34 rfl hk) ?_
  refine rz_All_c (i := 6) (fun k J hk hJ => rz_iret_ok (pc := 35) hC dX11_clash_35) ?_
  exact trivial
theorem dX12_clash_0 : decode cX12_clash 0 = .ok (.aload_n 0, 1) := by decide +kernel
theorem dX12_clash_1 : decode cX12_clash 1 = .ok (.getfield 1007, 3) := by decide +kernel
theorem dX12_clash_4 : decode cX12_clash 4 = .ok (.ifCond .eq 31, 3) := by decide +kernel
theorem dX12_clash_35 : decode cX12_clash 35 = .ok (.iconst (-1), 1) := by decide +kernel
theorem dX12_clash_36 : decode cX12_clash 36 = .ok (.ireturn, 1) := by decide +kernel
def rpX12_clash : List Nat := [0, 1, 4, 7, 35, 36]
noncomputable def rcX12_clash : List rz_B := [rz_aload 0, rz_getf (Nat.add (Nat.mul 256 14) 1) 189 rz_i, rz_ifeq 4, rz_no, rz_cst 4294967295, rz_iret]
noncomputable def rgX12_clash : rz_L → rz_M → rz_Z → Bool := rz_go rcX12_clash 3 1000000
def rrX12_clash : Room := { frames := 0, cells := 0, slots := 0, locals := 0 }
theorem rmX12_clash (l : Launch) {G : rz_G} (hG : rz_Gd G) (vs : rz_L) (M : rz_M) (Z : rz_Z) (hn : vs.length = 3) (h : rgX12_clash vs M Z = true) : Met l yX12_clash (Cond.code yX12_clash cX12_clash 3 (some .int) :: rz_TB) rrX12_clash (rz_Pre G vs M) (rz_Qi G M.2 Z) 0 0 (fun q => rz_b G ≤ q) := by
  obtain ⟨D, tc, ad, b, xs, rfl⟩ := id hG
  refine rz_body (pcs := rpX12_clash) (by decide) rfl (by rw [hn]; decide) h ?_
  intro p e R s m args below meth c hC
  obtain ⟨hx, hb, hml, hr, hlk, ho, hts, hKn, hRm⟩ := id hC
  obtain ⟨hK, hA, hSt⟩ := id hKn
  have hw : ∀ {i j : Nat} {ws : List Cond} {w : Cond}, rz_WW[i]? = some ws → ws[j]? = some w → w.before args s = true := fun h1 h2 => hts _ (List.mem_cons_of_mem _ (rz_mem h1 h2))
  refine rz_All_c (i := 0) (fun k J hk hJ => rz_aload_n_ok (pc := 0) hx hb dX12_clash_0 rfl hk) ?_
  refine rz_All_c (i := 1) (fun k J hk hJ => rz_getf_ok (pc := 1) (own := RX12) (ref := "ThreadJudgeModel") (C := RX12) (T := TX12) (N := 257) (ci := 14) (index := 1007) (f := 189) (t := 0) (Ts := Cond.code yX12_clash cX12_clash 3 (some .int) :: rz_TB) hx hb hts rz_in14 ho hK rfl (by decide) rfl (fun _ => rfl) (hw (i := 32) (j := 2) rfl rfl) (fun _ z => z) dX12_clash_1 hk) ?_
  refine rz_All_c (i := 2) (fun k J hk hJ => rz_ifeq_ok (pc := 4) hx hb dX12_clash_4 rfl hk (hJ 4)) ?_
  refine rz_All_c (i := 3) (fun k J hk hJ => rz_no_ok) ?_
  refine rz_All_c (i := 4) (fun k J hk hJ => rz_iconst_ok (pc := 35) hx hb dX12_clash_35 rfl hk) ?_
  refine rz_All_c (i := 5) (fun k J hk hJ => rz_iret_ok (pc := 36) hC dX12_clash_36) ?_
  exact trivial
theorem dX11_foreseen_0 : decode cX11_foreseen 0 = .ok (.aload_n 0, 1) := by decide +kernel
theorem dX11_foreseen_1 : decode cX11_foreseen 1 = .ok (.getfield 104, 3) := by decide +kernel
theorem dX11_foreseen_4 : decode cX11_foreseen 4 = .ok (.getfield 125, 3) := by decide +kernel
theorem dX11_foreseen_7 : decode cX11_foreseen 7 = .ok (.ifCond .eq 43, 3) := by decide +kernel
theorem dX11_foreseen_50 : decode cX11_foreseen 50 = .ok (.iconst 1, 1) := by decide +kernel
theorem dX11_foreseen_51 : decode cX11_foreseen 51 = .ok (.goto 4, 3) := by decide +kernel
theorem dX11_foreseen_55 : decode cX11_foreseen 55 = .ok (.ireturn, 1) := by decide +kernel
def rpX11_foreseen : List Nat := [0, 1, 4, 7, 10, 50, 51, 55]
noncomputable def rcX11_foreseen : List rz_B := [rz_aload 0, rz_getf (Nat.add (Nat.mul 256 13) 1) 15 rz_r, rz_getf (Nat.add (Nat.mul 256 7) 1) 5 rz_i, rz_ifeq 5, rz_no, rz_cst 1, rz_goto 7, rz_zret]
noncomputable def rgX11_foreseen : rz_L → rz_M → rz_Z → Bool := rz_go rcX11_foreseen 1 1000000
def rrX11_foreseen : Room := { frames := 0, cells := 0, slots := 0, locals := 0 }
theorem rmX11_foreseen (l : Launch) {G : rz_G} (hG : rz_Gd G) (vs : rz_L) (M : rz_M) (Z : rz_Z) (hn : vs.length = 1) (h : rgX11_foreseen vs M Z = true) : Met l yX11_foreseen (Cond.code yX11_foreseen cX11_foreseen 1 (some .boolean) :: rz_TB) rrX11_foreseen (rz_Pre G vs M) (rz_Qi G M.2 Z) 0 0 (fun q => rz_b G ≤ q) := by
  obtain ⟨D, tc, ad, b, xs, rfl⟩ := id hG
  refine rz_body (pcs := rpX11_foreseen) (by decide) rfl (by rw [hn]; decide) h ?_
  intro p e R s m args below meth c hC
  obtain ⟨hx, hb, hml, hr, hlk, ho, hts, hKn, hRm⟩ := id hC
  obtain ⟨hK, hA, hSt⟩ := id hKn
  have hw : ∀ {i j : Nat} {ws : List Cond} {w : Cond}, rz_WW[i]? = some ws → ws[j]? = some w → w.before args s = true := fun h1 h2 => hts _ (List.mem_cons_of_mem _ (rz_mem h1 h2))
  refine rz_All_c (i := 0) (fun k J hk hJ => rz_aload_n_ok (pc := 0) hx hb dX11_foreseen_0 rfl hk) ?_
  refine rz_All_c (i := 1) (fun k J hk hJ => rz_getf_ok (pc := 1) (own := RX11) (ref := "ThreadJudge") (C := RX11) (T := TX11) (N := 16) (ci := 13) (index := 104) (f := 15) (t := 2) (Ts := Cond.code yX11_foreseen cX11_foreseen 1 (some .boolean) :: rz_TB) hx hb hts rz_in13 ho hK rfl (by decide) rfl (fun _ => rfl) (hw (i := 0) (j := 3) rfl rfl) (fun _ z => z) dX11_foreseen_1 hk) ?_
  refine rz_All_c (i := 2) (fun k J hk hJ => rz_getf_ok (pc := 4) (own := RX11) (ref := "ThreadJudge$Machine") (C := RX5) (T := TX5) (N := 19) (ci := 7) (index := 125) (f := 5) (t := 0) (Ts := Cond.code yX11_foreseen cX11_foreseen 1 (some .boolean) :: rz_TB) hx hb hts rz_in7 ho hK rfl (by decide) rfl (fun _ => rfl) (hw (i := 0) (j := 4) rfl rfl) (fun _ z => z) dX11_foreseen_4 hk) ?_
  refine rz_All_c (i := 3) (fun k J hk hJ => rz_ifeq_ok (pc := 7) hx hb dX11_foreseen_7 rfl hk (hJ 5)) ?_
  refine rz_All_c (i := 4) (fun k J hk hJ => rz_no_ok) ?_
  refine rz_All_c (i := 5) (fun k J hk hJ => rz_iconst_ok (pc := 50) hx hb dX11_foreseen_50 rfl hk) ?_
  refine rz_All_c (i := 6) (fun k J hk hJ => rz_goto_ok (pc := 51) hx hb dX11_foreseen_51 rfl (hJ 7)) ?_
  refine rz_All_c (i := 7) (fun k J hk hJ => rz_zret_ok (pc := 55) hC dX11_foreseen_55) ?_
  exact trivial
theorem dX12_foreseen_0 : decode cX12_foreseen 0 = .ok (.aload_n 0, 1) := by decide +kernel
theorem dX12_foreseen_1 : decode cX12_foreseen 1 = .ok (.getfield 1007, 3) := by decide +kernel
theorem dX12_foreseen_4 : decode cX12_foreseen 4 = .ok (.ifCond .eq 24, 3) := by decide +kernel
theorem dX12_foreseen_28 : decode cX12_foreseen 28 = .ok (.iconst 1, 1) := by decide +kernel
theorem dX12_foreseen_29 : decode cX12_foreseen 29 = .ok (.goto 4, 3) := by decide +kernel
theorem dX12_foreseen_33 : decode cX12_foreseen 33 = .ok (.ireturn, 1) := by decide +kernel
def rpX12_foreseen : List Nat := [0, 1, 4, 7, 28, 29, 33]
noncomputable def rcX12_foreseen : List rz_B := [rz_aload 0, rz_getf (Nat.add (Nat.mul 256 14) 1) 189 rz_i, rz_ifeq 4, rz_no, rz_cst 1, rz_goto 6, rz_zret]
noncomputable def rgX12_foreseen : rz_L → rz_M → rz_Z → Bool := rz_go rcX12_foreseen 1 1000000
def rrX12_foreseen : Room := { frames := 0, cells := 0, slots := 0, locals := 0 }
theorem rmX12_foreseen (l : Launch) {G : rz_G} (hG : rz_Gd G) (vs : rz_L) (M : rz_M) (Z : rz_Z) (hn : vs.length = 1) (h : rgX12_foreseen vs M Z = true) : Met l yX12_foreseen (Cond.code yX12_foreseen cX12_foreseen 1 (some .boolean) :: rz_TB) rrX12_foreseen (rz_Pre G vs M) (rz_Qi G M.2 Z) 0 0 (fun q => rz_b G ≤ q) := by
  obtain ⟨D, tc, ad, b, xs, rfl⟩ := id hG
  refine rz_body (pcs := rpX12_foreseen) (by decide) rfl (by rw [hn]; decide) h ?_
  intro p e R s m args below meth c hC
  obtain ⟨hx, hb, hml, hr, hlk, ho, hts, hKn, hRm⟩ := id hC
  obtain ⟨hK, hA, hSt⟩ := id hKn
  have hw : ∀ {i j : Nat} {ws : List Cond} {w : Cond}, rz_WW[i]? = some ws → ws[j]? = some w → w.before args s = true := fun h1 h2 => hts _ (List.mem_cons_of_mem _ (rz_mem h1 h2))
  refine rz_All_c (i := 0) (fun k J hk hJ => rz_aload_n_ok (pc := 0) hx hb dX12_foreseen_0 rfl hk) ?_
  refine rz_All_c (i := 1) (fun k J hk hJ => rz_getf_ok (pc := 1) (own := RX12) (ref := "ThreadJudgeModel") (C := RX12) (T := TX12) (N := 257) (ci := 14) (index := 1007) (f := 189) (t := 0) (Ts := Cond.code yX12_foreseen cX12_foreseen 1 (some .boolean) :: rz_TB) hx hb hts rz_in14 ho hK rfl (by decide) rfl (fun _ => rfl) (hw (i := 32) (j := 2) rfl rfl) (fun _ z => z) dX12_foreseen_1 hk) ?_
  refine rz_All_c (i := 2) (fun k J hk hJ => rz_ifeq_ok (pc := 4) hx hb dX12_foreseen_4 rfl hk (hJ 4)) ?_
  refine rz_All_c (i := 3) (fun k J hk hJ => rz_no_ok) ?_
  refine rz_All_c (i := 4) (fun k J hk hJ => rz_iconst_ok (pc := 28) hx hb dX12_foreseen_28 rfl hk) ?_
  refine rz_All_c (i := 5) (fun k J hk hJ => rz_goto_ok (pc := 29) hx hb dX12_foreseen_29 rfl (hJ 6)) ?_
  refine rz_All_c (i := 6) (fun k J hk hJ => rz_zret_ok (pc := 33) hC dX12_foreseen_33) ?_
  exact trivial
