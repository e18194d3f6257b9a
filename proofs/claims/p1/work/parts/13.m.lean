/-! Both objects made. -/
def lwM : rz_M := (rs_31, 398, 0)
def lwL : rz_L := [rz_r 3000001, rz_r 1, rz_r 215, rz_i 0]
noncomputable def lw_K18 : rz_K := fun L S M => rz_nil S (rz_if (rz_leq L lwL) (rz_meq M lwM) false)
noncomputable def lw_K0 (J : rz_J) (Z : rz_Z) : rz_K := rz_newo (Nat.add (Nat.mul 256 13) 1) (rz_dup (rz_callI 0 rgX11_init_o (rz_astore 1 (rz_newo (Nat.add (Nat.mul 256 14) 1) (rz_dup (rz_callI 0 rgX12_init (rz_astore 2 (rz_cst 0 (rz_istore 3 lw_K18 J Z) J Z) J Z) J Z) J Z) J Z) J Z) J Z) J Z) J Z
set_option maxRecDepth 1000000 in
theorem lw_made : lw_K0 (fun _ _ _ _ => false) (fun _ _ => false) [rz_r 3000001, rz_o, rz_o, rz_o] [] (rs_z, 0, 0) = true := by decide +kernel
set_option maxRecDepth 100000 in
theorem lw_begin {G : rz_G} {p : Program} {l : Launch} {e : Env} {s : State} {m : MethodId} {b : Nat} {below : List Frame} {meth : Method} {c : Code} (hG : rz_Gd G) (hC : rz_Cx G rz_TB x code 4 ret room_1 p room_1 s m #[Value.ref b] meth c) (htsL : ∀ w ∈ rz_LW ++ rz_TB, w.before #[Value.ref b] s = true) (hend : rz_Ok G p l e room_1 s m #[Value.ref b] below meth c (lw_Z below #[Value.ref b] s) 4 cL 18 lw_K18) (J : rz_J) (Z : rz_Z) : rz_Ok G p l e room_1 s m #[Value.ref b] below meth c (lw_Z below #[Value.ref b] s) 4 (0, 0) 0 (lw_K0 J Z) := by
  obtain ⟨D, tc, ad, bb, xx, rfl⟩ := id hG
  obtain ⟨hx, hb, hml, hr, hlk, hown, hts, hKn, hRm⟩ := id hC
  obtain ⟨hK, hA, hSt⟩ := id hKn
  have htT : ∀ w ∈ Cond.code x code 4 ret :: rz_TB, w.before #[Value.ref b] s = true := hts
  have h17 := rz_istore_n_ok (pc := 17) (n := 3) (J := J) (Z := Z) hx hb dL_law_17 rfl hend
  have h16 := rz_iconst_ok (pc := 16) (n := 0) (J := J) (Z := Z) hx hb dL_law_16 rfl h17
  have h15 := rz_astore_n_ok (pc := 15) (n := 2) (J := J) (Z := Z) hx hb dL_law_15 rfl h16
  have h12 := rz_callIv_ok (pc := 12) (nz0 := (220, 1603358)) (nz1 := (403, 4247541)) (J := J) (Z := Z) (own := "ThreadJudgeLaw") hC rfl (rmX12_init l hG) (lw_cwI 0 htsL (lw_mL (i := 317) rfl) (lw_mL (i := 318) rfl) (lw_mL (i := 8) rfl) (lw_mL (i := 319) rfl) rfl ⟨by decide, by decide, by decide +kernel⟩ ⟨by decide, by decide⟩) dL_law_12 h15 (by decide) ⟨Nat.le_of_ble_eq_true rfl, Nat.le_of_ble_eq_true rfl⟩
  have h11 := rz_dup_ok (pc := 11) (J := J) (Z := Z) hx hb dL_law_11 h12
  have h8 := rz_newo_ok (pc := 8) (nz0 := (219, 1603101)) (J := J) (Z := Z) (own := "ThreadJudgeLaw") (C := RX12) (T := TX12) (N := 257) (ci := 14) (index := 10) (ty := tyX12) (Ts := Cond.code x code 4 ret :: rz_TB) hx hb htT rz_in14 tyX12_ok hown (htsL _ (lw_mL (i := 322) rfl)) (htsL _ (lw_mL (i := 323) rfl)) (htsL _ (lw_mL (i := 8) rfl)) hK hA rfl (by decide) rz_df14 ⟨Nat.le_of_ble_eq_true rfl, Nat.le_of_ble_eq_true rfl⟩ dL_law_8 h11
  have h7 := rz_astore_n_ok (pc := 7) (n := 1) (J := J) (Z := Z) hx hb dL_law_7 rfl h8
  have h4 := rz_callIv_ok (pc := 4) (nz0 := (1, 16)) (nz1 := (219, 1603101)) (J := J) (Z := Z) (own := "ThreadJudgeLaw") hC rfl (rmX11_init_o l hG) (lw_cwI 0 htsL (lw_mL (i := 314) rfl) (lw_mL (i := 315) rfl) (lw_mL (i := 3) rfl) (lw_mL (i := 316) rfl) rfl ⟨by decide, by decide, by decide +kernel⟩ ⟨by decide, by decide⟩) dL_law_4 h7 (by decide) ⟨Nat.le_of_ble_eq_true rfl, Nat.le_of_ble_eq_true rfl⟩
  have h3 := rz_dup_ok (pc := 3) (J := J) (Z := Z) hx hb dL_law_3 h4
  exact rz_newo_ok (pc := 0) (nz0 := (0, 0)) (J := J) (Z := Z) (own := "ThreadJudgeLaw") (C := RX11) (T := TX11) (N := 16) (ci := 13) (index := 7) (ty := tyX11) (Ts := Cond.code x code 4 ret :: rz_TB) hx hb htT rz_in13 tyX11_ok hown (htsL _ (lw_mL (i := 320) rfl)) (htsL _ (lw_mL (i := 321) rfl)) (htsL _ (lw_mL (i := 3) rfl)) hK hA rfl (by decide) rz_df13 ⟨Nat.le_of_ble_eq_true rfl, Nat.le_of_ble_eq_true rfl⟩ dL_law_0 h3
