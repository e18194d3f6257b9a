/-! Runs of load(). -/
theorem rk_X12_readClass_2_m (l : Launch) {G : rz_G} (hG : rz_Gd G) : Met l yX12_readClass (Cond.code yX12_readClass cX12_readClass 6 (some .boolean) :: rz_TB) rrX12_readClass (rz_Pre G [rz_r 215] (rs_49, 398, 0)) (rz_Qi G (rs_49, 398, 0).2 (rz_tst (rz_i 1) (rs_51, 398, 0))) 0 0 (fun q => rz_b G ≤ q) := rmX12_readClass_o l hG _ _ _ rfl rk_X12_readClass_2
