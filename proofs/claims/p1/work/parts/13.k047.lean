/-! Runs of load(). -/
theorem rk_X12_readMember_0_m (l : Launch) {G : rz_G} (hG : rz_Gd G) : Met l yX12_readMember (Cond.code yX12_readMember cX12_readMember 6 (some .boolean) :: rz_TB) rrX12_readMember (rz_Pre G [rz_r 215, rz_i 16] (rs_43, 398, 0)) (rz_Qi G (rs_43, 398, 0).2 (rz_tst (rz_i 1) (rs_37, 398, 0))) 0 0 (fun q => rz_b G ≤ q) := rmX12_readMember_o l hG _ _ _ rfl rk_X12_readMember_0
