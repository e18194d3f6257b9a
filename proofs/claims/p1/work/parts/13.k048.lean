/-! Runs of load(). -/
set_option maxRecDepth 1000000 in
theorem rk_X12_readMember_1 : rgX12_readMember_o [rz_r 215, rz_i 16] (rs_37, 398, 0) (rz_tst (rz_i 1) (rs_40, 398, 0)) = true := by decide +kernel
