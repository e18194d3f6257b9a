/-! Runs of load(). -/
set_option maxRecDepth 1000000 in
theorem rk_X12_load_0 : rgX12_load_o [rz_r 215] (rs_32, 398, 0) (rz_tst (rz_i 13) (rs_34, 398, 0)) = true := by decide +kernel
