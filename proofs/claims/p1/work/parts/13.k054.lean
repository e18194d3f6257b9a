/-! Runs of load(). -/
set_option maxRecDepth 1000000 in
theorem rk_X12_load_0 : rgX12_load_o [rz_r 215] (rs_12, 398, 0) (rz_tst (rz_i 13) (rs_14, 398, 0)) = true := by decide +kernel
