/-! Runs of load(). -/
set_option maxRecDepth 1000000 in
theorem rk_X12_readAll_0_s6 : rz_run rcX12_readAll_o (rz_tst (rz_i 1) (rs_33, 398, 0)) (rz_tJ 65 [rz_r 215, rz_i 0] [] (rs_53, 398, 0)) 4 65 [rz_r 215, rz_i 0] [] (rs_61, 398, 0) = true := by decide +kernel
