/-! Runs of load(). -/
set_option maxRecDepth 1000000 in
theorem rk_X12_readAll_0_e : rz_run rcX12_readAll_o (rz_tst (rz_i 1) (rs_33, 398, 0)) (fun _ _ _ _ => false) 1000000 65 [rz_r 215, rz_i 0] [] (rs_62, 398, 0) = true := by decide +kernel
