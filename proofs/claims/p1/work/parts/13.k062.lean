/-! Runs of load(). -/
set_option maxRecDepth 1000000 in
theorem rk_X12_readClass_3_e : rz_run rcX12_readClass_o (rz_tst (rz_i 1) (rs_53, 398, 0)) (fun _ _ _ _ => false) 1000000 192 [rz_r 215, rz_i 0, rz_i 0, rz_i 0, rz_i 16, rz_i 0] [] (rs_55, 398, 0) = true := by decide +kernel
