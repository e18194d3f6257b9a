/-! Runs of load(). -/
set_option maxRecDepth 1000000 in
theorem rk_X12_readMethod_0_e : rz_run rcX12_readMethod (rz_tst (rz_i 1) (rs_37, 398, 0)) (fun _ _ _ _ => false) 1000000 112 [rz_r 215, rz_i 16, rz_i 0, rz_i 10] [] (rs_38, 398, 0) = true := by decide +kernel
