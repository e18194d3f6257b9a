/-! Runs of load(). -/
set_option maxRecDepth 1000000 in
theorem rk_X12_link_0_e : rz_run rcX12_link (rz_tst (rz_i 0) (rs_34, 398, 0)) (fun _ _ _ _ => false) 1000000 10 [rz_r 215, rz_o, rz_o, rz_o] [] (rs_35, 398, 0) = true := by decide +kernel
