/-! Runs of load(). -/
set_option maxRecDepth 1000000 in
theorem rk_J7_fill_53178_1_e : rz_run rcJ7_fill_53178 (rz_tst (rz_o) (rs_20, 398, 0)) (fun _ _ _ _ => false) 1000000 5 [rz_r 71, rz_i 4294967295, rz_i 3599, rz_i 4096] [] (rs_26, 398, 0) = true := by decide +kernel
