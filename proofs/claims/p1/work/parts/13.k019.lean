/-! Runs of load(). -/
set_option maxRecDepth 1000000 in
theorem rk_J7_fill_53178_0_e : rz_run rcJ7_fill_53178 (rz_tst (rz_o) (rs_8, 124, 0)) (fun _ _ _ _ => false) 1000000 5 [rz_r 106, rz_i 4294967295, rz_i 5999, rz_i 6160] [] (rs_18, 124, 0) = true := by decide +kernel
