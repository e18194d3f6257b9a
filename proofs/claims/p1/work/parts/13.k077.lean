/-! Runs of load(). -/
set_option maxRecDepth 1000000 in
theorem rk_J1_inflate_03870_0_e : rz_run rcJ1_inflate_03870 (rz_tst (rz_o) (rs_64, 81, 0)) (fun _ _ _ _ => false) 1000000 2 [rz_r 80, rz_i 337, rz_r 81, rz_i 337, rz_i 525, rz_i 337] [] (rs_65, 81, 0) = true := by decide +kernel
