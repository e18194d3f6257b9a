/-! Runs of load(). -/
set_option maxRecDepth 1000000 in
theorem rk_J1_inflate_03870_1_e : rz_run rcJ1_inflate_03870 (rz_tst (rz_o) (rs_67, 90, 0)) (fun _ _ _ _ => false) 1000000 2 [rz_r 89, rz_i 1011, rz_r 90, rz_i 1011, rz_i 1192, rz_i 1011] [] (rs_70, 90, 0) = true := by decide +kernel
