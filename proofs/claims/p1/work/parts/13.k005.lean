/-! Runs of load(). -/
set_option maxRecDepth 1000000 in
theorem rk_X4_chooseAll_0_e : rz_run rcX4_chooseAll (rz_tst (rz_o) (rs_1, 398, 0)) (fun _ _ _ _ => false) 1000000 9 [rz_r 91, rz_i 16, rz_i 16] [] (rs_4, 398, 0) = true := by decide +kernel
