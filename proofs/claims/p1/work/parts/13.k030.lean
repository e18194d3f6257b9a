/-! Runs of load(). -/
set_option maxRecDepth 1000000 in
theorem rk_X9_cut_0_e : rz_run rcX9_cut (rz_tst (rz_o) (rs_28, 398, 0)) (fun _ _ _ _ => false) 1000000 15 [rz_r 66, rz_r 90, rz_i 1192, rz_i 677, rz_i 139] [] (rs_29, 398, 0) = true := by decide +kernel
