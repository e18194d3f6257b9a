/-! The law's runs behind the making: a call each. -/
noncomputable def lw_run (nn : Nat) (vals : List rz_V) (o : Nat) : Bool := rz_run (rcL nn vals (rz_y 1) o) (fun _ _ => false) (fun _ _ _ _ => false) 1000 0 lwL [] lwM
def lw_kn (o : Nat) : Bool := Nat.beq o 0 || Nat.beq o 1 || Nat.beq o 2 || Nat.beq o 5 || Nat.beq o 27 || Nat.beq o 29
set_option maxRecDepth 1000000 in
theorem lw_rA : ∀ o, o < 64 → (lw_kn o || lw_run 6 [rz_y 1, rz_y 2, rz_y 3, rz_y 4, rz_y 5, rz_y 6] o) = true := by decide +kernel
set_option maxRecDepth 1000000 in
theorem lw_rN1 : lw_run 6 [rz_y 1, rz_y 101, rz_y 3, rz_y 4, rz_y 5, rz_y 6] 1 = true := by decide +kernel
set_option maxRecDepth 1000000 in
theorem lw_rB1 : lw_run 6 [rz_y 1, rz_y 201, rz_y 3, rz_y 4, rz_y 5, rz_y 6] 1 = true := by decide +kernel
set_option maxRecDepth 1000000 in
theorem lw_rC1 : ∀ c, c < 256 → lw_run 6 [rz_y 1, rz_i c, rz_y 3, rz_y 4, rz_y 5, rz_y 6] 1 = true := by decide +kernel
set_option maxRecDepth 1000000 in
theorem lw_rN2 : lw_run 6 [rz_y 1, rz_y 101, rz_y 3, rz_y 4, rz_y 5, rz_y 6] 2 = true := by decide +kernel
set_option maxRecDepth 1000000 in
theorem lw_rB2 : lw_run 6 [rz_y 1, rz_y 201, rz_y 3, rz_y 4, rz_y 5, rz_y 6] 2 = true := by decide +kernel
set_option maxRecDepth 1000000 in
theorem lw_rC2 : ∀ c, c < 256 → lw_run 6 [rz_y 1, rz_i c, rz_y 3, rz_y 4, rz_y 5, rz_y 6] 2 = true := by decide +kernel
set_option maxRecDepth 1000000 in
theorem lw_rN5 : lw_run 6 [rz_y 1, rz_y 101, rz_y 3, rz_y 4, rz_y 5, rz_y 6] 5 = true := by decide +kernel
set_option maxRecDepth 1000000 in
theorem lw_rB5 : lw_run 6 [rz_y 1, rz_y 201, rz_y 3, rz_y 4, rz_y 5, rz_y 6] 5 = true := by decide +kernel
set_option maxRecDepth 1000000 in
theorem lw_rC5 : ∀ c, c < 256 → lw_run 6 [rz_y 1, rz_i c, rz_y 3, rz_y 4, rz_y 5, rz_y 6] 5 = true := by decide +kernel
set_option maxRecDepth 1000000 in
theorem lw_rN27 : lw_run 6 [rz_y 1, rz_y 101, rz_y 3, rz_y 4, rz_y 5, rz_y 6] 27 = true := by decide +kernel
set_option maxRecDepth 1000000 in
theorem lw_rB27 : lw_run 6 [rz_y 1, rz_y 201, rz_y 3, rz_y 4, rz_y 5, rz_y 6] 27 = true := by decide +kernel
set_option maxRecDepth 1000000 in
theorem lw_rC27 : ∀ c, c < 256 → lw_run 6 [rz_y 1, rz_i c, rz_y 3, rz_y 4, rz_y 5, rz_y 6] 27 = true := by decide +kernel
set_option maxRecDepth 1000000 in
theorem lw_rN29 : lw_run 6 [rz_y 1, rz_y 101, rz_y 3, rz_y 4, rz_y 5, rz_y 6] 29 = true := by decide +kernel
set_option maxRecDepth 1000000 in
theorem lw_rB29 : lw_run 6 [rz_y 1, rz_y 201, rz_y 3, rz_y 4, rz_y 5, rz_y 6] 29 = true := by decide +kernel
set_option maxRecDepth 1000000 in
theorem lw_rC29 : ∀ c, c < 256 → lw_run 6 [rz_y 1, rz_i c, rz_y 3, rz_y 4, rz_y 5, rz_y 6] 29 = true := by decide +kernel
set_option maxRecDepth 1000000 in
theorem lw_rS0 : ∀ o, o < 64 → lw_run 0 [] o = true := by decide +kernel
set_option maxRecDepth 1000000 in
theorem lw_rS1 : ∀ o, o < 64 → lw_run 1 [rz_y 1] o = true := by decide +kernel
set_option maxRecDepth 1000000 in
theorem lw_rS2 : ∀ o, o < 64 → lw_run 2 [rz_y 1, rz_y 2] o = true := by decide +kernel
set_option maxRecDepth 1000000 in
theorem lw_rS3 : ∀ o, o < 64 → lw_run 3 [rz_y 1, rz_y 2, rz_y 3] o = true := by decide +kernel
set_option maxRecDepth 1000000 in
theorem lw_rS4 : ∀ o, o < 64 → lw_run 4 [rz_y 1, rz_y 2, rz_y 3, rz_y 4] o = true := by decide +kernel
set_option maxRecDepth 1000000 in
theorem lw_rS5 : ∀ o, o < 64 → lw_run 5 [rz_y 1, rz_y 2, rz_y 3, rz_y 4, rz_y 5] o = true := by decide +kernel
