/-! Numbers of the script of which it is known that they are negative (words 100 .. 199), or above 255 (words from 200 on). -/
noncomputable def rz_knw (v : rz_V) (ki : Nat → Bool) (kn kb : Bool) : Bool := Sum.rec ki (fun w => Sum.rec (fun _ => false) (fun x => Sum.rec (fun _ => false) (fun y => rz_if (Nat.ble y 100) false (rz_if (Nat.ble y 200) kn kb)) x) w) v
theorem rz_knw_t {v : rz_V} {ki : Nat → Bool} {kn kb : Bool} (h : rz_knw v ki kn kb = true) : (∃ n, v = rz_i n ∧ ki n = true) ∨ (∃ q, 100 ≤ q ∧ q < 200 ∧ v = rz_y (q + 1) ∧ kn = true) ∨ (∃ q, 200 ≤ q ∧ v = rz_y (q + 1) ∧ kb = true) := by
  rcases v with n | n | n | n
  · exact Or.inl ⟨n, rfl, h⟩
  · cases h
  · cases h
  · have h : rz_if (Nat.ble n 100) false (rz_if (Nat.ble n 200) kn kb) = true := h
    rcases rz_if_t h with ⟨-, h⟩ | ⟨g, h⟩
    · cases h
    · have g : ¬ n ≤ 100 := rz_ble.2.mp g
      obtain ⟨q, rfl⟩ : ∃ q, n = q + 1 := ⟨n - 1, by omega⟩
      rcases rz_if_t h with ⟨g2, h⟩ | ⟨g2, h⟩
      · have g2 : q + 1 ≤ 200 := rz_ble.1.mp g2
        exact Or.inr (Or.inl ⟨q, by omega, by omega, rfl, h⟩)
      · have g2 : ¬ q + 1 ≤ 200 := rz_ble.2.mp g2
        exact Or.inr (Or.inr ⟨q, by omega, rfl, h⟩)
section RZK
variable {G : rz_G} {p : Program} {l : Launch} {e : Env} {R : Room} {s : State} {m : MethodId} {args : Array Value} {below : List Frame} {meth : Method} {c : Code} {Q : State → Prop} {nL pc : Nat} {nz0 : Nat × Nat} {cc : ByteArray} {k : rz_K} {J : rz_J} {Z : rz_Z}
noncomputable def rz_if1K (h : rz_B) (bn bb : Bool) (j : Nat) : rz_B := fun k J Z L S M => rz_hd S (fun v T => rz_knw v (fun x => h k J Z L (rz_i x :: T) M) (rz_if bn (J j L T M) (k L T M)) (rz_if bb (J j L T M) (k L T M)))
noncomputable def rz_if2K (h : rz_B) (bn bb : Bool) (j : Nat) : rz_B := fun k J Z L S M => rz_hd S (fun b T => rz_hd T (fun a U => rz_int b (fun y => rz_knw a (fun x => h k J Z L (rz_i y :: rz_i x :: U) M) (rz_if (Nat.ble y 2147483647) (rz_if bn (J j L U M) (k L U M)) false) (rz_if (Nat.ble y 255) (rz_if bb (J j L U M) (k L U M)) false))))
theorem rz_toI (x : Nat) (h : x ≤ 2147483647) : (nI x).toInt = (x : Int) := nI_toInt (by omega)
theorem rz_i0 : (0 : Int32).toInt = 0 := rfl
theorem rz_i255 : (255 : Int32).toInt = 255 := rfl
noncomputable def rz_ifeqK (j : Nat) : rz_B := rz_if1K (rz_ifeq j) false false j
theorem rz_ifeqK_ok {j tgt : Nat} {off : Int} (hx : p.tables.exec = Jvm.exec) (hb : c.code = cc) (hR : rz_Rg G) (hd : decode cc pc = .ok (.ifCond .eq off, 3)) (ht : (pc : Int) + off = (tgt : Int)) (hk : rz_Ok G p l e R s m args below meth c Q nL nz0 (pc + 3) (k)) (hj : rz_Ok G p l e R s m args below meth c Q nL nz0 (tgt) (J j)) : rz_Ok G p l e R s m args below meth c Q nL nz0 (pc) (rz_ifeqK j k J Z) := by
  intro L S M h ls H locs hL hW hS h0
  have h' := rz_hd_t h
  obtain ⟨v, T, rfl, h'⟩ := h'
  clear h
  rcases rz_knw_t h' with ⟨x, rfl, h⟩ | ⟨q, q1, q2, rfl, h⟩ | ⟨q, q1, rfl, h⟩
  · exact rz_ifeq_ok (Z := Z) hx hb hd ht hk hj L (rz_i x :: T) M h ls H locs hL hW hS h0
  · have h : k L T M = true := h
    have hz := hk L T M h ls H locs hL hW hS h0
    have hn := Int32.lt_iff_toInt_lt.mp (hR.1 q q1 q2)
    rw [rz_i0] at hn
    refine lv_if_eq hx hb hd ht (fun z => ?_) (fun z => ?_)
    · exfalso
      rw [z] at hn; exact absurd hn (by decide)
    · exact hz
  · have h : k L T M = true := h
    have hz := hk L T M h ls H locs hL hW hS h0
    have hn := Int32.lt_iff_toInt_lt.mp (hR.2 q q1)
    rw [rz_i255] at hn
    refine lv_if_eq hx hb hd ht (fun z => ?_) (fun z => ?_)
    · exfalso
      rw [z] at hn; exact absurd hn (by decide)
    · exact hz
noncomputable def rz_icmpeqK (j : Nat) : rz_B := rz_if2K (rz_icmpeq j) false false j
theorem rz_icmpeqK_ok {j tgt : Nat} {off : Int} (hx : p.tables.exec = Jvm.exec) (hb : c.code = cc) (hR : rz_Rg G) (hd : decode cc pc = .ok (.if_icmp .eq off, 3)) (ht : (pc : Int) + off = (tgt : Int)) (hk : rz_Ok G p l e R s m args below meth c Q nL nz0 (pc + 3) (k)) (hj : rz_Ok G p l e R s m args below meth c Q nL nz0 (tgt) (J j)) : rz_Ok G p l e R s m args below meth c Q nL nz0 (pc) (rz_icmpeqK j k J Z) := by
  intro L S M h ls H locs hL hW hS h0
  have h' := rz_hd_t h
  obtain ⟨b, T, rfl, h'⟩ := h'
  have h'' := rz_hd_t h'
  obtain ⟨a, U, rfl, h''⟩ := h''
  have h3 := rz_int_t h''
  obtain ⟨y, rfl, h3⟩ := h3
  clear h h' h''
  rcases rz_knw_t h3 with ⟨x, rfl, h⟩ | ⟨q, q1, q2, rfl, h⟩ | ⟨q, q1, rfl, h⟩
  · exact rz_icmpeq_ok (Z := Z) hx hb hd ht hk hj L (rz_i y :: rz_i x :: U) M h ls H locs hL hW hS h0
  · rcases rz_if_t h with ⟨gy, h⟩ | ⟨-, h⟩
    · have gy := rz_toI y (rz_ble.1.mp gy)
      have h : k L U M = true := h
      have hz := hk L U M h ls H locs hL hW hS h0
      have hn := Int32.lt_iff_toInt_lt.mp (hR.1 q q1 q2)
      rw [rz_i0] at hn
      refine lv_icmp_eq (x := rz_xs G q) (y := nI y) hx hb hd ht (fun z => ?_) (fun z => ?_)
      · exfalso
        rw [z] at hn; omega
      · exact hz
    · cases h
  · rcases rz_if_t h with ⟨gy, h⟩ | ⟨-, h⟩
    · have gy0 : y ≤ 255 := rz_ble.1.mp gy
      have gy := rz_toI y (by omega)
      have h : k L U M = true := h
      have hz := hk L U M h ls H locs hL hW hS h0
      have hn := Int32.lt_iff_toInt_lt.mp (hR.2 q q1)
      rw [rz_i255] at hn
      refine lv_icmp_eq (x := rz_xs G q) (y := nI y) hx hb hd ht (fun z => ?_) (fun z => ?_)
      · exfalso
        rw [z] at hn; omega
      · exact hz
    · cases h
noncomputable def rz_ifneK (j : Nat) : rz_B := rz_if1K (rz_ifne j) true true j
theorem rz_ifneK_ok {j tgt : Nat} {off : Int} (hx : p.tables.exec = Jvm.exec) (hb : c.code = cc) (hR : rz_Rg G) (hd : decode cc pc = .ok (.ifCond .ne off, 3)) (ht : (pc : Int) + off = (tgt : Int)) (hk : rz_Ok G p l e R s m args below meth c Q nL nz0 (pc + 3) (k)) (hj : rz_Ok G p l e R s m args below meth c Q nL nz0 (tgt) (J j)) : rz_Ok G p l e R s m args below meth c Q nL nz0 (pc) (rz_ifneK j k J Z) := by
  intro L S M h ls H locs hL hW hS h0
  have h' := rz_hd_t h
  obtain ⟨v, T, rfl, h'⟩ := h'
  clear h
  rcases rz_knw_t h' with ⟨x, rfl, h⟩ | ⟨q, q1, q2, rfl, h⟩ | ⟨q, q1, rfl, h⟩
  · exact rz_ifne_ok (Z := Z) hx hb hd ht hk hj L (rz_i x :: T) M h ls H locs hL hW hS h0
  · have h : J j L T M = true := h
    have hz := hj L T M h ls H locs hL hW hS h0
    have hn := Int32.lt_iff_toInt_lt.mp (hR.1 q q1 q2)
    rw [rz_i0] at hn
    refine lv_if_ne hx hb hd ht (fun z => ?_) (fun z => ?_)
    · exact hz
    · exfalso
      rw [z] at hn; exact absurd hn (by decide)
  · have h : J j L T M = true := h
    have hz := hj L T M h ls H locs hL hW hS h0
    have hn := Int32.lt_iff_toInt_lt.mp (hR.2 q q1)
    rw [rz_i255] at hn
    refine lv_if_ne hx hb hd ht (fun z => ?_) (fun z => ?_)
    · exact hz
    · exfalso
      rw [z] at hn; exact absurd hn (by decide)
noncomputable def rz_icmpneK (j : Nat) : rz_B := rz_if2K (rz_icmpne j) true true j
theorem rz_icmpneK_ok {j tgt : Nat} {off : Int} (hx : p.tables.exec = Jvm.exec) (hb : c.code = cc) (hR : rz_Rg G) (hd : decode cc pc = .ok (.if_icmp .ne off, 3)) (ht : (pc : Int) + off = (tgt : Int)) (hk : rz_Ok G p l e R s m args below meth c Q nL nz0 (pc + 3) (k)) (hj : rz_Ok G p l e R s m args below meth c Q nL nz0 (tgt) (J j)) : rz_Ok G p l e R s m args below meth c Q nL nz0 (pc) (rz_icmpneK j k J Z) := by
  intro L S M h ls H locs hL hW hS h0
  have h' := rz_hd_t h
  obtain ⟨b, T, rfl, h'⟩ := h'
  have h'' := rz_hd_t h'
  obtain ⟨a, U, rfl, h''⟩ := h''
  have h3 := rz_int_t h''
  obtain ⟨y, rfl, h3⟩ := h3
  clear h h' h''
  rcases rz_knw_t h3 with ⟨x, rfl, h⟩ | ⟨q, q1, q2, rfl, h⟩ | ⟨q, q1, rfl, h⟩
  · exact rz_icmpne_ok (Z := Z) hx hb hd ht hk hj L (rz_i y :: rz_i x :: U) M h ls H locs hL hW hS h0
  · rcases rz_if_t h with ⟨gy, h⟩ | ⟨-, h⟩
    · have gy := rz_toI y (rz_ble.1.mp gy)
      have h : J j L U M = true := h
      have hz := hj L U M h ls H locs hL hW hS h0
      have hn := Int32.lt_iff_toInt_lt.mp (hR.1 q q1 q2)
      rw [rz_i0] at hn
      refine lv_icmp_ne (x := rz_xs G q) (y := nI y) hx hb hd ht (fun z => ?_) (fun z => ?_)
      · exact hz
      · exfalso
        rw [z] at hn; omega
    · cases h
  · rcases rz_if_t h with ⟨gy, h⟩ | ⟨-, h⟩
    · have gy0 : y ≤ 255 := rz_ble.1.mp gy
      have gy := rz_toI y (by omega)
      have h : J j L U M = true := h
      have hz := hj L U M h ls H locs hL hW hS h0
      have hn := Int32.lt_iff_toInt_lt.mp (hR.2 q q1)
      rw [rz_i255] at hn
      refine lv_icmp_ne (x := rz_xs G q) (y := nI y) hx hb hd ht (fun z => ?_) (fun z => ?_)
      · exact hz
      · exfalso
        rw [z] at hn; omega
    · cases h
noncomputable def rz_ifltK (j : Nat) : rz_B := rz_if1K (rz_iflt j) true false j
theorem rz_ifltK_ok {j tgt : Nat} {off : Int} (hx : p.tables.exec = Jvm.exec) (hb : c.code = cc) (hR : rz_Rg G) (hd : decode cc pc = .ok (.ifCond .lt off, 3)) (ht : (pc : Int) + off = (tgt : Int)) (hk : rz_Ok G p l e R s m args below meth c Q nL nz0 (pc + 3) (k)) (hj : rz_Ok G p l e R s m args below meth c Q nL nz0 (tgt) (J j)) : rz_Ok G p l e R s m args below meth c Q nL nz0 (pc) (rz_ifltK j k J Z) := by
  intro L S M h ls H locs hL hW hS h0
  have h' := rz_hd_t h
  obtain ⟨v, T, rfl, h'⟩ := h'
  clear h
  rcases rz_knw_t h' with ⟨x, rfl, h⟩ | ⟨q, q1, q2, rfl, h⟩ | ⟨q, q1, rfl, h⟩
  · exact rz_iflt_ok (Z := Z) hx hb hd ht hk hj L (rz_i x :: T) M h ls H locs hL hW hS h0
  · have h : J j L T M = true := h
    have hz := hj L T M h ls H locs hL hW hS h0
    have hn := Int32.lt_iff_toInt_lt.mp (hR.1 q q1 q2)
    rw [rz_i0] at hn
    refine lv_if_lt hx hb hd ht (fun z => ?_) (fun z => ?_)
    · exact hz
    · exfalso
      apply z
      first | (apply Int32.le_iff_toInt_le.mpr; rw [rz_i0]; omega) | (apply Int32.lt_iff_toInt_lt.mpr; rw [rz_i0]; omega)
  · have h : k L T M = true := h
    have hz := hk L T M h ls H locs hL hW hS h0
    have hn := Int32.lt_iff_toInt_lt.mp (hR.2 q q1)
    rw [rz_i255] at hn
    refine lv_if_lt hx hb hd ht (fun z => ?_) (fun z => ?_)
    · exfalso
      (first | have z := Int32.le_iff_toInt_le.mp z | have z := Int32.lt_iff_toInt_lt.mp z)
      rw [rz_i0] at z
      omega
    · exact hz
noncomputable def rz_icmpltK (j : Nat) : rz_B := rz_if2K (rz_icmplt j) true false j
theorem rz_icmpltK_ok {j tgt : Nat} {off : Int} (hx : p.tables.exec = Jvm.exec) (hb : c.code = cc) (hR : rz_Rg G) (hd : decode cc pc = .ok (.if_icmp .lt off, 3)) (ht : (pc : Int) + off = (tgt : Int)) (hk : rz_Ok G p l e R s m args below meth c Q nL nz0 (pc + 3) (k)) (hj : rz_Ok G p l e R s m args below meth c Q nL nz0 (tgt) (J j)) : rz_Ok G p l e R s m args below meth c Q nL nz0 (pc) (rz_icmpltK j k J Z) := by
  intro L S M h ls H locs hL hW hS h0
  have h' := rz_hd_t h
  obtain ⟨b, T, rfl, h'⟩ := h'
  have h'' := rz_hd_t h'
  obtain ⟨a, U, rfl, h''⟩ := h''
  have h3 := rz_int_t h''
  obtain ⟨y, rfl, h3⟩ := h3
  clear h h' h''
  rcases rz_knw_t h3 with ⟨x, rfl, h⟩ | ⟨q, q1, q2, rfl, h⟩ | ⟨q, q1, rfl, h⟩
  · exact rz_icmplt_ok (Z := Z) hx hb hd ht hk hj L (rz_i y :: rz_i x :: U) M h ls H locs hL hW hS h0
  · rcases rz_if_t h with ⟨gy, h⟩ | ⟨-, h⟩
    · have gy := rz_toI y (rz_ble.1.mp gy)
      have h : J j L U M = true := h
      have hz := hj L U M h ls H locs hL hW hS h0
      have hn := Int32.lt_iff_toInt_lt.mp (hR.1 q q1 q2)
      rw [rz_i0] at hn
      refine lv_icmp_lt (x := rz_xs G q) (y := nI y) hx hb hd ht (fun z => ?_) (fun z => ?_)
      · exact hz
      · exfalso
        apply z
        first | (apply Int32.le_iff_toInt_le.mpr; omega) | (apply Int32.lt_iff_toInt_lt.mpr; omega)
    · cases h
  · rcases rz_if_t h with ⟨gy, h⟩ | ⟨-, h⟩
    · have gy0 : y ≤ 255 := rz_ble.1.mp gy
      have gy := rz_toI y (by omega)
      have h : k L U M = true := h
      have hz := hk L U M h ls H locs hL hW hS h0
      have hn := Int32.lt_iff_toInt_lt.mp (hR.2 q q1)
      rw [rz_i255] at hn
      refine lv_icmp_lt (x := rz_xs G q) (y := nI y) hx hb hd ht (fun z => ?_) (fun z => ?_)
      · exfalso
        (first | have z := Int32.le_iff_toInt_le.mp z | have z := Int32.lt_iff_toInt_lt.mp z)
        omega
      · exact hz
    · cases h
noncomputable def rz_ifgeK (j : Nat) : rz_B := rz_if1K (rz_ifge j) false true j
theorem rz_ifgeK_ok {j tgt : Nat} {off : Int} (hx : p.tables.exec = Jvm.exec) (hb : c.code = cc) (hR : rz_Rg G) (hd : decode cc pc = .ok (.ifCond .ge off, 3)) (ht : (pc : Int) + off = (tgt : Int)) (hk : rz_Ok G p l e R s m args below meth c Q nL nz0 (pc + 3) (k)) (hj : rz_Ok G p l e R s m args below meth c Q nL nz0 (tgt) (J j)) : rz_Ok G p l e R s m args below meth c Q nL nz0 (pc) (rz_ifgeK j k J Z) := by
  intro L S M h ls H locs hL hW hS h0
  have h' := rz_hd_t h
  obtain ⟨v, T, rfl, h'⟩ := h'
  clear h
  rcases rz_knw_t h' with ⟨x, rfl, h⟩ | ⟨q, q1, q2, rfl, h⟩ | ⟨q, q1, rfl, h⟩
  · exact rz_ifge_ok (Z := Z) hx hb hd ht hk hj L (rz_i x :: T) M h ls H locs hL hW hS h0
  · have h : k L T M = true := h
    have hz := hk L T M h ls H locs hL hW hS h0
    have hn := Int32.lt_iff_toInt_lt.mp (hR.1 q q1 q2)
    rw [rz_i0] at hn
    refine lv_if_ge hx hb hd ht (fun z => ?_) (fun z => ?_)
    · exfalso
      (first | have z := Int32.le_iff_toInt_le.mp z | have z := Int32.lt_iff_toInt_lt.mp z)
      rw [rz_i0] at z
      omega
    · exact hz
  · have h : J j L T M = true := h
    have hz := hj L T M h ls H locs hL hW hS h0
    have hn := Int32.lt_iff_toInt_lt.mp (hR.2 q q1)
    rw [rz_i255] at hn
    refine lv_if_ge hx hb hd ht (fun z => ?_) (fun z => ?_)
    · exact hz
    · exfalso
      apply z
      first | (apply Int32.le_iff_toInt_le.mpr; rw [rz_i0]; omega) | (apply Int32.lt_iff_toInt_lt.mpr; rw [rz_i0]; omega)
noncomputable def rz_icmpgeK (j : Nat) : rz_B := rz_if2K (rz_icmpge j) false true j
theorem rz_icmpgeK_ok {j tgt : Nat} {off : Int} (hx : p.tables.exec = Jvm.exec) (hb : c.code = cc) (hR : rz_Rg G) (hd : decode cc pc = .ok (.if_icmp .ge off, 3)) (ht : (pc : Int) + off = (tgt : Int)) (hk : rz_Ok G p l e R s m args below meth c Q nL nz0 (pc + 3) (k)) (hj : rz_Ok G p l e R s m args below meth c Q nL nz0 (tgt) (J j)) : rz_Ok G p l e R s m args below meth c Q nL nz0 (pc) (rz_icmpgeK j k J Z) := by
  intro L S M h ls H locs hL hW hS h0
  have h' := rz_hd_t h
  obtain ⟨b, T, rfl, h'⟩ := h'
  have h'' := rz_hd_t h'
  obtain ⟨a, U, rfl, h''⟩ := h''
  have h3 := rz_int_t h''
  obtain ⟨y, rfl, h3⟩ := h3
  clear h h' h''
  rcases rz_knw_t h3 with ⟨x, rfl, h⟩ | ⟨q, q1, q2, rfl, h⟩ | ⟨q, q1, rfl, h⟩
  · exact rz_icmpge_ok (Z := Z) hx hb hd ht hk hj L (rz_i y :: rz_i x :: U) M h ls H locs hL hW hS h0
  · rcases rz_if_t h with ⟨gy, h⟩ | ⟨-, h⟩
    · have gy := rz_toI y (rz_ble.1.mp gy)
      have h : k L U M = true := h
      have hz := hk L U M h ls H locs hL hW hS h0
      have hn := Int32.lt_iff_toInt_lt.mp (hR.1 q q1 q2)
      rw [rz_i0] at hn
      refine lv_icmp_ge (x := rz_xs G q) (y := nI y) hx hb hd ht (fun z => ?_) (fun z => ?_)
      · exfalso
        (first | have z := Int32.le_iff_toInt_le.mp z | have z := Int32.lt_iff_toInt_lt.mp z)
        omega
      · exact hz
    · cases h
  · rcases rz_if_t h with ⟨gy, h⟩ | ⟨-, h⟩
    · have gy0 : y ≤ 255 := rz_ble.1.mp gy
      have gy := rz_toI y (by omega)
      have h : J j L U M = true := h
      have hz := hj L U M h ls H locs hL hW hS h0
      have hn := Int32.lt_iff_toInt_lt.mp (hR.2 q q1)
      rw [rz_i255] at hn
      refine lv_icmp_ge (x := rz_xs G q) (y := nI y) hx hb hd ht (fun z => ?_) (fun z => ?_)
      · exact hz
      · exfalso
        apply z
        first | (apply Int32.le_iff_toInt_le.mpr; omega) | (apply Int32.lt_iff_toInt_lt.mpr; omega)
    · cases h
noncomputable def rz_ifgtK (j : Nat) : rz_B := rz_if1K (rz_ifgt j) false true j
theorem rz_ifgtK_ok {j tgt : Nat} {off : Int} (hx : p.tables.exec = Jvm.exec) (hb : c.code = cc) (hR : rz_Rg G) (hd : decode cc pc = .ok (.ifCond .gt off, 3)) (ht : (pc : Int) + off = (tgt : Int)) (hk : rz_Ok G p l e R s m args below meth c Q nL nz0 (pc + 3) (k)) (hj : rz_Ok G p l e R s m args below meth c Q nL nz0 (tgt) (J j)) : rz_Ok G p l e R s m args below meth c Q nL nz0 (pc) (rz_ifgtK j k J Z) := by
  intro L S M h ls H locs hL hW hS h0
  have h' := rz_hd_t h
  obtain ⟨v, T, rfl, h'⟩ := h'
  clear h
  rcases rz_knw_t h' with ⟨x, rfl, h⟩ | ⟨q, q1, q2, rfl, h⟩ | ⟨q, q1, rfl, h⟩
  · exact rz_ifgt_ok (Z := Z) hx hb hd ht hk hj L (rz_i x :: T) M h ls H locs hL hW hS h0
  · have h : k L T M = true := h
    have hz := hk L T M h ls H locs hL hW hS h0
    have hn := Int32.lt_iff_toInt_lt.mp (hR.1 q q1 q2)
    rw [rz_i0] at hn
    refine lv_if_gt hx hb hd ht (fun z => ?_) (fun z => ?_)
    · exfalso
      (first | have z := Int32.le_iff_toInt_le.mp z | have z := Int32.lt_iff_toInt_lt.mp z)
      rw [rz_i0] at z
      omega
    · exact hz
  · have h : J j L T M = true := h
    have hz := hj L T M h ls H locs hL hW hS h0
    have hn := Int32.lt_iff_toInt_lt.mp (hR.2 q q1)
    rw [rz_i255] at hn
    refine lv_if_gt hx hb hd ht (fun z => ?_) (fun z => ?_)
    · exact hz
    · exfalso
      apply z
      first | (apply Int32.le_iff_toInt_le.mpr; rw [rz_i0]; omega) | (apply Int32.lt_iff_toInt_lt.mpr; rw [rz_i0]; omega)
noncomputable def rz_icmpgtK (j : Nat) : rz_B := rz_if2K (rz_icmpgt j) false true j
theorem rz_icmpgtK_ok {j tgt : Nat} {off : Int} (hx : p.tables.exec = Jvm.exec) (hb : c.code = cc) (hR : rz_Rg G) (hd : decode cc pc = .ok (.if_icmp .gt off, 3)) (ht : (pc : Int) + off = (tgt : Int)) (hk : rz_Ok G p l e R s m args below meth c Q nL nz0 (pc + 3) (k)) (hj : rz_Ok G p l e R s m args below meth c Q nL nz0 (tgt) (J j)) : rz_Ok G p l e R s m args below meth c Q nL nz0 (pc) (rz_icmpgtK j k J Z) := by
  intro L S M h ls H locs hL hW hS h0
  have h' := rz_hd_t h
  obtain ⟨b, T, rfl, h'⟩ := h'
  have h'' := rz_hd_t h'
  obtain ⟨a, U, rfl, h''⟩ := h''
  have h3 := rz_int_t h''
  obtain ⟨y, rfl, h3⟩ := h3
  clear h h' h''
  rcases rz_knw_t h3 with ⟨x, rfl, h⟩ | ⟨q, q1, q2, rfl, h⟩ | ⟨q, q1, rfl, h⟩
  · exact rz_icmpgt_ok (Z := Z) hx hb hd ht hk hj L (rz_i y :: rz_i x :: U) M h ls H locs hL hW hS h0
  · rcases rz_if_t h with ⟨gy, h⟩ | ⟨-, h⟩
    · have gy := rz_toI y (rz_ble.1.mp gy)
      have h : k L U M = true := h
      have hz := hk L U M h ls H locs hL hW hS h0
      have hn := Int32.lt_iff_toInt_lt.mp (hR.1 q q1 q2)
      rw [rz_i0] at hn
      refine lv_icmp_gt (x := rz_xs G q) (y := nI y) hx hb hd ht (fun z => ?_) (fun z => ?_)
      · exfalso
        (first | have z := Int32.le_iff_toInt_le.mp z | have z := Int32.lt_iff_toInt_lt.mp z)
        omega
      · exact hz
    · cases h
  · rcases rz_if_t h with ⟨gy, h⟩ | ⟨-, h⟩
    · have gy0 : y ≤ 255 := rz_ble.1.mp gy
      have gy := rz_toI y (by omega)
      have h : J j L U M = true := h
      have hz := hj L U M h ls H locs hL hW hS h0
      have hn := Int32.lt_iff_toInt_lt.mp (hR.2 q q1)
      rw [rz_i255] at hn
      refine lv_icmp_gt (x := rz_xs G q) (y := nI y) hx hb hd ht (fun z => ?_) (fun z => ?_)
      · exact hz
      · exfalso
        apply z
        first | (apply Int32.le_iff_toInt_le.mpr; omega) | (apply Int32.lt_iff_toInt_lt.mpr; omega)
    · cases h
noncomputable def rz_ifleK (j : Nat) : rz_B := rz_if1K (rz_ifle j) true false j
theorem rz_ifleK_ok {j tgt : Nat} {off : Int} (hx : p.tables.exec = Jvm.exec) (hb : c.code = cc) (hR : rz_Rg G) (hd : decode cc pc = .ok (.ifCond .le off, 3)) (ht : (pc : Int) + off = (tgt : Int)) (hk : rz_Ok G p l e R s m args below meth c Q nL nz0 (pc + 3) (k)) (hj : rz_Ok G p l e R s m args below meth c Q nL nz0 (tgt) (J j)) : rz_Ok G p l e R s m args below meth c Q nL nz0 (pc) (rz_ifleK j k J Z) := by
  intro L S M h ls H locs hL hW hS h0
  have h' := rz_hd_t h
  obtain ⟨v, T, rfl, h'⟩ := h'
  clear h
  rcases rz_knw_t h' with ⟨x, rfl, h⟩ | ⟨q, q1, q2, rfl, h⟩ | ⟨q, q1, rfl, h⟩
  · exact rz_ifle_ok (Z := Z) hx hb hd ht hk hj L (rz_i x :: T) M h ls H locs hL hW hS h0
  · have h : J j L T M = true := h
    have hz := hj L T M h ls H locs hL hW hS h0
    have hn := Int32.lt_iff_toInt_lt.mp (hR.1 q q1 q2)
    rw [rz_i0] at hn
    refine lv_if_le hx hb hd ht (fun z => ?_) (fun z => ?_)
    · exact hz
    · exfalso
      apply z
      first | (apply Int32.le_iff_toInt_le.mpr; rw [rz_i0]; omega) | (apply Int32.lt_iff_toInt_lt.mpr; rw [rz_i0]; omega)
  · have h : k L T M = true := h
    have hz := hk L T M h ls H locs hL hW hS h0
    have hn := Int32.lt_iff_toInt_lt.mp (hR.2 q q1)
    rw [rz_i255] at hn
    refine lv_if_le hx hb hd ht (fun z => ?_) (fun z => ?_)
    · exfalso
      (first | have z := Int32.le_iff_toInt_le.mp z | have z := Int32.lt_iff_toInt_lt.mp z)
      rw [rz_i0] at z
      omega
    · exact hz
noncomputable def rz_icmpleK (j : Nat) : rz_B := rz_if2K (rz_icmple j) true false j
theorem rz_icmpleK_ok {j tgt : Nat} {off : Int} (hx : p.tables.exec = Jvm.exec) (hb : c.code = cc) (hR : rz_Rg G) (hd : decode cc pc = .ok (.if_icmp .le off, 3)) (ht : (pc : Int) + off = (tgt : Int)) (hk : rz_Ok G p l e R s m args below meth c Q nL nz0 (pc + 3) (k)) (hj : rz_Ok G p l e R s m args below meth c Q nL nz0 (tgt) (J j)) : rz_Ok G p l e R s m args below meth c Q nL nz0 (pc) (rz_icmpleK j k J Z) := by
  intro L S M h ls H locs hL hW hS h0
  have h' := rz_hd_t h
  obtain ⟨b, T, rfl, h'⟩ := h'
  have h'' := rz_hd_t h'
  obtain ⟨a, U, rfl, h''⟩ := h''
  have h3 := rz_int_t h''
  obtain ⟨y, rfl, h3⟩ := h3
  clear h h' h''
  rcases rz_knw_t h3 with ⟨x, rfl, h⟩ | ⟨q, q1, q2, rfl, h⟩ | ⟨q, q1, rfl, h⟩
  · exact rz_icmple_ok (Z := Z) hx hb hd ht hk hj L (rz_i y :: rz_i x :: U) M h ls H locs hL hW hS h0
  · rcases rz_if_t h with ⟨gy, h⟩ | ⟨-, h⟩
    · have gy := rz_toI y (rz_ble.1.mp gy)
      have h : J j L U M = true := h
      have hz := hj L U M h ls H locs hL hW hS h0
      have hn := Int32.lt_iff_toInt_lt.mp (hR.1 q q1 q2)
      rw [rz_i0] at hn
      refine lv_icmp_le (x := rz_xs G q) (y := nI y) hx hb hd ht (fun z => ?_) (fun z => ?_)
      · exact hz
      · exfalso
        apply z
        first | (apply Int32.le_iff_toInt_le.mpr; omega) | (apply Int32.lt_iff_toInt_lt.mpr; omega)
    · cases h
  · rcases rz_if_t h with ⟨gy, h⟩ | ⟨-, h⟩
    · have gy0 : y ≤ 255 := rz_ble.1.mp gy
      have gy := rz_toI y (by omega)
      have h : k L U M = true := h
      have hz := hk L U M h ls H locs hL hW hS h0
      have hn := Int32.lt_iff_toInt_lt.mp (hR.2 q q1)
      rw [rz_i255] at hn
      refine lv_icmp_le (x := rz_xs G q) (y := nI y) hx hb hd ht (fun z => ?_) (fun z => ?_)
      · exfalso
        (first | have z := Int32.le_iff_toInt_le.mp z | have z := Int32.lt_iff_toInt_lt.mp z)
        omega
      · exact hz
    · cases h
noncomputable def rz_tswK (lo : Nat) (js : List Nat) (d : Nat) : rz_B := fun k J Z L S M => rz_hd S (fun v T => rz_knw v (fun x => rz_tsw lo js d k J Z L (rz_i x :: T) M) (J d L T M) (rz_if (Nat.ble (Nat.add lo (List.length js)) 256) (J d L T M) false))
theorem rz_tswK_ok {pcs js : List Nat} {d lo len : Nat} {dflt l1 h1 : Int} {offs : Array Int} (hx : p.tables.exec = Jvm.exec) (hb : c.code = cc) (hR : rz_Rg G) (hd : decode cc pc = .ok (.tableswitch dflt l1 h1 offs, len)) (ht : rz_tab pcs js d pc lo dflt l1 h1 offs = true) (hj : ∀ j, rz_Ok G p l e R s m args below meth c Q nL nz0 (pcs.getD j 0) (J j)) : rz_Ok G p l e R s m args below meth c Q nL nz0 (pc) (rz_tswK lo js d k J Z) := by
  intro L S M h ls H locs hL hW hS h0
  have h' := rz_hd_t h
  obtain ⟨v, T, rfl, h'⟩ := h'
  clear h
  have hT := ht
  unfold rz_tab at ht
  simp only [Bool.and_eq_true, beq_iff_eq, List.all_eq_true, List.mem_range] at ht
  obtain ⟨⟨⟨hl, hh⟩, hdf⟩, hall⟩ := ht
  rcases rz_knw_t h' with ⟨x, rfl, h⟩ | ⟨q, q1, q2, rfl, h⟩ | ⟨q, q1, rfl, h⟩
  · exact rz_tsw_ok (k := k) (Z := Z) hx hb hd hT hj L (rz_i x :: T) M h ls H locs hL hW hS h0
  · have hn := Int32.lt_iff_toInt_lt.mp (hR.1 q q1 q2)
    rw [rz_i0] at hn
    exact lv_tableOut (x := rz_xs G q) hx hb hd (Or.inl (by omega)) hdf (hj d L T M h ls H locs hL hW hS h0)
  · rcases rz_if_t h with ⟨g, h⟩ | ⟨-, h⟩
    · have g : lo + js.length ≤ 256 := rz_ble.1.mp g
      have hn := Int32.lt_iff_toInt_lt.mp (hR.2 q q1)
      rw [rz_i255] at hn
      exact lv_tableOut (x := rz_xs G q) hx hb hd (Or.inr (by omega)) hdf (hj d L T M h ls H locs hL hW hS h0)
    · cases h
-- the law's script: its reference is rz_r 3000001
noncomputable def rz_scr (v : rz_V) (a : Bool) : Bool := rz_ref v (fun q => rz_if (Nat.beq q 3000000) a false)
theorem rz_scr_t {v : rz_V} {a : Bool} (h : rz_scr v a = true) : v = rz_r 3000001 ∧ a = true := by
  replace h := rz_ref_t h
  obtain ⟨q, rfl, h⟩ := h
  rcases rz_if_t h with ⟨g, h⟩ | ⟨-, h⟩
  · have g : q = 3000000 := rz_beq.1.mp g
    subst g
    exact ⟨rfl, h⟩
  · cases h
noncomputable def rz_slen (n : Nat) : rz_B := fun k _ _ L S M => rz_hd S (fun o T => rz_scr o (k L (rz_i n :: T) M))
theorem rz_slen_ok {n : Nat} {xs : Nat → Int32} (hx : p.tables.exec = Jvm.exec) (hb : c.code = cc) (hX : va_X (rz_ad G 3000000) n xs s s.heap) (hbl : rz_ad G 3000000 < s.heap.size) (hbA : ¬ rz_b G ≤ rz_ad G 3000000) (hd : decode cc pc = .ok (.arraylength, 1)) (hk : rz_Ok G p l e R s m args below meth c Q nL nz0 (pc + 1) (k)) : rz_Ok G p l e R s m args below meth c Q nL nz0 (pc) (rz_slen n k J Z) := by
  intro L S M h ls H locs hL hW hS h0
  replace h := rz_hd_t h
  obtain ⟨o, T, rfl, h⟩ := h
  obtain ⟨rfl, h⟩ := rz_scr_t h
  exact va_slen hx hb hX hbl hbA hS hd (hk L (rz_i n :: T) M h ls H locs hL hW hS h0)
noncomputable def rz_sld (vals : List rz_V) : rz_B := fun k _ _ L S M => rz_hd S (fun i T => rz_hd T (fun o U => rz_int i (fun x => rz_scr o (rz_nth x vals (fun v => rz_isI v (k L (v :: U) M))))))
theorem rz_sld_ok {n : Nat} {xs : Nat → Int32} {vals : List rz_V} (hx : p.tables.exec = Jvm.exec) (hb : c.code = cc) (hX : va_X (rz_ad G 3000000) n xs s s.heap) (hbl : rz_ad G 3000000 < s.heap.size) (hbA : ¬ rz_b G ≤ rz_ad G 3000000) (hn : vals.length = n) (hn2 : n ≤ 6) (hv : ∀ (i : Nat) (v : rz_V), vals[i]? = some v → rz_v G v = .int (xs i)) (hd : decode cc pc = .ok (.iaload, 1)) (hk : rz_Ok G p l e R s m args below meth c Q nL nz0 (pc + 1) (k)) : rz_Ok G p l e R s m args below meth c Q nL nz0 (pc) (rz_sld vals k J Z) := by
  intro L S M h ls H locs hL hW hS h0
  replace h := rz_hd_t h
  obtain ⟨i, T, rfl, h⟩ := h
  replace h := rz_hd_t h
  obtain ⟨o, U, rfl, h⟩ := h
  replace h := rz_int_t h
  obtain ⟨x, rfl, h⟩ := h
  obtain ⟨rfl, h⟩ := rz_scr_t h
  obtain ⟨v, hv1, h⟩ := rz_nth_t h
  obtain ⟨-, -, h⟩ := rz_v_int G L 0 h
  have hxl : x < vals.length := (List.getElem?_eq_some_iff.mp hv1).1
  have hz := hk L (v :: U) M h ls H locs hL hW hS h0
  rw [List.map_cons, hv x v hv1] at hz
  refine va_sld hx hb hX hbl hbA hS (i := nI x) (vp_in_nI (by omega) (by omega)) hd ?_
  rw [nI_clamp (by omega)]
  exact hz
/-- the first number of the script, its low six bits: known ahead -/
noncomputable def rz_and6 (w : rz_V) (n : Nat) : rz_B := fun k _ _ L S M => rz_hd S (fun b T => rz_hd T (fun a U => rz_int b (fun y => rz_if (Nat.beq y 63) (rz_if (rz_veq a w) (k L (rz_i n :: U) M) false) false)))
theorem rz_and6_ok {wv : rz_V} {n : Nat} {x : Int32} (hx : p.tables.exec = Jvm.exec) (hb : c.code = cc) (hw : rz_v G wv = .int x) (hn : x &&& nI 63 = nI n) (hd : decode cc pc = .ok (.iand, 1)) (hk : rz_Ok G p l e R s m args below meth c Q nL nz0 (pc + 1) (k)) : rz_Ok G p l e R s m args below meth c Q nL nz0 (pc) (rz_and6 wv n k J Z) := by
  intro L S M h ls H locs hL hW hS h0
  replace h := rz_hd_t h
  obtain ⟨b, T, rfl, h⟩ := h
  replace h := rz_hd_t h
  obtain ⟨a, U, rfl, h⟩ := h
  replace h := rz_int_t h
  obtain ⟨y, rfl, h⟩ := h
  rcases rz_if_t h with ⟨g1, h1⟩ | ⟨-, h1⟩
  · rcases rz_if_t h1 with ⟨g2, h2⟩ | ⟨-, h2⟩
    · have e1 : y = 63 := rz_beq.1.mp g1
      have hz := hk L (rz_i n :: U) M h2 ls H locs hL hW hS h0
      rw [List.map_cons, List.map_cons, rz_veq_t g2, hw, e1]
      refine lv_iand (x := x) (y := nI 63) hx hb hd ?_
      rw [hn]
      exact hz
    · cases h2
  · cases h1
end RZK
