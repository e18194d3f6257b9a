/-! The grounds at the law's entry. -/
theorem rz_Sc {N : Nat} {len : List Nat} {byt : List (List Int32)} {adK adV aK aV : Nat → Nat} {A : Nat → Prop} {U : State} {H : Heap} (h : vk_S N len byt adK adV A U H) (e1 : ∀ i, i < N → aK i = adK i) (e2 : ∀ i, i < N → aV i = adV i) : vk_S N len byt aK aV A U H :=
  ⟨fun i hi => by rw [e1 i hi, e2 i hi]; exact h.1 i hi, fun i j hi hj e => h.2 i j hi hj (by rw [← e1 i hi, ← e1 j hj]; exact e)⟩
def lw_ad (hp b : Nat) (adK adV : Nat → Nat) : Nat → Nat := fun q => if q < 512 then hp + q else if q = 3000000 then b else if q < 2000000 then adK (q - 1000000) else adV (q - 2000000)
theorem lw_adA {hp b : Nat} {adK adV : Nat → Nat} {q : Nat} (h : q < 512) : lw_ad hp b adK adV q = hp + q := if_pos h
theorem lw_adK {hp b : Nat} {adK adV : Nat → Nat} {i : Nat} (h : i < 18) : lw_ad hp b adK adV (1000000 + i) = adK i := by
  unfold lw_ad
  rw [if_neg (by omega), if_neg (by omega), if_pos (by omega), Nat.add_sub_cancel_left]
theorem lw_adV {hp b : Nat} {adK adV : Nat → Nat} {i : Nat} (h : i < 18) : lw_ad hp b adK adV (2000000 + i) = adV i := by
  unfold lw_ad
  rw [if_neg (by omega), if_neg (by omega), if_neg (by omega), Nat.add_sub_cancel_left]
theorem lw_adS {hp b : Nat} {adK adV : Nat → Nat} : lw_ad hp b adK adV 3000000 = b := by
  unfold lw_ad
  rw [if_neg (by omega), if_pos rfl]
def lw_xs (xs : Nat → Int32) : Nat → Int32 := fun q => if q < 100 then xs q else if q < 200 then (if xs 1 < 0 then xs 1 else -1) else (if 255 < xs 1 then xs 1 else 256)
theorem lw_Rg {G : rz_G} {xs : Nat → Int32} (h : rz_xs G = lw_xs xs) : rz_Rg G := by
  refine ⟨fun q h1 h2 => ?_, fun q h1 => ?_⟩
  · rw [h]
    unfold lw_xs
    rw [if_neg (by omega), if_pos h2]
    split
    · assumption
    · decide
  · rw [h]
    unfold lw_xs
    rw [if_neg (by omega), if_neg (by omega)]
    split
    · assumption
    · decide
theorem lw_ground {s : State} {b : Nat} (xs : Nat → Int32) (hts : ∀ w ∈ lw_tbl, w.before #[Value.ref b] s = true) (h : (Jvm.Cond.and given_1 narrow_1).before #[Value.ref b] s = true) : ∃ G : rz_G, rz_Gd G ∧ rz_Kn G s ∧ rz_b G = s.heap.size ∧ rz_ad G 3000000 = b ∧ rz_xs G = lw_xs xs := by
  have hA : ∀ a : Nat, a < s.heap.size → ¬ (fun q : Nat => s.heap.size ≤ q) a := fun a h1 h2 => Nat.not_le.mpr h1 h2
  obtain ⟨c0, i0, hk0⟩ := u_known (C := RJ0) (T := TJ0) (N := 4) (n := 4) hts (fun w hw => by
    obtain ⟨k, hk, rfl⟩ := List.mem_map.mp hw
    exact lw_u0_4 k (List.mem_range.mp hk)) (hts _ (lw_in2 _ (List.mem_of_getElem? (i := 149) (by decide +kernel))))
  obtain ⟨c1, i1, hk1⟩ := u_known (C := RJ4) (T := TJ4) (N := 4) (n := 4) hts (fun w hw => by
    obtain ⟨k, hk, rfl⟩ := List.mem_map.mp hw
    exact lw_u1_4 k (List.mem_range.mp hk)) (hts _ (lw_in1 _ (List.mem_of_getElem? (i := 208) (by decide +kernel))))
  obtain ⟨c2, i2, hk2⟩ := u_known (C := RX0) (T := TX0) (N := 12) (n := 12) hts (fun w hw => by
    obtain ⟨k, hk, rfl⟩ := List.mem_map.mp hw
    exact lw_u2_12 k (List.mem_range.mp hk)) (hts _ (lw_in3 _ (List.mem_of_getElem? (i := 72) (by decide +kernel))))
  obtain ⟨c3, i3, hk3⟩ := u_known (C := RX1) (T := TX1) (N := 12) (n := 12) hts (fun w hw => by
    obtain ⟨k, hk, rfl⟩ := List.mem_map.mp hw
    exact lw_u3_12 k (List.mem_range.mp hk)) (hts _ (lw_in4 _ (List.mem_of_getElem? (i := 233) (by decide +kernel))))
  obtain ⟨c4, i4, hk4⟩ := u_known (C := RX2) (T := TX2) (N := 22) (n := 22) hts (fun w hw => by
    obtain ⟨k, hk, rfl⟩ := List.mem_map.mp hw
    exact lw_u4_22 k (List.mem_range.mp hk)) (hts _ (lw_in3 _ (List.mem_of_getElem? (i := 119) (by decide +kernel))))
  obtain ⟨c5, i5, hk5⟩ := u_known (C := RX3) (T := TX3) (N := 10) (n := 10) hts (fun w hw => by
    obtain ⟨k, hk, rfl⟩ := List.mem_map.mp hw
    exact lw_u5_10 k (List.mem_range.mp hk)) (hts _ (lw_in4 _ (List.mem_of_getElem? (i := 184) (by decide +kernel))))
  obtain ⟨c6, i6, hk6⟩ := u_known (C := RX4) (T := TX4) (N := 4) (n := 4) hts (fun w hw => by
    obtain ⟨k, hk, rfl⟩ := List.mem_map.mp hw
    exact lw_u6_4 k (List.mem_range.mp hk)) (hts _ (lw_in3 _ (List.mem_of_getElem? (i := 51) (by decide +kernel))))
  obtain ⟨c7, i7, hk7⟩ := u_known (C := RX5) (T := TX5) (N := 19) (n := 19) hts (fun w hw => by
    obtain ⟨k, hk, rfl⟩ := List.mem_map.mp hw
    exact lw_u7_19 k (List.mem_range.mp hk)) (hts _ (lw_in5 _ (List.mem_of_getElem? (i := 42) (by decide +kernel))))
  obtain ⟨c8, i8, hk8⟩ := u_known (C := RX6) (T := TX6) (N := 17) (n := 17) hts (fun w hw => by
    obtain ⟨k, hk, rfl⟩ := List.mem_map.mp hw
    exact lw_u8_17 k (List.mem_range.mp hk)) (hts _ (lw_in4 _ (List.mem_of_getElem? (i := 62) (by decide +kernel))))
  obtain ⟨c9, i9, hk9⟩ := u_known (C := RX7) (T := TX7) (N := 22) (n := 22) hts (fun w hw => by
    obtain ⟨k, hk, rfl⟩ := List.mem_map.mp hw
    exact lw_u9_22 k (List.mem_range.mp hk)) (hts _ (lw_in1 _ (List.mem_of_getElem? (i := 37) (by decide +kernel))))
  obtain ⟨c10, i10, hk10⟩ := u_known (C := RX8) (T := TX8) (N := 18) (n := 18) hts (fun w hw => by
    obtain ⟨k, hk, rfl⟩ := List.mem_map.mp hw
    exact lw_u10_18 k (List.mem_range.mp hk)) (hts _ (lw_in4 _ (List.mem_of_getElem? (i := 123) (by decide +kernel))))
  obtain ⟨c11, i11, hk11⟩ := u_known (C := RX9) (T := TX9) (N := 19) (n := 19) hts (fun w hw => by
    obtain ⟨k, hk, rfl⟩ := List.mem_map.mp hw
    exact lw_u11_19 k (List.mem_range.mp hk)) (hts _ (lw_in1 _ (List.mem_of_getElem? (i := 202) (by decide +kernel))))
  obtain ⟨c12, i12, hk12⟩ := u_known (C := RX10) (T := TX10) (N := 21) (n := 21) hts (fun w hw => by
    obtain ⟨k, hk, rfl⟩ := List.mem_map.mp hw
    exact lw_u12_21 k (List.mem_range.mp hk)) (hts _ (lw_in3 _ (List.mem_of_getElem? (i := 226) (by decide +kernel))))
  obtain ⟨c13, i13, hk13⟩ := u_known (C := RX11) (T := TX11) (N := 16) (n := 16) hts (fun w hw => by
    obtain ⟨k, hk, rfl⟩ := List.mem_map.mp hw
    exact lw_u13_16 k (List.mem_range.mp hk)) (hts _ (lw_in1 _ (List.mem_of_getElem? (i := 29) (by decide +kernel))))
  obtain ⟨c14, i14, hk14⟩ := u_known (C := RX12) (T := TX12) (N := 257) (n := 257) hts (fun w hw => by
    obtain ⟨k, hk, rfl⟩ := List.mem_map.mp hw
    exact lw_u14_257 k (List.mem_range.mp hk)) (hts _ (lw_in13 _ (List.mem_of_getElem? (i := 220) (by decide +kernel))))
  obtain ⟨dC, dI, hKc⟩ : ∃ (dC : Nat → ClassId) (dI : Nat → Nat → Nat), ∀ (k : Nat) (q : vw_C), vwCl[k]? = some q → u_Kn s q.1 q.2.1 q.2.2 (dC k) (dI k) := by
    refine ⟨fun k => match k with | 0 => c0 | 1 => c1 | 2 => c2 | 3 => c3 | 4 => c4 | 5 => c5 | 6 => c6 | 7 => c7 | 8 => c8 | 9 => c9 | 10 => c10 | 11 => c11 | 12 => c12 | 13 => c13 | 14 => c14 | _ => c0, fun k => match k with | 0 => i0 | 1 => i1 | 2 => i2 | 3 => i3 | 4 => i4 | 5 => i5 | 6 => i6 | 7 => i7 | 8 => i8 | 9 => i9 | 10 => i10 | 11 => i11 | 12 => i12 | 13 => i13 | 14 => i14 | _ => i0, ?_⟩
    intro k q hq
    match k, hq with
    | 0, hq => cases hq; exact hk0
    | 1, hq => cases hq; exact hk1
    | 2, hq => cases hq; exact hk2
    | 3, hq => cases hq; exact hk3
    | 4, hq => cases hq; exact hk4
    | 5, hq => cases hq; exact hk5
    | 6, hq => cases hq; exact hk6
    | 7, hq => cases hq; exact hk7
    | 8, hq => cases hq; exact hk8
    | 9, hq => cases hq; exact hk9
    | 10, hq => cases hq; exact hk10
    | 11, hq => cases hq; exact hk11
    | 12, hq => cases hq; exact hk12
    | 13, hq => cases hq; exact hk13
    | 14, hq => cases hq; exact hk14
    | k + 15, hq => simp [vwCl] at hq
  obtain ⟨a2, k2, p2, e2, f2, g2⟩ := Cond.arrayClass_spec (args := #[Value.ref b]) (first := s) (o := none) (s := s) (idx := []) (type := .long) (hts _ (lw_in1 _ (List.mem_of_getElem? (i := 200) (by decide +kernel))))
  obtain ⟨a4, k4, p4, e4, f4, g4⟩ := Cond.arrayClass_spec (args := #[Value.ref b]) (first := s) (o := none) (s := s) (idx := []) (type := .int) (hts _ (lw_in1 _ (List.mem_of_getElem? (i := 199) (by decide +kernel))))
  obtain ⟨a5, k5, p5, e5, f5, g5⟩ := Cond.arrayClass_spec (args := #[Value.ref b]) (first := s) (o := none) (s := s) (idx := []) (type := .char) (hts _ (lw_in1 _ (List.mem_of_getElem? (i := 198) (by decide +kernel))))
  obtain ⟨a6, k6, p6, e6, f6, g6⟩ := Cond.arrayClass_spec (args := #[Value.ref b]) (first := s) (o := none) (s := s) (idx := []) (type := .boolean) (hts _ (lw_in17 _ (List.mem_of_getElem? (i := 44) (by decide +kernel))))
  obtain ⟨a7, k7, p7, e7, f7, g7⟩ := Cond.arrayClass_spec (args := #[Value.ref b]) (first := s) (o := none) (s := s) (idx := []) (type := .byte) (hts _ (lw_in1 _ (List.mem_of_getElem? (i := 238) (by decide +kernel))))
  have hov : (Cond.arrayOver (.array .int)).before #[Value.ref b] s = true := hts _ (lw_in1 _ (List.mem_of_getElem? (i := 43) (by decide +kernel)))
  obtain ⟨p3, a3, k3, -, f3, g3, e3⟩ := Cond.arrayOver_specA (args := #[Value.ref b]) (first := s) (o := none) (s := s) (idx := []) (t := .int) hov
  obtain ⟨adK, adV, hS, hev⟩ := vk_Sof (tm := rz_tm) (rz_hN h) (rz_hex h) (rz_hco h) (rz_har h) (rz_hle h) (rz_hel h) (rz_hne h) hA
  have hevA : ∀ i : Nat, i < 18 → (rz_tm i).eval #[Value.ref b] s none [] s = some (.ref (lw_ad s.heap.size b adK adV (1000000 + i))) := fun i hi => by
    rw [lw_adK hi]
    exact hev i hi
  refine ⟨((dC, dI), vwCl, (fun k => match k with | 2 => a2 | 3 => a3 | 4 => a4 | 5 => a5 | 6 => a6 | _ => a7), lw_ad s.heap.size b adK adV, s.heap.size, rz_ftab, lw_xs xs), ⟨_, _, _, _, _, rfl⟩, ⟨⟨hKc, ?_⟩, fun q hq => lw_adA (hp := s.heap.size) (b := b) (adK := adK) (adV := adV) hq, rz_Sc hS (fun i hi => lw_adK (hp := s.heap.size) (b := b) (adK := adK) (adV := adV) hi) (fun i hi => lw_adV (hp := s.heap.size) (b := b) (adK := adK) (adV := adV) hi), ?_, ?_, ?_, ?_, hov, ?_, lw_Rg rfl⟩, rfl, lw_adS (hp := s.heap.size) (b := b) (adK := adK) (adV := adV), rfl⟩
  · intro k q hq
    match k, hq with
    | 0, hq => cases hq; exact ⟨fun n z => ⟨fun k h => (by cases h), k2, f2, p2, g2⟩, e2⟩
    | 1, hq => cases hq; exact ⟨fun n z => ⟨fun k h => (by cases h), k3, f3, p3, g3⟩, e3⟩
    | 2, hq => cases hq; exact ⟨fun n z => ⟨fun k h => (by cases h), k4, f4, p4, g4⟩, e4⟩
    | 3, hq => cases hq; exact ⟨fun n z => ⟨fun k h => (by cases h), k5, f5, p5, g5⟩, e5⟩
    | 4, hq => cases hq; exact ⟨fun n z => ⟨fun k h => (by cases h), k6, f6, p6, g6⟩, e6⟩
    | 5, hq => cases hq; exact ⟨fun n z => ⟨fun k h => (by cases h), k7, f7, p7, g7⟩, e7⟩
    | k + 6, hq => simp [rz_tys] at hq
  · exact List.forall_mem_cons.mpr ⟨vk_R.of (A := #[Value.ref b]) (hts _ (lw_in1 _ (List.mem_of_getElem? (i := 239) rfl))) (hevA 0 (by decide)), List.forall_mem_cons.mpr ⟨vk_R.of (A := #[Value.ref b]) (hts _ (lw_in2 _ (List.mem_of_getElem? (i := 142) rfl))) (hevA 1 (by decide)), List.forall_mem_cons.mpr ⟨vk_R.of (A := #[Value.ref b]) (hts _ (lw_in2 _ (List.mem_of_getElem? (i := 143) rfl))) (hevA 2 (by decide)), List.forall_mem_cons.mpr ⟨vk_R.of (A := #[Value.ref b]) (hts _ (lw_in2 _ (List.mem_of_getElem? (i := 224) rfl))) (hevA 3 (by decide)), List.forall_mem_cons.mpr ⟨vk_R.of (A := #[Value.ref b]) (hts _ (lw_in2 _ (List.mem_of_getElem? (i := 225) rfl))) (hevA 4 (by decide)), List.forall_mem_cons.mpr ⟨vk_R.of (A := #[Value.ref b]) (hts _ (lw_in2 _ (List.mem_of_getElem? (i := 226) rfl))) (hevA 5 (by decide)), List.forall_mem_cons.mpr ⟨vk_R.of (A := #[Value.ref b]) (hts _ (lw_in2 _ (List.mem_of_getElem? (i := 227) rfl))) (hevA 6 (by decide)), List.forall_mem_cons.mpr ⟨vk_R.of (A := #[Value.ref b]) (hts _ (lw_in2 _ (List.mem_of_getElem? (i := 228) rfl))) (hevA 7 (by decide)), List.forall_mem_cons.mpr ⟨vk_R.of (A := #[Value.ref b]) (hts _ (lw_in6 _ (List.mem_of_getElem? (i := 23) rfl))) (hevA 8 (by decide)), List.forall_mem_cons.mpr ⟨vk_R.of (A := #[Value.ref b]) (hts _ (lw_in6 _ (List.mem_of_getElem? (i := 158) rfl))) (hevA 9 (by decide)), List.forall_mem_cons.mpr ⟨vk_R.of (A := #[Value.ref b]) (hts _ (lw_in7 _ (List.mem_of_getElem? (i := 86) rfl))) (va_eqR (rz_nr6 h _ (List.mem_of_getElem? (i := 68) (by decide +kernel))) (hevA 9 (by decide))), List.forall_mem_cons.mpr ⟨vk_R.of (A := #[Value.ref b]) (hts _ (lw_in17 _ (List.mem_of_getElem? (i := 71) rfl))) (hevA 10 (by decide)), List.forall_mem_cons.mpr ⟨vk_R.of (A := #[Value.ref b]) (hts _ (lw_in17 _ (List.mem_of_getElem? (i := 112) rfl))) (hevA 11 (by decide)), List.forall_mem_cons.mpr ⟨vk_R.of (A := #[Value.ref b]) (hts _ (lw_in17 _ (List.mem_of_getElem? (i := 126) rfl))) (hevA 12 (by decide)), List.forall_mem_cons.mpr ⟨vk_R.of (A := #[Value.ref b]) (hts _ (lw_in17 _ (List.mem_of_getElem? (i := 175) rfl))) (hevA 13 (by decide)), List.forall_mem_cons.mpr ⟨vk_R.of (A := #[Value.ref b]) (hts _ (lw_in18 _ (List.mem_of_getElem? (i := 3) rfl))) (hevA 14 (by decide)), List.forall_mem_cons.mpr ⟨vk_R.of (A := #[Value.ref b]) (hts _ (lw_in18 _ (List.mem_of_getElem? (i := 12) rfl))) (hevA 15 (by decide)), List.forall_mem_cons.mpr ⟨vk_R.of (A := #[Value.ref b]) (hts _ (lw_in18 _ (List.mem_of_getElem? (i := 97) rfl))) (hevA 16 (by decide)), List.forall_mem_cons.mpr ⟨vk_R.of (A := #[Value.ref b]) (hts _ (lw_in21 _ (List.mem_of_getElem? (i := 89) rfl))) (hevA 17 (by decide)), fun _ h => absurd h List.not_mem_nil⟩⟩⟩⟩⟩⟩⟩⟩⟩⟩⟩⟩⟩⟩⟩⟩⟩⟩⟩
  · exact va_Zof (hts _ (lw_in17 _ (List.mem_of_getElem? (i := 70) (by decide +kernel)))) (hts _ (lw_in1 _ (List.mem_of_getElem? (i := 23) (by decide +kernel)))) (va_eqi (rz_nr1 h _ (List.mem_of_getElem? (i := 129) (by decide +kernel)))) hA
  · exact va_Zof (hts _ (lw_in1 _ (List.mem_of_getElem? (i := 217) (by decide +kernel)))) (hts _ (lw_in1 _ (List.mem_of_getElem? (i := 6) (by decide +kernel)))) (va_eqi (rz_nr1 h _ (List.mem_of_getElem? (i := 2) (by decide +kernel)))) hA
  · exact va_Zqof (hts _ (lw_in2 _ (List.mem_of_getElem? (i := 64) (by decide +kernel)))) (hts _ (lw_in1 _ (List.mem_of_getElem? (i := 12) (by decide +kernel)))) (rz_nr1 h _ (List.mem_of_getElem? (i := 3) (by decide +kernel))) hA
  · exact va_Nw.of (A := #[Value.ref b]) rfl (hts _ (lw_in1 _ (List.mem_of_getElem? (i := 38) (by decide +kernel))))
