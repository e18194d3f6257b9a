/-! Longs, shifts, switches, statics, constant texts, references compared. -/
theorem rz_lN_toNat (n : Nat) : (lN n).toBitVec.toNat = n % 18446744073709551616 := by
  have h : (lN n).toBitVec.toNat = n % 2 ^ 64 := BitVec.toNat_ofNat n 64
  exact h
theorem rz_lN_ext {x : Int64} {n : Nat} (h : x.toBitVec.toNat = n % 18446744073709551616) : x = lN n := by
  apply Int64.toBitVec_inj.mp
  apply BitVec.eq_of_toNat_eq
  rw [h, rz_lN_toNat]
theorem rz_lN_eq {x y : Nat} : lN x = lN y ↔ x % 18446744073709551616 = y % 18446744073709551616 := by
  constructor
  · intro h
    rw [← rz_lN_toNat, ← rz_lN_toNat, h]
  · intro h
    apply rz_lN_ext
    rw [rz_lN_toNat, h]
def rz_ofl (n : Nat) : Nat := Nat.mod (Nat.add n 9223372036854775808) 18446744073709551616
theorem rz_ofl_eq (n : Nat) : (lN n).toInt + 9223372036854775808 = (rz_ofl n : Int) := by
  unfold rz_ofl lN
  show (Int64.ofNat n).toInt + 9223372036854775808 = (((n + 9223372036854775808) % 18446744073709551616 : Nat) : Int)
  rw [Int64.toInt_ofNat', show Int64.size = 18446744073709551616 from rfl]
  simp only [Int.bmod_def]
  split <;> omega
theorem rz_llt {x y : Nat} : lN x < lN y ↔ rz_ofl x < rz_ofl y := by
  rw [Int64.lt_iff_toInt_lt]
  have := rz_ofl_eq x
  have := rz_ofl_eq y
  omega
theorem rz_ladd' (x y : Nat) : lN x + lN y = lN (Nat.mod (Nat.add x y) 18446744073709551616) := by
  apply rz_lN_ext
  show (lN x + lN y).toBitVec.toNat = (x + y) % 18446744073709551616 % 18446744073709551616
  rw [Int64.toBitVec_add, BitVec.toNat_add, rz_lN_toNat, rz_lN_toNat]
  omega
theorem rz_lsub' (x y : Nat) : lN x - lN y = lN (Nat.mod (Nat.add x (Nat.sub 18446744073709551616 (Nat.mod y 18446744073709551616))) 18446744073709551616) := by
  apply rz_lN_ext
  show (lN x - lN y).toBitVec.toNat = (x + (18446744073709551616 - y % 18446744073709551616)) % 18446744073709551616 % 18446744073709551616
  rw [Int64.toBitVec_sub, BitVec.toNat_sub, rz_lN_toNat, rz_lN_toNat]
  have : y % 18446744073709551616 < 18446744073709551616 := Nat.mod_lt _ (by decide)
  omega
theorem rz_lmul' (x y : Nat) : lN x * lN y = lN (Nat.mod (Nat.mul x y) 18446744073709551616) := by
  apply rz_lN_ext
  show (lN x * lN y).toBitVec.toNat = (x * y) % 18446744073709551616 % 18446744073709551616
  rw [Int64.toBitVec_mul, BitVec.toNat_mul, rz_lN_toNat, rz_lN_toNat, ← Nat.mul_mod, Nat.mod_mod]
theorem rz_land' (x y : Nat) : lN x &&& lN y = lN (Nat.land x y) := by
  apply rz_lN_ext
  show (lN x &&& lN y).toBitVec.toNat = (x &&& y) % 18446744073709551616
  rw [Int64.toBitVec_and, BitVec.toNat_and, rz_lN_toNat, rz_lN_toNat]
  exact (Nat.and_mod_two_pow (a := x) (b := y) (n := 64)).symm
theorem rz_lor' (x y : Nat) : lN x ||| lN y = lN (Nat.lor x y) := by
  apply rz_lN_ext
  show (lN x ||| lN y).toBitVec.toNat = (x ||| y) % 18446744073709551616
  rw [Int64.toBitVec_or, BitVec.toNat_or, rz_lN_toNat, rz_lN_toNat]
  exact (Nat.or_mod_two_pow (a := x) (b := y) (n := 64)).symm
theorem rz_sh1 : ∀ y, y < 64 → ((nI y).toInt64.toUInt64 &&& Int64.toUInt64 63) = UInt64.ofNat y := by decide +kernel
theorem rz_sh2 : ∀ y, y < 64 → ((nI y).toInt64 &&& 63) = lN y := by decide +kernel
theorem rz_sh3 : ∀ y, y < 64 → (lN y).toBitVec.smod 64 = BitVec.ofNat 64 y := by decide +kernel
theorem rz_sh4 : ∀ y, y < 32 → (nI y &&& 31) = nI y := by decide +kernel
theorem rz_sh5 : ∀ y, y < 32 → (nI y).toBitVec.smod 32 = BitVec.ofNat 32 y := by decide +kernel
theorem rz_lushr' (x : Nat) {y : Nat} (h : y < 64) : ((lN x).toUInt64 >>> ((nI y).toInt64.toUInt64 &&& Int64.toUInt64 63)).toInt64 = lN (Nat.shiftRight (Nat.mod x 18446744073709551616) y) := by
  rw [rz_sh1 y h]
  apply rz_lN_ext
  show ((lN x).toUInt64 >>> UInt64.ofNat y).toBitVec.toNat = (x % 18446744073709551616) >>> y % 18446744073709551616
  rw [UInt64.toBitVec_shiftRight]
  have e1 : (lN x).toUInt64.toBitVec = (lN x).toBitVec := rfl
  have e2 : (UInt64.ofNat y).toBitVec = BitVec.ofNat 64 y := rfl
  rw [e1, e2, BitVec.ushiftRight_eq', BitVec.toNat_ushiftRight, rz_lN_toNat]
  have e3 : (BitVec.ofNat 64 y % 64).toNat = y := by
    rw [BitVec.toNat_umod, BitVec.toNat_ofNat]
    show y % 2 ^ 64 % 64 = y
    omega
  rw [e3]
  have : x % 18446744073709551616 < 18446744073709551616 := Nat.mod_lt _ (by decide)
  rw [Nat.mod_eq_of_lt (Nat.lt_of_le_of_lt (Nat.shiftRight_le _ _) this)]
theorem rz_lshl' (x : Nat) {y : Nat} (h : y < 64) : lN x <<< ((nI y).toInt64 &&& 63) = lN (Nat.mod (Nat.shiftLeft x y) 18446744073709551616) := by
  rw [rz_sh2 y h]
  apply rz_lN_ext
  show (lN x <<< lN y).toBitVec.toNat = (x <<< y) % 18446744073709551616 % 18446744073709551616
  have e : (lN x <<< lN y).toBitVec = (lN x).toBitVec <<< ((lN y).toBitVec.smod 64) := rfl
  rw [e, rz_sh3 y h, BitVec.shiftLeft_eq', BitVec.toNat_shiftLeft, rz_lN_toNat, BitVec.toNat_ofNat, Nat.mod_mod]
  have e3 : y % 2 ^ 64 = y := by omega
  rw [e3, Nat.shiftLeft_eq, Nat.shiftLeft_eq, show (2 : Nat) ^ 64 = 18446744073709551616 from rfl, Nat.mod_mul_mod]
theorem rz_ishl' (x : Nat) {y : Nat} (h : y < 32) : nI x <<< (nI y &&& 31) = nI (Nat.mod (Nat.shiftLeft x y) 4294967296) := by
  rw [rz_sh4 y h]
  apply rz_nI_ext
  show (nI x <<< nI y).toBitVec.toNat = (x <<< y) % 4294967296 % 4294967296
  have e : (nI x <<< nI y).toBitVec = (nI x).toBitVec <<< ((nI y).toBitVec.smod 32) := rfl
  rw [e, rz_sh5 y h, BitVec.shiftLeft_eq', BitVec.toNat_shiftLeft, rz_nI_toNat, BitVec.toNat_ofNat, Nat.mod_mod]
  have e3 : y % 2 ^ 32 = y := by omega
  rw [e3, Nat.shiftLeft_eq, Nat.shiftLeft_eq, show (2 : Nat) ^ 32 = 4294967296 from rfl, Nat.mod_mul_mod]
theorem rz_ishr' {x y : Nat} (hx : x < 2147483648) (h : y < 32) : nI x >>> (nI y &&& 31) = nI (Nat.shiftRight x y) := by
  rw [rz_sh4 y h]
  apply rz_nI_ext
  show (nI x >>> nI y).toBitVec.toNat = (x >>> y) % 4294967296
  have e : (nI x >>> nI y).toBitVec = (nI x).toBitVec.sshiftRight' ((nI y).toBitVec.smod 32) := rfl
  rw [e, rz_sh5 y h, BitVec.sshiftRight_eq']
  have hm : (nI x).toBitVec.msb = false := by
    rw [BitVec.msb_eq_false_iff_two_mul_lt, rz_nI_toNat]
    omega
  rw [BitVec.sshiftRight_eq_of_msb_false hm, BitVec.toNat_ushiftRight, rz_nI_toNat, BitVec.toNat_ofNat]
  have e3 : y % 2 ^ 32 = y := by omega
  have e4 : x % 4294967296 = x := by omega
  rw [e3, e4, Nat.mod_eq_of_lt (Nat.lt_of_le_of_lt (Nat.shiftRight_le _ _) (by omega))]
theorem rz_i2l' {x : Nat} (h : x < 2147483648) : (nI x).toInt64 = lN x := by
  apply Int64.toInt_inj.mp
  rw [Int32.toInt_toInt64, nI_toInt h]
  have := rz_ofl_eq x
  have e : rz_ofl x = x + 9223372036854775808 := Nat.mod_eq_of_lt (by show x + 9223372036854775808 < 18446744073709551616; omega)
  omega
theorem rz_l2i' (x : Nat) : (lN x).toInt32 = nI (Nat.mod x 4294967296) := by
  apply rz_nI_ext
  show ((lN x).toBitVec.signExtend 32).toNat = x % 4294967296 % 4294967296
  rw [BitVec.signExtend_eq_setWidth_of_le _ (by decide), BitVec.toNat_setWidth, rz_lN_toNat]
  omega
theorem rz_lcmp' (x y : Nat) : lg_cmp (lN x) (lN y) = if rz_ofl y < rz_ofl x then nI 1 else if rz_ofl x = rz_ofl y then nI 0 else nI 4294967295 := by
  have h1 : (lN x > lN y) ↔ rz_ofl y < rz_ofl x := rz_llt
  have h2 : (lN x = lN y) ↔ rz_ofl x = rz_ofl y := by
    constructor
    · intro h
      have a := rz_ofl_eq x
      have b := rz_ofl_eq y
      rw [h] at a
      omega
    · intro h
      have a := rz_ofl_eq x
      have b := rz_ofl_eq y
      rw [h] at a
      apply Int64.toInt_inj.mp
      omega
  unfold lg_cmp
  by_cases g : rz_ofl y < rz_ofl x
  · rw [if_pos (h1.mpr g), if_pos g]
    rfl
  · rw [if_neg (fun z => g (h1.mp z)), if_neg g]
    by_cases g2 : rz_ofl x = rz_ofl y
    · rw [if_pos (h2.mpr g2), if_pos g2]
      rfl
    · rw [if_neg (fun z => g2 (h2.mp z)), if_neg g2]
      rfl
theorem rz_lv_store2 {G : rz_G} {nL : Nat} {ls' : Array Slot} {L : rz_L} {i n : Nat} (hL : L.length = nL) (h : lv_has ls' nL ((i, Value.long (lN n)) :: (rz_ll G L).filter (fun q => !(q.1 == i) && (!(q.1 == i + 1) && !(q.1 + 1 == i && q.2.category == 2))))) : rz_lv G nL ls' ((L.set i (rz_l n)).set (i + 1) rz_o) := by
  refine ⟨h.1, h.2.1, by rw [List.length_set, List.length_set]; exact hL, fun j w hw hs => ?_⟩
  by_cases hj1 : j = i + 1
  · subst hj1
    have hlt : i + 1 < (L.set i (rz_l n)).length := by
      have := (List.getElem?_eq_some_iff.mp hw).1
      rwa [List.length_set] at this
    rw [List.getElem?_set_self hlt] at hw
    cases hw
    cases hs
  · rw [List.getElem?_set_ne (fun q => hj1 q.symm)] at hw
    by_cases hj : j = i
    · subst hj
      have hlt : j < L.length := by
        have := (List.getElem?_eq_some_iff.mp hw).1
        rwa [List.length_set] at this
      rw [List.getElem?_set_self hlt] at hw
      cases hw
      exact h.2.2 _ List.mem_cons_self
    · rw [List.getElem?_set_ne (fun q => hj q.symm)] at hw
      have key : rz_say L j w = true ∧ ((rz_v G w).category = 2 → j + 1 ≠ i) := by
        by_cases hl : ∃ n, w = rz_l n
        · obtain ⟨n', rfl⟩ := hl
          have h1 := rz_say_long hs
          rw [List.getElem?_set_ne (by omega)] at h1
          by_cases hi : j + 1 = i
          · have hlt : i < L.length := by
              have := (List.getElem?_eq_some_iff.mp h1).1
              rw [List.length_set] at this
              omega
            rw [hi, List.getElem?_set_self hlt] at h1
            cases h1
          · rw [List.getElem?_set_ne (fun q => hi q.symm)] at h1
            exact ⟨rz_long_say h1, fun _ => hi⟩
        · have hl' : ∀ n, w ≠ rz_l n := fun n q => hl ⟨n, q⟩
          exact ⟨rz_say_else hl' hs, fun q => absurd (rz_cat G q) hl⟩
      refine h.2.2 (j, rz_v G w) (List.mem_cons_of_mem _ (List.mem_filter.mpr ⟨rz_ll_mem.mpr ⟨j, w, hw, key.1, rfl⟩, ?_⟩))
      have h2 := key.2
      simp only [Bool.and_eq_true, Bool.not_eq_true', beq_eq_false_iff_ne, ne_eq, Bool.and_eq_false_iff]
      refine ⟨hj, hj1, ?_⟩
      by_cases hc : (rz_v G w).category = 2
      · exact Or.inl (h2 hc)
      · exact Or.inr hc
section RZO
variable {G : rz_G} {p : Program} {l : Launch} {e : Env} {R : Room} {s : State} {m : MethodId} {args : Array Value} {below : List Frame} {meth : Method} {c : Code} {Q : State → Prop} {nL pc : Nat} {nz0 : Nat × Nat} {cc : ByteArray} {k : rz_K} {J : rz_J} {Z : rz_Z}
noncomputable def rz_lcst (n : Nat) : rz_B := fun k _ _ L S M => k L (rz_l n :: S) M
theorem rz_lconst_ok {n : Fin 2} {x : Nat} (hx : p.tables.exec = Jvm.exec) (hb : c.code = cc) (hd : decode cc pc = .ok (.lconst n, 1)) (hn : (n : Nat) = x) (hk : rz_Ok G p l e R s m args below meth c Q nL nz0 (pc + 1) (k)) : rz_Ok G p l e R s m args below meth c Q nL nz0 (pc) (rz_lcst x k J Z) := by
  intro L S M h ls H locs hL hW hS h0
  have hz := hk L (rz_l x :: S) M h ls H locs hL hW hS h0
  exact lv_lconst hx hb hd (by rw [hn]; rfl) hz
theorem rz_ldc2_ok {own : String} {index x : Nat} {v : Int64} (hx : p.tables.exec = Jvm.exec) (hb : c.code = cc) (hown : s.vm.findClass own = some m.cls) (hc : (Cond.constantLong own index v).before args s = true) (hv : v = lN x) (hd : decode cc pc = .ok (.ldc2_w index, 3)) (hk : rz_Ok G p l e R s m args below meth c Q nL nz0 (pc + 3) (k)) : rz_Ok G p l e R s m args below meth c Q nL nz0 (pc) (rz_lcst x k J Z) := by
  intro L S M h ls H locs hL hW hS h0
  have hz := hk L (rz_l x :: S) M h ls H locs hL hW hS h0
  exact lv_ldc2 hx hb hown hc hd (by rw [hv]; exact hz)
noncomputable def rz_lload (n : Nat) : rz_B := fun k _ _ L S M => rz_nth n L (fun v => rz_lng v (fun x => rz_nth (Nat.succ n) L (fun u => rz_isH u (k L (rz_l x :: S) M))))
noncomputable def rz_lstore (n : Nat) : rz_B := fun k _ _ L S M => rz_hd S (fun v T => rz_lng v (fun x => rz_set n L (rz_l x) (fun N => rz_set (Nat.succ n) N rz_o (fun N => k N T M))))
theorem rz_lload_n_ok {n : Nat} {i : Fin 4} (hx : p.tables.exec = Jvm.exec) (hb : c.code = cc) (hd : decode cc pc = .ok (.lload_n i, 1)) (hi : (i : Nat) = n) (hk : rz_Ok G p l e R s m args below meth c Q nL nz0 (pc + 1) (k)) : rz_Ok G p l e R s m args below meth c Q nL nz0 (pc) (rz_lload n k J Z) := by
  intro L S M h ls H locs hL hW hS h0
  obtain ⟨v, hv, h⟩ := rz_nth_t h
  replace h := rz_lng_t h
  obtain ⟨x, rfl, h⟩ := h
  obtain ⟨u, hu, h⟩ := rz_nth_t h
  obtain ⟨rfl, h⟩ := rz_isH_t h
  have hz := hk L (rz_l x :: S) M h ls H locs hL hW hS h0
  have hg := rz_lv_at hL hv (rz_long_say hu)
  exact lv_lload_n hx hb hd hi hg hz
theorem rz_lload_ok {n : Nat} (hx : p.tables.exec = Jvm.exec) (hb : c.code = cc) (hd : decode cc pc = .ok (.lload n, 2)) (hk : rz_Ok G p l e R s m args below meth c Q nL nz0 (pc + 2) (k)) : rz_Ok G p l e R s m args below meth c Q nL nz0 (pc) (rz_lload n k J Z) := by
  intro L S M h ls H locs hL hW hS h0
  obtain ⟨v, hv, h⟩ := rz_nth_t h
  replace h := rz_lng_t h
  obtain ⟨x, rfl, h⟩ := h
  obtain ⟨u, hu, h⟩ := rz_nth_t h
  obtain ⟨rfl, h⟩ := rz_isH_t h
  have hz := hk L (rz_l x :: S) M h ls H locs hL hW hS h0
  have hg := rz_lv_at hL hv (rz_long_say hu)
  exact lv_lload hx hb hd hg hz
theorem rz_lstore_n_ok {n : Nat} {i : Fin 4} (hx : p.tables.exec = Jvm.exec) (hb : c.code = cc) (hd : decode cc pc = .ok (.lstore_n i, 1)) (hi : (i : Nat) = n) (hk : rz_Ok G p l e R s m args below meth c Q nL nz0 (pc + 1) (k)) : rz_Ok G p l e R s m args below meth c Q nL nz0 (pc) (rz_lstore n k J Z) := by
  intro L S M h ls H locs hL hW hS h0
  replace h := rz_hd_t h
  obtain ⟨v, T, rfl, h⟩ := h
  replace h := rz_lng_t h
  obtain ⟨x, rfl, h⟩ := h
  obtain ⟨hn, h⟩ := rz_set_t h
  obtain ⟨hn2, h⟩ := rz_set_t h
  rw [List.length_set] at hn2
  refine lv_lstore_n hx hb hd hi (rz_lv_has hL) (by rw [← hL.2.2.1]; exact hn2) rfl (fun ls' hl' => ?_)
  exact hk _ T M h ls' H locs (rz_lv_store2 hL.2.2.1 hl') hW hS h0
theorem rz_lstore_ok {n : Nat} (hx : p.tables.exec = Jvm.exec) (hb : c.code = cc) (hd : decode cc pc = .ok (.lstore n, 2)) (hk : rz_Ok G p l e R s m args below meth c Q nL nz0 (pc + 2) (k)) : rz_Ok G p l e R s m args below meth c Q nL nz0 (pc) (rz_lstore n k J Z) := by
  intro L S M h ls H locs hL hW hS h0
  replace h := rz_hd_t h
  obtain ⟨v, T, rfl, h⟩ := h
  replace h := rz_lng_t h
  obtain ⟨x, rfl, h⟩ := h
  obtain ⟨hn, h⟩ := rz_set_t h
  obtain ⟨hn2, h⟩ := rz_set_t h
  rw [List.length_set] at hn2
  refine lv_lstore hx hb hd (rz_lv_has hL) (by rw [← hL.2.2.1]; exact hn2) rfl (fun ls' hl' => ?_)
  exact hk _ T M h ls' H locs (rz_lv_store2 hL.2.2.1 hl') hW hS h0
noncomputable def rz_lbin (f : Nat → Nat → Nat) : rz_B := fun k _ _ L S M => rz_hd S (fun b T => rz_hd T (fun a U => rz_lng b (fun y => rz_lng a (fun x => rz_F (f x y) (fun z => k L (rz_l z :: U) M)))))
noncomputable def rz_ladd : rz_B := rz_lbin (fun x y => Nat.mod (Nat.add x y) 18446744073709551616)
theorem rz_ladd_ok (hx : p.tables.exec = Jvm.exec) (hb : c.code = cc) (hd : decode cc pc = .ok (.ladd, 1)) (hk : rz_Ok G p l e R s m args below meth c Q nL nz0 (pc + 1) (k)) : rz_Ok G p l e R s m args below meth c Q nL nz0 (pc) (rz_ladd k J Z) := by
  intro L S M h ls H locs hL hW hS h0
  replace h := rz_hd_t h
  obtain ⟨b, T, rfl, h⟩ := h
  replace h := rz_hd_t h
  obtain ⟨a, U, rfl, h⟩ := h
  replace h := rz_lng_t h
  obtain ⟨y, rfl, h⟩ := h
  replace h := rz_lng_t h
  obtain ⟨x, rfl, h⟩ := h
  rw [rz_F_eq] at h
  have hz := hk L _ M h ls H locs hL hW hS h0
  refine lv_ladd (x := lN x) (y := lN y) hx hb hd ?_
  rw [rz_ladd']
  exact hz
noncomputable def rz_lsub : rz_B := rz_lbin (fun x y => Nat.mod (Nat.add x (Nat.sub 18446744073709551616 (Nat.mod y 18446744073709551616))) 18446744073709551616)
theorem rz_lsub_ok (hx : p.tables.exec = Jvm.exec) (hb : c.code = cc) (hd : decode cc pc = .ok (.lsub, 1)) (hk : rz_Ok G p l e R s m args below meth c Q nL nz0 (pc + 1) (k)) : rz_Ok G p l e R s m args below meth c Q nL nz0 (pc) (rz_lsub k J Z) := by
  intro L S M h ls H locs hL hW hS h0
  replace h := rz_hd_t h
  obtain ⟨b, T, rfl, h⟩ := h
  replace h := rz_hd_t h
  obtain ⟨a, U, rfl, h⟩ := h
  replace h := rz_lng_t h
  obtain ⟨y, rfl, h⟩ := h
  replace h := rz_lng_t h
  obtain ⟨x, rfl, h⟩ := h
  rw [rz_F_eq] at h
  have hz := hk L _ M h ls H locs hL hW hS h0
  refine lv_lsub (x := lN x) (y := lN y) hx hb hd ?_
  rw [rz_lsub']
  exact hz
noncomputable def rz_lmul : rz_B := rz_lbin (fun x y => Nat.mod (Nat.mul x y) 18446744073709551616)
theorem rz_lmul_ok (hx : p.tables.exec = Jvm.exec) (hb : c.code = cc) (hd : decode cc pc = .ok (.lmul, 1)) (hk : rz_Ok G p l e R s m args below meth c Q nL nz0 (pc + 1) (k)) : rz_Ok G p l e R s m args below meth c Q nL nz0 (pc) (rz_lmul k J Z) := by
  intro L S M h ls H locs hL hW hS h0
  replace h := rz_hd_t h
  obtain ⟨b, T, rfl, h⟩ := h
  replace h := rz_hd_t h
  obtain ⟨a, U, rfl, h⟩ := h
  replace h := rz_lng_t h
  obtain ⟨y, rfl, h⟩ := h
  replace h := rz_lng_t h
  obtain ⟨x, rfl, h⟩ := h
  rw [rz_F_eq] at h
  have hz := hk L _ M h ls H locs hL hW hS h0
  refine lv_lmul (x := lN x) (y := lN y) hx hb hd ?_
  rw [rz_lmul']
  exact hz
noncomputable def rz_land : rz_B := rz_lbin (fun x y => Nat.land x y)
theorem rz_land_ok (hx : p.tables.exec = Jvm.exec) (hb : c.code = cc) (hd : decode cc pc = .ok (.land, 1)) (hk : rz_Ok G p l e R s m args below meth c Q nL nz0 (pc + 1) (k)) : rz_Ok G p l e R s m args below meth c Q nL nz0 (pc) (rz_land k J Z) := by
  intro L S M h ls H locs hL hW hS h0
  replace h := rz_hd_t h
  obtain ⟨b, T, rfl, h⟩ := h
  replace h := rz_hd_t h
  obtain ⟨a, U, rfl, h⟩ := h
  replace h := rz_lng_t h
  obtain ⟨y, rfl, h⟩ := h
  replace h := rz_lng_t h
  obtain ⟨x, rfl, h⟩ := h
  rw [rz_F_eq] at h
  have hz := hk L _ M h ls H locs hL hW hS h0
  refine lv_land (x := lN x) (y := lN y) hx hb hd ?_
  rw [rz_land']
  exact hz
noncomputable def rz_lor : rz_B := rz_lbin (fun x y => Nat.lor x y)
theorem rz_lor_ok (hx : p.tables.exec = Jvm.exec) (hb : c.code = cc) (hd : decode cc pc = .ok (.lor, 1)) (hk : rz_Ok G p l e R s m args below meth c Q nL nz0 (pc + 1) (k)) : rz_Ok G p l e R s m args below meth c Q nL nz0 (pc) (rz_lor k J Z) := by
  intro L S M h ls H locs hL hW hS h0
  replace h := rz_hd_t h
  obtain ⟨b, T, rfl, h⟩ := h
  replace h := rz_hd_t h
  obtain ⟨a, U, rfl, h⟩ := h
  replace h := rz_lng_t h
  obtain ⟨y, rfl, h⟩ := h
  replace h := rz_lng_t h
  obtain ⟨x, rfl, h⟩ := h
  rw [rz_F_eq] at h
  have hz := hk L _ M h ls H locs hL hW hS h0
  refine lv_lor (x := lN x) (y := lN y) hx hb hd ?_
  rw [rz_lor']
  exact hz
noncomputable def rz_lsh (f : Nat → Nat → Nat) : rz_B := fun k _ _ L S M => rz_hd S (fun b T => rz_hd T (fun a U => rz_int b (fun y => rz_lng a (fun x => rz_if (Nat.ble y 63) (rz_F (f x y) (fun z => k L (rz_l z :: U) M)) false))))
noncomputable def rz_lushr : rz_B := rz_lsh (fun x y => Nat.shiftRight (Nat.mod x 18446744073709551616) y)
theorem rz_lushr_ok (hx : p.tables.exec = Jvm.exec) (hb : c.code = cc) (hd : decode cc pc = .ok (.lushr, 1)) (hk : rz_Ok G p l e R s m args below meth c Q nL nz0 (pc + 1) (k)) : rz_Ok G p l e R s m args below meth c Q nL nz0 (pc) (rz_lushr k J Z) := by
  intro L S M h ls H locs hL hW hS h0
  replace h := rz_hd_t h
  obtain ⟨b, T, rfl, h⟩ := h
  replace h := rz_hd_t h
  obtain ⟨a, U, rfl, h⟩ := h
  replace h := rz_int_t h
  obtain ⟨y, rfl, h⟩ := h
  replace h := rz_lng_t h
  obtain ⟨x, rfl, h⟩ := h
  rcases rz_if_t h with ⟨g, h⟩ | ⟨-, h⟩
  · have g := rz_ble.1.mp g
    rw [rz_F_eq] at h
    have hz := hk L _ M h ls H locs hL hW hS h0
    exact lv_lushr (x := lN x) (y := nI y) hx hb hd (rz_lushr' x (by omega)) hz
  · cases h
noncomputable def rz_lshl : rz_B := rz_lsh (fun x y => Nat.mod (Nat.shiftLeft x y) 18446744073709551616)
theorem rz_lshl_ok (hx : p.tables.exec = Jvm.exec) (hb : c.code = cc) (hd : decode cc pc = .ok (.lshl, 1)) (hk : rz_Ok G p l e R s m args below meth c Q nL nz0 (pc + 1) (k)) : rz_Ok G p l e R s m args below meth c Q nL nz0 (pc) (rz_lshl k J Z) := by
  intro L S M h ls H locs hL hW hS h0
  replace h := rz_hd_t h
  obtain ⟨b, T, rfl, h⟩ := h
  replace h := rz_hd_t h
  obtain ⟨a, U, rfl, h⟩ := h
  replace h := rz_int_t h
  obtain ⟨y, rfl, h⟩ := h
  replace h := rz_lng_t h
  obtain ⟨x, rfl, h⟩ := h
  rcases rz_if_t h with ⟨g, h⟩ | ⟨-, h⟩
  · have g := rz_ble.1.mp g
    rw [rz_F_eq] at h
    have hz := hk L _ M h ls H locs hL hW hS h0
    exact lv_lshl (x := lN x) (y := nI y) hx hb hd (rz_lshl' x (by omega)) hz
  · cases h
noncomputable def rz_ishl : rz_B := fun k _ _ L S M => rz_hd S (fun b T => rz_hd T (fun a U => rz_int b (fun y => rz_int a (fun x => rz_if (Nat.ble y 31) (rz_F (Nat.mod (Nat.shiftLeft x y) 4294967296) (fun z => k L (rz_i z :: U) M)) false))))
noncomputable def rz_ishr : rz_B := fun k _ _ L S M => rz_hd S (fun b T => rz_hd T (fun a U => rz_int b (fun y => rz_int a (fun x => rz_if (Nat.ble y 31) (rz_if (Nat.ble x 2147483647) (rz_F (Nat.shiftRight x y) (fun z => k L (rz_i z :: U) M)) false) false))))
theorem rz_ishl_ok (hx : p.tables.exec = Jvm.exec) (hb : c.code = cc) (hd : decode cc pc = .ok (.ishl, 1)) (hk : rz_Ok G p l e R s m args below meth c Q nL nz0 (pc + 1) (k)) : rz_Ok G p l e R s m args below meth c Q nL nz0 (pc) (rz_ishl k J Z) := by
  intro L S M h ls H locs hL hW hS h0
  replace h := rz_hd_t h
  obtain ⟨b, T, rfl, h⟩ := h
  replace h := rz_hd_t h
  obtain ⟨a, U, rfl, h⟩ := h
  replace h := rz_int_t h
  obtain ⟨y, rfl, h⟩ := h
  replace h := rz_int_t h
  obtain ⟨x, rfl, h⟩ := h
  rcases rz_if_t h with ⟨g, h⟩ | ⟨-, h⟩
  · have g := rz_ble.1.mp g
    rw [rz_F_eq] at h
    have hz := hk L _ M h ls H locs hL hW hS h0
    refine lv_ishl (x := nI x) (y := nI y) hx hb hd ?_
    rw [rz_ishl' x (by omega)]
    exact hz
  · cases h
theorem rz_ishr_ok (hx : p.tables.exec = Jvm.exec) (hb : c.code = cc) (hd : decode cc pc = .ok (.ishr, 1)) (hk : rz_Ok G p l e R s m args below meth c Q nL nz0 (pc + 1) (k)) : rz_Ok G p l e R s m args below meth c Q nL nz0 (pc) (rz_ishr k J Z) := by
  intro L S M h ls H locs hL hW hS h0
  replace h := rz_hd_t h
  obtain ⟨b, T, rfl, h⟩ := h
  replace h := rz_hd_t h
  obtain ⟨a, U, rfl, h⟩ := h
  replace h := rz_int_t h
  obtain ⟨y, rfl, h⟩ := h
  replace h := rz_int_t h
  obtain ⟨x, rfl, h⟩ := h
  rcases rz_if_t h with ⟨g, h⟩ | ⟨-, h⟩
  · have g := rz_ble.1.mp g
    rcases rz_if_t h with ⟨g2, h⟩ | ⟨-, h⟩
    · have g2 := rz_ble.1.mp g2
      rw [rz_F_eq] at h
      have hz := hk L _ M h ls H locs hL hW hS h0
      refine lv_ishr (x := nI x) (y := nI y) hx hb hd ?_
      rw [rz_ishr' (by omega) (by omega)]
      exact hz
    · cases h
  · cases h
noncomputable def rz_i2l : rz_B := fun k _ _ L S M => rz_hd S (fun a U => rz_int a (fun x => rz_if (Nat.ble x 2147483647) (k L (rz_l x :: U) M) false))
noncomputable def rz_l2i : rz_B := fun k _ _ L S M => rz_hd S (fun a U => rz_lng a (fun x => rz_F (Nat.mod x 4294967296) (fun z => k L (rz_i z :: U) M)))
noncomputable def rz_lcmp : rz_B := fun k _ _ L S M => rz_hd S (fun b T => rz_hd T (fun a U => rz_lng b (fun y => rz_lng a (fun x => rz_F (rz_ofl x) (fun x => rz_F (rz_ofl y) (fun y => rz_if (Nat.ble x y) (rz_if (Nat.beq x y) (k L (rz_i 0 :: U) M) (k L (rz_i 4294967295 :: U) M)) (k L (rz_i 1 :: U) M)))))))
theorem rz_i2l_ok (hx : p.tables.exec = Jvm.exec) (hb : c.code = cc) (hd : decode cc pc = .ok (.i2l, 1)) (hk : rz_Ok G p l e R s m args below meth c Q nL nz0 (pc + 1) (k)) : rz_Ok G p l e R s m args below meth c Q nL nz0 (pc) (rz_i2l k J Z) := by
  intro L S M h ls H locs hL hW hS h0
  replace h := rz_hd_t h
  obtain ⟨a, U, rfl, h⟩ := h
  replace h := rz_int_t h
  obtain ⟨x, rfl, h⟩ := h
  rcases rz_if_t h with ⟨g, h⟩ | ⟨-, h⟩
  · have g := rz_ble.1.mp g
    have hz := hk L _ M h ls H locs hL hW hS h0
    exact lv_i2l hx hb hd (rz_i2l' (by omega)) hz
  · cases h
theorem rz_l2i_ok (hx : p.tables.exec = Jvm.exec) (hb : c.code = cc) (hd : decode cc pc = .ok (.l2i, 1)) (hk : rz_Ok G p l e R s m args below meth c Q nL nz0 (pc + 1) (k)) : rz_Ok G p l e R s m args below meth c Q nL nz0 (pc) (rz_l2i k J Z) := by
  intro L S M h ls H locs hL hW hS h0
  replace h := rz_hd_t h
  obtain ⟨a, U, rfl, h⟩ := h
  replace h := rz_lng_t h
  obtain ⟨x, rfl, h⟩ := h
  rw [rz_F_eq] at h
  have hz := hk L _ M h ls H locs hL hW hS h0
  exact lv_l2i hx hb hd (rz_l2i' x) hz
theorem rz_lcmp_ok (hx : p.tables.exec = Jvm.exec) (hb : c.code = cc) (hd : decode cc pc = .ok (.lcmp, 1)) (hk : rz_Ok G p l e R s m args below meth c Q nL nz0 (pc + 1) (k)) : rz_Ok G p l e R s m args below meth c Q nL nz0 (pc) (rz_lcmp k J Z) := by
  intro L S M h ls H locs hL hW hS h0
  replace h := rz_hd_t h
  obtain ⟨b, T, rfl, h⟩ := h
  replace h := rz_hd_t h
  obtain ⟨a, U, rfl, h⟩ := h
  replace h := rz_lng_t h
  obtain ⟨y, rfl, h⟩ := h
  replace h := rz_lng_t h
  obtain ⟨x, rfl, h⟩ := h
  rw [rz_F_eq, rz_F_eq] at h
  refine W.lcmp (x := lN x) (y := lN y) hx hb hd ?_
  rw [rz_lcmp']
  rcases rz_if_t h with ⟨g, h⟩ | ⟨g, h⟩
  · have g := rz_ble.1.mp g
    rw [if_neg (by omega)]
    rcases rz_if_t h with ⟨g2, h⟩ | ⟨g2, h⟩
    · have g2 := rz_beq.1.mp g2
      rw [if_pos g2]
      exact hk L _ M h ls H locs hL hW hS h0
    · have g2 := rz_beq.2.mp g2
      rw [if_neg g2]
      exact hk L _ M h ls H locs hL hW hS h0
  · have g := rz_ble.2.mp g
    rw [if_pos (by omega)]
    exact hk L _ M h ls H locs hL hW hS h0
theorem rz_rf_inj {G : rz_G} (hA : rz_A G) {a b : Nat} (ha : a ≤ 512) (hb : b ≤ 512) (h : rz_rf (rz_ad G) a = rz_rf (rz_ad G) b) : a = b := by
  cases a with
  | zero =>
    cases b with
    | zero => rfl
    | succ b => cases h
  | succ a =>
    cases b with
    | zero => cases h
    | succ b =>
      have h : rz_ad G a = rz_ad G b := Option.some.inj h
      rw [hA a (by omega), hA b (by omega)] at h
      omega
noncomputable def rz_ref0 (v : rz_V) (k : Nat → Bool) : Bool := Sum.rec (fun _ => false) (fun w => Sum.rec (fun _ => false) (fun x => Sum.rec k (fun _ => false) x) w) v
theorem rz_ref0_t {v : rz_V} {k : Nat → Bool} (h : rz_ref0 v k = true) : ∃ n, v = rz_r n ∧ k n = true := by
  rcases v with n | n | n | n
  · cases h
  · cases h
  · exact ⟨n, rfl, h⟩
  · cases h
noncomputable def rz_acmp (y n : Bool) (j : Nat) : rz_B := fun k J _ L S M => rz_hd S (fun b T => rz_hd T (fun a U => rz_ref0 b (fun q => rz_ref0 a (fun p => rz_if (Nat.beq p q) (rz_if y (J j L U M) (k L U M)) (rz_if (Nat.ble p 512) (rz_if (Nat.ble q 512) (rz_if n (J j L U M) (k L U M)) false) false)))))
noncomputable def rz_acmpeq (j : Nat) : rz_B := rz_acmp true false j
theorem rz_acmpeq_ok {j tgt : Nat} {off : Int} (hx : p.tables.exec = Jvm.exec) (hb : c.code = cc) (hA : rz_A G) (hd : decode cc pc = .ok (.if_acmp .eq off, 3)) (ht : (pc : Int) + off = (tgt : Int)) (hk : rz_Ok G p l e R s m args below meth c Q nL nz0 (pc + 3) (k)) (hj : rz_Ok G p l e R s m args below meth c Q nL nz0 (tgt) (J j)) : rz_Ok G p l e R s m args below meth c Q nL nz0 (pc) (rz_acmpeq j k J Z) := by
  intro L S M h ls H locs hL hW hS h0
  replace h := rz_hd_t h
  obtain ⟨b, T, rfl, h⟩ := h
  replace h := rz_hd_t h
  obtain ⟨a, U, rfl, h⟩ := h
  replace h := rz_ref0_t h
  obtain ⟨y, rfl, h⟩ := h
  replace h := rz_ref0_t h
  obtain ⟨x, rfl, h⟩ := h
  rcases rz_if_t h with ⟨g, h9⟩ | ⟨g, h⟩
  · have g := rz_beq.1.mp g
    subst g
    refine lv_acmp_eq (rx := rz_rf (rz_ad G) x) (ry := rz_rf (rz_ad G) x) hx hb hd ht (fun q => ?_) (fun q => ?_)
    · exact hj L U M h9 ls H locs hL hW hS h0
    · exact absurd rfl q
  · have g := rz_beq.2.mp g
    rcases rz_if_t h with ⟨g1, h⟩ | ⟨-, h⟩
    · have g1 := rz_ble.1.mp g1
      rcases rz_if_t h with ⟨g2, h⟩ | ⟨-, h⟩
      · have g2 := rz_ble.1.mp g2
        refine lv_acmp_eq (rx := rz_rf (rz_ad G) x) (ry := rz_rf (rz_ad G) y) hx hb hd ht (fun q => ?_) (fun q => ?_)
        · exact absurd (rz_rf_inj hA g1 g2 q) g
        · exact hk L U M h ls H locs hL hW hS h0
      · cases h
    · cases h
noncomputable def rz_acmpne (j : Nat) : rz_B := rz_acmp false true j
theorem rz_acmpne_ok {j tgt : Nat} {off : Int} (hx : p.tables.exec = Jvm.exec) (hb : c.code = cc) (hA : rz_A G) (hd : decode cc pc = .ok (.if_acmp .ne off, 3)) (ht : (pc : Int) + off = (tgt : Int)) (hk : rz_Ok G p l e R s m args below meth c Q nL nz0 (pc + 3) (k)) (hj : rz_Ok G p l e R s m args below meth c Q nL nz0 (tgt) (J j)) : rz_Ok G p l e R s m args below meth c Q nL nz0 (pc) (rz_acmpne j k J Z) := by
  intro L S M h ls H locs hL hW hS h0
  replace h := rz_hd_t h
  obtain ⟨b, T, rfl, h⟩ := h
  replace h := rz_hd_t h
  obtain ⟨a, U, rfl, h⟩ := h
  replace h := rz_ref0_t h
  obtain ⟨y, rfl, h⟩ := h
  replace h := rz_ref0_t h
  obtain ⟨x, rfl, h⟩ := h
  rcases rz_if_t h with ⟨g, h9⟩ | ⟨g, h⟩
  · have g := rz_beq.1.mp g
    subst g
    refine lv_acmp_ne (rx := rz_rf (rz_ad G) x) (ry := rz_rf (rz_ad G) x) hx hb hd ht (fun q => ?_) (fun q => ?_)
    · exact absurd rfl q
    · exact hk L U M h9 ls H locs hL hW hS h0
  · have g := rz_beq.2.mp g
    rcases rz_if_t h with ⟨g1, h⟩ | ⟨-, h⟩
    · have g1 := rz_ble.1.mp g1
      rcases rz_if_t h with ⟨g2, h⟩ | ⟨-, h⟩
      · have g2 := rz_ble.1.mp g2
        refine lv_acmp_ne (rx := rz_rf (rz_ad G) x) (ry := rz_rf (rz_ad G) y) hx hb hd ht (fun q => ?_) (fun q => ?_)
        · exact hj L U M h ls H locs hL hW hS h0
        · exact absurd (rz_rf_inj hA g1 g2 q) g
      · cases h
    · cases h
noncomputable def rz_sel (js : List Nat) (d x : Nat) : Nat := List.rec (fun _ => d) (fun j _ ih x => Nat.rec j (fun y _ => ih y) x) js x
theorem rz_sel_eq (d : Nat) : ∀ (js : List Nat) (x : Nat), rz_sel js d x = js.getD x d
  | [], _ => rfl
  | _ :: _, 0 => rfl
  | _ :: t, x + 1 => rz_sel_eq d t x
noncomputable def rz_tsw (lo : Nat) (js : List Nat) (d : Nat) : rz_B := fun _ J _ L S M => rz_hd S (fun v T => rz_int v (fun x => rz_if (Nat.ble x 2147483647) (rz_if (Nat.ble lo x) (rz_F (rz_sel js d (Nat.sub x lo)) (fun j => J j L T M)) (J d L T M)) false))
/-- the table of a switch, told by the places of the list -/
def rz_tab (pcs js : List Nat) (d pc lo : Nat) (dflt l h : Int) (offs : Array Int) : Bool := (l == (lo : Int)) && (h == (lo : Int) + (js.length : Int) - 1) && ((pc : Int) + dflt == ((pcs.getD d 0 : Nat) : Int)) && (List.range js.length).all (fun i => (offs[i]?).map (fun o => (pc : Int) + o) == some ((pcs.getD (js.getD i d) 0 : Nat) : Int))
theorem rz_tsw_ok {pcs js : List Nat} {d lo len : Nat} {dflt l1 h1 : Int} {offs : Array Int} (hx : p.tables.exec = Jvm.exec) (hb : c.code = cc) (hd : decode cc pc = .ok (.tableswitch dflt l1 h1 offs, len)) (ht : rz_tab pcs js d pc lo dflt l1 h1 offs = true) (hj : ∀ j, rz_Ok G p l e R s m args below meth c Q nL nz0 (pcs.getD j 0) (J j)) : rz_Ok G p l e R s m args below meth c Q nL nz0 (pc) (rz_tsw lo js d k J Z) := by
  intro L S M h ls H locs hL hW hS h0
  unfold rz_tab at ht
  simp only [Bool.and_eq_true, beq_iff_eq, List.all_eq_true, List.mem_range] at ht
  obtain ⟨⟨⟨hl, hh⟩, hdf⟩, hall⟩ := ht
  replace h := rz_hd_t h
  obtain ⟨v, T, rfl, h⟩ := h
  replace h := rz_int_t h
  obtain ⟨x, rfl, h⟩ := h
  rcases rz_if_t h with ⟨g, h⟩ | ⟨-, h⟩
  · have g := rz_ble.1.mp g
    have hxi : (nI x).toInt = (x : Int) := nI_toInt (by omega)
    rcases rz_if_t h with ⟨g1, h⟩ | ⟨g1, h⟩
    · have g1 := rz_ble.1.mp g1
      rw [rz_F_eq, rz_sel_eq] at h
      have h : J (js.getD (x - lo) d) L T M = true := h
      have hz := hj _ L T M h ls H locs hL hW hS h0
      by_cases q : x - lo < js.length
      · have ha := hall _ q
        cases ho : offs[x - lo]? with
        | none => rw [ho] at ha; cases ha
        | some off =>
          rw [ho] at ha
          have ha : (pc : Int) + off = ((pcs.getD (js.getD (x - lo) d) 0 : Nat) : Int) := Option.some.inj ha
          exact lv_tableIn hx hb hd (by omega) (by omega) (by rw [hxi, hl, show ((x : Int) - (lo : Int)).toNat = x - lo by omega]; exact ho) ha hz
      · have ej : js.getD (x - lo) d = d := by
          rw [List.getD_eq_getElem?_getD, List.getElem?_eq_none (by omega)]
          rfl
        rw [ej] at hz
        exact lv_tableOut hx hb hd (Or.inr (by omega)) hdf hz
    · have g1 := rz_ble.2.mp g1
      exact lv_tableOut hx hb hd (Or.inl (by omega)) hdf (hj _ L T M h ls H locs hL hW hS h0)
  · cases h
noncomputable def rz_lks (ks : List (Nat × Nat)) (d x : Nat) : Nat := List.rec d (fun q _ ih => Prod.rec (fun a j => Bool.rec ih j (Nat.beq x a)) q) ks
noncomputable def rz_lsw (ks : List (Nat × Nat)) (d : Nat) : rz_B := fun _ J _ L S M => rz_hd S (fun v T => rz_int v (fun x => rz_if (Nat.ble x 2147483647) (rz_F (rz_lks ks d x) (fun j => J j L T M)) false))
def rz_lkm (pcs : List Nat) (pc : Nat) : List (Nat × Nat) → List (Int × Int) → Bool
  | [], [] => true
  | (a, j) :: t, (b, o) :: u => (b == (a : Int)) && ((pc : Int) + o == ((pcs.getD j 0 : Nat) : Int)) && rz_lkm pcs pc t u
  | _, _ => false
theorem rz_lkm_t {pcs : List Nat} {pc d : Nat} {dflt : Int} (hdf : (pc : Int) + dflt = ((pcs.getD d 0 : Nat) : Int)) (x : Nat) : ∀ (ks : List (Nat × Nat)) (ps : List (Int × Int)), rz_lkm pcs pc ks ps = true → (pc : Int) + Op.lookupswitch.offset ps dflt (x : Int) = ((pcs.getD (rz_lks ks d x) 0 : Nat) : Int)
  | [], [], _ => hdf
  | [], _ :: _, h => by cases h
  | _ :: _, [], h => by cases h
  | (a, j) :: t, (b, o) :: u, h => by
    unfold rz_lkm at h
    simp only [Bool.and_eq_true, beq_iff_eq] at h
    obtain ⟨⟨h1, h2⟩, h3⟩ := h
    have ih := rz_lkm_t hdf x t u h3
    rw [Op.lookupswitch.offset_cons]
    have e : rz_lks ((a, j) :: t) d x = Bool.rec (rz_lks t d x) j (Nat.beq x a) := rfl
    rw [e]
    by_cases q : x = a
    · rw [if_pos (by rw [h1, q]), rz_beq.1.mpr q]
      exact h2
    · rw [if_neg (by omega), rz_beq.2.mpr q]
      exact ih
theorem rz_lsw_ok {pcs : List Nat} {ks : List (Nat × Nat)} {d len : Nat} {dflt : Int} {ps : Array (Int × Int)} (hx : p.tables.exec = Jvm.exec) (hb : c.code = cc) (hd : decode cc pc = .ok (.lookupswitch dflt ps, len)) (hp : (ps.toList.zip (ps.toList.drop 1)).all (fun (a, next) => a.1 < next.1) = true) (hdf : (pc : Int) + dflt = ((pcs.getD d 0 : Nat) : Int)) (ht : rz_lkm pcs pc ks ps.toList = true) (hj : ∀ j, rz_Ok G p l e R s m args below meth c Q nL nz0 (pcs.getD j 0) (J j)) : rz_Ok G p l e R s m args below meth c Q nL nz0 (pc) (rz_lsw ks d k J Z) := by
  intro L S M h ls H locs hL hW hS h0
  replace h := rz_hd_t h
  obtain ⟨v, T, rfl, h⟩ := h
  replace h := rz_int_t h
  obtain ⟨x, rfl, h⟩ := h
  rcases rz_if_t h with ⟨g, h⟩ | ⟨-, h⟩
  · have g := rz_ble.1.mp g
    rw [rz_F_eq] at h
    have hz := hj _ L T M h ls H locs hL hW hS h0
    exact lv_lookup hx hb hd hp rfl (by rw [nI_toInt (by omega)]; exact rz_lkm_t hdf x ks _ ht) hz
  · cases h
theorem rz_gets_ok {C n d own ref : String} {x index : Nat} {v : Value} (hx : p.tables.exec = Jvm.exec) (hb : c.code = cc) (hZ : va_Z C n d v (fun q => rz_b G ≤ q) s s.heap) (hv : v = .int (nI x)) (hown : s.vm.findClass own = some m.cls) (hlink : (Cond.fieldLink own index ref n d).before args s = true) (hsame : ∀ x, s.fieldFound? C n d = some x → s.fieldFound? ref n d = some x) (hd : decode cc pc = .ok (.getstatic index, 3)) (hk : rz_Ok G p l e R s m args below meth c Q nL nz0 (pc + 3) (k)) : rz_Ok G p l e R s m args below meth c Q nL nz0 (pc) (rz_cst x k J Z) := by
  intro L S M h ls H locs hL hW hS h0
  have hz := hk L (rz_i x :: S) M h ls H locs hL hW hS h0
  exact va_gets hx hb hZ hS hown hlink hsame hd (by rw [hv]; exact hz)
noncomputable def rz_txt (r : Nat) : rz_B := fun k _ _ L S M => k L (rz_r r :: S) M
theorem rz_ldcS_ok {own tx : String} {i index : Nat} (hx : p.tables.exec = Jvm.exec) (hb : c.code = cc) (hR : vk_R own index tx (rz_ad G (1000000 + i)) s) (hown : s.vm.findClass own = some m.cls) (hd : decode cc pc = .ok (.ldc index, 2)) (hk : rz_Ok G p l e R s m args below meth c Q nL nz0 (pc + 2) (k)) : rz_Ok G p l e R s m args below meth c Q nL nz0 (pc) (rz_txt (1000001 + i) k J Z) := by
  intro L S M h ls H locs hL hW hS h0
  have hz := hk L (rz_r (1000001 + i) :: S) M h ls H locs hL hW hS h0
  have e : rz_v G (rz_r (1000001 + i)) = .ref (rz_ad G (1000000 + i)) := by
    rw [show 1000001 + i = (1000000 + i) + 1 by omega]
    rfl
  rw [List.map_cons, e] at hz
  exact va_ldcS hx hb hown hR hd hz
theorem rz_ldcwS_ok {own tx : String} {i index : Nat} (hx : p.tables.exec = Jvm.exec) (hb : c.code = cc) (hR : vk_R own index tx (rz_ad G (1000000 + i)) s) (hown : s.vm.findClass own = some m.cls) (hd : decode cc pc = .ok (.ldc_w index, 3)) (hk : rz_Ok G p l e R s m args below meth c Q nL nz0 (pc + 3) (k)) : rz_Ok G p l e R s m args below meth c Q nL nz0 (pc) (rz_txt (1000001 + i) k J Z) := by
  intro L S M h ls H locs hL hW hS h0
  have hz := hk L (rz_r (1000001 + i) :: S) M h ls H locs hL hW hS h0
  have e : rz_v G (rz_r (1000001 + i)) = .ref (rz_ad G (1000000 + i)) := by
    rw [show 1000001 + i = (1000000 + i) + 1 by omega]
    rfl
  rw [List.map_cons, e] at hz
  intro T hT X
  obtain ⟨t, a1, b1⟩ := hz T hT X
  exact ⟨t, X.ldcStringW hx hown (text := tx) (a := rz_ad G (1000000 + i)) hR.1 hR.2 (g := F0 m pc ls (S.map (rz_v G))) rfl (by rw [hb]; exact hd) t a1, b1⟩
noncomputable def rz_no : rz_B := fun _ _ _ _ _ _ => false
theorem rz_no_ok : rz_Ok G p l e R s m args below meth c Q nL nz0 (pc) (rz_no k J Z) := fun L S M h => by cases h
end RZO
