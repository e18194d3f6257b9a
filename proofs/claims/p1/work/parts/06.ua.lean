/-! Cells made: objects, arrays, rows of arrays; constructors; answers that are references; calls of inherited methods; bytes copied. -/
theorem rz_wd_push {G : rz_G} (hA : rz_A G) {g : rz_H} {n z : Nat} {H H1 : Heap} (hW : rz_wd G (g, (n, z)) H) (hn : n ≤ 511) {C : Nat} (he : va_at (rz_D G) (rz_cl G) (rz_ad G n, rz_e G (rz_head C) C) H1) (z1 : H1.size = H.size + 1) (o1 : ∀ q : Nat, q < H.size → H1[q]? = H[q]?) : rz_wd G (rz_ud 9 g n C, (n + 1, z)) H1 := by
  obtain ⟨h1, h2, h3, h4⟩ := hW
  have h1 : H.size = rz_b G + n := h1
  refine ⟨?_, ?_, fun x hx hx2 => ?_, fun i x hi => ?_⟩
  · show H1.size = rz_b G + (n + 1)
    omega
  · show n + 1 ≤ 512
    omega
  · have hx : n + 1 ≤ x := hx
    have e := rz_gt_ud 9 g n x C (show n < 512 by omega) hx2
    rw [if_neg (by omega)] at e
    show rz_gt 9 (rz_ud 9 g n C) x = 0
    rw [e]
    exact h3 x (show n ≤ x by omega) hx2
  · obtain ⟨hj, rfl⟩ := rz_den_mem hi
    clear hi
    have hi : i < n + 1 := hj
    have e := rz_gt_ud 9 g n i C (show n < 512 by omega) (show i < 512 by omega)
    by_cases hin : i = n
    · subst hin
      rw [if_pos rfl] at e
      show va_at (rz_D G) (rz_cl G) (rz_ad G i, rz_e G (rz_head (rz_gt 9 (rz_ud 9 g i C) i)) (rz_gt 9 (rz_ud 9 g i C) i)) H1
      rw [e]
      exact he
    · rw [if_neg hin] at e
      show va_at (rz_D G) (rz_cl G) (rz_ad G i, rz_e G (rz_head (rz_gt 9 (rz_ud 9 g n C) i)) (rz_gt 9 (rz_ud 9 g n C) i)) H1
      rw [e]
      refine (h4 i _ (rz_den_at (show i < n by omega))).kept (o1 _ ?_)
      show rz_ad G i < H.size
      rw [hA i (by omega)]
      omega
theorem rz_S_push {A : Nat → Prop} {H0 H H1 : Heap} {locs : List Loc} (hS : va_S A H0 H locs) (z1 : H.size ≤ H1.size) (o1 : ∀ q : Nat, q < H.size → H1[q]? = H[q]?) : va_S A H0 H1 locs := ⟨Nat.le_trans hS.1 z1, fun x h1 h2 => (o1 x (Nat.lt_of_lt_of_le h1 hS.1)).trans (hS.2.1 x h1 h2), hS.2.2⟩
theorem rz_small {C w j : Nat} (h : C < 4294967296) : C / 2 ^ (32 + w * j) = 0 := by
  apply Nat.div_eq_of_lt
  refine Nat.lt_of_lt_of_le h ?_
  rw [Nat.pow_add]
  exact Nat.le_mul_of_pos_right (2 ^ 32) (Nat.two_pow_pos _)
theorem rz_g64_small {C j : Nat} (h : C < 4294967296) : rz_g64 C j = 0 := by
  rw [rz_g64_eq, rz_small h]
theorem rz_g32_small {C j : Nat} (h : C < 4294967296) : rz_g32 C j = 0 := by
  rw [rz_g32_eq, rz_small h]
theorem rz_g16_small {C j : Nat} (h : C < 4294967296) : rz_g16 C j = 0 := by
  rw [rz_g16_eq, rz_small h]
def rz_dt (ty : FieldType) : Nat := match ty with
  | .long => 1
  | .object _ => 2
  | .array _ => 2
  | .float => 3
  | .double => 3
  | _ => 0
theorem rz_lN0 : (0 : Int64) = lN 0 := by decide
theorem rz_dt_eq (G : rz_G) (ty : FieldType) (h : rz_dt ty ≤ 2) : defaultValue ty = rz_fv G (rz_dt ty) 0 := by
  cases ty <;> first
    | rfl
    | (show Value.int 0 = Value.int (nI 0); rw [← rz_nI0]; done)
    | (show Value.long 0 = Value.long (lN 0); rw [← rz_lN0]; done)
    | exact absurd h (by decide)
section RZU
variable {G : rz_G} {p : Program} {l : Launch} {e : Env} {R : Room} {s : State} {m : MethodId} {args : Array Value} {below : List Frame} {meth : Method} {c : Code} {Q : State → Prop} {nL pc : Nat} {nz0 : Nat × Nat} {cc : ByteArray} {k : rz_K} {J : rz_J} {Z : rz_Z}
variable {TB : List Cond} {y x : MethodName} {rt rt2 : Option FieldType} {rm rm2 : Room}
theorem rz_wid {nz1 : Nat × Nat} (h : nz0.1 ≤ nz1.1 ∧ nz0.2 ≤ nz1.2) (hk : rz_Ok G p l e R s m args below meth c Q nL nz1 (pc) (k)) : rz_Ok G p l e R s m args below meth c Q nL nz0 (pc) (k) := fun L S M h1 ls H locs hL hW hS h0 => W.widen h.1 h.2 (hk L S M h1 ls H locs hL hW hS h0)
-- an object
noncomputable def rz_newo (hd : Nat) : rz_B := fun k _ _ L S M => rz_mm M (fun g nz => Prod.rec (fun n z => rz_if (Nat.ble n 511) (rz_upd 9 g n hd (fun g' => rz_F (Nat.succ n) (fun n' => k L (rz_r n' :: S) (g', (n', z))))) false) nz)
theorem rz_newo_ok {own C : String} {T : u_T} {N ci index : Nat} {ty : Nat → FieldType} {Ts : List Cond} (hx : p.tables.exec = Jvm.exec) (hb : c.code = cc) (hts : ∀ w ∈ Ts, w.before args s = true) (hin : ∀ w ∈ u_ws C T N, w ∈ Ts) (hty : ∀ k, k < N → parseFieldDescriptor (T k).2.2.1 = some (ty k)) (hown : s.vm.findClass own = some m.cls) (hcl : (Cond.classLink own index C).before args s = true) (hinst : (Cond.instantiable C N).before args s = true) (hini : (Cond.initialized C).before args s = true) (hK : va_K (rz_D G) (rz_cl G) (rz_tys G) s) (hA : rz_A G) (hc : (rz_cl G)[ci]? = some (C, T, N)) (hci : ci < 65536) (hdf : ∀ j, j < N → (rz_ft G ci)[j]? = some (rz_dt (ty j)) ∧ rz_dt (ty j) ≤ 2) (hroom : nz0.1 + 1 ≤ R.cells ∧ nz0.2 + N ≤ R.slots) (hd : decode cc pc = .ok (.new index, 3)) (hk : rz_Ok G p l e R s m args below meth c Q nL (nz0.1 + 1, nz0.2 + N) (pc + 3) (k)) : rz_Ok G p l e R s m args below meth c Q nL nz0 (pc) (rz_newo (Nat.add (Nat.mul 256 ci) 1) k J Z) := by
  intro L S M h ls H locs hL hW hS h0
  replace h := rz_mm_t h
  obtain ⟨g, ⟨n, z⟩, rfl, h⟩ := h
  replace h : rz_if (Nat.ble n 511) (rz_upd 9 g n (Nat.add (Nat.mul 256 ci) 1) (fun g' => rz_F (Nat.succ n) (fun n' => k L (rz_r n' :: S) (g', (n', z))))) false = true := h
  rcases rz_if_t h with ⟨hn, h⟩ | ⟨-, h⟩
  · have hn : n ≤ 511 := rz_ble.1.mp hn
    rw [rz_upd_eq, rz_F_eq] at h
    have hKn := hK.1 ci _ hc
    have hsz : H.size = rz_b G + n := hW.1
    refine W.newcK hx hb hown hcl hinst hini rfl hd hroom.1 hroom.2 hKn.2.1 rfl fun H1 kC hkC e1 z1 o1 => ?_
    have hC : Nat.add (Nat.mul 256 ci) 1 < 4294967296 := by
      show 256 * ci + 1 < 4294967296
      omega
    have hhd : rz_head (Nat.add (Nat.mul 256 ci) 1) = Nat.add (Nat.mul 256 ci) 1 := Nat.mod_eq_of_lt hC
    have hat : va_at (rz_D G) (rz_cl G) (rz_ad G n, rz_e G (rz_head (Nat.add (Nat.mul 256 ci) 1)) (Nat.add (Nat.mul 256 ci) 1)) H1 := by
      rw [hhd, rz_e_obj, hA n (by omega), ← hsz]
      refine ⟨_, hc, (u_born ty hts hin hKn hkC e1 hty).to (fun j hj => ?_)⟩
      rw [rz_dt_eq G (ty j) (hdf j hj).2]
      show _ = (rz_fs G _ ci).getD j .null
      rw [List.getD_eq_getElem?_getD, rz_fs_at (hdf j hj).1, rz_g64_small hC]
      rfl
    have hwd := rz_wd_push hA hW hn hat z1 o1
    have hz := hk L (rz_r (n + 1) :: S) _ h ls H1 locs hL hwd (rz_S_push hS (by omega) o1) trivial
    have e : rz_v G (rz_r (n + 1)) = .ref H.size := by
      show Value.ref (rz_ad G n) = _
      rw [hA n (by omega), hsz]
    rw [List.map_cons, e] at hz
    exact hz
  · cases h
-- an array
noncomputable def rz_newa (kd mx : Nat) : rz_B := fun k _ _ L S M => rz_hd S (fun v U => rz_int v (fun x => rz_if (Nat.ble x mx) (rz_mm M (fun g nz => Prod.rec (fun n z => rz_if (Nat.ble n 511) (rz_F (Nat.add (Nat.mul 256 x) kd) (fun C => rz_upd 9 g n C (fun g' => rz_F (Nat.succ n) (fun n' => k L (rz_r n' :: U) (g', (n', z)))))) false) nz)) false))
theorem rz_newa_int_ok {mx : Nat} (hx : p.tables.exec = Jvm.exec) (hb : c.code = cc) (hK : va_K (rz_D G) (rz_cl G) (rz_tys G) s) (hA : rz_A G) (harr : (Cond.arrayClass .int).before args s = true) (hmx : mx < 8388608) (hroom : nz0.1 + 1 ≤ R.cells ∧ nz0.2 + mx ≤ R.slots) (hd : decode cc pc = .ok (.newarray .int, 2)) (hk : rz_Ok G p l e R s m args below meth c Q nL (nz0.1 + 1, nz0.2 + mx) (pc + 2) (k)) : rz_Ok G p l e R s m args below meth c Q nL nz0 (pc) (rz_newa 4 mx k J Z) := by
  intro L S M h ls H locs hL hW hS h0
  replace h := rz_hd_t h
  obtain ⟨v, U, rfl, h⟩ := h
  replace h := rz_int_t h
  obtain ⟨x, rfl, h⟩ := h
  rcases rz_if_t h with ⟨hxm, h2⟩ | ⟨-, h2⟩
  · have hxm : x ≤ mx := rz_ble.1.mp hxm
    have h3 := rz_mm_t h2
    obtain ⟨g, ⟨n, z⟩, rfl, h4⟩ := h3
    replace h4 : rz_if (Nat.ble n 511) (rz_F (Nat.add (Nat.mul 256 x) 4) (fun C => rz_upd 9 g n C (fun g' => rz_F (Nat.succ n) (fun n' => k L (rz_r n' :: U) (g', (n', z)))))) false = true := h4
    rcases rz_if_t h4 with ⟨hn, h⟩ | ⟨-, h⟩
    · have hn : n ≤ 511 := rz_ble.1.mp hn
      rw [rz_F_eq, rz_upd_eq, rz_F_eq] at h
      have hsz : H.size = rz_b G + n := hW.1
      have cx : (nI x).toNatClampNeg = x := nI_clamp (by omega)
      refine va_newaK hx hb (atype := .int) harr rfl hd rfl (nI_pos (by omega)) cx (Nat.le_trans (Nat.mul_le_mul_left x (show componentBytes (newarray.typeOf .int) ≤ 8 by decide)) (by omega)) hroom.1 (by have := hroom.2; omega) rfl fun H1 cA e1 z1 o1 hAr hNm => ?_
      refine W.widen (k := nz0.1 + 1) (n := nz0.2 + mx) (Nat.le_refl _) (by omega) ?_
      have ec : cA = rz_tc G 4 := Option.some.inj (hNm.symm.trans (hK.2 2 _ rfl).2)
      have hC : Nat.add (Nat.mul 256 x) 4 < 4294967296 := by
        show 256 * x + 4 < 4294967296
        omega
      have hhd : rz_head (Nat.add (Nat.mul 256 x) 4) = 256 * x + 4 := Nat.mod_eq_of_lt hC
      have hm : rz_head (Nat.add (Nat.mul 256 x) 4) % 256 = 4 := by
        rw [hhd]
        omega
      have hq : rz_head (Nat.add (Nat.mul 256 x) 4) / 256 = x := by
        rw [hhd]
        omega
      have hat : va_at (rz_D G) (rz_cl G) (rz_ad G n, rz_e G (rz_head (Nat.add (Nat.mul 256 x) 4)) (Nat.add (Nat.mul 256 x) 4)) H1 := by
        rw [rz_ek G hm (by decide), hq, hA n (by omega), ← hsz]
        refine e1.trans (congrArg some ?_)
        dsimp only
        rw [ec, vp_cell_i]
        refine congrArg (arrV _ _) (funext fun j => ?_)
        show Value.int 0 = Value.int (nI _)
        rw [rz_g32_small hC, ← rz_nI0]
      have hwd := rz_wd_push hA hW hn hat z1 o1
      have hz := hk L (rz_r (n + 1) :: U) _ h ls H1 locs hL hwd (rz_S_push hS (by omega) o1) trivial
      have e : rz_v G (rz_r (n + 1)) = .ref H.size := by
        show Value.ref (rz_ad G n) = _
        rw [hA n (by omega), hsz]
      rw [List.map_cons, e] at hz
      exact hz
    · cases h
  · cases h2
theorem rz_newa_char_ok {mx : Nat} (hx : p.tables.exec = Jvm.exec) (hb : c.code = cc) (hK : va_K (rz_D G) (rz_cl G) (rz_tys G) s) (hA : rz_A G) (harr : (Cond.arrayClass .char).before args s = true) (hmx : mx < 8388608) (hroom : nz0.1 + 1 ≤ R.cells ∧ nz0.2 + mx ≤ R.slots) (hd : decode cc pc = .ok (.newarray .char, 2)) (hk : rz_Ok G p l e R s m args below meth c Q nL (nz0.1 + 1, nz0.2 + mx) (pc + 2) (k)) : rz_Ok G p l e R s m args below meth c Q nL nz0 (pc) (rz_newa 5 mx k J Z) := by
  intro L S M h ls H locs hL hW hS h0
  replace h := rz_hd_t h
  obtain ⟨v, U, rfl, h⟩ := h
  replace h := rz_int_t h
  obtain ⟨x, rfl, h⟩ := h
  rcases rz_if_t h with ⟨hxm, h2⟩ | ⟨-, h2⟩
  · have hxm : x ≤ mx := rz_ble.1.mp hxm
    have h3 := rz_mm_t h2
    obtain ⟨g, ⟨n, z⟩, rfl, h4⟩ := h3
    replace h4 : rz_if (Nat.ble n 511) (rz_F (Nat.add (Nat.mul 256 x) 5) (fun C => rz_upd 9 g n C (fun g' => rz_F (Nat.succ n) (fun n' => k L (rz_r n' :: U) (g', (n', z)))))) false = true := h4
    rcases rz_if_t h4 with ⟨hn, h⟩ | ⟨-, h⟩
    · have hn : n ≤ 511 := rz_ble.1.mp hn
      rw [rz_F_eq, rz_upd_eq, rz_F_eq] at h
      have hsz : H.size = rz_b G + n := hW.1
      have cx : (nI x).toNatClampNeg = x := nI_clamp (by omega)
      refine va_newaK hx hb (atype := .char) harr rfl hd rfl (nI_pos (by omega)) cx (Nat.le_trans (Nat.mul_le_mul_left x (show componentBytes (newarray.typeOf .char) ≤ 8 by decide)) (by omega)) hroom.1 (by have := hroom.2; omega) rfl fun H1 cA e1 z1 o1 hAr hNm => ?_
      refine W.widen (k := nz0.1 + 1) (n := nz0.2 + mx) (Nat.le_refl _) (by omega) ?_
      have ec : cA = rz_tc G 5 := Option.some.inj (hNm.symm.trans (hK.2 3 _ rfl).2)
      have hC : Nat.add (Nat.mul 256 x) 5 < 4294967296 := by
        show 256 * x + 5 < 4294967296
        omega
      have hhd : rz_head (Nat.add (Nat.mul 256 x) 5) = 256 * x + 5 := Nat.mod_eq_of_lt hC
      have hm : rz_head (Nat.add (Nat.mul 256 x) 5) % 256 = 5 := by
        rw [hhd]
        omega
      have hq : rz_head (Nat.add (Nat.mul 256 x) 5) / 256 = x := by
        rw [hhd]
        omega
      have hat : va_at (rz_D G) (rz_cl G) (rz_ad G n, rz_e G (rz_head (Nat.add (Nat.mul 256 x) 5)) (Nat.add (Nat.mul 256 x) 5)) H1 := by
        rw [rz_ek G hm (by decide), hq, hA n (by omega), ← hsz]
        refine e1.trans (congrArg some ?_)
        dsimp only
        rw [ec, vp_cell_i]
        refine congrArg (arrV _ _) (funext fun j => ?_)
        show Value.int 0 = Value.int (nI _)
        rw [rz_g32_small hC, ← rz_nI0]
      have hwd := rz_wd_push hA hW hn hat z1 o1
      have hz := hk L (rz_r (n + 1) :: U) _ h ls H1 locs hL hwd (rz_S_push hS (by omega) o1) trivial
      have e : rz_v G (rz_r (n + 1)) = .ref H.size := by
        show Value.ref (rz_ad G n) = _
        rw [hA n (by omega), hsz]
      rw [List.map_cons, e] at hz
      exact hz
    · cases h
  · cases h2
theorem rz_newa_boolean_ok {mx : Nat} (hx : p.tables.exec = Jvm.exec) (hb : c.code = cc) (hK : va_K (rz_D G) (rz_cl G) (rz_tys G) s) (hA : rz_A G) (harr : (Cond.arrayClass .boolean).before args s = true) (hmx : mx < 8388608) (hroom : nz0.1 + 1 ≤ R.cells ∧ nz0.2 + mx ≤ R.slots) (hd : decode cc pc = .ok (.newarray .boolean, 2)) (hk : rz_Ok G p l e R s m args below meth c Q nL (nz0.1 + 1, nz0.2 + mx) (pc + 2) (k)) : rz_Ok G p l e R s m args below meth c Q nL nz0 (pc) (rz_newa 6 mx k J Z) := by
  intro L S M h ls H locs hL hW hS h0
  replace h := rz_hd_t h
  obtain ⟨v, U, rfl, h⟩ := h
  replace h := rz_int_t h
  obtain ⟨x, rfl, h⟩ := h
  rcases rz_if_t h with ⟨hxm, h2⟩ | ⟨-, h2⟩
  · have hxm : x ≤ mx := rz_ble.1.mp hxm
    have h3 := rz_mm_t h2
    obtain ⟨g, ⟨n, z⟩, rfl, h4⟩ := h3
    replace h4 : rz_if (Nat.ble n 511) (rz_F (Nat.add (Nat.mul 256 x) 6) (fun C => rz_upd 9 g n C (fun g' => rz_F (Nat.succ n) (fun n' => k L (rz_r n' :: U) (g', (n', z)))))) false = true := h4
    rcases rz_if_t h4 with ⟨hn, h⟩ | ⟨-, h⟩
    · have hn : n ≤ 511 := rz_ble.1.mp hn
      rw [rz_F_eq, rz_upd_eq, rz_F_eq] at h
      have hsz : H.size = rz_b G + n := hW.1
      have cx : (nI x).toNatClampNeg = x := nI_clamp (by omega)
      refine va_newaK hx hb (atype := .boolean) harr rfl hd rfl (nI_pos (by omega)) cx (Nat.le_trans (Nat.mul_le_mul_left x (show componentBytes (newarray.typeOf .boolean) ≤ 8 by decide)) (by omega)) hroom.1 (by have := hroom.2; omega) rfl fun H1 cA e1 z1 o1 hAr hNm => ?_
      refine W.widen (k := nz0.1 + 1) (n := nz0.2 + mx) (Nat.le_refl _) (by omega) ?_
      have ec : cA = rz_tc G 6 := Option.some.inj (hNm.symm.trans (hK.2 4 _ rfl).2)
      have hC : Nat.add (Nat.mul 256 x) 6 < 4294967296 := by
        show 256 * x + 6 < 4294967296
        omega
      have hhd : rz_head (Nat.add (Nat.mul 256 x) 6) = 256 * x + 6 := Nat.mod_eq_of_lt hC
      have hm : rz_head (Nat.add (Nat.mul 256 x) 6) % 256 = 6 := by
        rw [hhd]
        omega
      have hq : rz_head (Nat.add (Nat.mul 256 x) 6) / 256 = x := by
        rw [hhd]
        omega
      have hat : va_at (rz_D G) (rz_cl G) (rz_ad G n, rz_e G (rz_head (Nat.add (Nat.mul 256 x) 6)) (Nat.add (Nat.mul 256 x) 6)) H1 := by
        rw [rz_ek G hm (by decide), hq, hA n (by omega), ← hsz]
        refine e1.trans (congrArg some ?_)
        dsimp only
        rw [ec, vp_cell_i]
        refine congrArg (arrV _ _) (funext fun j => ?_)
        show Value.int 0 = Value.int (nI _)
        rw [rz_g32_small hC, ← rz_nI0]
      have hwd := rz_wd_push hA hW hn hat z1 o1
      have hz := hk L (rz_r (n + 1) :: U) _ h ls H1 locs hL hwd (rz_S_push hS (by omega) o1) trivial
      have e : rz_v G (rz_r (n + 1)) = .ref H.size := by
        show Value.ref (rz_ad G n) = _
        rw [hA n (by omega), hsz]
      rw [List.map_cons, e] at hz
      exact hz
    · cases h
  · cases h2
theorem rz_newa_byte_ok {mx : Nat} (hx : p.tables.exec = Jvm.exec) (hb : c.code = cc) (hK : va_K (rz_D G) (rz_cl G) (rz_tys G) s) (hA : rz_A G) (harr : (Cond.arrayClass .byte).before args s = true) (hmx : mx < 8388608) (hroom : nz0.1 + 1 ≤ R.cells ∧ nz0.2 + mx ≤ R.slots) (hd : decode cc pc = .ok (.newarray .byte, 2)) (hk : rz_Ok G p l e R s m args below meth c Q nL (nz0.1 + 1, nz0.2 + mx) (pc + 2) (k)) : rz_Ok G p l e R s m args below meth c Q nL nz0 (pc) (rz_newa 7 mx k J Z) := by
  intro L S M h ls H locs hL hW hS h0
  replace h := rz_hd_t h
  obtain ⟨v, U, rfl, h⟩ := h
  replace h := rz_int_t h
  obtain ⟨x, rfl, h⟩ := h
  rcases rz_if_t h with ⟨hxm, h2⟩ | ⟨-, h2⟩
  · have hxm : x ≤ mx := rz_ble.1.mp hxm
    have h3 := rz_mm_t h2
    obtain ⟨g, ⟨n, z⟩, rfl, h4⟩ := h3
    replace h4 : rz_if (Nat.ble n 511) (rz_F (Nat.add (Nat.mul 256 x) 7) (fun C => rz_upd 9 g n C (fun g' => rz_F (Nat.succ n) (fun n' => k L (rz_r n' :: U) (g', (n', z)))))) false = true := h4
    rcases rz_if_t h4 with ⟨hn, h⟩ | ⟨-, h⟩
    · have hn : n ≤ 511 := rz_ble.1.mp hn
      rw [rz_F_eq, rz_upd_eq, rz_F_eq] at h
      have hsz : H.size = rz_b G + n := hW.1
      have cx : (nI x).toNatClampNeg = x := nI_clamp (by omega)
      refine va_newaK hx hb (atype := .byte) harr rfl hd rfl (nI_pos (by omega)) cx (Nat.le_trans (Nat.mul_le_mul_left x (show componentBytes (newarray.typeOf .byte) ≤ 8 by decide)) (by omega)) hroom.1 (by have := hroom.2; omega) rfl fun H1 cA e1 z1 o1 hAr hNm => ?_
      refine W.widen (k := nz0.1 + 1) (n := nz0.2 + mx) (Nat.le_refl _) (by omega) ?_
      have ec : cA = rz_tc G 7 := Option.some.inj (hNm.symm.trans (hK.2 5 _ rfl).2)
      have hC : Nat.add (Nat.mul 256 x) 7 < 4294967296 := by
        show 256 * x + 7 < 4294967296
        omega
      have hhd : rz_head (Nat.add (Nat.mul 256 x) 7) = 256 * x + 7 := Nat.mod_eq_of_lt hC
      have hm : rz_head (Nat.add (Nat.mul 256 x) 7) % 256 = 7 := by
        rw [hhd]
        omega
      have hq : rz_head (Nat.add (Nat.mul 256 x) 7) / 256 = x := by
        rw [hhd]
        omega
      have hat : va_at (rz_D G) (rz_cl G) (rz_ad G n, rz_e G (rz_head (Nat.add (Nat.mul 256 x) 7)) (Nat.add (Nat.mul 256 x) 7)) H1 := by
        rw [rz_ek G hm (by decide), hq, hA n (by omega), ← hsz]
        refine e1.trans (congrArg some ?_)
        dsimp only
        rw [ec, vp_cell_i]
        refine congrArg (arrV _ _) (funext fun j => ?_)
        show Value.int 0 = Value.int (nI _)
        rw [rz_g32_small hC, ← rz_nI0]
      have hwd := rz_wd_push hA hW hn hat z1 o1
      have hz := hk L (rz_r (n + 1) :: U) _ h ls H1 locs hL hwd (rz_S_push hS (by omega) o1) trivial
      have e : rz_v G (rz_r (n + 1)) = .ref H.size := by
        show Value.ref (rz_ad G n) = _
        rw [hA n (by omega), hsz]
      rw [List.map_cons, e] at hz
      exact hz
    · cases h
  · cases h2
theorem rz_newa_long_ok {mx : Nat} (hx : p.tables.exec = Jvm.exec) (hb : c.code = cc) (hK : va_K (rz_D G) (rz_cl G) (rz_tys G) s) (hA : rz_A G) (harr : (Cond.arrayClass .long).before args s = true) (hmx : mx < 8388608) (hroom : nz0.1 + 1 ≤ R.cells ∧ nz0.2 + mx ≤ R.slots) (hd : decode cc pc = .ok (.newarray .long, 2)) (hk : rz_Ok G p l e R s m args below meth c Q nL (nz0.1 + 1, nz0.2 + mx) (pc + 2) (k)) : rz_Ok G p l e R s m args below meth c Q nL nz0 (pc) (rz_newa 2 mx k J Z) := by
  intro L S M h ls H locs hL hW hS h0
  replace h := rz_hd_t h
  obtain ⟨v, U, rfl, h⟩ := h
  replace h := rz_int_t h
  obtain ⟨x, rfl, h⟩ := h
  rcases rz_if_t h with ⟨hxm, h2⟩ | ⟨-, h2⟩
  · have hxm : x ≤ mx := rz_ble.1.mp hxm
    have h3 := rz_mm_t h2
    obtain ⟨g, ⟨n, z⟩, rfl, h4⟩ := h3
    replace h4 : rz_if (Nat.ble n 511) (rz_F (Nat.add (Nat.mul 256 x) 2) (fun C => rz_upd 9 g n C (fun g' => rz_F (Nat.succ n) (fun n' => k L (rz_r n' :: U) (g', (n', z)))))) false = true := h4
    rcases rz_if_t h4 with ⟨hn, h⟩ | ⟨-, h⟩
    · have hn : n ≤ 511 := rz_ble.1.mp hn
      rw [rz_F_eq, rz_upd_eq, rz_F_eq] at h
      have hsz : H.size = rz_b G + n := hW.1
      have cx : (nI x).toNatClampNeg = x := nI_clamp (by omega)
      refine va_newaK hx hb (atype := .long) harr rfl hd rfl (nI_pos (by omega)) cx (Nat.le_trans (Nat.mul_le_mul_left x (show componentBytes (newarray.typeOf .long) ≤ 8 by decide)) (by omega)) hroom.1 (by have := hroom.2; omega) rfl fun H1 cA e1 z1 o1 hAr hNm => ?_
      refine W.widen (k := nz0.1 + 1) (n := nz0.2 + mx) (Nat.le_refl _) (by omega) ?_
      have ec : cA = rz_tc G 2 := Option.some.inj (hNm.symm.trans (hK.2 0 _ rfl).2)
      have hC : Nat.add (Nat.mul 256 x) 2 < 4294967296 := by
        show 256 * x + 2 < 4294967296
        omega
      have hhd : rz_head (Nat.add (Nat.mul 256 x) 2) = 256 * x + 2 := Nat.mod_eq_of_lt hC
      have hm : rz_head (Nat.add (Nat.mul 256 x) 2) % 256 = 2 := by
        rw [hhd]
        omega
      have hq : rz_head (Nat.add (Nat.mul 256 x) 2) / 256 = x := by
        rw [hhd]
        omega
      have hat : va_at (rz_D G) (rz_cl G) (rz_ad G n, rz_e G (rz_head (Nat.add (Nat.mul 256 x) 2)) (Nat.add (Nat.mul 256 x) 2)) H1 := by
        rw [rz_e2 G hm, hq, hA n (by omega), ← hsz]
        refine e1.trans (congrArg some ?_)
        dsimp only
        rw [ec, vp_cell_l]
        refine congrArg (arrV _ _) (funext fun j => ?_)
        show Value.long 0 = Value.long (lN _)
        rw [rz_g64_small hC, ← rz_lN0]
      have hwd := rz_wd_push hA hW hn hat z1 o1
      have hz := hk L (rz_r (n + 1) :: U) _ h ls H1 locs hL hwd (rz_S_push hS (by omega) o1) trivial
      have e : rz_v G (rz_r (n + 1)) = .ref H.size := by
        show Value.ref (rz_ad G n) = _
        rw [hA n (by omega), hsz]
      rw [List.map_cons, e] at hz
      exact hz
    · cases h
  · cases h2
-- rows of ints
noncomputable def rz_rows (v q n : Nat) (g : rz_H) : rz_H := Nat.rec g (fun j g1 => rz_ud 9 g1 (Nat.add q j) v) n
noncomputable def rz_rowk (v q n : Nat) : rz_H → (rz_H → Bool) → Bool := Nat.rec (fun g k => k g) (fun j ih g k => ih g (fun g1 => rz_upd 9 g1 (Nat.add q j) v k)) n
theorem rz_rowk_eq (v q : Nat) : ∀ (n : Nat) (g : rz_H) (k : rz_H → Bool), rz_rowk v q n g k = k (rz_rows v q n g)
  | 0, _, _ => rfl
  | n + 1, g, k => by
    show rz_rowk v q n g (fun g1 => rz_upd 9 g1 (Nat.add q n) v k) = _
    rw [rz_rowk_eq v q n, rz_upd_eq]
    rfl
theorem rz_rows_gt (v q : Nat) : ∀ (n : Nat) (g : rz_H) (i : Nat), q + n ≤ 512 → i < 512 → rz_gt 9 (rz_rows v q n g) i = if q ≤ i ∧ i < q + n then v else rz_gt 9 g i
  | 0, g, i, _, _ => by
    rw [if_neg (by omega)]
    rfl
  | n + 1, g, i, hq, hi => by
    have e : rz_gt 9 (rz_rows v q (n + 1) g) i = if i = q + n then v else rz_gt 9 (rz_rows v q n g) i := rz_gt_ud 9 (rz_rows v q n g) (q + n) i v (show q + n < 512 by omega) hi
    rw [e, rz_rows_gt v q n g i (by omega) hi]
    by_cases h : i = q + n
    · rw [if_pos h, if_pos (by omega)]
    · rw [if_neg h]
      by_cases h2 : q ≤ i ∧ i < q + n
      · rw [if_pos h2, if_pos (by omega)]
      · rw [if_neg h2, if_neg (by omega)]
noncomputable def rz_outr (q C n : Nat) : Nat := Nat.rec C (fun j B => rz_p B (Nat.add 32 (Nat.mul 16 j)) (rz_g16 B j) (Nat.add (Nat.add q 2) j)) n
noncomputable def rz_outk (q C n : Nat) : (Nat → Bool) → Bool := Nat.rec (fun k => k C) (fun j ih k => ih (fun B => rz_F (rz_p B (Nat.add 32 (Nat.mul 16 j)) (rz_g16 B j) (Nat.add (Nat.add q 2) j)) k)) n
theorem rz_outk_eq (q C : Nat) : ∀ (n : Nat) (k : Nat → Bool), rz_outk q C n k = k (rz_outr q C n)
  | 0, _ => rfl
  | n + 1, k => by
    show rz_outk q C n _ = _
    rw [rz_outk_eq q C n, rz_F_eq]
    rfl
theorem rz_outr_head (q C : Nat) : ∀ n : Nat, q + n ≤ 512 → rz_head (rz_outr q C n) = rz_head C
  | 0, _ => rfl
  | n + 1, h => by
    have e : rz_head (rz_outr q C (n + 1)) = rz_head (rz_outr q C n) := rz_p_head (w := 16) (v := q + 2 + n) (show q + 2 + n < 2 ^ 16 from Nat.lt_of_le_of_lt (show q + 2 + n ≤ 514 by omega) (by decide)) (rz_g16_eq _ _)
    rw [e, rz_outr_head q C n (by omega)]
theorem rz_outr_lane (q C : Nat) (hC : C < 4294967296) : ∀ (n i : Nat), q + n ≤ 512 → rz_g16 (rz_outr q C n) i = if i < n then q + 2 + i else 0
  | 0, i, _ => by
    rw [if_neg (by omega)]
    exact rz_g16_small hC
  | n + 1, i, h => by
    have e : rz_g16 (rz_outr q C (n + 1)) i = if i = n then q + 2 + n else rz_g16 (rz_outr q C n) i := by
      rw [rz_g16_eq, rz_g16_eq (rz_outr q C n) i]
      exact rz_p_lane (w := 16) (i := i) (j := n) (show q + 2 + n < 2 ^ 16 from Nat.lt_of_le_of_lt (show q + 2 + n ≤ 514 by omega) (by decide)) (rz_g16_eq _ _)
    rw [e, rz_outr_lane q C hC n i (by omega)]
    by_cases h1 : i = n
    · rw [if_pos h1, if_pos (by omega), h1]
    · rw [if_neg h1]
      by_cases h2 : i < n
      · rw [if_pos h2, if_pos (by omega)]
      · rw [if_neg h2, if_neg (by omega)]
noncomputable def rz_mna (mn mk : Nat) : rz_B := fun k _ _ L S M => rz_hd S (fun vk S => rz_hd S (fun vn U => rz_int vk (fun kk => rz_int vn (fun nn => rz_if (Nat.ble kk mk) (rz_if (Nat.ble nn mn) (rz_mm M (fun g nz => Prod.rec (fun n z => rz_F (Nat.add (Nat.succ n) nn) (fun n' => rz_if (Nat.ble n' 512) (rz_F (Nat.add (Nat.mul 256 nn) 3) (fun C0 => rz_outk n C0 nn (fun C => rz_upd 9 g n C (fun g1 => rz_F (Nat.add (Nat.mul 256 kk) 4) (fun V => rz_rowk V (Nat.succ n) nn g1 (fun g2 => rz_F (Nat.succ n) (fun r => k L (rz_r r :: U) (g2, (n', z)))))))) ) false)) nz)) false) false))))
theorem rz_mna_ok {own : String} {index mn mk : Nat} (hx : p.tables.exec = Jvm.exec) (hb : c.code = cc) (hK : va_K (rz_D G) (rz_cl G) (rz_tys G) s) (hA : rz_A G) (hown : s.vm.findClass own = some m.cls) (hclink : (Cond.classLink own index "[[I").before args s = true) (hover : (Cond.arrayOver (.array .int)).before args s = true) (harr : (Cond.arrayClass .int).before args s = true) (hmn : mn < 8388608) (hmk : mk < 8388608) (hroom : nz0.1 + 1 + mn ≤ R.cells ∧ nz0.2 + mn + mn * mk ≤ R.slots) (hd : decode cc pc = .ok (.multianewarray index 2, 4)) (hk : rz_Ok G p l e R s m args below meth c Q nL (nz0.1 + 1 + mn, nz0.2 + mn + mn * mk) (pc + 4) (k)) : rz_Ok G p l e R s m args below meth c Q nL nz0 (pc) (rz_mna mn mk k J Z) := by
  intro L S M h ls H locs hL hW hS h0
  replace h := rz_hd_t h
  obtain ⟨vk, S1, rfl, h⟩ := h
  replace h := rz_hd_t h
  obtain ⟨vn, U, rfl, h⟩ := h
  replace h := rz_int_t h
  obtain ⟨kk, rfl, h⟩ := h
  replace h := rz_int_t h
  obtain ⟨nn, rfl, h⟩ := h
  rcases rz_if_t h with ⟨hkm, h2⟩ | ⟨-, h2⟩
  · have hkm : kk ≤ mk := rz_ble.1.mp hkm
    rcases rz_if_t h2 with ⟨hnm, h3⟩ | ⟨-, h3⟩
    · have hnm : nn ≤ mn := rz_ble.1.mp hnm
      have h4 := rz_mm_t h3
      obtain ⟨g, ⟨n, z⟩, rfl, h5⟩ := h4
      replace h5 : rz_F (Nat.add (Nat.succ n) nn) (fun n' => rz_if (Nat.ble n' 512) (rz_F (Nat.add (Nat.mul 256 nn) 3) (fun C0 => rz_outk n C0 nn (fun C => rz_upd 9 g n C (fun g1 => rz_F (Nat.add (Nat.mul 256 kk) 4) (fun V => rz_rowk V (Nat.succ n) nn g1 (fun g2 => rz_F (Nat.succ n) (fun r => k L (rz_r r :: U) (g2, (n', z)))))))) ) false) = true := h5
      rw [rz_F_eq] at h5
      rcases rz_if_t h5 with ⟨hn, h⟩ | ⟨-, h⟩
      · have hn : n + 1 + nn ≤ 512 := rz_ble.1.mp hn
        rw [rz_F_eq, rz_outk_eq, rz_upd_eq, rz_F_eq, rz_rowk_eq, rz_F_eq] at h
        have hsz : H.size = rz_b G + n := hW.1
        have cn : (nI nn).toNatClampNeg = nn := nI_clamp (by omega)
        have ck : (nI kk).toNatClampNeg = kk := nI_clamp (by omega)
        have hmul : nn * kk ≤ mn * mk := Nat.mul_le_mul hnm hkm
        have hC0 : Nat.add (Nat.mul 256 nn) 3 < 4294967296 := by
          show 256 * nn + 3 < 4294967296
          omega
        have hV : Nat.add (Nat.mul 256 kk) 4 < 4294967296 := by
          show 256 * kk + 4 < 4294967296
          omega
        generalize hV0 : Nat.add (Nat.mul 256 kk) 4 = V at h hV
        generalize hC1 : Nat.add (Nat.mul 256 nn) 3 = C0 at h hC0
        have hV0 : V = 256 * kk + 4 := hV0.symm
        have hC1 : C0 = 256 * nn + 3 := hC1.symm
        intro T hT Xs
        have hr1 := hroom.1
        have hr2 := hroom.2
        obtain ⟨vm₁, cA, comp, -, fA, fC, -, -, X', step⟩ := Stand.multianewarray2F (ty := .int) Xs hx hown hclink hover harr (g := F0 m pc ls (.int (nI kk) :: .int (nI nn) :: U.map (rz_v G))) rfl (by rw [hb]; exact hd) rfl (nI_pos (by omega)) (nI_pos (by omega)) (by rw [cn]; omega) (by rw [ck]; exact Nat.le_trans (Nat.mul_le_mul_left kk (show componentBytes .int ≤ 8 by decide)) (by omega)) (by rw [ck]; omega) rfl rfl (by rw [cn]; omega) (by rw [cn, ck]; omega)
        rw [cn, ck] at X' step
        have ea : cA = rz_tc G 3 := Option.some.inj (fA.symm.trans (hK.2 1 _ rfl).2)
        have ec : comp = rz_tc G 4 := Option.some.inj (fC.symm.trans (hK.2 2 _ rfl).2)
        generalize hF : Jvm.Free.Multi.fill (T.setVm vm₁) cA comp nn kk (defaultValue .int) nn = F at X' step
        have hTh : (T.setVm vm₁).heap = H := hT
        obtain ⟨f1, f2, -, -⟩ := Jvm.Free.Multi.fill_facts (T.setVm vm₁) cA comp nn kk (defaultValue .int) nn
        rw [hF, hTh] at f1 f2
        have hold : ∀ x : Nat, x < H.size → F.heap[x]? = H[x]? := fun x hx => by
          have := Jvm.Free.Multi.fill_old (T.setVm vm₁) cA comp nn kk (defaultValue .int) (a := x) (by rw [hTh]; exact hx) nn
          rw [hF, hTh] at this
          exact this
        have hrow : ∀ j : Nat, j < nn → F.heap[H.size + 1 + j]? = some (arrV comp kk (fun _ => .int 0)) := fun j hj => by
          have := Jvm.Free.Multi.fill_inner (T.setVm vm₁) cA comp nn kk (defaultValue .int) nn j hj
          rw [hF, hTh] at this
          rw [this]
          show some ({ cls := comp, slots := Array.replicate kk (.int 0), vm := .none } : Cell) = _
          rw [arrV_new]
        have hout : ∀ i : Nat, Jvm.Free.Multi.outerC cA nn H.size i = arrV cA nn (fun j => va_rf (if j < i then some (H.size + 1 + j) else none)) := by
          intro i
          induction i with
          | zero =>
            show ({ cls := cA, slots := Array.replicate nn .null, vm := .none } : Cell) = _
            rw [arrV_new]
            refine congrArg (arrV cA nn) (funext fun j => ?_)
            simp [va_rf]
          | succ i ih =>
            show (Jvm.Free.Multi.outerC cA nn H.size i).setSlot i (.ref (H.size + 1 + i)) = _
            rw [ih, arrV_store]
            refine congrArg (arrV cA nn) (funext fun j => ?_)
            by_cases e : j = i
            · subst e
              simp [updV, va_rf]
            · by_cases h : j < i
              · simp [updV, e, h, Nat.lt_succ_of_lt h]
              · simp [updV, e, h, show ¬ j < i + 1 by omega]
        rw [hout] at f2
        -- the new world
        have hgt : ∀ i, i < 512 → rz_gt 9 (rz_rows V (n + 1) nn (rz_ud 9 g n (rz_outr n C0 nn))) i = if n + 1 ≤ i ∧ i < n + 1 + nn then V else if i = n then rz_outr n C0 nn else rz_gt 9 g i := fun i hi => by
          rw [rz_rows_gt V (n + 1) nn _ i (by omega) hi, rz_gt_ud 9 g n i (rz_outr n C0 nn) (show n < 512 by omega) hi]
        have hwd : rz_wd G (rz_rows V (n + 1) nn (rz_ud 9 g n (rz_outr n C0 nn)), (n + 1 + nn, z)) F.heap := by
          obtain ⟨w1, w2, w3, w4⟩ := hW
          refine ⟨?_, ?_, fun x hx hx2 => ?_, fun i x hi => ?_⟩
          · show F.heap.size = rz_b G + (n + 1 + nn)
            omega
          · show n + 1 + nn ≤ 512
            exact hn
          · have hx : n + 1 + nn ≤ x := hx
            show rz_gt 9 (rz_rows V (n + 1) nn (rz_ud 9 g n (rz_outr n C0 nn))) x = 0
            rw [hgt x hx2, if_neg (by omega), if_neg (by omega)]
            exact w3 x (show n ≤ x by omega) hx2
          · obtain ⟨hj, rfl⟩ := rz_den_mem hi
            clear hi
            have hi : i < n + 1 + nn := hj
            have e := hgt i (by omega)
            show va_at (rz_D G) (rz_cl G) (rz_ad G i, rz_e G (rz_head (rz_gt 9 (rz_rows V (n + 1) nn (rz_ud 9 g n (rz_outr n C0 nn))) i)) (rz_gt 9 (rz_rows V (n + 1) nn (rz_ud 9 g n (rz_outr n C0 nn))) i)) F.heap
            rw [e, hA i (by omega)]
            by_cases h1 : n + 1 ≤ i ∧ i < n + 1 + nn
            · rw [if_pos h1]
              have hh : rz_head V = 256 * kk + 4 := by rw [hV0] at hV ⊢; exact Nat.mod_eq_of_lt hV
              rw [rz_ek G (k := 4) (by rw [hh]; omega) (by decide), show rz_head V / 256 = kk by rw [hh]; omega]
              have hr := hrow (i - (n + 1)) (by omega)
              rw [show H.size + 1 + (i - (n + 1)) = rz_b G + i by omega] at hr
              refine hr.trans (congrArg some ?_)
              dsimp only
              rw [ec, vp_cell_i]
              refine congrArg (arrV _ _) (funext fun j => ?_)
              show Value.int 0 = Value.int (nI _)
              rw [rz_g32_small hV, ← rz_nI0]
            · rw [if_neg h1]
              by_cases h2 : i = n
              · rw [if_pos h2]
                have hh : rz_head (rz_outr n C0 nn) = 256 * nn + 3 := by
                  rw [rz_outr_head n C0 nn (by omega)]
                  rw [hC1] at hC0 ⊢
                  exact Nat.mod_eq_of_lt hC0
                rw [rz_e3 G (by rw [hh]; omega), show rz_head (rz_outr n C0 nn) / 256 = nn by rw [hh]; omega]
                rw [show rz_b G + i = H.size by omega]
                refine f2.trans (congrArg some ?_)
                rw [ea]
                show _ = arrV (rz_tc G 3) nn (fun j => va_rf (rz_rf (rz_ad G) (rz_g16 (rz_outr n C0 nn) j)))
                refine congrArg (arrV _ _) (funext fun j => ?_)
                rw [rz_outr_lane n C0 hC0 nn j (by omega)]
                by_cases h3 : j < nn
                · rw [if_pos h3, if_pos h3]
                  have e5 : rz_rf (rz_ad G) (n + 2 + j) = some (rz_ad G (n + 1 + j)) := by
                    rw [show n + 2 + j = (n + 1 + j) + 1 by omega]
                    rfl
                  rw [e5, hA (n + 1 + j) (by omega), show H.size + 1 + j = rz_b G + (n + 1 + j) by omega]
                · rw [if_neg h3, if_neg h3]
                  rfl
              · rw [if_neg h2]
                have h9 := w4 i _ (rz_den_at (show i < n by omega))
                rw [hA i (by omega)] at h9
                exact h9.kept (hold _ (show rz_b G + i < H.size by omega))
        have hz := hk L (rz_r (n + 1) :: U) _ h ls F.heap locs hL hwd (rz_S_push hS (by omega) hold) trivial
        have e : rz_v G (rz_r (n + 1)) = .ref H.size := by
          show Value.ref (rz_ad G n) = _
          rw [hA n (by omega), hsz]
        rw [List.map_cons, e] at hz
        obtain ⟨t, a1, b1⟩ := hz F rfl (stand_widen X' (by show nz0.1 + 1 + nn ≤ nz0.1 + 1 + mn; omega) (by show nz0.2 + nn + nn * kk ≤ nz0.2 + mn + mn * mk; omega))
        refine ⟨t, step t ?_, b1⟩
        rw [show T.heap.size = H.size by rw [hT]]
        exact a1
      · cases h
    · cases h3
  · cases h2
-- Object.<init>
noncomputable def rz_obj : rz_B := fun k _ _ L S M => rz_hd S (fun o T => rz_ref o (fun _ => rz_few T (k L T M)))
theorem rz_obj_ok {own : String} {index : Nat} (hx : p.tables.exec = Jvm.exec) (hb : c.code = cc) (hml : c.maxLocals = nL) (hown : s.vm.findClass own = some m.cls) (hlink : (Cond.methodLink own index Lib.objectInit).before args s = true) (hinst : (Cond.instanceMethod Lib.objectInit).before args s = true) (hcode : (Cond.code Lib.objectInit ⟨#[0xb1]⟩ 1 none).before args s = true) (hframes : 1 ≤ R.frames) (hlocals : 20 ≤ R.locals) (hd : decode cc pc = .ok (.invokespecial index, 3)) (hk : rz_Ok G p l e R s m args below meth c Q nL nz0 (pc + 3) (k)) : rz_Ok G p l e R s m args below meth c Q nL nz0 (pc) (rz_obj k J Z) := by
  intro L S M h ls H locs hL hW hS h0
  replace h := rz_hd_t h
  obtain ⟨o, U, rfl, h⟩ := h
  replace h := rz_ref_t h
  obtain ⟨q, rfl, h⟩ := h
  obtain ⟨hfew, h⟩ := rz_few_t h
  have hsum := rz_sum G hfew
  exact W.objInit hx hb hown hlink hinst hcode (g := F0 m pc ls (.ref (rz_ad G q) :: U.map (rz_v G))) rfl (by show ls.size = _; rw [hml, hL.1]) rfl hd hframes (by show 2 * 0 + _ + 12 ≤ _; omega) (hk L U M h ls H locs hL hW hS h0)
-- bytes
theorem rz_fitb : ∀ x, x < 128 → fits .byte (.int (nI x)) = true := by decide +kernel
noncomputable def rz_unB (v : rz_V) (k : Nat → Bool) : Bool := rz_int v (fun x => rz_if (Nat.ble x 127) (k x) false)
theorem rz_UnB (G : rz_G) : rz_Un G 0 .byte rz_unB := by
  intro v k h
  obtain ⟨x, rfl, h⟩ := rz_int_t h
  rcases rz_if_t h with ⟨g, h⟩ | ⟨-, h⟩
  · have g : x ≤ 127 := rz_ble.1.mp g
    exact ⟨x, h, rfl, Nat.lt_of_le_of_lt g (by decide), rz_narb x (by omega), rz_fitb x (by omega)⟩
  · cases h
theorem rz_unB_t {G : rz_G} (v : rz_V) (k : Nat → Bool) (h : rz_unB v k = true) : ∃ y, k y = true ∧ rz_v G v = .int (nI y) ∧ y < 128 := by
  obtain ⟨x, rfl, h⟩ := rz_int_t h
  rcases rz_if_t h with ⟨g, h⟩ | ⟨-, h⟩
  · exact ⟨x, h, rfl, by have := rz_ble.1.mp g; omega⟩
  · cases h
noncomputable def rz_bast : rz_B := rz_ast 7 rz_unB rz_g32 32
theorem rz_bast_ok (hx : p.tables.exec = Jvm.exec) (hb : c.code = cc) (hK : va_K (rz_D G) (rz_cl G) (rz_tys G) s) (hA : rz_A G) (hd : decode cc pc = .ok (.bastore, 1)) (hk : rz_Ok G p l e R s m args below meth c Q nL nz0 (pc + 1) (k)) : rz_Ok G p l e R s m args below meth c Q nL nz0 (pc) (rz_bast k J Z) := by
  intro L S M h ls H locs hL hW hS h0
  have hun := rz_unB_t (G := G)
  replace h := rz_hd_t h
  obtain ⟨v, R1, rfl, h⟩ := h
  replace h := hun v _ h
  obtain ⟨y, h, hvy, hy⟩ := h
  replace h := rz_hd_t h
  obtain ⟨i, T1, rfl, h⟩ := h
  replace h := rz_hd_t h
  obtain ⟨o, U, rfl, h⟩ := h
  replace h := rz_int_t h
  obtain ⟨x, rfl, h⟩ := h
  replace h := rz_ref_t h
  obtain ⟨q, rfl, h⟩ := h
  replace h := rz_mm_t h
  obtain ⟨g, nz, rfl, h⟩ := h
  obtain ⟨hq, h⟩ := rz_get_t 9 h
  rcases rz_if_t h with ⟨hh, h⟩ | ⟨-, h⟩
  · rcases rz_if_t h with ⟨-, h⟩ | ⟨hn, h⟩
    · cases h
    · have hh := rz_beq.1.mp hh
      have hn : ¬ rz_head (rz_gt 9 g q) / 256 ≤ x := rz_ble.2.mp hn
      have hh : rz_head (rz_gt 9 g q) % 256 = 7 := hh
      have hlt := rz_wd_lt hW hq (by intro z; rw [z] at hh; cases hh)
      have hat := rz_den_at (G := G) (h := g) hlt
      rw [rz_ek G hh (by decide)] at hat
      rw [rz_F_eq, rz_upd_eq] at h
      have hy32 : y < 2 ^ 32 := Nat.lt_of_lt_of_le hy (by decide)
      have hq5 : q < 512 := hq
      rw [List.map_cons, hvy]
      refine W.bast hx hb (hW.2.2.2 q _ hat) ((hK.2 5 _ rfl).1 _ (fun j => .int (nI (rz_g32 (rz_gt 9 g q) j)))) (fun z => by cases z) (by show ¬ (_ ∨ (arrV _ _ _).slots.size ≤ _); rw [arrV_size]; exact rz_in hn) rfl rfl hd (fun H1 e1 ez eo => ?_)
      rw [rz_narb y hy] at e1
      have hwd := rz_wd_set hA hW hlt (C := rz_p (rz_gt 9 g q) (Nat.add 32 (Nat.mul 32 x)) (rz_g32 (rz_gt 9 g q) x) y) (H1 := H1) (by
        rw [rz_head32 hy32, rz_ek G hh (by decide)]
        refine e1.trans (congrArg some ?_)
        dsimp only
        rw [vp_cell_i, vp_cell_i, arrV_store, rz_clm hn]
        refine congrArg (arrV _ _) (funext fun j => ?_)
        show (if j = x then Value.int (nI y) else .int (nI (rz_g32 (rz_gt 9 g q) j))) = .int (nI (rz_g32 _ j))
        rw [rz_lane32 hy32]
        by_cases ej : j = x
        · rw [if_pos ej, if_pos ej]
        · rw [if_neg ej, if_neg ej]) ez eo
      exact hk L U _ h ls H1 _ hL hwd (hS.put ez eo (rz_b_ad hA hq5)) h0
  · cases h
-- final fields
theorem rz_putrowF {H : Heap} {locs : List Loc} {cells slots : Nat} {ls : Array Slot} {rest : List Value} {D : va_G} {cl : List vw_C} {tys : List (ClassId × FieldType)} {ws : va_W} {a : Nat} {own ref C : String} {T : u_T} {N ci index : Nat} {Ts : List Cond} (hx : p.tables.exec = Jvm.exec) (hb : c.code = cc) (hts : ∀ w ∈ Ts, w.before args s = true) (hin : ∀ w ∈ u_ws C T N, w ∈ Ts) (ty0 : Nat → FieldType) (hty : ∀ k, k < N → parseFieldDescriptor (T k).2.2.1 = some (ty0 k)) (hnm : ∀ a, a < N → ∀ b, b < N → a ≠ b → (T a).2.1 ≠ (T b).2.1) (hown : s.vm.findClass own = some m.cls) (hK : va_K D cl tys s) (hP : va_P D cl ws H) (q : Nat) {fs : List Value} (he : ws[q]? = some (a, .inr (ci, fs))) (hc : cl[ci]? = some (C, T, N)) (f : Nat) (hf : f < N) (hlink : (Cond.fieldLink own index ref (T f).2.1 (T f).2.2.1).before args s = true) (hsame : ∀ x, s.fieldFound? (T f).1 (T f).2.1 (T f).2.2.1 = some x → s.fieldFound? ref (T f).2.1 (T f).2.2.1 = some x) (hfin : (T f).2.2.2 = true) (hin2 : meth.name = "<init>") (hdecl : (T f).1 = own) {ty : FieldType} {v : Value} (hd : parseFieldDescriptor (T f).2.2.1 = some ty) (hn : narrow ty v = v) (hfit : fits ty v = true) (hl : f < fs.length) (hdg : decode cc pc = .ok (.putfield index, 3))
    (kk : ∀ (H1 : Heap) (loc : Loc), loc.base = a → va_at D cl (a, .inr (ci, fs.set f v)) H1 → H1.size = H.size → (∀ x : Nat, x ≠ a → H1[x]? = H[x]?) → W p l e R s m args below meth c H1 (locs ++ [loc]) cells slots Q (F0 m (pc + 3) ls rest)) : W p l e R s m args below meth c H locs cells slots Q (F0 m pc ls (v :: .ref a :: rest)) := by
  have hdiff := va_apart (own := own) hts hin ty0 hty hnm hK hc
  obtain ⟨r, hr, cell, g1, g2, g3, g4⟩ := hP q _ he
  cases hr.symm.trans hc
  obtain ⟨hsl, hcls, kC, hkC, hord⟩ := hK.1 ci _ hc
  obtain ⟨cf, kf, fi, fd, hfd, hsf⟩ := hsl f hf
  have hlay := hts _ (hin _ (u_in_lay hf))
  rw [u_lay, if_pos hfin] at hlay
  have hst := (u_facts hcls hkC (u_lays hts hin hf) hfd).1
  have hcf : m.cls = cf := by
    obtain ⟨_, _, c', _, _, _, -, -, hf', -, -, -, hown2, -⟩ := Cond.laysFinal_spec hlay
    have e1 : c' = cf := by have := hfd.symm.trans hf'; simp at this; exact this.1.symm
    rw [hdecl] at hown2
    rw [← e1]
    exact Option.some.inj (hown.symm.trans hown2)
  have h6 := u_fits hcls hkC hord (Or.inr hlay) hfd hd hn hfit
  refine W.putFinK hx hb hown hlink (hsame _ hfd) hst hcf hin2 (by rw [g2]; exact h6) g1 g3 (by rw [hsf]; exact k2_hasslot (g4 f hf)) rfl rfl hdg (fun H1 e1 e2 e3 => ?_)
  refine kk H1 _ rfl ⟨_, hc, _, e1, g2, g3, fun j hj => ?_⟩ e2 e3
  rw [hsf, t_set g4 hdiff hf v j hj]
  exact congrArg some (vp_updV_set hl v j)
theorem rz_putfF_ok {own ref C : String} {T : u_T} {N ci index f t : Nat} {ty : FieldType} {Ts : List Cond} {un : rz_V → (Nat → Bool) → Bool} (hx : p.tables.exec = Jvm.exec) (hb : c.code = cc) (hts : ∀ w ∈ Ts, w.before args s = true) (hin : ∀ w ∈ u_ws C T N, w ∈ Ts) (ty0 : Nat → FieldType) (hty : ∀ k, k < N → parseFieldDescriptor (T k).2.2.1 = some (ty0 k)) (hnm : ∀ a, a < N → ∀ b, b < N → a ≠ b → (T a).2.1 ≠ (T b).2.1) (hown : s.vm.findClass own = some m.cls) (hK : va_K (rz_D G) (rz_cl G) (rz_tys G) s) (hA : rz_A G) (hc : (rz_cl G)[ci]? = some (C, T, N)) (hf : f < N) (ht : (rz_ft G ci)[f]? = some t) (hun : rz_Un G t ty un) (hfin : (T f).2.2.2 = true) (hin2 : meth.name = "<init>") (hdecl : (T f).1 = own) (hpd : parseFieldDescriptor (T f).2.2.1 = some ty) (hlink : (Cond.fieldLink own index ref (T f).2.1 (T f).2.2.1).before args s = true) (hsame : ∀ x, s.fieldFound? (T f).1 (T f).2.1 (T f).2.2.1 = some x → s.fieldFound? ref (T f).2.1 (T f).2.2.1 = some x) (hd : decode cc pc = .ok (.putfield index, 3)) (hk : rz_Ok G p l e R s m args below meth c Q nL nz0 (pc + 3) (k)) : rz_Ok G p l e R s m args below meth c Q nL nz0 (pc) (rz_putf (Nat.add (Nat.mul 256 ci) 1) f un k J Z) := by
  intro L S M h ls H locs hL hW hS h0
  replace h := rz_hd_t h
  obtain ⟨v, T1, rfl, h⟩ := h
  replace h := hun v _ h
  obtain ⟨x, h, hvx, hx64, hnar, hfit⟩ := h
  replace h := rz_hd_t h
  obtain ⟨o, U, rfl, h⟩ := h
  replace h := rz_ref_t h
  obtain ⟨q, rfl, h⟩ := h
  replace h := rz_mm_t h
  obtain ⟨g, nz, rfl, h⟩ := h
  obtain ⟨hq, h⟩ := rz_get_t 9 h
  rcases rz_if_t h with ⟨hh, h⟩ | ⟨-, h⟩
  · have hh := rz_beq.1.mp hh
    rw [rz_F_eq, rz_upd_eq] at h
    have hlt := rz_wd_lt hW hq (by rw [hh]; exact Nat.succ_ne_zero _)
    have hat := rz_den_at (G := G) (h := g) hlt
    rw [hh, rz_e_obj] at hat
    rw [List.map_cons, List.map_cons]
    show W p l e R s m args below meth c H locs _ _ Q (F0 m pc ls (rz_v G v :: .ref (rz_ad G q) :: U.map (rz_v G)))
    have hq1 : q < nz.1 := hlt
    have hq5 : q < 512 := hq
    refine rz_putrowF hx hb hts hin ty0 hty hnm hown hK hW.2.2.2 q hat hc f hf hlink hsame hfin hin2 hdecl hpd hnar hfit (by unfold rz_fs; rw [List.length_map, List.length_range]; exact (List.getElem?_eq_some_iff.mp ht).1) hd (fun H1 loc eb eat ez eo => ?_)
    have hwd := rz_wd_set hA hW hlt (C := rz_p (rz_gt 9 g q) (Nat.add 32 (Nat.mul 64 f)) (rz_g64 (rz_gt 9 g q) f) x) (by rw [rz_head64 hx64, hh, rz_e_obj, rz_fs_set ht hx64, ← hvx]; exact eat) ez eo
    exact hk L U _ h ls H1 _ hL hwd ⟨by rw [ez]; exact hS.1, fun y y1 y2 => by rw [eo y (fun z => y2 (by rw [z]; show rz_b G ≤ rz_ad G q; rw [hA q hq5]; omega))]; exact hS.2.1 y y1 y2, fun y hy => by
      rcases List.mem_append.mp hy with z | z
      · exact hS.2.2 y z
      · rw [List.mem_singleton.mp z, eb]
        show rz_b G ≤ rz_ad G q
        rw [hA q hq5]
        omega⟩ h0
  · cases h
-- answers that are references
def rz_Qr (G : rz_G) (nz : Nat × Nat) (Z : rz_Z) : Array Value → State → Outcome → State → Prop := va_Qr (S := rz_V × rz_M) (fun u => Z u.1 u.2 = true) (fun u a t => rz_v G u.1 = .ref a ∧ rz_wd G u.2 t.heap) (fun q => rz_b G ≤ q)
noncomputable def rz_aret : rz_B := fun _ _ Z _ S M => rz_hd S (fun v T => rz_ref v (fun _ => rz_nil T (Z v M)))
theorem rz_aret_ok {nzq : Nat × Nat} {mc ms : Nat} {rf : FieldType} (hC : rz_Cx G TB y cc nL (some rf) rm p R s m args meth c) (hrf : (∃ n, rf = .object n) ∨ ∃ t, rf = .array t) (hd : decode cc pc = .ok (.areturn, 1)) (hz : nz0.1 ≤ mc ∧ nz0.2 ≤ ms := by exact ⟨Nat.le_refl _, Nat.le_refl _⟩) : rz_Ok G p l e R s m args below meth c (MQ below (rz_Qr G nzq Z) args s mc ms (fun q => rz_b G ≤ q)) nL nz0 (pc) (rz_aret k J Z) := by
  obtain ⟨hx, hb, -, hr, hlk, -, -, hKn, -⟩ := hC
  intro L S M h ls H locs hL hW hS h0
  replace h := rz_hd_t h
  obtain ⟨v, T, rfl, h⟩ := h
  replace h := rz_ref_t h
  obtain ⟨q, rfl, h⟩ := h
  obtain ⟨rfl, h⟩ := rz_nil_t h
  refine W.widen hz.1 hz.2 ?_
  exact W.aret (v := .ref (rz_ad G q)) hx hb hr hrf (Or.inr ⟨_, rfl⟩) (fun t ht hWm => ⟨⟨(rz_r (q + 1), M), rz_ad G q, rfl, h, rfl, by rw [ht]; exact hW⟩, hS.F ht⟩) hS.2.2 hd hlk
noncomputable def rz_ifnn (j : Nat) : rz_B := fun _ J _ L S M => rz_hd S (fun v T => rz_ref v (fun _ => J j L T M))
theorem rz_ifnn_ok {j tgt : Nat} {off : Int} (hx : p.tables.exec = Jvm.exec) (hb : c.code = cc) (hd : decode cc pc = .ok (.ifnonnull off, 3)) (ht : (pc : Int) + off = (tgt : Int)) (hj : rz_Ok G p l e R s m args below meth c Q nL nz0 (tgt) (J j)) : rz_Ok G p l e R s m args below meth c Q nL nz0 (pc) (rz_ifnn j k J Z) := by
  intro L S M h ls H locs hL hW hS h0
  replace h := rz_hd_t h
  obtain ⟨v, T, rfl, h⟩ := h
  replace h := rz_ref_t h
  obtain ⟨q, rfl, h⟩ := h
  exact lv_ifnonnull hx hb hd ht (hj L T M h ls H locs hL hW hS h0)
-- calls
noncomputable def rz_callI (n : Nat) (f : rz_L → rz_M → rz_Z → Bool) : rz_B := fun k _ _ L S M => rz_take n S [] (fun as T => rz_hd T (fun o U => rz_ref o (fun _ => rz_few U (f (o :: as) M (fun _ N => k L U N)))))
noncomputable def rz_callTv (n : Nat) (f : rz_L → rz_M → rz_Z → Bool) : rz_B := fun k _ _ L S M => rz_take n S [] (fun as T => rz_hd T (fun o U => rz_at 1000000 o (fun _ => rz_few U (f (o :: as) M (fun _ N => k L U N)))))
theorem rz_callIv_ok {own : String}  {index n maxL mc ms : Nat} {nz1 : Nat × Nat} {bytes : ByteArray} {f : rz_L → rz_M → rz_Z → Bool} (hC : rz_Cx G TB y cc nL rt rm p R s m args meth c) (hown : y.cls = own) (hM : ∀ (vs : rz_L) (M : rz_M) (Z : rz_Z), vs.length = n + 1 → f vs M Z = true → Met l x (.code x bytes maxL none :: TB) rm2 (rz_Pre G vs M) (rz_Qv G M.2 Z) mc ms (fun q => rz_b G ≤ q)) (cw : CallB R s args own index x bytes maxL none (.code x bytes maxL none :: TB) rm2 mc ms n ∧ x.name = "<init>" ∧ (Cond.instanceMethod x).before args s = true) (hd : decode cc pc = .ok (.invokespecial index, 3)) (hk : rz_Ok G p l e R s m args below meth c Q nL nz1 (pc + 3) (k)) (hz : nz0.1 + mc ≤ nz1.1 ∧ nz0.2 + ms ≤ nz1.2 := by exact ⟨Nat.le_refl _, Nat.le_refl _⟩) (hf : nz1.1 ≤ R.cells ∧ nz1.2 ≤ R.slots := by exact ⟨Nat.zero_le _, Nat.zero_le _⟩) : rz_Ok G p l e R s m args below meth c Q nL nz0 (pc) (rz_callI n f k J Z) := by
  obtain ⟨hx, hb, hml, hr, hlk, ho, hts, hKn, hRm⟩ := hC
  intro L S M h ls H locs hL hW hS h0
  replace h := rz_take_t h
  obtain ⟨as, T1, rfl, hlen, h⟩ := h
  rw [List.append_nil] at h
  replace h := rz_hd_t h
  obtain ⟨o, U, rfl, h⟩ := h
  replace h := rz_ref_t h
  obtain ⟨q, rfl, h⟩ := h
  obtain ⟨hfew, h⟩ := rz_few_t h
  have hR := va_runI (e := e) (below := below) (meth := meth) (As := as.map (rz_v G)) (rest := U.map (rz_v G)) (nL := nL) (Ts := Cond.code y cc nL rt :: TB) ⟨hx, hb, hml, by rw [← hown]; exact ho, hts⟩ (hM _ _ _ (by rw [List.length_cons, hlen]) h) cw ⟨rz_blind, fun V hV hWm => rz_pre_at (vs := rz_r (q + 1) :: as) hKn hW hS hV hWm⟩ (g := F0 m pc ls ((as.reverse ++ rz_r (q + 1) :: U).map (rz_v G))) rfl (by rw [List.length_map]; exact hlen) hL.1 (by rw [List.map_append, List.map_reverse, List.map_cons]; rfl) (lv_room (rz_sum G hfew)) hd (locs := locs) (H := H) (cells := nz0.1) (slots := nz0.2) ⟨Nat.le_trans hz.1 hf.1, Nat.le_trans hz.2 hf.2⟩
  refine va_callv hR hS (fun _ _ z => z) (fun _ z => z) (fun u t H1 locs1 ht hvm hpo hB _ _ hS1 => ?_)
  refine W.widen hz.1 hz.2 ?_
  exact hk L U u hpo ls H1 locs1 hL (by rw [← ht]; exact hB.1) hS1 trivial
theorem rz_callNv_ok {own : String} {host : String}  {index n maxL mc ms : Nat} {nz1 : Nat × Nat} {bytes : ByteArray} {f : rz_L → rz_M → rz_Z → Bool} (hC : rz_Cx G TB y cc nL rt rm p R s m args meth c) (hown : y.cls = own) (hM : ∀ (vs : rz_L) (M : rz_M) (Z : rz_Z), vs.length = n + 1 → f vs M Z = true → Met l x (.code x bytes maxL none :: TB) rm2 (rz_Pre G vs M) (rz_Qv G M.2 Z) mc ms (fun q => rz_b G ≤ q)) (cw : va_CN R s args own index x host bytes maxL none (.code x bytes maxL none :: TB) rm2 mc ms n ∧ x.name = "<init>" ∧ (Cond.instanceMethod x).before args s = true) (hd : decode cc pc = .ok (.invokespecial index, 3)) (hk : rz_Ok G p l e R s m args below meth c Q nL nz1 (pc + 3) (k)) (hz : nz0.1 + mc ≤ nz1.1 ∧ nz0.2 + ms ≤ nz1.2 := by exact ⟨Nat.le_refl _, Nat.le_refl _⟩) (hf : nz1.1 ≤ R.cells ∧ nz1.2 ≤ R.slots := by exact ⟨Nat.zero_le _, Nat.zero_le _⟩) : rz_Ok G p l e R s m args below meth c Q nL nz0 (pc) (rz_callI n f k J Z) := by
  obtain ⟨hx, hb, hml, hr, hlk, ho, hts, hKn, hRm⟩ := hC
  intro L S M h ls H locs hL hW hS h0
  replace h := rz_take_t h
  obtain ⟨as, T1, rfl, hlen, h⟩ := h
  rw [List.append_nil] at h
  replace h := rz_hd_t h
  obtain ⟨o, U, rfl, h⟩ := h
  replace h := rz_ref_t h
  obtain ⟨q, rfl, h⟩ := h
  obtain ⟨hfew, h⟩ := rz_few_t h
  have hR := va_runIN (e := e) (below := below) (meth := meth) (As := as.map (rz_v G)) (rest := U.map (rz_v G)) (nL := nL) (Ts := Cond.code y cc nL rt :: TB) ⟨hx, hb, hml, by rw [← hown]; exact ho, hts⟩ (hM _ _ _ (by rw [List.length_cons, hlen]) h) cw ⟨rz_blind, fun V hV hWm => rz_pre_at (vs := rz_r (q + 1) :: as) hKn hW hS hV hWm⟩ (g := F0 m pc ls ((as.reverse ++ rz_r (q + 1) :: U).map (rz_v G))) rfl (by rw [List.length_map]; exact hlen) hL.1 (by rw [List.map_append, List.map_reverse, List.map_cons]; rfl) (lv_room (rz_sum G hfew)) hd (locs := locs) (H := H) (cells := nz0.1) (slots := nz0.2) ⟨Nat.le_trans hz.1 hf.1, Nat.le_trans hz.2 hf.2⟩
  refine va_callv hR hS (fun _ _ z => z) (fun _ z => z) (fun u t H1 locs1 ht hvm hpo hB _ _ hS1 => ?_)
  refine W.widen hz.1 hz.2 ?_
  exact hk L U u hpo ls H1 locs1 hL (by rw [← ht]; exact hB.1) hS1 trivial
theorem rz_callVr_ok {own : String} {C : String} {T0 : u_T} {N0 ci : Nat} {index n maxL mc ms : Nat} {nz1 : Nat × Nat} {bytes : ByteArray} {f : rz_L → rz_M → rz_Z → Bool} (hC : rz_Cx G TB y cc nL rt rm p R s m args meth c) (hown : y.cls = own) (hM : ∀ (vs : rz_L) (M : rz_M) (Z : rz_Z), vs.length = n + 1 → f vs M Z = true → Met l x (.code x bytes maxL rt2 :: TB) rm2 (rz_Pre G vs M) (rz_Qr G M.2 Z) mc ms (fun q => rz_b G ≤ q)) (cw : CallW R s args own C index x bytes maxL rt2 (.code x bytes maxL rt2 :: TB) rm2 mc ms n) (hc : (rz_cl G)[ci]? = some (C, T0, N0)) (hd : decode cc pc = .ok (.invokevirtual index, 3)) (hk : rz_Ok G p l e R s m args below meth c Q nL nz1 (pc + 3) (k)) (hz : nz0.1 + mc ≤ nz1.1 ∧ nz0.2 + ms ≤ nz1.2 := by exact ⟨Nat.le_refl _, Nat.le_refl _⟩) (hf : nz1.1 ≤ R.cells ∧ nz1.2 ≤ R.slots := by exact ⟨Nat.zero_le _, Nat.zero_le _⟩) : rz_Ok G p l e R s m args below meth c Q nL nz0 (pc) (rz_callV n (Nat.add (Nat.mul 256 ci) 1) f k J Z) := by
  obtain ⟨hx, hb, hml, hr, hlk, ho, hts, hKn, hRm⟩ := hC
  intro L S M h ls H locs hL hW hS h0
  replace h := rz_take_t h
  obtain ⟨as, T1, rfl, hlen, h⟩ := h
  rw [List.append_nil] at h
  replace h := rz_hd_t h
  obtain ⟨o, U, rfl, h⟩ := h
  replace h := rz_ref_t h
  obtain ⟨q, rfl, h⟩ := h
  replace h := rz_mm_t h
  obtain ⟨g, nz, rfl, h⟩ := h
  obtain ⟨hq, h⟩ := rz_get_t 9 h
  rcases rz_if_t h with ⟨hh, h⟩ | ⟨-, h⟩
  · have hh := rz_beq.1.mp hh
    obtain ⟨hfew, h⟩ := rz_few_t h
    have hlt := rz_wd_lt hW hq (by rw [hh]; exact Nat.succ_ne_zero _)
    have hat := rz_den_at (G := G) (h := g) hlt
    rw [hh, rz_e_obj] at hat
    have hR := va_runV (e := e) (below := below) (meth := meth) (As := as.map (rz_v G)) (rest := U.map (rz_v G)) (nL := nL) (Ts := Cond.code y cc nL rt :: TB) ⟨hx, hb, hml, by rw [← hown]; exact ho, hts⟩ (hM _ _ _ (by rw [List.length_cons, hlen]) h) cw ⟨rz_blind, va_recv hKn.1 hW.2.2.2 hc hat, fun V hV hWm => rz_pre_at (vs := rz_r (q + 1) :: as) hKn hW hS hV hWm⟩ (g := F0 m pc ls ((as.reverse ++ rz_r (q + 1) :: U).map (rz_v G))) rfl (by rw [List.length_map]; exact hlen) hL.1 (by rw [List.map_append, List.map_reverse, List.map_cons]; rfl) (lv_room (rz_sum G hfew)) hd (locs := locs) (H := H) (cells := nz0.1) (slots := nz0.2) ⟨Nat.le_trans hz.1 hf.1, Nat.le_trans hz.2 hf.2⟩
    refine va_callr hR hS (fun _ _ z => z) (fun _ z => z) (fun u ra t H1 locs1 ht hvm hpo hB _ _ hS1 => ?_)
    refine W.widen hz.1 hz.2 ?_
    obtain ⟨u1, u2⟩ := u
    have hz := hk L (u1 :: U) u2 hpo ls H1 locs1 hL (by rw [← ht]; exact hB.2) hS1 trivial
    rw [List.map_cons, hB.1] at hz
    exact hz
  · cases h
theorem rz_callSr_ok {own : String}  {index n maxL mc ms : Nat} {nz1 : Nat × Nat} {bytes : ByteArray} {f : rz_L → rz_M → rz_Z → Bool} (hC : rz_Cx G TB y cc nL rt rm p R s m args meth c) (hown : y.cls = own) (hM : ∀ (vs : rz_L) (M : rz_M) (Z : rz_Z), vs.length = n → f vs M Z = true → Met l x (.code x bytes maxL rt2 :: TB) rm2 (rz_Pre G vs M) (rz_Qr G M.2 Z) mc ms (fun q => rz_b G ≤ q)) (cw : CallB R s args own index x bytes maxL rt2 (.code x bytes maxL rt2 :: TB) rm2 mc ms n ∧ (Cond.static x).before args s = true) (hd : decode cc pc = .ok (.invokestatic index, 3)) (hk : rz_Ok G p l e R s m args below meth c Q nL nz1 (pc + 3) (k)) (hz : nz0.1 + mc ≤ nz1.1 ∧ nz0.2 + ms ≤ nz1.2 := by exact ⟨Nat.le_refl _, Nat.le_refl _⟩) (hf : nz1.1 ≤ R.cells ∧ nz1.2 ≤ R.slots := by exact ⟨Nat.zero_le _, Nat.zero_le _⟩) : rz_Ok G p l e R s m args below meth c Q nL nz0 (pc) (rz_callS n f k J Z) := by
  obtain ⟨hx, hb, hml, hr, hlk, ho, hts, hKn, hRm⟩ := hC
  intro L S M h ls H locs hL hW hS h0
  replace h := rz_take_t h
  obtain ⟨as, U, rfl, hlen, h⟩ := h
  rw [List.append_nil] at h
  obtain ⟨hfew, h⟩ := rz_few_t h
  have hR := va_runS (e := e) (below := below) (meth := meth) (As := as.map (rz_v G)) (rest := U.map (rz_v G)) (nL := nL) (Ts := Cond.code y cc nL rt :: TB) ⟨hx, hb, hml, by rw [← hown]; exact ho, hts⟩ (hM _ _ _ hlen h) cw ⟨rz_blind, fun V hV hWm => rz_pre_at (vs := as) hKn hW hS hV hWm⟩ (g := F0 m pc ls ((as.reverse ++ U).map (rz_v G))) rfl (by rw [List.length_map]; exact hlen) hL.1 (by rw [List.map_append, List.map_reverse]) (lv_room (rz_sum G hfew)) hd (locs := locs) (H := H) (cells := nz0.1) (slots := nz0.2) ⟨Nat.le_trans hz.1 hf.1, Nat.le_trans hz.2 hf.2⟩
  refine va_callr hR hS (fun _ _ z => z) (fun _ z => z) (fun u ra t H1 locs1 ht hvm hpo hB _ _ hS1 => ?_)
  refine W.widen hz.1 hz.2 ?_
  obtain ⟨u1, u2⟩ := u
  have hz := hk L (u1 :: U) u2 hpo ls H1 locs1 hL (by rw [← ht]; exact hB.2) hS1 trivial
  rw [List.map_cons, hB.1] at hz
  exact hz
theorem rz_callUi_ok {own : String} {owner : String} {x0 : MethodName} {C : String} {T0 : u_T} {N0 ci : Nat} {index n maxL mc ms : Nat} {nz1 : Nat × Nat} {bytes : ByteArray} {f : rz_L → rz_M → rz_Z → Bool} (hC : rz_Cx G TB y cc nL rt rm p R s m args meth c) (hown : y.cls = own) (hM : ∀ (vs : rz_L) (M : rz_M) (Z : rz_Z), vs.length = n + 1 → f vs M Z = true → Met l x (.code x bytes maxL rt2 :: TB) rm2 (rz_Pre G vs M) (rz_Qi G M.2 Z) mc ms (fun q => rz_b G ≤ q)) (cw : va_CU R s args own C owner index x0 x bytes maxL rt2 (.code x bytes maxL rt2 :: TB) rm2 mc ms n) (hc : (rz_cl G)[ci]? = some (C, T0, N0)) (hd : decode cc pc = .ok (.invokevirtual index, 3)) (hk : rz_Ok G p l e R s m args below meth c Q nL nz1 (pc + 3) (k)) (hz : nz0.1 + mc ≤ nz1.1 ∧ nz0.2 + ms ≤ nz1.2 := by exact ⟨Nat.le_refl _, Nat.le_refl _⟩) (hf : nz1.1 ≤ R.cells ∧ nz1.2 ≤ R.slots := by exact ⟨Nat.zero_le _, Nat.zero_le _⟩) : rz_Ok G p l e R s m args below meth c Q nL nz0 (pc) (rz_callV n (Nat.add (Nat.mul 256 ci) 1) f k J Z) := by
  obtain ⟨hx, hb, hml, hr, hlk, ho, hts, hKn, hRm⟩ := hC
  intro L S M h ls H locs hL hW hS h0
  replace h := rz_take_t h
  obtain ⟨as, T1, rfl, hlen, h⟩ := h
  rw [List.append_nil] at h
  replace h := rz_hd_t h
  obtain ⟨o, U, rfl, h⟩ := h
  replace h := rz_ref_t h
  obtain ⟨q, rfl, h⟩ := h
  replace h := rz_mm_t h
  obtain ⟨g, nz, rfl, h⟩ := h
  obtain ⟨hq, h⟩ := rz_get_t 9 h
  rcases rz_if_t h with ⟨hh, h⟩ | ⟨-, h⟩
  · have hh := rz_beq.1.mp hh
    obtain ⟨hfew, h⟩ := rz_few_t h
    have hlt := rz_wd_lt hW hq (by rw [hh]; exact Nat.succ_ne_zero _)
    have hat := rz_den_at (G := G) (h := g) hlt
    rw [hh, rz_e_obj] at hat
    have hR := va_runU (e := e) (below := below) (meth := meth) (As := as.map (rz_v G)) (rest := U.map (rz_v G)) (nL := nL) (Ts := Cond.code y cc nL rt :: TB) ⟨hx, hb, hml, by rw [← hown]; exact ho, hts⟩ (hM _ _ _ (by rw [List.length_cons, hlen]) h) cw ⟨rz_blind, va_recv hKn.1 hW.2.2.2 hc hat, fun V hV hWm => rz_pre_at (vs := rz_r (q + 1) :: as) hKn hW hS hV hWm⟩ (g := F0 m pc ls ((as.reverse ++ rz_r (q + 1) :: U).map (rz_v G))) rfl (by rw [List.length_map]; exact hlen) hL.1 (by rw [List.map_append, List.map_reverse, List.map_cons]; rfl) (lv_room (rz_sum G hfew)) hd (locs := locs) (H := H) (cells := nz0.1) (slots := nz0.2) ⟨Nat.le_trans hz.1 hf.1, Nat.le_trans hz.2 hf.2⟩
    refine va_calli hR hS (fun _ _ z => z) (fun _ z => z) (fun r u t H1 locs1 ht hvm hpo hB _ _ hS1 => ?_)
    refine W.widen hz.1 hz.2 ?_
    obtain ⟨u1, u2⟩ := u
    have hz := hk L (u1 :: U) u2 hpo.2 ls H1 locs1 hL (by rw [← ht]; exact hB.1) hS1 trivial
    rw [List.map_cons, hpo.1] at hz
    exact hz
  · cases h
theorem rz_callUv_ok {own : String} {owner : String} {x0 : MethodName} {C : String} {T0 : u_T} {N0 ci : Nat} {index n maxL mc ms : Nat} {nz1 : Nat × Nat} {bytes : ByteArray} {f : rz_L → rz_M → rz_Z → Bool} (hC : rz_Cx G TB y cc nL rt rm p R s m args meth c) (hown : y.cls = own) (hM : ∀ (vs : rz_L) (M : rz_M) (Z : rz_Z), vs.length = n + 1 → f vs M Z = true → Met l x (.code x bytes maxL rt2 :: TB) rm2 (rz_Pre G vs M) (rz_Qv G M.2 Z) mc ms (fun q => rz_b G ≤ q)) (cw : va_CU R s args own C owner index x0 x bytes maxL rt2 (.code x bytes maxL rt2 :: TB) rm2 mc ms n) (hc : (rz_cl G)[ci]? = some (C, T0, N0)) (hd : decode cc pc = .ok (.invokevirtual index, 3)) (hk : rz_Ok G p l e R s m args below meth c Q nL nz1 (pc + 3) (k)) (hz : nz0.1 + mc ≤ nz1.1 ∧ nz0.2 + ms ≤ nz1.2 := by exact ⟨Nat.le_refl _, Nat.le_refl _⟩) (hf : nz1.1 ≤ R.cells ∧ nz1.2 ≤ R.slots := by exact ⟨Nat.zero_le _, Nat.zero_le _⟩) : rz_Ok G p l e R s m args below meth c Q nL nz0 (pc) (rz_callVv n (Nat.add (Nat.mul 256 ci) 1) f k J Z) := by
  obtain ⟨hx, hb, hml, hr, hlk, ho, hts, hKn, hRm⟩ := hC
  intro L S M h ls H locs hL hW hS h0
  replace h := rz_take_t h
  obtain ⟨as, T1, rfl, hlen, h⟩ := h
  rw [List.append_nil] at h
  replace h := rz_hd_t h
  obtain ⟨o, U, rfl, h⟩ := h
  replace h := rz_ref_t h
  obtain ⟨q, rfl, h⟩ := h
  replace h := rz_mm_t h
  obtain ⟨g, nz, rfl, h⟩ := h
  obtain ⟨hq, h⟩ := rz_get_t 9 h
  rcases rz_if_t h with ⟨hh, h⟩ | ⟨-, h⟩
  · have hh := rz_beq.1.mp hh
    obtain ⟨hfew, h⟩ := rz_few_t h
    have hlt := rz_wd_lt hW hq (by rw [hh]; exact Nat.succ_ne_zero _)
    have hat := rz_den_at (G := G) (h := g) hlt
    rw [hh, rz_e_obj] at hat
    have hR := va_runU (e := e) (below := below) (meth := meth) (As := as.map (rz_v G)) (rest := U.map (rz_v G)) (nL := nL) (Ts := Cond.code y cc nL rt :: TB) ⟨hx, hb, hml, by rw [← hown]; exact ho, hts⟩ (hM _ _ _ (by rw [List.length_cons, hlen]) h) cw ⟨rz_blind, va_recv hKn.1 hW.2.2.2 hc hat, fun V hV hWm => rz_pre_at (vs := rz_r (q + 1) :: as) hKn hW hS hV hWm⟩ (g := F0 m pc ls ((as.reverse ++ rz_r (q + 1) :: U).map (rz_v G))) rfl (by rw [List.length_map]; exact hlen) hL.1 (by rw [List.map_append, List.map_reverse, List.map_cons]; rfl) (lv_room (rz_sum G hfew)) hd (locs := locs) (H := H) (cells := nz0.1) (slots := nz0.2) ⟨Nat.le_trans hz.1 hf.1, Nat.le_trans hz.2 hf.2⟩
    refine va_callv hR hS (fun _ _ z => z) (fun _ z => z) (fun u t H1 locs1 ht hvm hpo hB _ _ hS1 => ?_)
    refine W.widen hz.1 hz.2 ?_
    exact hk L U u hpo ls H1 locs1 hL (by rw [← ht]; exact hB.1) hS1 trivial
  · cases h
theorem rz_callUr_ok {own : String} {owner : String} {x0 : MethodName} {C : String} {T0 : u_T} {N0 ci : Nat} {index n maxL mc ms : Nat} {nz1 : Nat × Nat} {bytes : ByteArray} {f : rz_L → rz_M → rz_Z → Bool} (hC : rz_Cx G TB y cc nL rt rm p R s m args meth c) (hown : y.cls = own) (hM : ∀ (vs : rz_L) (M : rz_M) (Z : rz_Z), vs.length = n + 1 → f vs M Z = true → Met l x (.code x bytes maxL rt2 :: TB) rm2 (rz_Pre G vs M) (rz_Qr G M.2 Z) mc ms (fun q => rz_b G ≤ q)) (cw : va_CU R s args own C owner index x0 x bytes maxL rt2 (.code x bytes maxL rt2 :: TB) rm2 mc ms n) (hc : (rz_cl G)[ci]? = some (C, T0, N0)) (hd : decode cc pc = .ok (.invokevirtual index, 3)) (hk : rz_Ok G p l e R s m args below meth c Q nL nz1 (pc + 3) (k)) (hz : nz0.1 + mc ≤ nz1.1 ∧ nz0.2 + ms ≤ nz1.2 := by exact ⟨Nat.le_refl _, Nat.le_refl _⟩) (hf : nz1.1 ≤ R.cells ∧ nz1.2 ≤ R.slots := by exact ⟨Nat.zero_le _, Nat.zero_le _⟩) : rz_Ok G p l e R s m args below meth c Q nL nz0 (pc) (rz_callV n (Nat.add (Nat.mul 256 ci) 1) f k J Z) := by
  obtain ⟨hx, hb, hml, hr, hlk, ho, hts, hKn, hRm⟩ := hC
  intro L S M h ls H locs hL hW hS h0
  replace h := rz_take_t h
  obtain ⟨as, T1, rfl, hlen, h⟩ := h
  rw [List.append_nil] at h
  replace h := rz_hd_t h
  obtain ⟨o, U, rfl, h⟩ := h
  replace h := rz_ref_t h
  obtain ⟨q, rfl, h⟩ := h
  replace h := rz_mm_t h
  obtain ⟨g, nz, rfl, h⟩ := h
  obtain ⟨hq, h⟩ := rz_get_t 9 h
  rcases rz_if_t h with ⟨hh, h⟩ | ⟨-, h⟩
  · have hh := rz_beq.1.mp hh
    obtain ⟨hfew, h⟩ := rz_few_t h
    have hlt := rz_wd_lt hW hq (by rw [hh]; exact Nat.succ_ne_zero _)
    have hat := rz_den_at (G := G) (h := g) hlt
    rw [hh, rz_e_obj] at hat
    have hR := va_runU (e := e) (below := below) (meth := meth) (As := as.map (rz_v G)) (rest := U.map (rz_v G)) (nL := nL) (Ts := Cond.code y cc nL rt :: TB) ⟨hx, hb, hml, by rw [← hown]; exact ho, hts⟩ (hM _ _ _ (by rw [List.length_cons, hlen]) h) cw ⟨rz_blind, va_recv hKn.1 hW.2.2.2 hc hat, fun V hV hWm => rz_pre_at (vs := rz_r (q + 1) :: as) hKn hW hS hV hWm⟩ (g := F0 m pc ls ((as.reverse ++ rz_r (q + 1) :: U).map (rz_v G))) rfl (by rw [List.length_map]; exact hlen) hL.1 (by rw [List.map_append, List.map_reverse, List.map_cons]; rfl) (lv_room (rz_sum G hfew)) hd (locs := locs) (H := H) (cells := nz0.1) (slots := nz0.2) ⟨Nat.le_trans hz.1 hf.1, Nat.le_trans hz.2 hf.2⟩
    refine va_callr hR hS (fun _ _ z => z) (fun _ z => z) (fun u ra t H1 locs1 ht hvm hpo hB _ _ hS1 => ?_)
    refine W.widen hz.1 hz.2 ?_
    obtain ⟨u1, u2⟩ := u
    have hz := hk L (u1 :: U) u2 hpo ls H1 locs1 hL (by rw [← ht]; exact hB.2) hS1 trivial
    rw [List.map_cons, hB.1] at hz
    exact hz
  · cases h
theorem rz_callPr_ok {own : String} {C : String} {T0 : u_T} {N0 ci : Nat} {index n maxL mc ms : Nat} {nz1 : Nat × Nat} {bytes : ByteArray} {f : rz_L → rz_M → rz_Z → Bool} (hC : rz_Cx G TB y cc nL rt rm p R s m args meth c) (hown : y.cls = own) (hM : ∀ (vs : rz_L) (M : rz_M) (Z : rz_Z), vs.length = n + 1 → f vs M Z = true → Met l x (.code x bytes maxL rt2 :: TB) rm2 (rz_Pre G vs M) (rz_Qr G M.2 Z) mc ms (fun q => rz_b G ≤ q)) (cw : va_CS R s args own index x bytes maxL rt2 (.code x bytes maxL rt2 :: TB) rm2 mc ms n) (hc : (rz_cl G)[ci]? = some (C, T0, N0)) (hd : decode cc pc = .ok (.invokespecial index, 3)) (hk : rz_Ok G p l e R s m args below meth c Q nL nz1 (pc + 3) (k)) (hz : nz0.1 + mc ≤ nz1.1 ∧ nz0.2 + ms ≤ nz1.2 := by exact ⟨Nat.le_refl _, Nat.le_refl _⟩) (hf : nz1.1 ≤ R.cells ∧ nz1.2 ≤ R.slots := by exact ⟨Nat.zero_le _, Nat.zero_le _⟩) : rz_Ok G p l e R s m args below meth c Q nL nz0 (pc) (rz_callV n (Nat.add (Nat.mul 256 ci) 1) f k J Z) := by
  obtain ⟨hx, hb, hml, hr, hlk, ho, hts, hKn, hRm⟩ := hC
  intro L S M h ls H locs hL hW hS h0
  replace h := rz_take_t h
  obtain ⟨as, T1, rfl, hlen, h⟩ := h
  rw [List.append_nil] at h
  replace h := rz_hd_t h
  obtain ⟨o, U, rfl, h⟩ := h
  replace h := rz_ref_t h
  obtain ⟨q, rfl, h⟩ := h
  replace h := rz_mm_t h
  obtain ⟨g, nz, rfl, h⟩ := h
  obtain ⟨hq, h⟩ := rz_get_t 9 h
  rcases rz_if_t h with ⟨hh, h⟩ | ⟨-, h⟩
  · have hh := rz_beq.1.mp hh
    obtain ⟨hfew, h⟩ := rz_few_t h
    have hlt := rz_wd_lt hW hq (by rw [hh]; exact Nat.succ_ne_zero _)
    have hat := rz_den_at (G := G) (h := g) hlt
    rw [hh, rz_e_obj] at hat
    have hR := va_runSU ⟨(hKn.1.1 ci _ hc).2.1, (hKn.1.1 ci _ hc).2.2⟩ (e := e) (below := below) (meth := meth) (As := as.map (rz_v G)) (rest := U.map (rz_v G)) (nL := nL) (Ts := Cond.code y cc nL rt :: TB) ⟨hx, hb, hml, by rw [← hown]; exact ho, hts⟩ (hM _ _ _ (by rw [List.length_cons, hlen]) h) cw ⟨rz_blind, va_recv hKn.1 hW.2.2.2 hc hat, fun V hV hWm => rz_pre_at (vs := rz_r (q + 1) :: as) hKn hW hS hV hWm⟩ (g := F0 m pc ls ((as.reverse ++ rz_r (q + 1) :: U).map (rz_v G))) rfl (by rw [List.length_map]; exact hlen) hL.1 (by rw [List.map_append, List.map_reverse, List.map_cons]; rfl) (lv_room (rz_sum G hfew)) hd (locs := locs) (H := H) (cells := nz0.1) (slots := nz0.2) ⟨Nat.le_trans hz.1 hf.1, Nat.le_trans hz.2 hf.2⟩
    refine va_callr hR hS (fun _ _ z => z) (fun _ z => z) (fun u ra t H1 locs1 ht hvm hpo hB _ _ hS1 => ?_)
    refine W.widen hz.1 hz.2 ?_
    obtain ⟨u1, u2⟩ := u
    have hz := hk L (u1 :: U) u2 hpo ls H1 locs1 hL (by rw [← ht]; exact hB.2) hS1 trivial
    rw [List.map_cons, hB.1] at hz
    exact hz
  · cases h
theorem rz_callPi_ok {own : String} {C : String} {T0 : u_T} {N0 ci : Nat} {index n maxL mc ms : Nat} {nz1 : Nat × Nat} {bytes : ByteArray} {f : rz_L → rz_M → rz_Z → Bool} (hC : rz_Cx G TB y cc nL rt rm p R s m args meth c) (hown : y.cls = own) (hM : ∀ (vs : rz_L) (M : rz_M) (Z : rz_Z), vs.length = n + 1 → f vs M Z = true → Met l x (.code x bytes maxL rt2 :: TB) rm2 (rz_Pre G vs M) (rz_Qi G M.2 Z) mc ms (fun q => rz_b G ≤ q)) (cw : va_CS R s args own index x bytes maxL rt2 (.code x bytes maxL rt2 :: TB) rm2 mc ms n) (hc : (rz_cl G)[ci]? = some (C, T0, N0)) (hd : decode cc pc = .ok (.invokespecial index, 3)) (hk : rz_Ok G p l e R s m args below meth c Q nL nz1 (pc + 3) (k)) (hz : nz0.1 + mc ≤ nz1.1 ∧ nz0.2 + ms ≤ nz1.2 := by exact ⟨Nat.le_refl _, Nat.le_refl _⟩) (hf : nz1.1 ≤ R.cells ∧ nz1.2 ≤ R.slots := by exact ⟨Nat.zero_le _, Nat.zero_le _⟩) : rz_Ok G p l e R s m args below meth c Q nL nz0 (pc) (rz_callV n (Nat.add (Nat.mul 256 ci) 1) f k J Z) := by
  obtain ⟨hx, hb, hml, hr, hlk, ho, hts, hKn, hRm⟩ := hC
  intro L S M h ls H locs hL hW hS h0
  replace h := rz_take_t h
  obtain ⟨as, T1, rfl, hlen, h⟩ := h
  rw [List.append_nil] at h
  replace h := rz_hd_t h
  obtain ⟨o, U, rfl, h⟩ := h
  replace h := rz_ref_t h
  obtain ⟨q, rfl, h⟩ := h
  replace h := rz_mm_t h
  obtain ⟨g, nz, rfl, h⟩ := h
  obtain ⟨hq, h⟩ := rz_get_t 9 h
  rcases rz_if_t h with ⟨hh, h⟩ | ⟨-, h⟩
  · have hh := rz_beq.1.mp hh
    obtain ⟨hfew, h⟩ := rz_few_t h
    have hlt := rz_wd_lt hW hq (by rw [hh]; exact Nat.succ_ne_zero _)
    have hat := rz_den_at (G := G) (h := g) hlt
    rw [hh, rz_e_obj] at hat
    have hR := va_runSU ⟨(hKn.1.1 ci _ hc).2.1, (hKn.1.1 ci _ hc).2.2⟩ (e := e) (below := below) (meth := meth) (As := as.map (rz_v G)) (rest := U.map (rz_v G)) (nL := nL) (Ts := Cond.code y cc nL rt :: TB) ⟨hx, hb, hml, by rw [← hown]; exact ho, hts⟩ (hM _ _ _ (by rw [List.length_cons, hlen]) h) cw ⟨rz_blind, va_recv hKn.1 hW.2.2.2 hc hat, fun V hV hWm => rz_pre_at (vs := rz_r (q + 1) :: as) hKn hW hS hV hWm⟩ (g := F0 m pc ls ((as.reverse ++ rz_r (q + 1) :: U).map (rz_v G))) rfl (by rw [List.length_map]; exact hlen) hL.1 (by rw [List.map_append, List.map_reverse, List.map_cons]; rfl) (lv_room (rz_sum G hfew)) hd (locs := locs) (H := H) (cells := nz0.1) (slots := nz0.2) ⟨Nat.le_trans hz.1 hf.1, Nat.le_trans hz.2 hf.2⟩
    refine va_calli hR hS (fun _ _ z => z) (fun _ z => z) (fun r u t H1 locs1 ht hvm hpo hB _ _ hS1 => ?_)
    refine W.widen hz.1 hz.2 ?_
    obtain ⟨u1, u2⟩ := u
    have hz := hk L (u1 :: U) u2 hpo.2 ls H1 locs1 hL (by rw [← ht]; exact hB.1) hS1 trivial
    rw [List.map_cons, hpo.1] at hz
    exact hz
  · cases h
theorem rz_callTv_ok {own : String}  {index n maxL mc ms : Nat} {nz1 : Nat × Nat} {bytes : ByteArray} {f : rz_L → rz_M → rz_Z → Bool} (hC : rz_Cx G TB y cc nL rt rm p R s m args meth c) (hown : y.cls = own) (hM : ∀ (vs : rz_L) (M : rz_M) (Z : rz_Z), vs.length = n + 1 → f vs M Z = true → Met l x (.code x bytes maxL rt2 :: TB) rm2 (rz_Pre G vs M) (rz_Qv G M.2 Z) mc ms (fun q => rz_b G ≤ q)) (cw : CallW R s args own "java/lang/String" index x bytes maxL rt2 (.code x bytes maxL rt2 :: TB) rm2 mc ms n) (hd : decode cc pc = .ok (.invokevirtual index, 3)) (hk : rz_Ok G p l e R s m args below meth c Q nL nz1 (pc + 3) (k)) (hz : nz0.1 + mc ≤ nz1.1 ∧ nz0.2 + ms ≤ nz1.2 := by exact ⟨Nat.le_refl _, Nat.le_refl _⟩) (hf : nz1.1 ≤ R.cells ∧ nz1.2 ≤ R.slots := by exact ⟨Nat.zero_le _, Nat.zero_le _⟩) : rz_Ok G p l e R s m args below meth c Q nL nz0 (pc) (rz_callTv n f k J Z) := by
  obtain ⟨hx, hb, hml, hr, hlk, ho, hts, hKn, hRm⟩ := hC
  intro L S M h ls H locs hL hW hS h0
  replace h := rz_take_t h
  obtain ⟨as, T1, rfl, hlen, h⟩ := h
  rw [List.append_nil] at h
  replace h := rz_hd_t h
  obtain ⟨o, U, rfl, h⟩ := h
  replace h := rz_at_t h
  obtain ⟨i, hi, rfl, h⟩ := h
  obtain ⟨hfew, h⟩ := rz_few_t h
  have hR := va_runV (e := e) (below := below) (meth := meth) (As := as.map (rz_v G)) (rest := U.map (rz_v G)) (nL := nL) (Ts := Cond.code y cc nL rt :: TB) ⟨hx, hb, hml, by rw [← hown]; exact ho, hts⟩ (hM _ _ _ (by rw [List.length_cons, hlen]) h) cw ⟨rz_blind, vk_recv hKn.2.2.1 hi hS, fun V hV hWm => rz_pre_at (vs := rz_r (1000000 + i + 1) :: as) hKn hW hS hV hWm⟩ (g := F0 m pc ls ((as.reverse ++ rz_r (1000000 + i + 1) :: U).map (rz_v G))) rfl (by rw [List.length_map]; exact hlen) hL.1 (by rw [List.map_append, List.map_reverse, List.map_cons]; rfl) (lv_room (rz_sum G hfew)) hd (locs := locs) (H := H) (cells := nz0.1) (slots := nz0.2) ⟨Nat.le_trans hz.1 hf.1, Nat.le_trans hz.2 hf.2⟩
  refine va_callv hR hS (fun _ _ z => z) (fun _ z => z) (fun u t H1 locs1 ht hvm hpo hB _ _ hS1 => ?_)
  refine W.widen hz.1 hz.2 ?_
  exact hk L U u hpo ls H1 locs1 hL (by rw [← ht]; exact hB.1) hS1 trivial
-- bytes copied
noncomputable def rz_c7 (sp B0 n : Nat) : Bool := Nat.rec true (fun i ih => rz_if (Nat.ble (rz_g32 B0 (Nat.add sp i)) 127) ih false) n
theorem rz_c7_t (sp B0 : Nat) : ∀ (n : Nat), rz_c7 sp B0 n = true → ∀ i, i < n → rz_g32 B0 (sp + i) < 128
  | 0, _, i, hi => by omega
  | n + 1, h, i, hi => by
    have h : rz_if (Nat.ble (rz_g32 B0 (Nat.add sp n)) 127) (rz_c7 sp B0 n) false = true := h
    rcases rz_if_t h with ⟨g, h⟩ | ⟨-, h⟩
    · have g : rz_g32 B0 (sp + n) ≤ 127 := rz_ble.1.mp g
      by_cases e : i = n
      · rw [e]; omega
      · exact rz_c7_t sp B0 n h i (by omega)
    · cases h
/-- a stretch copied into an array: from any array of whose slots it is known what they hold -/
theorem rz_copyX {H : Heap} {locs : List Loc} {cells slots : Nat} {ls : Array Slot} {rest : List Value} {H0 : Heap} {A : Nat → Prop} (hx : p.tables.exec = Jvm.exec) (hb : c.code = cc) (hml : c.maxLocals = ls.size) {own : String} {index : Nat} (hown : s.vm.findClass own = some m.cls) (hlink : (Cond.methodLink own index arraycopyName).before args s = true) (hnat : (Cond.native arraycopyName).before args s = true) (hstat : (Cond.static arraycopyName).before args s = true) (hini : (Cond.initialized "java/lang/System").before args s = true)
    {ty : FieldType} {c1 : ClassId} (hk1 : ArrOfT s c1 ty) (hprim : refKind ty = false) (hS : va_S A H0 H locs) {a0 a n0 n1 : Nat} {f g : Nat → Int32} {scr : Cell} (h0 : H[a0]? = some scr) (hs2 : s.isArrayOf scr ty) (hs3 : scr.vm ≠ .unknown) (hs4 : n0 ≤ scr.slots.size) (hs5 : ∀ j, j < n0 → scr.slots[j]? = some (.int (f j))) (h1 : H[a]? = some (arrV c1 n1 (fun j => .int (g j)))) (hA : A a)
    {sp dp n : Int32} (q1 : ¬ sp < 0) (q2 : ¬ dp < 0) (q3 : ¬ n < 0) (q4 : sp.toNatClampNeg + n.toNatClampNeg ≤ n0) (q5 : dp.toNatClampNeg + n.toNatClampNeg ≤ n1) (hfit : ∀ i, i < n.toNatClampNeg → fits ty (.int (f (sp.toNatClampNeg + i))) = true)
    (hframes : 1 ≤ R.frames) (hlocals : (rest.map fun v => v.category).sum + (nativeFrameWords "java/lang/System" "arraycopy" 5 + 11) ≤ R.locals) (hd : decode cc pc = .ok (.invokestatic index, 3))
    (kk : ∀ (H1 : Heap) (locs1 : List Loc), H1[a]? = some (arrV c1 n1 (fun j => .int (va_cpy f g sp.toNatClampNeg dp.toNatClampNeg n.toNatClampNeg j))) → H1.size = H.size → (∀ x : Nat, x ≠ a → H1[x]? = H[x]?) → va_S A H0 H1 locs1 → W p l e R s m args below meth c H1 locs1 cells slots Q (F0 m (pc + 3) ls rest)) : W p l e R s m args below meth c H locs cells slots Q (F0 m pc ls (.int n :: .int dp :: .ref a :: .int sp :: .ref a0 :: rest)) := by
  have nn : ∀ z : Int32, ¬ z < 0 → z.toInt = (z.toNatClampNeg : Int) := by
    intro z hz
    have z1 := Int32.le_iff_toInt_le.mp (Int32.not_lt.mp hz)
    have z0 : (0 : Int) ≤ z.toInt := by simpa using z1
    exact (Int.toNat_of_nonneg z0).symm
  obtain ⟨hs6, k0, u0, cm0, w0⟩ := hs2
  obtain ⟨-, k1, u1, cm1, w1⟩ := hk1 n1 (fun j => .int (g j))
  intro T hT X
  have s1 : (arrV c1 n1 (fun j => Value.int (g j))).slots.size = n1 := arrV_size _ _ _
  obtain ⟨vm', X', step⟩ := X.arraycopy hx hown hlink hnat hstat hini (srcPos := sp) (destPos := dp) (n := n) (by rw [hT]; exact h0) (by rw [hT]; exact h1) hs6 (fun _ z => by cases z) hs3 (fun z => by cases z) u0 u1 w0 w1 (by simp [hprim]) q1 q2 q3 (by rw [nn sp q1, nn n q3]; omega) (by rw [nn dp q2, nn n q3, s1]; omega)
    (fun _ _ i hi => by
      have r : scr.slots.getD (sp.toNatClampNeg + i) .null = .int (f (sp.toNatClampNeg + i)) := by
        rw [Array.getD_eq_getD_getElem?, hs5 _ (by omega)]
        rfl
      rw [r]
      exact ⟨hfit i hi, trivial⟩)
    (g := F0 m pc ls (.int n :: .int dp :: .ref a :: .int sp :: .ref a0 :: rest)) rfl (by rw [hml]) (rest := rest) rfl (by rw [hb]; exact hd) hframes (by show 2 * 0 + _ + _ ≤ _; omega)
  have e1 : copied scr (arrV c1 n1 (fun j => Value.int (g j))) sp dp n = arrV c1 n1 (fun j => Value.int (va_cpy f g sp.toNatClampNeg dp.toNatClampNeg n.toNatClampNeg j)) := va_copiedX (fun z => Value.int z) scr c1 f g hs5 q4
  rw [e1] at X' step
  have hl : a < H.size := (Array.getElem?_eq_some_iff.mp h1).1
  have oq : ∀ q : Nat, q ≠ a → (H.setIfInBounds a (arrV c1 n1 (fun j => Value.int (va_cpy f g sp.toNatClampNeg dp.toNatClampNeg n.toNatClampNeg j))))[q]? = H[q]? := fun q hq => by simp [Array.getElem?_setIfInBounds, Ne.symm hq]
  obtain ⟨t, a1, b1⟩ := kk (H.setIfInBounds a (arrV c1 n1 (fun j => Value.int (va_cpy f g sp.toNatClampNeg dp.toNatClampNeg n.toNatClampNeg j)))) _ (by simp [Array.getElem?_setIfInBounds, hl]) (by simp) oq ⟨by simp; exact hS.1, fun q g1 g2 => by
      rw [oq q (fun z => g2 (by rw [z]; exact hA))]
      exact hS.2.1 q g1 g2, fun q hq => by
      rcases List.mem_append.mp hq with h | h
      · exact hS.2.2 q h
      · obtain ⟨z, -, hz⟩ := List.mem_map.mp h
        rw [← hz]
        exact hA⟩ _ (by rw [← hT]; rfl) X'
  exact ⟨t, step t a1, b1⟩
noncomputable def rz_acopyB : rz_B := fun k _ _ L S M => rz_hd S (fun vn S => rz_hd S (fun vd S => rz_hd S (fun va S => rz_hd S (fun vs S => rz_hd S (fun vb U => rz_int vn (fun n => rz_int vd (fun dp => rz_ref va (fun q1 => rz_int vs (fun sp => rz_ref vb (fun q0 => rz_mm M (fun g nz => rz_get 9 g q0 (fun B0 => rz_get 9 g q1 (fun B1 => rz_if (Nat.beq (Nat.mod (rz_head B0) 256) 7) (rz_if (Nat.beq (Nat.mod (rz_head B1) 256) 7) (rz_if (Nat.ble (Nat.add sp n) (Nat.div (rz_head B0) 256)) (rz_if (Nat.ble (Nat.add dp n) (Nat.div (rz_head B1) 256)) (rz_if (rz_c7 sp B0 n) (rz_few U (rz_cpk sp dp B0 B1 n (fun C => rz_upd 9 g q1 C (fun g' => k L U (g', nz))))) false) false) false) false) false)))))))))))))
theorem rz_acopyB_ok {own : String} {index : Nat} (hx : p.tables.exec = Jvm.exec) (hb : c.code = cc) (hml : c.maxLocals = nL) (hK : va_K (rz_D G) (rz_cl G) (rz_tys G) s) (hA : rz_A G) (hown : s.vm.findClass own = some m.cls) (hlink : (Cond.methodLink own index arraycopyName).before args s = true) (hnat : (Cond.native arraycopyName).before args s = true) (hstat : (Cond.static arraycopyName).before args s = true) (hini : (Cond.initialized "java/lang/System").before args s = true) (hframes : 1 ≤ R.frames) (hlocals : 8 + (nativeFrameWords "java/lang/System" "arraycopy" 5 + 11) ≤ R.locals) (hd : decode cc pc = .ok (.invokestatic index, 3)) (hk : rz_Ok G p l e R s m args below meth c Q nL nz0 (pc + 3) (k)) : rz_Ok G p l e R s m args below meth c Q nL nz0 (pc) (rz_acopyB k J Z) := by
  intro L S M h ls H locs hL hW hS h0
  replace h := rz_hd_t h
  obtain ⟨vn, S, rfl, h⟩ := h
  replace h := rz_hd_t h
  obtain ⟨vd, S, rfl, h⟩ := h
  replace h := rz_hd_t h
  obtain ⟨va, S, rfl, h⟩ := h
  replace h := rz_hd_t h
  obtain ⟨vs, S, rfl, h⟩ := h
  replace h := rz_hd_t h
  obtain ⟨vb, U, rfl, h⟩ := h
  replace h := rz_int_t h
  obtain ⟨n, rfl, h⟩ := h
  replace h := rz_int_t h
  obtain ⟨dp, rfl, h⟩ := h
  replace h := rz_ref_t h
  obtain ⟨q1, rfl, h⟩ := h
  replace h := rz_int_t h
  obtain ⟨sp, rfl, h⟩ := h
  replace h := rz_ref_t h
  obtain ⟨q0, rfl, h⟩ := h
  replace h := rz_mm_t h
  obtain ⟨g, nz, rfl, h⟩ := h
  obtain ⟨hq0, h⟩ := rz_get_t 9 h
  obtain ⟨hq1, h⟩ := rz_get_t 9 h
  rcases rz_if_t h with ⟨t0, h⟩ | ⟨-, h⟩
  · rcases rz_if_t h with ⟨t1, h⟩ | ⟨-, h⟩
    · rcases rz_if_t h with ⟨t2, h⟩ | ⟨-, h⟩
      · rcases rz_if_t h with ⟨t3, h⟩ | ⟨-, h⟩
        · rcases rz_if_t h with ⟨t4, h⟩ | ⟨-, h⟩
          · obtain ⟨hfew, h⟩ := rz_few_t h
            rw [rz_cpk_eq, rz_upd_eq] at h
            have t0 : rz_head (rz_gt 9 g q0) % 256 = 7 := rz_beq.1.mp t0
            have t1 : rz_head (rz_gt 9 g q1) % 256 = 7 := rz_beq.1.mp t1
            have t2 : sp + n ≤ rz_head (rz_gt 9 g q0) / 256 := rz_ble.1.mp t2
            have t3 : dp + n ≤ rz_head (rz_gt 9 g q1) / 256 := rz_ble.1.mp t3
            have t4 := rz_c7_t _ _ _ t4
            have b0 := rz_head_lt (rz_gt 9 g q0)
            have b1 := rz_head_lt (rz_gt 9 g q1)
            have hl0 := rz_wd_lt hW hq0 (by intro z; rw [z] at t0; cases t0)
            have hl1 := rz_wd_lt hW hq1 (by intro z; rw [z] at t1; cases t1)
            have at0 := hW.2.2.2 q0 _ (rz_den_at (G := G) (h := g) hl0)
            have at1 := hW.2.2.2 q1 _ (rz_den_at (G := G) (h := g) hl1)
            rw [rz_ek G t0 (by decide)] at at0
            rw [rz_ek G t1 (by decide)] at at1
            replace at0 : H[rz_ad G q0]? = some (arrV (rz_tc G 7) (rz_head (rz_gt 9 g q0) / 256) (fun j => Value.int (nI (rz_g32 (rz_gt 9 g q0) j)))) := at0
            replace at1 : H[rz_ad G q1]? = some (arrV (rz_tc G 7) (rz_head (rz_gt 9 g q1) / 256) (fun j => Value.int (nI (rz_g32 (rz_gt 9 g q1) j)))) := at1
            have hq5 : q1 < 512 := hq1
            have cn : (nI n).toNatClampNeg = n := nI_clamp (by omega)
            have cs : (nI sp).toNatClampNeg = sp := nI_clamp (by omega)
            have cd : (nI dp).toNatClampNeg = dp := nI_clamp (by omega)
            refine rz_copy hx hb (by rw [hml, hL.1]) hown hlink hnat hstat hini (hK.2 5 _ rfl).1 (hK.2 5 _ rfl).1 rfl hS (f := fun j => nI (rz_g32 (rz_gt 9 g q0) j)) (g := fun j => nI (rz_g32 (rz_gt 9 g q1) j)) at0 at1 (rz_b_ad hA hq5) (sp := nI sp) (dp := nI dp) (n := nI n) (nI_pos (by omega)) (nI_pos (by omega)) (nI_pos (by omega)) (by rw [cn, cs]; exact t2) (by rw [cn, cd]; exact t3) (fun i hi => ?_) hframes (Nat.le_trans (Nat.add_le_add_right (rz_sum G hfew) _) hlocals) hd (fun H1 locs1 e1 ez eo hS1 => ?_)
            · rw [cn] at hi
              rw [cs]
              exact rz_fitb _ (t4 i hi)
            · rw [cn, cs, cd] at e1
              have hwd := rz_wd_set hA hW hl1 (C := rz_cpy sp dp (rz_gt 9 g q0) (rz_gt 9 g q1) n) (H1 := H1) (by
                rw [rz_cpy_head, rz_ek G t1 (by decide)]
                refine e1.trans (congrArg some ?_)
                dsimp only
                rw [vp_cell_i]
                refine congrArg (arrV _ _) (funext fun j => ?_)
                show Value.int (va_cpy (fun j => nI (rz_g32 (rz_gt 9 g q0) j)) (fun j => nI (rz_g32 (rz_gt 9 g q1) j)) sp dp n j) = .int (nI (rz_g32 (rz_cpy sp dp (rz_gt 9 g q0) (rz_gt 9 g q1) n) j))
                rw [rz_cpy_lane]
                unfold va_cpy
                by_cases z : dp ≤ j ∧ j < dp + n
                · rw [if_pos z, if_pos z]
                · rw [if_neg z, if_neg z]) ez eo
              exact hk L U _ h ls H1 locs1 hL hwd hS1 h0
          · cases h
        · cases h
      · cases h
    · cases h
  · cases h
-- bytes of a constant text copied
theorem rz_chr7 : ∀ i, i < 18 → ∀ j, j < rz_sL.getD i 0 → rz_chr i j < 128 := by
  have h : ∀ i, i < 18 → (rz_sT.getD i []).all (fun c => Nat.ble c 127) = true := by decide +kernel
  have hl : ∀ i, i < 18 → rz_sL.getD i 0 = (rz_sT.getD i []).length := by decide +kernel
  intro i hi j hj
  rw [hl i hi] at hj
  have h1 := rz_chr_eq i j
  have h2 : (rz_sB.getD i []).getD j 0 = nI ((rz_sT.getD i []).getD j 0) := by
    have h2a : ∀ (l : List (List Nat)) (i : Nat), (l.map rz_by).getD i [] = rz_by (l.getD i []) := by
      intro l i
      rw [List.getD_eq_getElem?_getD, List.getD_eq_getElem?_getD, List.getElem?_map]
      cases l[i]? <;> rfl
    have h3a : ∀ (l : List Nat) (i : Nat), (l.map nI).getD i 0 = nI (l.getD i 0) := by
      intro l i
      rw [List.getD_eq_getElem?_getD, List.getD_eq_getElem?_getD, List.getElem?_map]
      cases l[i]? <;> rfl
    show ((rz_sT.map rz_by).getD i []).getD j 0 = _
    rw [h2a]
    exact h3a _ _
  rw [h2] at h1
  have h3 := rz_nI_eq.mp h1
  have h4 : (rz_sT.getD i []).getD j 0 ≤ 127 := by
    rw [List.getD_eq_getElem?_getD, List.getElem?_eq_getElem hj]
    exact Nat.le_of_ble_eq_true (List.all_eq_true.mp (h i hi) _ (List.getElem_mem hj))
  have h5 := rz_chr_lt i j
  omega
noncomputable def rz_cpT (i sp dp B1 n : Nat) : Nat := Nat.rec B1 (fun a B => rz_p B (Nat.add 32 (Nat.mul 32 (Nat.add dp a))) (rz_g32 B (Nat.add dp a)) (rz_chr i (Nat.add sp a))) n
noncomputable def rz_cpTk (i sp dp B1 n : Nat) : (Nat → Bool) → Bool := Nat.rec (fun k => k B1) (fun a ih k => ih (fun B => rz_F (rz_p B (Nat.add 32 (Nat.mul 32 (Nat.add dp a))) (rz_g32 B (Nat.add dp a)) (rz_chr i (Nat.add sp a))) k)) n
theorem rz_cpTk_eq (i sp dp B1 : Nat) : ∀ (n : Nat) (k : Nat → Bool), rz_cpTk i sp dp B1 n k = k (rz_cpT i sp dp B1 n)
  | 0, _ => rfl
  | n + 1, k => by
    show rz_cpTk i sp dp B1 n _ = _
    rw [rz_cpTk_eq i sp dp B1 n, rz_F_eq]
    rfl
theorem rz_chr32 (i j : Nat) : rz_chr i j < 2 ^ 32 := Nat.lt_of_lt_of_le (rz_chr_lt i j) (by decide)
theorem rz_cpT_s (i sp dp B1 n : Nat) : rz_cpT i sp dp B1 (n + 1) = rz_p (rz_cpT i sp dp B1 n) (Nat.add 32 (Nat.mul 32 (dp + n))) (rz_g32 (rz_cpT i sp dp B1 n) (dp + n)) (rz_chr i (sp + n)) := rfl
theorem rz_cpT_head (i sp dp B1 : Nat) : ∀ n : Nat, rz_head (rz_cpT i sp dp B1 n) = rz_head B1
  | 0 => rfl
  | n + 1 => by rw [rz_cpT_s, rz_head32 (rz_chr32 _ _), rz_cpT_head i sp dp B1 n]
theorem rz_cpT_lane (i sp dp B1 : Nat) : ∀ (n j : Nat), rz_g32 (rz_cpT i sp dp B1 n) j = va_cpy (rz_chr i) (rz_g32 B1) sp dp n j
  | 0, j => by
    unfold va_cpy
    rw [if_neg (by omega)]
    rfl
  | n + 1, j => by
    rw [rz_cpT_s, rz_lane32 (rz_chr32 _ _), rz_cpT_lane i sp dp B1 n j]
    unfold va_cpy
    by_cases h : j = dp + n
    · rw [if_pos h, if_pos (by omega), show sp + (j - dp) = sp + n by omega]
    · rw [if_neg h]
      by_cases g : dp ≤ j ∧ j < dp + n
      · rw [if_pos g, if_pos (by omega)]
      · rw [if_neg g, if_neg (by omega)]
noncomputable def rz_acopyT : rz_B := fun k _ _ L S M => rz_hd S (fun vn S => rz_hd S (fun vd S => rz_hd S (fun va S => rz_hd S (fun vs S => rz_hd S (fun vb U => rz_int vn (fun n => rz_int vd (fun dp => rz_ref va (fun q1 => rz_int vs (fun sp => rz_at 2000000 vb (fun i => rz_mm M (fun g nz => rz_get 9 g q1 (fun B1 => rz_if (Nat.beq (Nat.mod (rz_head B1) 256) 7) (rz_if (Nat.ble (Nat.add sp n) (rz_len i)) (rz_if (Nat.ble (Nat.add dp n) (Nat.div (rz_head B1) 256)) (rz_few U (rz_cpTk i sp dp B1 n (fun C => rz_upd 9 g q1 C (fun g' => k L U (g', nz))))) false) false) false))))))))))))
theorem rz_acopyT_ok {own : String} {index : Nat} (hx : p.tables.exec = Jvm.exec) (hb : c.code = cc) (hml : c.maxLocals = nL) (hK : va_K (rz_D G) (rz_cl G) (rz_tys G) s) (hA : rz_A G) (hSt : rz_St G s) (hown : s.vm.findClass own = some m.cls) (hlink : (Cond.methodLink own index arraycopyName).before args s = true) (hnat : (Cond.native arraycopyName).before args s = true) (hstat : (Cond.static arraycopyName).before args s = true) (hini : (Cond.initialized "java/lang/System").before args s = true) (hframes : 1 ≤ R.frames) (hlocals : 8 + (nativeFrameWords "java/lang/System" "arraycopy" 5 + 11) ≤ R.locals) (hd : decode cc pc = .ok (.invokestatic index, 3)) (hk : rz_Ok G p l e R s m args below meth c Q nL nz0 (pc + 3) (k)) : rz_Ok G p l e R s m args below meth c Q nL nz0 (pc) (rz_acopyT k J Z) := by
  intro L S M h ls H locs hL hW hS h0
  replace h := rz_hd_t h
  obtain ⟨vn, S, rfl, h⟩ := h
  replace h := rz_hd_t h
  obtain ⟨vd, S, rfl, h⟩ := h
  replace h := rz_hd_t h
  obtain ⟨va, S, rfl, h⟩ := h
  replace h := rz_hd_t h
  obtain ⟨vs, S, rfl, h⟩ := h
  replace h := rz_hd_t h
  obtain ⟨vb, U, rfl, h⟩ := h
  replace h := rz_int_t h
  obtain ⟨n, rfl, h⟩ := h
  replace h := rz_int_t h
  obtain ⟨dp, rfl, h⟩ := h
  replace h := rz_ref_t h
  obtain ⟨q1, rfl, h⟩ := h
  replace h := rz_int_t h
  obtain ⟨sp, rfl, h⟩ := h
  replace h := rz_at_t h
  obtain ⟨i, hi, rfl, h⟩ := h
  replace h := rz_mm_t h
  obtain ⟨g, nz, rfl, h⟩ := h
  obtain ⟨hq1, h⟩ := rz_get_t 9 h
  rcases rz_if_t h with ⟨t1, h⟩ | ⟨-, h⟩
  · rcases rz_if_t h with ⟨t2, h⟩ | ⟨-, h⟩
    · rcases rz_if_t h with ⟨t3, h⟩ | ⟨-, h⟩
      · obtain ⟨hfew, h⟩ := rz_few_t h
        rw [rz_cpTk_eq, rz_upd_eq] at h
        have t1 : rz_head (rz_gt 9 g q1) % 256 = 7 := rz_beq.1.mp t1
        have t2 : sp + n ≤ rz_len i := rz_ble.1.mp t2
        have t3 : dp + n ≤ rz_head (rz_gt 9 g q1) / 256 := rz_ble.1.mp t3
        have b0 := rz_len_lt i
        have b1 := rz_head_lt (rz_gt 9 g q1)
        have hl1 := rz_wd_lt hW hq1 (by intro z; rw [z] at t1; cases t1)
        have at1 := hW.2.2.2 q1 _ (rz_den_at (G := G) (h := g) hl1)
        rw [rz_ek G t1 (by decide)] at at1
        replace at1 : H[rz_ad G q1]? = some (arrV (rz_tc G 7) (rz_head (rz_gt 9 g q1) / 256) (fun j => Value.int (nI (rz_g32 (rz_gt 9 g q1) j)))) := at1
        have hq5 : q1 < 512 := hq1
        have cn : (nI n).toNatClampNeg = n := nI_clamp (by omega)
        have cs : (nI sp).toNatClampNeg = sp := nI_clamp (by omega)
        have cd : (nI dp).toNatClampNeg = dp := nI_clamp (by omega)
        obtain ⟨scr, u1, u2, u3, u4, -, u6, u7⟩ := (hSt.1.1 i hi).2.2.2
        have el : rz_sL.getD i 0 = rz_len i := (rz_sel_eq _ _ _).symm
        rw [el] at u4 u6
        have hc0 : H[rz_ad G (2000000 + i)]? = some scr := by rw [hS.2.1 _ (Array.getElem?_eq_some_iff.mp u1).1 u7]; exact u1
        refine rz_copyX hx hb (by rw [hml, hL.1]) hown hlink hnat hstat hini (hK.2 5 _ rfl).1 rfl hS (f := fun j => nI (rz_chr i j)) (g := fun j => nI (rz_g32 (rz_gt 9 g q1) j)) hc0 u2 u3 u4 (fun j hj => by rw [u6 j hj]; show some (Value.int ((rz_sB.getD i []).getD j 0)) = _; rw [rz_chr_eq]) at1 (rz_b_ad hA hq5) (sp := nI sp) (dp := nI dp) (n := nI n) (nI_pos (by omega)) (nI_pos (by omega)) (nI_pos (by omega)) (by rw [cn, cs]; exact t2) (by rw [cn, cd]; exact t3) (fun a ha => ?_) hframes (Nat.le_trans (Nat.add_le_add_right (rz_sum G hfew) _) hlocals) hd (fun H1 locs1 e1 ez eo hS1 => ?_)
        · rw [cn] at ha
          rw [cs]
          exact rz_fitb _ (rz_chr7 i hi _ (by rw [el]; omega))
        · rw [cn, cs, cd] at e1
          have hwd := rz_wd_set hA hW hl1 (C := rz_cpT i sp dp (rz_gt 9 g q1) n) (H1 := H1) (by
            rw [rz_cpT_head, rz_ek G t1 (by decide)]
            refine e1.trans (congrArg some ?_)
            dsimp only
            rw [vp_cell_i]
            refine congrArg (arrV _ _) (funext fun j => ?_)
            show Value.int (va_cpy (fun j => nI (rz_chr i j)) (fun j => nI (rz_g32 (rz_gt 9 g q1) j)) sp dp n j) = .int (nI (rz_g32 (rz_cpT i sp dp (rz_gt 9 g q1) n) j))
            rw [rz_cpT_lane]
            unfold va_cpy
            by_cases z : dp ≤ j ∧ j < dp + n
            · rw [if_pos z, if_pos z]
            · rw [if_neg z, if_neg z]) ez eo
          exact hk L U _ h ls H1 locs1 hL hwd hS1 h0
      · cases h
    · cases h
  · cases h
end RZU
section RZB
variable {G : rz_G} {p : Program} {l : Launch} {e : Env} {R : Room} {s : State} {m : MethodId} {args : Array Value} {below : List Frame} {meth : Method} {c : Code} {Q : State → Prop} {nL pc : Nat} {nz0 : Nat × Nat} {cc : ByteArray} {k : rz_K} {J : rz_J} {Z : rz_Z}
-- branches on numbers that are open: both ways
noncomputable def rz_if1B (j : Nat) : rz_B := fun k J _ L S M => rz_hd S (fun v T => rz_isI v (rz_if (J j L T M) (k L T M) false))
noncomputable def rz_if2B (j : Nat) : rz_B := fun k J _ L S M => rz_hd S (fun b T => rz_hd T (fun a U => rz_isI b (rz_isI a (rz_if (J j L U M) (k L U M) false))))
theorem rz_ifeqB_ok {j tgt : Nat} {off : Int} (hx : p.tables.exec = Jvm.exec) (hb : c.code = cc) (hd : decode cc pc = .ok (.ifCond .eq off, 3)) (ht : (pc : Int) + off = (tgt : Int)) (hk : rz_Ok G p l e R s m args below meth c Q nL nz0 (pc + 3) (k)) (hj : rz_Ok G p l e R s m args below meth c Q nL nz0 (tgt) (J j)) : rz_Ok G p l e R s m args below meth c Q nL nz0 (pc) (rz_if1B j k J Z) := by
  intro L S M h ls H locs hL hW hS h0
  replace h := rz_hd_t h
  obtain ⟨v, T, rfl, h⟩ := h
  obtain ⟨⟨x, ex⟩, -, h⟩ := rz_v_int G L 0 h
  rcases rz_if_t h with ⟨h1, h2⟩ | ⟨-, h⟩
  · rw [List.map_cons, ex]
    exact lv_if_eq hx hb hd ht (fun _ => hj L T M h1 ls H locs hL hW hS h0) (fun _ => hk L T M h2 ls H locs hL hW hS h0)
  · cases h
theorem rz_icmpeqB_ok {j tgt : Nat} {off : Int} (hx : p.tables.exec = Jvm.exec) (hb : c.code = cc) (hd : decode cc pc = .ok (.if_icmp .eq off, 3)) (ht : (pc : Int) + off = (tgt : Int)) (hk : rz_Ok G p l e R s m args below meth c Q nL nz0 (pc + 3) (k)) (hj : rz_Ok G p l e R s m args below meth c Q nL nz0 (tgt) (J j)) : rz_Ok G p l e R s m args below meth c Q nL nz0 (pc) (rz_if2B j k J Z) := by
  intro L S M h ls H locs hL hW hS h0
  replace h := rz_hd_t h
  obtain ⟨b, T, rfl, h⟩ := h
  replace h := rz_hd_t h
  obtain ⟨a, U, rfl, h⟩ := h
  obtain ⟨⟨y, ey⟩, -, h⟩ := rz_v_int G L 0 h
  obtain ⟨⟨x, ex⟩, -, h⟩ := rz_v_int G L 0 h
  rcases rz_if_t h with ⟨h1, h2⟩ | ⟨-, h⟩
  · rw [List.map_cons, List.map_cons, ey, ex]
    exact lv_icmp_eq hx hb hd ht (fun _ => hj L U M h1 ls H locs hL hW hS h0) (fun _ => hk L U M h2 ls H locs hL hW hS h0)
  · cases h
theorem rz_ifneB_ok {j tgt : Nat} {off : Int} (hx : p.tables.exec = Jvm.exec) (hb : c.code = cc) (hd : decode cc pc = .ok (.ifCond .ne off, 3)) (ht : (pc : Int) + off = (tgt : Int)) (hk : rz_Ok G p l e R s m args below meth c Q nL nz0 (pc + 3) (k)) (hj : rz_Ok G p l e R s m args below meth c Q nL nz0 (tgt) (J j)) : rz_Ok G p l e R s m args below meth c Q nL nz0 (pc) (rz_if1B j k J Z) := by
  intro L S M h ls H locs hL hW hS h0
  replace h := rz_hd_t h
  obtain ⟨v, T, rfl, h⟩ := h
  obtain ⟨⟨x, ex⟩, -, h⟩ := rz_v_int G L 0 h
  rcases rz_if_t h with ⟨h1, h2⟩ | ⟨-, h⟩
  · rw [List.map_cons, ex]
    exact lv_if_ne hx hb hd ht (fun _ => hj L T M h1 ls H locs hL hW hS h0) (fun _ => hk L T M h2 ls H locs hL hW hS h0)
  · cases h
theorem rz_icmpneB_ok {j tgt : Nat} {off : Int} (hx : p.tables.exec = Jvm.exec) (hb : c.code = cc) (hd : decode cc pc = .ok (.if_icmp .ne off, 3)) (ht : (pc : Int) + off = (tgt : Int)) (hk : rz_Ok G p l e R s m args below meth c Q nL nz0 (pc + 3) (k)) (hj : rz_Ok G p l e R s m args below meth c Q nL nz0 (tgt) (J j)) : rz_Ok G p l e R s m args below meth c Q nL nz0 (pc) (rz_if2B j k J Z) := by
  intro L S M h ls H locs hL hW hS h0
  replace h := rz_hd_t h
  obtain ⟨b, T, rfl, h⟩ := h
  replace h := rz_hd_t h
  obtain ⟨a, U, rfl, h⟩ := h
  obtain ⟨⟨y, ey⟩, -, h⟩ := rz_v_int G L 0 h
  obtain ⟨⟨x, ex⟩, -, h⟩ := rz_v_int G L 0 h
  rcases rz_if_t h with ⟨h1, h2⟩ | ⟨-, h⟩
  · rw [List.map_cons, List.map_cons, ey, ex]
    exact lv_icmp_ne hx hb hd ht (fun _ => hj L U M h1 ls H locs hL hW hS h0) (fun _ => hk L U M h2 ls H locs hL hW hS h0)
  · cases h
theorem rz_ifltB_ok {j tgt : Nat} {off : Int} (hx : p.tables.exec = Jvm.exec) (hb : c.code = cc) (hd : decode cc pc = .ok (.ifCond .lt off, 3)) (ht : (pc : Int) + off = (tgt : Int)) (hk : rz_Ok G p l e R s m args below meth c Q nL nz0 (pc + 3) (k)) (hj : rz_Ok G p l e R s m args below meth c Q nL nz0 (tgt) (J j)) : rz_Ok G p l e R s m args below meth c Q nL nz0 (pc) (rz_if1B j k J Z) := by
  intro L S M h ls H locs hL hW hS h0
  replace h := rz_hd_t h
  obtain ⟨v, T, rfl, h⟩ := h
  obtain ⟨⟨x, ex⟩, -, h⟩ := rz_v_int G L 0 h
  rcases rz_if_t h with ⟨h1, h2⟩ | ⟨-, h⟩
  · rw [List.map_cons, ex]
    exact lv_if_lt hx hb hd ht (fun _ => hj L T M h1 ls H locs hL hW hS h0) (fun _ => hk L T M h2 ls H locs hL hW hS h0)
  · cases h
theorem rz_icmpltB_ok {j tgt : Nat} {off : Int} (hx : p.tables.exec = Jvm.exec) (hb : c.code = cc) (hd : decode cc pc = .ok (.if_icmp .lt off, 3)) (ht : (pc : Int) + off = (tgt : Int)) (hk : rz_Ok G p l e R s m args below meth c Q nL nz0 (pc + 3) (k)) (hj : rz_Ok G p l e R s m args below meth c Q nL nz0 (tgt) (J j)) : rz_Ok G p l e R s m args below meth c Q nL nz0 (pc) (rz_if2B j k J Z) := by
  intro L S M h ls H locs hL hW hS h0
  replace h := rz_hd_t h
  obtain ⟨b, T, rfl, h⟩ := h
  replace h := rz_hd_t h
  obtain ⟨a, U, rfl, h⟩ := h
  obtain ⟨⟨y, ey⟩, -, h⟩ := rz_v_int G L 0 h
  obtain ⟨⟨x, ex⟩, -, h⟩ := rz_v_int G L 0 h
  rcases rz_if_t h with ⟨h1, h2⟩ | ⟨-, h⟩
  · rw [List.map_cons, List.map_cons, ey, ex]
    exact lv_icmp_lt hx hb hd ht (fun _ => hj L U M h1 ls H locs hL hW hS h0) (fun _ => hk L U M h2 ls H locs hL hW hS h0)
  · cases h
theorem rz_ifgeB_ok {j tgt : Nat} {off : Int} (hx : p.tables.exec = Jvm.exec) (hb : c.code = cc) (hd : decode cc pc = .ok (.ifCond .ge off, 3)) (ht : (pc : Int) + off = (tgt : Int)) (hk : rz_Ok G p l e R s m args below meth c Q nL nz0 (pc + 3) (k)) (hj : rz_Ok G p l e R s m args below meth c Q nL nz0 (tgt) (J j)) : rz_Ok G p l e R s m args below meth c Q nL nz0 (pc) (rz_if1B j k J Z) := by
  intro L S M h ls H locs hL hW hS h0
  replace h := rz_hd_t h
  obtain ⟨v, T, rfl, h⟩ := h
  obtain ⟨⟨x, ex⟩, -, h⟩ := rz_v_int G L 0 h
  rcases rz_if_t h with ⟨h1, h2⟩ | ⟨-, h⟩
  · rw [List.map_cons, ex]
    exact lv_if_ge hx hb hd ht (fun _ => hj L T M h1 ls H locs hL hW hS h0) (fun _ => hk L T M h2 ls H locs hL hW hS h0)
  · cases h
theorem rz_icmpgeB_ok {j tgt : Nat} {off : Int} (hx : p.tables.exec = Jvm.exec) (hb : c.code = cc) (hd : decode cc pc = .ok (.if_icmp .ge off, 3)) (ht : (pc : Int) + off = (tgt : Int)) (hk : rz_Ok G p l e R s m args below meth c Q nL nz0 (pc + 3) (k)) (hj : rz_Ok G p l e R s m args below meth c Q nL nz0 (tgt) (J j)) : rz_Ok G p l e R s m args below meth c Q nL nz0 (pc) (rz_if2B j k J Z) := by
  intro L S M h ls H locs hL hW hS h0
  replace h := rz_hd_t h
  obtain ⟨b, T, rfl, h⟩ := h
  replace h := rz_hd_t h
  obtain ⟨a, U, rfl, h⟩ := h
  obtain ⟨⟨y, ey⟩, -, h⟩ := rz_v_int G L 0 h
  obtain ⟨⟨x, ex⟩, -, h⟩ := rz_v_int G L 0 h
  rcases rz_if_t h with ⟨h1, h2⟩ | ⟨-, h⟩
  · rw [List.map_cons, List.map_cons, ey, ex]
    exact lv_icmp_ge hx hb hd ht (fun _ => hj L U M h1 ls H locs hL hW hS h0) (fun _ => hk L U M h2 ls H locs hL hW hS h0)
  · cases h
theorem rz_ifgtB_ok {j tgt : Nat} {off : Int} (hx : p.tables.exec = Jvm.exec) (hb : c.code = cc) (hd : decode cc pc = .ok (.ifCond .gt off, 3)) (ht : (pc : Int) + off = (tgt : Int)) (hk : rz_Ok G p l e R s m args below meth c Q nL nz0 (pc + 3) (k)) (hj : rz_Ok G p l e R s m args below meth c Q nL nz0 (tgt) (J j)) : rz_Ok G p l e R s m args below meth c Q nL nz0 (pc) (rz_if1B j k J Z) := by
  intro L S M h ls H locs hL hW hS h0
  replace h := rz_hd_t h
  obtain ⟨v, T, rfl, h⟩ := h
  obtain ⟨⟨x, ex⟩, -, h⟩ := rz_v_int G L 0 h
  rcases rz_if_t h with ⟨h1, h2⟩ | ⟨-, h⟩
  · rw [List.map_cons, ex]
    exact lv_if_gt hx hb hd ht (fun _ => hj L T M h1 ls H locs hL hW hS h0) (fun _ => hk L T M h2 ls H locs hL hW hS h0)
  · cases h
theorem rz_icmpgtB_ok {j tgt : Nat} {off : Int} (hx : p.tables.exec = Jvm.exec) (hb : c.code = cc) (hd : decode cc pc = .ok (.if_icmp .gt off, 3)) (ht : (pc : Int) + off = (tgt : Int)) (hk : rz_Ok G p l e R s m args below meth c Q nL nz0 (pc + 3) (k)) (hj : rz_Ok G p l e R s m args below meth c Q nL nz0 (tgt) (J j)) : rz_Ok G p l e R s m args below meth c Q nL nz0 (pc) (rz_if2B j k J Z) := by
  intro L S M h ls H locs hL hW hS h0
  replace h := rz_hd_t h
  obtain ⟨b, T, rfl, h⟩ := h
  replace h := rz_hd_t h
  obtain ⟨a, U, rfl, h⟩ := h
  obtain ⟨⟨y, ey⟩, -, h⟩ := rz_v_int G L 0 h
  obtain ⟨⟨x, ex⟩, -, h⟩ := rz_v_int G L 0 h
  rcases rz_if_t h with ⟨h1, h2⟩ | ⟨-, h⟩
  · rw [List.map_cons, List.map_cons, ey, ex]
    exact lv_icmp_gt hx hb hd ht (fun _ => hj L U M h1 ls H locs hL hW hS h0) (fun _ => hk L U M h2 ls H locs hL hW hS h0)
  · cases h
theorem rz_ifleB_ok {j tgt : Nat} {off : Int} (hx : p.tables.exec = Jvm.exec) (hb : c.code = cc) (hd : decode cc pc = .ok (.ifCond .le off, 3)) (ht : (pc : Int) + off = (tgt : Int)) (hk : rz_Ok G p l e R s m args below meth c Q nL nz0 (pc + 3) (k)) (hj : rz_Ok G p l e R s m args below meth c Q nL nz0 (tgt) (J j)) : rz_Ok G p l e R s m args below meth c Q nL nz0 (pc) (rz_if1B j k J Z) := by
  intro L S M h ls H locs hL hW hS h0
  replace h := rz_hd_t h
  obtain ⟨v, T, rfl, h⟩ := h
  obtain ⟨⟨x, ex⟩, -, h⟩ := rz_v_int G L 0 h
  rcases rz_if_t h with ⟨h1, h2⟩ | ⟨-, h⟩
  · rw [List.map_cons, ex]
    exact lv_if_le hx hb hd ht (fun _ => hj L T M h1 ls H locs hL hW hS h0) (fun _ => hk L T M h2 ls H locs hL hW hS h0)
  · cases h
theorem rz_icmpleB_ok {j tgt : Nat} {off : Int} (hx : p.tables.exec = Jvm.exec) (hb : c.code = cc) (hd : decode cc pc = .ok (.if_icmp .le off, 3)) (ht : (pc : Int) + off = (tgt : Int)) (hk : rz_Ok G p l e R s m args below meth c Q nL nz0 (pc + 3) (k)) (hj : rz_Ok G p l e R s m args below meth c Q nL nz0 (tgt) (J j)) : rz_Ok G p l e R s m args below meth c Q nL nz0 (pc) (rz_if2B j k J Z) := by
  intro L S M h ls H locs hL hW hS h0
  replace h := rz_hd_t h
  obtain ⟨b, T, rfl, h⟩ := h
  replace h := rz_hd_t h
  obtain ⟨a, U, rfl, h⟩ := h
  obtain ⟨⟨y, ey⟩, -, h⟩ := rz_v_int G L 0 h
  obtain ⟨⟨x, ex⟩, -, h⟩ := rz_v_int G L 0 h
  rcases rz_if_t h with ⟨h1, h2⟩ | ⟨-, h⟩
  · rw [List.map_cons, List.map_cons, ey, ex]
    exact lv_icmp_le hx hb hd ht (fun _ => hj L U M h1 ls H locs hL hW hS h0) (fun _ => hk L U M h2 ls H locs hL hW hS h0)
  · cases h
end RZB
