/-! The world with both texts open; a byte of an open word stored. -/
def lwF (B C x m0 : Nat) : rz_M := (((((((((((x, 0x17d404), (0x802, 0x41be004)), ((0x2004, 0x811002), (0xc04, 0))), (((0x7504, 0x1e104), (0x1504, 0)), ((0x3f604, 0x3e8004), (0x2b04, 0)))), ((((0x2b02, 0x3f604), (0x12c04, 0)), ((rv_3, 0xc804), (0x16804, 0))), (((0x3f604, 0x102202), (rv_5, 0)), ((0x1e004, 0x16804), (0x7504, 0))))), (((((0x2b04, 0x3f604), (0x5a302, 0x19004)), ((0x2ee304, 0x8ebe06), (0x16804, 0))), (((0x3f604, 0x2594002), (0x19004, 0)), ((0x12c04, 0xc04), (0x2904, 0)))), ((((0x7504, 0x3f606), (0x802, 0)), ((rv_10, 0x19004), (0x3a9804, 0))), (((0x17d404, 0x5e602), (rv_12, 0)), ((0x3f604, 0x16804), (0x3f604, 0)))))), ((((((0x2b04, 0xea004), (0xea02, 0x3e804)), ((0x190004, 0xf0802), (0xc04, 0))), (((0x7504, 0x102204), (0x19004, 0)), ((rv_16, 0x96006), (0x2c04, 0)))), ((((0x2804, 0x3a804), (0x3f6002, 0)), ((rv_17, 0x1602), (0x195002, 0))), (((0x3f604, 0x1e104), (0x5dfc004, 0)), ((0x2594002, 0x16804), (0x3f604, 0))))), (((((0x2b04, 0x2904), (0x802, 0xc04)), ((rv_19, 0x3f602), (0x16804, 0))), (((0x3f604, 0x50aa02), (0xc004, 0)), ((0xfa004, 0xc04), (0x7504, 0)))), ((((0x7504, 0x474c02), (0x2a02, 0)), ((0x17c404, 0x19004), (0x2b06, 0))), (((0x32004, 0x1e206), (0xc04, 0)), ((rv_22, 0x2b04), (0x3f604, 0))))))), (((((((rv_91, 0x3a804), (0x7ec02, 0x41be004)), ((0x3e8005, 0x97002), (0xc04, 0))), (((0x7504, 0x12e04), (rv_25, 0)), ((0x202, 0x190004), (0x10204, 0)))), ((((0x2804, 0x3a804), (0x7d0002, 0)), ((0x1007, 0x1602), (0x16804, 0))), (((0x3f604, 0x802), (0x12c004, 0)), ((0x1e004, 0x16804), (0x245404, 0))))), (((((0x2b04, 0x10204), (0xf002, 0x12c004)), ((rv_28, 0xd4802), (0x16804, 0))), (((0x3f604, 0xf0802), (0x19004, 0)), ((rv_30, 0xc04), (0x7504, 0)))), ((((0x7504, 0x17c404), (0xc805, 0)), ((rv_84, 0x19004), (0x2b04, 0))), (((rv_33, 0x1e104), (0xc04, 0)), ((0x1002, 0x195004), (0x3f604, 0)))))), ((((((0x2b04, 0x2004), (0x96002, 0xc804)), ((0x100004, 0x3f604), (0x16804, 0))), (((0x13a704, 0x97002), (0x19004, 0)), ((0x12c04, 0xc04), (0x2904, 0)))), ((((0x2804, 0x3f604), (0x3f604, 0)), ((rv_36, 0x1606), (m0, 0))), (((rv_38, 0x1e106), (0x3e804, 0)), ((0x9c4002, 0x16804), (0x3f604, 0))))), (((((0x20404, 0x2be04), (rv_40, 0)), ((0x5000000001, 0x7504), (0x16804, 0))), (((0x3f604, 0x811002), (0x4b004, 0)), ((rv_42, 0x16804), (0x7506, 0)))), ((((0x7504, 0x2002), (0x1504, 0)), ((0x7ec02, 0x19004), (0x2b04, 0))), (((0x32004, 0xe3d206), (0xc04, 0)), ((0x7504, 0x20404), (0x17d404, 0)))))))), ((((((((B, 0x17d404), (0x1e104, 0x41be004)), ((rv_92, 0x97002), (0xc04, 0))), (((0x7504, 0x12e04), (0x202, 0)), ((0x202, 0x2804), (0x10204, 0)))), ((((rv_46, 0x3a804), (0x7d0002, 0)), ((rv_47, 0x1602), (0x16804, 0))), (((0x3f604, 0x102206), (0x9004, 0)), ((0x1e004, 0x16804), (0x245404, 0))))), (((((0x2b04, 0x2b04), (0x402, 0x19004)), ((0x2ee304, 0xd4802), (0x16804, 0))), (((0x3f604, 0x14002), (0x19004, 0)), ((rv_50, 0xc04), (0x7504, 0)))), ((((0x7504, 0x3f604), (rv_52, 0)), ((rv_53, 0x19004), (0x2b04, 0))), (((0x17d404, 0x1e204), (rv_54, 0)), ((0x96802, 0x87004), (0x3f604, 0)))))), ((((((0x2b04, 0x2004), (0x5dc02, 0x3f6002)), ((0x190004, 0x3f606), (rv_57, 0))), (((0x2be04, 0x9132002), (0x19004, 0)), ((0x12c04, 0xc06), (0x2904, 0)))), ((((0x2804, 0x604), (0xf0002, 0)), ((rv_59, 0x1602), (0xa04, 0))), (((0x17c404, 0x7506), (0x3f6002, 0)), ((0x12c002, 0x16806), (0x3f604, 0))))), (((((0x2b04, 0x7504), (0x7504, 0xc04)), ((rv_60, 0x3f602), (0x16804, 0))), (((0x3f604, 0x50aa02), (0xc804, 0)), ((0xfa004, 0x9004), (0x7504, 0)))), ((((0x7504, 0x2002), (0x2a02, 0)), ((0x8e9802, 0x19004), (0x2b06, 0))), (((0x32004, 0xe3d206), (0xc04, 0)), ((0x1e004, 0x2b04), (0x3f604, 0))))))), (((((((rv_63, 0xea004), (0x7ec02, 0x41be004)), ((0x190004, 0x3f6002), (0xc04, 0))), (((0x7504, 0x12f04), (rv_65, 0)), ((rv_66, 0x96004), (0x2c04, 0)))), ((((0x2804, 0x3a804), (0x7d0002, 0)), ((rv_68, 0x1604), (0x87004, 0))), (((0x3f604, 0x1e104), (0x20404, 0)), ((0x8ca0002, 0x16804), (0x245406, 0))))), (((((0x2b04, 0x73906), (0xd2002, 0x9004)), ((0x1007, 0xf0802), (0x16804, 0))), (((0x3f604, 0x5a3002), (0x3ea802, 0)), ((0xfa004, 0xc04), (0x7504, 0)))), ((((0x7504, 0x474c02), (0x202, 0)), ((rv_72, 0x19004), (0x2b06, 0))), (((0x32004, 0x96a02), (0xc04, 0)), ((0x1204, 0x195004), (0x3f604, 0)))))), ((((((0x2b04, 0x3f604), (0x38402, 0x19004)), ((0x2ee304, 0x7504), (0x16804, 0))), (((rv_75, 0x97002), (0x19004, 0)), ((0x12c04, 0xc06), (0x2904, 0)))), ((((rv_76, 0x3f604), (0x3f604, 0)), ((0x5900000001, 0x1604), (C, 0))), (((0x17d404, 0x1e106), (0x3e804, 0)), ((0xfa102, 0x16806), (0x3f604, 0))))), (((((0x2b02, 0x3f604), (0x12c002, 0)), ((rv_78, 0x7804), (0x16804, 0))), (((0x3f604, 0x96502), (0x2b04, 0)), ((0x1e004, 0x16804), (0x7604, 0)))), ((((0x7504, 0x1e104), (0x1504, 0)), ((0x1204, 0x12c004), (0x2b04, 0))), (((0x32004, 0x811002), (0xc04, 0)), ((0x802, 0x2efe004), (0x17d404, 0))))))))) : rz_T 9), 398, 0)
noncomputable def rz_exK (L : rz_L) (F : Nat → rz_M) (hd : Nat) : rz_K := fun L' S' M' => @ite Bool (L' = L ∧ S' = [] ∧ ∃ B', rz_head B' = hd ∧ M' = F B') (Classical.propDecidable _) true false
theorem rz_exK_t {L L' S' : rz_L} {F : Nat → rz_M} {hd : Nat} {M' : rz_M} (h : rz_exK L F hd L' S' M' = true) : L' = L ∧ S' = [] ∧ ∃ B', rz_head B' = hd ∧ M' = F B' := by
  unfold rz_exK at h
  split at h
  · assumption
  · cases h
theorem rz_exK_i {L : rz_L} {F : Nat → rz_M} {hd B' : Nat} (h : rz_head B' = hd) : rz_exK L F hd L [] (F B') = true := by
  unfold rz_exK
  exact if_pos ⟨rfl, rfl, B', h, rfl⟩
theorem rz_stX {u n : Nat} {L : rz_L} {B C x m0 : Nat} (hB : rz_head B = 3072005) (hn : n < 12000) (hu : u ≤ 255) {K : rz_K} (hK : ∀ B', rz_head B' = 3072005 → K L [] (lwF B' C x m0) = true) (J : rz_J) (Z : rz_Z) : rz_cast K J Z L [rz_i u, rz_i n, rz_r 2] (lwF B C x m0) = true := by
  show rz_if (Nat.ble u 65535) (rz_if (Nat.beq (Nat.mod (rz_head B) 256) 5) (rz_if (Nat.ble (Nat.div (rz_head B) 256) n) false (rz_F (rz_p B (Nat.add 32 (Nat.mul 32 n)) (rz_g32 B n) u) (fun B' => K L [] (lwF B' C x m0)))) false) false = true
  rw [hB, rz_F_eq, rz_ble.1.mpr (show u ≤ 65535 by omega)]
  show rz_if (Nat.ble 12000 n) false (K L [] _) = true
  rw [rz_ble.2.mpr (show ¬ 12000 ≤ n by omega)]
  exact hK _ ((rz_p_head (w := 32) (j := n) (by omega) (rz_g32_eq B n)).trans hB)
theorem rz_ehX {u n : Nat} {L : rz_L} {B C x m0 : Nat} (hB : rz_head B = 3072005) (hn : n < 12000) {K : rz_K} (hK : ∀ B', rz_head B' = 3072005 → K L [] (lwF B' C x m0) = true) (J : rz_J) (Z : rz_Z) : rz_cst 255 (rz_iand (rz_i2c (rz_cast K J Z) J Z) J Z) J Z L [rz_i u, rz_i n, rz_r 2] (lwF B C x m0) = true := by
  show rz_F (Nat.land u 255) (fun z => rz_F (Nat.mod z 65536) (fun z => rz_cast K J Z L [rz_i z, rz_i n, rz_r 2] (lwF B C x m0))) = true
  rw [rz_F_eq, rz_F_eq]
  exact rz_stX hB hn (Nat.le_trans (Nat.mod_le _ _) Nat.and_le_right) hK J Z
theorem rz_stM {u n : Nat} {L : rz_L} {B C x m0 : Nat} (hB : rz_head C = 3072004) (hn : n < 12000) (hu : u ≤ 255) {K : rz_K} (hK : ∀ C', rz_head C' = 3072004 → K L [] (lwF B C' x m0) = true) (J : rz_J) (Z : rz_Z) : rz_iast K J Z L [rz_i u, rz_i n, rz_r 216] (lwF B C x m0) = true := by
  show rz_if (Nat.beq (Nat.mod (rz_head C) 256) 4) (rz_if (Nat.ble (Nat.div (rz_head C) 256) n) false (rz_F (rz_p C (Nat.add 32 (Nat.mul 32 n)) (rz_g32 C n) (Nat.mod u 4294967296)) (fun C' => K L [] (lwF B C' x m0)))) false = true
  rw [hB, rz_F_eq]
  show rz_if (Nat.ble 12000 n) false (K L [] _) = true
  rw [rz_ble.2.mpr (show ¬ 12000 ≤ n by omega)]
  exact hK _ ((rz_p_head (w := 32) (j := n) (Nat.mod_lt _ (by decide)) (rz_g32_eq C n)).trans hB)
theorem rz_ehM {u n : Nat} {L : rz_L} {B C x m0 : Nat} (hB : rz_head C = 3072004) (hn : n < 12000) {K : rz_K} (hK : ∀ C', rz_head C' = 3072004 → K L [] (lwF B C' x m0) = true) (J : rz_J) (Z : rz_Z) : rz_cst 255 (rz_iand (rz_iast K J Z) J Z) J Z L [rz_i u, rz_i n, rz_r 216] (lwF B C x m0) = true := by
  show rz_F (Nat.land u 255) (fun z => rz_iast K J Z L [rz_i z, rz_i n, rz_r 216] (lwF B C x m0)) = true
  rw [rz_F_eq]
  exact rz_stM hB hn Nat.and_le_right hK J Z
section RZO
variable {G : rz_G} {p : Program} {l : Launch} {e : Env} {R : Room} {s : State} {m : MethodId} {args : Array Value} {below : List Frame} {meth : Method} {c : Code} {Q : State → Prop} {nL pc : Nat} {nz0 : Nat × Nat} {cc : ByteArray}
theorem rz_ostX {sh q n : Nat} {L : rz_L} {B C x m0 : Nat} (hx : p.tables.exec = Jvm.exec) (hb : c.code = cc) (hK : va_K (rz_D G) (rz_cl G) (rz_tys G) s) (hA : rz_A G) (hd1 : decode cc pc = .ok (.iushr, 1)) (hd2 : decode cc (pc + 1) = .ok (.sipush 255, 3)) (hd3 : decode cc (pc + 1 + 3) = .ok (.iand, 1)) (hd4 : decode cc (pc + 1 + 3 + 1) = .ok (.i2c, 1)) (hd5 : decode cc (pc + 1 + 3 + 1 + 1) = .ok (.castore, 1)) (hB : rz_head B = 3072005) (hn : n < 12000) (hk : ∀ B', rz_head B' = 3072005 → rz_Ok G p l e R s m args below meth c Q nL nz0 (pc + 1 + 3 + 1 + 1 + 1) (rz_eqK L [] (lwF B' C x m0))) : rz_Ok G p l e R s m args below meth c Q nL nz0 pc (rz_eqK L [rz_i sh, rz_y (q + 1), rz_i n, rz_r 2] (lwF B C x m0)) := by
  have h6 : rz_Ok G p l e R s m args below meth c Q nL nz0 (pc + 1 + 3 + 1 + 1 + 1) (rz_exK L (fun B' => lwF B' C x m0) 3072005) := fun L0 S0 M0 h => by
    obtain ⟨rfl, rfl, B1, hB1, rfl⟩ := rz_exK_t h
    exact hk B1 hB1 _ _ _ (rz_eqK_r _ _ _)
  have h5 := rz_cast_ok (J := fun _ _ _ _ => false) (Z := fun _ _ => false) hx hb hK hA hd5 h6
  have h4 := rz_i2c_ok (J := fun _ _ _ _ => false) (Z := fun _ _ => false) hx hb hd4 h5
  have h3 := rz_iand_ok (J := fun _ _ _ _ => false) (Z := fun _ _ => false) hx hb hd3 h4
  have h2 := rz_sipush_ok (n := 255) (J := fun _ _ _ _ => false) (Z := fun _ _ => false) hx hb hd2 (by decide) h3
  intro L0 S0 M0 h ls H locs hL hW hS h0
  obtain ⟨rfl, rfl, rfl⟩ := rz_eqK_t h
  refine lv_iushr (x := rz_xs G q) (y := nI sh) hx hb hd1 rfl ?_
  generalize ((rz_xs G q).toUInt32 >>> ((nI sh).toUInt32 &&& Int32.toUInt32 31)).toInt32 = v
  have hz := h2 L0 [rz_i v.toBitVec.toNat, rz_i n, rz_r 2] (lwF B C x m0) (rz_ehX hB hn (fun _ q => rz_exK_i (F := fun B' => lwF B' C x m0) q) _ _) ls H locs hL hW hS h0
  rw [List.map_cons, show rz_v G (rz_i v.toBitVec.toNat) = .int v from congrArg Value.int (lw_nI v)] at hz
  exact hz
theorem rz_ostM {sh q n : Nat} {L : rz_L} {B C x m0 : Nat} (hx : p.tables.exec = Jvm.exec) (hb : c.code = cc) (hK : va_K (rz_D G) (rz_cl G) (rz_tys G) s) (hA : rz_A G) (hd1 : decode cc pc = .ok (.ishr, 1)) (hd2 : decode cc (pc + 1) = .ok (.sipush 255, 3)) (hd3 : decode cc (pc + 1 + 3) = .ok (.iand, 1)) (hd5 : decode cc (pc + 1 + 3 + 1) = .ok (.iastore, 1)) (hB : rz_head C = 3072004) (hn : n < 12000) (hk : ∀ C', rz_head C' = 3072004 → rz_Ok G p l e R s m args below meth c Q nL nz0 (pc + 1 + 3 + 1 + 1) (rz_eqK L [] (lwF B C' x m0))) : rz_Ok G p l e R s m args below meth c Q nL nz0 pc (rz_eqK L [rz_i sh, rz_y (q + 1), rz_i n, rz_r 216] (lwF B C x m0)) := by
  have h6 : rz_Ok G p l e R s m args below meth c Q nL nz0 (pc + 1 + 3 + 1 + 1) (rz_exK L (fun C' => lwF B C' x m0) 3072004) := fun L0 S0 M0 h => by
    obtain ⟨rfl, rfl, B1, hB1, rfl⟩ := rz_exK_t h
    exact hk B1 hB1 _ _ _ (rz_eqK_r _ _ _)
  have h5 := rz_iast_ok (J := fun _ _ _ _ => false) (Z := fun _ _ => false) hx hb hK hA hd5 h6
  have h3 := rz_iand_ok (J := fun _ _ _ _ => false) (Z := fun _ _ => false) hx hb hd3 h5
  have h2 := rz_sipush_ok (n := 255) (J := fun _ _ _ _ => false) (Z := fun _ _ => false) hx hb hd2 (by decide) h3
  intro L0 S0 M0 h ls H locs hL hW hS h0
  obtain ⟨rfl, rfl, rfl⟩ := rz_eqK_t h
  refine lv_ishr (x := rz_xs G q) (y := nI sh) hx hb hd1 ?_
  generalize rz_xs G q >>> (nI sh &&& 31) = v
  have hz := h2 L0 [rz_i v.toBitVec.toNat, rz_i n, rz_r 216] (lwF B C x m0) (rz_ehM hB hn (fun _ q => rz_exK_i (F := fun C' => lwF B C' x m0) q) _ _) ls H locs hL hW hS h0
  rw [List.map_cons, show rz_v G (rz_i v.toBitVec.toNat) = .int v from congrArg Value.int (lw_nI v)] at hz
  exact hz
end RZO
