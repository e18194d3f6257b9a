/-! Handlers of arrays. -/
theorem rz_head_lt (B : Nat) : rz_head B / 256 < 2 ^ 31 := by
  have : rz_head B < 4294967296 := Nat.mod_lt B (by decide)
  omega
theorem rz_e2 (G : rz_G) {hd B : Nat} (h : hd % 256 = 2) : rz_e G hd B = .inl (rz_tc G 2, hd / 256, .inr (.inl (fun j => lN (rz_g64 B j)))) := by
  unfold rz_e
  rw [h]
  rfl
theorem rz_e3 (G : rz_G) {hd B : Nat} (h : hd % 256 = 3) : rz_e G hd B = .inl (rz_tc G 3, hd / 256, .inr (.inr (.inr (.inr (fun j => rz_rf (rz_ad G) (rz_g16 B j)))))) := by
  unfold rz_e
  rw [h]
  rfl
theorem rz_ek (G : rz_G) {hd B k : Nat} (h : hd % 256 = k) (h4 : 4 ≤ k) : rz_e G hd B = .inl (rz_tc G k, hd / 256, .inl (fun j => nI (rz_g32 B j))) := by
  unfold rz_e
  rw [h]
  obtain ⟨j, rfl⟩ : ∃ j, k = j + 4 := ⟨k - 4, by omega⟩
  rfl
theorem rz_in {B x : Nat} (h : ¬ rz_head B / 256 ≤ x) : vp_in (nI x) (rz_head B / 256) := vp_in_nI (by omega) (rz_head_lt B)
theorem rz_clm {B x : Nat} (h : ¬ rz_head B / 256 ≤ x) : (nI x).toNatClampNeg = x := nI_clamp (by have := rz_head_lt B; omega)
theorem rz_head32 {B j x : Nat} (hx : x < 2 ^ 32) : rz_head (rz_p B (Nat.add 32 (Nat.mul 32 j)) (rz_g32 B j) x) = rz_head B := rz_p_head (w := 32) hx (rz_g32_eq B j)
theorem rz_lane32 {B j x : Nat} (hx : x < 2 ^ 32) (i : Nat) : rz_g32 (rz_p B (Nat.add 32 (Nat.mul 32 j)) (rz_g32 B j) x) i = if i = j then x else rz_g32 B i := by
  rw [rz_g32_eq, rz_g32_eq B i]
  exact rz_p_lane (i := i) (j := j) hx (rz_g32_eq B j)
theorem rz_lane64 {B j x : Nat} (hx : x < 2 ^ 64) (i : Nat) : rz_g64 (rz_p B (Nat.add 32 (Nat.mul 64 j)) (rz_g64 B j) x) i = if i = j then x else rz_g64 B i := by
  rw [rz_g64_eq, rz_g64_eq B i]
  exact rz_p_lane (i := i) (j := j) hx (rz_g64_eq B j)
theorem rz_b_ad {G : rz_G} (hA : rz_A G) {q : Nat} (hq : q < 512) : rz_b G ≤ rz_ad G q := by
  rw [hA q hq]
  omega
noncomputable def rz_ald (kd : Nat) (gl : Nat → Nat → Nat) (mk : Nat → rz_V) : rz_B := fun k _ _ L S M => rz_hd S (fun i T => rz_hd T (fun o U => rz_int i (fun x => rz_ref o (fun q => rz_mm M (fun g nz => rz_get 9 g q (fun B => rz_if (Nat.beq (Nat.mod (rz_head B) 256) kd) (rz_if (Nat.ble (Nat.div (rz_head B) 256) x) false (rz_F (gl B x) (fun z => k L (mk z :: U) (g, nz)))) false))))))
noncomputable def rz_ast (kd : Nat) (un : rz_V → (Nat → Bool) → Bool) (gl : Nat → Nat → Nat) (wd : Nat) : rz_B := fun k _ _ L S M => rz_hd S (fun v R => un v (fun y => rz_hd R (fun i T => rz_hd T (fun o U => rz_int i (fun x => rz_ref o (fun q => rz_mm M (fun g nz => rz_get 9 g q (fun B => rz_if (Nat.beq (Nat.mod (rz_head B) 256) kd) (rz_if (Nat.ble (Nat.div (rz_head B) 256) x) false (rz_F (rz_p B (Nat.add 32 (Nat.mul wd x)) (gl B x) y) (fun C => rz_upd 9 g q C (fun g' => k L U (g', nz))))) false))))))))
noncomputable def rz_alen : rz_B := fun k _ _ L S M => rz_hd S (fun o U => rz_ref o (fun q => rz_mm M (fun g nz => rz_get 9 g q (fun B => rz_if (Nat.ble 2 (Nat.mod (rz_head B) 256)) (rz_if (Nat.ble (Nat.mod (rz_head B) 256) 7) (rz_F (Nat.div (rz_head B) 256) (fun z => k L (rz_i z :: U) (g, nz))) false) false))))
section RZR
variable {G : rz_G} {p : Program} {l : Launch} {e : Env} {R : Room} {s : State} {m : MethodId} {args : Array Value} {below : List Frame} {meth : Method} {c : Code} {Q : State → Prop} {nL pc : Nat} {nz0 : Nat × Nat} {cc : ByteArray} {k : rz_K} {J : rz_J} {Z : rz_Z}
noncomputable def rz_iald : rz_B := rz_ald 4 rz_g32 rz_i
theorem rz_iald_ok (hx : p.tables.exec = Jvm.exec) (hb : c.code = cc) (hK : va_K (rz_D G) (rz_cl G) (rz_tys G) s) (hd : decode cc pc = .ok (.iaload, 1)) (hk : rz_Ok G p l e R s m args below meth c Q nL nz0 (pc + 1) (k)) : rz_Ok G p l e R s m args below meth c Q nL nz0 (pc) (rz_iald k J Z) := by
  intro L S M h ls H locs hL hW hS h0
  replace h := rz_hd_t h
  obtain ⟨i, T1, rfl, h⟩ := h
  replace h := rz_hd_t h
  obtain ⟨o, U, rfl, h⟩ := h
  replace h := rz_int_t h
  obtain ⟨x, rfl, h⟩ := h
  replace h := rz_ref_t h
  obtain ⟨q, rfl, h⟩ := h
  replace h := rz_mm_t h
  obtain ⟨g, nz, rfl, h⟩ := h
  obtain ⟨hq, h⟩ := rz_get_t 9 h
  rcases rz_if_t h with ⟨hh, h⟩ | ⟨-, h⟩
  · rcases rz_if_t h with ⟨-, h⟩ | ⟨hn, h⟩
    · cases h
    · have hh := rz_beq.1.mp hh
      have hn : ¬ rz_head (rz_gt 9 g q) / 256 ≤ x := rz_ble.2.mp hn
      have hh : rz_head (rz_gt 9 g q) % 256 = 4 := hh
      have hlt := rz_wd_lt hW hq (by intro z; rw [z] at hh; cases hh)
      have hat := rz_den_at (G := G) (h := g) hlt
      rw [rz_ek G hh (by decide)] at hat
      rw [rz_F_eq] at h
      have hz := hk L (rz_i (rz_g32 (rz_gt 9 g q) x) :: U) (g, nz) h ls H locs hL hW hS h0
      refine va_iald hx hb hK hW.2.2.2 q 2 hat rfl (rz_in hn) hd ?_
      rw [rz_clm hn]
      exact hz
  · cases h
noncomputable def rz_cald : rz_B := rz_ald 5 rz_g32 rz_i
theorem rz_cald_ok (hx : p.tables.exec = Jvm.exec) (hb : c.code = cc) (hK : va_K (rz_D G) (rz_cl G) (rz_tys G) s) (hd : decode cc pc = .ok (.caload, 1)) (hk : rz_Ok G p l e R s m args below meth c Q nL nz0 (pc + 1) (k)) : rz_Ok G p l e R s m args below meth c Q nL nz0 (pc) (rz_cald k J Z) := by
  intro L S M h ls H locs hL hW hS h0
  replace h := rz_hd_t h
  obtain ⟨i, T1, rfl, h⟩ := h
  replace h := rz_hd_t h
  obtain ⟨o, U, rfl, h⟩ := h
  replace h := rz_int_t h
  obtain ⟨x, rfl, h⟩ := h
  replace h := rz_ref_t h
  obtain ⟨q, rfl, h⟩ := h
  replace h := rz_mm_t h
  obtain ⟨g, nz, rfl, h⟩ := h
  obtain ⟨hq, h⟩ := rz_get_t 9 h
  rcases rz_if_t h with ⟨hh, h⟩ | ⟨-, h⟩
  · rcases rz_if_t h with ⟨-, h⟩ | ⟨hn, h⟩
    · cases h
    · have hh := rz_beq.1.mp hh
      have hn : ¬ rz_head (rz_gt 9 g q) / 256 ≤ x := rz_ble.2.mp hn
      have hh : rz_head (rz_gt 9 g q) % 256 = 5 := hh
      have hlt := rz_wd_lt hW hq (by intro z; rw [z] at hh; cases hh)
      have hat := rz_den_at (G := G) (h := g) hlt
      rw [rz_ek G hh (by decide)] at hat
      rw [rz_F_eq] at h
      have hz := hk L (rz_i (rz_g32 (rz_gt 9 g q) x) :: U) (g, nz) h ls H locs hL hW hS h0
      refine va_cald hx hb hK hW.2.2.2 q 3 hat rfl (rz_in hn) hd ?_
      rw [rz_clm hn]
      exact hz
  · cases h
noncomputable def rz_zald : rz_B := rz_ald 6 rz_g32 rz_i
theorem rz_zald_ok (hx : p.tables.exec = Jvm.exec) (hb : c.code = cc) (hK : va_K (rz_D G) (rz_cl G) (rz_tys G) s) (hd : decode cc pc = .ok (.baload, 1)) (hk : rz_Ok G p l e R s m args below meth c Q nL nz0 (pc + 1) (k)) : rz_Ok G p l e R s m args below meth c Q nL nz0 (pc) (rz_zald k J Z) := by
  intro L S M h ls H locs hL hW hS h0
  replace h := rz_hd_t h
  obtain ⟨i, T1, rfl, h⟩ := h
  replace h := rz_hd_t h
  obtain ⟨o, U, rfl, h⟩ := h
  replace h := rz_int_t h
  obtain ⟨x, rfl, h⟩ := h
  replace h := rz_ref_t h
  obtain ⟨q, rfl, h⟩ := h
  replace h := rz_mm_t h
  obtain ⟨g, nz, rfl, h⟩ := h
  obtain ⟨hq, h⟩ := rz_get_t 9 h
  rcases rz_if_t h with ⟨hh, h⟩ | ⟨-, h⟩
  · rcases rz_if_t h with ⟨-, h⟩ | ⟨hn, h⟩
    · cases h
    · have hh := rz_beq.1.mp hh
      have hn : ¬ rz_head (rz_gt 9 g q) / 256 ≤ x := rz_ble.2.mp hn
      have hh : rz_head (rz_gt 9 g q) % 256 = 6 := hh
      have hlt := rz_wd_lt hW hq (by intro z; rw [z] at hh; cases hh)
      have hat := rz_den_at (G := G) (h := g) hlt
      rw [rz_ek G hh (by decide)] at hat
      rw [rz_F_eq] at h
      have hz := hk L (rz_i (rz_g32 (rz_gt 9 g q) x) :: U) (g, nz) h ls H locs hL hW hS h0
      refine va_zald hx hb hK hW.2.2.2 q 4 hat rfl (rz_in hn) hd ?_
      rw [rz_clm hn]
      exact hz
  · cases h
noncomputable def rz_bald : rz_B := rz_ald 7 rz_g32 rz_i
theorem rz_bald_ok (hx : p.tables.exec = Jvm.exec) (hb : c.code = cc) (hK : va_K (rz_D G) (rz_cl G) (rz_tys G) s) (hd : decode cc pc = .ok (.baload, 1)) (hk : rz_Ok G p l e R s m args below meth c Q nL nz0 (pc + 1) (k)) : rz_Ok G p l e R s m args below meth c Q nL nz0 (pc) (rz_bald k J Z) := by
  intro L S M h ls H locs hL hW hS h0
  replace h := rz_hd_t h
  obtain ⟨i, T1, rfl, h⟩ := h
  replace h := rz_hd_t h
  obtain ⟨o, U, rfl, h⟩ := h
  replace h := rz_int_t h
  obtain ⟨x, rfl, h⟩ := h
  replace h := rz_ref_t h
  obtain ⟨q, rfl, h⟩ := h
  replace h := rz_mm_t h
  obtain ⟨g, nz, rfl, h⟩ := h
  obtain ⟨hq, h⟩ := rz_get_t 9 h
  rcases rz_if_t h with ⟨hh, h⟩ | ⟨-, h⟩
  · rcases rz_if_t h with ⟨-, h⟩ | ⟨hn, h⟩
    · cases h
    · have hh := rz_beq.1.mp hh
      have hn : ¬ rz_head (rz_gt 9 g q) / 256 ≤ x := rz_ble.2.mp hn
      have hh : rz_head (rz_gt 9 g q) % 256 = 7 := hh
      have hlt := rz_wd_lt hW hq (by intro z; rw [z] at hh; cases hh)
      have hat := rz_den_at (G := G) (h := g) hlt
      rw [rz_ek G hh (by decide)] at hat
      rw [rz_F_eq] at h
      have hz := hk L (rz_i (rz_g32 (rz_gt 9 g q) x) :: U) (g, nz) h ls H locs hL hW hS h0
      refine va_bald hx hb hK hW.2.2.2 q 5 hat rfl (rz_in hn) hd ?_
      rw [rz_clm hn]
      exact hz
  · cases h
noncomputable def rz_lald : rz_B := rz_ald 2 rz_g64 rz_l
theorem rz_lald_ok (hx : p.tables.exec = Jvm.exec) (hb : c.code = cc) (hK : va_K (rz_D G) (rz_cl G) (rz_tys G) s) (hd : decode cc pc = .ok (.laload, 1)) (hk : rz_Ok G p l e R s m args below meth c Q nL nz0 (pc + 1) (k)) : rz_Ok G p l e R s m args below meth c Q nL nz0 (pc) (rz_lald k J Z) := by
  intro L S M h ls H locs hL hW hS h0
  replace h := rz_hd_t h
  obtain ⟨i, T1, rfl, h⟩ := h
  replace h := rz_hd_t h
  obtain ⟨o, U, rfl, h⟩ := h
  replace h := rz_int_t h
  obtain ⟨x, rfl, h⟩ := h
  replace h := rz_ref_t h
  obtain ⟨q, rfl, h⟩ := h
  replace h := rz_mm_t h
  obtain ⟨g, nz, rfl, h⟩ := h
  obtain ⟨hq, h⟩ := rz_get_t 9 h
  rcases rz_if_t h with ⟨hh, h⟩ | ⟨-, h⟩
  · rcases rz_if_t h with ⟨-, h⟩ | ⟨hn, h⟩
    · cases h
    · have hh := rz_beq.1.mp hh
      have hn : ¬ rz_head (rz_gt 9 g q) / 256 ≤ x := rz_ble.2.mp hn
      have hh : rz_head (rz_gt 9 g q) % 256 = 2 := hh
      have hlt := rz_wd_lt hW hq (by intro z; rw [z] at hh; cases hh)
      have hat := rz_den_at (G := G) (h := g) hlt
      rw [rz_e2 G hh] at hat
      rw [rz_F_eq] at h
      have hz := hk L (rz_l (rz_g64 (rz_gt 9 g q) x) :: U) (g, nz) h ls H locs hL hW hS h0
      refine va_lald hx hb hK hW.2.2.2 q 0 hat rfl (rz_in hn) hd ?_
      rw [rz_clm hn]
      exact hz
  · cases h
noncomputable def rz_aald : rz_B := rz_ald 3 rz_g16 rz_r
theorem rz_aald_ok (hx : p.tables.exec = Jvm.exec) (hb : c.code = cc) (hK : va_K (rz_D G) (rz_cl G) (rz_tys G) s) (hd : decode cc pc = .ok (.aaload, 1)) (hk : rz_Ok G p l e R s m args below meth c Q nL nz0 (pc + 1) (k)) : rz_Ok G p l e R s m args below meth c Q nL nz0 (pc) (rz_aald k J Z) := by
  intro L S M h ls H locs hL hW hS h0
  replace h := rz_hd_t h
  obtain ⟨i, T1, rfl, h⟩ := h
  replace h := rz_hd_t h
  obtain ⟨o, U, rfl, h⟩ := h
  replace h := rz_int_t h
  obtain ⟨x, rfl, h⟩ := h
  replace h := rz_ref_t h
  obtain ⟨q, rfl, h⟩ := h
  replace h := rz_mm_t h
  obtain ⟨g, nz, rfl, h⟩ := h
  obtain ⟨hq, h⟩ := rz_get_t 9 h
  rcases rz_if_t h with ⟨hh, h⟩ | ⟨-, h⟩
  · rcases rz_if_t h with ⟨-, h⟩ | ⟨hn, h⟩
    · cases h
    · have hh := rz_beq.1.mp hh
      have hn : ¬ rz_head (rz_gt 9 g q) / 256 ≤ x := rz_ble.2.mp hn
      have hh : rz_head (rz_gt 9 g q) % 256 = 3 := hh
      have hlt := rz_wd_lt hW hq (by intro z; rw [z] at hh; cases hh)
      have hat := rz_den_at (G := G) (h := g) hlt
      rw [rz_e3 G hh] at hat
      rw [rz_F_eq] at h
      have hz := hk L (rz_r (rz_g16 (rz_gt 9 g q) x) :: U) (g, nz) h ls H locs hL hW hS h0
      refine W.aald (v := va_rf (rz_rf (rz_ad G) (rz_g16 (rz_gt 9 g q) x))) (ty := .array .int) hx hb (hW.2.2.2 q _ hat) ((hK.2 1 _ rfl).1 _ (fun j => va_rf (rz_rf (rz_ad G) (rz_g16 (rz_gt 9 g q) j)))) rfl (fun z => by cases z) (by show ¬ (_ ∨ (arrV _ _ _).slots.size ≤ _); rw [arrV_size]; exact rz_in hn) (by show (arrV _ _ _).slots[_]? = _; rw [rz_clm hn, arrV_read _ _ (Nat.lt_of_not_le hn)]) rfl rfl hd hz
  · cases h
noncomputable def rz_un32 (v : rz_V) (k : Nat → Bool) : Bool := rz_int v (fun x => k (Nat.mod x 4294967296))
noncomputable def rz_un16 (v : rz_V) (k : Nat → Bool) : Bool := rz_int v (fun x => rz_if (Nat.ble x 65535) (k x) false)
noncomputable def rz_un1 (v : rz_V) (k : Nat → Bool) : Bool := rz_int v (fun x => rz_if (Nat.ble x 1) (k x) false)
noncomputable def rz_un64 (v : rz_V) (k : Nat → Bool) : Bool := rz_lng v (fun x => k (Nat.mod x 18446744073709551616))
theorem rz_un32_t {G : rz_G} (v : rz_V) (k : Nat → Bool) (h : rz_un32 v k = true) : ∃ y, k y = true ∧ rz_v G v = .int (nI y) ∧ y < 2 ^ 32 := by
  obtain ⟨x, rfl, h⟩ := rz_int_t h
  exact ⟨_, h, by show Value.int (nI x) = .int (nI (x % 4294967296)); rw [rz_nI_mod], Nat.mod_lt x (by decide)⟩
theorem rz_un16_t {G : rz_G} (v : rz_V) (k : Nat → Bool) (h : rz_un16 v k = true) : ∃ y, k y = true ∧ rz_v G v = .int (nI y) ∧ y < 65536 := by
  obtain ⟨x, rfl, h⟩ := rz_int_t h
  rcases rz_if_t h with ⟨g, h⟩ | ⟨-, h⟩
  · exact ⟨x, h, rfl, by have := rz_ble.1.mp g; omega⟩
  · cases h
theorem rz_un1_t {G : rz_G} (v : rz_V) (k : Nat → Bool) (h : rz_un1 v k = true) : ∃ y, k y = true ∧ rz_v G v = .int (nI y) ∧ y < 2 := by
  obtain ⟨x, rfl, h⟩ := rz_int_t h
  rcases rz_if_t h with ⟨g, h⟩ | ⟨-, h⟩
  · exact ⟨x, h, rfl, by have := rz_ble.1.mp g; omega⟩
  · cases h
theorem rz_un64_t {G : rz_G} (v : rz_V) (k : Nat → Bool) (h : rz_un64 v k = true) : ∃ y, k y = true ∧ rz_v G v = .long (lN y) ∧ y < 2 ^ 64 := by
  obtain ⟨x, rfl, h⟩ := rz_lng_t h
  exact ⟨_, h, by show Value.long (lN x) = .long (lN (x % 18446744073709551616)); rw [rz_lN_mod], Nat.mod_lt x (by decide)⟩
theorem rz_nar16 {y : Nat} (h : y < 65536) : narrow .char (.int (nI y)) = .int (nI y) := by
  show Value.int ((nI y).toUInt32.toUInt16.toUInt32.toInt32) = _
  congr 1
  apply rz_nI_ext
  show (((BitVec.ofNat 32 y).setWidth 16).setWidth 32).toNat = y % 4294967296
  simp only [BitVec.toNat_setWidth, BitVec.toNat_ofNat]
  omega
theorem rz_nar1 {y : Nat} (h : y < 2) : narrow .boolean (.int (nI y)) = .int (nI y) := by
  have : y = 0 ∨ y = 1 := by omega
  rcases this with rfl | rfl <;> rfl
noncomputable def rz_iast : rz_B := rz_ast 4 rz_un32 rz_g32 32
theorem rz_iast_ok (hx : p.tables.exec = Jvm.exec) (hb : c.code = cc) (hK : va_K (rz_D G) (rz_cl G) (rz_tys G) s) (hA : rz_A G) (hd : decode cc pc = .ok (.iastore, 1)) (hk : rz_Ok G p l e R s m args below meth c Q nL nz0 (pc + 1) (k)) : rz_Ok G p l e R s m args below meth c Q nL nz0 (pc) (rz_iast k J Z) := by
  intro L S M h ls H locs hL hW hS h0
  have hun := rz_un32_t (G := G)
  replace h := rz_hd_t h
  obtain ⟨v, R1, rfl, h⟩ := h
  replace h := hun v _ h
  obtain ⟨y, h, hvy, hy⟩ := h
  replace h := rz_hd_t h
  obtain ⟨i, T1, rfl, h⟩ := h
  replace h := rz_hd_t h
  obtain ⟨o, U, rfl, h⟩ := h
  replace h := rz_int_t h
  obtain ⟨x, rfl, h⟩ := h
  replace h := rz_ref_t h
  obtain ⟨q, rfl, h⟩ := h
  replace h := rz_mm_t h
  obtain ⟨g, nz, rfl, h⟩ := h
  obtain ⟨hq, h⟩ := rz_get_t 9 h
  rcases rz_if_t h with ⟨hh, h⟩ | ⟨-, h⟩
  · rcases rz_if_t h with ⟨-, h⟩ | ⟨hn, h⟩
    · cases h
    · have hh := rz_beq.1.mp hh
      have hn : ¬ rz_head (rz_gt 9 g q) / 256 ≤ x := rz_ble.2.mp hn
      have hh : rz_head (rz_gt 9 g q) % 256 = 4 := hh
      have hlt := rz_wd_lt hW hq (by intro z; rw [z] at hh; cases hh)
      have hat := rz_den_at (G := G) (h := g) hlt
      rw [rz_ek G hh (by decide)] at hat
      rw [rz_F_eq, rz_upd_eq] at h
      have hy32 : y < 2 ^ 32 := hy
      have hq5 : q < 512 := hq
      rw [List.map_cons, hvy]
      refine W.iast hx hb (hW.2.2.2 q _ hat) ((hK.2 2 _ rfl).1 _ (fun j => .int (nI (rz_g32 (rz_gt 9 g q) j)))) (fun z => by cases z) (by show ¬ (_ ∨ (arrV _ _ _).slots.size ≤ _); rw [arrV_size]; exact rz_in hn) rfl rfl hd (fun H1 e1 ez eo => ?_)
      
      have hwd := rz_wd_set hA hW hlt (C := rz_p (rz_gt 9 g q) (Nat.add 32 (Nat.mul 32 x)) (rz_g32 (rz_gt 9 g q) x) y) (H1 := H1) (by
        rw [rz_head32 hy32, rz_ek G hh (by decide)]
        refine e1.trans (congrArg some ?_)
        dsimp only
        rw [vp_cell_i, vp_cell_i, arrV_store, rz_clm hn]
        refine congrArg (arrV _ _) (funext fun j => ?_)
        show (if j = x then Value.int (nI y) else .int (nI (rz_g32 (rz_gt 9 g q) j))) = .int (nI (rz_g32 _ j))
        rw [rz_lane32 hy32]
        by_cases ej : j = x
        · rw [if_pos ej, if_pos ej]
        · rw [if_neg ej, if_neg ej]) ez eo
      exact hk L U _ h ls H1 _ hL hwd (hS.put ez eo (rz_b_ad hA hq5)) h0
  · cases h
noncomputable def rz_cast : rz_B := rz_ast 5 rz_un16 rz_g32 32
theorem rz_cast_ok (hx : p.tables.exec = Jvm.exec) (hb : c.code = cc) (hK : va_K (rz_D G) (rz_cl G) (rz_tys G) s) (hA : rz_A G) (hd : decode cc pc = .ok (.castore, 1)) (hk : rz_Ok G p l e R s m args below meth c Q nL nz0 (pc + 1) (k)) : rz_Ok G p l e R s m args below meth c Q nL nz0 (pc) (rz_cast k J Z) := by
  intro L S M h ls H locs hL hW hS h0
  have hun := rz_un16_t (G := G)
  replace h := rz_hd_t h
  obtain ⟨v, R1, rfl, h⟩ := h
  replace h := hun v _ h
  obtain ⟨y, h, hvy, hy⟩ := h
  replace h := rz_hd_t h
  obtain ⟨i, T1, rfl, h⟩ := h
  replace h := rz_hd_t h
  obtain ⟨o, U, rfl, h⟩ := h
  replace h := rz_int_t h
  obtain ⟨x, rfl, h⟩ := h
  replace h := rz_ref_t h
  obtain ⟨q, rfl, h⟩ := h
  replace h := rz_mm_t h
  obtain ⟨g, nz, rfl, h⟩ := h
  obtain ⟨hq, h⟩ := rz_get_t 9 h
  rcases rz_if_t h with ⟨hh, h⟩ | ⟨-, h⟩
  · rcases rz_if_t h with ⟨-, h⟩ | ⟨hn, h⟩
    · cases h
    · have hh := rz_beq.1.mp hh
      have hn : ¬ rz_head (rz_gt 9 g q) / 256 ≤ x := rz_ble.2.mp hn
      have hh : rz_head (rz_gt 9 g q) % 256 = 5 := hh
      have hlt := rz_wd_lt hW hq (by intro z; rw [z] at hh; cases hh)
      have hat := rz_den_at (G := G) (h := g) hlt
      rw [rz_ek G hh (by decide)] at hat
      rw [rz_F_eq, rz_upd_eq] at h
      have hy32 : y < 2 ^ 32 := Nat.lt_of_lt_of_le hy (by decide)
      have hq5 : q < 512 := hq
      rw [List.map_cons, hvy]
      refine W.cast hx hb (hW.2.2.2 q _ hat) ((hK.2 3 _ rfl).1 _ (fun j => .int (nI (rz_g32 (rz_gt 9 g q) j)))) (fun z => by cases z) (by show ¬ (_ ∨ (arrV _ _ _).slots.size ≤ _); rw [arrV_size]; exact rz_in hn) rfl rfl hd (fun H1 e1 ez eo => ?_)
      rw [rz_nar16 hy] at e1
      have hwd := rz_wd_set hA hW hlt (C := rz_p (rz_gt 9 g q) (Nat.add 32 (Nat.mul 32 x)) (rz_g32 (rz_gt 9 g q) x) y) (H1 := H1) (by
        rw [rz_head32 hy32, rz_ek G hh (by decide)]
        refine e1.trans (congrArg some ?_)
        dsimp only
        rw [vp_cell_i, vp_cell_i, arrV_store, rz_clm hn]
        refine congrArg (arrV _ _) (funext fun j => ?_)
        show (if j = x then Value.int (nI y) else .int (nI (rz_g32 (rz_gt 9 g q) j))) = .int (nI (rz_g32 _ j))
        rw [rz_lane32 hy32]
        by_cases ej : j = x
        · rw [if_pos ej, if_pos ej]
        · rw [if_neg ej, if_neg ej]) ez eo
      exact hk L U _ h ls H1 _ hL hwd (hS.put ez eo (rz_b_ad hA hq5)) h0
  · cases h
noncomputable def rz_zast : rz_B := rz_ast 6 rz_un1 rz_g32 32
theorem rz_zast_ok (hx : p.tables.exec = Jvm.exec) (hb : c.code = cc) (hK : va_K (rz_D G) (rz_cl G) (rz_tys G) s) (hA : rz_A G) (hd : decode cc pc = .ok (.bastore, 1)) (hk : rz_Ok G p l e R s m args below meth c Q nL nz0 (pc + 1) (k)) : rz_Ok G p l e R s m args below meth c Q nL nz0 (pc) (rz_zast k J Z) := by
  intro L S M h ls H locs hL hW hS h0
  have hun := rz_un1_t (G := G)
  replace h := rz_hd_t h
  obtain ⟨v, R1, rfl, h⟩ := h
  replace h := hun v _ h
  obtain ⟨y, h, hvy, hy⟩ := h
  replace h := rz_hd_t h
  obtain ⟨i, T1, rfl, h⟩ := h
  replace h := rz_hd_t h
  obtain ⟨o, U, rfl, h⟩ := h
  replace h := rz_int_t h
  obtain ⟨x, rfl, h⟩ := h
  replace h := rz_ref_t h
  obtain ⟨q, rfl, h⟩ := h
  replace h := rz_mm_t h
  obtain ⟨g, nz, rfl, h⟩ := h
  obtain ⟨hq, h⟩ := rz_get_t 9 h
  rcases rz_if_t h with ⟨hh, h⟩ | ⟨-, h⟩
  · rcases rz_if_t h with ⟨-, h⟩ | ⟨hn, h⟩
    · cases h
    · have hh := rz_beq.1.mp hh
      have hn : ¬ rz_head (rz_gt 9 g q) / 256 ≤ x := rz_ble.2.mp hn
      have hh : rz_head (rz_gt 9 g q) % 256 = 6 := hh
      have hlt := rz_wd_lt hW hq (by intro z; rw [z] at hh; cases hh)
      have hat := rz_den_at (G := G) (h := g) hlt
      rw [rz_ek G hh (by decide)] at hat
      rw [rz_F_eq, rz_upd_eq] at h
      have hy32 : y < 2 ^ 32 := Nat.lt_of_lt_of_le hy (by decide)
      have hq5 : q < 512 := hq
      rw [List.map_cons, hvy]
      refine W.zast hx hb (hW.2.2.2 q _ hat) ((hK.2 4 _ rfl).1 _ (fun j => .int (nI (rz_g32 (rz_gt 9 g q) j)))) (fun z => by cases z) (by show ¬ (_ ∨ (arrV _ _ _).slots.size ≤ _); rw [arrV_size]; exact rz_in hn) rfl rfl hd (fun H1 e1 ez eo => ?_)
      rw [rz_nar1 hy] at e1
      have hwd := rz_wd_set hA hW hlt (C := rz_p (rz_gt 9 g q) (Nat.add 32 (Nat.mul 32 x)) (rz_g32 (rz_gt 9 g q) x) y) (H1 := H1) (by
        rw [rz_head32 hy32, rz_ek G hh (by decide)]
        refine e1.trans (congrArg some ?_)
        dsimp only
        rw [vp_cell_i, vp_cell_i, arrV_store, rz_clm hn]
        refine congrArg (arrV _ _) (funext fun j => ?_)
        show (if j = x then Value.int (nI y) else .int (nI (rz_g32 (rz_gt 9 g q) j))) = .int (nI (rz_g32 _ j))
        rw [rz_lane32 hy32]
        by_cases ej : j = x
        · rw [if_pos ej, if_pos ej]
        · rw [if_neg ej, if_neg ej]) ez eo
      exact hk L U _ h ls H1 _ hL hwd (hS.put ez eo (rz_b_ad hA hq5)) h0
  · cases h
noncomputable def rz_last : rz_B := rz_ast 2 rz_un64 rz_g64 64
theorem rz_last_ok (hx : p.tables.exec = Jvm.exec) (hb : c.code = cc) (hK : va_K (rz_D G) (rz_cl G) (rz_tys G) s) (hA : rz_A G) (hd : decode cc pc = .ok (.lastore, 1)) (hk : rz_Ok G p l e R s m args below meth c Q nL nz0 (pc + 1) (k)) : rz_Ok G p l e R s m args below meth c Q nL nz0 (pc) (rz_last k J Z) := by
  intro L S M h ls H locs hL hW hS h0
  have hun := rz_un64_t (G := G)
  replace h := rz_hd_t h
  obtain ⟨v, R1, rfl, h⟩ := h
  replace h := hun v _ h
  obtain ⟨y, h, hvy, hy⟩ := h
  replace h := rz_hd_t h
  obtain ⟨i, T1, rfl, h⟩ := h
  replace h := rz_hd_t h
  obtain ⟨o, U, rfl, h⟩ := h
  replace h := rz_int_t h
  obtain ⟨x, rfl, h⟩ := h
  replace h := rz_ref_t h
  obtain ⟨q, rfl, h⟩ := h
  replace h := rz_mm_t h
  obtain ⟨g, nz, rfl, h⟩ := h
  obtain ⟨hq, h⟩ := rz_get_t 9 h
  rcases rz_if_t h with ⟨hh, h⟩ | ⟨-, h⟩
  · rcases rz_if_t h with ⟨-, h⟩ | ⟨hn, h⟩
    · cases h
    · have hh := rz_beq.1.mp hh
      have hn : ¬ rz_head (rz_gt 9 g q) / 256 ≤ x := rz_ble.2.mp hn
      have hh : rz_head (rz_gt 9 g q) % 256 = 2 := hh
      have hlt := rz_wd_lt hW hq (by intro z; rw [z] at hh; cases hh)
      have hat := rz_den_at (G := G) (h := g) hlt
      rw [rz_e2 G hh] at hat
      rw [rz_F_eq, rz_upd_eq] at h
      have hq5 : q < 512 := hq
      rw [List.map_cons, hvy]
      refine W.last hx hb (hW.2.2.2 q _ hat) ((hK.2 0 _ rfl).1 _ (fun j => .long (lN (rz_g64 (rz_gt 9 g q) j)))) (fun z => by cases z) (by show ¬ (_ ∨ (arrV _ _ _).slots.size ≤ _); rw [arrV_size]; exact rz_in hn) rfl rfl hd (fun H1 e1 ez eo => ?_)
      have hwd := rz_wd_set hA hW hlt (C := rz_p (rz_gt 9 g q) (Nat.add 32 (Nat.mul 64 x)) (rz_g64 (rz_gt 9 g q) x) y) (H1 := H1) (by
        rw [rz_head64 hy, rz_e2 G hh]
        refine e1.trans (congrArg some ?_)
        dsimp only
        rw [vp_cell_l, vp_cell_l, arrV_store, rz_clm hn]
        refine congrArg (arrV _ _) (funext fun j => ?_)
        show (if j = x then Value.long (lN y) else .long (lN (rz_g64 (rz_gt 9 g q) j))) = .long (lN (rz_g64 _ j))
        rw [rz_lane64 hy]
        by_cases ej : j = x
        · rw [if_pos ej, if_pos ej]
        · rw [if_neg ej, if_neg ej]) ez eo
      exact hk L U _ h ls H1 _ hL hwd (hS.put ez eo (rz_b_ad hA hq5)) h0
  · cases h
theorem rz_alen_ok (hx : p.tables.exec = Jvm.exec) (hb : c.code = cc) (hK : va_K (rz_D G) (rz_cl G) (rz_tys G) s) (hd : decode cc pc = .ok (.arraylength, 1)) (hk : rz_Ok G p l e R s m args below meth c Q nL nz0 (pc + 1) (k)) : rz_Ok G p l e R s m args below meth c Q nL nz0 (pc) (rz_alen k J Z) := by
  intro L S M h ls H locs hL hW hS h0
  replace h := rz_hd_t h
  obtain ⟨o, U, rfl, h⟩ := h
  replace h := rz_ref_t h
  obtain ⟨q, rfl, h⟩ := h
  replace h := rz_mm_t h
  obtain ⟨g, nz, rfl, h⟩ := h
  obtain ⟨hq, h⟩ := rz_get_t 9 h
  rcases rz_if_t h with ⟨g2, h⟩ | ⟨-, h⟩
  · rcases rz_if_t h with ⟨g7, h⟩ | ⟨-, h⟩
    · have g2 : 2 ≤ rz_head (rz_gt 9 g q) % 256 := rz_ble.1.mp g2
      have g7 : rz_head (rz_gt 9 g q) % 256 ≤ 7 := rz_ble.1.mp g7
      have hlt := rz_wd_lt hW hq (by intro z; rw [z] at g2; cases g2)
      have hat := rz_den_at (G := G) (h := g) hlt
      rw [rz_F_eq] at h
      have hz := hk L (rz_i (rz_head (rz_gt 9 g q) / 256) :: U) (g, nz) h ls H locs hL hW hS h0
      have hcs : rz_head (rz_gt 9 g q) % 256 = 2 ∨ rz_head (rz_gt 9 g q) % 256 = 3 ∨ rz_head (rz_gt 9 g q) % 256 = 4 ∨ rz_head (rz_gt 9 g q) % 256 = 5 ∨ rz_head (rz_gt 9 g q) % 256 = 6 ∨ rz_head (rz_gt 9 g q) % 256 = 7 := by omega
      rcases hcs with hh | hh | hh | hh | hh | hh
      · rw [rz_e2 G hh] at hat
        exact va_alen hx hb hK hW.2.2.2 q 0 hat rfl rfl hd hz
      · rw [rz_e3 G hh] at hat
        exact va_alen hx hb hK hW.2.2.2 q 1 hat rfl rfl hd hz
      · rw [rz_ek G hh (by decide)] at hat
        exact va_alen hx hb hK hW.2.2.2 q 2 hat rfl rfl hd hz
      · rw [rz_ek G hh (by decide)] at hat
        exact va_alen hx hb hK hW.2.2.2 q 3 hat rfl rfl hd hz
      · rw [rz_ek G hh (by decide)] at hat
        exact va_alen hx hb hK hW.2.2.2 q 4 hat rfl rfl hd hz
      · rw [rz_ek G hh (by decide)] at hat
        exact va_alen hx hb hK hW.2.2.2 q 5 hat rfl rfl hd hz
    · cases h
  · cases h
end RZR
