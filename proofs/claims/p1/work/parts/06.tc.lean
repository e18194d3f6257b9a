/-! The smaller of two longs; a stretch of chars copied. -/
noncomputable def rz_cpy (sp dp B0 B1 n : Nat) : Nat := Nat.rec B1 (fun i B => rz_p B (Nat.add 32 (Nat.mul 32 (Nat.add dp i))) (rz_g32 B (Nat.add dp i)) (rz_g32 B0 (Nat.add sp i))) n
noncomputable def rz_cpk (sp dp B0 B1 n : Nat) : (Nat → Bool) → Bool := Nat.rec (fun k => k B1) (fun i ih k => ih (fun B => rz_F (rz_p B (Nat.add 32 (Nat.mul 32 (Nat.add dp i))) (rz_g32 B (Nat.add dp i)) (rz_g32 B0 (Nat.add sp i))) k)) n
theorem rz_cpk_eq (sp dp B0 B1 : Nat) : ∀ (n : Nat) (k : Nat → Bool), rz_cpk sp dp B0 B1 n k = k (rz_cpy sp dp B0 B1 n)
  | 0, _ => rfl
  | n + 1, k => by
    show rz_cpk sp dp B0 B1 n _ = _
    rw [rz_cpk_eq sp dp B0 B1 n, rz_F_eq]
    rfl
theorem rz_g32_lt (B j : Nat) : rz_g32 B j < 2 ^ 32 := Nat.mod_lt _ (by decide)
theorem rz_cpy_s (sp dp B0 B1 n : Nat) : rz_cpy sp dp B0 B1 (n + 1) = rz_p (rz_cpy sp dp B0 B1 n) (Nat.add 32 (Nat.mul 32 (dp + n))) (rz_g32 (rz_cpy sp dp B0 B1 n) (dp + n)) (rz_g32 B0 (sp + n)) := rfl
theorem rz_cpy_head (sp dp B0 B1 : Nat) : ∀ n : Nat, rz_head (rz_cpy sp dp B0 B1 n) = rz_head B1
  | 0 => rfl
  | n + 1 => by rw [rz_cpy_s, rz_head32 (rz_g32_lt _ _), rz_cpy_head sp dp B0 B1 n]
theorem rz_cpy_lane (sp dp B0 B1 : Nat) : ∀ (n i : Nat), rz_g32 (rz_cpy sp dp B0 B1 n) i = va_cpy (rz_g32 B0) (rz_g32 B1) sp dp n i
  | 0, i => by
    unfold va_cpy
    rw [if_neg (by omega)]
    rfl
  | n + 1, i => by
    rw [rz_cpy_s, rz_lane32 (rz_g32_lt _ _), rz_cpy_lane sp dp B0 B1 n i]
    unfold va_cpy
    by_cases h : i = dp + n
    · rw [if_pos h, if_pos (by omega), show sp + (i - dp) = sp + n by omega]
    · rw [if_neg h]
      by_cases g : dp ≤ i ∧ i < dp + n
      · rw [if_pos g, if_pos (by omega)]
      · rw [if_neg g, if_neg (by omega)]
noncomputable def rz_c16 (sp B0 n : Nat) : Bool := Nat.rec true (fun i ih => rz_if (Nat.ble (rz_g32 B0 (Nat.add sp i)) 65535) ih false) n
theorem rz_c16_t (sp B0 : Nat) : ∀ (n : Nat), rz_c16 sp B0 n = true → ∀ i, i < n → rz_g32 B0 (sp + i) < 65536
  | 0, _, i, hi => by omega
  | n + 1, h, i, hi => by
    have h : rz_if (Nat.ble (rz_g32 B0 (Nat.add sp n)) 65535) (rz_c16 sp B0 n) false = true := h
    rcases rz_if_t h with ⟨g, h⟩ | ⟨-, h⟩
    · have g : rz_g32 B0 (sp + n) ≤ 65535 := rz_ble.1.mp g
      by_cases e : i = n
      · rw [e]; omega
      · exact rz_c16_t sp B0 n h i (by omega)
    · cases h
theorem rz_fit16 {y : Nat} (h : y < 65536) : fits .char (.int (nI y)) = true := by
  show (decide ((0 : Int32) ≤ nI y) && decide (nI y ≤ 65535)) = true
  have h1 : (0 : Int32) ≤ nI y := nI_pos' (by omega)
  have h2 : nI y ≤ (65535 : Int32) := nI_le (b := 65535) (by omega) (by decide)
  simp [h1, h2]
section RZTC
variable {G : rz_G} {p : Program} {l : Launch} {e : Env} {R : Room} {s : State} {m : MethodId} {args : Array Value} {below : List Frame} {meth : Method} {c : Code} {Q : State → Prop} {nL pc : Nat} {nz0 : Nat × Nat} {cc : ByteArray} {k : rz_K} {J : rz_J} {Z : rz_Z}
/-- a stretch of ints, chars and the like copied: what the heap is after -/
theorem rz_copy {H : Heap} {locs : List Loc} {cells slots : Nat} {ls : Array Slot} {rest : List Value} {H0 : Heap} {A : Nat → Prop} (hx : p.tables.exec = Jvm.exec) (hb : c.code = cc) (hml : c.maxLocals = ls.size) {own : String} {index : Nat} (hown : s.vm.findClass own = some m.cls) (hlink : (Cond.methodLink own index arraycopyName).before args s = true) (hnat : (Cond.native arraycopyName).before args s = true) (hstat : (Cond.static arraycopyName).before args s = true) (hini : (Cond.initialized "java/lang/System").before args s = true)
    {ty : FieldType} {c0 c1 : ClassId} (hk0 : ArrOfT s c0 ty) (hk1 : ArrOfT s c1 ty) (hprim : refKind ty = false) (hS : va_S A H0 H locs) {a0 a n0 n1 : Nat} {f g : Nat → Int32} (h0 : H[a0]? = some (arrV c0 n0 (fun j => .int (f j)))) (h1 : H[a]? = some (arrV c1 n1 (fun j => .int (g j)))) (hA : A a)
    {sp dp n : Int32} (q1 : ¬ sp < 0) (q2 : ¬ dp < 0) (q3 : ¬ n < 0) (q4 : sp.toNatClampNeg + n.toNatClampNeg ≤ n0) (q5 : dp.toNatClampNeg + n.toNatClampNeg ≤ n1) (hfit : ∀ i, i < n.toNatClampNeg → fits ty (.int (f (sp.toNatClampNeg + i))) = true)
    (hframes : 1 ≤ R.frames) (hlocals : (rest.map fun v => v.category).sum + (nativeFrameWords "java/lang/System" "arraycopy" 5 + 11) ≤ R.locals) (hd : decode cc pc = .ok (.invokestatic index, 3))
    (kk : ∀ (H1 : Heap) (locs1 : List Loc), H1[a]? = some (arrV c1 n1 (fun j => .int (va_cpy f g sp.toNatClampNeg dp.toNatClampNeg n.toNatClampNeg j))) → H1.size = H.size → (∀ x : Nat, x ≠ a → H1[x]? = H[x]?) → va_S A H0 H1 locs1 → W p l e R s m args below meth c H1 locs1 cells slots Q (F0 m (pc + 3) ls rest)) : W p l e R s m args below meth c H locs cells slots Q (F0 m pc ls (.int n :: .int dp :: .ref a :: .int sp :: .ref a0 :: rest)) := by
  have nn : ∀ z : Int32, ¬ z < 0 → z.toInt = (z.toNatClampNeg : Int) := by
    intro z hz
    have z1 := Int32.le_iff_toInt_le.mp (Int32.not_lt.mp hz)
    have z0 : (0 : Int) ≤ z.toInt := by simpa using z1
    exact (Int.toNat_of_nonneg z0).symm
  obtain ⟨-, k0, u0, cm0, w0⟩ := hk0 n0 (fun j => .int (f j))
  obtain ⟨-, k1, u1, cm1, w1⟩ := hk1 n1 (fun j => .int (g j))
  intro T hT X
  have s0 : (arrV c0 n0 (fun j => Value.int (f j))).slots.size = n0 := arrV_size _ _ _
  have s1 : (arrV c1 n1 (fun j => Value.int (g j))).slots.size = n1 := arrV_size _ _ _
  obtain ⟨vm', X', step⟩ := X.arraycopy hx hown hlink hnat hstat hini (srcPos := sp) (destPos := dp) (n := n) (by rw [hT]; exact h0) (by rw [hT]; exact h1) (fun _ z => by cases z) (fun _ z => by cases z) (fun z => by cases z) (fun z => by cases z) u0 u1 w0 w1 (by simp [hprim]) q1 q2 q3 (by rw [nn sp q1, nn n q3, s0]; omega) (by rw [nn dp q2, nn n q3, s1]; omega)
    (fun _ _ i hi => by
      have r : (arrV c0 n0 (fun j => Value.int (f j))).slots.getD (sp.toNatClampNeg + i) .null = .int (f (sp.toNatClampNeg + i)) := by
        rw [Array.getD_eq_getD_getElem?, arrV_read _ _ (by omega)]
        rfl
      rw [r]
      exact ⟨hfit i hi, trivial⟩)
    (g := F0 m pc ls (.int n :: .int dp :: .ref a :: .int sp :: .ref a0 :: rest)) rfl (by rw [hml]) (rest := rest) rfl (by rw [hb]; exact hd) hframes (by show 2 * 0 + _ + _ ≤ _; omega)
  have e1 : copied (arrV c0 n0 (fun j => Value.int (f j))) (arrV c1 n1 (fun j => Value.int (g j))) sp dp n = arrV c1 n1 (fun j => Value.int (va_cpy f g sp.toNatClampNeg dp.toNatClampNeg n.toNatClampNeg j)) := va_copied (fun z => Value.int z) c0 c1 f g q4
  rw [e1] at X' step
  have hl : a < H.size := (Array.getElem?_eq_some_iff.mp h1).1
  have oq : ∀ q : Nat, q ≠ a → (H.setIfInBounds a (arrV c1 n1 (fun j => Value.int (va_cpy f g sp.toNatClampNeg dp.toNatClampNeg n.toNatClampNeg j))))[q]? = H[q]? := fun q hq => by simp [Array.getElem?_setIfInBounds, Ne.symm hq]
  obtain ⟨t, a1, b1⟩ := kk (H.setIfInBounds a (arrV c1 n1 (fun j => Value.int (va_cpy f g sp.toNatClampNeg dp.toNatClampNeg n.toNatClampNeg j)))) _ (by simp [Array.getElem?_setIfInBounds, hl]) (by simp) oq ⟨by simp; exact hS.1, fun q g1 g2 => by
      rw [oq q (fun z => g2 (by rw [z]; exact hA))]
      exact hS.2.1 q g1 g2, fun q hq => by
      rcases List.mem_append.mp hq with h | h
      · exact hS.2.2 q h
      · obtain ⟨z, -, hz⟩ := List.mem_map.mp h
        rw [← hz]
        exact hA⟩ _ (by rw [← hT]; rfl) X'
  exact ⟨t, step t a1, b1⟩
noncomputable def rz_acopy : rz_B := fun k _ _ L S M => rz_hd S (fun vn S => rz_hd S (fun vd S => rz_hd S (fun va S => rz_hd S (fun vs S => rz_hd S (fun vb U => rz_int vn (fun n => rz_int vd (fun dp => rz_ref va (fun q1 => rz_int vs (fun sp => rz_ref vb (fun q0 => rz_mm M (fun g nz => rz_get 9 g q0 (fun B0 => rz_get 9 g q1 (fun B1 => rz_if (Nat.beq (Nat.mod (rz_head B0) 256) 5) (rz_if (Nat.beq (Nat.mod (rz_head B1) 256) 5) (rz_if (Nat.ble (Nat.add sp n) (Nat.div (rz_head B0) 256)) (rz_if (Nat.ble (Nat.add dp n) (Nat.div (rz_head B1) 256)) (rz_if (rz_c16 sp B0 n) (rz_few U (rz_cpk sp dp B0 B1 n (fun C => rz_upd 9 g q1 C (fun g' => k L U (g', nz))))) false) false) false) false) false)))))))))))))
theorem rz_acopy_ok {own : String} {index : Nat} (hx : p.tables.exec = Jvm.exec) (hb : c.code = cc) (hml : c.maxLocals = nL) (hK : va_K (rz_D G) (rz_cl G) (rz_tys G) s) (hA : rz_A G) (hown : s.vm.findClass own = some m.cls) (hlink : (Cond.methodLink own index arraycopyName).before args s = true) (hnat : (Cond.native arraycopyName).before args s = true) (hstat : (Cond.static arraycopyName).before args s = true) (hini : (Cond.initialized "java/lang/System").before args s = true) (hframes : 1 ≤ R.frames) (hlocals : 8 + (nativeFrameWords "java/lang/System" "arraycopy" 5 + 11) ≤ R.locals) (hd : decode cc pc = .ok (.invokestatic index, 3)) (hk : rz_Ok G p l e R s m args below meth c Q nL nz0 (pc + 3) (k)) : rz_Ok G p l e R s m args below meth c Q nL nz0 (pc) (rz_acopy k J Z) := by
  intro L S M h ls H locs hL hW hS h0
  replace h := rz_hd_t h
  obtain ⟨vn, S, rfl, h⟩ := h
  replace h := rz_hd_t h
  obtain ⟨vd, S, rfl, h⟩ := h
  replace h := rz_hd_t h
  obtain ⟨va, S, rfl, h⟩ := h
  replace h := rz_hd_t h
  obtain ⟨vs, S, rfl, h⟩ := h
  replace h := rz_hd_t h
  obtain ⟨vb, U, rfl, h⟩ := h
  replace h := rz_int_t h
  obtain ⟨n, rfl, h⟩ := h
  replace h := rz_int_t h
  obtain ⟨dp, rfl, h⟩ := h
  replace h := rz_ref_t h
  obtain ⟨q1, rfl, h⟩ := h
  replace h := rz_int_t h
  obtain ⟨sp, rfl, h⟩ := h
  replace h := rz_ref_t h
  obtain ⟨q0, rfl, h⟩ := h
  replace h := rz_mm_t h
  obtain ⟨g, nz, rfl, h⟩ := h
  obtain ⟨hq0, h⟩ := rz_get_t 9 h
  obtain ⟨hq1, h⟩ := rz_get_t 9 h
  rcases rz_if_t h with ⟨t0, h⟩ | ⟨-, h⟩
  · rcases rz_if_t h with ⟨t1, h⟩ | ⟨-, h⟩
    · rcases rz_if_t h with ⟨t2, h⟩ | ⟨-, h⟩
      · rcases rz_if_t h with ⟨t3, h⟩ | ⟨-, h⟩
        · rcases rz_if_t h with ⟨t4, h⟩ | ⟨-, h⟩
          · obtain ⟨hfew, h⟩ := rz_few_t h
            rw [rz_cpk_eq, rz_upd_eq] at h
            have t0 : rz_head (rz_gt 9 g q0) % 256 = 5 := rz_beq.1.mp t0
            have t1 : rz_head (rz_gt 9 g q1) % 256 = 5 := rz_beq.1.mp t1
            have t2 : sp + n ≤ rz_head (rz_gt 9 g q0) / 256 := rz_ble.1.mp t2
            have t3 : dp + n ≤ rz_head (rz_gt 9 g q1) / 256 := rz_ble.1.mp t3
            have t4 := rz_c16_t _ _ _ t4
            have b0 := rz_head_lt (rz_gt 9 g q0)
            have b1 := rz_head_lt (rz_gt 9 g q1)
            have hl0 := rz_wd_lt hW hq0 (by intro z; rw [z] at t0; cases t0)
            have hl1 := rz_wd_lt hW hq1 (by intro z; rw [z] at t1; cases t1)
            have at0 := hW.2.2.2 q0 _ (rz_den_at (G := G) (h := g) hl0)
            have at1 := hW.2.2.2 q1 _ (rz_den_at (G := G) (h := g) hl1)
            rw [rz_ek G t0 (by decide)] at at0
            rw [rz_ek G t1 (by decide)] at at1
            replace at0 : H[rz_ad G q0]? = some (arrV (rz_tc G 5) (rz_head (rz_gt 9 g q0) / 256) (fun j => Value.int (nI (rz_g32 (rz_gt 9 g q0) j)))) := at0
            replace at1 : H[rz_ad G q1]? = some (arrV (rz_tc G 5) (rz_head (rz_gt 9 g q1) / 256) (fun j => Value.int (nI (rz_g32 (rz_gt 9 g q1) j)))) := at1
            have hq5 : q1 < 512 := hq1
            have cn : (nI n).toNatClampNeg = n := nI_clamp (by omega)
            have cs : (nI sp).toNatClampNeg = sp := nI_clamp (by omega)
            have cd : (nI dp).toNatClampNeg = dp := nI_clamp (by omega)
            refine rz_copy hx hb (by rw [hml, hL.1]) hown hlink hnat hstat hini (hK.2 3 _ rfl).1 (hK.2 3 _ rfl).1 rfl hS (f := fun j => nI (rz_g32 (rz_gt 9 g q0) j)) (g := fun j => nI (rz_g32 (rz_gt 9 g q1) j)) at0 at1 (rz_b_ad hA hq5) (sp := nI sp) (dp := nI dp) (n := nI n) (nI_pos (by omega)) (nI_pos (by omega)) (nI_pos (by omega)) (by rw [cn, cs]; exact t2) (by rw [cn, cd]; exact t3) (fun i hi => ?_) hframes (Nat.le_trans (Nat.add_le_add_right (rz_sum G hfew) _) hlocals) hd (fun H1 locs1 e1 ez eo hS1 => ?_)
            · rw [cn] at hi
              rw [cs]
              exact rz_fit16 (t4 i hi)
            · rw [cn, cs, cd] at e1
              have hwd := rz_wd_set hA hW hl1 (C := rz_cpy sp dp (rz_gt 9 g q0) (rz_gt 9 g q1) n) (H1 := H1) (by
                rw [rz_cpy_head, rz_ek G t1 (by decide)]
                refine e1.trans (congrArg some ?_)
                dsimp only
                rw [vp_cell_i]
                refine congrArg (arrV _ _) (funext fun j => ?_)
                show Value.int (va_cpy (fun j => nI (rz_g32 (rz_gt 9 g q0) j)) (fun j => nI (rz_g32 (rz_gt 9 g q1) j)) sp dp n j) = .int (nI (rz_g32 (rz_cpy sp dp (rz_gt 9 g q0) (rz_gt 9 g q1) n) j))
                rw [rz_cpy_lane]
                unfold va_cpy
                by_cases z : dp ≤ j ∧ j < dp + n
                · rw [if_pos z, if_pos z]
                · rw [if_neg z, if_neg z]) ez eo
              exact hk L U _ h ls H1 locs1 hL hwd hS1 h0
          · cases h
        · cases h
      · cases h
    · cases h
  · cases h
noncomputable def rz_lmin : rz_B := fun k _ _ L S M => rz_hd S (fun b T => rz_hd T (fun a U => rz_lng b (fun y => rz_lng a (fun x => rz_few U (rz_if (Nat.ble (rz_ofl x) (rz_ofl y)) (k L (rz_l x :: U) M) (k L (rz_l y :: U) M))))))
theorem rz_lmin_ok {own : String} {index : Nat} (hx : p.tables.exec = Jvm.exec) (hb : c.code = cc) (hml : c.maxLocals = nL) (hown : s.vm.findClass own = some m.cls) (hlink : (Cond.methodLink own index Lib.MathLoose.min_long.x).before args s = true) (hstat : (Cond.static Lib.MathLoose.min_long.x).before args s = true) (hini : (Cond.initialized "java/lang/Math").before args s = true) (hcode : (Cond.code Lib.MathLoose.min_long.x Lib.MathLoose.min_long.code 4 (some .long)).before args s = true) (hframes : 1 ≤ R.frames) (hlocals : 23 ≤ R.locals) (hd : decode cc pc = .ok (.invokestatic index, 3)) (hk : rz_Ok G p l e R s m args below meth c Q nL nz0 (pc + 3) (k)) (hf : nz0.1 ≤ R.cells ∧ nz0.2 ≤ R.slots := by exact ⟨Nat.zero_le _, Nat.zero_le _⟩) : rz_Ok G p l e R s m args below meth c Q nL nz0 (pc) (rz_lmin k J Z) := by
  intro L S M h ls H locs hL hW hS h0
  replace h := rz_hd_t h
  obtain ⟨b, T, rfl, h⟩ := h
  replace h := rz_hd_t h
  obtain ⟨a, U, rfl, h⟩ := h
  replace h := rz_lng_t h
  obtain ⟨y, rfl, h⟩ := h
  replace h := rz_lng_t h
  obtain ⟨x, rfl, h⟩ := h
  obtain ⟨hfew, h⟩ := rz_few_t h
  have hsum := rz_sum G hfew
  refine va_mmin_long (x := lN x) (y := lN y) hx hb (by rw [hml, hL.1]) hown hlink hstat hini hcode hframes (by omega) hf.1 hf.2 hd ?_
  rcases rz_if_t h with ⟨g, h⟩ | ⟨g, h⟩
  · have g := rz_ble.1.mp g
    rw [if_neg (fun z => by have := rz_llt.mp z; omega)]
    exact hk L _ M h ls H locs hL hW hS h0
  · have g := rz_ble.2.mp g
    rw [if_pos (rz_llt.mpr (by omega))]
    exact hk L _ M h ls H locs hL hW hS h0
theorem rz_i2b' : ∀ x, x < 128 → (nI x).toInt8.toInt32 = nI x := by decide +kernel
noncomputable def rz_i2b : rz_B := fun k _ _ L S M => rz_hd S (fun a U => rz_int a (fun x => rz_if (Nat.ble x 127) (k L (rz_i x :: U) M) false))
theorem rz_i2b_ok (hx : p.tables.exec = Jvm.exec) (hb : c.code = cc) (hd : decode cc pc = .ok (.i2b, 1)) (hk : rz_Ok G p l e R s m args below meth c Q nL nz0 (pc + 1) (k)) : rz_Ok G p l e R s m args below meth c Q nL nz0 (pc) (rz_i2b k J Z) := by
  intro L S M h ls H locs hL hW hS h0
  replace h := rz_hd_t h
  obtain ⟨a, U, rfl, h⟩ := h
  replace h := rz_int_t h
  obtain ⟨x, rfl, h⟩ := h
  rcases rz_if_t h with ⟨g, h⟩ | ⟨-, h⟩
  · have g := rz_ble.1.mp g
    have hz := hk L _ M h ls H locs hL hW hS h0
    exact lv_i2b hx hb hd (rz_i2b' x (by omega)) hz
  · cases h
noncomputable def rz_bret : rz_B := fun _ _ Z _ S M => rz_hd S (fun v T => rz_int v (fun n => rz_if (Nat.ble n 127) (rz_nil T (Z v M)) false))
theorem rz_narb : ∀ x, x < 128 → narrow .byte (.int (nI x)) = .int (nI x) := by decide +kernel
theorem rz_bret_ok {nzq : Nat × Nat} {mc ms : Nat} {y : MethodName} {rt : Option FieldType} {rm : Room} {TB : List Cond} (hC : rz_Cx G TB y cc nL (some .byte) rm p R s m args meth c) (hd : decode cc pc = .ok (.ireturn, 1)) (hz : nz0.1 ≤ mc ∧ nz0.2 ≤ ms := by exact ⟨Nat.le_refl _, Nat.le_refl _⟩) : rz_Ok G p l e R s m args below meth c (MQ below (rz_Qi G nzq Z) args s mc ms (fun q => rz_b G ≤ q)) nL nz0 (pc) (rz_bret k J Z) := by
  obtain ⟨hx, hb, -, hr, hlk, -, -, hKn, -⟩ := hC
  intro L S M h ls H locs hL hW hS h0
  replace h := rz_hd_t h
  obtain ⟨v, T, rfl, h⟩ := h
  replace h := rz_int_t h
  obtain ⟨n, rfl, h⟩ := h
  rcases rz_if_t h with ⟨g, h⟩ | ⟨-, h⟩
  · have g := rz_ble.1.mp g
    obtain ⟨rfl, h⟩ := rz_nil_t h
    refine W.widen hz.1 hz.2 ?_
    exact W.zret (v := nI n) hx hb hr (rz_narb n (by omega)) (fun t ht hWm => ⟨⟨nI n, (rz_i n, M), rfl, ⟨rfl, h⟩, by rw [ht]; exact hW, h0⟩, hS.F ht⟩) hS.2.2 hd hlk
  · cases h
noncomputable def rz_imin : rz_B := fun k _ _ L S M => rz_hd S (fun b T => rz_hd T (fun a U => rz_int b (fun y => rz_int a (fun x => rz_few U (rz_if (Nat.ble (rz_off x) (rz_off y)) (k L (rz_i x :: U) M) (k L (rz_i y :: U) M))))))
noncomputable def rz_imax : rz_B := fun k _ _ L S M => rz_hd S (fun b T => rz_hd T (fun a U => rz_int b (fun y => rz_int a (fun x => rz_few U (rz_if (Nat.ble (rz_off y) (rz_off x)) (k L (rz_i x :: U) M) (k L (rz_i y :: U) M))))))
theorem rz_imin_ok {own : String} {index : Nat} (hx : p.tables.exec = Jvm.exec) (hb : c.code = cc) (hml : c.maxLocals = nL) (hown : s.vm.findClass own = some m.cls) (hlink : (Cond.methodLink own index Lib.Math.min.name).before args s = true) (hstat : (Cond.static Lib.Math.min.name).before args s = true) (hini : (Cond.initialized "java/lang/Math").before args s = true) (hcode : (Cond.code Lib.Math.min.name Lib.Math.min.code 2 (some .int)).before args s = true) (hframes : 1 ≤ R.frames) (hlocals : 23 ≤ R.locals) (hd : decode cc pc = .ok (.invokestatic index, 3)) (hk : rz_Ok G p l e R s m args below meth c Q nL nz0 (pc + 3) (k)) (hf : nz0.1 ≤ R.cells ∧ nz0.2 ≤ R.slots := by exact ⟨Nat.zero_le _, Nat.zero_le _⟩) : rz_Ok G p l e R s m args below meth c Q nL nz0 (pc) (rz_imin k J Z) := by
  intro L S M h ls H locs hL hW hS h0
  replace h := rz_hd_t h
  obtain ⟨b, T, rfl, h⟩ := h
  replace h := rz_hd_t h
  obtain ⟨a, U, rfl, h⟩ := h
  replace h := rz_int_t h
  obtain ⟨y, rfl, h⟩ := h
  replace h := rz_int_t h
  obtain ⟨x, rfl, h⟩ := h
  obtain ⟨hfew, h⟩ := rz_few_t h
  have hsum := rz_sum G hfew
  refine va_mmin (x := nI x) (y := nI y) hx hb (by rw [hml, hL.1]) hown hlink hstat hini hcode hframes (by omega) hf.1 hf.2 hd ?_
  rcases rz_if_t h with ⟨g, h⟩ | ⟨g, h⟩
  · have g := rz_ble.1.mp g
    rw [if_neg (fun z => by have := rz_lt.mp z; omega)]
    exact hk L _ M h ls H locs hL hW hS h0
  · have g := rz_ble.2.mp g
    rw [if_pos (rz_lt.mpr (by omega))]
    exact hk L _ M h ls H locs hL hW hS h0
theorem rz_imax_ok {own : String} {index : Nat} (hx : p.tables.exec = Jvm.exec) (hb : c.code = cc) (hml : c.maxLocals = nL) (hown : s.vm.findClass own = some m.cls) (hlink : (Cond.methodLink own index Lib.Math.max.name).before args s = true) (hstat : (Cond.static Lib.Math.max.name).before args s = true) (hini : (Cond.initialized "java/lang/Math").before args s = true) (hcode : (Cond.code Lib.Math.max.name Lib.Math.max.code 2 (some .int)).before args s = true) (hframes : 1 ≤ R.frames) (hlocals : 23 ≤ R.locals) (hd : decode cc pc = .ok (.invokestatic index, 3)) (hk : rz_Ok G p l e R s m args below meth c Q nL nz0 (pc + 3) (k)) (hf : nz0.1 ≤ R.cells ∧ nz0.2 ≤ R.slots := by exact ⟨Nat.zero_le _, Nat.zero_le _⟩) : rz_Ok G p l e R s m args below meth c Q nL nz0 (pc) (rz_imax k J Z) := by
  intro L S M h ls H locs hL hW hS h0
  replace h := rz_hd_t h
  obtain ⟨b, T, rfl, h⟩ := h
  replace h := rz_hd_t h
  obtain ⟨a, U, rfl, h⟩ := h
  replace h := rz_int_t h
  obtain ⟨y, rfl, h⟩ := h
  replace h := rz_int_t h
  obtain ⟨x, rfl, h⟩ := h
  obtain ⟨hfew, h⟩ := rz_few_t h
  have hsum := rz_sum G hfew
  refine va_mmax (x := nI x) (y := nI y) hx hb (by rw [hml, hL.1]) hown hlink hstat hini hcode hframes (by omega) hf.1 hf.2 hd ?_
  rcases rz_if_t h with ⟨g, h⟩ | ⟨g, h⟩
  · have g := rz_ble.1.mp g
    rw [if_neg (fun z => by have := rz_lt.mp z; omega)]
    exact hk L _ M h ls H locs hL hW hS h0
  · have g := rz_ble.2.mp g
    rw [if_pos (rz_lt.mpr (by omega))]
    exact hk L _ M h ls H locs hL hW hS h0
end RZTC
