/-! What the numbers denote; handlers of the stack, the locals, arithmetic and branches. -/
abbrev rz_G : Type := va_G × List vw_C × (Nat → ClassId) × (Nat → Nat) × Nat × (Nat → List Nat) × (Nat → Int32)
abbrev rz_D (G : rz_G) : va_G := G.1
abbrev rz_cl (G : rz_G) : List vw_C := G.2.1
abbrev rz_tc (G : rz_G) : Nat → ClassId := G.2.2.1
abbrev rz_ad (G : rz_G) : Nat → Nat := G.2.2.2.1
abbrev rz_b (G : rz_G) : Nat := G.2.2.2.2.1
abbrev rz_ft (G : rz_G) : Nat → List Nat := G.2.2.2.2.2.1
abbrev rz_xs (G : rz_G) : Nat → Int32 := G.2.2.2.2.2.2
def rz_rf (ad : Nat → Nat) (r : Nat) : Option Nat := match r with
  | 0 => none
  | k + 1 => some (ad k)
def rz_v (G : rz_G) (v : rz_V) : Value := match v with
  | .inl n => .int (nI n)
  | .inr (.inl n) => .long (lN n)
  | .inr (.inr (.inl r)) => va_rf (rz_rf (rz_ad G) r)
  | .inr (.inr (.inr 0)) => .null
  | .inr (.inr (.inr (k + 1))) => .int (rz_xs G k)
def rz_fv (G : rz_G) (t x : Nat) : Value := match t with
  | 0 => .int (nI x)
  | 1 => .long (lN x)
  | _ => va_rf (rz_rf (rz_ad G) x)
def rz_fs (G : rz_G) (B ci : Nat) : List Value := (List.range (rz_ft G ci).length).map (fun j => rz_fv G ((rz_ft G ci).getD j 0) (rz_g64 B j))
/-- a cell: its head tells the kind (1 an object; 2 longs, 3 rows of ints, 4 ints, 5 chars, 6 booleans, 7 bytes) and 256 times the class or the length -/
def rz_e (G : rz_G) (hd B : Nat) : va_E := match hd % 256 with
  | 1 => .inr (hd / 256, rz_fs G B (hd / 256))
  | 2 => .inl (rz_tc G 2, hd / 256, .inr (.inl (fun j => lN (rz_g64 B j))))
  | 3 => .inl (rz_tc G 3, hd / 256, .inr (.inr (.inr (.inr (fun j => rz_rf (rz_ad G) (rz_g16 B j))))))
  | k => .inl (rz_tc G k, hd / 256, .inl (fun j => nI (rz_g32 B j)))
def rz_head (B : Nat) : Nat := Nat.mod B 4294967296
noncomputable def rz_den (G : rz_G) (h : rz_H) (n : Nat) : va_W := (List.range n).map (fun q => (rz_ad G q, rz_e G (rz_head (rz_gt 9 h q)) (rz_gt 9 h q)))
def rz_tys (G : rz_G) : List (ClassId × FieldType) := [(rz_tc G 2, .long), (rz_tc G 3, .array .int), (rz_tc G 4, .int), (rz_tc G 5, .char), (rz_tc G 6, .boolean), (rz_tc G 7, .byte)]
def rz_wd (G : rz_G) (M : rz_M) (H : Heap) : Prop := H.size = rz_b G + M.2.1 ∧ M.2.1 ≤ 512 ∧ (∀ q, M.2.1 ≤ q → q < 512 → rz_gt 9 M.1 q = 0) ∧ va_P (rz_D G) (rz_cl G) (rz_den G M.1 M.2.1) H
/-- what a local's number says: nothing of a hole, and of a long without its second half -/
def rz_say (L : rz_L) (i : Nat) (v : rz_V) : Bool := match v with
  | .inl _ => true
  | .inr (.inl _) => match L[i + 1]? with
    | some (.inr (.inr (.inr 0))) => true
    | _ => false
  | .inr (.inr (.inl _)) => true
  | .inr (.inr (.inr 0)) => false
  | .inr (.inr (.inr (_ + 1))) => true
def rz_lv (G : rz_G) (nL : Nat) (ls : Array Slot) (L : rz_L) : Prop := ls.size = nL ∧ lv_wf ls ∧ L.length = nL ∧ ∀ (i : Nat) (v : rz_V), L[i]? = some v → rz_say L i v = true → ls[i]? = some (.val (rz_v G v))
def rz_Ok (G : rz_G) (p : Program) (l : Launch) (e : Env) (R : Room) (s : State) (m : MethodId) (args : Array Value) (below : List Frame) (meth : Method) (c : Code) (Q : State → Prop) (nL : Nat) (nz0 : Nat × Nat) (pc : Nat) (K : rz_K) : Prop :=
  ∀ (L S : rz_L) (M : rz_M), K L S M = true → ∀ (ls : Array Slot) (H : Heap) (locs : List Loc), rz_lv G nL ls L → rz_wd G M H → va_S (fun q => rz_b G ≤ q) s.heap H locs → True → W p l e R s m args below meth c H locs nz0.1 nz0.2 Q (F0 m pc ls (S.map (rz_v G)))
-- numbers
theorem rz_nI_toNat (n : Nat) : (nI n).toBitVec.toNat = n % 4294967296 := by
  have h : (nI n).toBitVec.toNat = n % 2 ^ 32 := BitVec.toNat_ofNat n 32
  exact h
theorem rz_nI_ext {x : Int32} {n : Nat} (h : x.toBitVec.toNat = n % 4294967296) : x = nI n := by
  apply Int32.toBitVec_inj.mp
  apply BitVec.eq_of_toNat_eq
  rw [h, rz_nI_toNat]
theorem rz_nI_eq {x y : Nat} : nI x = nI y ↔ x % 4294967296 = y % 4294967296 := by
  constructor
  · intro h
    rw [← rz_nI_toNat, ← rz_nI_toNat, h]
  · intro h
    apply rz_nI_ext
    rw [rz_nI_toNat, h]
theorem rz_nI_mod (n : Nat) : nI (n % 4294967296) = nI n := rz_nI_eq.mpr (Nat.mod_mod _ _)
def rz_off (n : Nat) : Nat := Nat.mod (Nat.add n 2147483648) 4294967296
theorem rz_off_eq (n : Nat) : (nI n).toInt + 2147483648 = (rz_off n : Int) := by
  unfold rz_off nI
  show (Int32.ofNat n).toInt + 2147483648 = (((n + 2147483648) % 4294967296 : Nat) : Int)
  rw [Int32.toInt_ofNat', show Int32.size = 4294967296 from rfl]
  simp only [Int.bmod_def]
  split <;> omega
theorem rz_le {x y : Nat} : nI x ≤ nI y ↔ rz_off x ≤ rz_off y := by
  rw [Int32.le_iff_toInt_le]
  have := rz_off_eq x
  have := rz_off_eq y
  omega
theorem rz_lt {x y : Nat} : nI x < nI y ↔ rz_off x < rz_off y := by
  rw [Int32.lt_iff_toInt_lt]
  have := rz_off_eq x
  have := rz_off_eq y
  omega
theorem rz_sub (x y : Nat) : nI x - nI y = nI (Nat.mod (Nat.add x (Nat.sub 4294967296 (Nat.mod y 4294967296))) 4294967296) := by
  apply rz_nI_ext
  show (nI x - nI y).toBitVec.toNat = (x + (4294967296 - y % 4294967296)) % 4294967296 % 4294967296
  rw [Int32.toBitVec_sub, BitVec.toNat_sub, rz_nI_toNat, rz_nI_toNat]
  have : y % 4294967296 < 4294967296 := Nat.mod_lt _ (by decide)
  omega
theorem rz_mul (x y : Nat) : nI x * nI y = nI (Nat.mod (Nat.mul x y) 4294967296) := by
  apply rz_nI_ext
  show (nI x * nI y).toBitVec.toNat = (x * y) % 4294967296 % 4294967296
  rw [Int32.toBitVec_mul, BitVec.toNat_mul, rz_nI_toNat, rz_nI_toNat, ← Nat.mul_mod, Nat.mod_mod]
theorem rz_add (x y : Nat) : nI x + nI y = nI (Nat.mod (Nat.add x y) 4294967296) := by
  rw [nI_add]
  exact (rz_nI_mod _).symm
theorem rz_and (x y : Nat) : nI x &&& nI y = nI (Nat.land x y) := by
  apply rz_nI_ext
  show (nI x &&& nI y).toBitVec.toNat = (x &&& y) % 4294967296
  rw [Int32.toBitVec_and, BitVec.toNat_and, rz_nI_toNat, rz_nI_toNat]
  exact (Nat.and_mod_two_pow (a := x) (b := y) (n := 32)).symm
theorem rz_or (x y : Nat) : nI x ||| nI y = nI (Nat.lor x y) := by
  apply rz_nI_ext
  show (nI x ||| nI y).toBitVec.toNat = (x ||| y) % 4294967296
  rw [Int32.toBitVec_or, BitVec.toNat_or, rz_nI_toNat, rz_nI_toNat]
  exact (Nat.or_mod_two_pow (a := x) (b := y) (n := 32)).symm
-- values
theorem rz_v_int (G : rz_G) (L : rz_L) (i : Nat) {v : rz_V} {a : Bool} (h : rz_isI v a = true) : (∃ x : Int32, rz_v G v = .int x) ∧ rz_say L i v = true ∧ a = true := by
  obtain ⟨h, ha⟩ := rz_isI_t h
  rcases h with ⟨n, rfl⟩ | ⟨n, rfl⟩
  · exact ⟨⟨_, rfl⟩, rfl, ha⟩
  · exact ⟨⟨_, rfl⟩, rfl, ha⟩
theorem rz_v_ref (G : rz_G) (L : rz_L) (i : Nat) {v : rz_V} {a : Bool} (h : rz_isR v a = true) : (∃ r : Option Nat, rz_v G v = va_rf r) ∧ rz_say L i v = true ∧ a = true := by
  obtain ⟨⟨n, rfl⟩, ha⟩ := rz_isR_t h
  exact ⟨⟨_, rfl⟩, rfl, ha⟩
theorem rz_cat_rf (r : Option Nat) : (va_rf r).category = 1 := by cases r <;> rfl
theorem rz_cat (G : rz_G) {v : rz_V} (h : (rz_v G v).category = 2) : ∃ n, v = rz_l n := by
  rcases v with n | n | n | n
  · cases h
  · exact ⟨n, rfl⟩
  · have := rz_cat_rf (rz_rf (rz_ad G) n)
    rw [show rz_v G (Sum.inr (Sum.inr (Sum.inl n))) = va_rf (rz_rf (rz_ad G) n) from rfl] at h
    omega
  · cases n with
    | zero => cases h
    | succ n => cases h
theorem rz_cat1 (G : rz_G) {v : rz_V} (h : ∀ n, v ≠ rz_l n) : (rz_v G v).category = 1 := by
  rcases lv_cat (rz_v G v) with q | q
  · exact q
  · obtain ⟨n, e⟩ := rz_cat G q
    exact absurd e (h n)
-- locals
theorem rz_lv_at {G : rz_G} {nL : Nat} {ls : Array Slot} {L : rz_L} (h : rz_lv G nL ls L) {i : Nat} {v : rz_V} (hv : L[i]? = some v) (hs : rz_say L i v = true) : ls[i]? = some (.val (rz_v G v)) := h.2.2.2 i v hv hs
def rz_ll (G : rz_G) (L : rz_L) : List (Nat × Value) := (List.range L.length).filterMap (fun i => match L[i]? with
  | some v => if rz_say L i v = true then some (i, rz_v G v) else none
  | none => none)
theorem rz_ll_mem {G : rz_G} {L : rz_L} {q : Nat × Value} : q ∈ rz_ll G L ↔ ∃ (i : Nat) (v : rz_V), L[i]? = some v ∧ rz_say L i v = true ∧ q = (i, rz_v G v) := by
  unfold rz_ll
  rw [List.mem_filterMap]
  constructor
  · rintro ⟨i, -, h⟩
    cases hv : L[i]? with
    | none => simp [hv] at h
    | some v =>
      rw [hv] at h
      dsimp only at h
      by_cases hs : rz_say L i v = true
      · rw [if_pos hs] at h
        exact ⟨i, v, hv, hs, (Option.some.inj h).symm⟩
      · rw [if_neg hs] at h
        cases h
  · rintro ⟨i, v, hv, hs, rfl⟩
    have hi : i < L.length := (List.getElem?_eq_some_iff.mp hv).1
    refine ⟨i, List.mem_range.mpr hi, ?_⟩
    rw [hv]
    dsimp only
    rw [if_pos hs]
theorem rz_lv_has {G : rz_G} {nL : Nat} {ls : Array Slot} {L : rz_L} (h : rz_lv G nL ls L) : lv_has ls nL (rz_ll G L) := by
  refine ⟨h.1, h.2.1, fun q hq => ?_⟩
  obtain ⟨i, v, hv, hs, rfl⟩ := rz_ll_mem.mp hq
  exact h.2.2.2 i v hv hs
theorem rz_say_long {L : rz_L} {i n : Nat} (h : rz_say L i (rz_l n) = true) : L[i + 1]? = some rz_o := by
  unfold rz_say at h
  dsimp only at h
  split at h
  · assumption
  · cases h
theorem rz_long_say {L : rz_L} {i n : Nat} (h : L[i + 1]? = some rz_o) : rz_say L i (rz_l n) = true := by
  unfold rz_say
  dsimp only
  rw [h]
  rfl
theorem rz_say_else {L L' : rz_L} {i : Nat} {v : rz_V} (hv : ∀ n, v ≠ rz_l n) (h : rz_say L i v = true) : rz_say L' i v = true := by
  rcases v with n | n | n | n
  · rfl
  · exact absurd rfl (hv n)
  · rfl
  · cases n with
    | zero => cases h
    | succ n => rfl
theorem rz_lv_store {G : rz_G} {nL : Nat} {ls' : Array Slot} {L : rz_L} {i : Nat} {v : rz_V} (hL : L.length = nL) (hv : ∀ n, v ≠ rz_l n) (ho : v ≠ rz_o) (h : lv_has ls' nL ((i, rz_v G v) :: (rz_ll G L).filter (fun q => !(q.1 == i) && !(q.1 + 1 == i && q.2.category == 2)))) : rz_lv G nL ls' (L.set i v) := by
  refine ⟨h.1, h.2.1, by rw [List.length_set]; exact hL, fun j w hw hs => ?_⟩
  by_cases hj : j = i
  · subst hj
    have hlt : j < L.length := by
      have := (List.getElem?_eq_some_iff.mp hw).1
      rwa [List.length_set] at this
    rw [List.getElem?_set_self hlt] at hw
    cases hw
    exact h.2.2 _ List.mem_cons_self
  · rw [List.getElem?_set_ne (fun q => hj q.symm)] at hw
    have key : rz_say L j w = true ∧ ((rz_v G w).category = 2 → j + 1 ≠ i) := by
      by_cases hl : ∃ n, w = rz_l n
      · obtain ⟨n, rfl⟩ := hl
        have h1 := rz_say_long hs
        by_cases hi : j + 1 = i
        · have hlt : i < L.length := by
            have := (List.getElem?_eq_some_iff.mp h1).1
            rw [List.length_set] at this
            omega
          rw [hi, List.getElem?_set_self hlt] at h1
          exact absurd (Option.some.inj h1) ho
        · rw [List.getElem?_set_ne (fun q => hi q.symm)] at h1
          exact ⟨rz_long_say h1, fun _ => hi⟩
      · have hl' : ∀ n, w ≠ rz_l n := fun n q => hl ⟨n, q⟩
        exact ⟨rz_say_else hl' hs, fun q => absurd (rz_cat G q) hl⟩
    refine h.2.2 (j, rz_v G w) (List.mem_cons_of_mem _ (List.mem_filter.mpr ⟨rz_ll_mem.mpr ⟨j, w, hw, key.1, rfl⟩, ?_⟩))
    have h2 := key.2
    simp only [Bool.and_eq_true, Bool.not_eq_true', beq_eq_false_iff_ne, ne_eq, Bool.and_eq_false_iff]
    refine ⟨hj, ?_⟩
    by_cases hc : (rz_v G w).category = 2
    · exact Or.inl (h2 hc)
    · exact Or.inr hc
section RZA
variable {G : rz_G} {p : Program} {l : Launch} {e : Env} {R : Room} {s : State} {m : MethodId} {args : Array Value} {below : List Frame} {meth : Method} {c : Code} {Q : State → Prop} {nL pc : Nat} {nz0 : Nat × Nat} {cc : ByteArray} {k : rz_K} {J : rz_J} {Z : rz_Z}
noncomputable def rz_cst (n : Nat) : rz_B := fun k _ _ L S M => k L (rz_i n :: S) M
theorem rz_iconst_ok {n : Nat} {i : Int} (hx : p.tables.exec = Jvm.exec) (hb : c.code = cc) (hd : decode cc pc = .ok (.iconst i, 1)) (hv : Int32.ofInt i = nI n) (hk : rz_Ok G p l e R s m args below meth c Q nL nz0 (pc + 1) (k)) : rz_Ok G p l e R s m args below meth c Q nL nz0 (pc) (rz_cst n k J Z) := by
  intro L S M h ls H locs hL hW hS h0
  exact lv_iconst hx hb hd hv (hk L (rz_i n :: S) M h ls H locs hL hW hS h0)
theorem rz_bipush_ok {n : Nat} {i : Int} (hx : p.tables.exec = Jvm.exec) (hb : c.code = cc) (hd : decode cc pc = .ok (.bipush i, 2)) (hv : (Int8.ofInt i).toInt32 = nI n) (hk : rz_Ok G p l e R s m args below meth c Q nL nz0 (pc + 2) (k)) : rz_Ok G p l e R s m args below meth c Q nL nz0 (pc) (rz_cst n k J Z) := by
  intro L S M h ls H locs hL hW hS h0
  exact lv_bipush hx hb hd hv (hk L (rz_i n :: S) M h ls H locs hL hW hS h0)
theorem rz_sipush_ok {n : Nat} {i : Int} (hx : p.tables.exec = Jvm.exec) (hb : c.code = cc) (hd : decode cc pc = .ok (.sipush i, 3)) (hv : (Int16.ofInt i).toInt32 = nI n) (hk : rz_Ok G p l e R s m args below meth c Q nL nz0 (pc + 3) (k)) : rz_Ok G p l e R s m args below meth c Q nL nz0 (pc) (rz_cst n k J Z) := by
  intro L S M h ls H locs hL hW hS h0
  exact lv_sipush hx hb hd hv (hk L (rz_i n :: S) M h ls H locs hL hW hS h0)
theorem rz_ldc_ok {n index : Nat} {own : String} (hx : p.tables.exec = Jvm.exec) (hb : c.code = cc) (hown : s.vm.findClass own = some m.cls) (hc : (Jvm.Cond.constant own index (nI n)).before args s = true) (hd : decode cc pc = .ok (.ldc index, 2)) (hk : rz_Ok G p l e R s m args below meth c Q nL nz0 (pc + 2) (k)) : rz_Ok G p l e R s m args below meth c Q nL nz0 (pc) (rz_cst n k J Z) := by
  intro L S M h ls H locs hL hW hS h0
  exact lv_ldc hx hb hown hc hd (hk L (rz_i n :: S) M h ls H locs hL hW hS h0)
theorem rz_ldcw_ok {n index : Nat} {own : String} (hx : p.tables.exec = Jvm.exec) (hb : c.code = cc) (hown : s.vm.findClass own = some m.cls) (hc : (Jvm.Cond.constant own index (nI n)).before args s = true) (hd : decode cc pc = .ok (.ldc_w index, 3)) (hk : rz_Ok G p l e R s m args below meth c Q nL nz0 (pc + 3) (k)) : rz_Ok G p l e R s m args below meth c Q nL nz0 (pc) (rz_cst n k J Z) := by
  intro L S M h ls H locs hL hW hS h0
  exact lv_ldcw hx hb hown hc hd (hk L (rz_i n :: S) M h ls H locs hL hW hS h0)
noncomputable def rz_null : rz_B := fun k _ _ L S M => k L (rz_r 0 :: S) M
theorem rz_null_ok (hx : p.tables.exec = Jvm.exec) (hb : c.code = cc) (hd : decode cc pc = .ok (.aconst_null, 1)) (hk : rz_Ok G p l e R s m args below meth c Q nL nz0 (pc + 1) (k)) : rz_Ok G p l e R s m args below meth c Q nL nz0 (pc) (rz_null k J Z) := by
  intro L S M h ls H locs hL hW hS h0
  exact lv_null hx hb hd (hk L (rz_r 0 :: S) M h ls H locs hL hW hS h0)
noncomputable def rz_iload (n : Nat) : rz_B := fun k _ _ L S M => rz_nth n L (fun v => rz_isI v (k L (v :: S) M))
noncomputable def rz_aload (n : Nat) : rz_B := fun k _ _ L S M => rz_nth n L (fun v => rz_isR v (k L (v :: S) M))
theorem rz_iload_n_ok {n : Nat} {i : Fin 4} (hx : p.tables.exec = Jvm.exec) (hb : c.code = cc) (hd : decode cc pc = .ok (.iload_n i, 1)) (hi : (i : Nat) = n) (hk : rz_Ok G p l e R s m args below meth c Q nL nz0 (pc + 1) (k)) : rz_Ok G p l e R s m args below meth c Q nL nz0 (pc) (rz_iload n k J Z) := by
  intro L S M h ls H locs hL hW hS h0
  obtain ⟨v, hv, h⟩ := rz_nth_t h
  obtain ⟨⟨x, ex⟩, hs, h⟩ := rz_v_int G L n h
  have hz := hk L (v :: S) M h ls H locs hL hW hS h0
  have hg := rz_lv_at hL hv hs
  rw [List.map_cons, ex] at hz
  rw [ex] at hg
  exact lv_iload_n hx hb hd hi hg hz
theorem rz_iload_ok {n : Nat} (hx : p.tables.exec = Jvm.exec) (hb : c.code = cc) (hd : decode cc pc = .ok (.iload n, 2)) (hk : rz_Ok G p l e R s m args below meth c Q nL nz0 (pc + 2) (k)) : rz_Ok G p l e R s m args below meth c Q nL nz0 (pc) (rz_iload n k J Z) := by
  intro L S M h ls H locs hL hW hS h0
  obtain ⟨v, hv, h⟩ := rz_nth_t h
  obtain ⟨⟨x, ex⟩, hs, h⟩ := rz_v_int G L n h
  have hz := hk L (v :: S) M h ls H locs hL hW hS h0
  have hg := rz_lv_at hL hv hs
  rw [List.map_cons, ex] at hz
  rw [ex] at hg
  exact lv_iload hx hb hd hg hz
theorem rz_aload_n_ok {n : Nat} {i : Fin 4} (hx : p.tables.exec = Jvm.exec) (hb : c.code = cc) (hd : decode cc pc = .ok (.aload_n i, 1)) (hi : (i : Nat) = n) (hk : rz_Ok G p l e R s m args below meth c Q nL nz0 (pc + 1) (k)) : rz_Ok G p l e R s m args below meth c Q nL nz0 (pc) (rz_aload n k J Z) := by
  intro L S M h ls H locs hL hW hS h0
  obtain ⟨v, hv, h⟩ := rz_nth_t h
  obtain ⟨⟨x, ex⟩, hs, h⟩ := rz_v_ref G L n h
  have hz := hk L (v :: S) M h ls H locs hL hW hS h0
  have hg := rz_lv_at hL hv hs
  rw [List.map_cons, ex] at hz
  rw [ex] at hg
  cases x with
  | none => exact lv_aload_nN hx hb hd hi hg hz
  | some a => exact lv_aload_n hx hb hd hi hg hz
theorem rz_aload_ok {n : Nat} (hx : p.tables.exec = Jvm.exec) (hb : c.code = cc) (hd : decode cc pc = .ok (.aload n, 2)) (hk : rz_Ok G p l e R s m args below meth c Q nL nz0 (pc + 2) (k)) : rz_Ok G p l e R s m args below meth c Q nL nz0 (pc) (rz_aload n k J Z) := by
  intro L S M h ls H locs hL hW hS h0
  obtain ⟨v, hv, h⟩ := rz_nth_t h
  obtain ⟨⟨x, ex⟩, hs, h⟩ := rz_v_ref G L n h
  have hz := hk L (v :: S) M h ls H locs hL hW hS h0
  have hg := rz_lv_at hL hv hs
  rw [List.map_cons, ex] at hz
  rw [ex] at hg
  cases x with
  | none => exact lv_aloadN hx hb hd hg hz
  | some a => exact lv_aload hx hb hd hg hz
noncomputable def rz_istore (n : Nat) : rz_B := fun k _ _ L S M => rz_hd S (fun v T => rz_isI v (rz_set n L v (fun N => k N T M)))
noncomputable def rz_astore (n : Nat) : rz_B := fun k _ _ L S M => rz_hd S (fun v T => rz_isR v (rz_set n L v (fun N => k N T M)))
theorem rz_isI_ne {v : rz_V} {a : Bool} (h : rz_isI v a = true) : (∀ n, v ≠ rz_l n) ∧ v ≠ rz_o := by
  obtain ⟨h, -⟩ := rz_isI_t h
  rcases h with ⟨n, rfl⟩ | ⟨n, rfl⟩
  · exact ⟨fun _ q => (by cases q), fun q => (by cases q)⟩
  · exact ⟨fun _ q => (by cases q), fun q => (by cases q)⟩
theorem rz_isR_ne {v : rz_V} {a : Bool} (h : rz_isR v a = true) : (∀ n, v ≠ rz_l n) ∧ v ≠ rz_o := by
  obtain ⟨⟨n, rfl⟩, -⟩ := rz_isR_t h
  exact ⟨fun _ q => (by cases q), fun q => (by cases q)⟩
theorem rz_istore_n_ok {n : Nat} {i : Fin 4} (hx : p.tables.exec = Jvm.exec) (hb : c.code = cc) (hd : decode cc pc = .ok (.istore_n i, 1)) (hi : (i : Nat) = n) (hk : rz_Ok G p l e R s m args below meth c Q nL nz0 (pc + 1) (k)) : rz_Ok G p l e R s m args below meth c Q nL nz0 (pc) (rz_istore n k J Z) := by
  intro L S M h ls H locs hL hW hS h0
  replace h := rz_hd_t h
  obtain ⟨v, T, rfl, h⟩ := h
  have hne := rz_isI_ne h
  obtain ⟨⟨x, ex⟩, hs, h⟩ := rz_v_int G L n h
  obtain ⟨hn, h⟩ := rz_set_t h
  rw [List.map_cons, ex]
  refine lv_istore_n hx hb hd hi (rz_lv_has hL) (by rw [← hL.2.2.1]; exact hn) rfl (fun ls' hl' => ?_)
  rw [← ex] at hl'
  exact hk (L.set n v) T M h ls' H locs (rz_lv_store hL.2.2.1 hne.1 hne.2 hl') hW hS h0
theorem rz_istore_ok {n : Nat} (hx : p.tables.exec = Jvm.exec) (hb : c.code = cc) (hd : decode cc pc = .ok (.istore n, 2)) (hk : rz_Ok G p l e R s m args below meth c Q nL nz0 (pc + 2) (k)) : rz_Ok G p l e R s m args below meth c Q nL nz0 (pc) (rz_istore n k J Z) := by
  intro L S M h ls H locs hL hW hS h0
  replace h := rz_hd_t h
  obtain ⟨v, T, rfl, h⟩ := h
  have hne := rz_isI_ne h
  obtain ⟨⟨x, ex⟩, hs, h⟩ := rz_v_int G L n h
  obtain ⟨hn, h⟩ := rz_set_t h
  rw [List.map_cons, ex]
  refine lv_istore hx hb hd (rz_lv_has hL) (by rw [← hL.2.2.1]; exact hn) rfl (fun ls' hl' => ?_)
  rw [← ex] at hl'
  exact hk (L.set n v) T M h ls' H locs (rz_lv_store hL.2.2.1 hne.1 hne.2 hl') hW hS h0
theorem rz_astore_n_ok {n : Nat} {i : Fin 4} (hx : p.tables.exec = Jvm.exec) (hb : c.code = cc) (hd : decode cc pc = .ok (.astore_n i, 1)) (hi : (i : Nat) = n) (hk : rz_Ok G p l e R s m args below meth c Q nL nz0 (pc + 1) (k)) : rz_Ok G p l e R s m args below meth c Q nL nz0 (pc) (rz_astore n k J Z) := by
  intro L S M h ls H locs hL hW hS h0
  replace h := rz_hd_t h
  obtain ⟨v, T, rfl, h⟩ := h
  have hne := rz_isR_ne h
  obtain ⟨⟨x, ex⟩, hs, h⟩ := rz_v_ref G L n h
  obtain ⟨hn, h⟩ := rz_set_t h
  rw [List.map_cons, ex]
  cases x with
  | none =>
    refine lv_astore_nN hx hb hd hi (rz_lv_has hL) (by rw [← hL.2.2.1]; exact hn) rfl (fun ls' hl' => ?_)
    rw [show (Value.null : Value) = rz_v G v from ex.symm] at hl'
    exact hk (L.set n v) T M h ls' H locs (rz_lv_store hL.2.2.1 hne.1 hne.2 hl') hW hS h0
  | some a =>
    refine lv_astore_n hx hb hd hi (rz_lv_has hL) (by rw [← hL.2.2.1]; exact hn) rfl (fun ls' hl' => ?_)
    rw [show (Value.ref a : Value) = rz_v G v from ex.symm] at hl'
    exact hk (L.set n v) T M h ls' H locs (rz_lv_store hL.2.2.1 hne.1 hne.2 hl') hW hS h0
theorem rz_astore_ok {n : Nat} (hx : p.tables.exec = Jvm.exec) (hb : c.code = cc) (hd : decode cc pc = .ok (.astore n, 2)) (hk : rz_Ok G p l e R s m args below meth c Q nL nz0 (pc + 2) (k)) : rz_Ok G p l e R s m args below meth c Q nL nz0 (pc) (rz_astore n k J Z) := by
  intro L S M h ls H locs hL hW hS h0
  replace h := rz_hd_t h
  obtain ⟨v, T, rfl, h⟩ := h
  have hne := rz_isR_ne h
  obtain ⟨⟨x, ex⟩, hs, h⟩ := rz_v_ref G L n h
  obtain ⟨hn, h⟩ := rz_set_t h
  rw [List.map_cons, ex]
  cases x with
  | none =>
    refine lv_astoreN hx hb hd (rz_lv_has hL) (by rw [← hL.2.2.1]; exact hn) rfl (fun ls' hl' => ?_)
    rw [show (Value.null : Value) = rz_v G v from ex.symm] at hl'
    exact hk (L.set n v) T M h ls' H locs (rz_lv_store hL.2.2.1 hne.1 hne.2 hl') hW hS h0
  | some a =>
    refine lv_astore hx hb hd (rz_lv_has hL) (by rw [← hL.2.2.1]; exact hn) rfl (fun ls' hl' => ?_)
    rw [show (Value.ref a : Value) = rz_v G v from ex.symm] at hl'
    exact hk (L.set n v) T M h ls' H locs (rz_lv_store hL.2.2.1 hne.1 hne.2 hl') hW hS h0
noncomputable def rz_iinc (n d : Nat) : rz_B := fun k _ _ L S M => rz_nth n L (fun v => rz_int v (fun x => rz_F (Nat.mod (Nat.add x d) 4294967296) (fun z => rz_set n L (rz_i z) (fun N => k N S M))))
theorem rz_iinc_ok {n d : Nat} {i : Int} (hx : p.tables.exec = Jvm.exec) (hb : c.code = cc) (hd : decode cc pc = .ok (.iinc n i, 3)) (hv : Int32.ofInt i = nI d) (hk : rz_Ok G p l e R s m args below meth c Q nL nz0 (pc + 3) (k)) : rz_Ok G p l e R s m args below meth c Q nL nz0 (pc) (rz_iinc n d k J Z) := by
  intro L S M h ls H locs hL hW hS h0
  obtain ⟨v, hv1, h⟩ := rz_nth_t h
  replace h := rz_int_t h
  obtain ⟨x, rfl, h⟩ := h
  rw [rz_F_eq] at h
  obtain ⟨hn, h⟩ := rz_set_t h
  obtain ⟨q, hq⟩ := List.getElem?_of_mem (rz_ll_mem (G := G).mpr ⟨n, rz_i x, hv1, rfl, rfl⟩)
  refine lv_iinc hx hb hd (rz_lv_has hL) (k := q) hq (v := nI (Nat.mod (Nat.add x d) 4294967296)) (by rw [hv]; exact rz_add x d) (by rw [← hL.2.2.1]; exact hn) rfl (fun ls' hl' => ?_)
  exact hk (L.set n (rz_i (Nat.mod (Nat.add x d) 4294967296))) S M h ls' H locs (rz_lv_store (v := rz_i (Nat.mod (Nat.add x d) 4294967296)) hL.2.2.1 (fun _ q => by cases q) (fun q => by cases q) hl') hW hS h0
noncomputable def rz_bin (f : Nat → Nat → Nat) : rz_B := fun k _ _ L S M => rz_hd S (fun b T => rz_hd T (fun a U => rz_int b (fun y => rz_int a (fun x => rz_F (f x y) (fun z => k L (rz_i z :: U) M)))))
noncomputable def rz_iadd : rz_B := rz_bin (fun x y => Nat.mod (Nat.add x y) 4294967296)
theorem rz_iadd_ok (hx : p.tables.exec = Jvm.exec) (hb : c.code = cc) (hd : decode cc pc = .ok (.iadd, 1)) (hk : rz_Ok G p l e R s m args below meth c Q nL nz0 (pc + 1) (k)) : rz_Ok G p l e R s m args below meth c Q nL nz0 (pc) (rz_iadd k J Z) := by
  intro L S M h ls H locs hL hW hS h0
  replace h := rz_hd_t h
  obtain ⟨b, T, rfl, h⟩ := h
  replace h := rz_hd_t h
  obtain ⟨a, U, rfl, h⟩ := h
  replace h := rz_int_t h
  obtain ⟨y, rfl, h⟩ := h
  replace h := rz_int_t h
  obtain ⟨x, rfl, h⟩ := h
  rw [rz_F_eq] at h
  have hz := hk L (rz_i _ :: U) M h ls H locs hL hW hS h0
  refine lv_iadd hx hb hd ?_
  rw [rz_add x y]
  exact hz
noncomputable def rz_isub : rz_B := rz_bin (fun x y => Nat.mod (Nat.add x (Nat.sub 4294967296 (Nat.mod y 4294967296))) 4294967296)
theorem rz_isub_ok (hx : p.tables.exec = Jvm.exec) (hb : c.code = cc) (hd : decode cc pc = .ok (.isub, 1)) (hk : rz_Ok G p l e R s m args below meth c Q nL nz0 (pc + 1) (k)) : rz_Ok G p l e R s m args below meth c Q nL nz0 (pc) (rz_isub k J Z) := by
  intro L S M h ls H locs hL hW hS h0
  replace h := rz_hd_t h
  obtain ⟨b, T, rfl, h⟩ := h
  replace h := rz_hd_t h
  obtain ⟨a, U, rfl, h⟩ := h
  replace h := rz_int_t h
  obtain ⟨y, rfl, h⟩ := h
  replace h := rz_int_t h
  obtain ⟨x, rfl, h⟩ := h
  rw [rz_F_eq] at h
  have hz := hk L (rz_i _ :: U) M h ls H locs hL hW hS h0
  refine lv_isub hx hb hd ?_
  rw [rz_sub x y]
  exact hz
noncomputable def rz_imul : rz_B := rz_bin (fun x y => Nat.mod (Nat.mul x y) 4294967296)
theorem rz_imul_ok (hx : p.tables.exec = Jvm.exec) (hb : c.code = cc) (hd : decode cc pc = .ok (.imul, 1)) (hk : rz_Ok G p l e R s m args below meth c Q nL nz0 (pc + 1) (k)) : rz_Ok G p l e R s m args below meth c Q nL nz0 (pc) (rz_imul k J Z) := by
  intro L S M h ls H locs hL hW hS h0
  replace h := rz_hd_t h
  obtain ⟨b, T, rfl, h⟩ := h
  replace h := rz_hd_t h
  obtain ⟨a, U, rfl, h⟩ := h
  replace h := rz_int_t h
  obtain ⟨y, rfl, h⟩ := h
  replace h := rz_int_t h
  obtain ⟨x, rfl, h⟩ := h
  rw [rz_F_eq] at h
  have hz := hk L (rz_i _ :: U) M h ls H locs hL hW hS h0
  refine lv_imul hx hb hd ?_
  rw [rz_mul x y]
  exact hz
noncomputable def rz_iand : rz_B := rz_bin (Nat.land)
theorem rz_iand_ok (hx : p.tables.exec = Jvm.exec) (hb : c.code = cc) (hd : decode cc pc = .ok (.iand, 1)) (hk : rz_Ok G p l e R s m args below meth c Q nL nz0 (pc + 1) (k)) : rz_Ok G p l e R s m args below meth c Q nL nz0 (pc) (rz_iand k J Z) := by
  intro L S M h ls H locs hL hW hS h0
  replace h := rz_hd_t h
  obtain ⟨b, T, rfl, h⟩ := h
  replace h := rz_hd_t h
  obtain ⟨a, U, rfl, h⟩ := h
  replace h := rz_int_t h
  obtain ⟨y, rfl, h⟩ := h
  replace h := rz_int_t h
  obtain ⟨x, rfl, h⟩ := h
  rw [rz_F_eq] at h
  have hz := hk L (rz_i _ :: U) M h ls H locs hL hW hS h0
  refine lv_iand hx hb hd ?_
  rw [rz_and x y]
  exact hz
noncomputable def rz_ior : rz_B := rz_bin (Nat.lor)
theorem rz_ior_ok (hx : p.tables.exec = Jvm.exec) (hb : c.code = cc) (hd : decode cc pc = .ok (.ior, 1)) (hk : rz_Ok G p l e R s m args below meth c Q nL nz0 (pc + 1) (k)) : rz_Ok G p l e R s m args below meth c Q nL nz0 (pc) (rz_ior k J Z) := by
  intro L S M h ls H locs hL hW hS h0
  replace h := rz_hd_t h
  obtain ⟨b, T, rfl, h⟩ := h
  replace h := rz_hd_t h
  obtain ⟨a, U, rfl, h⟩ := h
  replace h := rz_int_t h
  obtain ⟨y, rfl, h⟩ := h
  replace h := rz_int_t h
  obtain ⟨x, rfl, h⟩ := h
  rw [rz_F_eq] at h
  have hz := hk L (rz_i _ :: U) M h ls H locs hL hW hS h0
  refine lv_ior hx hb hd ?_
  rw [rz_or x y]
  exact hz
noncomputable def rz_pop : rz_B := fun k _ _ L S M => rz_hd S (fun v T => rz_is1 v (k L T M))
noncomputable def rz_dup : rz_B := fun k _ _ L S M => rz_hd S (fun v T => rz_is1 v (k L (v :: v :: T) M))
noncomputable def rz_dup_x1 : rz_B := fun k _ _ L S M => rz_hd S (fun v T => rz_hd T (fun u U => rz_is1 v (rz_is1 u (k L (v :: u :: v :: U) M))))
noncomputable def rz_dup2 : rz_B := fun k _ _ L S M => rz_hd S (fun v T => rz_hd T (fun u U => rz_is1 v (rz_is1 u (k L (v :: u :: v :: u :: U) M))))
theorem rz_is1_t (G : rz_G) {v : rz_V} {a : Bool} (h : rz_is1 v a = true) : (rz_v G v).category = 1 ∧ a = true := by
  rcases v with n | n | n | n
  · exact ⟨rfl, h⟩
  · cases h
  · exact ⟨rz_cat_rf _, h⟩
  · cases n with
    | zero => cases h
    | succ n => exact ⟨rfl, h⟩
theorem rz_pop_ok (hx : p.tables.exec = Jvm.exec) (hb : c.code = cc) (hd : decode cc pc = .ok (.pop, 1)) (hk : rz_Ok G p l e R s m args below meth c Q nL nz0 (pc + 1) (k)) : rz_Ok G p l e R s m args below meth c Q nL nz0 (pc) (rz_pop k J Z) := by
  intro L S M h ls H locs hL hW hS h0
  replace h := rz_hd_t h
  obtain ⟨v, T, rfl, h⟩ := h
  obtain ⟨hv, h⟩ := rz_is1_t G h
  exact lv_pop hx hb hd hv (hk L T M h ls H locs hL hW hS h0)
theorem rz_dup_ok (hx : p.tables.exec = Jvm.exec) (hb : c.code = cc) (hd : decode cc pc = .ok (.dup, 1)) (hk : rz_Ok G p l e R s m args below meth c Q nL nz0 (pc + 1) (k)) : rz_Ok G p l e R s m args below meth c Q nL nz0 (pc) (rz_dup k J Z) := by
  intro L S M h ls H locs hL hW hS h0
  replace h := rz_hd_t h
  obtain ⟨v, T, rfl, h⟩ := h
  obtain ⟨hv, h⟩ := rz_is1_t G h
  exact lv_dup hx hb hd hv (hk L (v :: v :: T) M h ls H locs hL hW hS h0)
theorem rz_dup_x1_ok (hx : p.tables.exec = Jvm.exec) (hb : c.code = cc) (hd : decode cc pc = .ok (.dup_x1, 1)) (hk : rz_Ok G p l e R s m args below meth c Q nL nz0 (pc + 1) (k)) : rz_Ok G p l e R s m args below meth c Q nL nz0 (pc) (rz_dup_x1 k J Z) := by
  intro L S M h ls H locs hL hW hS h0
  replace h := rz_hd_t h
  obtain ⟨v, T, rfl, h⟩ := h
  replace h := rz_hd_t h
  obtain ⟨u, U, rfl, h⟩ := h
  obtain ⟨hv, h⟩ := rz_is1_t G h
  obtain ⟨hu, h⟩ := rz_is1_t G h
  exact lv_dup_x1 hx hb hd hv hu (hk L (v :: u :: v :: U) M h ls H locs hL hW hS h0)
theorem rz_dup2_ok (hx : p.tables.exec = Jvm.exec) (hb : c.code = cc) (hd : decode cc pc = .ok (.dup2, 1)) (hk : rz_Ok G p l e R s m args below meth c Q nL nz0 (pc + 1) (k)) : rz_Ok G p l e R s m args below meth c Q nL nz0 (pc) (rz_dup2 k J Z) := by
  intro L S M h ls H locs hL hW hS h0
  replace h := rz_hd_t h
  obtain ⟨v, T, rfl, h⟩ := h
  replace h := rz_hd_t h
  obtain ⟨u, U, rfl, h⟩ := h
  obtain ⟨hv, h⟩ := rz_is1_t G h
  obtain ⟨hu, h⟩ := rz_is1_t G h
  exact lv_dup2_11 hx hb hd hv hu (hk L (v :: u :: v :: u :: U) M h ls H locs hL hW hS h0)
noncomputable def rz_goto (j : Nat) : rz_B := fun _ J _ L S M => J j L S M
theorem rz_goto_ok {j tgt : Nat} {off : Int} (hx : p.tables.exec = Jvm.exec) (hb : c.code = cc) (hd : decode cc pc = .ok (.goto off, 3)) (ht : (pc : Int) + off = (tgt : Int)) (hj : rz_Ok G p l e R s m args below meth c Q nL nz0 (tgt) (J j)) : rz_Ok G p l e R s m args below meth c Q nL nz0 (pc) (rz_goto j k J Z) := by
  intro L S M h ls H locs hL hW hS h0
  exact lv_goto hx hb hd ht (hj L S M h ls H locs hL hW hS h0)
noncomputable def rz_if1 (f : Nat → Bool) (j : Nat) : rz_B := fun k J _ L S M => rz_hd S (fun v T => rz_int v (fun x => rz_if (f x) (J j L T M) (k L T M)))
noncomputable def rz_if2 (f : Nat → Nat → Bool) (j : Nat) : rz_B := fun k J _ L S M => rz_hd S (fun b T => rz_hd T (fun a U => rz_int b (fun y => rz_int a (fun x => rz_if (f x y) (J j L U M) (k L U M)))))
theorem rz_beq {a b : Nat} : (Nat.beq a b = true ↔ a = b) ∧ (Nat.beq a b = false ↔ ¬ a = b) := by
  constructor
  · exact ⟨Nat.eq_of_beq_eq_true, fun h => by rw [h]; exact Nat.beq_refl b⟩
  · constructor
    · intro h q
      rw [q, Nat.beq_refl] at h
      cases h
    · intro h
      cases hb : Nat.beq a b with
      | false => rfl
      | true => exact absurd (Nat.eq_of_beq_eq_true hb) h
theorem rz_ble {a b : Nat} : (Nat.ble a b = true ↔ a ≤ b) ∧ (Nat.ble a b = false ↔ ¬ a ≤ b) := by
  constructor
  · exact ⟨Nat.le_of_ble_eq_true, Nat.ble_eq_true_of_le⟩
  · constructor
    · intro h q
      rw [Nat.ble_eq_true_of_le q] at h
      cases h
    · intro h
      cases hb : Nat.ble a b with
      | false => rfl
      | true => exact absurd (Nat.le_of_ble_eq_true hb) h
theorem rz_nI0 : (0 : Int32) = nI 0 := by decide
theorem rz_off0 : rz_off 0 = 2147483648 := by decide
theorem rz_lt0 {x : Nat} : nI x < nI 0 ↔ rz_off x < 2147483648 := by rw [rz_lt, rz_off0]
theorem rz_0lt {x : Nat} : nI 0 < nI x ↔ 2147483648 < rz_off x := by rw [rz_lt, rz_off0]
theorem rz_le0 {x : Nat} : nI x ≤ nI 0 ↔ rz_off x ≤ 2147483648 := by rw [rz_le, rz_off0]
theorem rz_0le {x : Nat} : nI 0 ≤ nI x ↔ 2147483648 ≤ rz_off x := by rw [rz_le, rz_off0]
theorem rz_not_t {b : Bool} : (Bool.not b = true ↔ b = false) ∧ (Bool.not b = false ↔ b = true) := by cases b <;> decide
noncomputable def rz_ifeq (j : Nat) : rz_B := rz_if1 (fun x => Nat.beq (Nat.mod x 4294967296) 0) j
noncomputable def rz_icmpeq (j : Nat) : rz_B := rz_if2 (fun x y => Nat.beq (Nat.mod x 4294967296) (Nat.mod y 4294967296)) j
theorem rz_ifeq_ok {j tgt : Nat} {off : Int} (hx : p.tables.exec = Jvm.exec) (hb : c.code = cc) (hd : decode cc pc = .ok (.ifCond .eq off, 3)) (ht : (pc : Int) + off = (tgt : Int)) (hk : rz_Ok G p l e R s m args below meth c Q nL nz0 (pc + 3) (k)) (hj : rz_Ok G p l e R s m args below meth c Q nL nz0 (tgt) (J j)) : rz_Ok G p l e R s m args below meth c Q nL nz0 (pc) (rz_ifeq j k J Z) := by
  intro L S M h ls H locs hL hW hS h0
  replace h := rz_hd_t h
  obtain ⟨v, T, rfl, h⟩ := h
  replace h := rz_int_t h
  obtain ⟨x, rfl, h⟩ := h
  have hc : (nI x = nI 0 ∧ J j L T M = true) ∨ (¬ nI x = nI 0 ∧ k L T M = true) := by
    rcases rz_if_t h with ⟨g, h⟩ | ⟨g, h⟩
    · exact Or.inl ⟨rz_nI_eq.mpr ((rz_beq).1.mp g), h⟩
    · exact Or.inr ⟨fun q => (rz_beq).2.mp g (rz_nI_eq.mp q), h⟩
  refine lv_if_eq hx hb hd ht (fun q => ?_) (fun q => ?_)
  · rw [rz_nI0] at q
    rcases hc with ⟨g, h⟩ | ⟨g, h⟩
    · exact hj L T M h ls H locs hL hW hS h0
    · exact absurd q g
  · rw [rz_nI0] at q
    rcases hc with ⟨g, h⟩ | ⟨g, h⟩
    · exact absurd g q
    · exact hk L T M h ls H locs hL hW hS h0
theorem rz_icmpeq_ok {j tgt : Nat} {off : Int} (hx : p.tables.exec = Jvm.exec) (hb : c.code = cc) (hd : decode cc pc = .ok (.if_icmp .eq off, 3)) (ht : (pc : Int) + off = (tgt : Int)) (hk : rz_Ok G p l e R s m args below meth c Q nL nz0 (pc + 3) (k)) (hj : rz_Ok G p l e R s m args below meth c Q nL nz0 (tgt) (J j)) : rz_Ok G p l e R s m args below meth c Q nL nz0 (pc) (rz_icmpeq j k J Z) := by
  intro L S M h ls H locs hL hW hS h0
  replace h := rz_hd_t h
  obtain ⟨b, T, rfl, h⟩ := h
  replace h := rz_hd_t h
  obtain ⟨a, U, rfl, h⟩ := h
  replace h := rz_int_t h
  obtain ⟨y, rfl, h⟩ := h
  replace h := rz_int_t h
  obtain ⟨x, rfl, h⟩ := h
  have hc : (nI x = nI y ∧ J j L U M = true) ∨ (¬ nI x = nI y ∧ k L U M = true) := by
    rcases rz_if_t h with ⟨g, h⟩ | ⟨g, h⟩
    · exact Or.inl ⟨rz_nI_eq.mpr ((rz_beq).1.mp g), h⟩
    · exact Or.inr ⟨fun q => (rz_beq).2.mp g (rz_nI_eq.mp q), h⟩
  refine lv_icmp_eq hx hb hd ht (fun q => ?_) (fun q => ?_)
  · rcases hc with ⟨g, h⟩ | ⟨g, h⟩
    · exact hj L U M h ls H locs hL hW hS h0
    · exact absurd q g
  · rcases hc with ⟨g, h⟩ | ⟨g, h⟩
    · exact absurd g q
    · exact hk L U M h ls H locs hL hW hS h0
noncomputable def rz_ifne (j : Nat) : rz_B := rz_if1 (fun x => Bool.not (Nat.beq (Nat.mod x 4294967296) 0)) j
noncomputable def rz_icmpne (j : Nat) : rz_B := rz_if2 (fun x y => Bool.not (Nat.beq (Nat.mod x 4294967296) (Nat.mod y 4294967296))) j
theorem rz_ifne_ok {j tgt : Nat} {off : Int} (hx : p.tables.exec = Jvm.exec) (hb : c.code = cc) (hd : decode cc pc = .ok (.ifCond .ne off, 3)) (ht : (pc : Int) + off = (tgt : Int)) (hk : rz_Ok G p l e R s m args below meth c Q nL nz0 (pc + 3) (k)) (hj : rz_Ok G p l e R s m args below meth c Q nL nz0 (tgt) (J j)) : rz_Ok G p l e R s m args below meth c Q nL nz0 (pc) (rz_ifne j k J Z) := by
  intro L S M h ls H locs hL hW hS h0
  replace h := rz_hd_t h
  obtain ⟨v, T, rfl, h⟩ := h
  replace h := rz_int_t h
  obtain ⟨x, rfl, h⟩ := h
  have hc : (¬ nI x = nI 0 ∧ J j L T M = true) ∨ (nI x = nI 0 ∧ k L T M = true) := by
    rcases rz_if_t h with ⟨g, h⟩ | ⟨g, h⟩
    · exact Or.inl ⟨fun q => (rz_beq).2.mp (rz_not_t.1.mp g) (rz_nI_eq.mp q), h⟩
    · exact Or.inr ⟨rz_nI_eq.mpr ((rz_beq).1.mp (rz_not_t.2.mp g)), h⟩
  refine lv_if_ne hx hb hd ht (fun q => ?_) (fun q => ?_)
  · rw [rz_nI0] at q
    rcases hc with ⟨g, h⟩ | ⟨g, h⟩
    · exact hj L T M h ls H locs hL hW hS h0
    · exact absurd g q
  · rw [rz_nI0] at q
    rcases hc with ⟨g, h⟩ | ⟨g, h⟩
    · exact absurd q g
    · exact hk L T M h ls H locs hL hW hS h0
theorem rz_icmpne_ok {j tgt : Nat} {off : Int} (hx : p.tables.exec = Jvm.exec) (hb : c.code = cc) (hd : decode cc pc = .ok (.if_icmp .ne off, 3)) (ht : (pc : Int) + off = (tgt : Int)) (hk : rz_Ok G p l e R s m args below meth c Q nL nz0 (pc + 3) (k)) (hj : rz_Ok G p l e R s m args below meth c Q nL nz0 (tgt) (J j)) : rz_Ok G p l e R s m args below meth c Q nL nz0 (pc) (rz_icmpne j k J Z) := by
  intro L S M h ls H locs hL hW hS h0
  replace h := rz_hd_t h
  obtain ⟨b, T, rfl, h⟩ := h
  replace h := rz_hd_t h
  obtain ⟨a, U, rfl, h⟩ := h
  replace h := rz_int_t h
  obtain ⟨y, rfl, h⟩ := h
  replace h := rz_int_t h
  obtain ⟨x, rfl, h⟩ := h
  have hc : (¬ nI x = nI y ∧ J j L U M = true) ∨ (nI x = nI y ∧ k L U M = true) := by
    rcases rz_if_t h with ⟨g, h⟩ | ⟨g, h⟩
    · exact Or.inl ⟨fun q => (rz_beq).2.mp (rz_not_t.1.mp g) (rz_nI_eq.mp q), h⟩
    · exact Or.inr ⟨rz_nI_eq.mpr ((rz_beq).1.mp (rz_not_t.2.mp g)), h⟩
  refine lv_icmp_ne hx hb hd ht (fun q => ?_) (fun q => ?_)
  · rcases hc with ⟨g, h⟩ | ⟨g, h⟩
    · exact hj L U M h ls H locs hL hW hS h0
    · exact absurd g q
  · rcases hc with ⟨g, h⟩ | ⟨g, h⟩
    · exact absurd q g
    · exact hk L U M h ls H locs hL hW hS h0
noncomputable def rz_iflt (j : Nat) : rz_B := rz_if1 (fun x => Bool.not (Nat.ble 2147483648 (rz_off x))) j
noncomputable def rz_icmplt (j : Nat) : rz_B := rz_if2 (fun x y => Bool.not (Nat.ble (rz_off y) (rz_off x))) j
theorem rz_iflt_ok {j tgt : Nat} {off : Int} (hx : p.tables.exec = Jvm.exec) (hb : c.code = cc) (hd : decode cc pc = .ok (.ifCond .lt off, 3)) (ht : (pc : Int) + off = (tgt : Int)) (hk : rz_Ok G p l e R s m args below meth c Q nL nz0 (pc + 3) (k)) (hj : rz_Ok G p l e R s m args below meth c Q nL nz0 (tgt) (J j)) : rz_Ok G p l e R s m args below meth c Q nL nz0 (pc) (rz_iflt j k J Z) := by
  intro L S M h ls H locs hL hW hS h0
  replace h := rz_hd_t h
  obtain ⟨v, T, rfl, h⟩ := h
  replace h := rz_int_t h
  obtain ⟨x, rfl, h⟩ := h
  have hc : (nI x < nI 0 ∧ J j L T M = true) ∨ (¬ nI x < nI 0 ∧ k L T M = true) := by
    rcases rz_if_t h with ⟨g, h⟩ | ⟨g, h⟩
    · exact Or.inl ⟨rz_lt0.mpr (Nat.lt_of_not_le ((rz_ble).2.mp (rz_not_t.1.mp g))), h⟩
    · exact Or.inr ⟨fun q => Nat.not_lt.mpr ((rz_ble).1.mp (rz_not_t.2.mp g)) (rz_lt0.mp q), h⟩
  refine lv_if_lt hx hb hd ht (fun q => ?_) (fun q => ?_)
  · rw [rz_nI0] at q
    rcases hc with ⟨g, h⟩ | ⟨g, h⟩
    · exact hj L T M h ls H locs hL hW hS h0
    · exact absurd q g
  · rw [rz_nI0] at q
    rcases hc with ⟨g, h⟩ | ⟨g, h⟩
    · exact absurd g q
    · exact hk L T M h ls H locs hL hW hS h0
theorem rz_icmplt_ok {j tgt : Nat} {off : Int} (hx : p.tables.exec = Jvm.exec) (hb : c.code = cc) (hd : decode cc pc = .ok (.if_icmp .lt off, 3)) (ht : (pc : Int) + off = (tgt : Int)) (hk : rz_Ok G p l e R s m args below meth c Q nL nz0 (pc + 3) (k)) (hj : rz_Ok G p l e R s m args below meth c Q nL nz0 (tgt) (J j)) : rz_Ok G p l e R s m args below meth c Q nL nz0 (pc) (rz_icmplt j k J Z) := by
  intro L S M h ls H locs hL hW hS h0
  replace h := rz_hd_t h
  obtain ⟨b, T, rfl, h⟩ := h
  replace h := rz_hd_t h
  obtain ⟨a, U, rfl, h⟩ := h
  replace h := rz_int_t h
  obtain ⟨y, rfl, h⟩ := h
  replace h := rz_int_t h
  obtain ⟨x, rfl, h⟩ := h
  have hc : (nI x < nI y ∧ J j L U M = true) ∨ (¬ nI x < nI y ∧ k L U M = true) := by
    rcases rz_if_t h with ⟨g, h⟩ | ⟨g, h⟩
    · exact Or.inl ⟨rz_lt.mpr (Nat.lt_of_not_le ((rz_ble).2.mp (rz_not_t.1.mp g))), h⟩
    · exact Or.inr ⟨fun q => Nat.not_lt.mpr ((rz_ble).1.mp (rz_not_t.2.mp g)) (rz_lt.mp q), h⟩
  refine lv_icmp_lt hx hb hd ht (fun q => ?_) (fun q => ?_)
  · rcases hc with ⟨g, h⟩ | ⟨g, h⟩
    · exact hj L U M h ls H locs hL hW hS h0
    · exact absurd q g
  · rcases hc with ⟨g, h⟩ | ⟨g, h⟩
    · exact absurd g q
    · exact hk L U M h ls H locs hL hW hS h0
noncomputable def rz_ifge (j : Nat) : rz_B := rz_if1 (fun x => Nat.ble 2147483648 (rz_off x)) j
noncomputable def rz_icmpge (j : Nat) : rz_B := rz_if2 (fun x y => Nat.ble (rz_off y) (rz_off x)) j
theorem rz_ifge_ok {j tgt : Nat} {off : Int} (hx : p.tables.exec = Jvm.exec) (hb : c.code = cc) (hd : decode cc pc = .ok (.ifCond .ge off, 3)) (ht : (pc : Int) + off = (tgt : Int)) (hk : rz_Ok G p l e R s m args below meth c Q nL nz0 (pc + 3) (k)) (hj : rz_Ok G p l e R s m args below meth c Q nL nz0 (tgt) (J j)) : rz_Ok G p l e R s m args below meth c Q nL nz0 (pc) (rz_ifge j k J Z) := by
  intro L S M h ls H locs hL hW hS h0
  replace h := rz_hd_t h
  obtain ⟨v, T, rfl, h⟩ := h
  replace h := rz_int_t h
  obtain ⟨x, rfl, h⟩ := h
  have hc : (nI 0 ≤ nI x ∧ J j L T M = true) ∨ (¬ nI 0 ≤ nI x ∧ k L T M = true) := by
    rcases rz_if_t h with ⟨g, h⟩ | ⟨g, h⟩
    · exact Or.inl ⟨rz_0le.mpr ((rz_ble).1.mp g), h⟩
    · exact Or.inr ⟨fun q => (rz_ble).2.mp g (rz_0le.mp q), h⟩
  refine lv_if_ge hx hb hd ht (fun q => ?_) (fun q => ?_)
  · rw [rz_nI0] at q
    rcases hc with ⟨g, h⟩ | ⟨g, h⟩
    · exact hj L T M h ls H locs hL hW hS h0
    · exact absurd q g
  · rw [rz_nI0] at q
    rcases hc with ⟨g, h⟩ | ⟨g, h⟩
    · exact absurd g q
    · exact hk L T M h ls H locs hL hW hS h0
theorem rz_icmpge_ok {j tgt : Nat} {off : Int} (hx : p.tables.exec = Jvm.exec) (hb : c.code = cc) (hd : decode cc pc = .ok (.if_icmp .ge off, 3)) (ht : (pc : Int) + off = (tgt : Int)) (hk : rz_Ok G p l e R s m args below meth c Q nL nz0 (pc + 3) (k)) (hj : rz_Ok G p l e R s m args below meth c Q nL nz0 (tgt) (J j)) : rz_Ok G p l e R s m args below meth c Q nL nz0 (pc) (rz_icmpge j k J Z) := by
  intro L S M h ls H locs hL hW hS h0
  replace h := rz_hd_t h
  obtain ⟨b, T, rfl, h⟩ := h
  replace h := rz_hd_t h
  obtain ⟨a, U, rfl, h⟩ := h
  replace h := rz_int_t h
  obtain ⟨y, rfl, h⟩ := h
  replace h := rz_int_t h
  obtain ⟨x, rfl, h⟩ := h
  have hc : (nI y ≤ nI x ∧ J j L U M = true) ∨ (¬ nI y ≤ nI x ∧ k L U M = true) := by
    rcases rz_if_t h with ⟨g, h⟩ | ⟨g, h⟩
    · exact Or.inl ⟨rz_le.mpr ((rz_ble).1.mp g), h⟩
    · exact Or.inr ⟨fun q => (rz_ble).2.mp g (rz_le.mp q), h⟩
  refine lv_icmp_ge hx hb hd ht (fun q => ?_) (fun q => ?_)
  · rcases hc with ⟨g, h⟩ | ⟨g, h⟩
    · exact hj L U M h ls H locs hL hW hS h0
    · exact absurd q g
  · rcases hc with ⟨g, h⟩ | ⟨g, h⟩
    · exact absurd g q
    · exact hk L U M h ls H locs hL hW hS h0
noncomputable def rz_ifgt (j : Nat) : rz_B := rz_if1 (fun x => Bool.not (Nat.ble (rz_off x) 2147483648)) j
noncomputable def rz_icmpgt (j : Nat) : rz_B := rz_if2 (fun x y => Bool.not (Nat.ble (rz_off x) (rz_off y))) j
theorem rz_ifgt_ok {j tgt : Nat} {off : Int} (hx : p.tables.exec = Jvm.exec) (hb : c.code = cc) (hd : decode cc pc = .ok (.ifCond .gt off, 3)) (ht : (pc : Int) + off = (tgt : Int)) (hk : rz_Ok G p l e R s m args below meth c Q nL nz0 (pc + 3) (k)) (hj : rz_Ok G p l e R s m args below meth c Q nL nz0 (tgt) (J j)) : rz_Ok G p l e R s m args below meth c Q nL nz0 (pc) (rz_ifgt j k J Z) := by
  intro L S M h ls H locs hL hW hS h0
  replace h := rz_hd_t h
  obtain ⟨v, T, rfl, h⟩ := h
  replace h := rz_int_t h
  obtain ⟨x, rfl, h⟩ := h
  have hc : (nI 0 < nI x ∧ J j L T M = true) ∨ (¬ nI 0 < nI x ∧ k L T M = true) := by
    rcases rz_if_t h with ⟨g, h⟩ | ⟨g, h⟩
    · exact Or.inl ⟨rz_0lt.mpr (Nat.lt_of_not_le ((rz_ble).2.mp (rz_not_t.1.mp g))), h⟩
    · exact Or.inr ⟨fun q => Nat.not_lt.mpr ((rz_ble).1.mp (rz_not_t.2.mp g)) (rz_0lt.mp q), h⟩
  refine lv_if_gt hx hb hd ht (fun q => ?_) (fun q => ?_)
  · rw [rz_nI0] at q
    rcases hc with ⟨g, h⟩ | ⟨g, h⟩
    · exact hj L T M h ls H locs hL hW hS h0
    · exact absurd q g
  · rw [rz_nI0] at q
    rcases hc with ⟨g, h⟩ | ⟨g, h⟩
    · exact absurd g q
    · exact hk L T M h ls H locs hL hW hS h0
theorem rz_icmpgt_ok {j tgt : Nat} {off : Int} (hx : p.tables.exec = Jvm.exec) (hb : c.code = cc) (hd : decode cc pc = .ok (.if_icmp .gt off, 3)) (ht : (pc : Int) + off = (tgt : Int)) (hk : rz_Ok G p l e R s m args below meth c Q nL nz0 (pc + 3) (k)) (hj : rz_Ok G p l e R s m args below meth c Q nL nz0 (tgt) (J j)) : rz_Ok G p l e R s m args below meth c Q nL nz0 (pc) (rz_icmpgt j k J Z) := by
  intro L S M h ls H locs hL hW hS h0
  replace h := rz_hd_t h
  obtain ⟨b, T, rfl, h⟩ := h
  replace h := rz_hd_t h
  obtain ⟨a, U, rfl, h⟩ := h
  replace h := rz_int_t h
  obtain ⟨y, rfl, h⟩ := h
  replace h := rz_int_t h
  obtain ⟨x, rfl, h⟩ := h
  have hc : (nI y < nI x ∧ J j L U M = true) ∨ (¬ nI y < nI x ∧ k L U M = true) := by
    rcases rz_if_t h with ⟨g, h⟩ | ⟨g, h⟩
    · exact Or.inl ⟨rz_lt.mpr (Nat.lt_of_not_le ((rz_ble).2.mp (rz_not_t.1.mp g))), h⟩
    · exact Or.inr ⟨fun q => Nat.not_lt.mpr ((rz_ble).1.mp (rz_not_t.2.mp g)) (rz_lt.mp q), h⟩
  refine lv_icmp_gt hx hb hd ht (fun q => ?_) (fun q => ?_)
  · rcases hc with ⟨g, h⟩ | ⟨g, h⟩
    · exact hj L U M h ls H locs hL hW hS h0
    · exact absurd q g
  · rcases hc with ⟨g, h⟩ | ⟨g, h⟩
    · exact absurd g q
    · exact hk L U M h ls H locs hL hW hS h0
noncomputable def rz_ifle (j : Nat) : rz_B := rz_if1 (fun x => Nat.ble (rz_off x) 2147483648) j
noncomputable def rz_icmple (j : Nat) : rz_B := rz_if2 (fun x y => Nat.ble (rz_off x) (rz_off y)) j
theorem rz_ifle_ok {j tgt : Nat} {off : Int} (hx : p.tables.exec = Jvm.exec) (hb : c.code = cc) (hd : decode cc pc = .ok (.ifCond .le off, 3)) (ht : (pc : Int) + off = (tgt : Int)) (hk : rz_Ok G p l e R s m args below meth c Q nL nz0 (pc + 3) (k)) (hj : rz_Ok G p l e R s m args below meth c Q nL nz0 (tgt) (J j)) : rz_Ok G p l e R s m args below meth c Q nL nz0 (pc) (rz_ifle j k J Z) := by
  intro L S M h ls H locs hL hW hS h0
  replace h := rz_hd_t h
  obtain ⟨v, T, rfl, h⟩ := h
  replace h := rz_int_t h
  obtain ⟨x, rfl, h⟩ := h
  have hc : (nI x ≤ nI 0 ∧ J j L T M = true) ∨ (¬ nI x ≤ nI 0 ∧ k L T M = true) := by
    rcases rz_if_t h with ⟨g, h⟩ | ⟨g, h⟩
    · exact Or.inl ⟨rz_le0.mpr ((rz_ble).1.mp g), h⟩
    · exact Or.inr ⟨fun q => (rz_ble).2.mp g (rz_le0.mp q), h⟩
  refine lv_if_le hx hb hd ht (fun q => ?_) (fun q => ?_)
  · rw [rz_nI0] at q
    rcases hc with ⟨g, h⟩ | ⟨g, h⟩
    · exact hj L T M h ls H locs hL hW hS h0
    · exact absurd q g
  · rw [rz_nI0] at q
    rcases hc with ⟨g, h⟩ | ⟨g, h⟩
    · exact absurd g q
    · exact hk L T M h ls H locs hL hW hS h0
theorem rz_icmple_ok {j tgt : Nat} {off : Int} (hx : p.tables.exec = Jvm.exec) (hb : c.code = cc) (hd : decode cc pc = .ok (.if_icmp .le off, 3)) (ht : (pc : Int) + off = (tgt : Int)) (hk : rz_Ok G p l e R s m args below meth c Q nL nz0 (pc + 3) (k)) (hj : rz_Ok G p l e R s m args below meth c Q nL nz0 (tgt) (J j)) : rz_Ok G p l e R s m args below meth c Q nL nz0 (pc) (rz_icmple j k J Z) := by
  intro L S M h ls H locs hL hW hS h0
  replace h := rz_hd_t h
  obtain ⟨b, T, rfl, h⟩ := h
  replace h := rz_hd_t h
  obtain ⟨a, U, rfl, h⟩ := h
  replace h := rz_int_t h
  obtain ⟨y, rfl, h⟩ := h
  replace h := rz_int_t h
  obtain ⟨x, rfl, h⟩ := h
  have hc : (nI x ≤ nI y ∧ J j L U M = true) ∨ (¬ nI x ≤ nI y ∧ k L U M = true) := by
    rcases rz_if_t h with ⟨g, h⟩ | ⟨g, h⟩
    · exact Or.inl ⟨rz_le.mpr ((rz_ble).1.mp g), h⟩
    · exact Or.inr ⟨fun q => (rz_ble).2.mp g (rz_le.mp q), h⟩
  refine lv_icmp_le hx hb hd ht (fun q => ?_) (fun q => ?_)
  · rcases hc with ⟨g, h⟩ | ⟨g, h⟩
    · exact hj L U M h ls H locs hL hW hS h0
    · exact absurd q g
  · rcases hc with ⟨g, h⟩ | ⟨g, h⟩
    · exact absurd g q
    · exact hk L U M h ls H locs hL hW hS h0
end RZA
