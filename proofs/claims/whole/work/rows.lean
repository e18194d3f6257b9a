section
/-! A small machine over numbers that the kernel runs; what it says of a frame holds of the real one (rz_S). Values: (tag, lo, hi): 0 an int (nI lo), 1 a long (lN lo), 2 the cell of place lo, 3 null, 4 some int between lo and hi (2^31 added). -/
abbrev rz_V : Type := Nat × Nat × Nat
abbrev rz_L : Type := List (Nat × rz_V)
/-- an entry: kind, length or class, contents, fields -/
abbrev rz_E : Type := Nat × Nat × Nat × List rz_V
abbrev rz_H : Type := List (List rz_E)
abbrev rz_K : Type := rz_V → Nat → rz_H → Bool
abbrev rz_J : Type := Nat → rz_L → List rz_V → Nat → rz_H → Nat → Nat → Bool
abbrev rz_B : Type := rz_L → List rz_V → Nat → rz_H → Nat → Nat → rz_J → rz_K → Bool
/-- a number is reckoned before it goes on -/
def rz_F (n : Nat) (k : Nat → Bool) : Bool := Nat.rec (k 0) (fun m _ => k (Nat.succ m)) n
theorem rz_F_eq (n : Nat) (k : Nat → Bool) : rz_F n k = k n := by cases n <;> rfl
theorem rz_nI_mod (n : Nat) : nI (n % 4294967296) = nI n := by
  unfold nI
  apply Int32.toBitVec_inj.mp
  apply BitVec.eq_of_toNat_eq
  simp [Int32.ofNat]
theorem rz_lN_mod (n : Nat) : lN (n % 18446744073709551616) = lN n := by
  unfold lN
  apply Int64.toBitVec_inj.mp
  apply BitVec.eq_of_toNat_eq
  simp [Int64.ofNat]
def rz_off (n : Nat) : Nat := Nat.mod (Nat.add n 2147483648) 4294967296
theorem rz_off_eq (n : Nat) : (nI n).toInt + 2147483648 = (rz_off n : Int) := by
  unfold rz_off nI
  show (Int32.ofNat n).toInt + 2147483648 = (((n + 2147483648) % 4294967296 : Nat) : Int)
  rw [Int32.toInt_ofNat']
  simp only [Int.bmod_def]
  split <;> omega
def rz_lo (v : rz_V) : Nat := match v with
  | (0, n, _) => rz_off n
  | (_, n, _) => n
def rz_hi (v : rz_V) : Nat := match v with
  | (0, n, _) => rz_off n
  | (_, _, n) => n
def rz_isI (v : rz_V) : Bool := match v with
  | (0, _, _) => true
  | (4, _, _) => true
  | _ => false
def rz_ad (ws : va_W) (k a : Nat) : Prop := ∃ E : va_E, ws[k]? = some (a, E)
def rz_vr (ws : va_W) (v : rz_V) (x : Value) : Prop := match v with
  | (0, n, _) => x = .int (nI n)
  | (1, n, _) => x = .long (lN n)
  | (2, k, _) => ∃ a, rz_ad ws k a ∧ x = .ref a
  | (3, _, _) => x = .null
  | (4, lo, hi) => ∃ z : Int32, x = .int z ∧ (lo : Int) ≤ z.toInt + 2147483648 ∧ z.toInt + 2147483648 ≤ (hi : Int)
  | _ => False
def rz_ext (w w' : va_W) : Prop := ∀ k a, rz_ad w k a → rz_ad w' k a
theorem rz_ext.rf {w : va_W} : rz_ext w w := fun _ _ h => h
theorem rz_ext.tr {a b c : va_W} (h : rz_ext a b) (h2 : rz_ext b c) : rz_ext a c := fun k x q => h2 k x (h k x q)
theorem rz_vr.ext {w w' : va_W} (h : rz_ext w w') {v : rz_V} {x : Value} (q : rz_vr w v x) : rz_vr w' v x := by
  unfold rz_vr at q ⊢
  split at q
  · exact q
  · exact q
  · obtain ⟨a, h1, h2⟩ := q
    exact ⟨a, h _ _ h1, h2⟩
  · exact q
  · exact q
  · exact q
theorem rz_int {ws : va_W} {v : rz_V} {x : Value} (h : rz_vr ws v x) (hi : rz_isI v = true) : ∃ z : Int32, x = .int z ∧ (rz_lo v : Int) ≤ z.toInt + 2147483648 ∧ z.toInt + 2147483648 ≤ (rz_hi v : Int) := by
  unfold rz_isI at hi
  split at hi
  · rename_i n b
    exact ⟨nI n, h, by rw [rz_off_eq]; exact Int.le_refl _, by rw [rz_off_eq]; exact Int.le_refl _⟩
  · exact h
  · cases hi
def rz_top : rz_V := (4, 0, 4294967295)
theorem rz_vtop (ws : va_W) (z : Int32) : rz_vr ws rz_top (.int z) := ⟨z, rfl, by have := z.le_toInt; simp at this ⊢; omega, by have := z.toInt_lt; simp at this ⊢; omega⟩
/-- locals: the same places -/
def rz_lr (ws : va_W) : rz_L → List (Nat × Value) → Prop
  | [], [] => True
  | q :: t, r :: u => q.1 = r.1 ∧ rz_vr ws q.2 r.2 ∧ rz_lr ws t u
  | _, _ => False
def rz_sr (ws : va_W) : List rz_V → List Value → Prop
  | [], [] => True
  | q :: t, r :: u => rz_vr ws q r ∧ rz_sr ws t u
  | _, _ => False
theorem rz_lr.ext {w w' : va_W} (h : rz_ext w w') : ∀ {a : rz_L} {b : List (Nat × Value)}, rz_lr w a b → rz_lr w' a b
  | [], [], q => q
  | _ :: _, _ :: _, q => ⟨q.1, q.2.1.ext h, rz_lr.ext h q.2.2⟩
  | [], _ :: _, q => q.elim
  | _ :: _, [], q => q.elim
theorem rz_sr.ext {w w' : va_W} (h : rz_ext w w') : ∀ {a : List rz_V} {b : List Value}, rz_sr w a b → rz_sr w' a b
  | [], [], q => q
  | _ :: _, _ :: _, q => ⟨q.1.ext h, rz_sr.ext h q.2⟩
  | [], _ :: _, q => q.elim
  | _ :: _, [], q => q.elim
theorem rz_sr.cons {ws : va_W} {v : rz_V} {t : List rz_V} {b : List Value} (h : rz_sr ws (v :: t) b) : ∃ x u, b = x :: u ∧ rz_vr ws v x ∧ rz_sr ws t u := by
  cases b with
  | nil => exact h.elim
  | cons x u => exact ⟨x, u, rfl, h.1, h.2⟩
theorem rz_sr.nil {ws : va_W} {b : List Value} (h : rz_sr ws [] b) : b = [] := by
  cases b with
  | nil => rfl
  | cons x u => exact h.elim
def rz_look : rz_L → Nat → (rz_V → Bool) → Bool
  | [], _, _ => false
  | q :: t, i, k => match Nat.beq q.1 i with
    | true => k q.2
    | false => rz_look t i k
theorem rz_look_spec {i : Nat} {k : rz_V → Bool} : ∀ {lv : rz_L}, rz_look lv i k = true → ∃ (j : Nat) (v : rz_V), lv[j]? = some (i, v) ∧ k v = true
  | [], h => by simp [rz_look] at h
  | q :: t, h => by
    unfold rz_look at h
    split at h
    · rename_i hq
      have e : q.1 = i := Nat.eq_of_beq_eq_true hq
      exact ⟨0, q.2, by rw [← e]; rfl, h⟩
    · obtain ⟨j, v, h1, h2⟩ := rz_look_spec h
      exact ⟨j + 1, v, by simpa using h1, h2⟩
theorem rz_lr_at {ws : va_W} : ∀ {a : rz_L} {b : List (Nat × Value)}, rz_lr ws a b → ∀ {j i : Nat} {v : rz_V}, a[j]? = some (i, v) → ∃ x, b[j]? = some (i, x) ∧ rz_vr ws v x
  | [], [], _, j, i, v, h => by simp at h
  | q :: t, r :: u, hh, 0, i, v, h => by
    simp at h
    subst h
    obtain ⟨h1, h2, -⟩ := hh
    exact ⟨r.2, by simp at h1 ⊢; rw [h1], h2⟩
  | q :: t, r :: u, hh, j + 1, i, v, h => by
    simp at h
    obtain ⟨x, h1, h2⟩ := rz_lr_at hh.2.2 h
    exact ⟨x, by simpa using h1, h2⟩
  | [], _ :: _, hh, _, _, _, _ => hh.elim
  | _ :: _, [], hh, _, _, _, _ => hh.elim
def rz_is2 (v : rz_V) : Bool := match v with
  | (1, _, _) => true
  | _ => false
theorem rz_cat {ws : va_W} {v : rz_V} {x : Value} (h : rz_vr ws v x) : (x.category == 2) = rz_is2 v := by
  unfold rz_vr at h
  split at h
  · subst h; rfl
  · subst h; rfl
  · obtain ⟨a, -, h⟩ := h; subst h; rfl
  · subst h; rfl
  · obtain ⟨a, h, -⟩ := h; subst h; rfl
  · exact h.elim
theorem rz_cat1 {ws : va_W} {v : rz_V} {x : Value} (h : rz_vr ws v x) (h2 : rz_is2 v = false) : x.category = 1 := by
  unfold rz_vr at h
  split at h
  · subst h; rfl
  · cases h2
  · obtain ⟨a, -, h⟩ := h; subst h; rfl
  · subst h; rfl
  · obtain ⟨a, h, -⟩ := h; subst h; rfl
  · exact h.elim
/-- what a store of one word at i leaves -/
def rz_keep (i : Nat) (q : Nat × rz_V) : Bool := match Nat.beq q.1 i with
  | true => false
  | false => match Nat.beq (Nat.succ q.1) i with
    | true => !(rz_is2 q.2)
    | false => true
def rz_flt : rz_L → (Nat × rz_V → Bool) → (rz_L → Bool) → Bool
  | [], _, k => k []
  | q :: t, g, k => match g q with
    | true => rz_flt t g (fun r => k (q :: r))
    | false => rz_flt t g k
theorem rz_flt_eq {g : Nat × rz_V → Bool} : ∀ {lv : rz_L} {k : rz_L → Bool}, rz_flt lv g k = k (lv.filter g)
  | [], k => rfl
  | q :: t, k => by
    unfold rz_flt
    cases hg : g q with
    | true => simp only [List.filter_cons, hg, if_true]; exact rz_flt_eq
    | false => simp [List.filter_cons, hg]; exact rz_flt_eq
theorem rz_keep_eq {ws : va_W} {i : Nat} {q : Nat × rz_V} {r : Nat × Value} (h1 : q.1 = r.1) (h2 : rz_vr ws q.2 r.2) : rz_keep i q = (!(r.1 == i) && !(r.1 + 1 == i && r.2.category == 2)) := by
  unfold rz_keep
  rw [rz_cat h2, ← h1]
  cases hb : Nat.beq q.1 i with
  | true => simp [Nat.eq_of_beq_eq_true hb]
  | false =>
    have hn : ¬ q.1 = i := fun h => by rw [h, Nat.beq_refl] at hb; cases hb
    cases hc : Nat.beq (Nat.succ q.1) i with
    | true =>
      have e := Nat.eq_of_beq_eq_true hc
      have e2 : q.1 + 1 = i := e
      simp [hn, e2]
    | false =>
      have hm : ¬ q.1 + 1 = i := fun h => by
        have h' : Nat.succ q.1 = i := h
        rw [h', Nat.beq_refl] at hc; cases hc
      simp [hn, hm]
theorem rz_lr_flt {ws : va_W} {g : Nat × rz_V → Bool} {g' : Nat × Value → Bool} (hg : ∀ (q : Nat × rz_V) (r : Nat × Value), q.1 = r.1 → rz_vr ws q.2 r.2 → g q = g' r) : ∀ {a : rz_L} {b : List (Nat × Value)}, rz_lr ws a b → rz_lr ws (a.filter g) (b.filter g')
  | [], [], _ => True.intro
  | q :: t, r :: u, h => by
    have e := hg q r h.1 h.2.1
    simp only [List.filter_cons, e]
    split
    · exact ⟨h.1, h.2.1, rz_lr_flt hg h.2.2⟩
    · exact rz_lr_flt hg h.2.2
  | [], _ :: _, hh => hh.elim
  | _ :: _, [], hh => hh.elim
end
section
/-! What a run of the small machine says of the real one: the frame's goal (rz_G), a stretch of code (rz_S), row by row. -/
def rz_at (hp : rz_H) (k : Nat) : Option rz_E := match hp[k / 16]? with
  | some r => r[k % 16]?
  | none => none
section RZ
variable (p : Program) (l : Launch) (e : Env) (R : Room) (s : State) (m : MethodId) (args : Array Value) (below : List Frame) (meth : Method) (c : Code) (nL : Nat) (D : va_G) (cl : List vw_C) (A : Nat → Prop) (H0 : Heap) (ws0 : va_W) (er : va_W → rz_E → va_E → Prop) (Q : State → Prop)
def rz_rep (ws : va_W) (n : Nat) (hp : rz_H) : Prop := ws.length = n ∧ ∀ k, k < n → ∃ ent a E, rz_at hp k = some ent ∧ ws[k]? = some (a, E) ∧ er ws ent E
def rz_G (pc : Nat) (lv : rz_L) (st : List rz_V) (n : Nat) (hp : rz_H) (cn sn : Nat) : Prop :=
  ∀ (ws : va_W) (H : Heap) (locs : List Loc) (ls : Array Slot) (lvA : List (Nat × Value)) (stA : List Value), rz_lr ws lv lvA → lv_has ls nL lvA → rz_sr ws st stA → rz_rep er ws n hp → va_P D cl ws H → va_D A ws → va_S A H0 H locs → rz_ext ws0 ws →
    W p l e R s m args below meth c H locs cn sn Q (F0 m pc ls stA)
/-- a stretch of code from pc on: where its run is true, the frame's goal holds; T gives the places of the blocks to which it jumps -/
def rz_S (K : rz_K) (T : Nat → Nat) (pc : Nat) (f : rz_B) : Prop :=
  ∀ (lv : rz_L) (st : List rz_V) (n : Nat) (hp : rz_H) (cn sn : Nat) (J : rz_J), f lv st n hp cn sn J K = true →
    (∀ b lv st n hp cn sn, J b lv st n hp cn sn = true → rz_G p l e R s m args below meth c nL D cl A H0 ws0 er Q (T b) lv st n hp cn sn) →
    rz_G p l e R s m args below meth c nL D cl A H0 ws0 er Q pc lv st n hp cn sn
end RZ
-- the instructions of the small machine
def rz_iconst (v : Nat) (f : rz_B) : rz_B := fun lv st n hp cn sn J K => f lv ((0, v, 0) :: st) n hp cn sn J K
def rz_lconst (v : Nat) (f : rz_B) : rz_B := fun lv st n hp cn sn J K => f lv ((1, v, 0) :: st) n hp cn sn J K
def rz_null (f : rz_B) : rz_B := fun lv st n hp cn sn J K => f lv ((3, 0, 0) :: st) n hp cn sn J K
def rz_load (i : Nat) (g : rz_V → Bool) (f : rz_B) : rz_B := fun lv st n hp cn sn J K => rz_look lv i (fun v => match g v with
  | true => f lv (v :: st) n hp cn sn J K
  | false => false)
def rz_isL (v : rz_V) : Bool := rz_is2 v
def rz_isR (v : rz_V) : Bool := match v with
  | (2, _, _) => true
  | _ => false
def rz_isN (v : rz_V) : Bool := match v with
  | (3, _, _) => true
  | _ => false
def rz_store (i : Nat) (g : rz_V → Bool) (f : rz_B) : rz_B := fun lv st n hp cn sn J K => match st with
  | v :: r => match g v with
    | true => rz_flt lv (rz_keep i) (fun t => f ((i, v) :: t) r n hp cn sn J K)
    | false => false
  | [] => false
def rz_bin (g : Nat → Nat → Nat) (f : rz_B) : rz_B := fun lv st n hp cn sn J K => match st with
  | (0, y, _) :: (0, x, _) :: r => rz_F (g x y) (fun z => f lv ((0, z, 0) :: r) n hp cn sn J K)
  | a :: b :: r => match rz_isI a with
    | true => match rz_isI b with
      | true => f lv (rz_top :: r) n hp cn sn J K
      | false => false
    | false => false
  | _ => false
def rz_goto (b : Nat) : rz_B := fun lv st n hp cn sn J _ => J b lv st n hp cn sn
/-- 1 it is so, 0 it is not, 2 it may be -/
def rz_cle (x y : rz_V) : Nat := match Nat.ble (rz_hi x) (rz_lo y) with
  | true => 1
  | false => match Nat.ble (rz_lo x) (rz_hi y) with
    | true => 2
    | false => 0
def rz_clt (x y : rz_V) : Nat := match Nat.ble (Nat.succ (rz_hi x)) (rz_lo y) with
  | true => 1
  | false => match Nat.ble (rz_hi y) (rz_lo x) with
    | true => 0
    | false => 2
def rz_br (o : Nat) (t f : Bool) : Bool := match o with
  | 0 => f
  | 1 => t
  | _ => match t with
    | true => f
    | false => false
theorem rz_br_t {o : Nat} {t f : Bool} (h : rz_br o t f = true) (ho : o ≠ 0) : t = true := by
  unfold rz_br at h
  split at h
  · exact absurd rfl ho
  · exact h
  · cases t with
    | true => rfl
    | false => cases h
theorem rz_br_f {o : Nat} {t f : Bool} (h : rz_br o t f = true) (ho : o ≠ 1) : f = true := by
  unfold rz_br at h
  split at h
  · exact h
  · exact absurd rfl ho
  · cases t with
    | true => exact h
    | false => cases h
theorem rz_cle_t {ws : va_W} {x y : rz_V} {a b : Int32} (hx : (rz_lo x : Int) ≤ a.toInt + 2147483648 ∧ a.toInt + 2147483648 ≤ (rz_hi x : Int)) (hy : (rz_lo y : Int) ≤ b.toInt + 2147483648 ∧ b.toInt + 2147483648 ≤ (rz_hi y : Int)) (h : a ≤ b) : rz_cle x y ≠ 0 := by
  have h' := Int32.le_iff_toInt_le.mp h
  unfold rz_cle
  split
  · decide
  · split
    · decide
    · rename_i hb
      exfalso
      have : Nat.ble (rz_lo x) (rz_hi y) = true := Nat.ble_eq.mpr (by omega)
      rw [this] at hb
      cases hb
theorem rz_cle_f {ws : va_W} {x y : rz_V} {a b : Int32} (hx : (rz_lo x : Int) ≤ a.toInt + 2147483648 ∧ a.toInt + 2147483648 ≤ (rz_hi x : Int)) (hy : (rz_lo y : Int) ≤ b.toInt + 2147483648 ∧ b.toInt + 2147483648 ≤ (rz_hi y : Int)) (h : ¬ a ≤ b) : rz_cle x y ≠ 1 := by
  have h' : ¬ a.toInt ≤ b.toInt := fun q => h (Int32.le_iff_toInt_le.mpr q)
  unfold rz_cle
  split
  · rename_i hb
    have := Nat.ble_eq.mp hb
    omega
  · split <;> decide
theorem rz_clt_t {ws : va_W} {x y : rz_V} {a b : Int32} (hx : (rz_lo x : Int) ≤ a.toInt + 2147483648 ∧ a.toInt + 2147483648 ≤ (rz_hi x : Int)) (hy : (rz_lo y : Int) ≤ b.toInt + 2147483648 ∧ b.toInt + 2147483648 ≤ (rz_hi y : Int)) (h : a < b) : rz_clt x y ≠ 0 := by
  have h' := Int32.lt_iff_toInt_lt.mp h
  unfold rz_clt
  split
  · decide
  · split
    · rename_i hb
      have := Nat.ble_eq.mp hb
      omega
    · decide
theorem rz_clt_f {ws : va_W} {x y : rz_V} {a b : Int32} (hx : (rz_lo x : Int) ≤ a.toInt + 2147483648 ∧ a.toInt + 2147483648 ≤ (rz_hi x : Int)) (hy : (rz_lo y : Int) ≤ b.toInt + 2147483648 ∧ b.toInt + 2147483648 ≤ (rz_hi y : Int)) (h : ¬ a < b) : rz_clt x y ≠ 1 := by
  have h' : ¬ a.toInt < b.toInt := fun q => h (Int32.lt_iff_toInt_lt.mpr q)
  unfold rz_clt
  split
  · rename_i hb
    have h3 : rz_hi x + 1 ≤ rz_lo y := Nat.ble_eq.mp hb
    omega
  · split <;> decide
/-- if_icmp: o tells of (below, topmost) -/
def rz_icmp (o : rz_V → rz_V → Nat) (b : Nat) (f : rz_B) : rz_B := fun lv st n hp cn sn J K => match st with
  | y :: x :: r => match rz_isI y with
    | true => match rz_isI x with
      | true => rz_br (o x y) (J b lv r n hp cn sn) (f lv r n hp cn sn J K)
      | false => false
    | false => false
  | _ => false
def rz_if (o : rz_V → Nat) (b : Nat) (f : rz_B) : rz_B := fun lv st n hp cn sn J K => match st with
  | x :: r => match rz_isI x with
    | true => rz_br (o x) (J b lv r n hp cn sn) (f lv r n hp cn sn J K)
    | false => false
  | _ => false
section RZ2
variable {p : Program} {l : Launch} {e : Env} {R : Room} {s : State} {m : MethodId} {args : Array Value} {below : List Frame} {meth : Method} {c : Code} {nL : Nat} {D : va_G} {cl : List vw_C} {A : Nat → Prop} {H0 : Heap} {ws0 : va_W} {er : va_W → rz_E → va_E → Prop} {Q : State → Prop}
variable {K : rz_K} {T : Nat → Nat} {pc pc' : Nat} {f : rz_B} {cc : ByteArray}
theorem rz_s_goto {off : Int} {b : Nat} (hx : p.tables.exec = Jvm.exec) (hb : c.code = cc) (hd : decode cc pc = .ok (.goto off, 3)) (ht : (pc : Int) + off = (T b : Int)) : rz_S p l e R s m args below meth c nL D cl A H0 ws0 er Q K T pc (rz_goto b) := by
  intro lv st n hp cn sn J h hJ ws H locs ls lvA stA q1 q2 q3 q4 q5 q6 q7 q8
  exact lv_goto (tgt := T b) hx hb hd ht (hJ b lv st n hp cn sn h ws H locs ls lvA stA q1 q2 q3 q4 q5 q6 q7 q8)
theorem rz_s_iconst {i : Int} {v : Nat} (hx : p.tables.exec = Jvm.exec) (hb : c.code = cc) (hd : decode cc pc = .ok (.iconst i, 1)) (hv : Int32.ofInt i = nI v) (he : pc + 1 = pc') (h : rz_S p l e R s m args below meth c nL D cl A H0 ws0 er Q K T pc' f) : rz_S p l e R s m args below meth c nL D cl A H0 ws0 er Q K T pc (rz_iconst v f) := by
  subst he
  intro lv st n hp cn sn J hr hJ ws H locs ls lvA stA q1 q2 q3 q4 q5 q6 q7 q8
  exact lv_iconst hx hb hd hv (h lv _ n hp cn sn J hr hJ ws H locs ls lvA (.int (nI v) :: stA) q1 q2 ⟨rfl, q3⟩ q4 q5 q6 q7 q8)
theorem rz_s_iload {i : Nat} (hx : p.tables.exec = Jvm.exec) (hb : c.code = cc) (hd : decode cc pc = .ok (.iload i, 2)) (he : pc + 2 = pc') (h : rz_S p l e R s m args below meth c nL D cl A H0 ws0 er Q K T pc' f) : rz_S p l e R s m args below meth c nL D cl A H0 ws0 er Q K T pc (rz_load i rz_isI f) := by
  subst he
  intro lv st n hp cn sn J hr hJ ws H locs ls lvA stA q1 q2 q3 q4 q5 q6 q7 q8
  obtain ⟨j, v, h1, h2⟩ := rz_look_spec hr
  obtain ⟨x, h3, h4⟩ := rz_lr_at q1 h1
  cases hi : rz_isI v with
  | false => simp [hi] at h2
  | true =>
    simp only [hi] at h2
    obtain ⟨z, rfl, -⟩ := rz_int h4 hi
    exact lv_iload hx hb hd (lv_at q2 j h3) (h lv _ n hp cn sn J h2 hJ ws H locs ls lvA (.int z :: stA) q1 q2 ⟨h4, q3⟩ q4 q5 q6 q7 q8)
theorem rz_s_istore {i : Nat} (hx : p.tables.exec = Jvm.exec) (hb : c.code = cc) (hd : decode cc pc = .ok (.istore i, 2)) (hn : i < nL) (he : pc + 2 = pc') (h : rz_S p l e R s m args below meth c nL D cl A H0 ws0 er Q K T pc' f) : rz_S p l e R s m args below meth c nL D cl A H0 ws0 er Q K T pc (rz_store i rz_isI f) := by
  subst he
  intro lv st n hp cn sn J hr hJ ws H locs ls lvA stA q1 q2 q3 q4 q5 q6 q7 q8
  unfold rz_store at hr
  cases st with
  | nil => cases hr
  | cons v r =>
    obtain ⟨x, u, rfl, h4, q3'⟩ := q3.cons
    cases hi : rz_isI v with
    | false => simp [hi] at hr
    | true =>
      simp only [hi] at hr
      rw [rz_flt_eq] at hr
      obtain ⟨z, rfl, -⟩ := rz_int h4 hi
      refine lv_istore hx hb hd q2 hn rfl (fun ls' hl => ?_)
      exact h _ r n hp cn sn J hr hJ ws H locs ls' _ u ⟨rfl, h4, rz_lr_flt (fun q r' e1 e2 => rz_keep_eq e1 e2) q1⟩ hl q3' q4 q5 q6 q7 q8
theorem rz_s_bin {g : Nat → Nat → Nat} {G : Int32 → Int32 → Int32} (row : ∀ (H : Heap) (locs : List Loc) (cn sn : Nat) (ls : Array Slot) (rest : List Value) (x y : Int32), W p l e R s m args below meth c H locs cn sn Q (F0 m (pc + 1) ls (.int (G x y) :: rest)) → W p l e R s m args below meth c H locs cn sn Q (F0 m pc ls (.int y :: .int x :: rest)))
    (hg : ∀ a b : Nat, G (nI a) (nI b) = nI (g a b)) (he : pc + 1 = pc') (h : rz_S p l e R s m args below meth c nL D cl A H0 ws0 er Q K T pc' f) : rz_S p l e R s m args below meth c nL D cl A H0 ws0 er Q K T pc (rz_bin g f) := by
  subst he
  intro lv st n hp cn sn J hr hJ ws H locs ls lvA stA q1 q2 q3 q4 q5 q6 q7 q8
  unfold rz_bin at hr
  split at hr
  · rename_i y _ x _ r
    obtain ⟨y', u, rfl, h4, q3⟩ := q3.cons
    obtain ⟨x', u, rfl, h5, q3⟩ := q3.cons
    cases (show y' = .int (nI y) from h4)
    cases (show x' = .int (nI x) from h5)
    rw [rz_F_eq] at hr
    exact row H locs cn sn ls u (nI x) (nI y) (h lv _ n hp cn sn J hr hJ ws H locs ls lvA _ q1 q2 ⟨by rw [hg]; rfl, q3⟩ q4 q5 q6 q7 q8)
  · rename_i a b r _
    obtain ⟨y', u, rfl, h4, q3⟩ := q3.cons
    obtain ⟨x', u, rfl, h5, q3⟩ := q3.cons
    cases ha : rz_isI a with
    | false => simp [ha] at hr
    | true =>
      cases hb2 : rz_isI b with
      | false => simp [ha, hb2] at hr
      | true =>
        simp only [ha, hb2] at hr
        obtain ⟨y, rfl, -⟩ := rz_int h4 ha
        obtain ⟨x, rfl, -⟩ := rz_int h5 hb2
        exact row H locs cn sn ls u x y (h lv _ n hp cn sn J hr hJ ws H locs ls lvA _ q1 q2 ⟨rz_vtop ws _, q3⟩ q4 q5 q6 q7 q8)
  · cases hr
theorem rz_s_iadd (hx : p.tables.exec = Jvm.exec) (hb : c.code = cc) (hd : decode cc pc = .ok (.iadd, 1)) (he : pc + 1 = pc') (h : rz_S p l e R s m args below meth c nL D cl A H0 ws0 er Q K T pc' f) : rz_S p l e R s m args below meth c nL D cl A H0 ws0 er Q K T pc (rz_bin (fun a b => Nat.mod (Nat.add a b) 4294967296) f) :=
  rz_s_bin (G := fun x y => x + y) (fun H locs cn sn ls rest x y k => lv_iadd hx hb hd k) (fun a b => by rw [nI_add]; exact (rz_nI_mod (a + b)).symm) he h
theorem rz_s_icmp {o : rz_V → rz_V → Nat} {P : Int32 → Int32 → Prop} {b : Nat} (row : ∀ (H : Heap) (locs : List Loc) (cn sn : Nat) (ls : Array Slot) (rest : List Value) (x y : Int32), (P x y → W p l e R s m args below meth c H locs cn sn Q (F0 m (T b) ls rest)) → (¬ P x y → W p l e R s m args below meth c H locs cn sn Q (F0 m (pc + 3) ls rest)) → W p l e R s m args below meth c H locs cn sn Q (F0 m pc ls (.int y :: .int x :: rest)))
    (ht : ∀ (x y : rz_V) (a b : Int32), (rz_lo x : Int) ≤ a.toInt + 2147483648 ∧ a.toInt + 2147483648 ≤ (rz_hi x : Int) → (rz_lo y : Int) ≤ b.toInt + 2147483648 ∧ b.toInt + 2147483648 ≤ (rz_hi y : Int) → P a b → o x y ≠ 0)
    (hf : ∀ (x y : rz_V) (a b : Int32), (rz_lo x : Int) ≤ a.toInt + 2147483648 ∧ a.toInt + 2147483648 ≤ (rz_hi x : Int) → (rz_lo y : Int) ≤ b.toInt + 2147483648 ∧ b.toInt + 2147483648 ≤ (rz_hi y : Int) → ¬ P a b → o x y ≠ 1)
    (he : pc + 3 = pc') (h : rz_S p l e R s m args below meth c nL D cl A H0 ws0 er Q K T pc' f) : rz_S p l e R s m args below meth c nL D cl A H0 ws0 er Q K T pc (rz_icmp o b f) := by
  subst he
  intro lv st n hp cn sn J hr hJ ws H locs ls lvA stA q1 q2 q3 q4 q5 q6 q7 q8
  unfold rz_icmp at hr
  split at hr
  · rename_i y x r
    obtain ⟨y', u, rfl, h4, q3⟩ := q3.cons
    obtain ⟨x', u, rfl, h5, q3⟩ := q3.cons
    cases ha : rz_isI y with
    | false => simp [ha] at hr
    | true =>
      cases hb2 : rz_isI x with
      | false => simp [ha, hb2] at hr
      | true =>
        simp only [ha, hb2] at hr
        obtain ⟨yz, rfl, hy⟩ := rz_int h4 ha
        obtain ⟨xz, rfl, hxx⟩ := rz_int h5 hb2
        exact row H locs cn sn ls u xz yz
          (fun hp1 => hJ b lv r n hp cn sn (rz_br_t hr (ht x y xz yz hxx hy hp1)) ws H locs ls lvA u q1 q2 q3 q4 q5 q6 q7 q8)
          (fun hp1 => h lv r n hp cn sn J (rz_br_f hr (hf x y xz yz hxx hy hp1)) hJ ws H locs ls lvA u q1 q2 q3 q4 q5 q6 q7 q8)
  · cases hr
theorem rz_s_icmp_ge {b : Nat} {off : Int} (hx : p.tables.exec = Jvm.exec) (hb : c.code = cc) (hd : decode cc pc = .ok (.if_icmp .ge off, 3)) (ht : (pc : Int) + off = (T b : Int)) (he : pc + 3 = pc') (h : rz_S p l e R s m args below meth c nL D cl A H0 ws0 er Q K T pc' f) : rz_S p l e R s m args below meth c nL D cl A H0 ws0 er Q K T pc (rz_icmp (fun x y => rz_cle y x) b f) :=
  rz_s_icmp (P := fun x y => y ≤ x) (fun H locs cn sn ls rest x y k1 k2 => lv_icmp_ge hx hb hd ht k1 k2) (fun x y a b h1 h2 h3 => rz_cle_t (ws := []) h2 h1 h3) (fun x y a b h1 h2 h3 => rz_cle_f (ws := []) h2 h1 h3) he h
end RZ2
end
