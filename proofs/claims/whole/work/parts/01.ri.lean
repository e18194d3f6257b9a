/-! A small machine over numbers that the kernel runs; what it says of a frame holds of the real one (rz_S). Values: (tag, lo, hi): 0 an int (nI lo), 1 a long (lN lo), 2 the cell of place lo, 3 null, 4 some int between lo and hi (2^31 added). -/
abbrev rz_V : Type := Nat × Nat × Nat
abbrev rz_L : Type := List (Nat × rz_V)
/-- an entry: kind, length or class, contents, fields -/
abbrev rz_E : Type := Nat × Nat × Nat × List rz_V
abbrev rz_H : Type := List (List rz_E)
abbrev rz_K : Type := rz_V → Nat → rz_H → Bool
abbrev rz_J : Type := Nat → rz_L → List rz_V → Nat → rz_H → Nat → Nat → Bool
abbrev rz_B : Type := rz_L → List rz_V → Nat → rz_H → Nat → Nat → rz_J → rz_K → Bool
/-- a number is reckoned before it goes on -/
def rz_F (n : Nat) (k : Nat → Bool) : Bool := Nat.rec (k 0) (fun m _ => k (Nat.succ m)) n
theorem rz_F_eq (n : Nat) (k : Nat → Bool) : rz_F n k = k n := by cases n <;> rfl
theorem rz_nI_mod (n : Nat) : nI (n % 4294967296) = nI n := by
  unfold nI
  apply Int32.toBitVec_inj.mp
  apply BitVec.eq_of_toNat_eq
  simp [Int32.ofNat]
theorem rz_lN_mod (n : Nat) : lN (n % 18446744073709551616) = lN n := by
  unfold lN
  apply Int64.toBitVec_inj.mp
  apply BitVec.eq_of_toNat_eq
  simp [Int64.ofNat]
def rz_off (n : Nat) : Nat := Nat.mod (Nat.add n 2147483648) 4294967296
theorem rz_off_eq (n : Nat) : (nI n).toInt + 2147483648 = (rz_off n : Int) := by
  unfold rz_off nI
  show (Int32.ofNat n).toInt + 2147483648 = (((n + 2147483648) % 4294967296 : Nat) : Int)
  rw [Int32.toInt_ofNat']
  simp only [Int.bmod_def]
  split <;> omega
def rz_lo (v : rz_V) : Nat := match v with
  | (0, n, _) => rz_off n
  | (_, n, _) => n
def rz_hi (v : rz_V) : Nat := match v with
  | (0, n, _) => rz_off n
  | (_, _, n) => n
def rz_isI (v : rz_V) : Bool := match v with
  | (0, _, _) => true
  | (4, _, _) => true
  | _ => false
def rz_ad (ws : va_W) (k a : Nat) : Prop := ∃ E : va_E, ws[k]? = some (a, E)
def rz_vr (ws : va_W) (v : rz_V) (x : Value) : Prop := match v with
  | (0, n, _) => x = .int (nI n)
  | (1, n, _) => x = .long (lN n)
  | (2, k, _) => ∃ a, rz_ad ws k a ∧ x = .ref a
  | (3, _, _) => x = .null
  | (4, lo, hi) => ∃ z : Int32, x = .int z ∧ (lo : Int) ≤ z.toInt + 2147483648 ∧ z.toInt + 2147483648 ≤ (hi : Int)
  | _ => False
def rz_ext (w w' : va_W) : Prop := ∀ k a, rz_ad w k a → rz_ad w' k a
theorem rz_ext.rf {w : va_W} : rz_ext w w := fun _ _ h => h
theorem rz_ext.tr {a b c : va_W} (h : rz_ext a b) (h2 : rz_ext b c) : rz_ext a c := fun k x q => h2 k x (h k x q)
theorem rz_vr.ext {w w' : va_W} (h : rz_ext w w') {v : rz_V} {x : Value} (q : rz_vr w v x) : rz_vr w' v x := by
  unfold rz_vr at q ⊢
  split at q
  · exact q
  · exact q
  · obtain ⟨a, h1, h2⟩ := q
    exact ⟨a, h _ _ h1, h2⟩
  · exact q
  · exact q
  · exact q
theorem rz_int {ws : va_W} {v : rz_V} {x : Value} (h : rz_vr ws v x) (hi : rz_isI v = true) : ∃ z : Int32, x = .int z ∧ (rz_lo v : Int) ≤ z.toInt + 2147483648 ∧ z.toInt + 2147483648 ≤ (rz_hi v : Int) := by
  unfold rz_isI at hi
  split at hi
  · rename_i n b
    exact ⟨nI n, h, by rw [rz_off_eq]; exact Int.le_refl _, by rw [rz_off_eq]; exact Int.le_refl _⟩
  · exact h
  · cases hi
def rz_top : rz_V := (4, 0, 4294967295)
theorem rz_vtop (ws : va_W) (z : Int32) : rz_vr ws rz_top (.int z) := ⟨z, rfl, by have := z.le_toInt; simp at this ⊢; omega, by have := z.toInt_lt; simp at this ⊢; omega⟩
/-- locals: the same places -/
def rz_lr (ws : va_W) : rz_L → List (Nat × Value) → Prop
  | [], [] => True
  | q :: t, r :: u => q.1 = r.1 ∧ rz_vr ws q.2 r.2 ∧ rz_lr ws t u
  | _, _ => False
def rz_sr (ws : va_W) : List rz_V → List Value → Prop
  | [], [] => True
  | q :: t, r :: u => rz_vr ws q r ∧ rz_sr ws t u
  | _, _ => False
theorem rz_lr.ext {w w' : va_W} (h : rz_ext w w') : ∀ {a : rz_L} {b : List (Nat × Value)}, rz_lr w a b → rz_lr w' a b
  | [], [], q => q
  | _ :: _, _ :: _, q => ⟨q.1, q.2.1.ext h, rz_lr.ext h q.2.2⟩
  | [], _ :: _, q => q.elim
  | _ :: _, [], q => q.elim
theorem rz_sr.ext {w w' : va_W} (h : rz_ext w w') : ∀ {a : List rz_V} {b : List Value}, rz_sr w a b → rz_sr w' a b
  | [], [], q => q
  | _ :: _, _ :: _, q => ⟨q.1.ext h, rz_sr.ext h q.2⟩
  | [], _ :: _, q => q.elim
  | _ :: _, [], q => q.elim
theorem rz_sr.cons {ws : va_W} {v : rz_V} {t : List rz_V} {b : List Value} (h : rz_sr ws (v :: t) b) : ∃ x u, b = x :: u ∧ rz_vr ws v x ∧ rz_sr ws t u := by
  cases b with
  | nil => exact h.elim
  | cons x u => exact ⟨x, u, rfl, h.1, h.2⟩
theorem rz_sr.nil {ws : va_W} {b : List Value} (h : rz_sr ws [] b) : b = [] := by
  cases b with
  | nil => rfl
  | cons x u => exact h.elim
def rz_look : rz_L → Nat → (rz_V → Bool) → Bool
  | [], _, _ => false
  | q :: t, i, k => match Nat.beq q.1 i with
    | true => k q.2
    | false => rz_look t i k
theorem rz_look_spec {i : Nat} {k : rz_V → Bool} : ∀ {lv : rz_L}, rz_look lv i k = true → ∃ (j : Nat) (v : rz_V), lv[j]? = some (i, v) ∧ k v = true
  | [], h => by simp [rz_look] at h
  | q :: t, h => by
    unfold rz_look at h
    split at h
    · rename_i hq
      have e : q.1 = i := Nat.eq_of_beq_eq_true hq
      exact ⟨0, q.2, by rw [← e]; rfl, h⟩
    · obtain ⟨j, v, h1, h2⟩ := rz_look_spec h
      exact ⟨j + 1, v, by simpa using h1, h2⟩
theorem rz_lr_at {ws : va_W} : ∀ {a : rz_L} {b : List (Nat × Value)}, rz_lr ws a b → ∀ {j i : Nat} {v : rz_V}, a[j]? = some (i, v) → ∃ x, b[j]? = some (i, x) ∧ rz_vr ws v x
  | [], [], _, j, i, v, h => by simp at h
  | q :: t, r :: u, hh, 0, i, v, h => by
    simp at h
    subst h
    obtain ⟨h1, h2, -⟩ := hh
    exact ⟨r.2, by simp at h1 ⊢; rw [h1], h2⟩
  | q :: t, r :: u, hh, j + 1, i, v, h => by
    simp at h
    obtain ⟨x, h1, h2⟩ := rz_lr_at hh.2.2 h
    exact ⟨x, by simpa using h1, h2⟩
  | [], _ :: _, hh, _, _, _, _ => hh.elim
  | _ :: _, [], hh, _, _, _, _ => hh.elim
def rz_is2 (v : rz_V) : Bool := match v with
  | (1, _, _) => true
  | _ => false
theorem rz_cat {ws : va_W} {v : rz_V} {x : Value} (h : rz_vr ws v x) : (x.category == 2) = rz_is2 v := by
  unfold rz_vr at h
  split at h
  · subst h; rfl
  · subst h; rfl
  · obtain ⟨a, -, h⟩ := h; subst h; rfl
  · subst h; rfl
  · obtain ⟨a, h, -⟩ := h; subst h; rfl
  · exact h.elim
theorem rz_cat1 {ws : va_W} {v : rz_V} {x : Value} (h : rz_vr ws v x) (h2 : rz_is2 v = false) : x.category = 1 := by
  unfold rz_vr at h
  split at h
  · subst h; rfl
  · cases h2
  · obtain ⟨a, -, h⟩ := h; subst h; rfl
  · subst h; rfl
  · obtain ⟨a, h, -⟩ := h; subst h; rfl
  · exact h.elim
/-- what a store of one word at i leaves -/
def rz_keep (i : Nat) (q : Nat × rz_V) : Bool := match Nat.beq q.1 i with
  | true => false
  | false => match Nat.beq (Nat.succ q.1) i with
    | true => !(rz_is2 q.2)
    | false => true
def rz_flt : rz_L → (Nat × rz_V → Bool) → (rz_L → Bool) → Bool
  | [], _, k => k []
  | q :: t, g, k => match g q with
    | true => rz_flt t g (fun r => k (q :: r))
    | false => rz_flt t g k
theorem rz_flt_eq {g : Nat × rz_V → Bool} : ∀ {lv : rz_L} {k : rz_L → Bool}, rz_flt lv g k = k (lv.filter g)
  | [], k => rfl
  | q :: t, k => by
    unfold rz_flt
    cases hg : g q with
    | true => simp only [List.filter_cons, hg, if_true]; exact rz_flt_eq
    | false => simp [List.filter_cons, hg]; exact rz_flt_eq
theorem rz_keep_eq {ws : va_W} {i : Nat} {q : Nat × rz_V} {r : Nat × Value} (h1 : q.1 = r.1) (h2 : rz_vr ws q.2 r.2) : rz_keep i q = (!(r.1 == i) && !(r.1 + 1 == i && r.2.category == 2)) := by
  unfold rz_keep
  rw [rz_cat h2, ← h1]
  cases hb : Nat.beq q.1 i with
  | true => simp [Nat.eq_of_beq_eq_true hb]
  | false =>
    have hn : ¬ q.1 = i := fun h => by rw [h, Nat.beq_refl] at hb; cases hb
    cases hc : Nat.beq (Nat.succ q.1) i with
    | true =>
      have e := Nat.eq_of_beq_eq_true hc
      have e2 : q.1 + 1 = i := e
      simp [hn, e2]
    | false =>
      have hm : ¬ q.1 + 1 = i := fun h => by
        have h' : Nat.succ q.1 = i := h
        rw [h', Nat.beq_refl] at hc; cases hc
      simp [hn, hm]
theorem rz_lr_flt {ws : va_W} {g : Nat × rz_V → Bool} {g' : Nat × Value → Bool} (hg : ∀ (q : Nat × rz_V) (r : Nat × Value), q.1 = r.1 → rz_vr ws q.2 r.2 → g q = g' r) : ∀ {a : rz_L} {b : List (Nat × Value)}, rz_lr ws a b → rz_lr ws (a.filter g) (b.filter g')
  | [], [], _ => True.intro
  | q :: t, r :: u, h => by
    have e := hg q r h.1 h.2.1
    simp only [List.filter_cons, e]
    split
    · exact ⟨h.1, h.2.1, rz_lr_flt hg h.2.2⟩
    · exact rz_lr_flt hg h.2.2
  | [], _ :: _, hh => hh.elim
  | _ :: _, [], hh => hh.elim
