/-! A run of a call that is known: a test of states, and the contract that it gives. -/
theorem rz_weak {l : Launch} {y : MethodName} {ws : List Cond} {rm : Room} {Pc : Array Value → State → Prop} {Qc Qd : Array Value → State → Outcome → State → Prop} {free : Nat → Prop} (h : Met l y ws rm Pc Qc 0 0 free) (hq : ∀ a s o t, Qc a s o t → Qd a s o t) : Met l y ws rm Pc Qd 0 0 free := by
  unfold Met at h ⊢
  exact h.mono (fun _ _ q => q) (fun _ _ _ _ _ q => q) (fun a s o t _ q => ⟨hq a s o t q.1, q.2⟩)
theorem rz_Qi_weak {G : rz_G} {nz : Nat × Nat} {Z Z' : rz_Z} (h : ∀ v M, Z v M = true → Z' v M = true) (a : Array Value) (s : State) (o : Outcome) (t : State) (q : rz_Qi G nz Z a s o t) : rz_Qi G nz Z' a s o t := by
  obtain ⟨⟨r, u, h1, ⟨h2, h3⟩, h4⟩, h5⟩ := q
  exact ⟨⟨r, u, h1, ⟨h2, h _ _ h3⟩, h4⟩, h5⟩
theorem rz_Qv_weak {G : rz_G} {nz : Nat × Nat} {Z Z' : rz_Z} (h : ∀ v M, Z v M = true → Z' v M = true) (a : Array Value) (s : State) (o : Outcome) (t : State) (q : rz_Qv G nz Z a s o t) : rz_Qv G nz Z' a s o t := by
  obtain ⟨⟨u, h1, h2, h4⟩, h5⟩ := q
  exact ⟨⟨u, h1, h _ _ h2, h4⟩, h5⟩
-- tests
noncomputable def rz_teq (d : Nat) : rz_T d → rz_T d → Bool := Nat.rec (motive := fun d => rz_T d → rz_T d → Bool) (fun x y => Nat.beq x y) (fun _ ih p q => Prod.rec (fun a b => Prod.rec (fun c e => rz_if (ih a c) (ih b e) false) q) p) d
theorem rz_teq_t (d : Nat) : ∀ {x y : rz_T d}, rz_teq d x y = true → x = y := by
  induction d with
  | zero =>
    intro x y h
    exact Nat.eq_of_beq_eq_true h
  | succ d ih =>
    intro (p : rz_T d × rz_T d) (q : rz_T d × rz_T d) h
    obtain ⟨a, b⟩ := p
    obtain ⟨c, e⟩ := q
    have h : rz_if (rz_teq d a c) (rz_teq d b e) false = true := h
    rcases rz_if_t h with ⟨g, h⟩ | ⟨-, h⟩
    · have e1 := ih g
      have e2 := ih h
      subst e1
      subst e2
      rfl
    · cases h
noncomputable def rz_veq (v w : rz_V) : Bool := Sum.rec (fun a => Sum.rec (fun b => Nat.beq a b) (fun _ => false) w) (fun v => Sum.rec (fun _ => false) (fun w => Sum.rec (fun a => Sum.rec (fun b => Nat.beq a b) (fun _ => false) w) (fun v => Sum.rec (fun _ => false) (fun w => Sum.rec (fun a => Sum.rec (fun b => Nat.beq a b) (fun _ => false) w) (fun a => Sum.rec (fun _ => false) (fun b => Nat.beq a b) w) v) w) v) w) v
theorem rz_veq_t {v w : rz_V} (h : rz_veq v w = true) : v = w := by
  rcases v with a | a | a | a <;> rcases w with b | b | b | b <;> first | (cases h; done) | (have e : a = b := Nat.eq_of_beq_eq_true h; rw [e])
noncomputable def rz_leq (l r : rz_L) : Bool := List.rec (motive := fun _ => rz_L → Bool) (fun r => List.rec true (fun _ _ _ => false) r) (fun a _ ih r => List.rec false (fun b t _ => rz_if (rz_veq a b) (ih t) false) r) l r
theorem rz_leq_t : ∀ {l r : rz_L}, rz_leq l r = true → l = r
  | [], [], _ => rfl
  | [], _ :: _, h => by cases h
  | _ :: _, [], h => by cases h
  | a :: l, b :: r, h => by
    have h : rz_if (rz_veq a b) (rz_leq l r) false = true := h
    rcases rz_if_t h with ⟨g, h⟩ | ⟨-, h⟩
    · rw [rz_veq_t g, rz_leq_t h]
    · cases h
noncomputable def rz_meq (M N : rz_M) : Bool := Prod.rec (fun g nz => Prod.rec (fun n z => Prod.rec (fun g' nz' => Prod.rec (fun n' z' => rz_if (Nat.beq n n') (rz_if (Nat.beq z z') (rz_teq 9 g g') false) false) nz') N) nz) M
theorem rz_meq_t {M N : rz_M} (h : rz_meq M N = true) : M = N := by
  obtain ⟨g, n, z⟩ := M
  obtain ⟨g', n', z'⟩ := N
  have h : rz_if (Nat.beq n n') (rz_if (Nat.beq z z') (rz_teq 9 g g') false) false = true := h
  rcases rz_if_t h with ⟨h1, h⟩ | ⟨-, h⟩
  · rcases rz_if_t h with ⟨h2, h⟩ | ⟨-, h⟩
    · rw [Nat.eq_of_beq_eq_true h1, Nat.eq_of_beq_eq_true h2, rz_teq_t 9 h]
    · cases h
  · cases h
noncomputable def rz_tst (v : rz_V) (M : rz_M) : rz_Z := fun w N => rz_if (rz_veq w v) (rz_meq N M) false
theorem rz_tst_t {v w : rz_V} {M N : rz_M} (h : rz_tst v M w N = true) : w = v ∧ N = M := by
  have h : rz_if (rz_veq w v) (rz_meq N M) false = true := h
  rcases rz_if_t h with ⟨h1, h⟩ | ⟨-, h⟩
  · exact ⟨rz_veq_t h1, rz_meq_t h⟩
  · cases h
/-- an oracle: the call vs0 on M0 ends with v1 in M1; any other call goes its own way -/
noncomputable def rz_ora (vs0 : rz_L) (M0 : rz_M) (v1 : rz_V) (M1 : rz_M) (f : rz_L → rz_M → rz_Z → Bool) : rz_L → rz_M → rz_Z → Bool := fun vs M Z => rz_if (rz_leq vs vs0) (rz_if (rz_meq M M0) (Z v1 M1) (f vs M Z)) (f vs M Z)
theorem rz_ora_i {G : rz_G} {l : Launch} {y : MethodName} {ws : List Cond} {rm : Room} {free : Nat → Prop} {n : Nat} {f f0 : rz_L → rz_M → rz_Z → Bool} {vs0 : rz_L} {M0 M1 : rz_M} {v1 : rz_V} (hrun : f0 vs0 M0 (rz_tst v1 M1) = true) (hM0 : ∀ (vs : rz_L) (M : rz_M) (Z : rz_Z), vs.length = n → f0 vs M Z = true → Met l y ws rm (rz_Pre G vs M) (rz_Qi G M.2 Z) 0 0 free) (hM : ∀ (vs : rz_L) (M : rz_M) (Z : rz_Z), vs.length = n → f vs M Z = true → Met l y ws rm (rz_Pre G vs M) (rz_Qi G M.2 Z) 0 0 free) (vs : rz_L) (M : rz_M) (Z : rz_Z) (hn : vs.length = n) (h : rz_ora vs0 M0 v1 M1 f vs M Z = true) : Met l y ws rm (rz_Pre G vs M) (rz_Qi G M.2 Z) 0 0 free := by
  have h : rz_if (rz_leq vs vs0) (rz_if (rz_meq M M0) (Z v1 M1) (f vs M Z)) (f vs M Z) = true := h
  rcases rz_if_t h with ⟨h1, h⟩ | ⟨-, h⟩
  · rcases rz_if_t h with ⟨h2, h9⟩ | ⟨-, h⟩
    · have e1 := rz_leq_t h1
      have e2 := rz_meq_t h2
      subst e1
      subst e2
      exact rz_weak (hM0 _ _ _ hn hrun) (rz_Qi_weak (fun v N q => by obtain ⟨rfl, rfl⟩ := rz_tst_t q; exact h9))
    · exact hM vs M Z hn h
  · exact hM vs M Z hn h
theorem rz_ora_v {G : rz_G} {l : Launch} {y : MethodName} {ws : List Cond} {rm : Room} {free : Nat → Prop} {n : Nat} {f f0 : rz_L → rz_M → rz_Z → Bool} {vs0 : rz_L} {M0 M1 : rz_M} {v1 : rz_V} (hrun : f0 vs0 M0 (rz_tst v1 M1) = true) (hM0 : ∀ (vs : rz_L) (M : rz_M) (Z : rz_Z), vs.length = n → f0 vs M Z = true → Met l y ws rm (rz_Pre G vs M) (rz_Qv G M.2 Z) 0 0 free) (hM : ∀ (vs : rz_L) (M : rz_M) (Z : rz_Z), vs.length = n → f vs M Z = true → Met l y ws rm (rz_Pre G vs M) (rz_Qv G M.2 Z) 0 0 free) (vs : rz_L) (M : rz_M) (Z : rz_Z) (hn : vs.length = n) (h : rz_ora vs0 M0 v1 M1 f vs M Z = true) : Met l y ws rm (rz_Pre G vs M) (rz_Qv G M.2 Z) 0 0 free := by
  have h : rz_if (rz_leq vs vs0) (rz_if (rz_meq M M0) (Z v1 M1) (f vs M Z)) (f vs M Z) = true := h
  rcases rz_if_t h with ⟨h1, h⟩ | ⟨-, h⟩
  · rcases rz_if_t h with ⟨h2, h9⟩ | ⟨-, h⟩
    · have e1 := rz_leq_t h1
      have e2 := rz_meq_t h2
      subst e1
      subst e2
      exact rz_weak (hM0 _ _ _ hn hrun) (rz_Qv_weak (fun v N q => by obtain ⟨rfl, rfl⟩ := rz_tst_t q; exact h9))
    · exact hM vs M Z hn h
  · exact hM vs M Z hn h
