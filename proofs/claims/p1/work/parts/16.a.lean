/-! A run between places where it waits (open words). -/
noncomputable def rz_eqJ (js : Nat) (L1 S1 : rz_L) (M1 : rz_M) : rz_J := fun j L S M => @ite Bool (j = js ∧ L = L1 ∧ S = S1 ∧ M = M1) (Classical.propDecidable _) true false
theorem rz_eqJ_t {js j : Nat} {L L1 S S1 : rz_L} {M M1 : rz_M} (h : rz_eqJ js L1 S1 M1 j L S M = true) : j = js ∧ L = L1 ∧ S = S1 ∧ M = M1 := by
  unfold rz_eqJ at h
  split at h
  · assumption
  · cases h
theorem rz_eqJ_r (js : Nat) (L S : rz_L) (M : rz_M) : rz_eqJ js L S M js L S M = true := by
  unfold rz_eqJ
  exact if_pos ⟨rfl, rfl, rfl, rfl⟩
theorem rz_pce {P : Nat → rz_K → Prop} (hf : ∀ i, P i (fun _ _ _ => false)) (hm : ∀ (i : Nat) (K K' : rz_K), (∀ L S M, K' L S M = true → K L S M = true) → P i K → P i K') {code : List rz_B} {Z : rz_Z} (hA : rz_All (fun i h => ∀ (k : rz_K) (J : rz_J), P (i + 1) k → (∀ j, P j (J j)) → P i (h k J Z)) 0 code) {n j0 js : Nat} {L0 S0 L1 S1 : rz_L} {M0 M1 : rz_M} (hp : ∀ X : rz_J, X js L1 S1 M1 = true → rz_run code Z X n j0 L0 S0 M0 = true) (h1 : P js (rz_eqK L1 S1 M1)) : P j0 (rz_eqK L0 S0 M0) := by
  have hX : ∀ i, P i (rz_eqJ js L1 S1 M1 i) := by
    intro i
    by_cases hi : i = js
    · subst hi
      refine hm _ _ _ (fun L S M q => ?_) h1
      obtain ⟨-, rfl, rfl, rfl⟩ := rz_eqJ_t q
      exact rz_eqK_r _ _ _
    · refine hm _ _ _ (fun L S M q => ?_) (hf i)
      exact absurd (rz_eqJ_t q).1 hi
  refine hm j0 _ _ (fun L S M q => ?_) (rz_run_ok hf hA (X := rz_eqJ js L1 S1 M1) hX n j0)
  obtain ⟨rfl, rfl, rfl⟩ := rz_eqK_t q
  exact hp _ (rz_eqJ_r _ _ _ _)
theorem rz_pcz {P : Nat → rz_K → Prop} (hf : ∀ i, P i (fun _ _ _ => false)) (hm : ∀ (i : Nat) (K K' : rz_K), (∀ L S M, K' L S M = true → K L S M = true) → P i K → P i K') {code : List rz_B} {Z : rz_Z} (hA : rz_All (fun i h => ∀ (k : rz_K) (J : rz_J), P (i + 1) k → (∀ j, P j (J j)) → P i (h k J Z)) 0 code) {n j0 : Nat} {L0 S0 : rz_L} {M0 : rz_M} (hp : rz_run code Z (fun _ _ _ _ => false) n j0 L0 S0 M0 = true) : P j0 (rz_eqK L0 S0 M0) := by
  refine hm j0 _ _ (fun L S M q => ?_) (rz_run_ok hf hA (X := fun _ _ _ _ => false) hf n j0)
  obtain ⟨rfl, rfl, rfl⟩ := rz_eqK_t q
  exact hp
theorem rz_bodyE {G : rz_G} {l : Launch} {TB : List Cond} {y : MethodName} {cc : ByteArray} {maxL : Nat} {rt : Option FieldType} {rm : Room} {vs : rz_L} {M : rz_M} {Qc : Array Value → State → Outcome → State → Prop} (hy : plainName y.cls = true) (hn : vs.length ≤ maxL) (hck : rz_ck vs true = true)
    (hF : ∀ (p : Program) (e : Env) (R : Room) (s : State) (m : MethodId) (args : Array Value) (below : List Frame) (meth : Method) (c : Code), rz_Cx G TB y cc maxL rt rm p R s m args meth c → rz_Ok G p l e R s m args below meth c (MQ below Qc args s 0 0 (fun q => rz_b G ≤ q)) maxL (0, 0) 0 (rz_eqK (rz_pad maxL vs) [] M)) : Met l y (.code y cc maxL rt :: TB) rm (rz_Pre G vs M) Qc 0 0 (fun q => rz_b G ≤ q) := by
  refine Met.ofW (cc := cc) (maxL := maxL) (ret := rt) hy rfl ?_
  intro p e s m args below meth c s₁ B hml hv
  obtain ⟨rfl, hwd, hKn⟩ := hv
  obtain ⟨hcat, -⟩ := rz_ck_t G hck
  have hts := atoms_spec (ws := Cond.code y cc maxL rt :: TB) B.pre
  have hR := hF p e (headSpec (Cond.code y cc maxL rt :: TB) rm).room s m _ below meth c ⟨B.exec, B.bytes, hml, B.returns, B.notSynchronized, findClass_of_methodNamed B.named, hts, hKn, rfl⟩
  rw [lg_entry_eq]
  exact hR (rz_pad maxL vs) [] M (rz_eqK_r _ _ _) _ s.heap [] (rz_entry hcat hn) hwd va_S.rf trivial
-- the rest of a small number by 4
noncomputable def rz_irem4 : rz_B := fun k _ _ L S M => rz_hd S (fun b T => rz_hd T (fun a U => rz_int b (fun y => rz_int a (fun x => rz_if (Nat.beq y 4) (rz_if (Nat.ble x 99) (rz_F (Nat.mod x 4) (fun z => k L (rz_i z :: U) M)) false) false))))
theorem rz_irem4_n : ∀ x, x < 100 → nI x - nI x / nI 4 * nI 4 = nI (x % 4) := by decide +kernel
section RZE
variable {G : rz_G} {p : Program} {l : Launch} {e : Env} {R : Room} {s : State} {m : MethodId} {args : Array Value} {below : List Frame} {meth : Method} {c : Code} {Q : State → Prop} {nL pc : Nat} {nz0 : Nat × Nat} {cc : ByteArray} {k : rz_K} {J : rz_J} {Z : rz_Z}
theorem rz_irem4_ok (hx : p.tables.exec = Jvm.exec) (hb : c.code = cc) (hd : decode cc pc = .ok (.irem, 1)) (hk : rz_Ok G p l e R s m args below meth c Q nL nz0 (pc + 1) (k)) : rz_Ok G p l e R s m args below meth c Q nL nz0 (pc) (rz_irem4 k J Z) := by
  intro L S M h ls H locs hL hW hS h0
  replace h := rz_hd_t h
  obtain ⟨b, T, rfl, h⟩ := h
  replace h := rz_hd_t h
  obtain ⟨a, U, rfl, h⟩ := h
  replace h := rz_int_t h
  obtain ⟨y, rfl, h⟩ := h
  replace h := rz_int_t h
  obtain ⟨x, rfl, h⟩ := h
  rcases rz_if_t h with ⟨g, h1⟩ | ⟨-, h1⟩
  · have g := rz_beq.1.mp g
    subst g
    rcases rz_if_t h1 with ⟨g2, h2⟩ | ⟨-, h2⟩
    · have g2 := rz_ble.1.mp g2
      rw [rz_F_eq] at h2
      have hz := hk L _ M h2 ls H locs hL hW hS h0
      refine lv_irem (x := nI x) (y := nI 4) hx hb hd (by decide) ?_
      rw [rz_irem4_n x (by omega)]
      exact hz
    · cases h2
  · cases h1
end RZE
