/-! Runs of load(). -/
noncomputable def rz_tJ (j1 : Nat) (L1 S1 : rz_L) (M1 : rz_M) : rz_J := fun j L S M => rz_if (Nat.beq j j1) (rz_if (rz_leq L L1) (rz_if (rz_leq S S1) (rz_meq M M1) false) false) false
theorem rz_tJ_t {j j1 : Nat} {L L1 S S1 : rz_L} {M M1 : rz_M} (h : rz_tJ j1 L1 S1 M1 j L S M = true) : j = j1 ∧ L = L1 ∧ S = S1 ∧ M = M1 := by
  have h : rz_if (Nat.beq j j1) (rz_if (rz_leq L L1) (rz_if (rz_leq S S1) (rz_meq M M1) false) false) false = true := h
  rcases rz_if_t h with ⟨h1, h⟩ | ⟨-, h⟩
  · rcases rz_if_t h with ⟨h2, h⟩ | ⟨-, h⟩
    · rcases rz_if_t h with ⟨h3, h⟩ | ⟨-, h⟩
      · exact ⟨Nat.eq_of_beq_eq_true h1, rz_leq_t h2, rz_leq_t h3, rz_meq_t h⟩
      · cases h
    · cases h
  · cases h
/-- from the place j on, in this state, the body runs to its end, in some pieces -/
def rz_Rn (code : List rz_B) (Z : rz_Z) (j : Nat) (L S : rz_L) (M : rz_M) : Prop := ∀ P : Nat → rz_L → rz_L → rz_M → Prop, (∀ (n j : Nat) (L S : rz_L) (M : rz_M), rz_run code Z (fun _ _ _ _ => false) n j L S M = true → P j L S M) → (∀ (n j j1 : Nat) (L S L1 S1 : rz_L) (M M1 : rz_M), rz_run code Z (rz_tJ j1 L1 S1 M1) n j L S M = true → P j1 L1 S1 M1 → P j L S M) → P j L S M
theorem rz_Rn_last {code : List rz_B} {Z : rz_Z} {n j : Nat} {L S : rz_L} {M : rz_M} (h : rz_run code Z (fun _ _ _ _ => false) n j L S M = true) : rz_Rn code Z j L S M := fun _ h1 _ => h1 n j L S M h
theorem rz_Rn_cut {code : List rz_B} {Z : rz_Z} {n j j1 : Nat} {L S L1 S1 : rz_L} {M M1 : rz_M} (h : rz_run code Z (rz_tJ j1 L1 S1 M1) n j L S M = true) (h1 : rz_Rn code Z j1 L1 S1 M1) : rz_Rn code Z j L S M := fun P q1 q2 => q2 n j j1 L S L1 S1 M M1 h (h1 P q1 q2)
noncomputable def rz_eqK (L1 S1 : rz_L) (M1 : rz_M) : rz_K := fun L S M => @ite Bool (L = L1 ∧ S = S1 ∧ M = M1) (Classical.propDecidable _) true false
theorem rz_eqK_t {L L1 S S1 : rz_L} {M M1 : rz_M} (h : rz_eqK L1 S1 M1 L S M = true) : L = L1 ∧ S = S1 ∧ M = M1 := by
  unfold rz_eqK at h
  split at h
  · assumption
  · cases h
theorem rz_eqK_r (L S : rz_L) (M : rz_M) : rz_eqK L S M L S M = true := by
  unfold rz_eqK
  exact if_pos ⟨rfl, rfl, rfl⟩
theorem rz_Rn_ok {P : Nat → rz_K → Prop} (hf : ∀ i, P i (fun _ _ _ => false)) (hm : ∀ (i : Nat) (K K' : rz_K), (∀ L S M, K' L S M = true → K L S M = true) → P i K → P i K') {code : List rz_B} {Z : rz_Z} (hA : rz_All (fun i h => ∀ (k : rz_K) (J : rz_J), P (i + 1) k → (∀ j, P j (J j)) → P i (h k J Z)) 0 code) {j : Nat} {L S : rz_L} {M : rz_M} (h : rz_Rn code Z j L S M) : P j (rz_eqK L S M) := by
  refine h (fun j L S M => P j (rz_eqK L S M)) (fun n j L S M h => ?_) (fun n j j1 L S L1 S1 M M1 h h1 => ?_)
  · refine hm j _ _ (fun L' S' M' q => ?_) (rz_run_ok hf hA (X := fun _ _ _ _ => false) hf n j)
    obtain ⟨rfl, rfl, rfl⟩ := rz_eqK_t q
    exact h
  · refine hm j _ _ (fun L' S' M' q => ?_) (rz_run_ok hf hA (X := rz_tJ j1 L1 S1 M1) (fun i => ?_) n j)
    · obtain ⟨rfl, rfl, rfl⟩ := rz_eqK_t q
      exact h
    · by_cases hi : i = j1
      · subst hi
        refine hm _ _ _ (fun L' S' M' q => ?_) h1
        obtain ⟨-, rfl, rfl, rfl⟩ := rz_tJ_t q
        exact rz_eqK_r _ _ _
      · refine hm _ _ _ (fun L' S' M' q => ?_) (hf i)
        exact absurd (rz_tJ_t q).1 hi
theorem rz_ck_2 {a : Bool} : ∀ {vs : rz_L}, rz_ck vs a = true → rz_ck vs true = true ∧ a = true
  | [], h => ⟨rfl, h⟩
  | v :: t, h => by
    rcases v with n | n | n | n
    · exact rz_ck_2 (vs := t) h
    · cases h
    · exact rz_ck_2 (vs := t) h
    · cases n with
      | zero => cases h
      | succ n => exact rz_ck_2 (vs := t) h
theorem rz_bodyC {G : rz_G} {l : Launch} {TB : List Cond} {y : MethodName} {cc : ByteArray} {maxL : Nat} {rt : Option FieldType} {rm : Room} {code : List rz_B} {pcs : List Nat} {vs : rz_L} {M : rz_M} {Z : rz_Z} {Qc : Array Value → State → Outcome → State → Prop} (hy : plainName y.cls = true) (hp0 : pcs.getD 0 0 = 0) (hn : vs.length ≤ maxL) (hck : rz_ck vs true = true) (hrun : rz_Rn code Z 0 (rz_pad maxL vs) [] M)
    (hF : ∀ (p : Program) (e : Env) (R : Room) (s : State) (m : MethodId) (args : Array Value) (below : List Frame) (meth : Method) (c : Code), rz_Cx G TB y cc maxL rt rm p R s m args meth c → rz_All (rz_Fc G p l e R s m args below meth c (MQ below Qc args s 0 0 (fun q => rz_b G ≤ q)) maxL (0, 0) Z pcs) 0 code) : Met l y (.code y cc maxL rt :: TB) rm (rz_Pre G vs M) Qc 0 0 (fun q => rz_b G ≤ q) := by
  refine Met.ofW (cc := cc) (maxL := maxL) (ret := rt) hy rfl ?_
  intro p e s m args below meth c s₁ B hml hv
  obtain ⟨rfl, hwd, hKn⟩ := hv
  obtain ⟨hcat, -⟩ := rz_ck_t G hck
  have hts := atoms_spec (ws := Cond.code y cc maxL rt :: TB) B.pre
  have hA := hF p e (headSpec (Cond.code y cc maxL rt :: TB) rm).room s m _ below meth c ⟨B.exec, B.bytes, hml, B.returns, B.notSynchronized, findClass_of_methodNamed B.named, hts, hKn, rfl⟩
  have hR := rz_Rn_ok (P := fun i K => rz_Ok G p l e (headSpec (Cond.code y cc maxL rt :: TB) rm).room s m (vs.map (rz_v G)).toArray below meth c (MQ below Qc (vs.map (rz_v G)).toArray s 0 0 (fun q => rz_b G ≤ q)) maxL (0, 0) (pcs.getD i 0) K) (fun i L S M h => by cases h) (fun i K K' q hK L S M h => hK L S M (q L S M h)) hA hrun
  rw [lg_entry_eq]
  have := hR (rz_pad maxL vs) [] M (rz_eqK_r _ _ _) _ s.heap [] (rz_entry hcat hn) hwd va_S.rf trivial
  rw [hp0] at this
  exact this
theorem rz_orb_i {G : rz_G} {l : Launch} {y : MethodName} {ws : List Cond} {rm : Room} {free : Nat → Prop} {n : Nat} {f : rz_L → rz_M → rz_Z → Bool} {vs0 : rz_L} {M0 M1 : rz_M} {v1 : rz_V} (h0 : Met l y ws rm (rz_Pre G vs0 M0) (rz_Qi G M0.2 (rz_tst v1 M1)) 0 0 free) (hM : ∀ (vs : rz_L) (M : rz_M) (Z : rz_Z), vs.length = n → f vs M Z = true → Met l y ws rm (rz_Pre G vs M) (rz_Qi G M.2 Z) 0 0 free) (vs : rz_L) (M : rz_M) (Z : rz_Z) (hn : vs.length = n) (h : rz_ora vs0 M0 v1 M1 f vs M Z = true) : Met l y ws rm (rz_Pre G vs M) (rz_Qi G M.2 Z) 0 0 free := by
  have h : rz_if (rz_leq vs vs0) (rz_if (rz_meq M M0) (Z v1 M1) (f vs M Z)) (f vs M Z) = true := h
  rcases rz_if_t h with ⟨h1, h⟩ | ⟨-, h⟩
  · rcases rz_if_t h with ⟨h2, h9⟩ | ⟨-, h⟩
    · have e1 := rz_leq_t h1
      have e2 := rz_meq_t h2
      subst e1
      subst e2
      exact rz_weak h0 (rz_Qi_weak (fun v N q => by obtain ⟨rfl, rfl⟩ := rz_tst_t q; exact h9))
    · exact hM vs M Z hn h
  · exact hM vs M Z hn h
theorem rz_orb_v {G : rz_G} {l : Launch} {y : MethodName} {ws : List Cond} {rm : Room} {free : Nat → Prop} {n : Nat} {f : rz_L → rz_M → rz_Z → Bool} {vs0 : rz_L} {M0 M1 : rz_M} {v1 : rz_V} (h0 : Met l y ws rm (rz_Pre G vs0 M0) (rz_Qv G M0.2 (rz_tst v1 M1)) 0 0 free) (hM : ∀ (vs : rz_L) (M : rz_M) (Z : rz_Z), vs.length = n → f vs M Z = true → Met l y ws rm (rz_Pre G vs M) (rz_Qv G M.2 Z) 0 0 free) (vs : rz_L) (M : rz_M) (Z : rz_Z) (hn : vs.length = n) (h : rz_ora vs0 M0 v1 M1 f vs M Z = true) : Met l y ws rm (rz_Pre G vs M) (rz_Qv G M.2 Z) 0 0 free := by
  have h : rz_if (rz_leq vs vs0) (rz_if (rz_meq M M0) (Z v1 M1) (f vs M Z)) (f vs M Z) = true := h
  rcases rz_if_t h with ⟨h1, h⟩ | ⟨-, h⟩
  · rcases rz_if_t h with ⟨h2, h9⟩ | ⟨-, h⟩
    · have e1 := rz_leq_t h1
      have e2 := rz_meq_t h2
      subst e1
      subst e2
      exact rz_weak h0 (rz_Qv_weak (fun v N q => by obtain ⟨rfl, rfl⟩ := rz_tst_t q; exact h9))
    · exact hM vs M Z hn h
  · exact hM vs M Z hn h
theorem rz_bodyCM {G : rz_G} {l : Launch} {TB : List Cond} {y : MethodName} {cc : ByteArray} {maxL mc ms : Nat} {rt : Option FieldType} {rm : Room} {code : List rz_B} {pcs : List Nat} {cz : List (Nat × Nat)} {vs : rz_L} {M : rz_M} {Z : rz_Z} {Qc : Array Value → State → Outcome → State → Prop} (hy : plainName y.cls = true) (hp0 : pcs.getD 0 0 = 0) (hz0 : cz.getD 0 (0, 0) = (0, 0)) (hn : vs.length ≤ maxL) (hck : rz_ck vs true = true) (hrun : rz_Rn code Z 0 (rz_pad maxL vs) [] M)
    (hF : ∀ (p : Program) (e : Env) (R : Room) (s : State) (m : MethodId) (args : Array Value) (below : List Frame) (meth : Method) (c : Code), rz_Cx G TB y cc maxL rt rm p R s m args meth c → meth.name = y.name → rz_All (rz_FcN G p l e R s m args below meth c (MQ below Qc args s mc ms (fun q => rz_b G ≤ q)) maxL cz Z pcs) 0 code) : Met l y (.code y cc maxL rt :: TB) rm (rz_Pre G vs M) Qc mc ms (fun q => rz_b G ≤ q) := by
  refine Met.ofW (cc := cc) (maxL := maxL) (ret := rt) hy rfl ?_
  intro p e s m args below meth c s₁ B hml hv
  obtain ⟨rfl, hwd, hKn⟩ := hv
  obtain ⟨hcat, -⟩ := rz_ck_t G hck
  have hts := atoms_spec (ws := Cond.code y cc maxL rt :: TB) B.pre
  have hA := hF p e (headSpec (Cond.code y cc maxL rt :: TB) rm).room s m _ below meth c ⟨B.exec, B.bytes, hml, B.returns, B.notSynchronized, findClass_of_methodNamed B.named, hts, hKn, rfl⟩ (name_of_methodNamed B.named B.method).1
  have hR := rz_Rn_ok (P := fun i K => rz_Ok G p l e (headSpec (Cond.code y cc maxL rt :: TB) rm).room s m (vs.map (rz_v G)).toArray below meth c (MQ below Qc (vs.map (rz_v G)).toArray s mc ms (fun q => rz_b G ≤ q)) maxL (cz.getD i (0, 0)) (pcs.getD i 0) K) (fun i L S M h => by cases h) (fun i K K' q hK L S M h => hK L S M (q L S M h)) hA hrun
  rw [lg_entry_eq]
  have := hR (rz_pad maxL vs) [] M (rz_eqK_r _ _ _) _ s.heap [] (rz_entry hcat hn) hwd va_S.rf trivial
  rw [hp0, hz0] at this
  exact this
