/-! Runs of a method's list of handlers; contracts; calls and returns. -/
/-- what is known of the script's words from 100 on -/
def rz_Rg (G : rz_G) : Prop := (∀ q, 100 ≤ q → q < 200 → rz_xs G q < 0) ∧ ∀ q, 200 ≤ q → 255 < rz_xs G q
def rz_St (G : rz_G) (U : State) : Prop := vk_S rz_sN rz_sL rz_sB (fun i => rz_ad G (1000000 + i)) (fun i => rz_ad G (2000000 + i)) (fun q => rz_b G ≤ q) U U.heap ∧ (∀ r ∈ rz_sR, vk_R r.1 r.2.1 r.2.2.1 (rz_ad G (1000000 + r.2.2.2)) U) ∧ va_Z "ThreadJudgeModel" "BEFORE" "I" (.int 1192) (fun q => rz_b G ≤ q) U U.heap ∧ va_Z "java/lang/String" "COMPACT_STRINGS" "Z" (.int 1) (fun q => rz_b G ≤ q) U U.heap ∧ va_Zq "jdk/internal/util/Preconditions" "SIOOBE_FORMATTER" "Ljava/util/function/BiFunction;" (fun q => rz_b G ≤ q) U U.heap ∧ (Cond.arrayOver (.array .int)).before #[] U = true ∧ va_Nw (.methodLinkNest "ThreadJudge" 19 ⟨"ThreadJudge$Program", "<init>", "()V"⟩ "ThreadJudge") U ∧ rz_Rg G
def rz_Kn (G : rz_G) (U : State) : Prop := va_K (rz_D G) (rz_cl G) (rz_tys G) U ∧ rz_A G ∧ rz_St G U
theorem rz_Kn_to {G : rz_G} {s U : State} (h : rz_Kn G s) (hW : s.WarmedH U.vm) (hH : ∀ a : Nat, a < s.heap.size → ¬ rz_b G ≤ a → U.heap[a]? = s.heap[a]?) : rz_Kn G U := by
  obtain ⟨h1, h2, h3, h4, h5, h6, h7, h8, h9, h10⟩ := h
  exact ⟨h1.moved hW.alike, h2, (h3.moved hW.alike).kept hH, fun r hr => (h4 r hr).warm hW, (h5.moved hW.alike).kept hH, (h6.moved hW.alike).kept hH, (h7.moved hW.alike).kept hH, over_moved hW.alike h8, va_Nw.warmM hW h9, h10⟩
theorem rz_Kn_same {G : rz_G} {s U : State} (h : rz_Kn G s) (hv : U.vm = s.vm) (hH : U.heap = s.heap) : rz_Kn G U := by
  obtain ⟨h1, h2, h3, h4, h5, h6, h7, h8, h9, h10⟩ := h
  have hal : s.vm.Alike U.vm := by rw [hv]; exact Vm.Alike.refl _
  have hk : ∀ a : Nat, a < s.heap.size → ¬ rz_b G ≤ a → U.heap[a]? = s.heap[a]? := fun a _ _ => by rw [hH]
  exact ⟨h1.moved hal, h2, (h3.moved hal).kept hk, fun r hr => (h4 r hr).same hv, (h5.moved hal).kept hk, (h6.moved hal).kept hk, (h7.moved hal).kept hk, over_moved hal h8, va_Nw.same rfl hv.symm h9, h10⟩
def rz_Pre (G : rz_G) (vs : rz_L) (M : rz_M) : Array Value → State → Prop := va_Pc (vs.map (rz_v G)) (fun U => rz_wd G M U.heap ∧ rz_Kn G U)
def rz_Qi (G : rz_G) (nz : Nat × Nat) (Z : rz_Z) : Array Value → State → Outcome → State → Prop := va_Qi (S := rz_V × rz_M) (fun r u => rz_v G u.1 = .int r ∧ Z u.1 u.2 = true) (fun u t => rz_wd G u.2 t.heap ∧ True) (fun q => rz_b G ≤ q)
def rz_Qv (G : rz_G) (nz : Nat × Nat) (Z : rz_Z) : Array Value → State → Outcome → State → Prop := va_Qv (S := rz_M) (fun u => Z rz_o u = true) (fun u t => rz_wd G u t.heap ∧ True) (fun q => rz_b G ≤ q)
theorem rz_blind {G : rz_G} {vs : rz_L} {M : rz_M} : FrameBlind (rz_Pre G vs M) := fun _ _ _ _ q => ⟨q.1, q.2.1, rz_Kn_same q.2.2 rfl rfl⟩
-- runs
theorem rz_drop_eq (n : Nat) : ∀ (c : List rz_B), rz_drop n c = c.drop n := by
  induction n with
  | zero => intro c; rfl
  | succ n ih =>
    intro c
    cases c with
    | nil =>
      show ([] : List rz_B) = List.drop (n + 1) []
      simp
    | cons h t => exact ih t
def rz_All (F : Nat → rz_B → Prop) : Nat → List rz_B → Prop
  | _, [] => True
  | i, h :: t => F i h ∧ rz_All F (i + 1) t
theorem rz_All_at {F : Nat → rz_B → Prop} : ∀ {c : List rz_B} {i j : Nat} {h : rz_B}, rz_All F i c → c[j]? = some h → F (i + j) h
  | [], _, _, _, _, hj => by simp at hj
  | a :: t, i, 0, h, hA, hj => by
    simp at hj
    subst hj
    exact hA.1
  | a :: t, i, j + 1, h, hA, hj => by
    have := rz_All_at hA.2 (by simpa using hj)
    rwa [show i + 1 + j = i + (j + 1) by omega] at this
theorem rz_run_ok {P : Nat → rz_K → Prop} (hf : ∀ i, P i (fun _ _ _ => false)) {c : List rz_B} {Z : rz_Z} {X : rz_J} (hA : rz_All (fun i h => ∀ (k : rz_K) (J : rz_J), P (i + 1) k → (∀ j, P j (J j)) → P i (h k J Z)) 0 c) (hX : ∀ j, P j (X j)) : ∀ (n j : Nat), P j (rz_run c Z X n j) := by
  have seq : ∀ (J : rz_J), (∀ j, P j (J j)) → ∀ (t : List rz_B) (i : Nat), c.drop i = t → P i (rz_seq J Z t) := by
    intro J hJ t
    induction t with
    | nil => intro i _; exact hf i
    | cons h t ih =>
      intro i hi
      have h1 : c[i]? = some h := by
        have := congrArg (fun l => l[0]?) hi
        simpa using this
      have h2 : c.drop (i + 1) = t := by
        have := congrArg (List.drop 1) hi
        simpa using this
      have hF := rz_All_at hA h1
      rw [Nat.zero_add] at hF
      exact hF _ J (ih (i + 1) h2) hJ
  intro n
  induction n with
  | zero => exact hX
  | succ n ih =>
    intro j
    show P j (rz_seq (rz_run c Z X n) Z (rz_drop j c))
    exact seq _ ih _ j (rz_drop_eq j c).symm
-- entry
noncomputable def rz_ck (vs : rz_L) (a : Bool) : Bool := List.rec a (fun v _ ih => rz_is1 v ih) vs
theorem rz_ck_t (G : rz_G) {a : Bool} : ∀ {vs : rz_L}, rz_ck vs a = true → (∀ v ∈ vs, (rz_v G v).category = 1) ∧ a = true
  | [], h => ⟨fun _ q => (by cases q), h⟩
  | v :: t, h => by
    obtain ⟨h1, h2⟩ := rz_is1_t G (v := v) (a := rz_ck t a) h
    obtain ⟨h3, h4⟩ := rz_ck_t G h2
    exact ⟨fun w hw => by
      rcases List.mem_cons.mp hw with rfl | hw
      · exact h1
      · exact h3 w hw, h4⟩
theorem rz_lg_sl : ∀ {l : List Value}, (∀ v ∈ l, v.category = 1) → lg_sl l = l.map .val
  | [], _ => rfl
  | v :: t, h => by
    have h1 := h v List.mem_cons_self
    have h2 := rz_lg_sl (fun w hw => h w (List.mem_cons_of_mem _ hw))
    unfold lg_sl at h2 ⊢
    rw [List.flatMap_cons, h2, if_neg (by omega)]
    rfl
def rz_pad (n : Nat) (vs : rz_L) : rz_L := vs ++ List.replicate (n - vs.length) rz_o
theorem rz_entry {G : rz_G} {vs : rz_L} {n : Nat} (h1 : ∀ v ∈ vs, (rz_v G v).category = 1) (hn : vs.length ≤ n) : rz_lv G n ((lg_sl (vs.map (rz_v G)) ++ List.replicate (n - (lg_sl (vs.map (rz_v G))).length) Slot.unset).toArray) (rz_pad n vs) := by
  have hc : ∀ v ∈ vs.map (rz_v G), v.category = 1 := by
    intro v hv
    obtain ⟨w, hw, rfl⟩ := List.mem_map.mp hv
    exact h1 w hw
  have hs := rz_lg_sl hc
  have hl : (lg_sl (vs.map (rz_v G))).length ≤ n := by rw [hs, List.length_map, List.length_map]; exact hn
  have he := lv_entry (vs.map (rz_v G)) hl
  refine ⟨he.1, he.2.1, ?_, fun i v hv hsay => ?_⟩
  · unfold rz_pad
    rw [List.length_append, List.length_replicate]
    omega
  · have hi : i < vs.length := by
      rcases Nat.lt_or_ge i vs.length with q | q
      · exact q
      · unfold rz_pad at hv
        rw [List.getElem?_append_right q, List.getElem?_replicate] at hv
        split at hv
        · cases hv
          cases hsay
        · cases hv
    unfold rz_pad at hv
    rw [List.getElem?_append_left hi] at hv
    rw [List.getElem?_toArray, List.getElem?_append_left (by rw [hs, List.length_map, List.length_map]; exact hi), hs, List.getElem?_map, List.getElem?_map, hv]
    rfl
noncomputable def rz_go (code : List rz_B) (maxL fuel : Nat) (vs : rz_L) (M : rz_M) (Z : rz_Z) : Bool := rz_ck vs (rz_run code Z (fun _ _ _ _ => false) fuel 0 (rz_pad maxL vs) [] M)
/-- what a method's body has at hand -/
def rz_Cx (G : rz_G) (TB : List Cond) (y : MethodName) (cc : ByteArray) (maxL : Nat) (rt : Option FieldType) (rm : Room) (p : Program) (R : Room) (s : State) (m : MethodId) (args : Array Value) (meth : Method) (c : Code) : Prop :=
  p.tables.exec = Jvm.exec ∧ c.code = cc ∧ c.maxLocals = maxL ∧ meth.sig.returnType = rt ∧ meth.locks = false ∧ s.vm.findClass y.cls = some m.cls ∧ (∀ w ∈ Cond.code y cc maxL rt :: TB, w.before args s = true) ∧ rz_Kn G s ∧ R = rm
def rz_Fc (G : rz_G) (p : Program) (l : Launch) (e : Env) (R : Room) (s : State) (m : MethodId) (args : Array Value) (below : List Frame) (meth : Method) (c : Code) (Q : State → Prop) (nL : Nat) (nz0 : Nat × Nat) (Z : rz_Z) (pcs : List Nat) (i : Nat) (h : rz_B) : Prop := ∀ (k : rz_K) (J : rz_J), rz_Ok G p l e R s m args below meth c Q nL nz0 (pcs.getD (i + 1) 0) k → (∀ j, rz_Ok G p l e R s m args below meth c Q nL nz0 (pcs.getD j 0) (J j)) → rz_Ok G p l e R s m args below meth c Q nL nz0 (pcs.getD i 0) (h k J Z)
/-- a place of a method that makes cells: the counts of its own -/
def rz_FcN (G : rz_G) (p : Program) (l : Launch) (e : Env) (R : Room) (s : State) (m : MethodId) (args : Array Value) (below : List Frame) (meth : Method) (c : Code) (Q : State → Prop) (nL : Nat) (cz : List (Nat × Nat)) (Z : rz_Z) (pcs : List Nat) (i : Nat) (h : rz_B) : Prop := ∀ (k : rz_K) (J : rz_J), rz_Ok G p l e R s m args below meth c Q nL (cz.getD (i + 1) (0, 0)) (pcs.getD (i + 1) 0) k → (∀ j, rz_Ok G p l e R s m args below meth c Q nL (cz.getD j (0, 0)) (pcs.getD j 0) (J j)) → rz_Ok G p l e R s m args below meth c Q nL (cz.getD i (0, 0)) (pcs.getD i 0) (h k J Z)
theorem rz_bodyN {G : rz_G} {l : Launch} {TB : List Cond} {y : MethodName} {cc : ByteArray} {maxL fuel mc ms : Nat} {rt : Option FieldType} {rm : Room} {code : List rz_B} {pcs : List Nat} {cz : List (Nat × Nat)} {vs : rz_L} {M : rz_M} {Z : rz_Z} {Qc : Array Value → State → Outcome → State → Prop} (hy : plainName y.cls = true) (hp0 : pcs.getD 0 0 = 0) (hz0 : cz.getD 0 (0, 0) = (0, 0)) (hn : vs.length ≤ maxL) (hrun : rz_go code maxL fuel vs M Z = true)
    (hF : ∀ (p : Program) (e : Env) (R : Room) (s : State) (m : MethodId) (args : Array Value) (below : List Frame) (meth : Method) (c : Code), rz_Cx G TB y cc maxL rt rm p R s m args meth c → rz_All (rz_FcN G p l e R s m args below meth c (MQ below Qc args s mc ms (fun q => rz_b G ≤ q)) maxL cz Z pcs) 0 code) : Met l y (.code y cc maxL rt :: TB) rm (rz_Pre G vs M) Qc mc ms (fun q => rz_b G ≤ q) := by
  refine Met.ofW (cc := cc) (maxL := maxL) (ret := rt) hy rfl ?_
  intro p e s m args below meth c s₁ B hml hv
  obtain ⟨rfl, hwd, hKn⟩ := hv
  obtain ⟨hcat, hrun⟩ := rz_ck_t G hrun
  have hts := atoms_spec (ws := Cond.code y cc maxL rt :: TB) B.pre
  have hA := hF p e (headSpec (Cond.code y cc maxL rt :: TB) rm).room s m _ below meth c ⟨B.exec, B.bytes, hml, B.returns, B.notSynchronized, findClass_of_methodNamed B.named, hts, hKn, rfl⟩
  have hR := rz_run_ok (P := fun i K => rz_Ok G p l e (headSpec (Cond.code y cc maxL rt :: TB) rm).room s m (vs.map (rz_v G)).toArray below meth c (MQ below Qc (vs.map (rz_v G)).toArray s mc ms (fun q => rz_b G ≤ q)) maxL (cz.getD i (0, 0)) (pcs.getD i 0) K) (fun i L S M h => by cases h) (X := fun _ _ _ _ => false) hA (fun j L S M h => by cases h) fuel 0
  rw [lg_entry_eq]
  have := hR (rz_pad maxL vs) [] M hrun _ s.heap [] (rz_entry hcat hn) hwd va_S.rf trivial
  rw [hp0, hz0] at this
  exact this
theorem rz_body {G : rz_G} {l : Launch} {TB : List Cond} {y : MethodName} {cc : ByteArray} {maxL fuel : Nat} {rt : Option FieldType} {rm : Room} {code : List rz_B} {pcs : List Nat} {vs : rz_L} {M : rz_M} {Z : rz_Z} {Qc : Array Value → State → Outcome → State → Prop} (hy : plainName y.cls = true) (hp0 : pcs.getD 0 0 = 0) (hn : vs.length ≤ maxL) (hrun : rz_go code maxL fuel vs M Z = true)
    (hF : ∀ (p : Program) (e : Env) (R : Room) (s : State) (m : MethodId) (args : Array Value) (below : List Frame) (meth : Method) (c : Code), rz_Cx G TB y cc maxL rt rm p R s m args meth c → rz_All (rz_Fc G p l e R s m args below meth c (MQ below Qc args s 0 0 (fun q => rz_b G ≤ q)) maxL (0, 0) Z pcs) 0 code) : Met l y (.code y cc maxL rt :: TB) rm (rz_Pre G vs M) Qc 0 0 (fun q => rz_b G ≤ q) := rz_bodyN (cz := []) hy hp0 rfl hn hrun hF
-- arguments and receivers
noncomputable def rz_take (n : Nat) : rz_L → rz_L → (rz_L → rz_L → Bool) → Bool := Nat.rec (fun S acc k => k acc S) (fun _ ih S acc k => rz_hd S (fun v T => ih T (v :: acc) k)) n
theorem rz_take_t {n : Nat} : ∀ {S acc : rz_L} {k : rz_L → rz_L → Bool}, rz_take n S acc k = true → ∃ A T, S = A.reverse ++ T ∧ A.length = n ∧ k (A ++ acc) T = true := by
  induction n with
  | zero => intro S acc k h; exact ⟨[], S, rfl, rfl, h⟩
  | succ n ih =>
    intro S acc k h
    obtain ⟨v, T, rfl, h⟩ := rz_hd_t h
    obtain ⟨A, U, rfl, hA, h⟩ := ih h
    exact ⟨A ++ [v], U, by simp, by simp [hA], by simpa using h⟩
noncomputable def rz_few (U : rz_L) (a : Bool) : Bool := List.rec a (fun _ U _ => List.rec a (fun _ U _ => List.rec a (fun _ U _ => List.rec a (fun _ U _ => List.rec a (fun _ _ _ => false) U) U) U) U) U
theorem rz_few_t {U : rz_L} {a : Bool} (h : rz_few U a = true) : U.length ≤ 4 ∧ a = true := by
  match U, h with
  | [], h => exact ⟨by simp, h⟩
  | [_], h => exact ⟨by simp, h⟩
  | [_, _], h => exact ⟨by simp, h⟩
  | [_, _, _], h => exact ⟨by simp, h⟩
  | [_, _, _, _], h => exact ⟨by simp, h⟩
  | _ :: _ :: _ :: _ :: _ :: _, h => cases h
theorem rz_sum (G : rz_G) {U : rz_L} (h : U.length ≤ 4) : ((U.map (rz_v G)).map fun v => v.category).sum ≤ 8 := by
  have : ∀ (U : rz_L), ((U.map (rz_v G)).map fun v => v.category).sum ≤ 2 * U.length := by
    intro U
    induction U with
    | nil => simp
    | cons v t ih =>
      simp only [List.map_cons, List.sum_cons, List.length_cons]
      rcases lv_cat (rz_v G v) with q | q <;> omega
  have := this U
  omega
section RZC
variable {G : rz_G} {p : Program} {l : Launch} {e : Env} {R : Room} {s : State} {m : MethodId} {args : Array Value} {below : List Frame} {meth : Method} {c : Code} {Q : State → Prop} {nL pc : Nat} {nz0 : Nat × Nat} {cc : ByteArray} {k : rz_K} {J : rz_J} {Z : rz_Z}
variable {TB : List Cond} {y x : MethodName} {rt rt2 : Option FieldType} {rm rm2 : Room}
-- returns
noncomputable def rz_nil (U : rz_L) (a : Bool) : Bool := List.rec a (fun _ _ _ => false) U
theorem rz_nil_t {U : rz_L} {a : Bool} (h : rz_nil U a = true) : U = [] ∧ a = true := by
  cases U with
  | nil => exact ⟨rfl, h⟩
  | cons v t => cases h
noncomputable def rz_iret : rz_B := fun _ _ Z _ S M => rz_hd S (fun v T => rz_isI v (rz_nil T (Z v M)))
noncomputable def rz_zret : rz_B := fun _ _ Z _ S M => rz_hd S (fun v T => rz_int v (fun n => rz_if (Nat.ble n 1) (rz_nil T (Z v M)) false))
noncomputable def rz_vret : rz_B := fun _ _ Z _ S M => rz_nil S (Z rz_o M)
theorem rz_iret_ok {nzq : Nat × Nat} {mc ms : Nat} (hC : rz_Cx G TB y cc nL (some .int) rm p R s m args meth c) (hd : decode cc pc = .ok (.ireturn, 1)) (hz : nz0.1 ≤ mc ∧ nz0.2 ≤ ms := by exact ⟨Nat.le_refl _, Nat.le_refl _⟩) : rz_Ok G p l e R s m args below meth c (MQ below (rz_Qi G nzq Z) args s mc ms (fun q => rz_b G ≤ q)) nL nz0 (pc) (rz_iret k J Z) := by
  obtain ⟨hx, hb, -, hr, hlk, -, -, hKn, -⟩ := hC
  intro L S M h ls H locs hL hW hS h0
  replace h := rz_hd_t h
  obtain ⟨v, T, rfl, h⟩ := h
  obtain ⟨⟨x, ex⟩, -, h⟩ := rz_v_int G L 0 h
  obtain ⟨rfl, h⟩ := rz_nil_t h
  rw [List.map_cons, ex]
  refine W.widen hz.1 hz.2 ?_
  exact W.iret hx hb hr (fun t ht hWm => ⟨⟨x, (v, M), rfl, ⟨ex, h⟩, by rw [ht]; exact hW, h0⟩, hS.F ht⟩) hS.2.2 hd hlk
theorem rz_zret_ok {nzq : Nat × Nat} {mc ms : Nat} (hC : rz_Cx G TB y cc nL (some .boolean) rm p R s m args meth c) (hd : decode cc pc = .ok (.ireturn, 1)) (hz : nz0.1 ≤ mc ∧ nz0.2 ≤ ms := by exact ⟨Nat.le_refl _, Nat.le_refl _⟩) : rz_Ok G p l e R s m args below meth c (MQ below (rz_Qi G nzq Z) args s mc ms (fun q => rz_b G ≤ q)) nL nz0 (pc) (rz_zret k J Z) := by
  obtain ⟨hx, hb, -, hr, hlk, -, -, hKn, -⟩ := hC
  intro L S M h ls H locs hL hW hS h0
  replace h := rz_hd_t h
  obtain ⟨v, T, rfl, h⟩ := h
  replace h := rz_int_t h
  obtain ⟨n, rfl, h⟩ := h
  rcases rz_if_t h with ⟨g, h⟩ | ⟨-, h⟩
  · have g := rz_ble.1.mp g
    obtain ⟨rfl, h⟩ := rz_nil_t h
    have hn : n = 0 ∨ n = 1 := by omega
    refine W.widen hz.1 hz.2 ?_
    exact W.zret (v := nI n) hx hb hr (by rcases hn with rfl | rfl <;> rfl) (fun t ht hWm => ⟨⟨nI n, (rz_i n, M), rfl, ⟨rfl, h⟩, by rw [ht]; exact hW, h0⟩, hS.F ht⟩) hS.2.2 hd hlk
  · cases h
theorem rz_vret_ok {nzq : Nat × Nat} {mc ms : Nat} (hC : rz_Cx G TB y cc nL none rm p R s m args meth c) (hd : decode cc pc = .ok (.return_, 1)) (hz : nz0.1 ≤ mc ∧ nz0.2 ≤ ms := by exact ⟨Nat.le_refl _, Nat.le_refl _⟩) : rz_Ok G p l e R s m args below meth c (MQ below (rz_Qv G nzq Z) args s mc ms (fun q => rz_b G ≤ q)) nL nz0 (pc) (rz_vret k J Z) := by
  obtain ⟨hx, hb, -, hr, hlk, -, -, hKn, -⟩ := hC
  intro L S M h ls H locs hL hW hS h0
  obtain ⟨rfl, h⟩ := rz_nil_t h
  refine W.widen hz.1 hz.2 ?_
  exact W.vret hx hb hr (fun t ht hWm => ⟨⟨M, rfl, h, by rw [ht]; exact hW, h0⟩, hS.F ht⟩) hS.2.2 hd hlk
-- calls
noncomputable def rz_callV (n hd : Nat) (f : rz_L → rz_M → rz_Z → Bool) : rz_B := fun k _ _ L S M => rz_take n S [] (fun as T => rz_hd T (fun o U => rz_ref o (fun q => rz_mm M (fun g nz => rz_get 9 g q (fun B => rz_if (Nat.beq (rz_head B) hd) (rz_few U (f (o :: as) (g, nz) (fun v N => k L (v :: U) N))) false)))))
noncomputable def rz_callVv (n hd : Nat) (f : rz_L → rz_M → rz_Z → Bool) : rz_B := fun k _ _ L S M => rz_take n S [] (fun as T => rz_hd T (fun o U => rz_ref o (fun q => rz_mm M (fun g nz => rz_get 9 g q (fun B => rz_if (Nat.beq (rz_head B) hd) (rz_few U (f (o :: as) (g, nz) (fun _ N => k L U N))) false)))))
noncomputable def rz_callS (n : Nat) (f : rz_L → rz_M → rz_Z → Bool) : rz_B := fun k _ _ L S M => rz_take n S [] (fun as U => rz_few U (f as M (fun v N => k L (v :: U) N)))
noncomputable def rz_callSv (n : Nat) (f : rz_L → rz_M → rz_Z → Bool) : rz_B := fun k _ _ L S M => rz_take n S [] (fun as U => rz_few U (f as M (fun _ N => k L U N)))
theorem rz_pre_at {H : Heap} {locs : List Loc} {vs : rz_L} {M : rz_M} {U : State} (hKn : rz_Kn G s) (hW : rz_wd G M H) (hS : va_S (fun q => rz_b G ≤ q) s.heap H locs) (hU : U.heap = H) (hWm : s.WarmedH U.vm) : rz_Pre G vs M (vs.map (rz_v G)).toArray U := ⟨rfl, by rw [hU]; exact hW, rz_Kn_to hKn hWm (fun a h1 h2 => by rw [hU]; exact hS.2.1 a h1 h2)⟩
theorem rz_callV_ok {own C : String} {T0 : u_T} {N0 ci index n maxL mc ms : Nat} {nz1 : Nat × Nat} {bytes : ByteArray} {f : rz_L → rz_M → rz_Z → Bool} (hC : rz_Cx G TB y cc nL rt rm p R s m args meth c) (hown : y.cls = own) (hM : ∀ (vs : rz_L) (M : rz_M) (Z : rz_Z), vs.length = n + 1 → f vs M Z = true → Met l x (.code x bytes maxL rt2 :: TB) rm2 (rz_Pre G vs M) (rz_Qi G M.2 Z) mc ms (fun q => rz_b G ≤ q)) (cw : CallW R s args own C index x bytes maxL rt2 (.code x bytes maxL rt2 :: TB) rm2 mc ms n) (hc : (rz_cl G)[ci]? = some (C, T0, N0)) (hd : decode cc pc = .ok (.invokevirtual index, 3)) (hk : rz_Ok G p l e R s m args below meth c Q nL nz1 (pc + 3) (k)) (hz : nz0.1 + mc ≤ nz1.1 ∧ nz0.2 + ms ≤ nz1.2 := by exact ⟨Nat.le_refl _, Nat.le_refl _⟩) (hf : nz1.1 ≤ R.cells ∧ nz1.2 ≤ R.slots := by exact ⟨Nat.zero_le _, Nat.zero_le _⟩) : rz_Ok G p l e R s m args below meth c Q nL nz0 (pc) (rz_callV n (Nat.add (Nat.mul 256 ci) 1) f k J Z) := by
  obtain ⟨hx, hb, hml, hr, hlk, ho, hts, hKn, hRm⟩ := hC
  intro L S M h ls H locs hL hW hS h0
  replace h := rz_take_t h
  obtain ⟨as, T1, rfl, hlen, h⟩ := h
  rw [List.append_nil] at h
  replace h := rz_hd_t h
  obtain ⟨o, U, rfl, h⟩ := h
  replace h := rz_ref_t h
  obtain ⟨q, rfl, h⟩ := h
  replace h := rz_mm_t h
  obtain ⟨g, nz, rfl, h⟩ := h
  obtain ⟨hq, h⟩ := rz_get_t 9 h
  rcases rz_if_t h with ⟨hh, h⟩ | ⟨-, h⟩
  · have hh := rz_beq.1.mp hh
    obtain ⟨hfew, h⟩ := rz_few_t h
    have hlt := rz_wd_lt hW hq (by rw [hh]; exact Nat.succ_ne_zero _)
    have hat := rz_den_at (G := G) (h := g) hlt
    rw [hh, rz_e_obj] at hat
    have hR := va_runV (e := e) (below := below) (meth := meth) (As := as.map (rz_v G)) (rest := U.map (rz_v G)) (nL := nL) (Ts := Cond.code y cc nL rt :: TB) ⟨hx, hb, hml, by rw [← hown]; exact ho, hts⟩ (hM _ _ _ (by rw [List.length_cons, hlen]) h) cw ⟨rz_blind, va_recv hKn.1 hW.2.2.2 hc hat, fun V hV hWm => rz_pre_at (vs := rz_r (q + 1) :: as) hKn hW hS hV hWm⟩ (g := F0 m pc ls ((as.reverse ++ rz_r (q + 1) :: U).map (rz_v G))) rfl (by rw [List.length_map]; exact hlen) hL.1 (by rw [List.map_append, List.map_reverse, List.map_cons]; rfl) (lv_room (rz_sum G hfew)) hd (locs := locs) (H := H) (cells := nz0.1) (slots := nz0.2) ⟨Nat.le_trans hz.1 hf.1, Nat.le_trans hz.2 hf.2⟩
    refine va_calli hR hS (fun _ _ z => z) (fun _ z => z) (fun r u t H1 locs1 ht hvm hpo hB _ _ hS1 => ?_)
    refine W.widen hz.1 hz.2 ?_
    obtain ⟨u1, u2⟩ := u
    have hz := hk L (u1 :: U) u2 hpo.2 ls H1 locs1 hL (by rw [← ht]; exact hB.1) hS1 trivial
    rw [List.map_cons, hpo.1] at hz
    exact hz
  · cases h
theorem rz_callVv_ok {own C : String} {T0 : u_T} {N0 ci index n maxL mc ms : Nat} {nz1 : Nat × Nat} {bytes : ByteArray} {f : rz_L → rz_M → rz_Z → Bool} (hC : rz_Cx G TB y cc nL rt rm p R s m args meth c) (hown : y.cls = own) (hM : ∀ (vs : rz_L) (M : rz_M) (Z : rz_Z), vs.length = n + 1 → f vs M Z = true → Met l x (.code x bytes maxL rt2 :: TB) rm2 (rz_Pre G vs M) (rz_Qv G M.2 Z) mc ms (fun q => rz_b G ≤ q)) (cw : CallW R s args own C index x bytes maxL rt2 (.code x bytes maxL rt2 :: TB) rm2 mc ms n) (hc : (rz_cl G)[ci]? = some (C, T0, N0)) (hd : decode cc pc = .ok (.invokevirtual index, 3)) (hk : rz_Ok G p l e R s m args below meth c Q nL nz1 (pc + 3) (k)) (hz : nz0.1 + mc ≤ nz1.1 ∧ nz0.2 + ms ≤ nz1.2 := by exact ⟨Nat.le_refl _, Nat.le_refl _⟩) (hf : nz1.1 ≤ R.cells ∧ nz1.2 ≤ R.slots := by exact ⟨Nat.zero_le _, Nat.zero_le _⟩) : rz_Ok G p l e R s m args below meth c Q nL nz0 (pc) (rz_callVv n (Nat.add (Nat.mul 256 ci) 1) f k J Z) := by
  obtain ⟨hx, hb, hml, hr, hlk, ho, hts, hKn, hRm⟩ := hC
  intro L S M h ls H locs hL hW hS h0
  replace h := rz_take_t h
  obtain ⟨as, T1, rfl, hlen, h⟩ := h
  rw [List.append_nil] at h
  replace h := rz_hd_t h
  obtain ⟨o, U, rfl, h⟩ := h
  replace h := rz_ref_t h
  obtain ⟨q, rfl, h⟩ := h
  replace h := rz_mm_t h
  obtain ⟨g, nz, rfl, h⟩ := h
  obtain ⟨hq, h⟩ := rz_get_t 9 h
  rcases rz_if_t h with ⟨hh, h⟩ | ⟨-, h⟩
  · have hh := rz_beq.1.mp hh
    obtain ⟨hfew, h⟩ := rz_few_t h
    have hlt := rz_wd_lt hW hq (by rw [hh]; exact Nat.succ_ne_zero _)
    have hat := rz_den_at (G := G) (h := g) hlt
    rw [hh, rz_e_obj] at hat
    have hR := va_runV (e := e) (below := below) (meth := meth) (As := as.map (rz_v G)) (rest := U.map (rz_v G)) (nL := nL) (Ts := Cond.code y cc nL rt :: TB) ⟨hx, hb, hml, by rw [← hown]; exact ho, hts⟩ (hM _ _ _ (by rw [List.length_cons, hlen]) h) cw ⟨rz_blind, va_recv hKn.1 hW.2.2.2 hc hat, fun V hV hWm => rz_pre_at (vs := rz_r (q + 1) :: as) hKn hW hS hV hWm⟩ (g := F0 m pc ls ((as.reverse ++ rz_r (q + 1) :: U).map (rz_v G))) rfl (by rw [List.length_map]; exact hlen) hL.1 (by rw [List.map_append, List.map_reverse, List.map_cons]; rfl) (lv_room (rz_sum G hfew)) hd (locs := locs) (H := H) (cells := nz0.1) (slots := nz0.2) ⟨Nat.le_trans hz.1 hf.1, Nat.le_trans hz.2 hf.2⟩
    refine va_callv hR hS (fun _ _ z => z) (fun _ z => z) (fun u t H1 locs1 ht hvm hpo hB _ _ hS1 => ?_)
    refine W.widen hz.1 hz.2 ?_
    exact hk L U u hpo ls H1 locs1 hL (by rw [← ht]; exact hB.1) hS1 trivial
  · cases h
theorem rz_callS_ok {own : String} {index n maxL mc ms : Nat} {nz1 : Nat × Nat} {bytes : ByteArray} {f : rz_L → rz_M → rz_Z → Bool} (hC : rz_Cx G TB y cc nL rt rm p R s m args meth c) (hown : y.cls = own) (hM : ∀ (vs : rz_L) (M : rz_M) (Z : rz_Z), vs.length = n → f vs M Z = true → Met l x (.code x bytes maxL rt2 :: TB) rm2 (rz_Pre G vs M) (rz_Qi G M.2 Z) mc ms (fun q => rz_b G ≤ q)) (cw : CallB R s args own index x bytes maxL rt2 (.code x bytes maxL rt2 :: TB) rm2 mc ms n ∧ (Cond.static x).before args s = true) (hd : decode cc pc = .ok (.invokestatic index, 3)) (hk : rz_Ok G p l e R s m args below meth c Q nL nz1 (pc + 3) (k)) (hz : nz0.1 + mc ≤ nz1.1 ∧ nz0.2 + ms ≤ nz1.2 := by exact ⟨Nat.le_refl _, Nat.le_refl _⟩) (hf : nz1.1 ≤ R.cells ∧ nz1.2 ≤ R.slots := by exact ⟨Nat.zero_le _, Nat.zero_le _⟩) : rz_Ok G p l e R s m args below meth c Q nL nz0 (pc) (rz_callS n f k J Z) := by
  obtain ⟨hx, hb, hml, hr, hlk, ho, hts, hKn, hRm⟩ := hC
  intro L S M h ls H locs hL hW hS h0
  replace h := rz_take_t h
  obtain ⟨as, U, rfl, hlen, h⟩ := h
  rw [List.append_nil] at h
  obtain ⟨hfew, h⟩ := rz_few_t h
  have hR := va_runS (e := e) (below := below) (meth := meth) (As := as.map (rz_v G)) (rest := U.map (rz_v G)) (nL := nL) (Ts := Cond.code y cc nL rt :: TB) ⟨hx, hb, hml, by rw [← hown]; exact ho, hts⟩ (hM _ _ _ hlen h) cw ⟨rz_blind, fun V hV hWm => rz_pre_at (vs := as) hKn hW hS hV hWm⟩ (g := F0 m pc ls ((as.reverse ++ U).map (rz_v G))) rfl (by rw [List.length_map]; exact hlen) hL.1 (by rw [List.map_append, List.map_reverse]) (lv_room (rz_sum G hfew)) hd (locs := locs) (H := H) (cells := nz0.1) (slots := nz0.2) ⟨Nat.le_trans hz.1 hf.1, Nat.le_trans hz.2 hf.2⟩
  refine va_calli hR hS (fun _ _ z => z) (fun _ z => z) (fun r u t H1 locs1 ht hvm hpo hB _ _ hS1 => ?_)
  refine W.widen hz.1 hz.2 ?_
  obtain ⟨u1, u2⟩ := u
  have hz := hk L (u1 :: U) u2 hpo.2 ls H1 locs1 hL (by rw [← ht]; exact hB.1) hS1 trivial
  rw [List.map_cons, hpo.1] at hz
  exact hz
theorem rz_callSv_ok {own : String} {index n maxL mc ms : Nat} {nz1 : Nat × Nat} {bytes : ByteArray} {f : rz_L → rz_M → rz_Z → Bool} (hC : rz_Cx G TB y cc nL rt rm p R s m args meth c) (hown : y.cls = own) (hM : ∀ (vs : rz_L) (M : rz_M) (Z : rz_Z), vs.length = n → f vs M Z = true → Met l x (.code x bytes maxL rt2 :: TB) rm2 (rz_Pre G vs M) (rz_Qv G M.2 Z) mc ms (fun q => rz_b G ≤ q)) (cw : CallB R s args own index x bytes maxL rt2 (.code x bytes maxL rt2 :: TB) rm2 mc ms n ∧ (Cond.static x).before args s = true) (hd : decode cc pc = .ok (.invokestatic index, 3)) (hk : rz_Ok G p l e R s m args below meth c Q nL nz1 (pc + 3) (k)) (hz : nz0.1 + mc ≤ nz1.1 ∧ nz0.2 + ms ≤ nz1.2 := by exact ⟨Nat.le_refl _, Nat.le_refl _⟩) (hf : nz1.1 ≤ R.cells ∧ nz1.2 ≤ R.slots := by exact ⟨Nat.zero_le _, Nat.zero_le _⟩) : rz_Ok G p l e R s m args below meth c Q nL nz0 (pc) (rz_callSv n f k J Z) := by
  obtain ⟨hx, hb, hml, hr, hlk, ho, hts, hKn, hRm⟩ := hC
  intro L S M h ls H locs hL hW hS h0
  replace h := rz_take_t h
  obtain ⟨as, U, rfl, hlen, h⟩ := h
  rw [List.append_nil] at h
  obtain ⟨hfew, h⟩ := rz_few_t h
  have hR := va_runS (e := e) (below := below) (meth := meth) (As := as.map (rz_v G)) (rest := U.map (rz_v G)) (nL := nL) (Ts := Cond.code y cc nL rt :: TB) ⟨hx, hb, hml, by rw [← hown]; exact ho, hts⟩ (hM _ _ _ hlen h) cw ⟨rz_blind, fun V hV hWm => rz_pre_at (vs := as) hKn hW hS hV hWm⟩ (g := F0 m pc ls ((as.reverse ++ U).map (rz_v G))) rfl (by rw [List.length_map]; exact hlen) hL.1 (by rw [List.map_append, List.map_reverse]) (lv_room (rz_sum G hfew)) hd (locs := locs) (H := H) (cells := nz0.1) (slots := nz0.2) ⟨Nat.le_trans hz.1 hf.1, Nat.le_trans hz.2 hf.2⟩
  refine va_callv hR hS (fun _ _ z => z) (fun _ z => z) (fun u t H1 locs1 ht hvm hpo hB _ _ hS1 => ?_)
  refine W.widen hz.1 hz.2 ?_
  exact hk L U u hpo ls H1 locs1 hL (by rw [← ht]; exact hB.1) hS1 trivial
end RZC
