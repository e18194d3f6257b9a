/-! Constructors, and what they call: handlers, facts, contracts. -/
theorem rz_bodyM {G : rz_G} {l : Launch} {TB : List Cond} {y : MethodName} {cc : ByteArray} {maxL fuel mc ms : Nat} {rt : Option FieldType} {rm : Room} {code : List rz_B} {pcs : List Nat} {cz : List (Nat × Nat)} {vs : rz_L} {M : rz_M} {Z : rz_Z} {Qc : Array Value → State → Outcome → State → Prop} (hy : plainName y.cls = true) (hp0 : pcs.getD 0 0 = 0) (hz0 : cz.getD 0 (0, 0) = (0, 0)) (hn : vs.length ≤ maxL) (hrun : rz_go code maxL fuel vs M Z = true)
    (hF : ∀ (p : Program) (e : Env) (R : Room) (s : State) (m : MethodId) (args : Array Value) (below : List Frame) (meth : Method) (c : Code), rz_Cx G TB y cc maxL rt rm p R s m args meth c → meth.name = y.name → rz_All (rz_FcN G p l e R s m args below meth c (MQ below Qc args s mc ms (fun q => rz_b G ≤ q)) maxL cz Z pcs) 0 code) : Met l y (.code y cc maxL rt :: TB) rm (rz_Pre G vs M) Qc mc ms (fun q => rz_b G ≤ q) := by
  refine Met.ofW (cc := cc) (maxL := maxL) (ret := rt) hy rfl ?_
  intro p e s m args below meth c s₁ B hml hv
  obtain ⟨rfl, hwd, hKn⟩ := hv
  obtain ⟨hcat, hrun⟩ := rz_ck_t G hrun
  have hts := atoms_spec (ws := Cond.code y cc maxL rt :: TB) B.pre
  have hA := hF p e (headSpec (Cond.code y cc maxL rt :: TB) rm).room s m _ below meth c ⟨B.exec, B.bytes, hml, B.returns, B.notSynchronized, findClass_of_methodNamed B.named, hts, hKn, rfl⟩ (name_of_methodNamed B.named B.method).1
  have hR := rz_run_ok (P := fun i K => rz_Ok G p l e (headSpec (Cond.code y cc maxL rt :: TB) rm).room s m (vs.map (rz_v G)).toArray below meth c (MQ below Qc (vs.map (rz_v G)).toArray s mc ms (fun q => rz_b G ≤ q)) maxL (cz.getD i (0, 0)) (pcs.getD i 0) K) (fun i L S M h => by cases h) (X := fun _ _ _ _ => false) hA (fun j L S M h => by cases h) fuel 0
  rw [lg_entry_eq]
  have := hR (rz_pad maxL vs) [] M hrun _ s.heap [] (rz_entry hcat hn) hwd va_S.rf trivial
  rw [hp0, hz0] at this
  exact this
theorem dX0_init_0 : decode cX0_init 0 = .ok (.aload_n 0, 1) := by decide +kernel
theorem dX0_init_1 : decode cX0_init 1 = .ok (.invokespecial 5, 3) := by decide +kernel
theorem dX0_init_4 : decode cX0_init 4 = .ok (.aload_n 0, 1) := by decide +kernel
theorem dX0_init_5 : decode cX0_init 5 = .ok (.sipush 6084, 3) := by decide +kernel
theorem dX0_init_8 : decode cX0_init 8 = .ok (.newarray .int, 2) := by decide +kernel
theorem dX0_init_10 : decode cX0_init 10 = .ok (.putfield 11, 3) := by decide +kernel
theorem dX0_init_13 : decode cX0_init 13 = .ok (.aload_n 0, 1) := by decide +kernel
theorem dX0_init_14 : decode cX0_init 14 = .ok (.ldc 15, 2) := by decide +kernel
theorem dX0_init_16 : decode cX0_init 16 = .ok (.newarray .long, 2) := by decide +kernel
theorem dX0_init_18 : decode cX0_init 18 = .ok (.putfield 16, 3) := by decide +kernel
theorem dX0_init_21 : decode cX0_init 21 = .ok (.aload_n 0, 1) := by decide +kernel
theorem dX0_init_22 : decode cX0_init 22 = .ok (.sipush 2028, 3) := by decide +kernel
theorem dX0_init_25 : decode cX0_init 25 = .ok (.newarray .long, 2) := by decide +kernel
theorem dX0_init_27 : decode cX0_init 27 = .ok (.putfield 20, 3) := by decide +kernel
theorem dX0_init_30 : decode cX0_init 30 = .ok (.aload_n 0, 1) := by decide +kernel
theorem dX0_init_31 : decode cX0_init 31 = .ok (.bipush 18, 2) := by decide +kernel
theorem dX0_init_33 : decode cX0_init 33 = .ok (.newarray .int, 2) := by decide +kernel
theorem dX0_init_35 : decode cX0_init 35 = .ok (.putfield 23, 3) := by decide +kernel
theorem dX0_init_38 : decode cX0_init 38 = .ok (.aload_n 0, 1) := by decide +kernel
theorem dX0_init_39 : decode cX0_init 39 = .ok (.sipush 1014, 3) := by decide +kernel
theorem dX0_init_42 : decode cX0_init 42 = .ok (.newarray .int, 2) := by decide +kernel
theorem dX0_init_44 : decode cX0_init 44 = .ok (.putfield 26, 3) := by decide +kernel
theorem dX0_init_47 : decode cX0_init 47 = .ok (.aload_n 0, 1) := by decide +kernel
theorem dX0_init_48 : decode cX0_init 48 = .ok (.iconst 2, 1) := by decide +kernel
theorem dX0_init_49 : decode cX0_init 49 = .ok (.newarray .long, 2) := by decide +kernel
theorem dX0_init_51 : decode cX0_init 51 = .ok (.putfield 29, 3) := by decide +kernel
theorem dX0_init_54 : decode cX0_init 54 = .ok (.aload_n 0, 1) := by decide +kernel
theorem dX0_init_55 : decode cX0_init 55 = .ok (.iconst 2, 1) := by decide +kernel
theorem dX0_init_56 : decode cX0_init 56 = .ok (.newarray .long, 2) := by decide +kernel
theorem dX0_init_58 : decode cX0_init 58 = .ok (.putfield 32, 3) := by decide +kernel
theorem dX0_init_61 : decode cX0_init 61 = .ok (.aload_n 0, 1) := by decide +kernel
theorem dX0_init_62 : decode cX0_init 62 = .ok (.aload_n 1, 1) := by decide +kernel
theorem dX0_init_63 : decode cX0_init 63 = .ok (.putfield 35, 3) := by decide +kernel
theorem dX0_init_66 : decode cX0_init 66 = .ok (.return_, 1) := by decide +kernel
def rpX0_init : List Nat := [0, 1, 4, 5, 8, 10, 13, 14, 16, 18, 21, 22, 25, 27, 30, 31, 33, 35, 38, 39, 42, 44, 47, 48, 49, 51, 54, 55, 56, 58, 61, 62, 63, 66]
def rzX0_init : List (Nat × Nat) := [(0, 0), (0, 0), (0, 0), (0, 0), (0, 0), (1, 6084), (1, 6084), (1, 6084), (1, 6084), (2, 42588), (2, 42588), (2, 42588), (2, 42588), (3, 44616), (3, 44616), (3, 44616), (3, 44616), (4, 44634), (4, 44634), (4, 44634), (4, 44634), (5, 45648), (5, 45648), (5, 45648), (5, 45648), (6, 45650), (6, 45650), (6, 45650), (6, 45650), (7, 45652), (7, 45652), (7, 45652), (7, 45652), (7, 45652)]
noncomputable def rcX0_init : List rz_B := [rz_aload 0, rz_obj, rz_aload 0, rz_cst 6084, rz_newa 4 6084, rz_putf (Nat.add (Nat.mul 256 2) 1) 1 rz_unR, rz_aload 0, rz_cst 36504, rz_newa 2 36504, rz_putf (Nat.add (Nat.mul 256 2) 1) 2 rz_unR, rz_aload 0, rz_cst 2028, rz_newa 2 2028, rz_putf (Nat.add (Nat.mul 256 2) 1) 3 rz_unR, rz_aload 0, rz_cst 18, rz_newa 4 18, rz_putf (Nat.add (Nat.mul 256 2) 1) 4 rz_unR, rz_aload 0, rz_cst 1014, rz_newa 4 1014, rz_putf (Nat.add (Nat.mul 256 2) 1) 5 rz_unR, rz_aload 0, rz_cst 2, rz_newa 2 2, rz_putf (Nat.add (Nat.mul 256 2) 1) 6 rz_unR, rz_aload 0, rz_cst 2, rz_newa 2 2, rz_putf (Nat.add (Nat.mul 256 2) 1) 7 rz_unR, rz_aload 0, rz_aload 1, rz_putf (Nat.add (Nat.mul 256 2) 1) 0 rz_unR, rz_vret]
noncomputable def rgX0_init : rz_L → rz_M → rz_Z → Bool := rz_go rcX0_init 2 1000000
def rrX0_init : Room := { frames := 1, cells := 7, slots := 45652, locals := 60 }
theorem rmX0_init (l : Launch) {G : rz_G} (hG : rz_Gd G) (vs : rz_L) (M : rz_M) (Z : rz_Z) (hn : vs.length = 2) (h : rgX0_init vs M Z = true) : Met l yX0_init (Cond.code yX0_init cX0_init 2 none :: rz_TB) rrX0_init (rz_Pre G vs M) (rz_Qv G M.2 Z) 7 45652 (fun q => rz_b G ≤ q) := by
  obtain ⟨D, tc, ad, b, xs, rfl⟩ := id hG
  refine rz_bodyM (pcs := rpX0_init) (cz := rzX0_init) (by decide) rfl rfl (by rw [hn]; decide) h ?_
  intro p e R s m args below meth c hC hmn
  obtain ⟨hx, hb, hml, hr, hlk, ho, hts, hKn, hRm⟩ := id hC
  obtain ⟨hK, hA, hSt⟩ := id hKn
  have hw : ∀ {i j : Nat} {ws : List Cond} {w : Cond}, rz_WW[i]? = some ws → ws[j]? = some w → w.before args s = true := fun h1 h2 => hts _ (List.mem_cons_of_mem _ (rz_mem h1 h2))
  refine rz_All_c (i := 0) (fun k J hk hJ => rz_aload_n_ok (pc := 0) hx hb dX0_init_0 rfl hk) ?_
  refine rz_All_c (i := 1) (fun k J hk hJ => rz_obj_ok (pc := 1) (own := RX0) hx hb hml ho (hw (i := 69) (j := 9) rfl rfl) (hw (i := 55) (j := 1) rfl rfl) (hw (i := 55) (j := 2) rfl rfl) (by rw [hRm]; decide) (by rw [hRm]; decide) dX0_init_1 hk) ?_
  refine rz_All_c (i := 2) (fun k J hk hJ => rz_aload_n_ok (pc := 4) hx hb dX0_init_4 rfl hk) ?_
  refine rz_All_c (i := 3) (fun k J hk hJ => rz_sipush_ok (pc := 5) hx hb dX0_init_5 (by decide) hk) ?_
  refine rz_All_c (i := 4) (fun k J hk hJ => rz_newa_int_ok (pc := 8) (nz0 := (0, 0)) (mx := 6084) hx hb hK hA (hw (i := 57) (j := 7) rfl rfl) (by decide) (by rw [hRm]; decide) dX0_init_8 (rz_wid (by decide) hk)) ?_
  refine rz_All_c (i := 5) (fun k J hk hJ => rz_putfF_ok (pc := 10) (own := RX0) (ref := "ThreadJudge$Checker") (C := RX0) (T := TX0) (N := 12) (ci := 2) (index := 11) (f := 1) (t := 2) (Ts := Cond.code yX0_init cX0_init 2 none :: rz_TB) hx hb hts rz_in2 tyX0 tyX0_ok nmX0 ho hK hA rfl (by decide) rfl (rz_UnR _ (Or.inr ⟨_, rfl⟩)) rfl (hmn.trans rfl) rfl (tyX0_ok 1 (by decide)) (hw (i := 26) (j := 10) rfl rfl) (fun _ z => z) dX0_init_10 hk) ?_
  refine rz_All_c (i := 6) (fun k J hk hJ => rz_aload_n_ok (pc := 13) hx hb dX0_init_13 rfl hk) ?_
  refine rz_All_c (i := 7) (fun k J hk hJ => rz_ldc_ok (pc := 14) hx hb (own := RX0) ho (hw (i := 69) (j := 11) rfl rfl) dX0_init_14 hk) ?_
  refine rz_All_c (i := 8) (fun k J hk hJ => rz_newa_long_ok (pc := 16) (nz0 := (1, 6084)) (mx := 36504) hx hb hK hA (hw (i := 57) (j := 10) rfl rfl) (by decide) (by rw [hRm]; decide) dX0_init_16 (rz_wid (by decide) hk)) ?_
  refine rz_All_c (i := 9) (fun k J hk hJ => rz_putfF_ok (pc := 18) (own := RX0) (ref := "ThreadJudge$Checker") (C := RX0) (T := TX0) (N := 12) (ci := 2) (index := 16) (f := 2) (t := 2) (Ts := Cond.code yX0_init cX0_init 2 none :: rz_TB) hx hb hts rz_in2 tyX0 tyX0_ok nmX0 ho hK hA rfl (by decide) rfl (rz_UnR _ (Or.inr ⟨_, rfl⟩)) rfl (hmn.trans rfl) rfl (tyX0_ok 2 (by decide)) (hw (i := 27) (j := 1) rfl rfl) (fun _ z => z) dX0_init_18 hk) ?_
  refine rz_All_c (i := 10) (fun k J hk hJ => rz_aload_n_ok (pc := 21) hx hb dX0_init_21 rfl hk) ?_
  refine rz_All_c (i := 11) (fun k J hk hJ => rz_sipush_ok (pc := 22) hx hb dX0_init_22 (by decide) hk) ?_
  refine rz_All_c (i := 12) (fun k J hk hJ => rz_newa_long_ok (pc := 25) (nz0 := (2, 42588)) (mx := 2028) hx hb hK hA (hw (i := 57) (j := 10) rfl rfl) (by decide) (by rw [hRm]; decide) dX0_init_25 (rz_wid (by decide) hk)) ?_
  refine rz_All_c (i := 13) (fun k J hk hJ => rz_putfF_ok (pc := 27) (own := RX0) (ref := "ThreadJudge$Checker") (C := RX0) (T := TX0) (N := 12) (ci := 2) (index := 20) (f := 3) (t := 2) (Ts := Cond.code yX0_init cX0_init 2 none :: rz_TB) hx hb hts rz_in2 tyX0 tyX0_ok nmX0 ho hK hA rfl (by decide) rfl (rz_UnR _ (Or.inr ⟨_, rfl⟩)) rfl (hmn.trans rfl) rfl (tyX0_ok 3 (by decide)) (hw (i := 31) (j := 11) rfl rfl) (fun _ z => z) dX0_init_27 hk) ?_
  refine rz_All_c (i := 14) (fun k J hk hJ => rz_aload_n_ok (pc := 30) hx hb dX0_init_30 rfl hk) ?_
  refine rz_All_c (i := 15) (fun k J hk hJ => rz_bipush_ok (pc := 31) hx hb dX0_init_31 (by decide) hk) ?_
  refine rz_All_c (i := 16) (fun k J hk hJ => rz_newa_int_ok (pc := 33) (nz0 := (3, 44616)) (mx := 18) hx hb hK hA (hw (i := 57) (j := 7) rfl rfl) (by decide) (by rw [hRm]; decide) dX0_init_33 (rz_wid (by decide) hk)) ?_
  refine rz_All_c (i := 17) (fun k J hk hJ => rz_putfF_ok (pc := 35) (own := RX0) (ref := "ThreadJudge$Checker") (C := RX0) (T := TX0) (N := 12) (ci := 2) (index := 23) (f := 4) (t := 2) (Ts := Cond.code yX0_init cX0_init 2 none :: rz_TB) hx hb hts rz_in2 tyX0 tyX0_ok nmX0 ho hK hA rfl (by decide) rfl (rz_UnR _ (Or.inr ⟨_, rfl⟩)) rfl (hmn.trans rfl) rfl (tyX0_ok 4 (by decide)) (hw (i := 28) (j := 7) rfl rfl) (fun _ z => z) dX0_init_35 hk) ?_
  refine rz_All_c (i := 18) (fun k J hk hJ => rz_aload_n_ok (pc := 38) hx hb dX0_init_38 rfl hk) ?_
  refine rz_All_c (i := 19) (fun k J hk hJ => rz_sipush_ok (pc := 39) hx hb dX0_init_39 (by decide) hk) ?_
  refine rz_All_c (i := 20) (fun k J hk hJ => rz_newa_int_ok (pc := 42) (nz0 := (4, 44634)) (mx := 1014) hx hb hK hA (hw (i := 57) (j := 7) rfl rfl) (by decide) (by rw [hRm]; decide) dX0_init_42 (rz_wid (by decide) hk)) ?_
  refine rz_All_c (i := 21) (fun k J hk hJ => rz_putfF_ok (pc := 44) (own := RX0) (ref := "ThreadJudge$Checker") (C := RX0) (T := TX0) (N := 12) (ci := 2) (index := 26) (f := 5) (t := 2) (Ts := Cond.code yX0_init cX0_init 2 none :: rz_TB) hx hb hts rz_in2 tyX0 tyX0_ok nmX0 ho hK hA rfl (by decide) rfl (rz_UnR _ (Or.inr ⟨_, rfl⟩)) rfl (hmn.trans rfl) rfl (tyX0_ok 5 (by decide)) (hw (i := 25) (j := 5) rfl rfl) (fun _ z => z) dX0_init_44 hk) ?_
  refine rz_All_c (i := 22) (fun k J hk hJ => rz_aload_n_ok (pc := 47) hx hb dX0_init_47 rfl hk) ?_
  refine rz_All_c (i := 23) (fun k J hk hJ => rz_iconst_ok (pc := 48) hx hb dX0_init_48 rfl hk) ?_
  refine rz_All_c (i := 24) (fun k J hk hJ => rz_newa_long_ok (pc := 49) (nz0 := (5, 45648)) (mx := 2) hx hb hK hA (hw (i := 57) (j := 10) rfl rfl) (by decide) (by rw [hRm]; decide) dX0_init_49 (rz_wid (by decide) hk)) ?_
  refine rz_All_c (i := 25) (fun k J hk hJ => rz_putfF_ok (pc := 51) (own := RX0) (ref := "ThreadJudge$Checker") (C := RX0) (T := TX0) (N := 12) (ci := 2) (index := 29) (f := 6) (t := 2) (Ts := Cond.code yX0_init cX0_init 2 none :: rz_TB) hx hb hts rz_in2 tyX0 tyX0_ok nmX0 ho hK hA rfl (by decide) rfl (rz_UnR _ (Or.inr ⟨_, rfl⟩)) rfl (hmn.trans rfl) rfl (tyX0_ok 6 (by decide)) (hw (i := 28) (j := 18) rfl rfl) (fun _ z => z) dX0_init_51 hk) ?_
  refine rz_All_c (i := 26) (fun k J hk hJ => rz_aload_n_ok (pc := 54) hx hb dX0_init_54 rfl hk) ?_
  refine rz_All_c (i := 27) (fun k J hk hJ => rz_iconst_ok (pc := 55) hx hb dX0_init_55 rfl hk) ?_
  refine rz_All_c (i := 28) (fun k J hk hJ => rz_newa_long_ok (pc := 56) (nz0 := (6, 45650)) (mx := 2) hx hb hK hA (hw (i := 57) (j := 10) rfl rfl) (by decide) (by rw [hRm]; decide) dX0_init_56 (rz_wid (by decide) hk)) ?_
  refine rz_All_c (i := 29) (fun k J hk hJ => rz_putfF_ok (pc := 58) (own := RX0) (ref := "ThreadJudge$Checker") (C := RX0) (T := TX0) (N := 12) (ci := 2) (index := 32) (f := 7) (t := 2) (Ts := Cond.code yX0_init cX0_init 2 none :: rz_TB) hx hb hts rz_in2 tyX0 tyX0_ok nmX0 ho hK hA rfl (by decide) rfl (rz_UnR _ (Or.inr ⟨_, rfl⟩)) rfl (hmn.trans rfl) rfl (tyX0_ok 7 (by decide)) (hw (i := 30) (j := 1) rfl rfl) (fun _ z => z) dX0_init_58 hk) ?_
  refine rz_All_c (i := 30) (fun k J hk hJ => rz_aload_n_ok (pc := 61) hx hb dX0_init_61 rfl hk) ?_
  refine rz_All_c (i := 31) (fun k J hk hJ => rz_aload_n_ok (pc := 62) hx hb dX0_init_62 rfl hk) ?_
  refine rz_All_c (i := 32) (fun k J hk hJ => rz_putfF_ok (pc := 63) (own := RX0) (ref := "ThreadJudge$Checker") (C := RX0) (T := TX0) (N := 12) (ci := 2) (index := 35) (f := 0) (t := 2) (Ts := Cond.code yX0_init cX0_init 2 none :: rz_TB) hx hb hts rz_in2 tyX0 tyX0_ok nmX0 ho hK hA rfl (by decide) rfl (rz_UnR _ (Or.inl ⟨_, rfl⟩)) rfl (hmn.trans rfl) rfl (tyX0_ok 0 (by decide)) (hw (i := 24) (j := 20) rfl rfl) (fun _ z => z) dX0_init_63 hk) ?_
  refine rz_All_c (i := 33) (fun k J hk hJ => rz_vret_ok (pc := 66) (nz0 := (7, 45652)) hC dX0_init_66 (by decide)) ?_
  exact trivial
theorem dX1_init_0 : decode cX1_init 0 = .ok (.aload_n 0, 1) := by decide +kernel
theorem dX1_init_1 : decode cX1_init 1 = .ok (.invokespecial 3, 3) := by decide +kernel
theorem dX1_init_4 : decode cX1_init 4 = .ok (.aload_n 0, 1) := by decide +kernel
theorem dX1_init_5 : decode cX1_init 5 = .ok (.sipush 144, 3) := by decide +kernel
theorem dX1_init_8 : decode cX1_init 8 = .ok (.newarray .int, 2) := by decide +kernel
theorem dX1_init_10 : decode cX1_init 10 = .ok (.putfield 9, 3) := by decide +kernel
theorem dX1_init_13 : decode cX1_init 13 = .ok (.aload_n 0, 1) := by decide +kernel
theorem dX1_init_14 : decode cX1_init 14 = .ok (.sipush 4800, 3) := by decide +kernel
theorem dX1_init_17 : decode cX1_init 17 = .ok (.newarray .int, 2) := by decide +kernel
theorem dX1_init_19 : decode cX1_init 19 = .ok (.putfield 15, 3) := by decide +kernel
theorem dX1_init_22 : decode cX1_init 22 = .ok (.aload_n 0, 1) := by decide +kernel
theorem dX1_init_23 : decode cX1_init 23 = .ok (.sipush 516, 3) := by decide +kernel
theorem dX1_init_26 : decode cX1_init 26 = .ok (.newarray .int, 2) := by decide +kernel
theorem dX1_init_28 : decode cX1_init 28 = .ok (.putfield 18, 3) := by decide +kernel
theorem dX1_init_31 : decode cX1_init 31 = .ok (.aload_n 0, 1) := by decide +kernel
theorem dX1_init_32 : decode cX1_init 32 = .ok (.ldc 21, 2) := by decide +kernel
theorem dX1_init_34 : decode cX1_init 34 = .ok (.newarray .int, 2) := by decide +kernel
theorem dX1_init_36 : decode cX1_init 36 = .ok (.putfield 22, 3) := by decide +kernel
theorem dX1_init_39 : decode cX1_init 39 = .ok (.aload_n 0, 1) := by decide +kernel
theorem dX1_init_40 : decode cX1_init 40 = .ok (.sipush 16224, 3) := by decide +kernel
theorem dX1_init_43 : decode cX1_init 43 = .ok (.newarray .long, 2) := by decide +kernel
theorem dX1_init_45 : decode cX1_init 45 = .ok (.putfield 25, 3) := by decide +kernel
theorem dX1_init_48 : decode cX1_init 48 = .ok (.aload_n 0, 1) := by decide +kernel
theorem dX1_init_49 : decode cX1_init 49 = .ok (.sipush 1000, 3) := by decide +kernel
theorem dX1_init_52 : decode cX1_init 52 = .ok (.newarray .int, 2) := by decide +kernel
theorem dX1_init_54 : decode cX1_init 54 = .ok (.putfield 29, 3) := by decide +kernel
theorem dX1_init_57 : decode cX1_init 57 = .ok (.aload_n 0, 1) := by decide +kernel
theorem dX1_init_58 : decode cX1_init 58 = .ok (.sipush 1000, 3) := by decide +kernel
theorem dX1_init_61 : decode cX1_init 61 = .ok (.newarray .int, 2) := by decide +kernel
theorem dX1_init_63 : decode cX1_init 63 = .ok (.putfield 32, 3) := by decide +kernel
theorem dX1_init_66 : decode cX1_init 66 = .ok (.aload_n 0, 1) := by decide +kernel
theorem dX1_init_67 : decode cX1_init 67 = .ok (.aload_n 1, 1) := by decide +kernel
theorem dX1_init_68 : decode cX1_init 68 = .ok (.putfield 35, 3) := by decide +kernel
theorem dX1_init_71 : decode cX1_init 71 = .ok (.aload_n 0, 1) := by decide +kernel
theorem dX1_init_72 : decode cX1_init 72 = .ok (.aload_n 2, 1) := by decide +kernel
theorem dX1_init_73 : decode cX1_init 73 = .ok (.putfield 39, 3) := by decide +kernel
theorem dX1_init_76 : decode cX1_init 76 = .ok (.return_, 1) := by decide +kernel
def rpX1_init : List Nat := [0, 1, 4, 5, 8, 10, 13, 14, 17, 19, 22, 23, 26, 28, 31, 32, 34, 36, 39, 40, 43, 45, 48, 49, 52, 54, 57, 58, 61, 63, 66, 67, 68, 71, 72, 73, 76]
def rzX1_init : List (Nat × Nat) := [(0, 0), (0, 0), (0, 0), (0, 0), (0, 0), (1, 144), (1, 144), (1, 144), (1, 144), (2, 4944), (2, 4944), (2, 4944), (2, 4944), (3, 5460), (3, 5460), (3, 5460), (3, 5460), (4, 390420), (4, 390420), (4, 390420), (4, 390420), (5, 406644), (5, 406644), (5, 406644), (5, 406644), (6, 407644), (6, 407644), (6, 407644), (6, 407644), (7, 408644), (7, 408644), (7, 408644), (7, 408644), (7, 408644), (7, 408644), (7, 408644), (7, 408644)]
noncomputable def rcX1_init : List rz_B := [rz_aload 0, rz_obj, rz_aload 0, rz_cst 144, rz_newa 4 144, rz_putf (Nat.add (Nat.mul 256 3) 1) 2 rz_unR, rz_aload 0, rz_cst 4800, rz_newa 4 4800, rz_putf (Nat.add (Nat.mul 256 3) 1) 3 rz_unR, rz_aload 0, rz_cst 516, rz_newa 4 516, rz_putf (Nat.add (Nat.mul 256 3) 1) 4 rz_unR, rz_aload 0, rz_cst 384960, rz_newa 4 384960, rz_putf (Nat.add (Nat.mul 256 3) 1) 5 rz_unR, rz_aload 0, rz_cst 16224, rz_newa 2 16224, rz_putf (Nat.add (Nat.mul 256 3) 1) 6 rz_unR, rz_aload 0, rz_cst 1000, rz_newa 4 1000, rz_putf (Nat.add (Nat.mul 256 3) 1) 7 rz_unR, rz_aload 0, rz_cst 1000, rz_newa 4 1000, rz_putf (Nat.add (Nat.mul 256 3) 1) 8 rz_unR, rz_aload 0, rz_aload 1, rz_putf (Nat.add (Nat.mul 256 3) 1) 0 rz_unR, rz_aload 0, rz_aload 2, rz_putf (Nat.add (Nat.mul 256 3) 1) 1 rz_unR, rz_vret]
noncomputable def rgX1_init : rz_L → rz_M → rz_Z → Bool := rz_go rcX1_init 3 1000000
def rrX1_init : Room := { frames := 1, cells := 7, slots := 408644, locals := 60 }
theorem rmX1_init (l : Launch) {G : rz_G} (hG : rz_Gd G) (vs : rz_L) (M : rz_M) (Z : rz_Z) (hn : vs.length = 3) (h : rgX1_init vs M Z = true) : Met l yX1_init (Cond.code yX1_init cX1_init 3 none :: rz_TB) rrX1_init (rz_Pre G vs M) (rz_Qv G M.2 Z) 7 408644 (fun q => rz_b G ≤ q) := by
  obtain ⟨D, tc, ad, b, xs, rfl⟩ := id hG
  refine rz_bodyM (pcs := rpX1_init) (cz := rzX1_init) (by decide) rfl rfl (by rw [hn]; decide) h ?_
  intro p e R s m args below meth c hC hmn
  obtain ⟨hx, hb, hml, hr, hlk, ho, hts, hKn, hRm⟩ := id hC
  obtain ⟨hK, hA, hSt⟩ := id hKn
  have hw : ∀ {i j : Nat} {ws : List Cond} {w : Cond}, rz_WW[i]? = some ws → ws[j]? = some w → w.before args s = true := fun h1 h2 => hts _ (List.mem_cons_of_mem _ (rz_mem h1 h2))
  refine rz_All_c (i := 0) (fun k J hk hJ => rz_aload_n_ok (pc := 0) hx hb dX1_init_0 rfl hk) ?_
  refine rz_All_c (i := 1) (fun k J hk hJ => rz_obj_ok (pc := 1) (own := RX1) hx hb hml ho (hw (i := 73) (j := 21) rfl rfl) (hw (i := 55) (j := 1) rfl rfl) (hw (i := 55) (j := 2) rfl rfl) (by rw [hRm]; decide) (by rw [hRm]; decide) dX1_init_1 hk) ?_
  refine rz_All_c (i := 2) (fun k J hk hJ => rz_aload_n_ok (pc := 4) hx hb dX1_init_4 rfl hk) ?_
  refine rz_All_c (i := 3) (fun k J hk hJ => rz_sipush_ok (pc := 5) hx hb dX1_init_5 (by decide) hk) ?_
  refine rz_All_c (i := 4) (fun k J hk hJ => rz_newa_int_ok (pc := 8) (nz0 := (0, 0)) (mx := 144) hx hb hK hA (hw (i := 57) (j := 7) rfl rfl) (by decide) (by rw [hRm]; decide) dX1_init_8 (rz_wid (by decide) hk)) ?_
  refine rz_All_c (i := 5) (fun k J hk hJ => rz_putfF_ok (pc := 10) (own := RX1) (ref := "ThreadJudge$Clocks") (C := RX1) (T := TX1) (N := 12) (ci := 3) (index := 9) (f := 2) (t := 2) (Ts := Cond.code yX1_init cX1_init 3 none :: rz_TB) hx hb hts rz_in3 tyX1 tyX1_ok nmX1 ho hK hA rfl (by decide) rfl (rz_UnR _ (Or.inr ⟨_, rfl⟩)) rfl (hmn.trans rfl) rfl (tyX1_ok 2 (by decide)) (hw (i := 73) (j := 22) rfl rfl) (fun _ z => z) dX1_init_10 hk) ?_
  refine rz_All_c (i := 6) (fun k J hk hJ => rz_aload_n_ok (pc := 13) hx hb dX1_init_13 rfl hk) ?_
  refine rz_All_c (i := 7) (fun k J hk hJ => rz_sipush_ok (pc := 14) hx hb dX1_init_14 (by decide) hk) ?_
  refine rz_All_c (i := 8) (fun k J hk hJ => rz_newa_int_ok (pc := 17) (nz0 := (1, 144)) (mx := 4800) hx hb hK hA (hw (i := 57) (j := 7) rfl rfl) (by decide) (by rw [hRm]; decide) dX1_init_17 (rz_wid (by decide) hk)) ?_
  refine rz_All_c (i := 9) (fun k J hk hJ => rz_putfF_ok (pc := 19) (own := RX1) (ref := "ThreadJudge$Clocks") (C := RX1) (T := TX1) (N := 12) (ci := 3) (index := 15) (f := 3) (t := 2) (Ts := Cond.code yX1_init cX1_init 3 none :: rz_TB) hx hb hts rz_in3 tyX1 tyX1_ok nmX1 ho hK hA rfl (by decide) rfl (rz_UnR _ (Or.inr ⟨_, rfl⟩)) rfl (hmn.trans rfl) rfl (tyX1_ok 3 (by decide)) (hw (i := 73) (j := 23) rfl rfl) (fun _ z => z) dX1_init_19 hk) ?_
  refine rz_All_c (i := 10) (fun k J hk hJ => rz_aload_n_ok (pc := 22) hx hb dX1_init_22 rfl hk) ?_
  refine rz_All_c (i := 11) (fun k J hk hJ => rz_sipush_ok (pc := 23) hx hb dX1_init_23 (by decide) hk) ?_
  refine rz_All_c (i := 12) (fun k J hk hJ => rz_newa_int_ok (pc := 26) (nz0 := (2, 4944)) (mx := 516) hx hb hK hA (hw (i := 57) (j := 7) rfl rfl) (by decide) (by rw [hRm]; decide) dX1_init_26 (rz_wid (by decide) hk)) ?_
  refine rz_All_c (i := 13) (fun k J hk hJ => rz_putfF_ok (pc := 28) (own := RX1) (ref := "ThreadJudge$Clocks") (C := RX1) (T := TX1) (N := 12) (ci := 3) (index := 18) (f := 4) (t := 2) (Ts := Cond.code yX1_init cX1_init 3 none :: rz_TB) hx hb hts rz_in3 tyX1 tyX1_ok nmX1 ho hK hA rfl (by decide) rfl (rz_UnR _ (Or.inr ⟨_, rfl⟩)) rfl (hmn.trans rfl) rfl (tyX1_ok 4 (by decide)) (hw (i := 74) (j := 0) rfl rfl) (fun _ z => z) dX1_init_28 hk) ?_
  refine rz_All_c (i := 14) (fun k J hk hJ => rz_aload_n_ok (pc := 31) hx hb dX1_init_31 rfl hk) ?_
  refine rz_All_c (i := 15) (fun k J hk hJ => rz_ldc_ok (pc := 32) hx hb (own := RX1) ho (hw (i := 74) (j := 1) rfl rfl) dX1_init_32 hk) ?_
  refine rz_All_c (i := 16) (fun k J hk hJ => rz_newa_int_ok (pc := 34) (nz0 := (3, 5460)) (mx := 384960) hx hb hK hA (hw (i := 57) (j := 7) rfl rfl) (by decide) (by rw [hRm]; decide) dX1_init_34 (rz_wid (by decide) hk)) ?_
  refine rz_All_c (i := 17) (fun k J hk hJ => rz_putfF_ok (pc := 36) (own := RX1) (ref := "ThreadJudge$Clocks") (C := RX1) (T := TX1) (N := 12) (ci := 3) (index := 22) (f := 5) (t := 2) (Ts := Cond.code yX1_init cX1_init 3 none :: rz_TB) hx hb hts rz_in3 tyX1 tyX1_ok nmX1 ho hK hA rfl (by decide) rfl (rz_UnR _ (Or.inr ⟨_, rfl⟩)) rfl (hmn.trans rfl) rfl (tyX1_ok 5 (by decide)) (hw (i := 74) (j := 2) rfl rfl) (fun _ z => z) dX1_init_36 hk) ?_
  refine rz_All_c (i := 18) (fun k J hk hJ => rz_aload_n_ok (pc := 39) hx hb dX1_init_39 rfl hk) ?_
  refine rz_All_c (i := 19) (fun k J hk hJ => rz_sipush_ok (pc := 40) hx hb dX1_init_40 (by decide) hk) ?_
  refine rz_All_c (i := 20) (fun k J hk hJ => rz_newa_long_ok (pc := 43) (nz0 := (4, 390420)) (mx := 16224) hx hb hK hA (hw (i := 57) (j := 10) rfl rfl) (by decide) (by rw [hRm]; decide) dX1_init_43 (rz_wid (by decide) hk)) ?_
  refine rz_All_c (i := 21) (fun k J hk hJ => rz_putfF_ok (pc := 45) (own := RX1) (ref := "ThreadJudge$Clocks") (C := RX1) (T := TX1) (N := 12) (ci := 3) (index := 25) (f := 6) (t := 2) (Ts := Cond.code yX1_init cX1_init 3 none :: rz_TB) hx hb hts rz_in3 tyX1 tyX1_ok nmX1 ho hK hA rfl (by decide) rfl (rz_UnR _ (Or.inr ⟨_, rfl⟩)) rfl (hmn.trans rfl) rfl (tyX1_ok 6 (by decide)) (hw (i := 74) (j := 3) rfl rfl) (fun _ z => z) dX1_init_45 hk) ?_
  refine rz_All_c (i := 22) (fun k J hk hJ => rz_aload_n_ok (pc := 48) hx hb dX1_init_48 rfl hk) ?_
  refine rz_All_c (i := 23) (fun k J hk hJ => rz_sipush_ok (pc := 49) hx hb dX1_init_49 (by decide) hk) ?_
  refine rz_All_c (i := 24) (fun k J hk hJ => rz_newa_int_ok (pc := 52) (nz0 := (5, 406644)) (mx := 1000) hx hb hK hA (hw (i := 57) (j := 7) rfl rfl) (by decide) (by rw [hRm]; decide) dX1_init_52 (rz_wid (by decide) hk)) ?_
  refine rz_All_c (i := 25) (fun k J hk hJ => rz_putfF_ok (pc := 54) (own := RX1) (ref := "ThreadJudge$Clocks") (C := RX1) (T := TX1) (N := 12) (ci := 3) (index := 29) (f := 7) (t := 2) (Ts := Cond.code yX1_init cX1_init 3 none :: rz_TB) hx hb hts rz_in3 tyX1 tyX1_ok nmX1 ho hK hA rfl (by decide) rfl (rz_UnR _ (Or.inr ⟨_, rfl⟩)) rfl (hmn.trans rfl) rfl (tyX1_ok 7 (by decide)) (hw (i := 74) (j := 4) rfl rfl) (fun _ z => z) dX1_init_54 hk) ?_
  refine rz_All_c (i := 26) (fun k J hk hJ => rz_aload_n_ok (pc := 57) hx hb dX1_init_57 rfl hk) ?_
  refine rz_All_c (i := 27) (fun k J hk hJ => rz_sipush_ok (pc := 58) hx hb dX1_init_58 (by decide) hk) ?_
  refine rz_All_c (i := 28) (fun k J hk hJ => rz_newa_int_ok (pc := 61) (nz0 := (6, 407644)) (mx := 1000) hx hb hK hA (hw (i := 57) (j := 7) rfl rfl) (by decide) (by rw [hRm]; decide) dX1_init_61 (rz_wid (by decide) hk)) ?_
  refine rz_All_c (i := 29) (fun k J hk hJ => rz_putfF_ok (pc := 63) (own := RX1) (ref := "ThreadJudge$Clocks") (C := RX1) (T := TX1) (N := 12) (ci := 3) (index := 32) (f := 8) (t := 2) (Ts := Cond.code yX1_init cX1_init 3 none :: rz_TB) hx hb hts rz_in3 tyX1 tyX1_ok nmX1 ho hK hA rfl (by decide) rfl (rz_UnR _ (Or.inr ⟨_, rfl⟩)) rfl (hmn.trans rfl) rfl (tyX1_ok 8 (by decide)) (hw (i := 74) (j := 5) rfl rfl) (fun _ z => z) dX1_init_63 hk) ?_
  refine rz_All_c (i := 30) (fun k J hk hJ => rz_aload_n_ok (pc := 66) hx hb dX1_init_66 rfl hk) ?_
  refine rz_All_c (i := 31) (fun k J hk hJ => rz_aload_n_ok (pc := 67) hx hb dX1_init_67 rfl hk) ?_
  refine rz_All_c (i := 32) (fun k J hk hJ => rz_putfF_ok (pc := 68) (own := RX1) (ref := "ThreadJudge$Clocks") (C := RX1) (T := TX1) (N := 12) (ci := 3) (index := 35) (f := 0) (t := 2) (Ts := Cond.code yX1_init cX1_init 3 none :: rz_TB) hx hb hts rz_in3 tyX1 tyX1_ok nmX1 ho hK hA rfl (by decide) rfl (rz_UnR _ (Or.inl ⟨_, rfl⟩)) rfl (hmn.trans rfl) rfl (tyX1_ok 0 (by decide)) (hw (i := 74) (j := 6) rfl rfl) (fun _ z => z) dX1_init_68 hk) ?_
  refine rz_All_c (i := 33) (fun k J hk hJ => rz_aload_n_ok (pc := 71) hx hb dX1_init_71 rfl hk) ?_
  refine rz_All_c (i := 34) (fun k J hk hJ => rz_aload_n_ok (pc := 72) hx hb dX1_init_72 rfl hk) ?_
  refine rz_All_c (i := 35) (fun k J hk hJ => rz_putfF_ok (pc := 73) (own := RX1) (ref := "ThreadJudge$Clocks") (C := RX1) (T := TX1) (N := 12) (ci := 3) (index := 39) (f := 1) (t := 2) (Ts := Cond.code yX1_init cX1_init 3 none :: rz_TB) hx hb hts rz_in3 tyX1 tyX1_ok nmX1 ho hK hA rfl (by decide) rfl (rz_UnR _ (Or.inl ⟨_, rfl⟩)) rfl (hmn.trans rfl) rfl (tyX1_ok 1 (by decide)) (hw (i := 74) (j := 7) rfl rfl) (fun _ z => z) dX1_init_73 hk) ?_
  refine rz_All_c (i := 36) (fun k J hk hJ => rz_vret_ok (pc := 76) (nz0 := (7, 408644)) hC dX1_init_76 (by decide)) ?_
  exact trivial
theorem dX2_init_0 : decode cX2_init 0 = .ok (.aload_n 0, 1) := by decide +kernel
theorem dX2_init_1 : decode cX2_init 1 = .ok (.invokespecial 3, 3) := by decide +kernel
theorem dX2_init_4 : decode cX2_init 4 = .ok (.aload_n 0, 1) := by decide +kernel
theorem dX2_init_5 : decode cX2_init 5 = .ok (.iconst 4, 1) := by decide +kernel
theorem dX2_init_6 : decode cX2_init 6 = .ok (.sipush 300, 3) := by decide +kernel
theorem dX2_init_9 : decode cX2_init 9 = .ok (.multianewarray 9 2, 4) := by decide +kernel
theorem dX2_init_13 : decode cX2_init 13 = .ok (.putfield 11, 3) := by decide +kernel
theorem dX2_init_16 : decode cX2_init 16 = .ok (.aload_n 0, 1) := by decide +kernel
theorem dX2_init_17 : decode cX2_init 17 = .ok (.sipush 6160, 3) := by decide +kernel
theorem dX2_init_20 : decode cX2_init 20 = .ok (.newarray .int, 2) := by decide +kernel
theorem dX2_init_22 : decode cX2_init 22 = .ok (.putfield 16, 3) := by decide +kernel
theorem dX2_init_25 : decode cX2_init 25 = .ok (.aload_n 0, 1) := by decide +kernel
theorem dX2_init_26 : decode cX2_init 26 = .ok (.iconst 3, 1) := by decide +kernel
theorem dX2_init_27 : decode cX2_init 27 = .ok (.sipush 4000, 3) := by decide +kernel
theorem dX2_init_30 : decode cX2_init 30 = .ok (.multianewarray 9 2, 4) := by decide +kernel
theorem dX2_init_34 : decode cX2_init 34 = .ok (.putfield 20, 3) := by decide +kernel
theorem dX2_init_37 : decode cX2_init 37 = .ok (.aload_n 0, 1) := by decide +kernel
theorem dX2_init_38 : decode cX2_init 38 = .ok (.iconst 4, 1) := by decide +kernel
theorem dX2_init_39 : decode cX2_init 39 = .ok (.sipush 480, 3) := by decide +kernel
theorem dX2_init_42 : decode cX2_init 42 = .ok (.multianewarray 9 2, 4) := by decide +kernel
theorem dX2_init_46 : decode cX2_init 46 = .ok (.putfield 23, 3) := by decide +kernel
theorem dX2_init_49 : decode cX2_init 49 = .ok (.aload_n 0, 1) := by decide +kernel
theorem dX2_init_50 : decode cX2_init 50 = .ok (.ldc 26, 2) := by decide +kernel
theorem dX2_init_52 : decode cX2_init 52 = .ok (.newarray .long, 2) := by decide +kernel
theorem dX2_init_54 : decode cX2_init 54 = .ok (.putfield 27, 3) := by decide +kernel
theorem dX2_init_57 : decode cX2_init 57 = .ok (.aload_n 0, 1) := by decide +kernel
theorem dX2_init_58 : decode cX2_init 58 = .ok (.ldc 31, 2) := by decide +kernel
theorem dX2_init_60 : decode cX2_init 60 = .ok (.newarray .long, 2) := by decide +kernel
theorem dX2_init_62 : decode cX2_init 62 = .ok (.putfield 32, 3) := by decide +kernel
theorem dX2_init_65 : decode cX2_init 65 = .ok (.aload_n 0, 1) := by decide +kernel
theorem dX2_init_66 : decode cX2_init 66 = .ok (.sipush 4800, 3) := by decide +kernel
theorem dX2_init_69 : decode cX2_init 69 = .ok (.newarray .long, 2) := by decide +kernel
theorem dX2_init_71 : decode cX2_init 71 = .ok (.putfield 35, 3) := by decide +kernel
theorem dX2_init_74 : decode cX2_init 74 = .ok (.aload_n 0, 1) := by decide +kernel
theorem dX2_init_75 : decode cX2_init 75 = .ok (.ldc 38, 2) := by decide +kernel
theorem dX2_init_77 : decode cX2_init 77 = .ok (.newarray .long, 2) := by decide +kernel
theorem dX2_init_79 : decode cX2_init 79 = .ok (.putfield 39, 3) := by decide +kernel
theorem dX2_init_82 : decode cX2_init 82 = .ok (.aload_n 0, 1) := by decide +kernel
theorem dX2_init_83 : decode cX2_init 83 = .ok (.sipush 4001, 3) := by decide +kernel
theorem dX2_init_86 : decode cX2_init 86 = .ok (.newarray .long, 2) := by decide +kernel
theorem dX2_init_88 : decode cX2_init 88 = .ok (.putfield 42, 3) := by decide +kernel
theorem dX2_init_91 : decode cX2_init 91 = .ok (.aload_n 0, 1) := by decide +kernel
theorem dX2_init_92 : decode cX2_init 92 = .ok (.sipush 1014, 3) := by decide +kernel
theorem dX2_init_95 : decode cX2_init 95 = .ok (.newarray .int, 2) := by decide +kernel
theorem dX2_init_97 : decode cX2_init 97 = .ok (.putfield 45, 3) := by decide +kernel
theorem dX2_init_100 : decode cX2_init 100 = .ok (.aload_n 0, 1) := by decide +kernel
theorem dX2_init_101 : decode cX2_init 101 = .ok (.sipush 2408, 3) := by decide +kernel
theorem dX2_init_104 : decode cX2_init 104 = .ok (.newarray .long, 2) := by decide +kernel
theorem dX2_init_106 : decode cX2_init 106 = .ok (.putfield 48, 3) := by decide +kernel
theorem dX2_init_109 : decode cX2_init 109 = .ok (.aload_n 0, 1) := by decide +kernel
theorem dX2_init_110 : decode cX2_init 110 = .ok (.bipush 16, 2) := by decide +kernel
theorem dX2_init_112 : decode cX2_init 112 = .ok (.newarray .long, 2) := by decide +kernel
theorem dX2_init_114 : decode cX2_init 114 = .ok (.putfield 51, 3) := by decide +kernel
theorem dX2_init_117 : decode cX2_init 117 = .ok (.aload_n 0, 1) := by decide +kernel
theorem dX2_init_118 : decode cX2_init 118 = .ok (.bipush 18, 2) := by decide +kernel
theorem dX2_init_120 : decode cX2_init 120 = .ok (.newarray .int, 2) := by decide +kernel
theorem dX2_init_122 : decode cX2_init 122 = .ok (.putfield 54, 3) := by decide +kernel
theorem dX2_init_125 : decode cX2_init 125 = .ok (.aload_n 0, 1) := by decide +kernel
theorem dX2_init_126 : decode cX2_init 126 = .ok (.aload_n 1, 1) := by decide +kernel
theorem dX2_init_127 : decode cX2_init 127 = .ok (.putfield 57, 3) := by decide +kernel
theorem dX2_init_130 : decode cX2_init 130 = .ok (.aload_n 0, 1) := by decide +kernel
theorem dX2_init_131 : decode cX2_init 131 = .ok (.getfield 16, 3) := by decide +kernel
theorem dX2_init_134 : decode cX2_init 134 = .ok (.iconst (-1), 1) := by decide +kernel
theorem dX2_init_135 : decode cX2_init 135 = .ok (.invokestatic 61, 3) := by decide +kernel
theorem dX2_init_138 : decode cX2_init 138 = .ok (.return_, 1) := by decide +kernel
def rpX2_init : List Nat := [0, 1, 4, 5, 6, 9, 13, 16, 17, 20, 22, 25, 26, 27, 30, 34, 37, 38, 39, 42, 46, 49, 50, 52, 54, 57, 58, 60, 62, 65, 66, 69, 71, 74, 75, 77, 79, 82, 83, 86, 88, 91, 92, 95, 97, 100, 101, 104, 106, 109, 110, 112, 114, 117, 118, 120, 122, 125, 126, 127, 130, 131, 134, 135, 138]
def rzX2_init : List (Nat × Nat) := [(0, 0), (0, 0), (0, 0), (0, 0), (0, 0), (0, 0), (5, 1204), (5, 1204), (5, 1204), (5, 1204), (6, 7364), (6, 7364), (6, 7364), (6, 7364), (6, 7364), (10, 19367), (10, 19367), (10, 19367), (10, 19367), (10, 19367), (15, 21291), (15, 21291), (15, 21291), (15, 21291), (16, 597291), (16, 597291), (16, 597291), (16, 597291), (17, 751211), (17, 751211), (17, 751211), (17, 751211), (18, 756011), (18, 756011), (18, 756011), (18, 756011), (19, 796011), (19, 796011), (19, 796011), (19, 796011), (20, 800012), (20, 800012), (20, 800012), (20, 800012), (21, 801026), (21, 801026), (21, 801026), (21, 801026), (22, 803434), (22, 803434), (22, 803434), (22, 803434), (23, 803450), (23, 803450), (23, 803450), (23, 803450), (24, 803468), (24, 803468), (24, 803468), (24, 803468), (24, 803468), (24, 803468), (24, 803468), (24, 803468), (24, 803468)]
noncomputable def rcX2_init : List rz_B := [rz_aload 0, rz_obj, rz_aload 0, rz_cst 4, rz_cst 300, rz_mna 4 300, rz_putf (Nat.add (Nat.mul 256 4) 1) 7 rz_unR, rz_aload 0, rz_cst 6160, rz_newa 4 6160, rz_putf (Nat.add (Nat.mul 256 4) 1) 8 rz_unR, rz_aload 0, rz_cst 3, rz_cst 4000, rz_mna 3 4000, rz_putf (Nat.add (Nat.mul 256 4) 1) 10 rz_unR, rz_aload 0, rz_cst 4, rz_cst 480, rz_mna 4 480, rz_putf (Nat.add (Nat.mul 256 4) 1) 12 rz_unR, rz_aload 0, rz_cst 576000, rz_newa 2 576000, rz_putf (Nat.add (Nat.mul 256 4) 1) 13 rz_unR, rz_aload 0, rz_cst 153920, rz_newa 2 153920, rz_putf (Nat.add (Nat.mul 256 4) 1) 14 rz_unR, rz_aload 0, rz_cst 4800, rz_newa 2 4800, rz_putf (Nat.add (Nat.mul 256 4) 1) 15 rz_unR, rz_aload 0, rz_cst 40000, rz_newa 2 40000, rz_putf (Nat.add (Nat.mul 256 4) 1) 16 rz_unR, rz_aload 0, rz_cst 4001, rz_newa 2 4001, rz_putf (Nat.add (Nat.mul 256 4) 1) 17 rz_unR, rz_aload 0, rz_cst 1014, rz_newa 4 1014, rz_putf (Nat.add (Nat.mul 256 4) 1) 18 rz_unR, rz_aload 0, rz_cst 2408, rz_newa 2 2408, rz_putf (Nat.add (Nat.mul 256 4) 1) 19 rz_unR, rz_aload 0, rz_cst 16, rz_newa 2 16, rz_putf (Nat.add (Nat.mul 256 4) 1) 20 rz_unR, rz_aload 0, rz_cst 18, rz_newa 4 18, rz_putf (Nat.add (Nat.mul 256 4) 1) 21 rz_unR, rz_aload 0, rz_aload 1, rz_putf (Nat.add (Nat.mul 256 4) 1) 0 rz_unR, rz_aload 0, rz_getf (Nat.add (Nat.mul 256 4) 1) 8 rz_r, rz_cst 4294967295, rz_callSv 2 rgJ7_fill_53178, rz_vret]
noncomputable def rgX2_init : rz_L → rz_M → rz_Z → Bool := rz_go rcX2_init 2 1000000
def rrX2_init : Room := { frames := 1, cells := 24, slots := 803468, locals := 60 }
theorem rmX2_init (l : Launch) {G : rz_G} (hG : rz_Gd G) (vs : rz_L) (M : rz_M) (Z : rz_Z) (hn : vs.length = 2) (h : rgX2_init vs M Z = true) : Met l yX2_init (Cond.code yX2_init cX2_init 2 none :: rz_TB) rrX2_init (rz_Pre G vs M) (rz_Qv G M.2 Z) 24 803468 (fun q => rz_b G ≤ q) := by
  obtain ⟨D, tc, ad, b, xs, rfl⟩ := id hG
  refine rz_bodyM (pcs := rpX2_init) (cz := rzX2_init) (by decide) rfl rfl (by rw [hn]; decide) h ?_
  intro p e R s m args below meth c hC hmn
  obtain ⟨hx, hb, hml, hr, hlk, ho, hts, hKn, hRm⟩ := id hC
  obtain ⟨hK, hA, hSt⟩ := id hKn
  have hw : ∀ {i j : Nat} {ws : List Cond} {w : Cond}, rz_WW[i]? = some ws → ws[j]? = some w → w.before args s = true := fun h1 h2 => hts _ (List.mem_cons_of_mem _ (rz_mem h1 h2))
  refine rz_All_c (i := 0) (fun k J hk hJ => rz_aload_n_ok (pc := 0) hx hb dX2_init_0 rfl hk) ?_
  refine rz_All_c (i := 1) (fun k J hk hJ => rz_obj_ok (pc := 1) (own := RX2) hx hb hml ho (hw (i := 69) (j := 22) rfl rfl) (hw (i := 55) (j := 1) rfl rfl) (hw (i := 55) (j := 2) rfl rfl) (by rw [hRm]; decide) (by rw [hRm]; decide) dX2_init_1 hk) ?_
  refine rz_All_c (i := 2) (fun k J hk hJ => rz_aload_n_ok (pc := 4) hx hb dX2_init_4 rfl hk) ?_
  refine rz_All_c (i := 3) (fun k J hk hJ => rz_iconst_ok (pc := 5) hx hb dX2_init_5 rfl hk) ?_
  refine rz_All_c (i := 4) (fun k J hk hJ => rz_sipush_ok (pc := 6) hx hb dX2_init_6 (by decide) hk) ?_
  refine rz_All_c (i := 5) (fun k J hk hJ => rz_mna_ok (pc := 9) (nz0 := (0, 0)) (own := RX2) (index := 9) (mn := 4) (mk := 300) hx hb hK hA ho (hw (i := 69) (j := 23) rfl rfl) (over_moved (Vm.Alike.refl _) hSt.2.2.2.2.2.1) (hw (i := 57) (j := 7) rfl rfl) (by decide) (by decide) (by rw [hRm]; decide) dX2_init_9 (rz_wid (by decide) hk)) ?_
  refine rz_All_c (i := 6) (fun k J hk hJ => rz_putfF_ok (pc := 13) (own := RX2) (ref := "ThreadJudge$Flow") (C := RX2) (T := TX2) (N := 22) (ci := 4) (index := 11) (f := 7) (t := 2) (Ts := Cond.code yX2_init cX2_init 2 none :: rz_TB) hx hb hts rz_in4 tyX2 tyX2_ok nmX2 ho hK hA rfl (by decide) rfl (rz_UnR _ (Or.inr ⟨_, rfl⟩)) rfl (hmn.trans rfl) rfl (tyX2_ok 7 (by decide)) (hw (i := 70) (j := 0) rfl rfl) (fun _ z => z) dX2_init_13 hk) ?_
  refine rz_All_c (i := 7) (fun k J hk hJ => rz_aload_n_ok (pc := 16) hx hb dX2_init_16 rfl hk) ?_
  refine rz_All_c (i := 8) (fun k J hk hJ => rz_sipush_ok (pc := 17) hx hb dX2_init_17 (by decide) hk) ?_
  refine rz_All_c (i := 9) (fun k J hk hJ => rz_newa_int_ok (pc := 20) (nz0 := (5, 1204)) (mx := 6160) hx hb hK hA (hw (i := 57) (j := 7) rfl rfl) (by decide) (by rw [hRm]; decide) dX2_init_20 (rz_wid (by decide) hk)) ?_
  refine rz_All_c (i := 10) (fun k J hk hJ => rz_putfF_ok (pc := 22) (own := RX2) (ref := "ThreadJudge$Flow") (C := RX2) (T := TX2) (N := 22) (ci := 4) (index := 16) (f := 8) (t := 2) (Ts := Cond.code yX2_init cX2_init 2 none :: rz_TB) hx hb hts rz_in4 tyX2 tyX2_ok nmX2 ho hK hA rfl (by decide) rfl (rz_UnR _ (Or.inr ⟨_, rfl⟩)) rfl (hmn.trans rfl) rfl (tyX2_ok 8 (by decide)) (hw (i := 70) (j := 1) rfl rfl) (fun _ z => z) dX2_init_22 hk) ?_
  refine rz_All_c (i := 11) (fun k J hk hJ => rz_aload_n_ok (pc := 25) hx hb dX2_init_25 rfl hk) ?_
  refine rz_All_c (i := 12) (fun k J hk hJ => rz_iconst_ok (pc := 26) hx hb dX2_init_26 rfl hk) ?_
  refine rz_All_c (i := 13) (fun k J hk hJ => rz_sipush_ok (pc := 27) hx hb dX2_init_27 (by decide) hk) ?_
  refine rz_All_c (i := 14) (fun k J hk hJ => rz_mna_ok (pc := 30) (nz0 := (6, 7364)) (own := RX2) (index := 9) (mn := 3) (mk := 4000) hx hb hK hA ho (hw (i := 69) (j := 23) rfl rfl) (over_moved (Vm.Alike.refl _) hSt.2.2.2.2.2.1) (hw (i := 57) (j := 7) rfl rfl) (by decide) (by decide) (by rw [hRm]; decide) dX2_init_30 (rz_wid (by decide) hk)) ?_
  refine rz_All_c (i := 15) (fun k J hk hJ => rz_putfF_ok (pc := 34) (own := RX2) (ref := "ThreadJudge$Flow") (C := RX2) (T := TX2) (N := 22) (ci := 4) (index := 20) (f := 10) (t := 2) (Ts := Cond.code yX2_init cX2_init 2 none :: rz_TB) hx hb hts rz_in4 tyX2 tyX2_ok nmX2 ho hK hA rfl (by decide) rfl (rz_UnR _ (Or.inr ⟨_, rfl⟩)) rfl (hmn.trans rfl) rfl (tyX2_ok 10 (by decide)) (hw (i := 70) (j := 2) rfl rfl) (fun _ z => z) dX2_init_34 hk) ?_
  refine rz_All_c (i := 16) (fun k J hk hJ => rz_aload_n_ok (pc := 37) hx hb dX2_init_37 rfl hk) ?_
  refine rz_All_c (i := 17) (fun k J hk hJ => rz_iconst_ok (pc := 38) hx hb dX2_init_38 rfl hk) ?_
  refine rz_All_c (i := 18) (fun k J hk hJ => rz_sipush_ok (pc := 39) hx hb dX2_init_39 (by decide) hk) ?_
  refine rz_All_c (i := 19) (fun k J hk hJ => rz_mna_ok (pc := 42) (nz0 := (10, 19367)) (own := RX2) (index := 9) (mn := 4) (mk := 480) hx hb hK hA ho (hw (i := 69) (j := 23) rfl rfl) (over_moved (Vm.Alike.refl _) hSt.2.2.2.2.2.1) (hw (i := 57) (j := 7) rfl rfl) (by decide) (by decide) (by rw [hRm]; decide) dX2_init_42 (rz_wid (by decide) hk)) ?_
  refine rz_All_c (i := 20) (fun k J hk hJ => rz_putfF_ok (pc := 46) (own := RX2) (ref := "ThreadJudge$Flow") (C := RX2) (T := TX2) (N := 22) (ci := 4) (index := 23) (f := 12) (t := 2) (Ts := Cond.code yX2_init cX2_init 2 none :: rz_TB) hx hb hts rz_in4 tyX2 tyX2_ok nmX2 ho hK hA rfl (by decide) rfl (rz_UnR _ (Or.inr ⟨_, rfl⟩)) rfl (hmn.trans rfl) rfl (tyX2_ok 12 (by decide)) (hw (i := 70) (j := 3) rfl rfl) (fun _ z => z) dX2_init_46 hk) ?_
  refine rz_All_c (i := 21) (fun k J hk hJ => rz_aload_n_ok (pc := 49) hx hb dX2_init_49 rfl hk) ?_
  refine rz_All_c (i := 22) (fun k J hk hJ => rz_ldc_ok (pc := 50) hx hb (own := RX2) ho (hw (i := 70) (j := 4) rfl rfl) dX2_init_50 hk) ?_
  refine rz_All_c (i := 23) (fun k J hk hJ => rz_newa_long_ok (pc := 52) (nz0 := (15, 21291)) (mx := 576000) hx hb hK hA (hw (i := 57) (j := 10) rfl rfl) (by decide) (by rw [hRm]; decide) dX2_init_52 (rz_wid (by decide) hk)) ?_
  refine rz_All_c (i := 24) (fun k J hk hJ => rz_putfF_ok (pc := 54) (own := RX2) (ref := "ThreadJudge$Flow") (C := RX2) (T := TX2) (N := 22) (ci := 4) (index := 27) (f := 13) (t := 2) (Ts := Cond.code yX2_init cX2_init 2 none :: rz_TB) hx hb hts rz_in4 tyX2 tyX2_ok nmX2 ho hK hA rfl (by decide) rfl (rz_UnR _ (Or.inr ⟨_, rfl⟩)) rfl (hmn.trans rfl) rfl (tyX2_ok 13 (by decide)) (hw (i := 70) (j := 5) rfl rfl) (fun _ z => z) dX2_init_54 hk) ?_
  refine rz_All_c (i := 25) (fun k J hk hJ => rz_aload_n_ok (pc := 57) hx hb dX2_init_57 rfl hk) ?_
  refine rz_All_c (i := 26) (fun k J hk hJ => rz_ldc_ok (pc := 58) hx hb (own := RX2) ho (hw (i := 70) (j := 6) rfl rfl) dX2_init_58 hk) ?_
  refine rz_All_c (i := 27) (fun k J hk hJ => rz_newa_long_ok (pc := 60) (nz0 := (16, 597291)) (mx := 153920) hx hb hK hA (hw (i := 57) (j := 10) rfl rfl) (by decide) (by rw [hRm]; decide) dX2_init_60 (rz_wid (by decide) hk)) ?_
  refine rz_All_c (i := 28) (fun k J hk hJ => rz_putfF_ok (pc := 62) (own := RX2) (ref := "ThreadJudge$Flow") (C := RX2) (T := TX2) (N := 22) (ci := 4) (index := 32) (f := 14) (t := 2) (Ts := Cond.code yX2_init cX2_init 2 none :: rz_TB) hx hb hts rz_in4 tyX2 tyX2_ok nmX2 ho hK hA rfl (by decide) rfl (rz_UnR _ (Or.inr ⟨_, rfl⟩)) rfl (hmn.trans rfl) rfl (tyX2_ok 14 (by decide)) (hw (i := 70) (j := 7) rfl rfl) (fun _ z => z) dX2_init_62 hk) ?_
  refine rz_All_c (i := 29) (fun k J hk hJ => rz_aload_n_ok (pc := 65) hx hb dX2_init_65 rfl hk) ?_
  refine rz_All_c (i := 30) (fun k J hk hJ => rz_sipush_ok (pc := 66) hx hb dX2_init_66 (by decide) hk) ?_
  refine rz_All_c (i := 31) (fun k J hk hJ => rz_newa_long_ok (pc := 69) (nz0 := (17, 751211)) (mx := 4800) hx hb hK hA (hw (i := 57) (j := 10) rfl rfl) (by decide) (by rw [hRm]; decide) dX2_init_69 (rz_wid (by decide) hk)) ?_
  refine rz_All_c (i := 32) (fun k J hk hJ => rz_putfF_ok (pc := 71) (own := RX2) (ref := "ThreadJudge$Flow") (C := RX2) (T := TX2) (N := 22) (ci := 4) (index := 35) (f := 15) (t := 2) (Ts := Cond.code yX2_init cX2_init 2 none :: rz_TB) hx hb hts rz_in4 tyX2 tyX2_ok nmX2 ho hK hA rfl (by decide) rfl (rz_UnR _ (Or.inr ⟨_, rfl⟩)) rfl (hmn.trans rfl) rfl (tyX2_ok 15 (by decide)) (hw (i := 70) (j := 8) rfl rfl) (fun _ z => z) dX2_init_71 hk) ?_
  refine rz_All_c (i := 33) (fun k J hk hJ => rz_aload_n_ok (pc := 74) hx hb dX2_init_74 rfl hk) ?_
  refine rz_All_c (i := 34) (fun k J hk hJ => rz_ldc_ok (pc := 75) hx hb (own := RX2) ho (hw (i := 70) (j := 9) rfl rfl) dX2_init_75 hk) ?_
  refine rz_All_c (i := 35) (fun k J hk hJ => rz_newa_long_ok (pc := 77) (nz0 := (18, 756011)) (mx := 40000) hx hb hK hA (hw (i := 57) (j := 10) rfl rfl) (by decide) (by rw [hRm]; decide) dX2_init_77 (rz_wid (by decide) hk)) ?_
  refine rz_All_c (i := 36) (fun k J hk hJ => rz_putfF_ok (pc := 79) (own := RX2) (ref := "ThreadJudge$Flow") (C := RX2) (T := TX2) (N := 22) (ci := 4) (index := 39) (f := 16) (t := 2) (Ts := Cond.code yX2_init cX2_init 2 none :: rz_TB) hx hb hts rz_in4 tyX2 tyX2_ok nmX2 ho hK hA rfl (by decide) rfl (rz_UnR _ (Or.inr ⟨_, rfl⟩)) rfl (hmn.trans rfl) rfl (tyX2_ok 16 (by decide)) (hw (i := 70) (j := 10) rfl rfl) (fun _ z => z) dX2_init_79 hk) ?_
  refine rz_All_c (i := 37) (fun k J hk hJ => rz_aload_n_ok (pc := 82) hx hb dX2_init_82 rfl hk) ?_
  refine rz_All_c (i := 38) (fun k J hk hJ => rz_sipush_ok (pc := 83) hx hb dX2_init_83 (by decide) hk) ?_
  refine rz_All_c (i := 39) (fun k J hk hJ => rz_newa_long_ok (pc := 86) (nz0 := (19, 796011)) (mx := 4001) hx hb hK hA (hw (i := 57) (j := 10) rfl rfl) (by decide) (by rw [hRm]; decide) dX2_init_86 (rz_wid (by decide) hk)) ?_
  refine rz_All_c (i := 40) (fun k J hk hJ => rz_putfF_ok (pc := 88) (own := RX2) (ref := "ThreadJudge$Flow") (C := RX2) (T := TX2) (N := 22) (ci := 4) (index := 42) (f := 17) (t := 2) (Ts := Cond.code yX2_init cX2_init 2 none :: rz_TB) hx hb hts rz_in4 tyX2 tyX2_ok nmX2 ho hK hA rfl (by decide) rfl (rz_UnR _ (Or.inr ⟨_, rfl⟩)) rfl (hmn.trans rfl) rfl (tyX2_ok 17 (by decide)) (hw (i := 70) (j := 11) rfl rfl) (fun _ z => z) dX2_init_88 hk) ?_
  refine rz_All_c (i := 41) (fun k J hk hJ => rz_aload_n_ok (pc := 91) hx hb dX2_init_91 rfl hk) ?_
  refine rz_All_c (i := 42) (fun k J hk hJ => rz_sipush_ok (pc := 92) hx hb dX2_init_92 (by decide) hk) ?_
  refine rz_All_c (i := 43) (fun k J hk hJ => rz_newa_int_ok (pc := 95) (nz0 := (20, 800012)) (mx := 1014) hx hb hK hA (hw (i := 57) (j := 7) rfl rfl) (by decide) (by rw [hRm]; decide) dX2_init_95 (rz_wid (by decide) hk)) ?_
  refine rz_All_c (i := 44) (fun k J hk hJ => rz_putfF_ok (pc := 97) (own := RX2) (ref := "ThreadJudge$Flow") (C := RX2) (T := TX2) (N := 22) (ci := 4) (index := 45) (f := 18) (t := 2) (Ts := Cond.code yX2_init cX2_init 2 none :: rz_TB) hx hb hts rz_in4 tyX2 tyX2_ok nmX2 ho hK hA rfl (by decide) rfl (rz_UnR _ (Or.inr ⟨_, rfl⟩)) rfl (hmn.trans rfl) rfl (tyX2_ok 18 (by decide)) (hw (i := 70) (j := 12) rfl rfl) (fun _ z => z) dX2_init_97 hk) ?_
  refine rz_All_c (i := 45) (fun k J hk hJ => rz_aload_n_ok (pc := 100) hx hb dX2_init_100 rfl hk) ?_
  refine rz_All_c (i := 46) (fun k J hk hJ => rz_sipush_ok (pc := 101) hx hb dX2_init_101 (by decide) hk) ?_
  refine rz_All_c (i := 47) (fun k J hk hJ => rz_newa_long_ok (pc := 104) (nz0 := (21, 801026)) (mx := 2408) hx hb hK hA (hw (i := 57) (j := 10) rfl rfl) (by decide) (by rw [hRm]; decide) dX2_init_104 (rz_wid (by decide) hk)) ?_
  refine rz_All_c (i := 48) (fun k J hk hJ => rz_putfF_ok (pc := 106) (own := RX2) (ref := "ThreadJudge$Flow") (C := RX2) (T := TX2) (N := 22) (ci := 4) (index := 48) (f := 19) (t := 2) (Ts := Cond.code yX2_init cX2_init 2 none :: rz_TB) hx hb hts rz_in4 tyX2 tyX2_ok nmX2 ho hK hA rfl (by decide) rfl (rz_UnR _ (Or.inr ⟨_, rfl⟩)) rfl (hmn.trans rfl) rfl (tyX2_ok 19 (by decide)) (hw (i := 70) (j := 13) rfl rfl) (fun _ z => z) dX2_init_106 hk) ?_
  refine rz_All_c (i := 49) (fun k J hk hJ => rz_aload_n_ok (pc := 109) hx hb dX2_init_109 rfl hk) ?_
  refine rz_All_c (i := 50) (fun k J hk hJ => rz_bipush_ok (pc := 110) hx hb dX2_init_110 (by decide) hk) ?_
  refine rz_All_c (i := 51) (fun k J hk hJ => rz_newa_long_ok (pc := 112) (nz0 := (22, 803434)) (mx := 16) hx hb hK hA (hw (i := 57) (j := 10) rfl rfl) (by decide) (by rw [hRm]; decide) dX2_init_112 (rz_wid (by decide) hk)) ?_
  refine rz_All_c (i := 52) (fun k J hk hJ => rz_putfF_ok (pc := 114) (own := RX2) (ref := "ThreadJudge$Flow") (C := RX2) (T := TX2) (N := 22) (ci := 4) (index := 51) (f := 20) (t := 2) (Ts := Cond.code yX2_init cX2_init 2 none :: rz_TB) hx hb hts rz_in4 tyX2 tyX2_ok nmX2 ho hK hA rfl (by decide) rfl (rz_UnR _ (Or.inr ⟨_, rfl⟩)) rfl (hmn.trans rfl) rfl (tyX2_ok 20 (by decide)) (hw (i := 70) (j := 14) rfl rfl) (fun _ z => z) dX2_init_114 hk) ?_
  refine rz_All_c (i := 53) (fun k J hk hJ => rz_aload_n_ok (pc := 117) hx hb dX2_init_117 rfl hk) ?_
  refine rz_All_c (i := 54) (fun k J hk hJ => rz_bipush_ok (pc := 118) hx hb dX2_init_118 (by decide) hk) ?_
  refine rz_All_c (i := 55) (fun k J hk hJ => rz_newa_int_ok (pc := 120) (nz0 := (23, 803450)) (mx := 18) hx hb hK hA (hw (i := 57) (j := 7) rfl rfl) (by decide) (by rw [hRm]; decide) dX2_init_120 (rz_wid (by decide) hk)) ?_
  refine rz_All_c (i := 56) (fun k J hk hJ => rz_putfF_ok (pc := 122) (own := RX2) (ref := "ThreadJudge$Flow") (C := RX2) (T := TX2) (N := 22) (ci := 4) (index := 54) (f := 21) (t := 2) (Ts := Cond.code yX2_init cX2_init 2 none :: rz_TB) hx hb hts rz_in4 tyX2 tyX2_ok nmX2 ho hK hA rfl (by decide) rfl (rz_UnR _ (Or.inr ⟨_, rfl⟩)) rfl (hmn.trans rfl) rfl (tyX2_ok 21 (by decide)) (hw (i := 70) (j := 15) rfl rfl) (fun _ z => z) dX2_init_122 hk) ?_
  refine rz_All_c (i := 57) (fun k J hk hJ => rz_aload_n_ok (pc := 125) hx hb dX2_init_125 rfl hk) ?_
  refine rz_All_c (i := 58) (fun k J hk hJ => rz_aload_n_ok (pc := 126) hx hb dX2_init_126 rfl hk) ?_
  refine rz_All_c (i := 59) (fun k J hk hJ => rz_putfF_ok (pc := 127) (own := RX2) (ref := "ThreadJudge$Flow") (C := RX2) (T := TX2) (N := 22) (ci := 4) (index := 57) (f := 0) (t := 2) (Ts := Cond.code yX2_init cX2_init 2 none :: rz_TB) hx hb hts rz_in4 tyX2 tyX2_ok nmX2 ho hK hA rfl (by decide) rfl (rz_UnR _ (Or.inl ⟨_, rfl⟩)) rfl (hmn.trans rfl) rfl (tyX2_ok 0 (by decide)) (hw (i := 70) (j := 16) rfl rfl) (fun _ z => z) dX2_init_127 hk) ?_
  refine rz_All_c (i := 60) (fun k J hk hJ => rz_aload_n_ok (pc := 130) hx hb dX2_init_130 rfl hk) ?_
  refine rz_All_c (i := 61) (fun k J hk hJ => rz_getf_ok (pc := 131) (own := RX2) (ref := "ThreadJudge$Flow") (C := RX2) (T := TX2) (N := 22) (ci := 4) (index := 16) (f := 8) (t := 2) (Ts := Cond.code yX2_init cX2_init 2 none :: rz_TB) hx hb hts rz_in4 ho hK rfl (by decide) rfl (fun _ => rfl) (hw (i := 70) (j := 1) rfl rfl) (fun _ z => z) dX2_init_131 hk) ?_
  refine rz_All_c (i := 62) (fun k J hk hJ => rz_iconst_ok (pc := 134) hx hb dX2_init_134 rfl hk) ?_
  refine rz_All_c (i := 63) (fun k J hk hJ => rz_callSv_ok (pc := 135) (nz0 := (24, 803468)) (nz1 := (24, 803468)) (own := RX2) hC rfl (rmJ7_fill_53178 l hG) (rz_cwX 2 hC rz_good (rz_mem (i := 70) (j := 17) rfl rfl) (rz_mem (i := 2) (j := 5) rfl rfl) (rz_mem (i := 2) (j := 6) rfl rfl) (rz_mem (i := 2) (j := 7) rfl rfl) ⟨by decide, by decide, by decide +kernel⟩ rfl rfl ⟨by decide, by decide⟩) dX2_init_135 hk (by decide) (by rw [hRm]; decide)) ?_
  refine rz_All_c (i := 64) (fun k J hk hJ => rz_vret_ok (pc := 138) (nz0 := (24, 803468)) hC dX2_init_138 (by decide)) ?_
  exact trivial
theorem dX3_init_0 : decode cX3_init 0 = .ok (.aload_n 0, 1) := by decide +kernel
theorem dX3_init_1 : decode cX3_init 1 = .ok (.invokespecial 5, 3) := by decide +kernel
theorem dX3_init_4 : decode cX3_init 4 = .ok (.aload_n 0, 1) := by decide +kernel
theorem dX3_init_5 : decode cX3_init 5 = .ok (.bipush 7, 2) := by decide +kernel
theorem dX3_init_7 : decode cX3_init 7 = .ok (.sipush 400, 3) := by decide +kernel
theorem dX3_init_10 : decode cX3_init 10 = .ok (.multianewarray 11 2, 4) := by decide +kernel
theorem dX3_init_14 : decode cX3_init 14 = .ok (.putfield 13, 3) := by decide +kernel
theorem dX3_init_17 : decode cX3_init 17 = .ok (.aload_n 0, 1) := by decide +kernel
theorem dX3_init_18 : decode cX3_init 18 = .ok (.sipush 16040, 3) := by decide +kernel
theorem dX3_init_21 : decode cX3_init 21 = .ok (.newarray .long, 2) := by decide +kernel
theorem dX3_init_23 : decode cX3_init 23 = .ok (.putfield 16, 3) := by decide +kernel
theorem dX3_init_26 : decode cX3_init 26 = .ok (.aload_n 0, 1) := by decide +kernel
theorem dX3_init_27 : decode cX3_init 27 = .ok (.sipush 192, 3) := by decide +kernel
theorem dX3_init_30 : decode cX3_init 30 = .ok (.newarray .int, 2) := by decide +kernel
theorem dX3_init_32 : decode cX3_init 32 = .ok (.putfield 20, 3) := by decide +kernel
theorem dX3_init_35 : decode cX3_init 35 = .ok (.aload_n 0, 1) := by decide +kernel
theorem dX3_init_36 : decode cX3_init 36 = .ok (.sipush 200, 3) := by decide +kernel
theorem dX3_init_39 : decode cX3_init 39 = .ok (.newarray .int, 2) := by decide +kernel
theorem dX3_init_41 : decode cX3_init 41 = .ok (.putfield 24, 3) := by decide +kernel
theorem dX3_init_44 : decode cX3_init 44 = .ok (.aload_n 0, 1) := by decide +kernel
theorem dX3_init_45 : decode cX3_init 45 = .ok (.sipush 1200, 3) := by decide +kernel
theorem dX3_init_48 : decode cX3_init 48 = .ok (.newarray .int, 2) := by decide +kernel
theorem dX3_init_50 : decode cX3_init 50 = .ok (.putfield 27, 3) := by decide +kernel
theorem dX3_init_53 : decode cX3_init 53 = .ok (.aload_n 0, 1) := by decide +kernel
theorem dX3_init_54 : decode cX3_init 54 = .ok (.bipush 43, 2) := by decide +kernel
theorem dX3_init_56 : decode cX3_init 56 = .ok (.newarray .int, 2) := by decide +kernel
theorem dX3_init_58 : decode cX3_init 58 = .ok (.putfield 30, 3) := by decide +kernel
theorem dX3_init_61 : decode cX3_init 61 = .ok (.aload_n 0, 1) := by decide +kernel
theorem dX3_init_62 : decode cX3_init 62 = .ok (.aload_n 1, 1) := by decide +kernel
theorem dX3_init_63 : decode cX3_init 63 = .ok (.putfield 33, 3) := by decide +kernel
theorem dX3_init_66 : decode cX3_init 66 = .ok (.return_, 1) := by decide +kernel
def rpX3_init : List Nat := [0, 1, 4, 5, 7, 10, 14, 17, 18, 21, 23, 26, 27, 30, 32, 35, 36, 39, 41, 44, 45, 48, 50, 53, 54, 56, 58, 61, 62, 63, 66]
def rzX3_init : List (Nat × Nat) := [(0, 0), (0, 0), (0, 0), (0, 0), (0, 0), (0, 0), (8, 2807), (8, 2807), (8, 2807), (8, 2807), (9, 18847), (9, 18847), (9, 18847), (9, 18847), (10, 19039), (10, 19039), (10, 19039), (10, 19039), (11, 19239), (11, 19239), (11, 19239), (11, 19239), (12, 20439), (12, 20439), (12, 20439), (12, 20439), (13, 20482), (13, 20482), (13, 20482), (13, 20482), (13, 20482)]
noncomputable def rcX3_init : List rz_B := [rz_aload 0, rz_obj, rz_aload 0, rz_cst 7, rz_cst 400, rz_mna 7 400, rz_putf (Nat.add (Nat.mul 256 5) 1) 2 rz_unR, rz_aload 0, rz_cst 16040, rz_newa 2 16040, rz_putf (Nat.add (Nat.mul 256 5) 1) 3 rz_unR, rz_aload 0, rz_cst 192, rz_newa 4 192, rz_putf (Nat.add (Nat.mul 256 5) 1) 4 rz_unR, rz_aload 0, rz_cst 200, rz_newa 4 200, rz_putf (Nat.add (Nat.mul 256 5) 1) 5 rz_unR, rz_aload 0, rz_cst 1200, rz_newa 4 1200, rz_putf (Nat.add (Nat.mul 256 5) 1) 7 rz_unR, rz_aload 0, rz_cst 43, rz_newa 4 43, rz_putf (Nat.add (Nat.mul 256 5) 1) 9 rz_unR, rz_aload 0, rz_aload 1, rz_putf (Nat.add (Nat.mul 256 5) 1) 0 rz_unR, rz_vret]
noncomputable def rgX3_init : rz_L → rz_M → rz_Z → Bool := rz_go rcX3_init 2 1000000
def rrX3_init : Room := { frames := 1, cells := 13, slots := 20482, locals := 60 }
theorem rmX3_init (l : Launch) {G : rz_G} (hG : rz_Gd G) (vs : rz_L) (M : rz_M) (Z : rz_Z) (hn : vs.length = 2) (h : rgX3_init vs M Z = true) : Met l yX3_init (Cond.code yX3_init cX3_init 2 none :: rz_TB) rrX3_init (rz_Pre G vs M) (rz_Qv G M.2 Z) 13 20482 (fun q => rz_b G ≤ q) := by
  obtain ⟨D, tc, ad, b, xs, rfl⟩ := id hG
  refine rz_bodyM (pcs := rpX3_init) (cz := rzX3_init) (by decide) rfl rfl (by rw [hn]; decide) h ?_
  intro p e R s m args below meth c hC hmn
  obtain ⟨hx, hb, hml, hr, hlk, ho, hts, hKn, hRm⟩ := id hC
  obtain ⟨hK, hA, hSt⟩ := id hKn
  have hw : ∀ {i j : Nat} {ws : List Cond} {w : Cond}, rz_WW[i]? = some ws → ws[j]? = some w → w.before args s = true := fun h1 h2 => hts _ (List.mem_cons_of_mem _ (rz_mem h1 h2))
  refine rz_All_c (i := 0) (fun k J hk hJ => rz_aload_n_ok (pc := 0) hx hb dX3_init_0 rfl hk) ?_
  refine rz_All_c (i := 1) (fun k J hk hJ => rz_obj_ok (pc := 1) (own := RX3) hx hb hml ho (hw (i := 73) (j := 9) rfl rfl) (hw (i := 55) (j := 1) rfl rfl) (hw (i := 55) (j := 2) rfl rfl) (by rw [hRm]; decide) (by rw [hRm]; decide) dX3_init_1 hk) ?_
  refine rz_All_c (i := 2) (fun k J hk hJ => rz_aload_n_ok (pc := 4) hx hb dX3_init_4 rfl hk) ?_
  refine rz_All_c (i := 3) (fun k J hk hJ => rz_bipush_ok (pc := 5) hx hb dX3_init_5 (by decide) hk) ?_
  refine rz_All_c (i := 4) (fun k J hk hJ => rz_sipush_ok (pc := 7) hx hb dX3_init_7 (by decide) hk) ?_
  refine rz_All_c (i := 5) (fun k J hk hJ => rz_mna_ok (pc := 10) (nz0 := (0, 0)) (own := RX3) (index := 11) (mn := 7) (mk := 400) hx hb hK hA ho (hw (i := 73) (j := 10) rfl rfl) (over_moved (Vm.Alike.refl _) hSt.2.2.2.2.2.1) (hw (i := 57) (j := 7) rfl rfl) (by decide) (by decide) (by rw [hRm]; decide) dX3_init_10 (rz_wid (by decide) hk)) ?_
  refine rz_All_c (i := 6) (fun k J hk hJ => rz_putfF_ok (pc := 14) (own := RX3) (ref := "ThreadJudge$Heap") (C := RX3) (T := TX3) (N := 10) (ci := 5) (index := 13) (f := 2) (t := 2) (Ts := Cond.code yX3_init cX3_init 2 none :: rz_TB) hx hb hts rz_in5 tyX3 tyX3_ok nmX3 ho hK hA rfl (by decide) rfl (rz_UnR _ (Or.inr ⟨_, rfl⟩)) rfl (hmn.trans rfl) rfl (tyX3_ok 2 (by decide)) (hw (i := 73) (j := 11) rfl rfl) (fun _ z => z) dX3_init_14 hk) ?_
  refine rz_All_c (i := 7) (fun k J hk hJ => rz_aload_n_ok (pc := 17) hx hb dX3_init_17 rfl hk) ?_
  refine rz_All_c (i := 8) (fun k J hk hJ => rz_sipush_ok (pc := 18) hx hb dX3_init_18 (by decide) hk) ?_
  refine rz_All_c (i := 9) (fun k J hk hJ => rz_newa_long_ok (pc := 21) (nz0 := (8, 2807)) (mx := 16040) hx hb hK hA (hw (i := 57) (j := 10) rfl rfl) (by decide) (by rw [hRm]; decide) dX3_init_21 (rz_wid (by decide) hk)) ?_
  refine rz_All_c (i := 10) (fun k J hk hJ => rz_putfF_ok (pc := 23) (own := RX3) (ref := "ThreadJudge$Heap") (C := RX3) (T := TX3) (N := 10) (ci := 5) (index := 16) (f := 3) (t := 2) (Ts := Cond.code yX3_init cX3_init 2 none :: rz_TB) hx hb hts rz_in5 tyX3 tyX3_ok nmX3 ho hK hA rfl (by decide) rfl (rz_UnR _ (Or.inr ⟨_, rfl⟩)) rfl (hmn.trans rfl) rfl (tyX3_ok 3 (by decide)) (hw (i := 73) (j := 12) rfl rfl) (fun _ z => z) dX3_init_23 hk) ?_
  refine rz_All_c (i := 11) (fun k J hk hJ => rz_aload_n_ok (pc := 26) hx hb dX3_init_26 rfl hk) ?_
  refine rz_All_c (i := 12) (fun k J hk hJ => rz_sipush_ok (pc := 27) hx hb dX3_init_27 (by decide) hk) ?_
  refine rz_All_c (i := 13) (fun k J hk hJ => rz_newa_int_ok (pc := 30) (nz0 := (9, 18847)) (mx := 192) hx hb hK hA (hw (i := 57) (j := 7) rfl rfl) (by decide) (by rw [hRm]; decide) dX3_init_30 (rz_wid (by decide) hk)) ?_
  refine rz_All_c (i := 14) (fun k J hk hJ => rz_putfF_ok (pc := 32) (own := RX3) (ref := "ThreadJudge$Heap") (C := RX3) (T := TX3) (N := 10) (ci := 5) (index := 20) (f := 4) (t := 2) (Ts := Cond.code yX3_init cX3_init 2 none :: rz_TB) hx hb hts rz_in5 tyX3 tyX3_ok nmX3 ho hK hA rfl (by decide) rfl (rz_UnR _ (Or.inr ⟨_, rfl⟩)) rfl (hmn.trans rfl) rfl (tyX3_ok 4 (by decide)) (hw (i := 73) (j := 13) rfl rfl) (fun _ z => z) dX3_init_32 hk) ?_
  refine rz_All_c (i := 15) (fun k J hk hJ => rz_aload_n_ok (pc := 35) hx hb dX3_init_35 rfl hk) ?_
  refine rz_All_c (i := 16) (fun k J hk hJ => rz_sipush_ok (pc := 36) hx hb dX3_init_36 (by decide) hk) ?_
  refine rz_All_c (i := 17) (fun k J hk hJ => rz_newa_int_ok (pc := 39) (nz0 := (10, 19039)) (mx := 200) hx hb hK hA (hw (i := 57) (j := 7) rfl rfl) (by decide) (by rw [hRm]; decide) dX3_init_39 (rz_wid (by decide) hk)) ?_
  refine rz_All_c (i := 18) (fun k J hk hJ => rz_putfF_ok (pc := 41) (own := RX3) (ref := "ThreadJudge$Heap") (C := RX3) (T := TX3) (N := 10) (ci := 5) (index := 24) (f := 5) (t := 2) (Ts := Cond.code yX3_init cX3_init 2 none :: rz_TB) hx hb hts rz_in5 tyX3 tyX3_ok nmX3 ho hK hA rfl (by decide) rfl (rz_UnR _ (Or.inr ⟨_, rfl⟩)) rfl (hmn.trans rfl) rfl (tyX3_ok 5 (by decide)) (hw (i := 73) (j := 14) rfl rfl) (fun _ z => z) dX3_init_41 hk) ?_
  refine rz_All_c (i := 19) (fun k J hk hJ => rz_aload_n_ok (pc := 44) hx hb dX3_init_44 rfl hk) ?_
  refine rz_All_c (i := 20) (fun k J hk hJ => rz_sipush_ok (pc := 45) hx hb dX3_init_45 (by decide) hk) ?_
  refine rz_All_c (i := 21) (fun k J hk hJ => rz_newa_int_ok (pc := 48) (nz0 := (11, 19239)) (mx := 1200) hx hb hK hA (hw (i := 57) (j := 7) rfl rfl) (by decide) (by rw [hRm]; decide) dX3_init_48 (rz_wid (by decide) hk)) ?_
  refine rz_All_c (i := 22) (fun k J hk hJ => rz_putfF_ok (pc := 50) (own := RX3) (ref := "ThreadJudge$Heap") (C := RX3) (T := TX3) (N := 10) (ci := 5) (index := 27) (f := 7) (t := 2) (Ts := Cond.code yX3_init cX3_init 2 none :: rz_TB) hx hb hts rz_in5 tyX3 tyX3_ok nmX3 ho hK hA rfl (by decide) rfl (rz_UnR _ (Or.inr ⟨_, rfl⟩)) rfl (hmn.trans rfl) rfl (tyX3_ok 7 (by decide)) (hw (i := 73) (j := 15) rfl rfl) (fun _ z => z) dX3_init_50 hk) ?_
  refine rz_All_c (i := 23) (fun k J hk hJ => rz_aload_n_ok (pc := 53) hx hb dX3_init_53 rfl hk) ?_
  refine rz_All_c (i := 24) (fun k J hk hJ => rz_bipush_ok (pc := 54) hx hb dX3_init_54 (by decide) hk) ?_
  refine rz_All_c (i := 25) (fun k J hk hJ => rz_newa_int_ok (pc := 56) (nz0 := (12, 20439)) (mx := 43) hx hb hK hA (hw (i := 57) (j := 7) rfl rfl) (by decide) (by rw [hRm]; decide) dX3_init_56 (rz_wid (by decide) hk)) ?_
  refine rz_All_c (i := 26) (fun k J hk hJ => rz_putfF_ok (pc := 58) (own := RX3) (ref := "ThreadJudge$Heap") (C := RX3) (T := TX3) (N := 10) (ci := 5) (index := 30) (f := 9) (t := 2) (Ts := Cond.code yX3_init cX3_init 2 none :: rz_TB) hx hb hts rz_in5 tyX3 tyX3_ok nmX3 ho hK hA rfl (by decide) rfl (rz_UnR _ (Or.inr ⟨_, rfl⟩)) rfl (hmn.trans rfl) rfl (tyX3_ok 9 (by decide)) (hw (i := 73) (j := 16) rfl rfl) (fun _ z => z) dX3_init_58 hk) ?_
  refine rz_All_c (i := 27) (fun k J hk hJ => rz_aload_n_ok (pc := 61) hx hb dX3_init_61 rfl hk) ?_
  refine rz_All_c (i := 28) (fun k J hk hJ => rz_aload_n_ok (pc := 62) hx hb dX3_init_62 rfl hk) ?_
  refine rz_All_c (i := 29) (fun k J hk hJ => rz_putfF_ok (pc := 63) (own := RX3) (ref := "ThreadJudge$Heap") (C := RX3) (T := TX3) (N := 10) (ci := 5) (index := 33) (f := 0) (t := 2) (Ts := Cond.code yX3_init cX3_init 2 none :: rz_TB) hx hb hts rz_in5 tyX3 tyX3_ok nmX3 ho hK hA rfl (by decide) rfl (rz_UnR _ (Or.inl ⟨_, rfl⟩)) rfl (hmn.trans rfl) rfl (tyX3_ok 0 (by decide)) (hw (i := 73) (j := 17) rfl rfl) (fun _ z => z) dX3_init_63 hk) ?_
  refine rz_All_c (i := 30) (fun k J hk hJ => rz_vret_ok (pc := 66) (nz0 := (13, 20482)) hC dX3_init_66 (by decide)) ?_
  exact trivial
theorem dX4_init_0 : decode cX4_init 0 = .ok (.aload_n 0, 1) := by decide +kernel
theorem dX4_init_1 : decode cX4_init 1 = .ok (.invokespecial 3, 3) := by decide +kernel
theorem dX4_init_4 : decode cX4_init 4 = .ok (.aload_n 0, 1) := by decide +kernel
theorem dX4_init_5 : decode cX4_init 5 = .ok (.aload_n 1, 1) := by decide +kernel
theorem dX4_init_6 : decode cX4_init 6 = .ok (.putfield 9, 3) := by decide +kernel
theorem dX4_init_9 : decode cX4_init 9 = .ok (.aload_n 0, 1) := by decide +kernel
theorem dX4_init_10 : decode cX4_init 10 = .ok (.aload_n 2, 1) := by decide +kernel
theorem dX4_init_11 : decode cX4_init 11 = .ok (.putfield 15, 3) := by decide +kernel
theorem dX4_init_14 : decode cX4_init 14 = .ok (.return_, 1) := by decide +kernel
def rpX4_init : List Nat := [0, 1, 4, 5, 6, 9, 10, 11, 14]
def rzX4_init : List (Nat × Nat) := [(0, 0), (0, 0), (0, 0), (0, 0), (0, 0), (0, 0), (0, 0), (0, 0), (0, 0)]
noncomputable def rcX4_init : List rz_B := [rz_aload 0, rz_obj, rz_aload 0, rz_aload 1, rz_putf (Nat.add (Nat.mul 256 6) 1) 0 rz_unR, rz_aload 0, rz_aload 2, rz_putf (Nat.add (Nat.mul 256 6) 1) 1 rz_unR, rz_vret]
noncomputable def rgX4_init : rz_L → rz_M → rz_Z → Bool := rz_go rcX4_init 3 1000000
def rrX4_init : Room := { frames := 1, cells := 0, slots := 0, locals := 60 }
theorem rmX4_init (l : Launch) {G : rz_G} (hG : rz_Gd G) (vs : rz_L) (M : rz_M) (Z : rz_Z) (hn : vs.length = 3) (h : rgX4_init vs M Z = true) : Met l yX4_init (Cond.code yX4_init cX4_init 3 none :: rz_TB) rrX4_init (rz_Pre G vs M) (rz_Qv G M.2 Z) 0 0 (fun q => rz_b G ≤ q) := by
  obtain ⟨D, tc, ad, b, xs, rfl⟩ := id hG
  refine rz_bodyM (pcs := rpX4_init) (cz := rzX4_init) (by decide) rfl rfl (by rw [hn]; decide) h ?_
  intro p e R s m args below meth c hC hmn
  obtain ⟨hx, hb, hml, hr, hlk, ho, hts, hKn, hRm⟩ := id hC
  obtain ⟨hK, hA, hSt⟩ := id hKn
  have hw : ∀ {i j : Nat} {ws : List Cond} {w : Cond}, rz_WW[i]? = some ws → ws[j]? = some w → w.before args s = true := fun h1 h2 => hts _ (List.mem_cons_of_mem _ (rz_mem h1 h2))
  refine rz_All_c (i := 0) (fun k J hk hJ => rz_aload_n_ok (pc := 0) hx hb dX4_init_0 rfl hk) ?_
  refine rz_All_c (i := 1) (fun k J hk hJ => rz_obj_ok (pc := 1) (own := RX4) hx hb hml ho (hw (i := 69) (j := 3) rfl rfl) (hw (i := 55) (j := 1) rfl rfl) (hw (i := 55) (j := 2) rfl rfl) (by rw [hRm]; decide) (by rw [hRm]; decide) dX4_init_1 hk) ?_
  refine rz_All_c (i := 2) (fun k J hk hJ => rz_aload_n_ok (pc := 4) hx hb dX4_init_4 rfl hk) ?_
  refine rz_All_c (i := 3) (fun k J hk hJ => rz_aload_n_ok (pc := 5) hx hb dX4_init_5 rfl hk) ?_
  refine rz_All_c (i := 4) (fun k J hk hJ => rz_putfF_ok (pc := 6) (own := RX4) (ref := "ThreadJudge$Linker") (C := RX4) (T := TX4) (N := 4) (ci := 6) (index := 9) (f := 0) (t := 2) (Ts := Cond.code yX4_init cX4_init 3 none :: rz_TB) hx hb hts rz_in6 tyX4 tyX4_ok nmX4 ho hK hA rfl (by decide) rfl (rz_UnR _ (Or.inl ⟨_, rfl⟩)) rfl (hmn.trans rfl) rfl (tyX4_ok 0 (by decide)) (hw (i := 16) (j := 3) rfl rfl) (fun _ z => z) dX4_init_6 hk) ?_
  refine rz_All_c (i := 5) (fun k J hk hJ => rz_aload_n_ok (pc := 9) hx hb dX4_init_9 rfl hk) ?_
  refine rz_All_c (i := 6) (fun k J hk hJ => rz_aload_n_ok (pc := 10) hx hb dX4_init_10 rfl hk) ?_
  refine rz_All_c (i := 7) (fun k J hk hJ => rz_putfF_ok (pc := 11) (own := RX4) (ref := "ThreadJudge$Linker") (C := RX4) (T := TX4) (N := 4) (ci := 6) (index := 15) (f := 1) (t := 2) (Ts := Cond.code yX4_init cX4_init 3 none :: rz_TB) hx hb hts rz_in6 tyX4 tyX4_ok nmX4 ho hK hA rfl (by decide) rfl (rz_UnR _ (Or.inl ⟨_, rfl⟩)) rfl (hmn.trans rfl) rfl (tyX4_ok 1 (by decide)) (hw (i := 18) (j := 7) rfl rfl) (fun _ z => z) dX4_init_11 hk) ?_
  refine rz_All_c (i := 8) (fun k J hk hJ => rz_vret_ok (pc := 14) hC dX4_init_14) ?_
  exact trivial
theorem dX5_init_0 : decode cX5_init 0 = .ok (.aload_n 0, 1) := by decide +kernel
theorem dX5_init_1 : decode cX5_init 1 = .ok (.invokespecial 3, 3) := by decide +kernel
theorem dX5_init_4 : decode cX5_init 4 = .ok (.aload_n 0, 1) := by decide +kernel
theorem dX5_init_5 : decode cX5_init 5 = .ok (.bipush 11, 2) := by decide +kernel
theorem dX5_init_7 : decode cX5_init 7 = .ok (.bipush 12, 2) := by decide +kernel
theorem dX5_init_9 : decode cX5_init 9 = .ok (.multianewarray 11 2, 4) := by decide +kernel
theorem dX5_init_13 : decode cX5_init 13 = .ok (.putfield 13, 3) := by decide +kernel
theorem dX5_init_16 : decode cX5_init 16 = .ok (.aload_n 0, 1) := by decide +kernel
theorem dX5_init_17 : decode cX5_init 17 = .ok (.bipush 13, 2) := by decide +kernel
theorem dX5_init_19 : decode cX5_init 19 = .ok (.sipush 360, 3) := by decide +kernel
theorem dX5_init_22 : decode cX5_init 22 = .ok (.multianewarray 11 2, 4) := by decide +kernel
theorem dX5_init_26 : decode cX5_init 26 = .ok (.putfield 16, 3) := by decide +kernel
theorem dX5_init_29 : decode cX5_init 29 = .ok (.aload_n 0, 1) := by decide +kernel
theorem dX5_init_30 : decode cX5_init 30 = .ok (.sipush 2160, 3) := by decide +kernel
theorem dX5_init_33 : decode cX5_init 33 = .ok (.newarray .int, 2) := by decide +kernel
theorem dX5_init_35 : decode cX5_init 35 = .ok (.putfield 19, 3) := by decide +kernel
theorem dX5_init_38 : decode cX5_init 38 = .ok (.aload_n 0, 1) := by decide +kernel
theorem dX5_init_39 : decode cX5_init 39 = .ok (.sipush 6480, 3) := by decide +kernel
theorem dX5_init_42 : decode cX5_init 42 = .ok (.newarray .long, 2) := by decide +kernel
theorem dX5_init_44 : decode cX5_init 44 = .ok (.putfield 23, 3) := by decide +kernel
theorem dX5_init_47 : decode cX5_init 47 = .ok (.aload_n 0, 1) := by decide +kernel
theorem dX5_init_48 : decode cX5_init 48 = .ok (.bipush 10, 2) := by decide +kernel
theorem dX5_init_50 : decode cX5_init 50 = .ok (.newarray .int, 2) := by decide +kernel
theorem dX5_init_52 : decode cX5_init 52 = .ok (.putfield 27, 3) := by decide +kernel
theorem dX5_init_55 : decode cX5_init 55 = .ok (.aload_n 0, 1) := by decide +kernel
theorem dX5_init_56 : decode cX5_init 56 = .ok (.aload_n 1, 1) := by decide +kernel
theorem dX5_init_57 : decode cX5_init 57 = .ok (.putfield 30, 3) := by decide +kernel
theorem dX5_init_60 : decode cX5_init 60 = .ok (.aload_n 0, 1) := by decide +kernel
theorem dX5_init_61 : decode cX5_init 61 = .ok (.aload_n 2, 1) := by decide +kernel
theorem dX5_init_62 : decode cX5_init 62 = .ok (.putfield 34, 3) := by decide +kernel
theorem dX5_init_65 : decode cX5_init 65 = .ok (.aload_n 0, 1) := by decide +kernel
theorem dX5_init_66 : decode cX5_init 66 = .ok (.aload_n 3, 1) := by decide +kernel
theorem dX5_init_67 : decode cX5_init 67 = .ok (.putfield 38, 3) := by decide +kernel
theorem dX5_init_70 : decode cX5_init 70 = .ok (.aload_n 0, 1) := by decide +kernel
theorem dX5_init_71 : decode cX5_init 71 = .ok (.aload 4, 2) := by decide +kernel
theorem dX5_init_73 : decode cX5_init 73 = .ok (.putfield 42, 3) := by decide +kernel
theorem dX5_init_76 : decode cX5_init 76 = .ok (.aload_n 0, 1) := by decide +kernel
theorem dX5_init_77 : decode cX5_init 77 = .ok (.aload 5, 2) := by decide +kernel
theorem dX5_init_79 : decode cX5_init 79 = .ok (.putfield 46, 3) := by decide +kernel
theorem dX5_init_82 : decode cX5_init 82 = .ok (.return_, 1) := by decide +kernel
def rpX5_init : List Nat := [0, 1, 4, 5, 7, 9, 13, 16, 17, 19, 22, 26, 29, 30, 33, 35, 38, 39, 42, 44, 47, 48, 50, 52, 55, 56, 57, 60, 61, 62, 65, 66, 67, 70, 71, 73, 76, 77, 79, 82]
def rzX5_init : List (Nat × Nat) := [(0, 0), (0, 0), (0, 0), (0, 0), (0, 0), (0, 0), (12, 143), (12, 143), (12, 143), (12, 143), (12, 143), (26, 4836), (26, 4836), (26, 4836), (26, 4836), (27, 6996), (27, 6996), (27, 6996), (27, 6996), (28, 13476), (28, 13476), (28, 13476), (28, 13476), (29, 13486), (29, 13486), (29, 13486), (29, 13486), (29, 13486), (29, 13486), (29, 13486), (29, 13486), (29, 13486), (29, 13486), (29, 13486), (29, 13486), (29, 13486), (29, 13486), (29, 13486), (29, 13486), (29, 13486)]
noncomputable def rcX5_init : List rz_B := [rz_aload 0, rz_obj, rz_aload 0, rz_cst 11, rz_cst 12, rz_mna 11 12, rz_putf (Nat.add (Nat.mul 256 7) 1) 14 rz_unR, rz_aload 0, rz_cst 13, rz_cst 360, rz_mna 13 360, rz_putf (Nat.add (Nat.mul 256 7) 1) 15 rz_unR, rz_aload 0, rz_cst 2160, rz_newa 4 2160, rz_putf (Nat.add (Nat.mul 256 7) 1) 16 rz_unR, rz_aload 0, rz_cst 6480, rz_newa 2 6480, rz_putf (Nat.add (Nat.mul 256 7) 1) 17 rz_unR, rz_aload 0, rz_cst 10, rz_newa 4 10, rz_putf (Nat.add (Nat.mul 256 7) 1) 18 rz_unR, rz_aload 0, rz_aload 1, rz_putf (Nat.add (Nat.mul 256 7) 1) 0 rz_unR, rz_aload 0, rz_aload 2, rz_putf (Nat.add (Nat.mul 256 7) 1) 1 rz_unR, rz_aload 0, rz_aload 3, rz_putf (Nat.add (Nat.mul 256 7) 1) 2 rz_unR, rz_aload 0, rz_aload 4, rz_putf (Nat.add (Nat.mul 256 7) 1) 3 rz_unR, rz_aload 0, rz_aload 5, rz_putf (Nat.add (Nat.mul 256 7) 1) 4 rz_unR, rz_vret]
noncomputable def rgX5_init : rz_L → rz_M → rz_Z → Bool := rz_go rcX5_init 6 1000000
def rrX5_init : Room := { frames := 1, cells := 29, slots := 13486, locals := 60 }
theorem rmX5_init (l : Launch) {G : rz_G} (hG : rz_Gd G) (vs : rz_L) (M : rz_M) (Z : rz_Z) (hn : vs.length = 6) (h : rgX5_init vs M Z = true) : Met l yX5_init (Cond.code yX5_init cX5_init 6 none :: rz_TB) rrX5_init (rz_Pre G vs M) (rz_Qv G M.2 Z) 29 13486 (fun q => rz_b G ≤ q) := by
  obtain ⟨D, tc, ad, b, xs, rfl⟩ := id hG
  refine rz_bodyM (pcs := rpX5_init) (cz := rzX5_init) (by decide) rfl rfl (by rw [hn]; decide) h ?_
  intro p e R s m args below meth c hC hmn
  obtain ⟨hx, hb, hml, hr, hlk, ho, hts, hKn, hRm⟩ := id hC
  obtain ⟨hK, hA, hSt⟩ := id hKn
  have hw : ∀ {i j : Nat} {ws : List Cond} {w : Cond}, rz_WW[i]? = some ws → ws[j]? = some w → w.before args s = true := fun h1 h2 => hts _ (List.mem_cons_of_mem _ (rz_mem h1 h2))
  refine rz_All_c (i := 0) (fun k J hk hJ => rz_aload_n_ok (pc := 0) hx hb dX5_init_0 rfl hk) ?_
  refine rz_All_c (i := 1) (fun k J hk hJ => rz_obj_ok (pc := 1) (own := RX5) hx hb hml ho (hw (i := 74) (j := 11) rfl rfl) (hw (i := 55) (j := 1) rfl rfl) (hw (i := 55) (j := 2) rfl rfl) (by rw [hRm]; decide) (by rw [hRm]; decide) dX5_init_1 hk) ?_
  refine rz_All_c (i := 2) (fun k J hk hJ => rz_aload_n_ok (pc := 4) hx hb dX5_init_4 rfl hk) ?_
  refine rz_All_c (i := 3) (fun k J hk hJ => rz_bipush_ok (pc := 5) hx hb dX5_init_5 (by decide) hk) ?_
  refine rz_All_c (i := 4) (fun k J hk hJ => rz_bipush_ok (pc := 7) hx hb dX5_init_7 (by decide) hk) ?_
  refine rz_All_c (i := 5) (fun k J hk hJ => rz_mna_ok (pc := 9) (nz0 := (0, 0)) (own := RX5) (index := 11) (mn := 11) (mk := 12) hx hb hK hA ho (hw (i := 74) (j := 12) rfl rfl) (over_moved (Vm.Alike.refl _) hSt.2.2.2.2.2.1) (hw (i := 57) (j := 7) rfl rfl) (by decide) (by decide) (by rw [hRm]; decide) dX5_init_9 (rz_wid (by decide) hk)) ?_
  refine rz_All_c (i := 6) (fun k J hk hJ => rz_putfF_ok (pc := 13) (own := RX5) (ref := "ThreadJudge$Machine") (C := RX5) (T := TX5) (N := 19) (ci := 7) (index := 13) (f := 14) (t := 2) (Ts := Cond.code yX5_init cX5_init 6 none :: rz_TB) hx hb hts rz_in7 tyX5 tyX5_ok nmX5 ho hK hA rfl (by decide) rfl (rz_UnR _ (Or.inr ⟨_, rfl⟩)) rfl (hmn.trans rfl) rfl (tyX5_ok 14 (by decide)) (hw (i := 74) (j := 13) rfl rfl) (fun _ z => z) dX5_init_13 hk) ?_
  refine rz_All_c (i := 7) (fun k J hk hJ => rz_aload_n_ok (pc := 16) hx hb dX5_init_16 rfl hk) ?_
  refine rz_All_c (i := 8) (fun k J hk hJ => rz_bipush_ok (pc := 17) hx hb dX5_init_17 (by decide) hk) ?_
  refine rz_All_c (i := 9) (fun k J hk hJ => rz_sipush_ok (pc := 19) hx hb dX5_init_19 (by decide) hk) ?_
  refine rz_All_c (i := 10) (fun k J hk hJ => rz_mna_ok (pc := 22) (nz0 := (12, 143)) (own := RX5) (index := 11) (mn := 13) (mk := 360) hx hb hK hA ho (hw (i := 74) (j := 12) rfl rfl) (over_moved (Vm.Alike.refl _) hSt.2.2.2.2.2.1) (hw (i := 57) (j := 7) rfl rfl) (by decide) (by decide) (by rw [hRm]; decide) dX5_init_22 (rz_wid (by decide) hk)) ?_
  refine rz_All_c (i := 11) (fun k J hk hJ => rz_putfF_ok (pc := 26) (own := RX5) (ref := "ThreadJudge$Machine") (C := RX5) (T := TX5) (N := 19) (ci := 7) (index := 16) (f := 15) (t := 2) (Ts := Cond.code yX5_init cX5_init 6 none :: rz_TB) hx hb hts rz_in7 tyX5 tyX5_ok nmX5 ho hK hA rfl (by decide) rfl (rz_UnR _ (Or.inr ⟨_, rfl⟩)) rfl (hmn.trans rfl) rfl (tyX5_ok 15 (by decide)) (hw (i := 74) (j := 14) rfl rfl) (fun _ z => z) dX5_init_26 hk) ?_
  refine rz_All_c (i := 12) (fun k J hk hJ => rz_aload_n_ok (pc := 29) hx hb dX5_init_29 rfl hk) ?_
  refine rz_All_c (i := 13) (fun k J hk hJ => rz_sipush_ok (pc := 30) hx hb dX5_init_30 (by decide) hk) ?_
  refine rz_All_c (i := 14) (fun k J hk hJ => rz_newa_int_ok (pc := 33) (nz0 := (26, 4836)) (mx := 2160) hx hb hK hA (hw (i := 57) (j := 7) rfl rfl) (by decide) (by rw [hRm]; decide) dX5_init_33 (rz_wid (by decide) hk)) ?_
  refine rz_All_c (i := 15) (fun k J hk hJ => rz_putfF_ok (pc := 35) (own := RX5) (ref := "ThreadJudge$Machine") (C := RX5) (T := TX5) (N := 19) (ci := 7) (index := 19) (f := 16) (t := 2) (Ts := Cond.code yX5_init cX5_init 6 none :: rz_TB) hx hb hts rz_in7 tyX5 tyX5_ok nmX5 ho hK hA rfl (by decide) rfl (rz_UnR _ (Or.inr ⟨_, rfl⟩)) rfl (hmn.trans rfl) rfl (tyX5_ok 16 (by decide)) (hw (i := 74) (j := 15) rfl rfl) (fun _ z => z) dX5_init_35 hk) ?_
  refine rz_All_c (i := 16) (fun k J hk hJ => rz_aload_n_ok (pc := 38) hx hb dX5_init_38 rfl hk) ?_
  refine rz_All_c (i := 17) (fun k J hk hJ => rz_sipush_ok (pc := 39) hx hb dX5_init_39 (by decide) hk) ?_
  refine rz_All_c (i := 18) (fun k J hk hJ => rz_newa_long_ok (pc := 42) (nz0 := (27, 6996)) (mx := 6480) hx hb hK hA (hw (i := 57) (j := 10) rfl rfl) (by decide) (by rw [hRm]; decide) dX5_init_42 (rz_wid (by decide) hk)) ?_
  refine rz_All_c (i := 19) (fun k J hk hJ => rz_putfF_ok (pc := 44) (own := RX5) (ref := "ThreadJudge$Machine") (C := RX5) (T := TX5) (N := 19) (ci := 7) (index := 23) (f := 17) (t := 2) (Ts := Cond.code yX5_init cX5_init 6 none :: rz_TB) hx hb hts rz_in7 tyX5 tyX5_ok nmX5 ho hK hA rfl (by decide) rfl (rz_UnR _ (Or.inr ⟨_, rfl⟩)) rfl (hmn.trans rfl) rfl (tyX5_ok 17 (by decide)) (hw (i := 74) (j := 16) rfl rfl) (fun _ z => z) dX5_init_44 hk) ?_
  refine rz_All_c (i := 20) (fun k J hk hJ => rz_aload_n_ok (pc := 47) hx hb dX5_init_47 rfl hk) ?_
  refine rz_All_c (i := 21) (fun k J hk hJ => rz_bipush_ok (pc := 48) hx hb dX5_init_48 (by decide) hk) ?_
  refine rz_All_c (i := 22) (fun k J hk hJ => rz_newa_int_ok (pc := 50) (nz0 := (28, 13476)) (mx := 10) hx hb hK hA (hw (i := 57) (j := 7) rfl rfl) (by decide) (by rw [hRm]; decide) dX5_init_50 (rz_wid (by decide) hk)) ?_
  refine rz_All_c (i := 23) (fun k J hk hJ => rz_putfF_ok (pc := 52) (own := RX5) (ref := "ThreadJudge$Machine") (C := RX5) (T := TX5) (N := 19) (ci := 7) (index := 27) (f := 18) (t := 2) (Ts := Cond.code yX5_init cX5_init 6 none :: rz_TB) hx hb hts rz_in7 tyX5 tyX5_ok nmX5 ho hK hA rfl (by decide) rfl (rz_UnR _ (Or.inr ⟨_, rfl⟩)) rfl (hmn.trans rfl) rfl (tyX5_ok 18 (by decide)) (hw (i := 74) (j := 17) rfl rfl) (fun _ z => z) dX5_init_52 hk) ?_
  refine rz_All_c (i := 24) (fun k J hk hJ => rz_aload_n_ok (pc := 55) hx hb dX5_init_55 rfl hk) ?_
  refine rz_All_c (i := 25) (fun k J hk hJ => rz_aload_n_ok (pc := 56) hx hb dX5_init_56 rfl hk) ?_
  refine rz_All_c (i := 26) (fun k J hk hJ => rz_putfF_ok (pc := 57) (own := RX5) (ref := "ThreadJudge$Machine") (C := RX5) (T := TX5) (N := 19) (ci := 7) (index := 30) (f := 0) (t := 2) (Ts := Cond.code yX5_init cX5_init 6 none :: rz_TB) hx hb hts rz_in7 tyX5 tyX5_ok nmX5 ho hK hA rfl (by decide) rfl (rz_UnR _ (Or.inl ⟨_, rfl⟩)) rfl (hmn.trans rfl) rfl (tyX5_ok 0 (by decide)) (hw (i := 74) (j := 18) rfl rfl) (fun _ z => z) dX5_init_57 hk) ?_
  refine rz_All_c (i := 27) (fun k J hk hJ => rz_aload_n_ok (pc := 60) hx hb dX5_init_60 rfl hk) ?_
  refine rz_All_c (i := 28) (fun k J hk hJ => rz_aload_n_ok (pc := 61) hx hb dX5_init_61 rfl hk) ?_
  refine rz_All_c (i := 29) (fun k J hk hJ => rz_putfF_ok (pc := 62) (own := RX5) (ref := "ThreadJudge$Machine") (C := RX5) (T := TX5) (N := 19) (ci := 7) (index := 34) (f := 1) (t := 2) (Ts := Cond.code yX5_init cX5_init 6 none :: rz_TB) hx hb hts rz_in7 tyX5 tyX5_ok nmX5 ho hK hA rfl (by decide) rfl (rz_UnR _ (Or.inl ⟨_, rfl⟩)) rfl (hmn.trans rfl) rfl (tyX5_ok 1 (by decide)) (hw (i := 74) (j := 19) rfl rfl) (fun _ z => z) dX5_init_62 hk) ?_
  refine rz_All_c (i := 30) (fun k J hk hJ => rz_aload_n_ok (pc := 65) hx hb dX5_init_65 rfl hk) ?_
  refine rz_All_c (i := 31) (fun k J hk hJ => rz_aload_n_ok (pc := 66) hx hb dX5_init_66 rfl hk) ?_
  refine rz_All_c (i := 32) (fun k J hk hJ => rz_putfF_ok (pc := 67) (own := RX5) (ref := "ThreadJudge$Machine") (C := RX5) (T := TX5) (N := 19) (ci := 7) (index := 38) (f := 2) (t := 2) (Ts := Cond.code yX5_init cX5_init 6 none :: rz_TB) hx hb hts rz_in7 tyX5 tyX5_ok nmX5 ho hK hA rfl (by decide) rfl (rz_UnR _ (Or.inl ⟨_, rfl⟩)) rfl (hmn.trans rfl) rfl (tyX5_ok 2 (by decide)) (hw (i := 74) (j := 20) rfl rfl) (fun _ z => z) dX5_init_67 hk) ?_
  refine rz_All_c (i := 33) (fun k J hk hJ => rz_aload_n_ok (pc := 70) hx hb dX5_init_70 rfl hk) ?_
  refine rz_All_c (i := 34) (fun k J hk hJ => rz_aload_ok (pc := 71) hx hb dX5_init_71 hk) ?_
  refine rz_All_c (i := 35) (fun k J hk hJ => rz_putfF_ok (pc := 73) (own := RX5) (ref := "ThreadJudge$Machine") (C := RX5) (T := TX5) (N := 19) (ci := 7) (index := 42) (f := 3) (t := 2) (Ts := Cond.code yX5_init cX5_init 6 none :: rz_TB) hx hb hts rz_in7 tyX5 tyX5_ok nmX5 ho hK hA rfl (by decide) rfl (rz_UnR _ (Or.inl ⟨_, rfl⟩)) rfl (hmn.trans rfl) rfl (tyX5_ok 3 (by decide)) (hw (i := 74) (j := 21) rfl rfl) (fun _ z => z) dX5_init_73 hk) ?_
  refine rz_All_c (i := 36) (fun k J hk hJ => rz_aload_n_ok (pc := 76) hx hb dX5_init_76 rfl hk) ?_
  refine rz_All_c (i := 37) (fun k J hk hJ => rz_aload_ok (pc := 77) hx hb dX5_init_77 hk) ?_
  refine rz_All_c (i := 38) (fun k J hk hJ => rz_putfF_ok (pc := 79) (own := RX5) (ref := "ThreadJudge$Machine") (C := RX5) (T := TX5) (N := 19) (ci := 7) (index := 46) (f := 4) (t := 2) (Ts := Cond.code yX5_init cX5_init 6 none :: rz_TB) hx hb hts rz_in7 tyX5 tyX5_ok nmX5 ho hK hA rfl (by decide) rfl (rz_UnR _ (Or.inl ⟨_, rfl⟩)) rfl (hmn.trans rfl) rfl (tyX5_ok 4 (by decide)) (hw (i := 74) (j := 22) rfl rfl) (fun _ z => z) dX5_init_79 hk) ?_
  refine rz_All_c (i := 39) (fun k J hk hJ => rz_vret_ok (pc := 82) (nz0 := (29, 13486)) hC dX5_init_82 (by decide)) ?_
  exact trivial
theorem dX6_init_0 : decode cX6_init 0 = .ok (.aload_n 0, 1) := by decide +kernel
theorem dX6_init_1 : decode cX6_init 1 = .ok (.invokespecial 3, 3) := by decide +kernel
theorem dX6_init_4 : decode cX6_init 4 = .ok (.aload_n 0, 1) := by decide +kernel
theorem dX6_init_5 : decode cX6_init 5 = .ok (.sipush 4800, 3) := by decide +kernel
theorem dX6_init_8 : decode cX6_init 8 = .ok (.newarray .long, 2) := by decide +kernel
theorem dX6_init_10 : decode cX6_init 10 = .ok (.putfield 9, 3) := by decide +kernel
theorem dX6_init_13 : decode cX6_init 13 = .ok (.aload_n 0, 1) := by decide +kernel
theorem dX6_init_14 : decode cX6_init 14 = .ok (.sipush 300, 3) := by decide +kernel
theorem dX6_init_17 : decode cX6_init 17 = .ok (.newarray .int, 2) := by decide +kernel
theorem dX6_init_19 : decode cX6_init 19 = .ok (.putfield 15, 3) := by decide +kernel
theorem dX6_init_22 : decode cX6_init 22 = .ok (.aload_n 0, 1) := by decide +kernel
theorem dX6_init_23 : decode cX6_init 23 = .ok (.sipush 32000, 3) := by decide +kernel
theorem dX6_init_26 : decode cX6_init 26 = .ok (.newarray .long, 2) := by decide +kernel
theorem dX6_init_28 : decode cX6_init 28 = .ok (.putfield 19, 3) := by decide +kernel
theorem dX6_init_31 : decode cX6_init 31 = .ok (.aload_n 0, 1) := by decide +kernel
theorem dX6_init_32 : decode cX6_init 32 = .ok (.sipush 32000, 3) := by decide +kernel
theorem dX6_init_35 : decode cX6_init 35 = .ok (.newarray .long, 2) := by decide +kernel
theorem dX6_init_37 : decode cX6_init 37 = .ok (.putfield 22, 3) := by decide +kernel
theorem dX6_init_40 : decode cX6_init 40 = .ok (.aload_n 0, 1) := by decide +kernel
theorem dX6_init_41 : decode cX6_init 41 = .ok (.sipush 32000, 3) := by decide +kernel
theorem dX6_init_44 : decode cX6_init 44 = .ok (.newarray .long, 2) := by decide +kernel
theorem dX6_init_46 : decode cX6_init 46 = .ok (.putfield 25, 3) := by decide +kernel
theorem dX6_init_49 : decode cX6_init 49 = .ok (.aload_n 0, 1) := by decide +kernel
theorem dX6_init_50 : decode cX6_init 50 = .ok (.sipush 16224, 3) := by decide +kernel
theorem dX6_init_53 : decode cX6_init 53 = .ok (.newarray .long, 2) := by decide +kernel
theorem dX6_init_55 : decode cX6_init 55 = .ok (.putfield 28, 3) := by decide +kernel
theorem dX6_init_58 : decode cX6_init 58 = .ok (.aload_n 0, 1) := by decide +kernel
theorem dX6_init_59 : decode cX6_init 59 = .ok (.sipush 3840, 3) := by decide +kernel
theorem dX6_init_62 : decode cX6_init 62 = .ok (.newarray .long, 2) := by decide +kernel
theorem dX6_init_64 : decode cX6_init 64 = .ok (.putfield 31, 3) := by decide +kernel
theorem dX6_init_67 : decode cX6_init 67 = .ok (.aload_n 0, 1) := by decide +kernel
theorem dX6_init_68 : decode cX6_init 68 = .ok (.sipush 1014, 3) := by decide +kernel
theorem dX6_init_71 : decode cX6_init 71 = .ok (.newarray .int, 2) := by decide +kernel
theorem dX6_init_73 : decode cX6_init 73 = .ok (.putfield 34, 3) := by decide +kernel
theorem dX6_init_76 : decode cX6_init 76 = .ok (.aload_n 0, 1) := by decide +kernel
theorem dX6_init_77 : decode cX6_init 77 = .ok (.sipush 1014, 3) := by decide +kernel
theorem dX6_init_80 : decode cX6_init 80 = .ok (.newarray .int, 2) := by decide +kernel
theorem dX6_init_82 : decode cX6_init 82 = .ok (.putfield 37, 3) := by decide +kernel
theorem dX6_init_85 : decode cX6_init 85 = .ok (.aload_n 0, 1) := by decide +kernel
theorem dX6_init_86 : decode cX6_init 86 = .ok (.bipush 8, 2) := by decide +kernel
theorem dX6_init_88 : decode cX6_init 88 = .ok (.newarray .long, 2) := by decide +kernel
theorem dX6_init_90 : decode cX6_init 90 = .ok (.putfield 40, 3) := by decide +kernel
theorem dX6_init_93 : decode cX6_init 93 = .ok (.aload_n 0, 1) := by decide +kernel
theorem dX6_init_94 : decode cX6_init 94 = .ok (.aload_n 1, 1) := by decide +kernel
theorem dX6_init_95 : decode cX6_init 95 = .ok (.putfield 43, 3) := by decide +kernel
theorem dX6_init_98 : decode cX6_init 98 = .ok (.aload_n 0, 1) := by decide +kernel
theorem dX6_init_99 : decode cX6_init 99 = .ok (.aload_n 2, 1) := by decide +kernel
theorem dX6_init_100 : decode cX6_init 100 = .ok (.putfield 47, 3) := by decide +kernel
theorem dX6_init_103 : decode cX6_init 103 = .ok (.aload_n 0, 1) := by decide +kernel
theorem dX6_init_104 : decode cX6_init 104 = .ok (.aload_n 3, 1) := by decide +kernel
theorem dX6_init_105 : decode cX6_init 105 = .ok (.putfield 51, 3) := by decide +kernel
theorem dX6_init_108 : decode cX6_init 108 = .ok (.aload_n 0, 1) := by decide +kernel
theorem dX6_init_109 : decode cX6_init 109 = .ok (.aload 4, 2) := by decide +kernel
theorem dX6_init_111 : decode cX6_init 111 = .ok (.putfield 55, 3) := by decide +kernel
theorem dX6_init_114 : decode cX6_init 114 = .ok (.return_, 1) := by decide +kernel
def rpX6_init : List Nat := [0, 1, 4, 5, 8, 10, 13, 14, 17, 19, 22, 23, 26, 28, 31, 32, 35, 37, 40, 41, 44, 46, 49, 50, 53, 55, 58, 59, 62, 64, 67, 68, 71, 73, 76, 77, 80, 82, 85, 86, 88, 90, 93, 94, 95, 98, 99, 100, 103, 104, 105, 108, 109, 111, 114]
def rzX6_init : List (Nat × Nat) := [(0, 0), (0, 0), (0, 0), (0, 0), (0, 0), (1, 4800), (1, 4800), (1, 4800), (1, 4800), (2, 5100), (2, 5100), (2, 5100), (2, 5100), (3, 37100), (3, 37100), (3, 37100), (3, 37100), (4, 69100), (4, 69100), (4, 69100), (4, 69100), (5, 101100), (5, 101100), (5, 101100), (5, 101100), (6, 117324), (6, 117324), (6, 117324), (6, 117324), (7, 121164), (7, 121164), (7, 121164), (7, 121164), (8, 122178), (8, 122178), (8, 122178), (8, 122178), (9, 123192), (9, 123192), (9, 123192), (9, 123192), (10, 123200), (10, 123200), (10, 123200), (10, 123200), (10, 123200), (10, 123200), (10, 123200), (10, 123200), (10, 123200), (10, 123200), (10, 123200), (10, 123200), (10, 123200), (10, 123200)]
noncomputable def rcX6_init : List rz_B := [rz_aload 0, rz_obj, rz_aload 0, rz_cst 4800, rz_newa 2 4800, rz_putf (Nat.add (Nat.mul 256 8) 1) 4 rz_unR, rz_aload 0, rz_cst 300, rz_newa 4 300, rz_putf (Nat.add (Nat.mul 256 8) 1) 5 rz_unR, rz_aload 0, rz_cst 32000, rz_newa 2 32000, rz_putf (Nat.add (Nat.mul 256 8) 1) 6 rz_unR, rz_aload 0, rz_cst 32000, rz_newa 2 32000, rz_putf (Nat.add (Nat.mul 256 8) 1) 7 rz_unR, rz_aload 0, rz_cst 32000, rz_newa 2 32000, rz_putf (Nat.add (Nat.mul 256 8) 1) 8 rz_unR, rz_aload 0, rz_cst 16224, rz_newa 2 16224, rz_putf (Nat.add (Nat.mul 256 8) 1) 10 rz_unR, rz_aload 0, rz_cst 3840, rz_newa 2 3840, rz_putf (Nat.add (Nat.mul 256 8) 1) 11 rz_unR, rz_aload 0, rz_cst 1014, rz_newa 4 1014, rz_putf (Nat.add (Nat.mul 256 8) 1) 13 rz_unR, rz_aload 0, rz_cst 1014, rz_newa 4 1014, rz_putf (Nat.add (Nat.mul 256 8) 1) 15 rz_unR, rz_aload 0, rz_cst 8, rz_newa 2 8, rz_putf (Nat.add (Nat.mul 256 8) 1) 16 rz_unR, rz_aload 0, rz_aload 1, rz_putf (Nat.add (Nat.mul 256 8) 1) 0 rz_unR, rz_aload 0, rz_aload 2, rz_putf (Nat.add (Nat.mul 256 8) 1) 1 rz_unR, rz_aload 0, rz_aload 3, rz_putf (Nat.add (Nat.mul 256 8) 1) 2 rz_unR, rz_aload 0, rz_aload 4, rz_putf (Nat.add (Nat.mul 256 8) 1) 3 rz_unR, rz_vret]
noncomputable def rgX6_init : rz_L → rz_M → rz_Z → Bool := rz_go rcX6_init 5 1000000
def rrX6_init : Room := { frames := 1, cells := 10, slots := 123200, locals := 60 }
theorem rmX6_init (l : Launch) {G : rz_G} (hG : rz_Gd G) (vs : rz_L) (M : rz_M) (Z : rz_Z) (hn : vs.length = 5) (h : rgX6_init vs M Z = true) : Met l yX6_init (Cond.code yX6_init cX6_init 5 none :: rz_TB) rrX6_init (rz_Pre G vs M) (rz_Qv G M.2 Z) 10 123200 (fun q => rz_b G ≤ q) := by
  obtain ⟨D, tc, ad, b, xs, rfl⟩ := id hG
  refine rz_bodyM (pcs := rpX6_init) (cz := rzX6_init) (by decide) rfl rfl (by rw [hn]; decide) h ?_
  intro p e R s m args below meth c hC hmn
  obtain ⟨hx, hb, hml, hr, hlk, ho, hts, hKn, hRm⟩ := id hC
  obtain ⟨hK, hA, hSt⟩ := id hKn
  have hw : ∀ {i j : Nat} {ws : List Cond} {w : Cond}, rz_WW[i]? = some ws → ws[j]? = some w → w.before args s = true := fun h1 h2 => hts _ (List.mem_cons_of_mem _ (rz_mem h1 h2))
  refine rz_All_c (i := 0) (fun k J hk hJ => rz_aload_n_ok (pc := 0) hx hb dX6_init_0 rfl hk) ?_
  refine rz_All_c (i := 1) (fun k J hk hJ => rz_obj_ok (pc := 1) (own := RX6) hx hb hml ho (hw (i := 71) (j := 23) rfl rfl) (hw (i := 55) (j := 1) rfl rfl) (hw (i := 55) (j := 2) rfl rfl) (by rw [hRm]; decide) (by rw [hRm]; decide) dX6_init_1 hk) ?_
  refine rz_All_c (i := 2) (fun k J hk hJ => rz_aload_n_ok (pc := 4) hx hb dX6_init_4 rfl hk) ?_
  refine rz_All_c (i := 3) (fun k J hk hJ => rz_sipush_ok (pc := 5) hx hb dX6_init_5 (by decide) hk) ?_
  refine rz_All_c (i := 4) (fun k J hk hJ => rz_newa_long_ok (pc := 8) (nz0 := (0, 0)) (mx := 4800) hx hb hK hA (hw (i := 57) (j := 10) rfl rfl) (by decide) (by rw [hRm]; decide) dX6_init_8 (rz_wid (by decide) hk)) ?_
  refine rz_All_c (i := 5) (fun k J hk hJ => rz_putfF_ok (pc := 10) (own := RX6) (ref := "ThreadJudge$Monitors") (C := RX6) (T := TX6) (N := 17) (ci := 8) (index := 9) (f := 4) (t := 2) (Ts := Cond.code yX6_init cX6_init 5 none :: rz_TB) hx hb hts rz_in8 tyX6 tyX6_ok nmX6 ho hK hA rfl (by decide) rfl (rz_UnR _ (Or.inr ⟨_, rfl⟩)) rfl (hmn.trans rfl) rfl (tyX6_ok 4 (by decide)) (hw (i := 72) (j := 0) rfl rfl) (fun _ z => z) dX6_init_10 hk) ?_
  refine rz_All_c (i := 6) (fun k J hk hJ => rz_aload_n_ok (pc := 13) hx hb dX6_init_13 rfl hk) ?_
  refine rz_All_c (i := 7) (fun k J hk hJ => rz_sipush_ok (pc := 14) hx hb dX6_init_14 (by decide) hk) ?_
  refine rz_All_c (i := 8) (fun k J hk hJ => rz_newa_int_ok (pc := 17) (nz0 := (1, 4800)) (mx := 300) hx hb hK hA (hw (i := 57) (j := 7) rfl rfl) (by decide) (by rw [hRm]; decide) dX6_init_17 (rz_wid (by decide) hk)) ?_
  refine rz_All_c (i := 9) (fun k J hk hJ => rz_putfF_ok (pc := 19) (own := RX6) (ref := "ThreadJudge$Monitors") (C := RX6) (T := TX6) (N := 17) (ci := 8) (index := 15) (f := 5) (t := 2) (Ts := Cond.code yX6_init cX6_init 5 none :: rz_TB) hx hb hts rz_in8 tyX6 tyX6_ok nmX6 ho hK hA rfl (by decide) rfl (rz_UnR _ (Or.inr ⟨_, rfl⟩)) rfl (hmn.trans rfl) rfl (tyX6_ok 5 (by decide)) (hw (i := 72) (j := 1) rfl rfl) (fun _ z => z) dX6_init_19 hk) ?_
  refine rz_All_c (i := 10) (fun k J hk hJ => rz_aload_n_ok (pc := 22) hx hb dX6_init_22 rfl hk) ?_
  refine rz_All_c (i := 11) (fun k J hk hJ => rz_sipush_ok (pc := 23) hx hb dX6_init_23 (by decide) hk) ?_
  refine rz_All_c (i := 12) (fun k J hk hJ => rz_newa_long_ok (pc := 26) (nz0 := (2, 5100)) (mx := 32000) hx hb hK hA (hw (i := 57) (j := 10) rfl rfl) (by decide) (by rw [hRm]; decide) dX6_init_26 (rz_wid (by decide) hk)) ?_
  refine rz_All_c (i := 13) (fun k J hk hJ => rz_putfF_ok (pc := 28) (own := RX6) (ref := "ThreadJudge$Monitors") (C := RX6) (T := TX6) (N := 17) (ci := 8) (index := 19) (f := 6) (t := 2) (Ts := Cond.code yX6_init cX6_init 5 none :: rz_TB) hx hb hts rz_in8 tyX6 tyX6_ok nmX6 ho hK hA rfl (by decide) rfl (rz_UnR _ (Or.inr ⟨_, rfl⟩)) rfl (hmn.trans rfl) rfl (tyX6_ok 6 (by decide)) (hw (i := 72) (j := 2) rfl rfl) (fun _ z => z) dX6_init_28 hk) ?_
  refine rz_All_c (i := 14) (fun k J hk hJ => rz_aload_n_ok (pc := 31) hx hb dX6_init_31 rfl hk) ?_
  refine rz_All_c (i := 15) (fun k J hk hJ => rz_sipush_ok (pc := 32) hx hb dX6_init_32 (by decide) hk) ?_
  refine rz_All_c (i := 16) (fun k J hk hJ => rz_newa_long_ok (pc := 35) (nz0 := (3, 37100)) (mx := 32000) hx hb hK hA (hw (i := 57) (j := 10) rfl rfl) (by decide) (by rw [hRm]; decide) dX6_init_35 (rz_wid (by decide) hk)) ?_
  refine rz_All_c (i := 17) (fun k J hk hJ => rz_putfF_ok (pc := 37) (own := RX6) (ref := "ThreadJudge$Monitors") (C := RX6) (T := TX6) (N := 17) (ci := 8) (index := 22) (f := 7) (t := 2) (Ts := Cond.code yX6_init cX6_init 5 none :: rz_TB) hx hb hts rz_in8 tyX6 tyX6_ok nmX6 ho hK hA rfl (by decide) rfl (rz_UnR _ (Or.inr ⟨_, rfl⟩)) rfl (hmn.trans rfl) rfl (tyX6_ok 7 (by decide)) (hw (i := 72) (j := 3) rfl rfl) (fun _ z => z) dX6_init_37 hk) ?_
  refine rz_All_c (i := 18) (fun k J hk hJ => rz_aload_n_ok (pc := 40) hx hb dX6_init_40 rfl hk) ?_
  refine rz_All_c (i := 19) (fun k J hk hJ => rz_sipush_ok (pc := 41) hx hb dX6_init_41 (by decide) hk) ?_
  refine rz_All_c (i := 20) (fun k J hk hJ => rz_newa_long_ok (pc := 44) (nz0 := (4, 69100)) (mx := 32000) hx hb hK hA (hw (i := 57) (j := 10) rfl rfl) (by decide) (by rw [hRm]; decide) dX6_init_44 (rz_wid (by decide) hk)) ?_
  refine rz_All_c (i := 21) (fun k J hk hJ => rz_putfF_ok (pc := 46) (own := RX6) (ref := "ThreadJudge$Monitors") (C := RX6) (T := TX6) (N := 17) (ci := 8) (index := 25) (f := 8) (t := 2) (Ts := Cond.code yX6_init cX6_init 5 none :: rz_TB) hx hb hts rz_in8 tyX6 tyX6_ok nmX6 ho hK hA rfl (by decide) rfl (rz_UnR _ (Or.inr ⟨_, rfl⟩)) rfl (hmn.trans rfl) rfl (tyX6_ok 8 (by decide)) (hw (i := 72) (j := 4) rfl rfl) (fun _ z => z) dX6_init_46 hk) ?_
  refine rz_All_c (i := 22) (fun k J hk hJ => rz_aload_n_ok (pc := 49) hx hb dX6_init_49 rfl hk) ?_
  refine rz_All_c (i := 23) (fun k J hk hJ => rz_sipush_ok (pc := 50) hx hb dX6_init_50 (by decide) hk) ?_
  refine rz_All_c (i := 24) (fun k J hk hJ => rz_newa_long_ok (pc := 53) (nz0 := (5, 101100)) (mx := 16224) hx hb hK hA (hw (i := 57) (j := 10) rfl rfl) (by decide) (by rw [hRm]; decide) dX6_init_53 (rz_wid (by decide) hk)) ?_
  refine rz_All_c (i := 25) (fun k J hk hJ => rz_putfF_ok (pc := 55) (own := RX6) (ref := "ThreadJudge$Monitors") (C := RX6) (T := TX6) (N := 17) (ci := 8) (index := 28) (f := 10) (t := 2) (Ts := Cond.code yX6_init cX6_init 5 none :: rz_TB) hx hb hts rz_in8 tyX6 tyX6_ok nmX6 ho hK hA rfl (by decide) rfl (rz_UnR _ (Or.inr ⟨_, rfl⟩)) rfl (hmn.trans rfl) rfl (tyX6_ok 10 (by decide)) (hw (i := 72) (j := 5) rfl rfl) (fun _ z => z) dX6_init_55 hk) ?_
  refine rz_All_c (i := 26) (fun k J hk hJ => rz_aload_n_ok (pc := 58) hx hb dX6_init_58 rfl hk) ?_
  refine rz_All_c (i := 27) (fun k J hk hJ => rz_sipush_ok (pc := 59) hx hb dX6_init_59 (by decide) hk) ?_
  refine rz_All_c (i := 28) (fun k J hk hJ => rz_newa_long_ok (pc := 62) (nz0 := (6, 117324)) (mx := 3840) hx hb hK hA (hw (i := 57) (j := 10) rfl rfl) (by decide) (by rw [hRm]; decide) dX6_init_62 (rz_wid (by decide) hk)) ?_
  refine rz_All_c (i := 29) (fun k J hk hJ => rz_putfF_ok (pc := 64) (own := RX6) (ref := "ThreadJudge$Monitors") (C := RX6) (T := TX6) (N := 17) (ci := 8) (index := 31) (f := 11) (t := 2) (Ts := Cond.code yX6_init cX6_init 5 none :: rz_TB) hx hb hts rz_in8 tyX6 tyX6_ok nmX6 ho hK hA rfl (by decide) rfl (rz_UnR _ (Or.inr ⟨_, rfl⟩)) rfl (hmn.trans rfl) rfl (tyX6_ok 11 (by decide)) (hw (i := 72) (j := 6) rfl rfl) (fun _ z => z) dX6_init_64 hk) ?_
  refine rz_All_c (i := 30) (fun k J hk hJ => rz_aload_n_ok (pc := 67) hx hb dX6_init_67 rfl hk) ?_
  refine rz_All_c (i := 31) (fun k J hk hJ => rz_sipush_ok (pc := 68) hx hb dX6_init_68 (by decide) hk) ?_
  refine rz_All_c (i := 32) (fun k J hk hJ => rz_newa_int_ok (pc := 71) (nz0 := (7, 121164)) (mx := 1014) hx hb hK hA (hw (i := 57) (j := 7) rfl rfl) (by decide) (by rw [hRm]; decide) dX6_init_71 (rz_wid (by decide) hk)) ?_
  refine rz_All_c (i := 33) (fun k J hk hJ => rz_putfF_ok (pc := 73) (own := RX6) (ref := "ThreadJudge$Monitors") (C := RX6) (T := TX6) (N := 17) (ci := 8) (index := 34) (f := 13) (t := 2) (Ts := Cond.code yX6_init cX6_init 5 none :: rz_TB) hx hb hts rz_in8 tyX6 tyX6_ok nmX6 ho hK hA rfl (by decide) rfl (rz_UnR _ (Or.inr ⟨_, rfl⟩)) rfl (hmn.trans rfl) rfl (tyX6_ok 13 (by decide)) (hw (i := 72) (j := 7) rfl rfl) (fun _ z => z) dX6_init_73 hk) ?_
  refine rz_All_c (i := 34) (fun k J hk hJ => rz_aload_n_ok (pc := 76) hx hb dX6_init_76 rfl hk) ?_
  refine rz_All_c (i := 35) (fun k J hk hJ => rz_sipush_ok (pc := 77) hx hb dX6_init_77 (by decide) hk) ?_
  refine rz_All_c (i := 36) (fun k J hk hJ => rz_newa_int_ok (pc := 80) (nz0 := (8, 122178)) (mx := 1014) hx hb hK hA (hw (i := 57) (j := 7) rfl rfl) (by decide) (by rw [hRm]; decide) dX6_init_80 (rz_wid (by decide) hk)) ?_
  refine rz_All_c (i := 37) (fun k J hk hJ => rz_putfF_ok (pc := 82) (own := RX6) (ref := "ThreadJudge$Monitors") (C := RX6) (T := TX6) (N := 17) (ci := 8) (index := 37) (f := 15) (t := 2) (Ts := Cond.code yX6_init cX6_init 5 none :: rz_TB) hx hb hts rz_in8 tyX6 tyX6_ok nmX6 ho hK hA rfl (by decide) rfl (rz_UnR _ (Or.inr ⟨_, rfl⟩)) rfl (hmn.trans rfl) rfl (tyX6_ok 15 (by decide)) (hw (i := 72) (j := 8) rfl rfl) (fun _ z => z) dX6_init_82 hk) ?_
  refine rz_All_c (i := 38) (fun k J hk hJ => rz_aload_n_ok (pc := 85) hx hb dX6_init_85 rfl hk) ?_
  refine rz_All_c (i := 39) (fun k J hk hJ => rz_bipush_ok (pc := 86) hx hb dX6_init_86 (by decide) hk) ?_
  refine rz_All_c (i := 40) (fun k J hk hJ => rz_newa_long_ok (pc := 88) (nz0 := (9, 123192)) (mx := 8) hx hb hK hA (hw (i := 57) (j := 10) rfl rfl) (by decide) (by rw [hRm]; decide) dX6_init_88 (rz_wid (by decide) hk)) ?_
  refine rz_All_c (i := 41) (fun k J hk hJ => rz_putfF_ok (pc := 90) (own := RX6) (ref := "ThreadJudge$Monitors") (C := RX6) (T := TX6) (N := 17) (ci := 8) (index := 40) (f := 16) (t := 2) (Ts := Cond.code yX6_init cX6_init 5 none :: rz_TB) hx hb hts rz_in8 tyX6 tyX6_ok nmX6 ho hK hA rfl (by decide) rfl (rz_UnR _ (Or.inr ⟨_, rfl⟩)) rfl (hmn.trans rfl) rfl (tyX6_ok 16 (by decide)) (hw (i := 72) (j := 9) rfl rfl) (fun _ z => z) dX6_init_90 hk) ?_
  refine rz_All_c (i := 42) (fun k J hk hJ => rz_aload_n_ok (pc := 93) hx hb dX6_init_93 rfl hk) ?_
  refine rz_All_c (i := 43) (fun k J hk hJ => rz_aload_n_ok (pc := 94) hx hb dX6_init_94 rfl hk) ?_
  refine rz_All_c (i := 44) (fun k J hk hJ => rz_putfF_ok (pc := 95) (own := RX6) (ref := "ThreadJudge$Monitors") (C := RX6) (T := TX6) (N := 17) (ci := 8) (index := 43) (f := 0) (t := 2) (Ts := Cond.code yX6_init cX6_init 5 none :: rz_TB) hx hb hts rz_in8 tyX6 tyX6_ok nmX6 ho hK hA rfl (by decide) rfl (rz_UnR _ (Or.inl ⟨_, rfl⟩)) rfl (hmn.trans rfl) rfl (tyX6_ok 0 (by decide)) (hw (i := 72) (j := 10) rfl rfl) (fun _ z => z) dX6_init_95 hk) ?_
  refine rz_All_c (i := 45) (fun k J hk hJ => rz_aload_n_ok (pc := 98) hx hb dX6_init_98 rfl hk) ?_
  refine rz_All_c (i := 46) (fun k J hk hJ => rz_aload_n_ok (pc := 99) hx hb dX6_init_99 rfl hk) ?_
  refine rz_All_c (i := 47) (fun k J hk hJ => rz_putfF_ok (pc := 100) (own := RX6) (ref := "ThreadJudge$Monitors") (C := RX6) (T := TX6) (N := 17) (ci := 8) (index := 47) (f := 1) (t := 2) (Ts := Cond.code yX6_init cX6_init 5 none :: rz_TB) hx hb hts rz_in8 tyX6 tyX6_ok nmX6 ho hK hA rfl (by decide) rfl (rz_UnR _ (Or.inl ⟨_, rfl⟩)) rfl (hmn.trans rfl) rfl (tyX6_ok 1 (by decide)) (hw (i := 72) (j := 11) rfl rfl) (fun _ z => z) dX6_init_100 hk) ?_
  refine rz_All_c (i := 48) (fun k J hk hJ => rz_aload_n_ok (pc := 103) hx hb dX6_init_103 rfl hk) ?_
  refine rz_All_c (i := 49) (fun k J hk hJ => rz_aload_n_ok (pc := 104) hx hb dX6_init_104 rfl hk) ?_
  refine rz_All_c (i := 50) (fun k J hk hJ => rz_putfF_ok (pc := 105) (own := RX6) (ref := "ThreadJudge$Monitors") (C := RX6) (T := TX6) (N := 17) (ci := 8) (index := 51) (f := 2) (t := 2) (Ts := Cond.code yX6_init cX6_init 5 none :: rz_TB) hx hb hts rz_in8 tyX6 tyX6_ok nmX6 ho hK hA rfl (by decide) rfl (rz_UnR _ (Or.inl ⟨_, rfl⟩)) rfl (hmn.trans rfl) rfl (tyX6_ok 2 (by decide)) (hw (i := 72) (j := 12) rfl rfl) (fun _ z => z) dX6_init_105 hk) ?_
  refine rz_All_c (i := 51) (fun k J hk hJ => rz_aload_n_ok (pc := 108) hx hb dX6_init_108 rfl hk) ?_
  refine rz_All_c (i := 52) (fun k J hk hJ => rz_aload_ok (pc := 109) hx hb dX6_init_109 hk) ?_
  refine rz_All_c (i := 53) (fun k J hk hJ => rz_putfF_ok (pc := 111) (own := RX6) (ref := "ThreadJudge$Monitors") (C := RX6) (T := TX6) (N := 17) (ci := 8) (index := 55) (f := 3) (t := 2) (Ts := Cond.code yX6_init cX6_init 5 none :: rz_TB) hx hb hts rz_in8 tyX6 tyX6_ok nmX6 ho hK hA rfl (by decide) rfl (rz_UnR _ (Or.inl ⟨_, rfl⟩)) rfl (hmn.trans rfl) rfl (tyX6_ok 3 (by decide)) (hw (i := 72) (j := 13) rfl rfl) (fun _ z => z) dX6_init_111 hk) ?_
  refine rz_All_c (i := 54) (fun k J hk hJ => rz_vret_ok (pc := 114) (nz0 := (10, 123200)) hC dX6_init_114 (by decide)) ?_
  exact trivial
theorem dX7_init_0 : decode cX7_init 0 = .ok (.aload_n 0, 1) := by decide +kernel
theorem dX7_init_1 : decode cX7_init 1 = .ok (.invokespecial 3, 3) := by decide +kernel
theorem dX7_init_4 : decode cX7_init 4 = .ok (.aload_n 0, 1) := by decide +kernel
theorem dX7_init_5 : decode cX7_init 5 = .ok (.bipush 10, 2) := by decide +kernel
theorem dX7_init_7 : decode cX7_init 7 = .ok (.bipush 43, 2) := by decide +kernel
theorem dX7_init_9 : decode cX7_init 9 = .ok (.multianewarray 9 2, 4) := by decide +kernel
theorem dX7_init_13 : decode cX7_init 13 = .ok (.putfield 11, 3) := by decide +kernel
theorem dX7_init_16 : decode cX7_init 16 = .ok (.aload_n 0, 1) := by decide +kernel
theorem dX7_init_17 : decode cX7_init 17 = .ok (.sipush 516, 3) := by decide +kernel
theorem dX7_init_20 : decode cX7_init 20 = .ok (.newarray .int, 2) := by decide +kernel
theorem dX7_init_22 : decode cX7_init 22 = .ok (.putfield 16, 3) := by decide +kernel
theorem dX7_init_25 : decode cX7_init 25 = .ok (.aload_n 0, 1) := by decide +kernel
theorem dX7_init_26 : decode cX7_init 26 = .ok (.bipush 43, 2) := by decide +kernel
theorem dX7_init_28 : decode cX7_init 28 = .ok (.newarray .long, 2) := by decide +kernel
theorem dX7_init_30 : decode cX7_init 30 = .ok (.putfield 20, 3) := by decide +kernel
theorem dX7_init_33 : decode cX7_init 33 = .ok (.aload_n 0, 1) := by decide +kernel
theorem dX7_init_34 : decode cX7_init 34 = .ok (.bipush 43, 2) := by decide +kernel
theorem dX7_init_36 : decode cX7_init 36 = .ok (.newarray .long, 2) := by decide +kernel
theorem dX7_init_38 : decode cX7_init 38 = .ok (.putfield 24, 3) := by decide +kernel
theorem dX7_init_41 : decode cX7_init 41 = .ok (.aload_n 0, 1) := by decide +kernel
theorem dX7_init_42 : decode cX7_init 42 = .ok (.iconst 5, 1) := by decide +kernel
theorem dX7_init_43 : decode cX7_init 43 = .ok (.bipush 40, 2) := by decide +kernel
theorem dX7_init_45 : decode cX7_init 45 = .ok (.multianewarray 9 2, 4) := by decide +kernel
theorem dX7_init_49 : decode cX7_init 49 = .ok (.putfield 27, 3) := by decide +kernel
theorem dX7_init_52 : decode cX7_init 52 = .ok (.aload_n 0, 1) := by decide +kernel
theorem dX7_init_53 : decode cX7_init 53 = .ok (.bipush 13, 2) := by decide +kernel
theorem dX7_init_55 : decode cX7_init 55 = .ok (.bipush 117, 2) := by decide +kernel
theorem dX7_init_57 : decode cX7_init 57 = .ok (.multianewarray 9 2, 4) := by decide +kernel
theorem dX7_init_61 : decode cX7_init 61 = .ok (.putfield 30, 3) := by decide +kernel
theorem dX7_init_64 : decode cX7_init 64 = .ok (.aload_n 0, 1) := by decide +kernel
theorem dX7_init_65 : decode cX7_init 65 = .ok (.sipush 702, 3) := by decide +kernel
theorem dX7_init_68 : decode cX7_init 68 = .ok (.newarray .int, 2) := by decide +kernel
theorem dX7_init_70 : decode cX7_init 70 = .ok (.putfield 33, 3) := by decide +kernel
theorem dX7_init_73 : decode cX7_init 73 = .ok (.aload_n 0, 1) := by decide +kernel
theorem dX7_init_74 : decode cX7_init 74 = .ok (.sipush 5031, 3) := by decide +kernel
theorem dX7_init_77 : decode cX7_init 77 = .ok (.newarray .int, 2) := by decide +kernel
theorem dX7_init_79 : decode cX7_init 79 = .ok (.putfield 36, 3) := by decide +kernel
theorem dX7_init_82 : decode cX7_init 82 = .ok (.aload_n 0, 1) := by decide +kernel
theorem dX7_init_83 : decode cX7_init 83 = .ok (.bipush 13, 2) := by decide +kernel
theorem dX7_init_85 : decode cX7_init 85 = .ok (.sipush 1014, 3) := by decide +kernel
theorem dX7_init_88 : decode cX7_init 88 = .ok (.multianewarray 9 2, 4) := by decide +kernel
theorem dX7_init_92 : decode cX7_init 92 = .ok (.putfield 39, 3) := by decide +kernel
theorem dX7_init_95 : decode cX7_init 95 = .ok (.aload_n 0, 1) := by decide +kernel
theorem dX7_init_96 : decode cX7_init 96 = .ok (.sipush 6084, 3) := by decide +kernel
theorem dX7_init_99 : decode cX7_init 99 = .ok (.newarray .int, 2) := by decide +kernel
theorem dX7_init_101 : decode cX7_init 101 = .ok (.putfield 42, 3) := by decide +kernel
theorem dX7_init_104 : decode cX7_init 104 = .ok (.aload_n 0, 1) := by decide +kernel
theorem dX7_init_105 : decode cX7_init 105 = .ok (.iconst 3, 1) := by decide +kernel
theorem dX7_init_106 : decode cX7_init 106 = .ok (.sipush 6100, 3) := by decide +kernel
theorem dX7_init_109 : decode cX7_init 109 = .ok (.multianewarray 9 2, 4) := by decide +kernel
theorem dX7_init_113 : decode cX7_init 113 = .ok (.putfield 45, 3) := by decide +kernel
theorem dX7_init_116 : decode cX7_init 116 = .ok (.aload_n 0, 1) := by decide +kernel
theorem dX7_init_117 : decode cX7_init 117 = .ok (.iconst 5, 1) := by decide +kernel
theorem dX7_init_118 : decode cX7_init 118 = .ok (.sipush 800, 3) := by decide +kernel
theorem dX7_init_121 : decode cX7_init 121 = .ok (.multianewarray 9 2, 4) := by decide +kernel
theorem dX7_init_125 : decode cX7_init 125 = .ok (.putfield 48, 3) := by decide +kernel
theorem dX7_init_128 : decode cX7_init 128 = .ok (.aload_n 0, 1) := by decide +kernel
theorem dX7_init_129 : decode cX7_init 129 = .ok (.bipush 32, 2) := by decide +kernel
theorem dX7_init_131 : decode cX7_init 131 = .ok (.newarray .int, 2) := by decide +kernel
theorem dX7_init_133 : decode cX7_init 133 = .ok (.putfield 51, 3) := by decide +kernel
theorem dX7_init_136 : decode cX7_init 136 = .ok (.return_, 1) := by decide +kernel
def rpX7_init : List Nat := [0, 1, 4, 5, 7, 9, 13, 16, 17, 20, 22, 25, 26, 28, 30, 33, 34, 36, 38, 41, 42, 43, 45, 49, 52, 53, 55, 57, 61, 64, 65, 68, 70, 73, 74, 77, 79, 82, 83, 85, 88, 92, 95, 96, 99, 101, 104, 105, 106, 109, 113, 116, 117, 118, 121, 125, 128, 129, 131, 133, 136]
def rzX7_init : List (Nat × Nat) := [(0, 0), (0, 0), (0, 0), (0, 0), (0, 0), (0, 0), (11, 440), (11, 440), (11, 440), (11, 440), (12, 956), (12, 956), (12, 956), (12, 956), (13, 999), (13, 999), (13, 999), (13, 999), (14, 1042), (14, 1042), (14, 1042), (14, 1042), (14, 1042), (20, 1247), (20, 1247), (20, 1247), (20, 1247), (20, 1247), (34, 2781), (34, 2781), (34, 2781), (34, 2781), (35, 3483), (35, 3483), (35, 3483), (35, 3483), (36, 8514), (36, 8514), (36, 8514), (36, 8514), (36, 8514), (50, 21709), (50, 21709), (50, 21709), (50, 21709), (51, 27793), (51, 27793), (51, 27793), (51, 27793), (51, 27793), (55, 46096), (55, 46096), (55, 46096), (55, 46096), (55, 46096), (61, 50101), (61, 50101), (61, 50101), (61, 50101), (62, 50133), (62, 50133)]
noncomputable def rcX7_init : List rz_B := [rz_aload 0, rz_obj, rz_aload 0, rz_cst 10, rz_cst 43, rz_mna 10 43, rz_putf (Nat.add (Nat.mul 256 9) 1) 3 rz_unR, rz_aload 0, rz_cst 516, rz_newa 4 516, rz_putf (Nat.add (Nat.mul 256 9) 1) 4 rz_unR, rz_aload 0, rz_cst 43, rz_newa 2 43, rz_putf (Nat.add (Nat.mul 256 9) 1) 5 rz_unR, rz_aload 0, rz_cst 43, rz_newa 2 43, rz_putf (Nat.add (Nat.mul 256 9) 1) 6 rz_unR, rz_aload 0, rz_cst 5, rz_cst 40, rz_mna 5 40, rz_putf (Nat.add (Nat.mul 256 9) 1) 8 rz_unR, rz_aload 0, rz_cst 13, rz_cst 117, rz_mna 13 117, rz_putf (Nat.add (Nat.mul 256 9) 1) 10 rz_unR, rz_aload 0, rz_cst 702, rz_newa 4 702, rz_putf (Nat.add (Nat.mul 256 9) 1) 11 rz_unR, rz_aload 0, rz_cst 5031, rz_newa 4 5031, rz_putf (Nat.add (Nat.mul 256 9) 1) 12 rz_unR, rz_aload 0, rz_cst 13, rz_cst 1014, rz_mna 13 1014, rz_putf (Nat.add (Nat.mul 256 9) 1) 14 rz_unR, rz_aload 0, rz_cst 6084, rz_newa 4 6084, rz_putf (Nat.add (Nat.mul 256 9) 1) 15 rz_unR, rz_aload 0, rz_cst 3, rz_cst 6100, rz_mna 3 6100, rz_putf (Nat.add (Nat.mul 256 9) 1) 17 rz_unR, rz_aload 0, rz_cst 5, rz_cst 800, rz_mna 5 800, rz_putf (Nat.add (Nat.mul 256 9) 1) 19 rz_unR, rz_aload 0, rz_cst 32, rz_newa 4 32, rz_putf (Nat.add (Nat.mul 256 9) 1) 21 rz_unR, rz_vret]
noncomputable def rgX7_init : rz_L → rz_M → rz_Z → Bool := rz_go rcX7_init 1 1000000
def rrX7_init : Room := { frames := 1, cells := 62, slots := 50133, locals := 60 }
theorem rmX7_init (l : Launch) {G : rz_G} (hG : rz_Gd G) (vs : rz_L) (M : rz_M) (Z : rz_Z) (hn : vs.length = 1) (h : rgX7_init vs M Z = true) : Met l yX7_init (Cond.code yX7_init cX7_init 1 none :: rz_TB) rrX7_init (rz_Pre G vs M) (rz_Qv G M.2 Z) 62 50133 (fun q => rz_b G ≤ q) := by
  obtain ⟨D, tc, ad, b, xs, rfl⟩ := id hG
  refine rz_bodyM (pcs := rpX7_init) (cz := rzX7_init) (by decide) rfl rfl (by rw [hn]; decide) h ?_
  intro p e R s m args below meth c hC hmn
  obtain ⟨hx, hb, hml, hr, hlk, ho, hts, hKn, hRm⟩ := id hC
  obtain ⟨hK, hA, hSt⟩ := id hKn
  have hw : ∀ {i j : Nat} {ws : List Cond} {w : Cond}, rz_WW[i]? = some ws → ws[j]? = some w → w.before args s = true := fun h1 h2 => hts _ (List.mem_cons_of_mem _ (rz_mem h1 h2))
  refine rz_All_c (i := 0) (fun k J hk hJ => rz_aload_n_ok (pc := 0) hx hb dX7_init_0 rfl hk) ?_
  refine rz_All_c (i := 1) (fun k J hk hJ => rz_obj_ok (pc := 1) (own := RX7) hx hb hml ho (hw (i := 57) (j := 5) rfl rfl) (hw (i := 55) (j := 1) rfl rfl) (hw (i := 55) (j := 2) rfl rfl) (by rw [hRm]; decide) (by rw [hRm]; decide) dX7_init_1 hk) ?_
  refine rz_All_c (i := 2) (fun k J hk hJ => rz_aload_n_ok (pc := 4) hx hb dX7_init_4 rfl hk) ?_
  refine rz_All_c (i := 3) (fun k J hk hJ => rz_bipush_ok (pc := 5) hx hb dX7_init_5 (by decide) hk) ?_
  refine rz_All_c (i := 4) (fun k J hk hJ => rz_bipush_ok (pc := 7) hx hb dX7_init_7 (by decide) hk) ?_
  refine rz_All_c (i := 5) (fun k J hk hJ => rz_mna_ok (pc := 9) (nz0 := (0, 0)) (own := RX7) (index := 9) (mn := 10) (mk := 43) hx hb hK hA ho (hw (i := 57) (j := 6) rfl rfl) (over_moved (Vm.Alike.refl _) hSt.2.2.2.2.2.1) (hw (i := 57) (j := 7) rfl rfl) (by decide) (by decide) (by rw [hRm]; decide) dX7_init_9 (rz_wid (by decide) hk)) ?_
  refine rz_All_c (i := 6) (fun k J hk hJ => rz_putfF_ok (pc := 13) (own := RX7) (ref := "ThreadJudge$Program") (C := RX7) (T := TX7) (N := 22) (ci := 9) (index := 11) (f := 3) (t := 2) (Ts := Cond.code yX7_init cX7_init 1 none :: rz_TB) hx hb hts rz_in9 tyX7 tyX7_ok nmX7 ho hK hA rfl (by decide) rfl (rz_UnR _ (Or.inr ⟨_, rfl⟩)) rfl (hmn.trans rfl) rfl (tyX7_ok 3 (by decide)) (hw (i := 16) (j := 12) rfl rfl) (fun _ z => z) dX7_init_13 hk) ?_
  refine rz_All_c (i := 7) (fun k J hk hJ => rz_aload_n_ok (pc := 16) hx hb dX7_init_16 rfl hk) ?_
  refine rz_All_c (i := 8) (fun k J hk hJ => rz_sipush_ok (pc := 17) hx hb dX7_init_17 (by decide) hk) ?_
  refine rz_All_c (i := 9) (fun k J hk hJ => rz_newa_int_ok (pc := 20) (nz0 := (11, 440)) (mx := 516) hx hb hK hA (hw (i := 57) (j := 7) rfl rfl) (by decide) (by rw [hRm]; decide) dX7_init_20 (rz_wid (by decide) hk)) ?_
  refine rz_All_c (i := 10) (fun k J hk hJ => rz_putfF_ok (pc := 22) (own := RX7) (ref := "ThreadJudge$Program") (C := RX7) (T := TX7) (N := 22) (ci := 9) (index := 16) (f := 4) (t := 2) (Ts := Cond.code yX7_init cX7_init 1 none :: rz_TB) hx hb hts rz_in9 tyX7 tyX7_ok nmX7 ho hK hA rfl (by decide) rfl (rz_UnR _ (Or.inr ⟨_, rfl⟩)) rfl (hmn.trans rfl) rfl (tyX7_ok 4 (by decide)) (hw (i := 57) (j := 9) rfl rfl) (fun _ z => z) dX7_init_22 hk) ?_
  refine rz_All_c (i := 11) (fun k J hk hJ => rz_aload_n_ok (pc := 25) hx hb dX7_init_25 rfl hk) ?_
  refine rz_All_c (i := 12) (fun k J hk hJ => rz_bipush_ok (pc := 26) hx hb dX7_init_26 (by decide) hk) ?_
  refine rz_All_c (i := 13) (fun k J hk hJ => rz_newa_long_ok (pc := 28) (nz0 := (12, 956)) (mx := 43) hx hb hK hA (hw (i := 57) (j := 10) rfl rfl) (by decide) (by rw [hRm]; decide) dX7_init_28 (rz_wid (by decide) hk)) ?_
  refine rz_All_c (i := 14) (fun k J hk hJ => rz_putfF_ok (pc := 30) (own := RX7) (ref := "ThreadJudge$Program") (C := RX7) (T := TX7) (N := 22) (ci := 9) (index := 20) (f := 5) (t := 2) (Ts := Cond.code yX7_init cX7_init 1 none :: rz_TB) hx hb hts rz_in9 tyX7 tyX7_ok nmX7 ho hK hA rfl (by decide) rfl (rz_UnR _ (Or.inr ⟨_, rfl⟩)) rfl (hmn.trans rfl) rfl (tyX7_ok 5 (by decide)) (hw (i := 19) (j := 20) rfl rfl) (fun _ z => z) dX7_init_30 hk) ?_
  refine rz_All_c (i := 15) (fun k J hk hJ => rz_aload_n_ok (pc := 33) hx hb dX7_init_33 rfl hk) ?_
  refine rz_All_c (i := 16) (fun k J hk hJ => rz_bipush_ok (pc := 34) hx hb dX7_init_34 (by decide) hk) ?_
  refine rz_All_c (i := 17) (fun k J hk hJ => rz_newa_long_ok (pc := 36) (nz0 := (13, 999)) (mx := 43) hx hb hK hA (hw (i := 57) (j := 10) rfl rfl) (by decide) (by rw [hRm]; decide) dX7_init_36 (rz_wid (by decide) hk)) ?_
  refine rz_All_c (i := 18) (fun k J hk hJ => rz_putfF_ok (pc := 38) (own := RX7) (ref := "ThreadJudge$Program") (C := RX7) (T := TX7) (N := 22) (ci := 9) (index := 24) (f := 6) (t := 2) (Ts := Cond.code yX7_init cX7_init 1 none :: rz_TB) hx hb hts rz_in9 tyX7 tyX7_ok nmX7 ho hK hA rfl (by decide) rfl (rz_UnR _ (Or.inr ⟨_, rfl⟩)) rfl (hmn.trans rfl) rfl (tyX7_ok 6 (by decide)) (hw (i := 57) (j := 12) rfl rfl) (fun _ z => z) dX7_init_38 hk) ?_
  refine rz_All_c (i := 19) (fun k J hk hJ => rz_aload_n_ok (pc := 41) hx hb dX7_init_41 rfl hk) ?_
  refine rz_All_c (i := 20) (fun k J hk hJ => rz_iconst_ok (pc := 42) hx hb dX7_init_42 rfl hk) ?_
  refine rz_All_c (i := 21) (fun k J hk hJ => rz_bipush_ok (pc := 43) hx hb dX7_init_43 (by decide) hk) ?_
  refine rz_All_c (i := 22) (fun k J hk hJ => rz_mna_ok (pc := 45) (nz0 := (14, 1042)) (own := RX7) (index := 9) (mn := 5) (mk := 40) hx hb hK hA ho (hw (i := 57) (j := 6) rfl rfl) (over_moved (Vm.Alike.refl _) hSt.2.2.2.2.2.1) (hw (i := 57) (j := 7) rfl rfl) (by decide) (by decide) (by rw [hRm]; decide) dX7_init_45 (rz_wid (by decide) hk)) ?_
  refine rz_All_c (i := 23) (fun k J hk hJ => rz_putfF_ok (pc := 49) (own := RX7) (ref := "ThreadJudge$Program") (C := RX7) (T := TX7) (N := 22) (ci := 9) (index := 27) (f := 8) (t := 2) (Ts := Cond.code yX7_init cX7_init 1 none :: rz_TB) hx hb hts rz_in9 tyX7 tyX7_ok nmX7 ho hK hA rfl (by decide) rfl (rz_UnR _ (Or.inr ⟨_, rfl⟩)) rfl (hmn.trans rfl) rfl (tyX7_ok 8 (by decide)) (hw (i := 57) (j := 13) rfl rfl) (fun _ z => z) dX7_init_49 hk) ?_
  refine rz_All_c (i := 24) (fun k J hk hJ => rz_aload_n_ok (pc := 52) hx hb dX7_init_52 rfl hk) ?_
  refine rz_All_c (i := 25) (fun k J hk hJ => rz_bipush_ok (pc := 53) hx hb dX7_init_53 (by decide) hk) ?_
  refine rz_All_c (i := 26) (fun k J hk hJ => rz_bipush_ok (pc := 55) hx hb dX7_init_55 (by decide) hk) ?_
  refine rz_All_c (i := 27) (fun k J hk hJ => rz_mna_ok (pc := 57) (nz0 := (20, 1247)) (own := RX7) (index := 9) (mn := 13) (mk := 117) hx hb hK hA ho (hw (i := 57) (j := 6) rfl rfl) (over_moved (Vm.Alike.refl _) hSt.2.2.2.2.2.1) (hw (i := 57) (j := 7) rfl rfl) (by decide) (by decide) (by rw [hRm]; decide) dX7_init_57 (rz_wid (by decide) hk)) ?_
  refine rz_All_c (i := 28) (fun k J hk hJ => rz_putfF_ok (pc := 61) (own := RX7) (ref := "ThreadJudge$Program") (C := RX7) (T := TX7) (N := 22) (ci := 9) (index := 30) (f := 10) (t := 2) (Ts := Cond.code yX7_init cX7_init 1 none :: rz_TB) hx hb hts rz_in9 tyX7 tyX7_ok nmX7 ho hK hA rfl (by decide) rfl (rz_UnR _ (Or.inr ⟨_, rfl⟩)) rfl (hmn.trans rfl) rfl (tyX7_ok 10 (by decide)) (hw (i := 19) (j := 3) rfl rfl) (fun _ z => z) dX7_init_61 hk) ?_
  refine rz_All_c (i := 29) (fun k J hk hJ => rz_aload_n_ok (pc := 64) hx hb dX7_init_64 rfl hk) ?_
  refine rz_All_c (i := 30) (fun k J hk hJ => rz_sipush_ok (pc := 65) hx hb dX7_init_65 (by decide) hk) ?_
  refine rz_All_c (i := 31) (fun k J hk hJ => rz_newa_int_ok (pc := 68) (nz0 := (34, 2781)) (mx := 702) hx hb hK hA (hw (i := 57) (j := 7) rfl rfl) (by decide) (by rw [hRm]; decide) dX7_init_68 (rz_wid (by decide) hk)) ?_
  refine rz_All_c (i := 32) (fun k J hk hJ => rz_putfF_ok (pc := 70) (own := RX7) (ref := "ThreadJudge$Program") (C := RX7) (T := TX7) (N := 22) (ci := 9) (index := 33) (f := 11) (t := 2) (Ts := Cond.code yX7_init cX7_init 1 none :: rz_TB) hx hb hts rz_in9 tyX7 tyX7_ok nmX7 ho hK hA rfl (by decide) rfl (rz_UnR _ (Or.inr ⟨_, rfl⟩)) rfl (hmn.trans rfl) rfl (tyX7_ok 11 (by decide)) (hw (i := 57) (j := 15) rfl rfl) (fun _ z => z) dX7_init_70 hk) ?_
  refine rz_All_c (i := 33) (fun k J hk hJ => rz_aload_n_ok (pc := 73) hx hb dX7_init_73 rfl hk) ?_
  refine rz_All_c (i := 34) (fun k J hk hJ => rz_sipush_ok (pc := 74) hx hb dX7_init_74 (by decide) hk) ?_
  refine rz_All_c (i := 35) (fun k J hk hJ => rz_newa_int_ok (pc := 77) (nz0 := (35, 3483)) (mx := 5031) hx hb hK hA (hw (i := 57) (j := 7) rfl rfl) (by decide) (by rw [hRm]; decide) dX7_init_77 (rz_wid (by decide) hk)) ?_
  refine rz_All_c (i := 36) (fun k J hk hJ => rz_putfF_ok (pc := 79) (own := RX7) (ref := "ThreadJudge$Program") (C := RX7) (T := TX7) (N := 22) (ci := 9) (index := 36) (f := 12) (t := 2) (Ts := Cond.code yX7_init cX7_init 1 none :: rz_TB) hx hb hts rz_in9 tyX7 tyX7_ok nmX7 ho hK hA rfl (by decide) rfl (rz_UnR _ (Or.inr ⟨_, rfl⟩)) rfl (hmn.trans rfl) rfl (tyX7_ok 12 (by decide)) (hw (i := 24) (j := 3) rfl rfl) (fun _ z => z) dX7_init_79 hk) ?_
  refine rz_All_c (i := 37) (fun k J hk hJ => rz_aload_n_ok (pc := 82) hx hb dX7_init_82 rfl hk) ?_
  refine rz_All_c (i := 38) (fun k J hk hJ => rz_bipush_ok (pc := 83) hx hb dX7_init_83 (by decide) hk) ?_
  refine rz_All_c (i := 39) (fun k J hk hJ => rz_sipush_ok (pc := 85) hx hb dX7_init_85 (by decide) hk) ?_
  refine rz_All_c (i := 40) (fun k J hk hJ => rz_mna_ok (pc := 88) (nz0 := (36, 8514)) (own := RX7) (index := 9) (mn := 13) (mk := 1014) hx hb hK hA ho (hw (i := 57) (j := 6) rfl rfl) (over_moved (Vm.Alike.refl _) hSt.2.2.2.2.2.1) (hw (i := 57) (j := 7) rfl rfl) (by decide) (by decide) (by rw [hRm]; decide) dX7_init_88 (rz_wid (by decide) hk)) ?_
  refine rz_All_c (i := 41) (fun k J hk hJ => rz_putfF_ok (pc := 92) (own := RX7) (ref := "ThreadJudge$Program") (C := RX7) (T := TX7) (N := 22) (ci := 9) (index := 39) (f := 14) (t := 2) (Ts := Cond.code yX7_init cX7_init 1 none :: rz_TB) hx hb hts rz_in9 tyX7 tyX7_ok nmX7 ho hK hA rfl (by decide) rfl (rz_UnR _ (Or.inr ⟨_, rfl⟩)) rfl (hmn.trans rfl) rfl (tyX7_ok 14 (by decide)) (hw (i := 25) (j := 16) rfl rfl) (fun _ z => z) dX7_init_92 hk) ?_
  refine rz_All_c (i := 42) (fun k J hk hJ => rz_aload_n_ok (pc := 95) hx hb dX7_init_95 rfl hk) ?_
  refine rz_All_c (i := 43) (fun k J hk hJ => rz_sipush_ok (pc := 96) hx hb dX7_init_96 (by decide) hk) ?_
  refine rz_All_c (i := 44) (fun k J hk hJ => rz_newa_int_ok (pc := 99) (nz0 := (50, 21709)) (mx := 6084) hx hb hK hA (hw (i := 57) (j := 7) rfl rfl) (by decide) (by rw [hRm]; decide) dX7_init_99 (rz_wid (by decide) hk)) ?_
  refine rz_All_c (i := 45) (fun k J hk hJ => rz_putfF_ok (pc := 101) (own := RX7) (ref := "ThreadJudge$Program") (C := RX7) (T := TX7) (N := 22) (ci := 9) (index := 42) (f := 15) (t := 2) (Ts := Cond.code yX7_init cX7_init 1 none :: rz_TB) hx hb hts rz_in9 tyX7 tyX7_ok nmX7 ho hK hA rfl (by decide) rfl (rz_UnR _ (Or.inr ⟨_, rfl⟩)) rfl (hmn.trans rfl) rfl (tyX7_ok 15 (by decide)) (hw (i := 57) (j := 18) rfl rfl) (fun _ z => z) dX7_init_101 hk) ?_
  refine rz_All_c (i := 46) (fun k J hk hJ => rz_aload_n_ok (pc := 104) hx hb dX7_init_104 rfl hk) ?_
  refine rz_All_c (i := 47) (fun k J hk hJ => rz_iconst_ok (pc := 105) hx hb dX7_init_105 rfl hk) ?_
  refine rz_All_c (i := 48) (fun k J hk hJ => rz_sipush_ok (pc := 106) hx hb dX7_init_106 (by decide) hk) ?_
  refine rz_All_c (i := 49) (fun k J hk hJ => rz_mna_ok (pc := 109) (nz0 := (51, 27793)) (own := RX7) (index := 9) (mn := 3) (mk := 6100) hx hb hK hA ho (hw (i := 57) (j := 6) rfl rfl) (over_moved (Vm.Alike.refl _) hSt.2.2.2.2.2.1) (hw (i := 57) (j := 7) rfl rfl) (by decide) (by decide) (by rw [hRm]; decide) dX7_init_109 (rz_wid (by decide) hk)) ?_
  refine rz_All_c (i := 50) (fun k J hk hJ => rz_putfF_ok (pc := 113) (own := RX7) (ref := "ThreadJudge$Program") (C := RX7) (T := TX7) (N := 22) (ci := 9) (index := 45) (f := 17) (t := 2) (Ts := Cond.code yX7_init cX7_init 1 none :: rz_TB) hx hb hts rz_in9 tyX7 tyX7_ok nmX7 ho hK hA rfl (by decide) rfl (rz_UnR _ (Or.inr ⟨_, rfl⟩)) rfl (hmn.trans rfl) rfl (tyX7_ok 17 (by decide)) (hw (i := 57) (j := 19) rfl rfl) (fun _ z => z) dX7_init_113 hk) ?_
  refine rz_All_c (i := 51) (fun k J hk hJ => rz_aload_n_ok (pc := 116) hx hb dX7_init_116 rfl hk) ?_
  refine rz_All_c (i := 52) (fun k J hk hJ => rz_iconst_ok (pc := 117) hx hb dX7_init_117 rfl hk) ?_
  refine rz_All_c (i := 53) (fun k J hk hJ => rz_sipush_ok (pc := 118) hx hb dX7_init_118 (by decide) hk) ?_
  refine rz_All_c (i := 54) (fun k J hk hJ => rz_mna_ok (pc := 121) (nz0 := (55, 46096)) (own := RX7) (index := 9) (mn := 5) (mk := 800) hx hb hK hA ho (hw (i := 57) (j := 6) rfl rfl) (over_moved (Vm.Alike.refl _) hSt.2.2.2.2.2.1) (hw (i := 57) (j := 7) rfl rfl) (by decide) (by decide) (by rw [hRm]; decide) dX7_init_121 (rz_wid (by decide) hk)) ?_
  refine rz_All_c (i := 55) (fun k J hk hJ => rz_putfF_ok (pc := 125) (own := RX7) (ref := "ThreadJudge$Program") (C := RX7) (T := TX7) (N := 22) (ci := 9) (index := 48) (f := 19) (t := 2) (Ts := Cond.code yX7_init cX7_init 1 none :: rz_TB) hx hb hts rz_in9 tyX7 tyX7_ok nmX7 ho hK hA rfl (by decide) rfl (rz_UnR _ (Or.inr ⟨_, rfl⟩)) rfl (hmn.trans rfl) rfl (tyX7_ok 19 (by decide)) (hw (i := 26) (j := 20) rfl rfl) (fun _ z => z) dX7_init_125 hk) ?_
  refine rz_All_c (i := 56) (fun k J hk hJ => rz_aload_n_ok (pc := 128) hx hb dX7_init_128 rfl hk) ?_
  refine rz_All_c (i := 57) (fun k J hk hJ => rz_bipush_ok (pc := 129) hx hb dX7_init_129 (by decide) hk) ?_
  refine rz_All_c (i := 58) (fun k J hk hJ => rz_newa_int_ok (pc := 131) (nz0 := (61, 50101)) (mx := 32) hx hb hK hA (hw (i := 57) (j := 7) rfl rfl) (by decide) (by rw [hRm]; decide) dX7_init_131 (rz_wid (by decide) hk)) ?_
  refine rz_All_c (i := 59) (fun k J hk hJ => rz_putfF_ok (pc := 133) (own := RX7) (ref := "ThreadJudge$Program") (C := RX7) (T := TX7) (N := 22) (ci := 9) (index := 51) (f := 21) (t := 2) (Ts := Cond.code yX7_init cX7_init 1 none :: rz_TB) hx hb hts rz_in9 tyX7 tyX7_ok nmX7 ho hK hA rfl (by decide) rfl (rz_UnR _ (Or.inr ⟨_, rfl⟩)) rfl (hmn.trans rfl) rfl (tyX7_ok 21 (by decide)) (hw (i := 57) (j := 21) rfl rfl) (fun _ z => z) dX7_init_133 hk) ?_
  refine rz_All_c (i := 60) (fun k J hk hJ => rz_vret_ok (pc := 136) (nz0 := (62, 50133)) hC dX7_init_136 (by decide)) ?_
  exact trivial
theorem dX8_init_0 : decode cX8_init 0 = .ok (.aload_n 0, 1) := by decide +kernel
theorem dX8_init_1 : decode cX8_init 1 = .ok (.invokespecial 3, 3) := by decide +kernel
theorem dX8_init_4 : decode cX8_init 4 = .ok (.aload_n 0, 1) := by decide +kernel
theorem dX8_init_5 : decode cX8_init 5 = .ok (.sipush 200, 3) := by decide +kernel
theorem dX8_init_8 : decode cX8_init 8 = .ok (.newarray .char, 2) := by decide +kernel
theorem dX8_init_10 : decode cX8_init 10 = .ok (.putfield 9, 3) := by decide +kernel
theorem dX8_init_13 : decode cX8_init 13 = .ok (.aload_n 0, 1) := by decide +kernel
theorem dX8_init_14 : decode cX8_init 14 = .ok (.iconst 2, 1) := by decide +kernel
theorem dX8_init_15 : decode cX8_init 15 = .ok (.newarray .long, 2) := by decide +kernel
theorem dX8_init_17 : decode cX8_init 17 = .ok (.putfield 15, 3) := by decide +kernel
theorem dX8_init_20 : decode cX8_init 20 = .ok (.aload_n 0, 1) := by decide +kernel
theorem dX8_init_21 : decode cX8_init 21 = .ok (.bipush 42, 2) := by decide +kernel
theorem dX8_init_23 : decode cX8_init 23 = .ok (.newarray .long, 2) := by decide +kernel
theorem dX8_init_25 : decode cX8_init 25 = .ok (.putfield 19, 3) := by decide +kernel
theorem dX8_init_28 : decode cX8_init 28 = .ok (.aload_n 0, 1) := by decide +kernel
theorem dX8_init_29 : decode cX8_init 29 = .ok (.bipush 42, 2) := by decide +kernel
theorem dX8_init_31 : decode cX8_init 31 = .ok (.newarray .long, 2) := by decide +kernel
theorem dX8_init_33 : decode cX8_init 33 = .ok (.putfield 22, 3) := by decide +kernel
theorem dX8_init_36 : decode cX8_init 36 = .ok (.aload_n 0, 1) := by decide +kernel
theorem dX8_init_37 : decode cX8_init 37 = .ok (.bipush 21, 2) := by decide +kernel
theorem dX8_init_39 : decode cX8_init 39 = .ok (.newarray .int, 2) := by decide +kernel
theorem dX8_init_41 : decode cX8_init 41 = .ok (.putfield 25, 3) := by decide +kernel
theorem dX8_init_44 : decode cX8_init 44 = .ok (.aload_n 0, 1) := by decide +kernel
theorem dX8_init_45 : decode cX8_init 45 = .ok (.bipush 21, 2) := by decide +kernel
theorem dX8_init_47 : decode cX8_init 47 = .ok (.newarray .int, 2) := by decide +kernel
theorem dX8_init_49 : decode cX8_init 49 = .ok (.putfield 29, 3) := by decide +kernel
theorem dX8_init_52 : decode cX8_init 52 = .ok (.aload_n 0, 1) := by decide +kernel
theorem dX8_init_53 : decode cX8_init 53 = .ok (.bipush 21, 2) := by decide +kernel
theorem dX8_init_55 : decode cX8_init 55 = .ok (.newarray .int, 2) := by decide +kernel
theorem dX8_init_57 : decode cX8_init 57 = .ok (.putfield 32, 3) := by decide +kernel
theorem dX8_init_60 : decode cX8_init 60 = .ok (.aload_n 0, 1) := by decide +kernel
theorem dX8_init_61 : decode cX8_init 61 = .ok (.iconst 2, 1) := by decide +kernel
theorem dX8_init_62 : decode cX8_init 62 = .ok (.newarray .long, 2) := by decide +kernel
theorem dX8_init_64 : decode cX8_init 64 = .ok (.putfield 35, 3) := by decide +kernel
theorem dX8_init_67 : decode cX8_init 67 = .ok (.aload_n 0, 1) := by decide +kernel
theorem dX8_init_68 : decode cX8_init 68 = .ok (.aload_n 1, 1) := by decide +kernel
theorem dX8_init_69 : decode cX8_init 69 = .ok (.putfield 38, 3) := by decide +kernel
theorem dX8_init_72 : decode cX8_init 72 = .ok (.aload_n 0, 1) := by decide +kernel
theorem dX8_init_73 : decode cX8_init 73 = .ok (.aload_n 2, 1) := by decide +kernel
theorem dX8_init_74 : decode cX8_init 74 = .ok (.putfield 42, 3) := by decide +kernel
theorem dX8_init_77 : decode cX8_init 77 = .ok (.aload_n 0, 1) := by decide +kernel
theorem dX8_init_78 : decode cX8_init 78 = .ok (.aload_n 3, 1) := by decide +kernel
theorem dX8_init_79 : decode cX8_init 79 = .ok (.putfield 46, 3) := by decide +kernel
theorem dX8_init_82 : decode cX8_init 82 = .ok (.aload_n 0, 1) := by decide +kernel
theorem dX8_init_83 : decode cX8_init 83 = .ok (.aload 4, 2) := by decide +kernel
theorem dX8_init_85 : decode cX8_init 85 = .ok (.putfield 50, 3) := by decide +kernel
theorem dX8_init_88 : decode cX8_init 88 = .ok (.return_, 1) := by decide +kernel
def rpX8_init : List Nat := [0, 1, 4, 5, 8, 10, 13, 14, 15, 17, 20, 21, 23, 25, 28, 29, 31, 33, 36, 37, 39, 41, 44, 45, 47, 49, 52, 53, 55, 57, 60, 61, 62, 64, 67, 68, 69, 72, 73, 74, 77, 78, 79, 82, 83, 85, 88]
def rzX8_init : List (Nat × Nat) := [(0, 0), (0, 0), (0, 0), (0, 0), (0, 0), (1, 200), (1, 200), (1, 200), (1, 200), (2, 202), (2, 202), (2, 202), (2, 202), (3, 244), (3, 244), (3, 244), (3, 244), (4, 286), (4, 286), (4, 286), (4, 286), (5, 307), (5, 307), (5, 307), (5, 307), (6, 328), (6, 328), (6, 328), (6, 328), (7, 349), (7, 349), (7, 349), (7, 349), (8, 351), (8, 351), (8, 351), (8, 351), (8, 351), (8, 351), (8, 351), (8, 351), (8, 351), (8, 351), (8, 351), (8, 351), (8, 351), (8, 351)]
noncomputable def rcX8_init : List rz_B := [rz_aload 0, rz_obj, rz_aload 0, rz_cst 200, rz_newa 5 200, rz_putf (Nat.add (Nat.mul 256 10) 1) 4 rz_unR, rz_aload 0, rz_cst 2, rz_newa 2 2, rz_putf (Nat.add (Nat.mul 256 10) 1) 6 rz_unR, rz_aload 0, rz_cst 42, rz_newa 2 42, rz_putf (Nat.add (Nat.mul 256 10) 1) 8 rz_unR, rz_aload 0, rz_cst 42, rz_newa 2 42, rz_putf (Nat.add (Nat.mul 256 10) 1) 9 rz_unR, rz_aload 0, rz_cst 21, rz_newa 4 21, rz_putf (Nat.add (Nat.mul 256 10) 1) 10 rz_unR, rz_aload 0, rz_cst 21, rz_newa 4 21, rz_putf (Nat.add (Nat.mul 256 10) 1) 11 rz_unR, rz_aload 0, rz_cst 21, rz_newa 4 21, rz_putf (Nat.add (Nat.mul 256 10) 1) 12 rz_unR, rz_aload 0, rz_cst 2, rz_newa 2 2, rz_putf (Nat.add (Nat.mul 256 10) 1) 13 rz_unR, rz_aload 0, rz_aload 1, rz_putf (Nat.add (Nat.mul 256 10) 1) 0 rz_unR, rz_aload 0, rz_aload 2, rz_putf (Nat.add (Nat.mul 256 10) 1) 1 rz_unR, rz_aload 0, rz_aload 3, rz_putf (Nat.add (Nat.mul 256 10) 1) 2 rz_unR, rz_aload 0, rz_aload 4, rz_putf (Nat.add (Nat.mul 256 10) 1) 3 rz_unR, rz_vret]
noncomputable def rgX8_init : rz_L → rz_M → rz_Z → Bool := rz_go rcX8_init 5 1000000
def rrX8_init : Room := { frames := 1, cells := 8, slots := 351, locals := 60 }
theorem rmX8_init (l : Launch) {G : rz_G} (hG : rz_Gd G) (vs : rz_L) (M : rz_M) (Z : rz_Z) (hn : vs.length = 5) (h : rgX8_init vs M Z = true) : Met l yX8_init (Cond.code yX8_init cX8_init 5 none :: rz_TB) rrX8_init (rz_Pre G vs M) (rz_Qv G M.2 Z) 8 351 (fun q => rz_b G ≤ q) := by
  obtain ⟨D, tc, ad, b, xs, rfl⟩ := id hG
  refine rz_bodyM (pcs := rpX8_init) (cz := rzX8_init) (by decide) rfl rfl (by rw [hn]; decide) h ?_
  intro p e R s m args below meth c hC hmn
  obtain ⟨hx, hb, hml, hr, hlk, ho, hts, hKn, hRm⟩ := id hC
  obtain ⟨hK, hA, hSt⟩ := id hKn
  have hw : ∀ {i j : Nat} {ws : List Cond} {w : Cond}, rz_WW[i]? = some ws → ws[j]? = some w → w.before args s = true := fun h1 h2 => hts _ (List.mem_cons_of_mem _ (rz_mem h1 h2))
  refine rz_All_c (i := 0) (fun k J hk hJ => rz_aload_n_ok (pc := 0) hx hb dX8_init_0 rfl hk) ?_
  refine rz_All_c (i := 1) (fun k J hk hJ => rz_obj_ok (pc := 1) (own := RX8) hx hb hml ho (hw (i := 72) (j := 17) rfl rfl) (hw (i := 55) (j := 1) rfl rfl) (hw (i := 55) (j := 2) rfl rfl) (by rw [hRm]; decide) (by rw [hRm]; decide) dX8_init_1 hk) ?_
  refine rz_All_c (i := 2) (fun k J hk hJ => rz_aload_n_ok (pc := 4) hx hb dX8_init_4 rfl hk) ?_
  refine rz_All_c (i := 3) (fun k J hk hJ => rz_sipush_ok (pc := 5) hx hb dX8_init_5 (by decide) hk) ?_
  refine rz_All_c (i := 4) (fun k J hk hJ => rz_newa_char_ok (pc := 8) (nz0 := (0, 0)) (mx := 200) hx hb hK hA (hw (i := 55) (j := 3) rfl rfl) (by decide) (by rw [hRm]; decide) dX8_init_8 (rz_wid (by decide) hk)) ?_
  refine rz_All_c (i := 5) (fun k J hk hJ => rz_putfF_ok (pc := 10) (own := RX8) (ref := "ThreadJudge$Question") (C := RX8) (T := TX8) (N := 18) (ci := 10) (index := 9) (f := 4) (t := 2) (Ts := Cond.code yX8_init cX8_init 5 none :: rz_TB) hx hb hts rz_in10 tyX8 tyX8_ok nmX8 ho hK hA rfl (by decide) rfl (rz_UnR _ (Or.inr ⟨_, rfl⟩)) rfl (hmn.trans rfl) rfl (tyX8_ok 4 (by decide)) (hw (i := 72) (j := 18) rfl rfl) (fun _ z => z) dX8_init_10 hk) ?_
  refine rz_All_c (i := 6) (fun k J hk hJ => rz_aload_n_ok (pc := 13) hx hb dX8_init_13 rfl hk) ?_
  refine rz_All_c (i := 7) (fun k J hk hJ => rz_iconst_ok (pc := 14) hx hb dX8_init_14 rfl hk) ?_
  refine rz_All_c (i := 8) (fun k J hk hJ => rz_newa_long_ok (pc := 15) (nz0 := (1, 200)) (mx := 2) hx hb hK hA (hw (i := 57) (j := 10) rfl rfl) (by decide) (by rw [hRm]; decide) dX8_init_15 (rz_wid (by decide) hk)) ?_
  refine rz_All_c (i := 9) (fun k J hk hJ => rz_putfF_ok (pc := 17) (own := RX8) (ref := "ThreadJudge$Question") (C := RX8) (T := TX8) (N := 18) (ci := 10) (index := 15) (f := 6) (t := 2) (Ts := Cond.code yX8_init cX8_init 5 none :: rz_TB) hx hb hts rz_in10 tyX8 tyX8_ok nmX8 ho hK hA rfl (by decide) rfl (rz_UnR _ (Or.inr ⟨_, rfl⟩)) rfl (hmn.trans rfl) rfl (tyX8_ok 6 (by decide)) (hw (i := 1) (j := 17) rfl rfl) (fun _ z => z) dX8_init_17 hk) ?_
  refine rz_All_c (i := 10) (fun k J hk hJ => rz_aload_n_ok (pc := 20) hx hb dX8_init_20 rfl hk) ?_
  refine rz_All_c (i := 11) (fun k J hk hJ => rz_bipush_ok (pc := 21) hx hb dX8_init_21 (by decide) hk) ?_
  refine rz_All_c (i := 12) (fun k J hk hJ => rz_newa_long_ok (pc := 23) (nz0 := (2, 202)) (mx := 42) hx hb hK hA (hw (i := 57) (j := 10) rfl rfl) (by decide) (by rw [hRm]; decide) dX8_init_23 (rz_wid (by decide) hk)) ?_
  refine rz_All_c (i := 13) (fun k J hk hJ => rz_putfF_ok (pc := 25) (own := RX8) (ref := "ThreadJudge$Question") (C := RX8) (T := TX8) (N := 18) (ci := 10) (index := 19) (f := 8) (t := 2) (Ts := Cond.code yX8_init cX8_init 5 none :: rz_TB) hx hb hts rz_in10 tyX8 tyX8_ok nmX8 ho hK hA rfl (by decide) rfl (rz_UnR _ (Or.inr ⟨_, rfl⟩)) rfl (hmn.trans rfl) rfl (tyX8_ok 8 (by decide)) (hw (i := 72) (j := 20) rfl rfl) (fun _ z => z) dX8_init_25 hk) ?_
  refine rz_All_c (i := 14) (fun k J hk hJ => rz_aload_n_ok (pc := 28) hx hb dX8_init_28 rfl hk) ?_
  refine rz_All_c (i := 15) (fun k J hk hJ => rz_bipush_ok (pc := 29) hx hb dX8_init_29 (by decide) hk) ?_
  refine rz_All_c (i := 16) (fun k J hk hJ => rz_newa_long_ok (pc := 31) (nz0 := (3, 244)) (mx := 42) hx hb hK hA (hw (i := 57) (j := 10) rfl rfl) (by decide) (by rw [hRm]; decide) dX8_init_31 (rz_wid (by decide) hk)) ?_
  refine rz_All_c (i := 17) (fun k J hk hJ => rz_putfF_ok (pc := 33) (own := RX8) (ref := "ThreadJudge$Question") (C := RX8) (T := TX8) (N := 18) (ci := 10) (index := 22) (f := 9) (t := 2) (Ts := Cond.code yX8_init cX8_init 5 none :: rz_TB) hx hb hts rz_in10 tyX8 tyX8_ok nmX8 ho hK hA rfl (by decide) rfl (rz_UnR _ (Or.inr ⟨_, rfl⟩)) rfl (hmn.trans rfl) rfl (tyX8_ok 9 (by decide)) (hw (i := 72) (j := 21) rfl rfl) (fun _ z => z) dX8_init_33 hk) ?_
  refine rz_All_c (i := 18) (fun k J hk hJ => rz_aload_n_ok (pc := 36) hx hb dX8_init_36 rfl hk) ?_
  refine rz_All_c (i := 19) (fun k J hk hJ => rz_bipush_ok (pc := 37) hx hb dX8_init_37 (by decide) hk) ?_
  refine rz_All_c (i := 20) (fun k J hk hJ => rz_newa_int_ok (pc := 39) (nz0 := (4, 286)) (mx := 21) hx hb hK hA (hw (i := 57) (j := 7) rfl rfl) (by decide) (by rw [hRm]; decide) dX8_init_39 (rz_wid (by decide) hk)) ?_
  refine rz_All_c (i := 21) (fun k J hk hJ => rz_putfF_ok (pc := 41) (own := RX8) (ref := "ThreadJudge$Question") (C := RX8) (T := TX8) (N := 18) (ci := 10) (index := 25) (f := 10) (t := 2) (Ts := Cond.code yX8_init cX8_init 5 none :: rz_TB) hx hb hts rz_in10 tyX8 tyX8_ok nmX8 ho hK hA rfl (by decide) rfl (rz_UnR _ (Or.inr ⟨_, rfl⟩)) rfl (hmn.trans rfl) rfl (tyX8_ok 10 (by decide)) (hw (i := 72) (j := 22) rfl rfl) (fun _ z => z) dX8_init_41 hk) ?_
  refine rz_All_c (i := 22) (fun k J hk hJ => rz_aload_n_ok (pc := 44) hx hb dX8_init_44 rfl hk) ?_
  refine rz_All_c (i := 23) (fun k J hk hJ => rz_bipush_ok (pc := 45) hx hb dX8_init_45 (by decide) hk) ?_
  refine rz_All_c (i := 24) (fun k J hk hJ => rz_newa_int_ok (pc := 47) (nz0 := (5, 307)) (mx := 21) hx hb hK hA (hw (i := 57) (j := 7) rfl rfl) (by decide) (by rw [hRm]; decide) dX8_init_47 (rz_wid (by decide) hk)) ?_
  refine rz_All_c (i := 25) (fun k J hk hJ => rz_putfF_ok (pc := 49) (own := RX8) (ref := "ThreadJudge$Question") (C := RX8) (T := TX8) (N := 18) (ci := 10) (index := 29) (f := 11) (t := 2) (Ts := Cond.code yX8_init cX8_init 5 none :: rz_TB) hx hb hts rz_in10 tyX8 tyX8_ok nmX8 ho hK hA rfl (by decide) rfl (rz_UnR _ (Or.inr ⟨_, rfl⟩)) rfl (hmn.trans rfl) rfl (tyX8_ok 11 (by decide)) (hw (i := 72) (j := 23) rfl rfl) (fun _ z => z) dX8_init_49 hk) ?_
  refine rz_All_c (i := 26) (fun k J hk hJ => rz_aload_n_ok (pc := 52) hx hb dX8_init_52 rfl hk) ?_
  refine rz_All_c (i := 27) (fun k J hk hJ => rz_bipush_ok (pc := 53) hx hb dX8_init_53 (by decide) hk) ?_
  refine rz_All_c (i := 28) (fun k J hk hJ => rz_newa_int_ok (pc := 55) (nz0 := (6, 328)) (mx := 21) hx hb hK hA (hw (i := 57) (j := 7) rfl rfl) (by decide) (by rw [hRm]; decide) dX8_init_55 (rz_wid (by decide) hk)) ?_
  refine rz_All_c (i := 29) (fun k J hk hJ => rz_putfF_ok (pc := 57) (own := RX8) (ref := "ThreadJudge$Question") (C := RX8) (T := TX8) (N := 18) (ci := 10) (index := 32) (f := 12) (t := 2) (Ts := Cond.code yX8_init cX8_init 5 none :: rz_TB) hx hb hts rz_in10 tyX8 tyX8_ok nmX8 ho hK hA rfl (by decide) rfl (rz_UnR _ (Or.inr ⟨_, rfl⟩)) rfl (hmn.trans rfl) rfl (tyX8_ok 12 (by decide)) (hw (i := 73) (j := 0) rfl rfl) (fun _ z => z) dX8_init_57 hk) ?_
  refine rz_All_c (i := 30) (fun k J hk hJ => rz_aload_n_ok (pc := 60) hx hb dX8_init_60 rfl hk) ?_
  refine rz_All_c (i := 31) (fun k J hk hJ => rz_iconst_ok (pc := 61) hx hb dX8_init_61 rfl hk) ?_
  refine rz_All_c (i := 32) (fun k J hk hJ => rz_newa_long_ok (pc := 62) (nz0 := (7, 349)) (mx := 2) hx hb hK hA (hw (i := 57) (j := 10) rfl rfl) (by decide) (by rw [hRm]; decide) dX8_init_62 (rz_wid (by decide) hk)) ?_
  refine rz_All_c (i := 33) (fun k J hk hJ => rz_putfF_ok (pc := 64) (own := RX8) (ref := "ThreadJudge$Question") (C := RX8) (T := TX8) (N := 18) (ci := 10) (index := 35) (f := 13) (t := 2) (Ts := Cond.code yX8_init cX8_init 5 none :: rz_TB) hx hb hts rz_in10 tyX8 tyX8_ok nmX8 ho hK hA rfl (by decide) rfl (rz_UnR _ (Or.inr ⟨_, rfl⟩)) rfl (hmn.trans rfl) rfl (tyX8_ok 13 (by decide)) (hw (i := 73) (j := 1) rfl rfl) (fun _ z => z) dX8_init_64 hk) ?_
  refine rz_All_c (i := 34) (fun k J hk hJ => rz_aload_n_ok (pc := 67) hx hb dX8_init_67 rfl hk) ?_
  refine rz_All_c (i := 35) (fun k J hk hJ => rz_aload_n_ok (pc := 68) hx hb dX8_init_68 rfl hk) ?_
  refine rz_All_c (i := 36) (fun k J hk hJ => rz_putfF_ok (pc := 69) (own := RX8) (ref := "ThreadJudge$Question") (C := RX8) (T := TX8) (N := 18) (ci := 10) (index := 38) (f := 0) (t := 2) (Ts := Cond.code yX8_init cX8_init 5 none :: rz_TB) hx hb hts rz_in10 tyX8 tyX8_ok nmX8 ho hK hA rfl (by decide) rfl (rz_UnR _ (Or.inl ⟨_, rfl⟩)) rfl (hmn.trans rfl) rfl (tyX8_ok 0 (by decide)) (hw (i := 73) (j := 2) rfl rfl) (fun _ z => z) dX8_init_69 hk) ?_
  refine rz_All_c (i := 37) (fun k J hk hJ => rz_aload_n_ok (pc := 72) hx hb dX8_init_72 rfl hk) ?_
  refine rz_All_c (i := 38) (fun k J hk hJ => rz_aload_n_ok (pc := 73) hx hb dX8_init_73 rfl hk) ?_
  refine rz_All_c (i := 39) (fun k J hk hJ => rz_putfF_ok (pc := 74) (own := RX8) (ref := "ThreadJudge$Question") (C := RX8) (T := TX8) (N := 18) (ci := 10) (index := 42) (f := 1) (t := 2) (Ts := Cond.code yX8_init cX8_init 5 none :: rz_TB) hx hb hts rz_in10 tyX8 tyX8_ok nmX8 ho hK hA rfl (by decide) rfl (rz_UnR _ (Or.inl ⟨_, rfl⟩)) rfl (hmn.trans rfl) rfl (tyX8_ok 1 (by decide)) (hw (i := 73) (j := 3) rfl rfl) (fun _ z => z) dX8_init_74 hk) ?_
  refine rz_All_c (i := 40) (fun k J hk hJ => rz_aload_n_ok (pc := 77) hx hb dX8_init_77 rfl hk) ?_
  refine rz_All_c (i := 41) (fun k J hk hJ => rz_aload_n_ok (pc := 78) hx hb dX8_init_78 rfl hk) ?_
  refine rz_All_c (i := 42) (fun k J hk hJ => rz_putfF_ok (pc := 79) (own := RX8) (ref := "ThreadJudge$Question") (C := RX8) (T := TX8) (N := 18) (ci := 10) (index := 46) (f := 2) (t := 2) (Ts := Cond.code yX8_init cX8_init 5 none :: rz_TB) hx hb hts rz_in10 tyX8 tyX8_ok nmX8 ho hK hA rfl (by decide) rfl (rz_UnR _ (Or.inl ⟨_, rfl⟩)) rfl (hmn.trans rfl) rfl (tyX8_ok 2 (by decide)) (hw (i := 73) (j := 4) rfl rfl) (fun _ z => z) dX8_init_79 hk) ?_
  refine rz_All_c (i := 43) (fun k J hk hJ => rz_aload_n_ok (pc := 82) hx hb dX8_init_82 rfl hk) ?_
  refine rz_All_c (i := 44) (fun k J hk hJ => rz_aload_ok (pc := 83) hx hb dX8_init_83 hk) ?_
  refine rz_All_c (i := 45) (fun k J hk hJ => rz_putfF_ok (pc := 85) (own := RX8) (ref := "ThreadJudge$Question") (C := RX8) (T := TX8) (N := 18) (ci := 10) (index := 50) (f := 3) (t := 2) (Ts := Cond.code yX8_init cX8_init 5 none :: rz_TB) hx hb hts rz_in10 tyX8 tyX8_ok nmX8 ho hK hA rfl (by decide) rfl (rz_UnR _ (Or.inl ⟨_, rfl⟩)) rfl (hmn.trans rfl) rfl (tyX8_ok 3 (by decide)) (hw (i := 73) (j := 5) rfl rfl) (fun _ z => z) dX8_init_85 hk) ?_
  refine rz_All_c (i := 46) (fun k J hk hJ => rz_vret_ok (pc := 88) (nz0 := (8, 351)) hC dX8_init_88 (by decide)) ?_
  exact trivial
def rpJ0_isLatin1_aae02_c : List Nat := [0, 3, 6, 7, 10, 13, 14, 17, 18]
def rzJ0_isLatin1_aae02_c : List (Nat × Nat) := [(0, 0), (0, 0), (0, 0), (0, 0), (0, 0), (0, 0), (0, 0), (0, 0), (0, 0)]
noncomputable def rcJ0_isLatin1_aae02_c : List rz_B := [rz_cst 1, rz_ifeq 7, rz_aload 0, rz_getf (Nat.add (Nat.mul 256 0) 1) 1 rz_i, rz_ifne 7, rz_cst 1, rz_goto 8, rz_no, rz_zret]
noncomputable def rgJ0_isLatin1_aae02_c : rz_L → rz_M → rz_Z → Bool := rz_go rcJ0_isLatin1_aae02_c 1 1000000
def rrJ0_isLatin1_aae02_c : Room := { frames := 0, cells := 0, slots := 0, locals := 0 }
theorem rmJ0_isLatin1_aae02_c (l : Launch) {G : rz_G} (hG : rz_Gd G) (vs : rz_L) (M : rz_M) (Z : rz_Z) (hn : vs.length = 1) (h : rgJ0_isLatin1_aae02_c vs M Z = true) : Met l yJ0_isLatin1_aae02 (Cond.code yJ0_isLatin1_aae02 cJ0_isLatin1_aae02 1 (some .boolean) :: rz_TB) rrJ0_isLatin1_aae02_c (rz_Pre G vs M) (rz_Qi G M.2 Z) 0 0 (fun q => rz_b G ≤ q) := by
  obtain ⟨D, tc, ad, b, xs, rfl⟩ := id hG
  refine rz_bodyM (pcs := rpJ0_isLatin1_aae02_c) (cz := rzJ0_isLatin1_aae02_c) (by decide) rfl rfl (by rw [hn]; decide) h ?_
  intro p e R s m args below meth c hC hmn
  obtain ⟨hx, hb, hml, hr, hlk, ho, hts, hKn, hRm⟩ := id hC
  obtain ⟨hK, hA, hSt⟩ := id hKn
  have hw : ∀ {i j : Nat} {ws : List Cond} {w : Cond}, rz_WW[i]? = some ws → ws[j]? = some w → w.before args s = true := fun h1 h2 => hts _ (List.mem_cons_of_mem _ (rz_mem h1 h2))
  refine rz_All_c (i := 0) (fun k J hk hJ => rz_gets_ok (pc := 0) (own := RJ0) (ref := "java/lang/String") (index := 38) hx hb hSt.2.2.2.1 rfl ho (hw (i := 6) (j := 10) rfl rfl) (fun _ z => z) dJ0_isLatin1_aae02_0 hk) ?_
  refine rz_All_c (i := 1) (fun k J hk hJ => rz_ifeq_ok (pc := 3) hx hb dJ0_isLatin1_aae02_3 rfl hk (hJ 7)) ?_
  refine rz_All_c (i := 2) (fun k J hk hJ => rz_aload_n_ok (pc := 6) hx hb dJ0_isLatin1_aae02_6 rfl hk) ?_
  refine rz_All_c (i := 3) (fun k J hk hJ => rz_getf_ok (pc := 7) (own := RJ0) (ref := "java/lang/String") (C := RJ0) (T := TJ0) (N := 4) (ci := 0) (index := 15) (f := 1) (t := 0) (Ts := Cond.code yJ0_isLatin1_aae02 cJ0_isLatin1_aae02 1 (some .boolean) :: rz_TB) hx hb hts rz_in0 ho hK rfl (by decide) rfl (fun _ => rfl) (hw (i := 6) (j := 11) rfl rfl) (fun _ z => z) dJ0_isLatin1_aae02_7 hk) ?_
  refine rz_All_c (i := 4) (fun k J hk hJ => rz_ifne_ok (pc := 10) hx hb dJ0_isLatin1_aae02_10 rfl hk (hJ 7)) ?_
  refine rz_All_c (i := 5) (fun k J hk hJ => rz_iconst_ok (pc := 13) hx hb dJ0_isLatin1_aae02_13 rfl hk) ?_
  refine rz_All_c (i := 6) (fun k J hk hJ => rz_goto_ok (pc := 14) hx hb dJ0_isLatin1_aae02_14 rfl (hJ 8)) ?_
  refine rz_All_c (i := 7) (fun k J hk hJ => rz_no_ok) ?_
  refine rz_All_c (i := 8) (fun k J hk hJ => rz_zret_ok (pc := 18) hC dJ0_isLatin1_aae02_18) ?_
  exact trivial
theorem dJ1_inflate_03870_0 : decode cJ1_inflate_03870 0 = .ok (.iconst 0, 1) := by decide +kernel
theorem dJ1_inflate_03870_1 : decode cJ1_inflate_03870 1 = .ok (.istore 5, 2) := by decide +kernel
theorem dJ1_inflate_03870_3 : decode cJ1_inflate_03870 3 = .ok (.iload 5, 2) := by decide +kernel
theorem dJ1_inflate_03870_5 : decode cJ1_inflate_03870 5 = .ok (.iload 4, 2) := by decide +kernel
theorem dJ1_inflate_03870_7 : decode cJ1_inflate_03870 7 = .ok (.if_icmp .ge 26, 3) := by decide +kernel
theorem dJ1_inflate_03870_10 : decode cJ1_inflate_03870 10 = .ok (.aload_n 2, 1) := by decide +kernel
theorem dJ1_inflate_03870_11 : decode cJ1_inflate_03870 11 = .ok (.iload_n 3, 1) := by decide +kernel
theorem dJ1_inflate_03870_12 : decode cJ1_inflate_03870 12 = .ok (.iinc 3 1, 3) := by decide +kernel
theorem dJ1_inflate_03870_15 : decode cJ1_inflate_03870 15 = .ok (.aload_n 0, 1) := by decide +kernel
theorem dJ1_inflate_03870_16 : decode cJ1_inflate_03870 16 = .ok (.iload_n 1, 1) := by decide +kernel
theorem dJ1_inflate_03870_17 : decode cJ1_inflate_03870 17 = .ok (.iinc 1 1, 3) := by decide +kernel
theorem dJ1_inflate_03870_20 : decode cJ1_inflate_03870 20 = .ok (.baload, 1) := by decide +kernel
theorem dJ1_inflate_03870_21 : decode cJ1_inflate_03870 21 = .ok (.sipush 255, 3) := by decide +kernel
theorem dJ1_inflate_03870_24 : decode cJ1_inflate_03870 24 = .ok (.iand, 1) := by decide +kernel
theorem dJ1_inflate_03870_25 : decode cJ1_inflate_03870 25 = .ok (.i2c, 1) := by decide +kernel
theorem dJ1_inflate_03870_26 : decode cJ1_inflate_03870 26 = .ok (.castore, 1) := by decide +kernel
theorem dJ1_inflate_03870_27 : decode cJ1_inflate_03870 27 = .ok (.iinc 5 1, 3) := by decide +kernel
theorem dJ1_inflate_03870_30 : decode cJ1_inflate_03870 30 = .ok (.goto (-27), 3) := by decide +kernel
theorem dJ1_inflate_03870_33 : decode cJ1_inflate_03870 33 = .ok (.return_, 1) := by decide +kernel
def rpJ1_inflate_03870 : List Nat := [0, 1, 3, 5, 7, 10, 11, 12, 15, 16, 17, 20, 21, 24, 25, 26, 27, 30, 33]
def rzJ1_inflate_03870 : List (Nat × Nat) := [(0, 0), (0, 0), (0, 0), (0, 0), (0, 0), (0, 0), (0, 0), (0, 0), (0, 0), (0, 0), (0, 0), (0, 0), (0, 0), (0, 0), (0, 0), (0, 0), (0, 0), (0, 0), (0, 0)]
noncomputable def rcJ1_inflate_03870 : List rz_B := [rz_cst 0, rz_istore 5, rz_iload 5, rz_iload 4, rz_icmpge 18, rz_aload 2, rz_iload 3, rz_iinc 3 1, rz_aload 0, rz_iload 1, rz_iinc 1 1, rz_bald, rz_cst 255, rz_iand, rz_i2c, rz_cast, rz_iinc 5 1, rz_goto 2, rz_vret]
noncomputable def rgJ1_inflate_03870 : rz_L → rz_M → rz_Z → Bool := rz_go rcJ1_inflate_03870 6 1000000
def rrJ1_inflate_03870 : Room := { frames := 0, cells := 0, slots := 0, locals := 0 }
theorem rmJ1_inflate_03870 (l : Launch) {G : rz_G} (hG : rz_Gd G) (vs : rz_L) (M : rz_M) (Z : rz_Z) (hn : vs.length = 5) (h : rgJ1_inflate_03870 vs M Z = true) : Met l yJ1_inflate_03870 (Cond.code yJ1_inflate_03870 cJ1_inflate_03870 6 none :: rz_TB) rrJ1_inflate_03870 (rz_Pre G vs M) (rz_Qv G M.2 Z) 0 0 (fun q => rz_b G ≤ q) := by
  obtain ⟨D, tc, ad, b, xs, rfl⟩ := id hG
  refine rz_bodyM (pcs := rpJ1_inflate_03870) (cz := rzJ1_inflate_03870) (by decide) rfl rfl (by rw [hn]; decide) h ?_
  intro p e R s m args below meth c hC hmn
  obtain ⟨hx, hb, hml, hr, hlk, ho, hts, hKn, hRm⟩ := id hC
  obtain ⟨hK, hA, hSt⟩ := id hKn
  have hw : ∀ {i j : Nat} {ws : List Cond} {w : Cond}, rz_WW[i]? = some ws → ws[j]? = some w → w.before args s = true := fun h1 h2 => hts _ (List.mem_cons_of_mem _ (rz_mem h1 h2))
  refine rz_All_c (i := 0) (fun k J hk hJ => rz_iconst_ok (pc := 0) hx hb dJ1_inflate_03870_0 rfl hk) ?_
  refine rz_All_c (i := 1) (fun k J hk hJ => rz_istore_ok (pc := 1) hx hb dJ1_inflate_03870_1 hk) ?_
  refine rz_All_c (i := 2) (fun k J hk hJ => rz_iload_ok (pc := 3) hx hb dJ1_inflate_03870_3 hk) ?_
  refine rz_All_c (i := 3) (fun k J hk hJ => rz_iload_ok (pc := 5) hx hb dJ1_inflate_03870_5 hk) ?_
  refine rz_All_c (i := 4) (fun k J hk hJ => rz_icmpge_ok (pc := 7) hx hb dJ1_inflate_03870_7 rfl hk (hJ 18)) ?_
  refine rz_All_c (i := 5) (fun k J hk hJ => rz_aload_n_ok (pc := 10) hx hb dJ1_inflate_03870_10 rfl hk) ?_
  refine rz_All_c (i := 6) (fun k J hk hJ => rz_iload_n_ok (pc := 11) hx hb dJ1_inflate_03870_11 rfl hk) ?_
  refine rz_All_c (i := 7) (fun k J hk hJ => rz_iinc_ok (pc := 12) hx hb dJ1_inflate_03870_12 (by decide) hk) ?_
  refine rz_All_c (i := 8) (fun k J hk hJ => rz_aload_n_ok (pc := 15) hx hb dJ1_inflate_03870_15 rfl hk) ?_
  refine rz_All_c (i := 9) (fun k J hk hJ => rz_iload_n_ok (pc := 16) hx hb dJ1_inflate_03870_16 rfl hk) ?_
  refine rz_All_c (i := 10) (fun k J hk hJ => rz_iinc_ok (pc := 17) hx hb dJ1_inflate_03870_17 (by decide) hk) ?_
  refine rz_All_c (i := 11) (fun k J hk hJ => rz_bald_ok (pc := 20) hx hb hK dJ1_inflate_03870_20 hk) ?_
  refine rz_All_c (i := 12) (fun k J hk hJ => rz_sipush_ok (pc := 21) hx hb dJ1_inflate_03870_21 (by decide) hk) ?_
  refine rz_All_c (i := 13) (fun k J hk hJ => rz_iand_ok (pc := 24) hx hb dJ1_inflate_03870_24 hk) ?_
  refine rz_All_c (i := 14) (fun k J hk hJ => rz_i2c_ok (pc := 25) hx hb dJ1_inflate_03870_25 hk) ?_
  refine rz_All_c (i := 15) (fun k J hk hJ => rz_cast_ok (pc := 26) hx hb hK hA dJ1_inflate_03870_26 hk) ?_
  refine rz_All_c (i := 16) (fun k J hk hJ => rz_iinc_ok (pc := 27) hx hb dJ1_inflate_03870_27 (by decide) hk) ?_
  refine rz_All_c (i := 17) (fun k J hk hJ => rz_goto_ok (pc := 30) hx hb dJ1_inflate_03870_30 rfl (hJ 2)) ?_
  refine rz_All_c (i := 18) (fun k J hk hJ => rz_vret_ok (pc := 33) hC dJ1_inflate_03870_33) ?_
  exact trivial
