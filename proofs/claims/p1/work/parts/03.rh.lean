/-! Handlers of fields and arrays. -/
theorem rz_den_at {G : rz_G} {h : rz_H} {n q : Nat} (hq : q < n) : (rz_den G h n)[q]? = some (rz_ad G q, rz_e G (rz_head (rz_gt 9 h q)) (rz_gt 9 h q)) := by
  unfold rz_den
  rw [List.getElem?_map, List.getElem?_range hq]
  rfl
theorem rz_den_mem {G : rz_G} {h : rz_H} {n i : Nat} {x : Nat × va_E} (hx : (rz_den G h n)[i]? = some x) : i < n ∧ x = (rz_ad G i, rz_e G (rz_head (rz_gt 9 h i)) (rz_gt 9 h i)) := by
  have hl := (List.getElem?_eq_some_iff.mp hx).1
  unfold rz_den at hl
  rw [List.length_map, List.length_range] at hl
  rw [rz_den_at hl] at hx
  exact ⟨hl, (Option.some.inj hx).symm⟩
def rz_A (G : rz_G) : Prop := ∀ q, q < 512 → rz_ad G q = rz_b G + q
theorem rz_den_D {G : rz_G} (hA : rz_A G) {h : rz_H} {n : Nat} (hn : n ≤ 512) : va_D (fun q => rz_b G ≤ q) (rz_den G h n) := by
  refine ⟨fun i j x y hi hj hxy => ?_, fun i x hi => ?_⟩
  · obtain ⟨h1, rfl⟩ := rz_den_mem hi
    obtain ⟨h2, rfl⟩ := rz_den_mem hj
    dsimp only at hxy
    rw [hA i (by omega), hA j (by omega)] at hxy
    omega
  · obtain ⟨h1, rfl⟩ := rz_den_mem hi
    show rz_b G ≤ rz_ad G i
    rw [hA i (by omega)]
    omega
theorem rz_wd_lt {G : rz_G} {g : rz_H} {nz : Nat × Nat} {H : Heap} (hW : rz_wd G (g, nz) H) {q : Nat} (hq : q < 512) (hne : rz_head (rz_gt 9 g q) ≠ 0) : q < nz.1 := by
  rcases Nat.lt_or_ge q nz.1 with h | h
  · exact h
  · exact absurd (by rw [hW.2.2.1 q h hq]; rfl) hne
theorem rz_wd_set {G : rz_G} (hA : rz_A G) {g : rz_H} {nz : Nat × Nat} {H H1 : Heap} (hW : rz_wd G (g, nz) H) {q C : Nat} (hq : q < nz.1) (he : va_at (rz_D G) (rz_cl G) (rz_ad G q, rz_e G (rz_head C) C) H1) (z : H1.size = H.size) (oq : ∀ x : Nat, x ≠ rz_ad G q → H1[x]? = H[x]?) : rz_wd G (rz_ud 9 g q C, nz) H1 := by
  obtain ⟨h1, h2, h3, h4⟩ := hW
  have h2 : nz.1 ≤ 512 := h2
  refine ⟨z.trans h1, h2, fun x hx hx2 => ?_, fun i x hi => ?_⟩
  · have hx : nz.1 ≤ x := hx
    rw [rz_gt_ud 9 g q x C (by show q < 512; omega) hx2, if_neg (by omega)]
    exact h3 x hx hx2
  · obtain ⟨hj, rfl⟩ := rz_den_mem hi
    clear hi
    have hi : i < nz.1 := hj
    have e := rz_gt_ud 9 g q i C (show q < 512 by omega) (show i < 512 by omega)
    by_cases hiq : i = q
    · subst hiq
      rw [if_pos rfl] at e
      show va_at (rz_D G) (rz_cl G) (rz_ad G i, rz_e G (rz_head (rz_gt 9 (rz_ud 9 g i C) i)) (rz_gt 9 (rz_ud 9 g i C) i)) H1
      rw [e]
      exact he
    · rw [if_neg hiq] at e
      show va_at (rz_D G) (rz_cl G) (rz_ad G i, rz_e G (rz_head (rz_gt 9 (rz_ud 9 g q C) i)) (rz_gt 9 (rz_ud 9 g q C) i)) H1
      rw [e]
      refine (h4 i _ (rz_den_at hi)).kept (oq _ ?_)
      show rz_ad G i ≠ rz_ad G q
      rw [hA i (by omega), hA q (by omega)]
      omega
theorem rz_e_obj (G : rz_G) (ci B : Nat) : rz_e G (Nat.add (Nat.mul 256 ci) 1) B = .inr (ci, rz_fs G B ci) := by
  have h1 : (256 * ci + 1) % 256 = 1 := by omega
  have h2 : (256 * ci + 1) / 256 = ci := by omega
  show rz_e G (256 * ci + 1) B = _
  unfold rz_e
  rw [h1, h2]
  rfl
theorem rz_fs_at {G : rz_G} {B ci f t : Nat} (h : (rz_ft G ci)[f]? = some t) : (rz_fs G B ci)[f]? = some (rz_fv G t (rz_g64 B f)) := by
  have hl := (List.getElem?_eq_some_iff.mp h).1
  unfold rz_fs
  rw [List.getElem?_map, List.getElem?_range hl]
  show some (rz_fv G ((rz_ft G ci).getD f 0) (rz_g64 B f)) = _
  rw [List.getD_eq_getElem?_getD, h]
  rfl
section RZH
variable {G : rz_G} {p : Program} {l : Launch} {e : Env} {R : Room} {s : State} {m : MethodId} {args : Array Value} {below : List Frame} {meth : Method} {c : Code} {Q : State → Prop} {nL pc : Nat} {nz0 : Nat × Nat} {cc : ByteArray} {k : rz_K} {J : rz_J} {Z : rz_Z}
noncomputable def rz_getf (hd f : Nat) (mk : Nat → rz_V) : rz_B := fun k _ _ L S M => rz_hd S (fun o T => rz_ref o (fun q => rz_mm M (fun g nz => rz_get 9 g q (fun B => rz_if (Nat.beq (rz_head B) hd) (rz_F (rz_g64 B f) (fun z => k L (mk z :: T) (g, nz))) false))))
theorem rz_getf_ok {own ref C : String} {T : u_T} {N ci index f t : Nat} {Ts : List Cond} {mk : Nat → rz_V} (hx : p.tables.exec = Jvm.exec) (hb : c.code = cc) (hts : ∀ w ∈ Ts, w.before args s = true) (hin : ∀ w ∈ u_ws C T N, w ∈ Ts) (hown : s.vm.findClass own = some m.cls) (hK : va_K (rz_D G) (rz_cl G) (rz_tys G) s) (hc : (rz_cl G)[ci]? = some (C, T, N)) (hf : f < N) (ht : (rz_ft G ci)[f]? = some t) (hm : ∀ z, rz_v G (mk z) = rz_fv G t z) (hlink : (Cond.fieldLink own index ref (T f).2.1 (T f).2.2.1).before args s = true) (hsame : ∀ x, s.fieldFound? (T f).1 (T f).2.1 (T f).2.2.1 = some x → s.fieldFound? ref (T f).2.1 (T f).2.2.1 = some x) (hd : decode cc pc = .ok (.getfield index, 3)) (hk : rz_Ok G p l e R s m args below meth c Q nL nz0 (pc + 3) (k)) : rz_Ok G p l e R s m args below meth c Q nL nz0 (pc) (rz_getf (Nat.add (Nat.mul 256 ci) 1) f mk k J Z) := by
  intro L S M h ls H locs hL hW hS h0
  replace h := rz_hd_t h
  obtain ⟨o, U, rfl, h⟩ := h
  replace h := rz_ref_t h
  obtain ⟨q, rfl, h⟩ := h
  replace h := rz_mm_t h
  obtain ⟨g, nz, rfl, h⟩ := h
  obtain ⟨hq, h⟩ := rz_get_t 9 h
  rcases rz_if_t h with ⟨hh, h⟩ | ⟨-, h⟩
  · have hh := rz_beq.1.mp hh
    rw [rz_F_eq] at h
    have hlt := rz_wd_lt hW hq (by rw [hh]; exact Nat.succ_ne_zero _)
    have hz := hk L (mk (rz_g64 (rz_gt 9 g q) f) :: U) (g, nz) h ls H locs hL hW hS h0
    rw [List.map_cons, hm] at hz
    have hat := rz_den_at (G := G) (h := g) hlt
    rw [hh, rz_e_obj] at hat
    exact va_get hx hb hts hin hown hK hW.2.2.2 q hat hc f hf hlink hsame (rz_fs_at ht) hd hz
  · cases h
theorem rz_putrow {H : Heap} {locs : List Loc} {cells slots : Nat} {ls : Array Slot} {rest : List Value} {D : va_G} {cl : List vw_C} {tys : List (ClassId × FieldType)} {ws : va_W} {a : Nat} {own ref C : String} {T : u_T} {N ci index : Nat} {Ts : List Cond} (hx : p.tables.exec = Jvm.exec) (hb : c.code = cc) (hts : ∀ w ∈ Ts, w.before args s = true) (hin : ∀ w ∈ u_ws C T N, w ∈ Ts) (ty0 : Nat → FieldType) (hty : ∀ k, k < N → parseFieldDescriptor (T k).2.2.1 = some (ty0 k)) (hnm : ∀ a, a < N → ∀ b, b < N → a ≠ b → (T a).2.1 ≠ (T b).2.1) (hown : s.vm.findClass own = some m.cls) (hK : va_K D cl tys s) (hP : va_P D cl ws H) (q : Nat) {fs : List Value} (he : ws[q]? = some (a, .inr (ci, fs))) (hc : cl[ci]? = some (C, T, N)) (f : Nat) (hf : f < N) (hlink : (Cond.fieldLink own index ref (T f).2.1 (T f).2.2.1).before args s = true) (hsame : ∀ x, s.fieldFound? (T f).1 (T f).2.1 (T f).2.2.1 = some x → s.fieldFound? ref (T f).2.1 (T f).2.2.1 = some x) (hfin : (T f).2.2.2 = false) {ty : FieldType} {v : Value} (hd : parseFieldDescriptor (T f).2.2.1 = some ty) (hn : narrow ty v = v) (hfit : fits ty v = true) (hl : f < fs.length) (hdg : decode cc pc = .ok (.putfield index, 3))
    (kk : ∀ (H1 : Heap) (loc : Loc), loc.base = a → va_at D cl (a, .inr (ci, fs.set f v)) H1 → H1.size = H.size → (∀ x : Nat, x ≠ a → H1[x]? = H[x]?) → W p l e R s m args below meth c H1 (locs ++ [loc]) cells slots Q (F0 m (pc + 3) ls rest)) : W p l e R s m args below meth c H locs cells slots Q (F0 m pc ls (v :: .ref a :: rest)) := by
  have hdiff := va_apart (own := own) hts hin ty0 hty hnm hK hc
  obtain ⟨r, hr, cell, g1, g2, g3, g4⟩ := hP q _ he
  cases hr.symm.trans hc
  obtain ⟨hsl, hcls, kC, hkC, hord⟩ := hK.1 ci _ hc
  obtain ⟨cf, kf, fi, fd, hfd, hsf⟩ := hsl f hf
  have hlay : (Cond.lays C (T f).1 (T f).2.1 (T f).2.2.1).before args s = true := by
    have h1 := hts _ (hin _ (u_in_lay hf))
    rwa [u_lay, if_neg (by rw [hfin]; decide)] at h1
  have hst := (u_facts hcls hkC (Or.inl hlay) hfd).1
  have hSd := u_store hcls hkC hord hlay hfd hd hn hfit
  refine W.putK hx hb (f := fd) ⟨hown, hlink, ⟨cf, kf, fi, hsame _ hfd⟩, hst⟩ (by rw [g2]; exact hSd) g1 g3 (by rw [hsf]; exact k2_hasslot (g4 f hf)) rfl rfl hdg (fun H1 e1 e2 e3 => ?_)
  refine kk H1 _ rfl ⟨_, hc, _, e1, g2, g3, fun j hj => ?_⟩ e2 e3
  rw [hsf, t_set g4 hdiff hf v j hj]
  exact congrArg some (vp_updV_set hl v j)
noncomputable def rz_rfn (v : rz_V) (k : Nat → Bool) : Bool := Sum.rec (fun _ => false) (fun w => Sum.rec (fun _ => false) (fun x => Sum.rec k (fun _ => false) x) w) v
theorem rz_rfn_t {v : rz_V} {k : Nat → Bool} (h : rz_rfn v k = true) : ∃ n, v = rz_r n ∧ k n = true := by
  rcases v with n | n | n | n
  · cases h
  · cases h
  · exact ⟨n, rfl, h⟩
  · cases h
noncomputable def rz_unI (v : rz_V) (k : Nat → Bool) : Bool := rz_int v (fun x => k (Nat.mod x 4294967296))
noncomputable def rz_unZ (v : rz_V) (k : Nat → Bool) : Bool := rz_int v (fun x => rz_if (Nat.ble x 1) (k x) false)
noncomputable def rz_unJ (v : rz_V) (k : Nat → Bool) : Bool := rz_lng v (fun x => k (Nat.mod x 18446744073709551616))
noncomputable def rz_unR (v : rz_V) (k : Nat → Bool) : Bool := rz_rfn v (fun x => rz_if (Nat.ble x 4294967295) (k x) false)
theorem rz_lN_mod (n : Nat) : lN (n % 18446744073709551616) = lN n := by
  unfold lN
  apply Int64.toBitVec_inj.mp
  apply BitVec.eq_of_toNat_eq
  have h1 : ∀ k : Nat, (Int64.ofNat k).toBitVec.toNat = k % 2 ^ 64 := fun k => BitVec.toNat_ofNat k 64
  rw [h1, h1]
  exact Nat.mod_mod n (2 ^ 64)
def rz_Un (G : rz_G) (t : Nat) (ty : FieldType) (un : rz_V → (Nat → Bool) → Bool) : Prop := ∀ (v : rz_V) (k : Nat → Bool), un v k = true → ∃ x, k x = true ∧ rz_v G v = rz_fv G t x ∧ x < 2 ^ 64 ∧ narrow ty (rz_v G v) = rz_v G v ∧ fits ty (rz_v G v) = true
theorem rz_UnI (G : rz_G) : rz_Un G 0 .int rz_unI := by
  intro v k h
  obtain ⟨x, rfl, h⟩ := rz_int_t h
  refine ⟨_, h, ?_, ?_, rfl, rfl⟩
  · show Value.int (nI x) = .int (nI (x % 4294967296))
    rw [rz_nI_mod]
  · exact Nat.lt_of_lt_of_le (Nat.mod_lt x (by decide)) (by decide)
theorem rz_UnJ (G : rz_G) : rz_Un G 1 .long rz_unJ := by
  intro v k h
  obtain ⟨x, rfl, h⟩ := rz_lng_t h
  refine ⟨_, h, ?_, ?_, rfl, rfl⟩
  · show Value.long (lN x) = .long (lN (x % 18446744073709551616))
    rw [rz_lN_mod]
  · exact Nat.mod_lt x (by decide)
theorem rz_UnZ (G : rz_G) : rz_Un G 0 .boolean rz_unZ := by
  intro v k h
  obtain ⟨x, rfl, h⟩ := rz_int_t h
  rcases rz_if_t h with ⟨g, h⟩ | ⟨-, h⟩
  · have g := rz_ble.1.mp g
    have hx : x = 0 ∨ x = 1 := by omega
    refine ⟨x, h, rfl, Nat.lt_of_le_of_lt g (by decide), ?_, ?_⟩
    · rcases hx with rfl | rfl <;> rfl
    · rcases hx with rfl | rfl <;> rfl
  · cases h
theorem rz_UnR (G : rz_G) {ty : FieldType} (hty : (∃ n, ty = .object n) ∨ ∃ t, ty = .array t) : rz_Un G 2 ty rz_unR := by
  intro v k h
  obtain ⟨x, rfl, h⟩ := rz_rfn_t h
  rcases rz_if_t h with ⟨g, h⟩ | ⟨-, h⟩
  · have g := rz_ble.1.mp g
    refine ⟨x, h, rfl, Nat.lt_of_le_of_lt g (by decide), ?_, ?_⟩
    · rcases hty with ⟨n, rfl⟩ | ⟨n, rfl⟩
      · show narrow (.object n) (va_rf (rz_rf (rz_ad G) x)) = va_rf (rz_rf (rz_ad G) x)
        cases rz_rf (rz_ad G) x <;> rfl
      · show narrow (.array n) (va_rf (rz_rf (rz_ad G) x)) = va_rf (rz_rf (rz_ad G) x)
        cases rz_rf (rz_ad G) x <;> rfl
    · rcases hty with ⟨n, rfl⟩ | ⟨n, rfl⟩
      · show fits (.object n) (va_rf (rz_rf (rz_ad G) x)) = true
        cases rz_rf (rz_ad G) x <;> rfl
      · show fits (.array n) (va_rf (rz_rf (rz_ad G) x)) = true
        cases rz_rf (rz_ad G) x <;> rfl
  · cases h
theorem rz_fs_set {G : rz_G} {B ci f t x : Nat} (ht : (rz_ft G ci)[f]? = some t) (hx : x < 2 ^ 64) : rz_fs G (rz_p B (Nat.add 32 (Nat.mul 64 f)) (rz_g64 B f) x) ci = (rz_fs G B ci).set f (rz_fv G t x) := by
  have hl := (List.getElem?_eq_some_iff.mp ht).1
  have hlane : ∀ j, rz_g64 (rz_p B (Nat.add 32 (Nat.mul 64 f)) (rz_g64 B f) x) j = if j = f then x else rz_g64 B j := by
    intro j
    rw [rz_g64_eq, rz_g64_eq B j]
    exact rz_p_lane (i := j) (j := f) hx (rz_g64_eq B f)
  apply List.ext_getElem?
  intro j
  by_cases hj : j < (rz_ft G ci).length
  · obtain ⟨tj, htj⟩ : ∃ tj, (rz_ft G ci)[j]? = some tj := ⟨_, List.getElem?_eq_getElem hj⟩
    rw [rz_fs_at htj, hlane]
    by_cases e : j = f
    · subst e
      rw [if_pos rfl, List.getElem?_set_self (by unfold rz_fs; rw [List.length_map, List.length_range]; exact hj)]
      cases ht.symm.trans htj
      rfl
    · rw [if_neg e, List.getElem?_set_ne (fun q => e q.symm), rz_fs_at htj]
  · have h1 : ∀ B', (rz_fs G B' ci).length = (rz_ft G ci).length := fun B' => by unfold rz_fs; rw [List.length_map, List.length_range]
    rw [List.getElem?_eq_none (by rw [h1]; omega), List.getElem?_eq_none (by rw [List.length_set, h1]; omega)]
theorem rz_head64 {B f x : Nat} (hx : x < 2 ^ 64) : rz_head (rz_p B (Nat.add 32 (Nat.mul 64 f)) (rz_g64 B f) x) = rz_head B := rz_p_head (w := 64) hx (rz_g64_eq B f)
noncomputable def rz_putf (hd f : Nat) (un : rz_V → (Nat → Bool) → Bool) : rz_B := fun k _ _ L S M => rz_hd S (fun v T => un v (fun x => rz_hd T (fun o U => rz_ref o (fun q => rz_mm M (fun g nz => rz_get 9 g q (fun B => rz_if (Nat.beq (rz_head B) hd) (rz_F (rz_p B (Nat.add 32 (Nat.mul 64 f)) (rz_g64 B f) x) (fun D => rz_upd 9 g q D (fun g' => k L U (g', nz)))) false))))))
theorem rz_putf_ok {own ref C : String} {T : u_T} {N ci index f t : Nat} {ty : FieldType} {Ts : List Cond} {un : rz_V → (Nat → Bool) → Bool} (hx : p.tables.exec = Jvm.exec) (hb : c.code = cc) (hts : ∀ w ∈ Ts, w.before args s = true) (hin : ∀ w ∈ u_ws C T N, w ∈ Ts) (ty0 : Nat → FieldType) (hty : ∀ k, k < N → parseFieldDescriptor (T k).2.2.1 = some (ty0 k)) (hnm : ∀ a, a < N → ∀ b, b < N → a ≠ b → (T a).2.1 ≠ (T b).2.1) (hown : s.vm.findClass own = some m.cls) (hK : va_K (rz_D G) (rz_cl G) (rz_tys G) s) (hA : rz_A G) (hc : (rz_cl G)[ci]? = some (C, T, N)) (hf : f < N) (ht : (rz_ft G ci)[f]? = some t) (hun : rz_Un G t ty un) (hfin : (T f).2.2.2 = false) (hpd : parseFieldDescriptor (T f).2.2.1 = some ty) (hlink : (Cond.fieldLink own index ref (T f).2.1 (T f).2.2.1).before args s = true) (hsame : ∀ x, s.fieldFound? (T f).1 (T f).2.1 (T f).2.2.1 = some x → s.fieldFound? ref (T f).2.1 (T f).2.2.1 = some x) (hd : decode cc pc = .ok (.putfield index, 3)) (hk : rz_Ok G p l e R s m args below meth c Q nL nz0 (pc + 3) (k)) : rz_Ok G p l e R s m args below meth c Q nL nz0 (pc) (rz_putf (Nat.add (Nat.mul 256 ci) 1) f un k J Z) := by
  intro L S M h ls H locs hL hW hS h0
  replace h := rz_hd_t h
  obtain ⟨v, T1, rfl, h⟩ := h
  replace h := hun v _ h
  obtain ⟨x, h, hvx, hx64, hnar, hfit⟩ := h
  replace h := rz_hd_t h
  obtain ⟨o, U, rfl, h⟩ := h
  replace h := rz_ref_t h
  obtain ⟨q, rfl, h⟩ := h
  replace h := rz_mm_t h
  obtain ⟨g, nz, rfl, h⟩ := h
  obtain ⟨hq, h⟩ := rz_get_t 9 h
  rcases rz_if_t h with ⟨hh, h⟩ | ⟨-, h⟩
  · have hh := rz_beq.1.mp hh
    rw [rz_F_eq, rz_upd_eq] at h
    have hlt := rz_wd_lt hW hq (by rw [hh]; exact Nat.succ_ne_zero _)
    have hat := rz_den_at (G := G) (h := g) hlt
    rw [hh, rz_e_obj] at hat
    rw [List.map_cons, List.map_cons]
    show W p l e R s m args below meth c H locs _ _ Q (F0 m pc ls (rz_v G v :: .ref (rz_ad G q) :: U.map (rz_v G)))
    have hq1 : q < nz.1 := hlt
    have hq5 : q < 512 := hq
    refine rz_putrow hx hb hts hin ty0 hty hnm hown hK hW.2.2.2 q hat hc f hf hlink hsame hfin hpd hnar hfit (by unfold rz_fs; rw [List.length_map, List.length_range]; exact (List.getElem?_eq_some_iff.mp ht).1) hd (fun H1 loc eb eat ez eo => ?_)
    have hwd := rz_wd_set hA hW hlt (C := rz_p (rz_gt 9 g q) (Nat.add 32 (Nat.mul 64 f)) (rz_g64 (rz_gt 9 g q) f) x) (by rw [rz_head64 hx64, hh, rz_e_obj, rz_fs_set ht hx64, ← hvx]; exact eat) ez eo
    exact hk L U _ h ls H1 _ hL hwd ⟨by rw [ez]; exact hS.1, fun y y1 y2 => by rw [eo y (fun z => y2 (by rw [z]; show rz_b G ≤ rz_ad G q; rw [hA q hq5]; omega))]; exact hS.2.1 y y1 y2, fun y hy => by
      rcases List.mem_append.mp hy with z | z
      · exact hS.2.2 y z
      · rw [List.mem_singleton.mp z, eb]
        show rz_b G ≤ rz_ad G q
        rw [hA q hq5]
        omega⟩ h0
  · cases h
end RZH
