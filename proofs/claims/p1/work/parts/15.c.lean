/-! The law's end, out of its runs. -/
theorem lw_nI (x : Int32) : nI x.toBitVec.toNat = x := by
  apply Int32.toBitVec_inj.mp
  apply BitVec.eq_of_toNat_eq
  rw [rz_nI_toNat]
  exact Nat.mod_eq_of_lt x.toBitVec.isLt
theorem lw_and63 (x : Int32) : ∃ o, o < 64 ∧ x &&& nI 63 = nI o := by
  refine ⟨(x &&& nI 63).toBitVec.toNat, ?_, (lw_nI _).symm⟩
  rw [Int32.toBitVec_and, BitVec.toNat_and, rz_nI_toNat]
  have := Nat.and_le_right (n := x.toBitVec.toNat) (m := 63 % 4294967296)
  omega
theorem lw_byte {x : Int32} (h1 : ¬ x < 0) (h2 : ¬ 255 < x) : ∃ c, c < 256 ∧ nI c = x := by
  refine ⟨x.toBitVec.toNat, ?_, lw_nI x⟩
  have a1 := Int32.not_lt.mp h1
  have a2 := Int32.not_lt.mp h2
  have b1 : (0 : Int) ≤ x.toInt := by simpa using Int32.le_iff_toInt_le.mp a1
  have b2 : x.toInt ≤ 255 := by simpa using Int32.le_iff_toInt_le.mp a2
  have e : x.toInt = x.toBitVec.toInt := rfl
  rw [e, BitVec.toInt_eq_toNat_cond] at b1 b2
  have := x.toBitVec.isLt
  split at b1 <;> omega
theorem rz_z0 : ∀ q, q < 512 → rz_gt 9 rs_z q = 0 := by decide +kernel
theorem lw_knd : ∀ o, o < 64 → lw_kn o = true → o = 0 ∨ o = 1 ∨ o = 2 ∨ o = 5 ∨ o = 27 ∨ o = 29 := by decide +kernel
section LWE
variable {G : rz_G} {p : Program} {l : Launch} {e : Env} {s : State} {m : MethodId} {b : Nat} {below : List Frame} {meth : Method} {c : Code}
theorem lw_end {nn o : Nat} {vals : List rz_V} {x0 : Int32} {xs : Nat → Int32} (hG : rz_Gd G) (hC : rz_Cx G rz_TB x code 4 ret room_1 p room_1 s m #[Value.ref b] meth c) (htsL : ∀ w ∈ rz_LW ++ rz_TB, w.before #[Value.ref b] s = true) (hX : va_X (rz_ad G 3000000) nn xs s s.heap) (hbl : rz_ad G 3000000 < s.heap.size) (hbA : ¬ rz_b G ≤ rz_ad G 3000000) (hbs : rz_b G = s.heap.size) (hn : vals.length = nn) (hn2 : nn ≤ 6) (hv : ∀ (i : Nat) (v : rz_V), vals[i]? = some v → rz_v G v = .int (xs i)) (hw : rz_v G (rz_y 1) = .int x0) (ho : x0 &&& nI 63 = nI o) (hrun : lw_run nn vals o = true) : rz_Ok G p l e room_1 s m #[Value.ref b] below meth c (lw_Z below #[Value.ref b] s) 4 cL 18 lw_K18 := by
  have hA := rL_ok (p := p) (l := l) (e := e) (below := below) (Z := fun _ _ => false) hG hC htsL hX hbl hbA hn hn2 hv hw ho hbs
  have hR := rz_run_ok (P := fun i K => rz_Ok G p l e room_1 s m #[Value.ref b] below meth c (lw_Z below #[Value.ref b] s) 4 cL (rpL.getD i 0) K) (fun i L S M h => by cases h) (X := fun _ _ _ _ => false) hA (fun j L S M h => by cases h) 1000 0
  intro L S M h
  obtain ⟨rfl, h1⟩ := rz_nil_t h
  rcases rz_if_t h1 with ⟨h2, h3⟩ | ⟨-, h3⟩
  · have h2 := rz_leq_t h2
    have h5 : M = lwM := rz_meq_t h3
    subst h2
    subst h5
    exact hR lwL [] lwM hrun
  · cases h3
theorem lw_six {o : Nat} {v1 : rz_V} {xs : Nat → Int32} (hG : rz_Gd G) (hC : rz_Cx G rz_TB x code 4 ret room_1 p room_1 s m #[Value.ref b] meth c) (htsL : ∀ w ∈ rz_LW ++ rz_TB, w.before #[Value.ref b] s = true) (hX : va_X (rz_ad G 3000000) 6 xs s s.heap) (hbl : rz_ad G 3000000 < s.heap.size) (hbA : ¬ rz_b G ≤ rz_ad G 3000000) (hbs : rz_b G = s.heap.size) (hy : ∀ k, k < 100 → rz_v G (rz_y (k + 1)) = .int (xs k)) (hv1 : rz_v G v1 = .int (xs 1)) (ho : xs 0 &&& nI 63 = nI o) (hrun : lw_run 6 [rz_y 1, v1, rz_y 3, rz_y 4, rz_y 5, rz_y 6] o = true) : rz_Ok G p l e room_1 s m #[Value.ref b] below meth c (lw_Z below #[Value.ref b] s) 4 cL 18 lw_K18 := by
  exact lw_end hG hC htsL hX hbl hbA hbs rfl (by decide) (fun i v hi => by
    match i, hi with
    | 0, hi => cases hi; exact hy 0 (by decide)
    | 1, hi => cases hi; exact hv1
    | 2, hi => cases hi; exact hy 2 (by decide)
    | 3, hi => cases hi; exact hy 3 (by decide)
    | 4, hi => cases hi; exact hy 4 (by decide)
    | 5, hi => cases hi; exact hy 5 (by decide)
    | i + 6, hi => simp at hi) (hy 0 (by decide)) ho hrun
theorem lw_law {L : Nat} {xs : Nat → Int32} (hG : rz_Gd G) (hC : rz_Cx G rz_TB x code 4 ret room_1 p room_1 s m #[Value.ref b] meth c) (htsL : ∀ w ∈ rz_LW ++ rz_TB, w.before #[Value.ref b] s = true) (hL : L ≤ 6) (hX : va_X (rz_ad G 3000000) L xs s s.heap) (hbl : rz_ad G 3000000 < s.heap.size) (hbA : ¬ rz_b G ≤ rz_ad G 3000000) (hbs : rz_b G = s.heap.size) (hxs : rz_xs G = lw_xs xs) (hfeed : L = 6 → xs 0 &&& nI 63 = nI 0 → rz_Ok G p l e room_1 s m #[Value.ref b] below meth c (lw_Z below #[Value.ref b] s) 4 cL 18 lw_K18) : rz_Ok G p l e room_1 s m #[Value.ref b] below meth c (lw_Z below #[Value.ref b] s) 4 cL 18 lw_K18 := by
  obtain ⟨o, ho, hand⟩ := lw_and63 (xs 0)
  have hy : ∀ k, k < 100 → rz_v G (rz_y (k + 1)) = .int (xs k) := fun k hk => by
    show Value.int (rz_xs G k) = _
    rw [hxs]
    unfold lw_xs
    rw [if_pos hk]
  rcases (show L = 0 ∨ L = 1 ∨ L = 2 ∨ L = 3 ∨ L = 4 ∨ L = 5 ∨ L = 6 by omega) with rfl | rfl | rfl | rfl | rfl | rfl | rfl
  · exact lw_end hG hC htsL hX hbl hbA hbs rfl (by decide) (fun i v hi => by simp at hi) (hy 0 (by decide)) hand (lw_rS0 o ho)
  · exact lw_end hG hC htsL hX hbl hbA hbs rfl (by decide) (fun i v hi => by
    match i, hi with
    | 0, hi => cases hi; exact hy 0 (by decide)
    | i + 1, hi => simp at hi) (hy 0 (by decide)) hand (lw_rS1 o ho)
  · exact lw_end hG hC htsL hX hbl hbA hbs rfl (by decide) (fun i v hi => by
    match i, hi with
    | 0, hi => cases hi; exact hy 0 (by decide)
    | 1, hi => cases hi; exact hy 1 (by decide)
    | i + 2, hi => simp at hi) (hy 0 (by decide)) hand (lw_rS2 o ho)
  · exact lw_end hG hC htsL hX hbl hbA hbs rfl (by decide) (fun i v hi => by
    match i, hi with
    | 0, hi => cases hi; exact hy 0 (by decide)
    | 1, hi => cases hi; exact hy 1 (by decide)
    | 2, hi => cases hi; exact hy 2 (by decide)
    | i + 3, hi => simp at hi) (hy 0 (by decide)) hand (lw_rS3 o ho)
  · exact lw_end hG hC htsL hX hbl hbA hbs rfl (by decide) (fun i v hi => by
    match i, hi with
    | 0, hi => cases hi; exact hy 0 (by decide)
    | 1, hi => cases hi; exact hy 1 (by decide)
    | 2, hi => cases hi; exact hy 2 (by decide)
    | 3, hi => cases hi; exact hy 3 (by decide)
    | i + 4, hi => simp at hi) (hy 0 (by decide)) hand (lw_rS4 o ho)
  · exact lw_end hG hC htsL hX hbl hbA hbs rfl (by decide) (fun i v hi => by
    match i, hi with
    | 0, hi => cases hi; exact hy 0 (by decide)
    | 1, hi => cases hi; exact hy 1 (by decide)
    | 2, hi => cases hi; exact hy 2 (by decide)
    | 3, hi => cases hi; exact hy 3 (by decide)
    | 4, hi => cases hi; exact hy 4 (by decide)
    | i + 5, hi => simp at hi) (hy 0 (by decide)) hand (lw_rS5 o ho)
  · have hneg : xs 1 < 0 → rz_v G (rz_y 101) = .int (xs 1) := fun h => by
      show Value.int (rz_xs G 100) = _
      rw [hxs]
      unfold lw_xs
      rw [if_neg (by decide), if_pos (by decide), if_pos h]
    have hbig : 255 < xs 1 → rz_v G (rz_y 201) = .int (xs 1) := fun h => by
      show Value.int (rz_xs G 200) = _
      rw [hxs]
      unfold lw_xs
      rw [if_neg (by decide), if_neg (by decide), if_pos h]
    by_cases hk : lw_kn o = true
    · rcases lw_knd o ho hk with rfl | rfl | rfl | rfl | rfl | rfl
      · exact hfeed rfl hand
      · by_cases h1 : xs 1 < 0
        · exact lw_six hG hC htsL hX hbl hbA hbs hy (hneg h1) hand lw_rN1
        · by_cases h2 : 255 < xs 1
          · exact lw_six hG hC htsL hX hbl hbA hbs hy (hbig h2) hand lw_rB1
          · obtain ⟨q, hq, e1⟩ := lw_byte h1 h2
            exact lw_six hG hC htsL hX hbl hbA hbs hy (v1 := rz_i q) (by rw [← e1]; rfl) hand (lw_rC1 q hq)
      · by_cases h1 : xs 1 < 0
        · exact lw_six hG hC htsL hX hbl hbA hbs hy (hneg h1) hand lw_rN2
        · by_cases h2 : 255 < xs 1
          · exact lw_six hG hC htsL hX hbl hbA hbs hy (hbig h2) hand lw_rB2
          · obtain ⟨q, hq, e1⟩ := lw_byte h1 h2
            exact lw_six hG hC htsL hX hbl hbA hbs hy (v1 := rz_i q) (by rw [← e1]; rfl) hand (lw_rC2 q hq)
      · by_cases h1 : xs 1 < 0
        · exact lw_six hG hC htsL hX hbl hbA hbs hy (hneg h1) hand lw_rN5
        · by_cases h2 : 255 < xs 1
          · exact lw_six hG hC htsL hX hbl hbA hbs hy (hbig h2) hand lw_rB5
          · obtain ⟨q, hq, e1⟩ := lw_byte h1 h2
            exact lw_six hG hC htsL hX hbl hbA hbs hy (v1 := rz_i q) (by rw [← e1]; rfl) hand (lw_rC5 q hq)
      · by_cases h1 : xs 1 < 0
        · exact lw_six hG hC htsL hX hbl hbA hbs hy (hneg h1) hand lw_rN27
        · by_cases h2 : 255 < xs 1
          · exact lw_six hG hC htsL hX hbl hbA hbs hy (hbig h2) hand lw_rB27
          · obtain ⟨q, hq, e1⟩ := lw_byte h1 h2
            exact lw_six hG hC htsL hX hbl hbA hbs hy (v1 := rz_i q) (by rw [← e1]; rfl) hand (lw_rC27 q hq)
      · by_cases h1 : xs 1 < 0
        · exact lw_six hG hC htsL hX hbl hbA hbs hy (hneg h1) hand lw_rN29
        · by_cases h2 : 255 < xs 1
          · exact lw_six hG hC htsL hX hbl hbA hbs hy (hbig h2) hand lw_rB29
          · obtain ⟨q, hq, e1⟩ := lw_byte h1 h2
            exact lw_six hG hC htsL hX hbl hbA hbs hy (v1 := rz_i q) (by rw [← e1]; rfl) hand (lw_rC29 q hq)
    · have h1 := lw_rA o ho
      rw [Bool.not_eq_true] at hk
      rw [hk, Bool.false_or] at h1
      exact lw_six hG hC htsL hX hbl hbA hbs hy (hy 1 (by decide)) hand h1
end LWE
theorem lw_start {p : Program} {e : Env} {s : State} {m : MethodId} {below : List Frame} {meth : Method} {c : Code} (l : Launch) {b L : Nat} {xs : Nat → Int32} (hL : L ≤ 6) (C0 : lw_At p s m meth c b L xs) (hfeed : ∀ G : rz_G, rz_Gd G → rz_Cx G rz_TB x code 4 ret room_1 p room_1 s m #[Value.ref b] meth c → (∀ w ∈ rz_LW ++ rz_TB, w.before #[Value.ref b] s = true) → va_X (rz_ad G 3000000) 6 xs s s.heap → rz_ad G 3000000 < s.heap.size → ¬ rz_b G ≤ rz_ad G 3000000 → rz_b G = s.heap.size → rz_xs G = lw_xs xs → xs 0 &&& nI 63 = nI 0 → rz_Ok G p l e room_1 s m #[Value.ref b] below meth c (lw_Z below #[Value.ref b] s) 4 cL 18 lw_K18) : W p l e room_1 s m #[Value.ref b] below meth c s.heap [] 0 0 (lw_Z below #[Value.ref b] s) (entryFrame m ([Value.ref b] : List Value).toArray 4) := by
  obtain ⟨hx, hb, hr, hml, hown, hts, hX, hbl, hlocks, hgv, hcode⟩ := id C0
  obtain ⟨G, hG, hKn, hbs, hadb, hxs⟩ := lw_ground xs hts hgv
  have htb : ∀ w ∈ rz_LW ++ rz_TB, w.before #[Value.ref b] s = true := fun w hw => by
    rcases List.mem_append.mp hw with q | q
    · exact lw_LW w q _ _ hts
    · exact lw_TB w q _ _ hts
  have hC : rz_Cx G rz_TB x code 4 ret room_1 p room_1 s m #[Value.ref b] meth c := ⟨hx, hb, hml, hr, hlocks, hown, fun w hw => by
    rcases List.mem_cons.mp hw with rfl | hw
    · exact hcode
    · exact htb w (List.mem_append_right _ hw), hKn, rfl⟩
  have hX' : va_X (rz_ad G 3000000) L xs s s.heap := by rw [hadb]; exact hX
  have hbl' : rz_ad G 3000000 < s.heap.size := by rw [hadb]; exact hbl
  have hbA : ¬ rz_b G ≤ rz_ad G 3000000 := by rw [hadb, hbs]; exact Nat.not_le.mpr hbl
  have hend := lw_law (l := l) (e := e) (below := below) hG hC htb hL hX' hbl' hbA hbs hxs (fun h6 h0 => hfeed G hG hC htb (by rw [← h6]; exact hX') hbl' hbA hbs hxs h0)
  have ev : rz_v G (rz_r 3000001) = .ref b := by
    show Value.ref (rz_ad G 3000000) = _
    rw [hadb]
  have hl := rz_entry (G := G) (vs := [rz_r 3000001]) (n := 4) (fun v hv => by
    rcases List.mem_singleton.mp hv with rfl
    rw [ev]
    rfl) (by decide)
  rw [List.map_cons, ev, List.map_nil] at hl
  rw [lg_entry_eq]
  exact lw_begin hG hC htb hend (fun _ _ _ _ => false) (fun _ _ => false) [rz_r 3000001, rz_o, rz_o, rz_o] [] (rs_z, 0, 0) lw_made _ s.heap [] hl ⟨hbs.symm, Nat.zero_le _, fun q _ hq => rz_z0 q hq, fun k q h => by simp [rz_den] at h⟩ va_S.rf trivial
