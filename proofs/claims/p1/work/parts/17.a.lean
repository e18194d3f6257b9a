/-! The law's call of feed. -/
theorem dL_law_209 : decode cL_law 209 = .ok (.aload_n 0, 1) := by decide +kernel
theorem dL_law_210 : decode cL_law 210 = .ok (.iload_n 3, 1) := by decide +kernel
theorem dL_law_211 : decode cL_law 211 = .ok (.iconst 1, 1) := by decide +kernel
theorem dL_law_212 : decode cL_law 212 = .ok (.iadd, 1) := by decide +kernel
theorem dL_law_213 : decode cL_law 213 = .ok (.iaload, 1) := by decide +kernel
theorem dL_law_214 : decode cL_law 214 = .ok (.aload_n 0, 1) := by decide +kernel
theorem dL_law_215 : decode cL_law 215 = .ok (.iload_n 3, 1) := by decide +kernel
theorem dL_law_216 : decode cL_law 216 = .ok (.iconst 2, 1) := by decide +kernel
theorem dL_law_217 : decode cL_law 217 = .ok (.iadd, 1) := by decide +kernel
theorem dL_law_218 : decode cL_law 218 = .ok (.iaload, 1) := by decide +kernel
theorem dL_law_219 : decode cL_law 219 = .ok (.aload_n 0, 1) := by decide +kernel
theorem dL_law_220 : decode cL_law 220 = .ok (.iload_n 3, 1) := by decide +kernel
theorem dL_law_221 : decode cL_law 221 = .ok (.iconst 3, 1) := by decide +kernel
theorem dL_law_222 : decode cL_law 222 = .ok (.iadd, 1) := by decide +kernel
theorem dL_law_223 : decode cL_law 223 = .ok (.iaload, 1) := by decide +kernel
theorem dL_law_224 : decode cL_law 224 = .ok (.aload_n 0, 1) := by decide +kernel
theorem dL_law_225 : decode cL_law 225 = .ok (.iload_n 3, 1) := by decide +kernel
theorem dL_law_226 : decode cL_law 226 = .ok (.iconst 4, 1) := by decide +kernel
theorem dL_law_227 : decode cL_law 227 = .ok (.iadd, 1) := by decide +kernel
theorem dL_law_228 : decode cL_law 228 = .ok (.iaload, 1) := by decide +kernel
theorem dL_law_229 : decode cL_law 229 = .ok (.aload_n 0, 1) := by decide +kernel
theorem dL_law_230 : decode cL_law 230 = .ok (.iload_n 3, 1) := by decide +kernel
theorem dL_law_231 : decode cL_law 231 = .ok (.iconst 5, 1) := by decide +kernel
theorem dL_law_232 : decode cL_law 232 = .ok (.iadd, 1) := by decide +kernel
theorem dL_law_233 : decode cL_law 233 = .ok (.iaload, 1) := by decide +kernel
theorem dL_law_234 : decode cL_law 234 = .ok (.invokevirtual 13, 3) := by decide +kernel
theorem dL_law_237 : decode cL_law 237 = .ok (.aload_n 2, 1) := by decide +kernel
theorem dL_law_238 : decode cL_law 238 = .ok (.aload_n 0, 1) := by decide +kernel
theorem dL_law_239 : decode cL_law 239 = .ok (.iload_n 3, 1) := by decide +kernel
theorem dL_law_240 : decode cL_law 240 = .ok (.iconst 1, 1) := by decide +kernel
theorem dL_law_241 : decode cL_law 241 = .ok (.iadd, 1) := by decide +kernel
theorem dL_law_242 : decode cL_law 242 = .ok (.iaload, 1) := by decide +kernel
theorem dL_law_243 : decode cL_law 243 = .ok (.aload_n 0, 1) := by decide +kernel
theorem dL_law_244 : decode cL_law 244 = .ok (.iload_n 3, 1) := by decide +kernel
theorem dL_law_245 : decode cL_law 245 = .ok (.iconst 2, 1) := by decide +kernel
theorem dL_law_246 : decode cL_law 246 = .ok (.iadd, 1) := by decide +kernel
theorem dL_law_247 : decode cL_law 247 = .ok (.iaload, 1) := by decide +kernel
theorem dL_law_248 : decode cL_law 248 = .ok (.aload_n 0, 1) := by decide +kernel
theorem dL_law_249 : decode cL_law 249 = .ok (.iload_n 3, 1) := by decide +kernel
theorem dL_law_250 : decode cL_law 250 = .ok (.iconst 3, 1) := by decide +kernel
theorem dL_law_251 : decode cL_law 251 = .ok (.iadd, 1) := by decide +kernel
theorem dL_law_252 : decode cL_law 252 = .ok (.iaload, 1) := by decide +kernel
theorem dL_law_253 : decode cL_law 253 = .ok (.aload_n 0, 1) := by decide +kernel
theorem dL_law_254 : decode cL_law 254 = .ok (.iload_n 3, 1) := by decide +kernel
theorem dL_law_255 : decode cL_law 255 = .ok (.iconst 4, 1) := by decide +kernel
theorem dL_law_256 : decode cL_law 256 = .ok (.iadd, 1) := by decide +kernel
theorem dL_law_257 : decode cL_law 257 = .ok (.iaload, 1) := by decide +kernel
theorem dL_law_258 : decode cL_law 258 = .ok (.aload_n 0, 1) := by decide +kernel
theorem dL_law_259 : decode cL_law 259 = .ok (.iload_n 3, 1) := by decide +kernel
theorem dL_law_260 : decode cL_law 260 = .ok (.iconst 5, 1) := by decide +kernel
theorem dL_law_261 : decode cL_law 261 = .ok (.iadd, 1) := by decide +kernel
theorem dL_law_262 : decode cL_law 262 = .ok (.iaload, 1) := by decide +kernel
theorem dL_law_263 : decode cL_law 263 = .ok (.invokevirtual 17, 3) := by decide +kernel
theorem dL_law_266 : decode cL_law 266 = .ok (.if_icmp .eq 1194, 3) := by decide +kernel
def rz_LF : List Cond := [Cond.methodLink "ThreadJudgeLaw" 13 yX11_feed, Cond.instanceMethod yX11_feed, Cond.selects RX11 yX11_feed yX11_feed, Cond.initialized RX11, Cond.code yX11_feed cX11_feed 6 (some .int), Cond.methodLink "ThreadJudgeLaw" 17 yX12_feed, Cond.instanceMethod yX12_feed, Cond.selects RX12 yX12_feed yX12_feed, Cond.initialized RX12, Cond.code yX12_feed cX12_feed 8 (some .int)]
set_option maxRecDepth 100000 in
theorem lw_LF : ∀ w ∈ rz_LF, lw_ok w := List.forall_mem_cons.mpr ⟨lw_of (lw_in5 _ (List.mem_of_getElem? (i := 158) (by decide +kernel))), List.forall_mem_cons.mpr ⟨lw_of (lw_in5 _ (List.mem_of_getElem? (i := 159) (by decide +kernel))), List.forall_mem_cons.mpr ⟨lw_of (lw_in5 _ (List.mem_of_getElem? (i := 160) (by decide +kernel))), List.forall_mem_cons.mpr ⟨lw_of (lw_in1 _ (List.mem_of_getElem? (i := 1) (by decide +kernel))), List.forall_mem_cons.mpr ⟨lw_of (lw_in5 _ (List.mem_of_getElem? (i := 161) rfl)), List.forall_mem_cons.mpr ⟨lw_of (lw_in17 _ (List.mem_of_getElem? (i := 45) (by decide +kernel))), List.forall_mem_cons.mpr ⟨lw_of (lw_in17 _ (List.mem_of_getElem? (i := 46) (by decide +kernel))), List.forall_mem_cons.mpr ⟨lw_of (lw_in17 _ (List.mem_of_getElem? (i := 47) (by decide +kernel))), List.forall_mem_cons.mpr ⟨lw_of (lw_in1 _ (List.mem_of_getElem? (i := 23) (by decide +kernel))), List.forall_mem_cons.mpr ⟨lw_of (lw_in17 _ (List.mem_of_getElem? (i := 48) rfl)), fun _ h => absurd h List.not_mem_nil⟩⟩⟩⟩⟩⟩⟩⟩⟩⟩
theorem lw_goodF : GoodIn (rz_LF ++ (rz_FW ++ rz_TB)) (rz_LF ++ (rz_FW ++ rz_TB)) := by
  have h : (rz_LF ++ (rz_FW ++ rz_TB)).all goodWord = true := by decide +kernel
  exact fun w hw => ⟨hw, good_of_word (List.all_eq_true.mp h w hw)⟩
theorem lw_cwF {s : State} {args : Array Value} {own C : String} {index maxL : Nat} {y : MethodName} {bytes : ByteArray} {rt2 : Option FieldType} {rm2 : Room} (n : Nat) (hts : ∀ w ∈ rz_LF ++ (rz_FW ++ rz_TB), w.before args s = true) (h1 : Cond.methodLink own index y ∈ rz_LF ++ (rz_FW ++ rz_TB)) (h2 : Cond.instanceMethod y ∈ rz_LF ++ (rz_FW ++ rz_TB)) (h3 : Cond.selects C y y ∈ rz_LF ++ (rz_FW ++ rz_TB)) (h4 : Cond.initialized C ∈ rz_LF ++ (rz_FW ++ rz_TB)) (h5 : Cond.code y bytes maxL rt2 ∈ rz_LF ++ (rz_FW ++ rz_TB)) (hq : y.cls = C ∧ y.cls ≠ "java/lang/invoke/MethodHandle" ∧ y.cls ≠ "java/lang/invoke/VarHandle" ∧ (parseMethodDescriptor y.desc).map (fun d => d.parameters.length) = some n) (hc : rm2.cells = 0) (hs : rm2.slots = 0) (hr : rm2.frames + 1 ≤ room_1.frames ∧ 8 + (maxL + 11) + rm2.locals ≤ room_1.locals) : CallW room_1 s args own C index y bytes maxL rt2 (.code y bytes maxL rt2 :: (rz_FW ++ rz_TB)) rm2 0 0 n := by
  refine cwV (Ts := rz_LF ++ (rz_FW ++ rz_TB)) n hts (fun w hw => ?_) rfl hc hs hq hr
  have : w ∈ rz_LF ++ (rz_FW ++ rz_TB) := by
    unfold wsV at hw
    simp only [List.cons_append, List.nil_append, List.mem_cons] at hw
    rcases hw with rfl | rfl | rfl | rfl | rfl | hw
    · assumption
    · assumption
    · assumption
    · assumption
    · assumption
    · exact List.mem_append_right _ hw
  exact ⟨this, (lw_goodF w this).2⟩
noncomputable def rz_exS (L S : rz_L) (F : Nat → rz_M) (hd : Nat) : rz_K := fun L' S' M' => @ite Bool (L' = L ∧ S' = S ∧ ∃ B', rz_head B' = hd ∧ M' = F B') (Classical.propDecidable _) true false
theorem rz_exS_t {L L' S S' : rz_L} {F : Nat → rz_M} {hd : Nat} {M' : rz_M} (h : rz_exS L S F hd L' S' M' = true) : L' = L ∧ S' = S ∧ ∃ B', rz_head B' = hd ∧ M' = F B' := by
  unfold rz_exS at h
  split at h
  · assumption
  · cases h
theorem rz_exS_i {L S : rz_L} {F : Nat → rz_M} {hd B' : Nat} (h : rz_head B' = hd) : rz_exS L S F hd L S (F B') = true := by
  unfold rz_exS
  exact if_pos ⟨rfl, rfl, B', h, rfl⟩
noncomputable def rf_fx (B C m0 : Nat) : rz_L → rz_M → rz_Z → Bool := fun vs M Z => @ite Bool (vs = [rz_r 1, rz_y 2, rz_y 3, rz_y 4, rz_y 5, rz_y 6] ∧ M = lwF B C 7743323919119509936942967262495019801250015106439053398037678316263411824396246168630810677428547561118879889989276508642946417457979347158600814892906774293247131029318106826248328831740459857587819064845062496084949009570525196595786177889811408062905643362042667568847747679237329576890695833095425 m0 ∧ ∀ B1, rz_head B1 = 3072005 → Z (rz_i 20) (lwF B1 C 7743323919119509936942967262495019801250015106439053398037678316263411824396246168630810677428547561118879889989276508642946417457979347158600814892906774293247131029318106826248328831740459857587819064845062496084949009570525196595786177889811408062905643362042667568849332242487614863642566712102145 m0) = true) (Classical.propDecidable _) true false
theorem rf_fx_ok (l : Launch) {G : rz_G} (hG : rz_Gd G) {B C m0 : Nat} (hB : rz_head B = 3072005) (vs : rz_L) (M : rz_M) (Z : rz_Z) (hn : vs.length = 5 + 1) (h : rf_fx B C m0 vs M Z = true) : Met l yX11_feed (Cond.code yX11_feed cX11_feed 6 (some .int) :: (rz_FW ++ rz_TB)) rrX11_feed (rz_Pre G vs M) (rz_Qi G M.2 Z) 0 0 (fun q => rz_b G ≤ q) := by
  unfold rf_fx at h
  split at h
  · obtain ⟨rfl, rfl, hZ⟩ := ‹_ ∧ _ ∧ _›
    exact rm_fx l hG B C m0 hB Z hZ
  · cases h
noncomputable def rf_fm (B C x : Nat) : rz_L → rz_M → rz_Z → Bool := fun vs M Z => @ite Bool (vs = [rz_r 215, rz_y 2, rz_y 3, rz_y 4, rz_y 5, rz_y 6] ∧ M = lwF B C x rq_m0 ∧ ∀ B1, rz_head B1 = 3072004 → Z (rz_i 20) (lwF B B1 x rq_m20) = true) (Classical.propDecidable _) true false
theorem rf_fm_ok (l : Launch) {G : rz_G} (hG : rz_Gd G) {B C x : Nat} (hB : rz_head C = 3072004) (vs : rz_L) (M : rz_M) (Z : rz_Z) (hn : vs.length = 5 + 1) (h : rf_fm B C x vs M Z = true) : Met l yX12_feed (Cond.code yX12_feed cX12_feed 8 (some .int) :: (rz_FW ++ rz_TB)) rrX12_feed (rz_Pre G vs M) (rz_Qi G M.2 Z) 0 0 (fun q => rz_b G ≤ q) := by
  unfold rf_fm at h
  split at h
  · obtain ⟨rfl, rfl, hZ⟩ := ‹_ ∧ _ ∧ _›
    exact rm_fm l hG B C x hB Z hZ
  · cases h
def rpF : List Nat := [208, 209, 210, 211, 212, 213, 214, 215, 216, 217, 218, 219, 220, 221, 222, 223, 224, 225, 226, 227, 228, 229, 230, 231, 232, 233, 234, 237, 238, 239, 240, 241, 242, 243, 244, 245, 246, 247, 248, 249, 250, 251, 252, 253, 254, 255, 256, 257, 258, 259, 260, 261, 262, 263, 266, 269, 1460]
noncomputable def rcF : List rz_B := [rz_aload 1, rz_aload 0, rz_iload 3, rz_cst 1, rz_iadd, rz_sld [rz_y 1, rz_y 2, rz_y 3, rz_y 4, rz_y 5, rz_y 6], rz_aload 0, rz_iload 3, rz_cst 2, rz_iadd, rz_sld [rz_y 1, rz_y 2, rz_y 3, rz_y 4, rz_y 5, rz_y 6], rz_aload 0, rz_iload 3, rz_cst 3, rz_iadd, rz_sld [rz_y 1, rz_y 2, rz_y 3, rz_y 4, rz_y 5, rz_y 6], rz_aload 0, rz_iload 3, rz_cst 4, rz_iadd, rz_sld [rz_y 1, rz_y 2, rz_y 3, rz_y 4, rz_y 5, rz_y 6], rz_aload 0, rz_iload 3, rz_cst 5, rz_iadd, rz_sld [rz_y 1, rz_y 2, rz_y 3, rz_y 4, rz_y 5, rz_y 6], rz_goto 26, rz_aload 2, rz_aload 0, rz_iload 3, rz_cst 1, rz_iadd, rz_sld [rz_y 1, rz_y 2, rz_y 3, rz_y 4, rz_y 5, rz_y 6], rz_aload 0, rz_iload 3, rz_cst 2, rz_iadd, rz_sld [rz_y 1, rz_y 2, rz_y 3, rz_y 4, rz_y 5, rz_y 6], rz_aload 0, rz_iload 3, rz_cst 3, rz_iadd, rz_sld [rz_y 1, rz_y 2, rz_y 3, rz_y 4, rz_y 5, rz_y 6], rz_aload 0, rz_iload 3, rz_cst 4, rz_iadd, rz_sld [rz_y 1, rz_y 2, rz_y 3, rz_y 4, rz_y 5, rz_y 6], rz_aload 0, rz_iload 3, rz_cst 5, rz_iadd, rz_sld [rz_y 1, rz_y 2, rz_y 3, rz_y 4, rz_y 5, rz_y 6], rz_goto 53, rz_icmpeq 56, rz_no, rz_no]
set_option maxRecDepth 100000 in
theorem rF_ok {G : rz_G} {p : Program} {l : Launch} {e : Env} {s : State} {m : MethodId} {b : Nat} {below : List Frame} {meth : Method} {c : Code} {xs : Nat → Int32} {Z : rz_Z} (hG : rz_Gd G) (hC : rz_Cx G (rz_FW ++ rz_TB) x code 4 ret room_1 p room_1 s m #[Value.ref b] meth c) (hX : va_X (rz_ad G 3000000) 6 xs s s.heap) (hbl : rz_ad G 3000000 < s.heap.size) (hbA : ¬ rz_b G ≤ rz_ad G 3000000) (hv : ∀ (i : Nat) (v : rz_V), ([rz_y 1, rz_y 2, rz_y 3, rz_y 4, rz_y 5, rz_y 6] : List rz_V)[i]? = some v → rz_v G v = .int (xs i)) : rz_All (rz_Fc G p l e room_1 s m #[Value.ref b] below meth c (lw_Z below #[Value.ref b] s) 4 cL Z rpF) 0 rcF := by
  obtain ⟨D, tc, ad, bb, xx, rfl⟩ := id hG
  obtain ⟨hx, hb, hml, hr, hlk, hown, hts, hKn, hRm⟩ := id hC
  refine rz_All_c (i := 0) (fun k J hk hJ => rz_aload_n_ok (pc := 208) hx hb dL_law_208 rfl hk) ?_
  refine rz_All_c (i := 1) (fun k J hk hJ => rz_aload_n_ok (pc := 209) hx hb dL_law_209 rfl hk) ?_
  refine rz_All_c (i := 2) (fun k J hk hJ => rz_iload_n_ok (pc := 210) hx hb dL_law_210 rfl hk) ?_
  refine rz_All_c (i := 3) (fun k J hk hJ => rz_iconst_ok (pc := 211) hx hb dL_law_211 rfl hk) ?_
  refine rz_All_c (i := 4) (fun k J hk hJ => rz_iadd_ok (pc := 212) hx hb dL_law_212 hk) ?_
  refine rz_All_c (i := 5) (fun k J hk hJ => rz_sld_ok (pc := 213) (vals := [rz_y 1, rz_y 2, rz_y 3, rz_y 4, rz_y 5, rz_y 6]) hx hb hX hbl hbA rfl (by decide) hv dL_law_213 hk) ?_
  refine rz_All_c (i := 6) (fun k J hk hJ => rz_aload_n_ok (pc := 214) hx hb dL_law_214 rfl hk) ?_
  refine rz_All_c (i := 7) (fun k J hk hJ => rz_iload_n_ok (pc := 215) hx hb dL_law_215 rfl hk) ?_
  refine rz_All_c (i := 8) (fun k J hk hJ => rz_iconst_ok (pc := 216) hx hb dL_law_216 rfl hk) ?_
  refine rz_All_c (i := 9) (fun k J hk hJ => rz_iadd_ok (pc := 217) hx hb dL_law_217 hk) ?_
  refine rz_All_c (i := 10) (fun k J hk hJ => rz_sld_ok (pc := 218) (vals := [rz_y 1, rz_y 2, rz_y 3, rz_y 4, rz_y 5, rz_y 6]) hx hb hX hbl hbA rfl (by decide) hv dL_law_218 hk) ?_
  refine rz_All_c (i := 11) (fun k J hk hJ => rz_aload_n_ok (pc := 219) hx hb dL_law_219 rfl hk) ?_
  refine rz_All_c (i := 12) (fun k J hk hJ => rz_iload_n_ok (pc := 220) hx hb dL_law_220 rfl hk) ?_
  refine rz_All_c (i := 13) (fun k J hk hJ => rz_iconst_ok (pc := 221) hx hb dL_law_221 rfl hk) ?_
  refine rz_All_c (i := 14) (fun k J hk hJ => rz_iadd_ok (pc := 222) hx hb dL_law_222 hk) ?_
  refine rz_All_c (i := 15) (fun k J hk hJ => rz_sld_ok (pc := 223) (vals := [rz_y 1, rz_y 2, rz_y 3, rz_y 4, rz_y 5, rz_y 6]) hx hb hX hbl hbA rfl (by decide) hv dL_law_223 hk) ?_
  refine rz_All_c (i := 16) (fun k J hk hJ => rz_aload_n_ok (pc := 224) hx hb dL_law_224 rfl hk) ?_
  refine rz_All_c (i := 17) (fun k J hk hJ => rz_iload_n_ok (pc := 225) hx hb dL_law_225 rfl hk) ?_
  refine rz_All_c (i := 18) (fun k J hk hJ => rz_iconst_ok (pc := 226) hx hb dL_law_226 rfl hk) ?_
  refine rz_All_c (i := 19) (fun k J hk hJ => rz_iadd_ok (pc := 227) hx hb dL_law_227 hk) ?_
  refine rz_All_c (i := 20) (fun k J hk hJ => rz_sld_ok (pc := 228) (vals := [rz_y 1, rz_y 2, rz_y 3, rz_y 4, rz_y 5, rz_y 6]) hx hb hX hbl hbA rfl (by decide) hv dL_law_228 hk) ?_
  refine rz_All_c (i := 21) (fun k J hk hJ => rz_aload_n_ok (pc := 229) hx hb dL_law_229 rfl hk) ?_
  refine rz_All_c (i := 22) (fun k J hk hJ => rz_iload_n_ok (pc := 230) hx hb dL_law_230 rfl hk) ?_
  refine rz_All_c (i := 23) (fun k J hk hJ => rz_iconst_ok (pc := 231) hx hb dL_law_231 rfl hk) ?_
  refine rz_All_c (i := 24) (fun k J hk hJ => rz_iadd_ok (pc := 232) hx hb dL_law_232 hk) ?_
  refine rz_All_c (i := 25) (fun k J hk hJ => rz_sld_ok (pc := 233) (vals := [rz_y 1, rz_y 2, rz_y 3, rz_y 4, rz_y 5, rz_y 6]) hx hb hX hbl hbA rfl (by decide) hv dL_law_233 hk) ?_
  refine rz_All_c (i := 26) (fun k J hk hJ => hJ 26) ?_
  refine rz_All_c (i := 27) (fun k J hk hJ => rz_aload_n_ok (pc := 237) hx hb dL_law_237 rfl hk) ?_
  refine rz_All_c (i := 28) (fun k J hk hJ => rz_aload_n_ok (pc := 238) hx hb dL_law_238 rfl hk) ?_
  refine rz_All_c (i := 29) (fun k J hk hJ => rz_iload_n_ok (pc := 239) hx hb dL_law_239 rfl hk) ?_
  refine rz_All_c (i := 30) (fun k J hk hJ => rz_iconst_ok (pc := 240) hx hb dL_law_240 rfl hk) ?_
  refine rz_All_c (i := 31) (fun k J hk hJ => rz_iadd_ok (pc := 241) hx hb dL_law_241 hk) ?_
  refine rz_All_c (i := 32) (fun k J hk hJ => rz_sld_ok (pc := 242) (vals := [rz_y 1, rz_y 2, rz_y 3, rz_y 4, rz_y 5, rz_y 6]) hx hb hX hbl hbA rfl (by decide) hv dL_law_242 hk) ?_
  refine rz_All_c (i := 33) (fun k J hk hJ => rz_aload_n_ok (pc := 243) hx hb dL_law_243 rfl hk) ?_
  refine rz_All_c (i := 34) (fun k J hk hJ => rz_iload_n_ok (pc := 244) hx hb dL_law_244 rfl hk) ?_
  refine rz_All_c (i := 35) (fun k J hk hJ => rz_iconst_ok (pc := 245) hx hb dL_law_245 rfl hk) ?_
  refine rz_All_c (i := 36) (fun k J hk hJ => rz_iadd_ok (pc := 246) hx hb dL_law_246 hk) ?_
  refine rz_All_c (i := 37) (fun k J hk hJ => rz_sld_ok (pc := 247) (vals := [rz_y 1, rz_y 2, rz_y 3, rz_y 4, rz_y 5, rz_y 6]) hx hb hX hbl hbA rfl (by decide) hv dL_law_247 hk) ?_
  refine rz_All_c (i := 38) (fun k J hk hJ => rz_aload_n_ok (pc := 248) hx hb dL_law_248 rfl hk) ?_
  refine rz_All_c (i := 39) (fun k J hk hJ => rz_iload_n_ok (pc := 249) hx hb dL_law_249 rfl hk) ?_
  refine rz_All_c (i := 40) (fun k J hk hJ => rz_iconst_ok (pc := 250) hx hb dL_law_250 rfl hk) ?_
  refine rz_All_c (i := 41) (fun k J hk hJ => rz_iadd_ok (pc := 251) hx hb dL_law_251 hk) ?_
  refine rz_All_c (i := 42) (fun k J hk hJ => rz_sld_ok (pc := 252) (vals := [rz_y 1, rz_y 2, rz_y 3, rz_y 4, rz_y 5, rz_y 6]) hx hb hX hbl hbA rfl (by decide) hv dL_law_252 hk) ?_
  refine rz_All_c (i := 43) (fun k J hk hJ => rz_aload_n_ok (pc := 253) hx hb dL_law_253 rfl hk) ?_
  refine rz_All_c (i := 44) (fun k J hk hJ => rz_iload_n_ok (pc := 254) hx hb dL_law_254 rfl hk) ?_
  refine rz_All_c (i := 45) (fun k J hk hJ => rz_iconst_ok (pc := 255) hx hb dL_law_255 rfl hk) ?_
  refine rz_All_c (i := 46) (fun k J hk hJ => rz_iadd_ok (pc := 256) hx hb dL_law_256 hk) ?_
  refine rz_All_c (i := 47) (fun k J hk hJ => rz_sld_ok (pc := 257) (vals := [rz_y 1, rz_y 2, rz_y 3, rz_y 4, rz_y 5, rz_y 6]) hx hb hX hbl hbA rfl (by decide) hv dL_law_257 hk) ?_
  refine rz_All_c (i := 48) (fun k J hk hJ => rz_aload_n_ok (pc := 258) hx hb dL_law_258 rfl hk) ?_
  refine rz_All_c (i := 49) (fun k J hk hJ => rz_iload_n_ok (pc := 259) hx hb dL_law_259 rfl hk) ?_
  refine rz_All_c (i := 50) (fun k J hk hJ => rz_iconst_ok (pc := 260) hx hb dL_law_260 rfl hk) ?_
  refine rz_All_c (i := 51) (fun k J hk hJ => rz_iadd_ok (pc := 261) hx hb dL_law_261 hk) ?_
  refine rz_All_c (i := 52) (fun k J hk hJ => rz_sld_ok (pc := 262) (vals := [rz_y 1, rz_y 2, rz_y 3, rz_y 4, rz_y 5, rz_y 6]) hx hb hX hbl hbA rfl (by decide) hv dL_law_262 hk) ?_
  refine rz_All_c (i := 53) (fun k J hk hJ => hJ 53) ?_
  refine rz_All_c (i := 54) (fun k J hk hJ => rz_icmpeq_ok (pc := 266) hx hb dL_law_266 rfl hk (hJ 56)) ?_
  refine rz_All_c (i := 55) (fun k J hk hJ => rz_no_ok) ?_
  refine rz_All_c (i := 56) (fun k J hk hJ => rz_no_ok) ?_
  exact trivial
set_option maxRecDepth 100000 in
theorem lf_A (B C : Nat) (Z : rz_Z) (X : rz_J) (h : X 12 lwL [] (lwF B C 7743323919119509936942967262495019801250015106439053398037678316263411824396246168630810677428547561118879889989276508642946417457979347158600814892906774293247131029318106826248328831740459857587819064845062496084949009570525196595786177889811408062905643362042667568847747679237329576890695833095425 rq_m0) = true) : rz_run (rcL 6 [rz_y 1, rz_y 2, rz_y 3, rz_y 4, rz_y 5, rz_y 6] (rz_y 1) 0) Z X 1 0 lwL [] (lwF B C 7743323919119509936942967262495019801250015106439053398037678316263411824396246168630810677428547561118879889989276508642946417457979347158600814892906774293247131029318106826248328831740459857587819064845062496084949009570525196595786177889811408062905643362042667568847747679237329576890695833095425 rq_m0) = true := h
set_option maxRecDepth 100000 in
theorem lf_B (B C : Nat) (Z : rz_Z) (X : rz_J) (h : X 26 lwL [rz_y 6, rz_y 5, rz_y 4, rz_y 3, rz_y 2, rz_r 1] (lwF B C 7743323919119509936942967262495019801250015106439053398037678316263411824396246168630810677428547561118879889989276508642946417457979347158600814892906774293247131029318106826248328831740459857587819064845062496084949009570525196595786177889811408062905643362042667568847747679237329576890695833095425 rq_m0) = true) : rz_run rcF Z X 1 0 lwL [] (lwF B C 7743323919119509936942967262495019801250015106439053398037678316263411824396246168630810677428547561118879889989276508642946417457979347158600814892906774293247131029318106826248328831740459857587819064845062496084949009570525196595786177889811408062905643362042667568847747679237329576890695833095425 rq_m0) = true := h
set_option maxRecDepth 100000 in
theorem lf_C (B C : Nat) (Z : rz_Z) (X : rz_J) (h : X 53 lwL [rz_y 6, rz_y 5, rz_y 4, rz_y 3, rz_y 2, rz_r 215, rz_i 20] (lwF B C 7743323919119509936942967262495019801250015106439053398037678316263411824396246168630810677428547561118879889989276508642946417457979347158600814892906774293247131029318106826248328831740459857587819064845062496084949009570525196595786177889811408062905643362042667568849332242487614863642566712102145 rq_m0) = true) : rz_run rcF Z X 1 27 lwL [rz_i 20] (lwF B C 7743323919119509936942967262495019801250015106439053398037678316263411824396246168630810677428547561118879889989276508642946417457979347158600814892906774293247131029318106826248328831740459857587819064845062496084949009570525196595786177889811408062905643362042667568849332242487614863642566712102145 rq_m0) = true := h
set_option maxRecDepth 100000 in
theorem lf_D (B C : Nat) (Z : rz_Z) (X : rz_J) (h : X 56 lwL [] (lwF B C 7743323919119509936942967262495019801250015106439053398037678316263411824396246168630810677428547561118879889989276508642946417457979347158600814892906774293247131029318106826248328831740459857587819064845062496084949009570525196595786177889811408062905643362042667568849332242487614863642566712102145 rq_m20) = true) : rz_run rcF Z X 1 54 lwL [rz_i 20, rz_i 20] (lwF B C 7743323919119509936942967262495019801250015106439053398037678316263411824396246168630810677428547561118879889989276508642946417457979347158600814892906774293247131029318106826248328831740459857587819064845062496084949009570525196595786177889811408062905643362042667568849332242487614863642566712102145 rq_m20) = true := h
set_option maxRecDepth 100000 in
theorem lf_E (B C : Nat) : rz_run (rcL 6 [rz_y 1, rz_y 2, rz_y 3, rz_y 4, rz_y 5, rz_y 6] (rz_y 1) 0) (fun _ _ => false) (fun _ _ _ _ => false) 6 913 lwL [] (lwF B C 7743323919119509936942967262495019801250015106439053398037678316263411824396246168630810677428547561118879889989276508642946417457979347158600814892906774293247131029318106826248328831740459857587819064845062496084949009570525196595786177889811408062905643362042667568849332242487614863642566712102145 rq_m20) = true := rfl
theorem lc_fx {G : rz_G} {p : Program} {l : Launch} {e : Env} {s : State} {m : MethodId} {b : Nat} {below : List Frame} {meth : Method} {c : Code} (hG : rz_Gd G) (hC : rz_Cx G (rz_FW ++ rz_TB) x code 4 ret room_1 p room_1 s m #[Value.ref b] meth c) (htsF : ∀ w ∈ rz_LF ++ (rz_FW ++ rz_TB), w.before #[Value.ref b] s = true) {B C : Nat} (hB : rz_head B = 3072005) (hk : ∀ B1, rz_head B1 = 3072005 → rz_Ok G p l e room_1 s m #[Value.ref b] below meth c (lw_Z below #[Value.ref b] s) 4 cL 237 (rz_eqK lwL [rz_i 20] (lwF B1 C 7743323919119509936942967262495019801250015106439053398037678316263411824396246168630810677428547561118879889989276508642946417457979347158600814892906774293247131029318106826248328831740459857587819064845062496084949009570525196595786177889811408062905643362042667568849332242487614863642566712102145 rq_m0))) : rz_Ok G p l e room_1 s m #[Value.ref b] below meth c (lw_Z below #[Value.ref b] s) 4 cL 234 (rz_eqK lwL [rz_y 6, rz_y 5, rz_y 4, rz_y 3, rz_y 2, rz_r 1] (lwF B C 7743323919119509936942967262495019801250015106439053398037678316263411824396246168630810677428547561118879889989276508642946417457979347158600814892906774293247131029318106826248328831740459857587819064845062496084949009570525196595786177889811408062905643362042667568847747679237329576890695833095425 rq_m0)) := by
  obtain ⟨D, tc, ad, bb, xx, rfl⟩ := id hG
  have h6 : rz_Ok _ p l e room_1 s m #[Value.ref b] below meth c (lw_Z below #[Value.ref b] s) 4 cL 237 (rz_exS lwL [rz_i 20] (fun B1 => lwF B1 C 7743323919119509936942967262495019801250015106439053398037678316263411824396246168630810677428547561118879889989276508642946417457979347158600814892906774293247131029318106826248328831740459857587819064845062496084949009570525196595786177889811408062905643362042667568849332242487614863642566712102145 rq_m0) 3072005) := fun L0 S0 M0 h => by
    obtain ⟨rfl, rfl, B1, hB1, rfl⟩ := rz_exS_t h
    exact hk B1 hB1 _ _ _ (rz_eqK_r _ _ _)
  have h5 := rz_callV_ok (nz0 := cL) (nz1 := cL) (J := fun _ _ _ _ => false) (Z := fun _ _ => false) (own := "ThreadJudgeLaw") (C := RX11) (T0 := TX11) (N0 := 16) (ci := 13) (pc := 234) hC rfl (rf_fx_ok (B := B) (C := C) (m0 := rq_m0) l hG hB) (lw_cwF 5 htsF (List.mem_append_left _ (List.mem_of_getElem? (i := 0) rfl)) (List.mem_append_left _ (List.mem_of_getElem? (i := 1) rfl)) (List.mem_append_left _ (List.mem_of_getElem? (i := 2) rfl)) (List.mem_append_left _ (List.mem_of_getElem? (i := 3) rfl)) (List.mem_append_left _ (List.mem_of_getElem? (i := 4) rfl)) ⟨rfl, by decide, by decide, by decide +kernel⟩ rfl rfl ⟨by decide, by decide⟩) rfl dL_law_234 h6 ⟨Nat.le_refl _, Nat.le_refl _⟩ lw_hf
  intro L0 S0 M0 h
  obtain ⟨rfl, rfl, rfl⟩ := rz_eqK_t h
  refine h5 _ _ _ ?_
  show rf_fx B C rq_m0 [rz_r 1, rz_y 2, rz_y 3, rz_y 4, rz_y 5, rz_y 6] (lwF B C 7743323919119509936942967262495019801250015106439053398037678316263411824396246168630810677428547561118879889989276508642946417457979347158600814892906774293247131029318106826248328831740459857587819064845062496084949009570525196595786177889811408062905643362042667568847747679237329576890695833095425 rq_m0) (fun v N => rz_exS lwL [rz_i 20] (fun B1 => lwF B1 C 7743323919119509936942967262495019801250015106439053398037678316263411824396246168630810677428547561118879889989276508642946417457979347158600814892906774293247131029318106826248328831740459857587819064845062496084949009570525196595786177889811408062905643362042667568849332242487614863642566712102145 rq_m0) 3072005 lwL (v :: []) N) = true
  unfold rf_fx
  exact if_pos ⟨rfl, rfl, fun B1 hB1 => rz_exS_i (F := fun B1 => lwF B1 C 7743323919119509936942967262495019801250015106439053398037678316263411824396246168630810677428547561118879889989276508642946417457979347158600814892906774293247131029318106826248328831740459857587819064845062496084949009570525196595786177889811408062905643362042667568849332242487614863642566712102145 rq_m0) hB1⟩
theorem lc_fm {G : rz_G} {p : Program} {l : Launch} {e : Env} {s : State} {m : MethodId} {b : Nat} {below : List Frame} {meth : Method} {c : Code} (hG : rz_Gd G) (hC : rz_Cx G (rz_FW ++ rz_TB) x code 4 ret room_1 p room_1 s m #[Value.ref b] meth c) (htsF : ∀ w ∈ rz_LF ++ (rz_FW ++ rz_TB), w.before #[Value.ref b] s = true) {B C : Nat} (hB : rz_head C = 3072004) (hk : ∀ B1, rz_head B1 = 3072004 → rz_Ok G p l e room_1 s m #[Value.ref b] below meth c (lw_Z below #[Value.ref b] s) 4 cL 266 (rz_eqK lwL [rz_i 20, rz_i 20] (lwF B B1 7743323919119509936942967262495019801250015106439053398037678316263411824396246168630810677428547561118879889989276508642946417457979347158600814892906774293247131029318106826248328831740459857587819064845062496084949009570525196595786177889811408062905643362042667568849332242487614863642566712102145 rq_m20))) : rz_Ok G p l e room_1 s m #[Value.ref b] below meth c (lw_Z below #[Value.ref b] s) 4 cL 263 (rz_eqK lwL [rz_y 6, rz_y 5, rz_y 4, rz_y 3, rz_y 2, rz_r 215, rz_i 20] (lwF B C 7743323919119509936942967262495019801250015106439053398037678316263411824396246168630810677428547561118879889989276508642946417457979347158600814892906774293247131029318106826248328831740459857587819064845062496084949009570525196595786177889811408062905643362042667568849332242487614863642566712102145 rq_m0)) := by
  obtain ⟨D, tc, ad, bb, xx, rfl⟩ := id hG
  have h6 : rz_Ok _ p l e room_1 s m #[Value.ref b] below meth c (lw_Z below #[Value.ref b] s) 4 cL 266 (rz_exS lwL [rz_i 20, rz_i 20] (fun B1 => lwF B B1 7743323919119509936942967262495019801250015106439053398037678316263411824396246168630810677428547561118879889989276508642946417457979347158600814892906774293247131029318106826248328831740459857587819064845062496084949009570525196595786177889811408062905643362042667568849332242487614863642566712102145 rq_m20) 3072004) := fun L0 S0 M0 h => by
    obtain ⟨rfl, rfl, B1, hB1, rfl⟩ := rz_exS_t h
    exact hk B1 hB1 _ _ _ (rz_eqK_r _ _ _)
  have h5 := rz_callV_ok (nz0 := cL) (nz1 := cL) (J := fun _ _ _ _ => false) (Z := fun _ _ => false) (own := "ThreadJudgeLaw") (C := RX12) (T0 := TX12) (N0 := 257) (ci := 14) (pc := 263) hC rfl (rf_fm_ok (B := B) (C := C) (x := 7743323919119509936942967262495019801250015106439053398037678316263411824396246168630810677428547561118879889989276508642946417457979347158600814892906774293247131029318106826248328831740459857587819064845062496084949009570525196595786177889811408062905643362042667568849332242487614863642566712102145) l hG hB) (lw_cwF 5 htsF (List.mem_append_left _ (List.mem_of_getElem? (i := 5) rfl)) (List.mem_append_left _ (List.mem_of_getElem? (i := 6) rfl)) (List.mem_append_left _ (List.mem_of_getElem? (i := 7) rfl)) (List.mem_append_left _ (List.mem_of_getElem? (i := 8) rfl)) (List.mem_append_left _ (List.mem_of_getElem? (i := 9) rfl)) ⟨rfl, by decide, by decide, by decide +kernel⟩ rfl rfl ⟨by decide, by decide⟩) rfl dL_law_263 h6 ⟨Nat.le_refl _, Nat.le_refl _⟩ lw_hf
  intro L0 S0 M0 h
  obtain ⟨rfl, rfl, rfl⟩ := rz_eqK_t h
  refine h5 _ _ _ ?_
  show rf_fm B C 7743323919119509936942967262495019801250015106439053398037678316263411824396246168630810677428547561118879889989276508642946417457979347158600814892906774293247131029318106826248328831740459857587819064845062496084949009570525196595786177889811408062905643362042667568849332242487614863642566712102145 [rz_r 215, rz_y 2, rz_y 3, rz_y 4, rz_y 5, rz_y 6] (lwF B C 7743323919119509936942967262495019801250015106439053398037678316263411824396246168630810677428547561118879889989276508642946417457979347158600814892906774293247131029318106826248328831740459857587819064845062496084949009570525196595786177889811408062905643362042667568849332242487614863642566712102145 rq_m0) (fun v N => rz_exS lwL [rz_i 20, rz_i 20] (fun B1 => lwF B B1 7743323919119509936942967262495019801250015106439053398037678316263411824396246168630810677428547561118879889989276508642946417457979347158600814892906774293247131029318106826248328831740459857587819064845062496084949009570525196595786177889811408062905643362042667568849332242487614863642566712102145 rq_m20) 3072004 lwL (v :: [rz_i 20]) N) = true
  unfold rf_fm
  exact if_pos ⟨rfl, rfl, fun B1 hB1 => rz_exS_i (F := fun B1 => lwF B B1 7743323919119509936942967262495019801250015106439053398037678316263411824396246168630810677428547561118879889989276508642946417457979347158600814892906774293247131029318106826248328831740459857587819064845062496084949009570525196595786177889811408062905643362042667568849332242487614863642566712102145 rq_m20) hB1⟩
set_option maxRecDepth 100000 in
theorem lw_feed {G : rz_G} {p : Program} {l : Launch} {e : Env} {s : State} {m : MethodId} {b : Nat} {below : List Frame} {meth : Method} {c : Code} {xs : Nat → Int32} (hts : ∀ w ∈ lw_tbl, w.before #[Value.ref b] s = true) (hG : rz_Gd G) (hC : rz_Cx G rz_TB x code 4 ret room_1 p room_1 s m #[Value.ref b] meth c) (htsL : ∀ w ∈ rz_LW ++ rz_TB, w.before #[Value.ref b] s = true) (hX : va_X (rz_ad G 3000000) 6 xs s s.heap) (hbl : rz_ad G 3000000 < s.heap.size) (hbA : ¬ rz_b G ≤ rz_ad G 3000000) (hbs : rz_b G = s.heap.size) (hxs : rz_xs G = lw_xs xs) (h0 : xs 0 &&& nI 63 = nI 0) : rz_Ok G p l e room_1 s m #[Value.ref b] below meth c (lw_Z below #[Value.ref b] s) 4 cL 18 lw_K18 := by
  have hy : ∀ k, k < 100 → rz_v G (rz_y (k + 1)) = .int (xs k) := fun k hk => by
    show Value.int (rz_xs G k) = _
    rw [hxs]
    unfold lw_xs
    rw [if_pos hk]
  have hv : ∀ (i : Nat) (v : rz_V), ([rz_y 1, rz_y 2, rz_y 3, rz_y 4, rz_y 5, rz_y 6] : List rz_V)[i]? = some v → rz_v G v = .int (xs i) := fun i v hi => by
    match i, hi with
    | 0, hi => cases hi; exact hy 0 (by decide)
    | 1, hi => cases hi; exact hy 1 (by decide)
    | 2, hi => cases hi; exact hy 2 (by decide)
    | 3, hi => cases hi; exact hy 3 (by decide)
    | 4, hi => cases hi; exact hy 4 (by decide)
    | 5, hi => cases hi; exact hy 5 (by decide)
    | i + 6, hi => simp at hi
  have htsF : ∀ w ∈ rz_LF ++ (rz_FW ++ rz_TB), w.before #[Value.ref b] s = true := fun w hw => by
    rcases List.mem_append.mp hw with q | q
    · exact lw_LF w q _ _ hts
    · rcases List.mem_append.mp q with q | q
      · exact lw_FW w q _ _ hts
      · exact lw_TB w q _ _ hts
  have hC1 : rz_Cx G (rz_FW ++ rz_TB) x code 4 ret room_1 p room_1 s m #[Value.ref b] meth c := by
    obtain ⟨hx, hb, hml, hr, hlk, hown, ht, hKn, hRm⟩ := id hC
    refine ⟨hx, hb, hml, hr, hlk, hown, fun w hw => ?_, hKn, hRm⟩
    rcases List.mem_cons.mp hw with rfl | hw
    · exact ht _ List.mem_cons_self
    · exact htsF w (List.mem_append_right _ hw)
  have hf : ∀ (ps : List Nat) (i : Nat), rz_Ok G p l e room_1 s m #[Value.ref b] below meth c (lw_Z below #[Value.ref b] s) 4 cL (ps.getD i 0) (fun _ _ _ => false) := fun ps i L S M h => by cases h
  have hm : ∀ (ps : List Nat) (i : Nat) (K K' : rz_K), (∀ L S M, K' L S M = true → K L S M = true) → rz_Ok G p l e room_1 s m #[Value.ref b] below meth c (lw_Z below #[Value.ref b] s) 4 cL (ps.getD i 0) K → rz_Ok G p l e room_1 s m #[Value.ref b] below meth c (lw_Z below #[Value.ref b] s) 4 cL (ps.getD i 0) K' := fun ps i K K' hK q L S M h => q L S M (hK L S M h)
  have hAL := rL_ok (p := p) (l := l) (e := e) (below := below) (Z := fun _ _ => false) (o := 0) hG hC htsL hX hbl hbA rfl (by decide) hv (hy 0 (by decide)) h0 hbs
  have hAF := rF_ok (p := p) (l := l) (e := e) (below := below) (Z := fun _ _ => false) hG hC1 hX hbl hbA hv
  have key : rz_Ok G p l e room_1 s m #[Value.ref b] below meth c (lw_Z below #[Value.ref b] s) 4 cL 18 (rz_eqK lwL [] (lwF 0x2ee005 0x2ee004 7743323919119509936942967262495019801250015106439053398037678316263411824396246168630810677428547561118879889989276508642946417457979347158600814892906774293247131029318106826248328831740459857587819064845062496084949009570525196595786177889811408062905643362042667568847747679237329576890695833095425 rq_m0)) := by
    refine rz_pce (P := fun i K => rz_Ok G p l e room_1 s m #[Value.ref b] below meth c (lw_Z below #[Value.ref b] s) 4 cL (rpL.getD i 0) K) (j0 := 0) (hf rpL) (hm rpL) hAL (fun X h => lf_A _ _ _ X h) ?_
    refine rz_pce (P := fun i K => rz_Ok G p l e room_1 s m #[Value.ref b] below meth c (lw_Z below #[Value.ref b] s) 4 cL (rpF.getD i 0) K) (j0 := 0) (hf rpF) (hm rpF) hAF (fun X h => lf_B _ _ _ X h) ?_
    refine lc_fx hG hC1 htsF (by decide +kernel) (fun B1 hB1 => ?_)
    refine rz_pce (P := fun i K => rz_Ok G p l e room_1 s m #[Value.ref b] below meth c (lw_Z below #[Value.ref b] s) 4 cL (rpF.getD i 0) K) (j0 := 27) (hf rpF) (hm rpF) hAF (fun X h => lf_C _ _ _ X h) ?_
    refine lc_fm hG hC1 htsF (by decide +kernel) (fun C1 hC2 => ?_)
    refine rz_pce (P := fun i K => rz_Ok G p l e room_1 s m #[Value.ref b] below meth c (lw_Z below #[Value.ref b] s) 4 cL (rpF.getD i 0) K) (j0 := 54) (hf rpF) (hm rpF) hAF (fun X h => lf_D _ _ _ X h) ?_
    exact rz_pcz (P := fun i K => rz_Ok G p l e room_1 s m #[Value.ref b] below meth c (lw_Z below #[Value.ref b] s) 4 cL (rpL.getD i 0) K) (j0 := 913) (hf rpL) (hm rpL) hAL (lf_E _ _)
  intro L S M h
  obtain ⟨rfl, h1⟩ := rz_nil_t h
  rcases rz_if_t h1 with ⟨h2, h3⟩ | ⟨-, h3⟩
  · have h2 := rz_leq_t h2
    have h5 : M = lwM := rz_meq_t h3
    subst h2
    subst h5
    exact key lwL [] lwM (rz_eqK_r lwL [] lwM)
  · cases h3
