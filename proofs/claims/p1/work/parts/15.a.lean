/-! What the Statement says of the start: leaf by leaf. -/
theorem rz_andl {a b : Cond} {A : Array Value} {s : State} (h : (Cond.and a b).before A s = true) : a.before A s = true := by
  rw [Cond.before_and, Bool.and_eq_true] at h
  exact h.1
theorem rz_andr {a b : Cond} {A : Array Value} {s : State} (h : (Cond.and a b).before A s = true) : b.before A s = true := by
  rw [Cond.before_and, Bool.and_eq_true] at h
  exact h.2
theorem rz_nr1 {A : Array Value} {s : State} (h : (Jvm.Cond.and given_1 narrow_1).before A s = true) : ∀ w ∈ flatC narrow_1_1, w.before A s = true := flat_of_before _ (rz_andl (rz_andl (rz_andl (rz_andr h))))
theorem rz_nr2 {A : Array Value} {s : State} (h : (Jvm.Cond.and given_1 narrow_1).before A s = true) : ∀ w ∈ flatC narrow_1_2, w.before A s = true := flat_of_before _ (rz_andr (rz_andl (rz_andl (rz_andr h))))
theorem rz_nr3 {A : Array Value} {s : State} (h : (Jvm.Cond.and given_1 narrow_1).before A s = true) : ∀ w ∈ flatC narrow_1_3, w.before A s = true := flat_of_before _ (rz_andl (rz_andr (rz_andl (rz_andr h))))
theorem rz_nr4 {A : Array Value} {s : State} (h : (Jvm.Cond.and given_1 narrow_1).before A s = true) : ∀ w ∈ flatC narrow_1_4, w.before A s = true := flat_of_before _ (rz_andl (rz_andr (rz_andr (rz_andl (rz_andr h)))))
theorem rz_nr5 {A : Array Value} {s : State} (h : (Jvm.Cond.and given_1 narrow_1).before A s = true) : ∀ w ∈ flatC narrow_1_5, w.before A s = true := flat_of_before _ (rz_andr (rz_andr (rz_andr (rz_andl (rz_andr h)))))
theorem rz_nr6 {A : Array Value} {s : State} (h : (Jvm.Cond.and given_1 narrow_1).before A s = true) : ∀ w ∈ flatC narrow_1_6, w.before A s = true := flat_of_before _ (rz_andl (rz_andl (rz_andr (rz_andr h))))
theorem rz_nr7 {A : Array Value} {s : State} (h : (Jvm.Cond.and given_1 narrow_1).before A s = true) : ∀ w ∈ flatC narrow_1_7, w.before A s = true := flat_of_before _ (rz_andl (rz_andr (rz_andl (rz_andr (rz_andr h)))))
theorem rz_nr8 {A : Array Value} {s : State} (h : (Jvm.Cond.and given_1 narrow_1).before A s = true) : ∀ w ∈ flatC narrow_1_8, w.before A s = true := flat_of_before _ (rz_andr (rz_andr (rz_andl (rz_andr (rz_andr h)))))
theorem rz_nr9 {A : Array Value} {s : State} (h : (Jvm.Cond.and given_1 narrow_1).before A s = true) : ∀ w ∈ flatC narrow_1_9, w.before A s = true := flat_of_before _ (rz_andl (rz_andr (rz_andr (rz_andr h))))
theorem rz_nr10 {A : Array Value} {s : State} (h : (Jvm.Cond.and given_1 narrow_1).before A s = true) : ∀ w ∈ flatC narrow_1_10, w.before A s = true := flat_of_before _ (rz_andl (rz_andr (rz_andr (rz_andr (rz_andr h)))))
theorem rz_nr11 {A : Array Value} {s : State} (h : (Jvm.Cond.and given_1 narrow_1).before A s = true) : ∀ w ∈ flatC narrow_1_11, w.before A s = true := flat_of_before _ (rz_andr (rz_andr (rz_andr (rz_andr (rz_andr h)))))
def rz_el (tm : Term) (j : Nat) (v : Int32) : Cond := .eq (.elem (.field tm "java/lang/String" "value" "[B") (.int (Int32.ofNat j))) (.int v)
def rz_els (tm : Term) : Nat → List Nat → List Cond
  | _, [] => []
  | j, v :: t => rz_el tm j (nI v) :: rz_els tm (j + 1) t
theorem rz_els_app {tm : Term} : ∀ {x y : List Nat} {j : Nat}, rz_els tm j (x ++ y) = rz_els tm j x ++ rz_els tm (j + x.length) y
  | [], y, j => rfl
  | v :: t, y, j => by
    show rz_el tm j (nI v) :: rz_els tm (j + 1) (t ++ y) = rz_el tm j (nI v) :: (rz_els tm (j + 1) t ++ rz_els tm (j + (t.length + 1)) y)
    rw [rz_els_app, show j + 1 + t.length = j + (t.length + 1) by omega]
theorem rz_els_at {tm : Term} : ∀ {l : List Nat} {a j v : Nat}, l[j]? = some v → rz_el tm (a + j) (nI v) ∈ rz_els tm a l
  | [], _, _, _, h => by simp at h
  | w :: t, a, 0, v, h => by
    simp at h
    subst h
    exact List.mem_cons_self
  | w :: t, a, j + 1, v, h => by
    have h1 := rz_els_at (tm := tm) (l := t) (a := a + 1) (j := j) (v := v) (by simpa using h)
    rw [show a + 1 + j = a + (j + 1) by omega] at h1
    exact List.mem_cons_of_mem _ h1
theorem rz_pc {P : Cond → Prop} {tm : Term} {l : List Nat} {a n : Nat} (hn : a + n ≤ l.length) (h1 : ∀ w ∈ rz_els tm a ((l.drop a).take n), P w) (h2 : ∀ w ∈ rz_els tm (a + n) (l.drop (a + n)), P w) : ∀ w ∈ rz_els tm a (l.drop a), P w := by
  have e : l.drop a = (l.drop a).take n ++ l.drop (a + n) := by
    rw [← List.drop_drop]
    exact (List.take_append_drop n (l.drop a)).symm
  intro w hw
  rw [e, rz_els_app, show ((l.drop a).take n).length = n by rw [List.length_take, List.length_drop]; omega] at hw
  rcases List.mem_append.mp hw with hw | hw
  · exact h1 w hw
  · exact h2 w hw
theorem rz_pz {P : Cond → Prop} {tm : Term} {l : List Nat} {a : Nat} (hn : l.length ≤ a) : ∀ w ∈ rz_els tm a (l.drop a), P w := by
  rw [List.drop_eq_nil_of_le hn]
  intro w hw
  cases hw
theorem rz_p1 {P : Cond → Prop} {tm : Term} {l : List Nat} {a n : Nat} (Fk : List Cond) (q : Nat) (e : rz_els tm a ((l.drop a).take n) = (Fk.drop q).take n) (hF : ∀ w ∈ Fk, P w) : ∀ w ∈ rz_els tm a ((l.drop a).take n), P w := by
  intro w hw
  rw [e] at hw
  exact hF w (List.mem_of_mem_drop (List.mem_of_mem_take hw))
theorem rz_pf {tm : Term} {l : List Nat} {A : Array Value} {s : State} (h : ∀ w ∈ rz_els tm 0 (l.drop 0), w.before A s = true) (j : Nat) (hj : j < l.length) : (Cond.eq (.elem (.field tm "java/lang/String" "value" "[B") (.int (Int32.ofNat j))) (.int ((rz_by l).getD j 0))).before A s = true := by
  have h1 := h _ (rz_els_at (l := l.drop 0) (a := 0) (j := j) (v := l[j]) (by rw [List.drop_zero]; exact List.getElem?_eq_getElem hj))
  rw [Nat.zero_add] at h1
  have e : (rz_by l).getD j 0 = nI l[j] := by
    unfold rz_by
    rw [List.getD_eq_getElem?_getD, List.getElem?_map, List.getElem?_eq_getElem hj]
    rfl
  rw [e]
  exact h1
def rz_tm : Nat → Term := fun i => match i with
  | 0 => .string "ThreadJudge$Reader" 44
  | 1 => .string "ThreadJudge$Reader" 53
  | 2 => .string "ThreadJudge$Reader" 55
  | 3 => .string "ThreadJudge$Reader" 70
  | 4 => .string "ThreadJudge$Reader" 72
  | 5 => .string "ThreadJudge$Reader" 74
  | 6 => .string "ThreadJudge$Reader" 76
  | 7 => .string "ThreadJudge$Reader" 78
  | 8 => .string "ThreadJudge$Reader" 162
  | 9 => .string "ThreadJudge$Reader" 209
  | 10 => .string "ThreadJudgeModel" 753
  | 11 => .string "ThreadJudgeModel" 651
  | 12 => .string "ThreadJudgeModel" 657
  | 13 => .string "ThreadJudgeModel" 742
  | 14 => .string "ThreadJudgeModel" 774
  | 15 => .string "ThreadJudgeModel" 779
  | 16 => .string "ThreadJudgeModel" 876
  | 17 => .string "ThreadJudgeModel" 1450
  | _ => .string "" 0
set_option maxRecDepth 100000 in
theorem rz_he0 {A : Array Value} {s : State} (h : (Jvm.Cond.and given_1 narrow_1).before A s = true) : ∀ j, j < rz_sL.getD 0 0 → (Cond.eq (.elem (.field (rz_tm 0) "java/lang/String" "value" "[B") (.int (Int32.ofNat j))) (.int ((rz_sB.getD 0 []).getD j 0))).before A s = true := fun j hj => rz_pf (tm := rz_tm 0) (l := rz_t0) (rz_pc (n := 200) (by decide +kernel) (rz_p1 (flatC narrow_1_1) 134 (by decide +kernel) (rz_nr1 h)) (rz_pc (n := 66) (by decide +kernel) (rz_p1 (flatC narrow_1_1) 334 (by decide +kernel) (rz_nr1 h)) (rz_pc (n := 52) (by decide +kernel) (rz_p1 (flatC narrow_1_2) 0 (by decide +kernel) (rz_nr2 h)) (rz_pz (by decide +kernel))))) j (Nat.lt_of_lt_of_eq hj (by decide +kernel))
set_option maxRecDepth 100000 in
theorem rz_he1 {A : Array Value} {s : State} (h : (Jvm.Cond.and given_1 narrow_1).before A s = true) : ∀ j, j < rz_sL.getD 1 0 → (Cond.eq (.elem (.field (rz_tm 1) "java/lang/String" "value" "[B") (.int (Int32.ofNat j))) (.int ((rz_sB.getD 1 []).getD j 0))).before A s = true := fun j hj => rz_pf (tm := rz_tm 1) (l := rz_t1) (rz_pc (n := 115) (by decide +kernel) (rz_p1 (flatC narrow_1_2) 56 (by decide +kernel) (rz_nr2 h)) (rz_pz (by decide +kernel))) j (Nat.lt_of_lt_of_eq hj (by decide +kernel))
set_option maxRecDepth 100000 in
theorem rz_he2 {A : Array Value} {s : State} (h : (Jvm.Cond.and given_1 narrow_1).before A s = true) : ∀ j, j < rz_sL.getD 2 0 → (Cond.eq (.elem (.field (rz_tm 2) "java/lang/String" "value" "[B") (.int (Int32.ofNat j))) (.int ((rz_sB.getD 2 []).getD j 0))).before A s = true := fun j hj => rz_pf (tm := rz_tm 2) (l := rz_t2) (rz_pc (n := 89) (by decide +kernel) (rz_p1 (flatC narrow_1_2) 176 (by decide +kernel) (rz_nr2 h)) (rz_pz (by decide +kernel))) j (Nat.lt_of_lt_of_eq hj (by decide +kernel))
set_option maxRecDepth 100000 in
theorem rz_he3 {A : Array Value} {s : State} (h : (Jvm.Cond.and given_1 narrow_1).before A s = true) : ∀ j, j < rz_sL.getD 3 0 → (Cond.eq (.elem (.field (rz_tm 3) "java/lang/String" "value" "[B") (.int (Int32.ofNat j))) (.int ((rz_sB.getD 3 []).getD j 0))).before A s = true := fun j hj => rz_pf (tm := rz_tm 3) (l := rz_t3) (rz_pc (n := 129) (by decide +kernel) (rz_p1 (flatC narrow_1_2) 271 (by decide +kernel) (rz_nr2 h)) (rz_pc (n := 39) (by decide +kernel) (rz_p1 (flatC narrow_1_3) 0 (by decide +kernel) (rz_nr3 h)) (rz_pz (by decide +kernel)))) j (Nat.lt_of_lt_of_eq hj (by decide +kernel))
set_option maxRecDepth 100000 in
theorem rz_he4 {A : Array Value} {s : State} (h : (Jvm.Cond.and given_1 narrow_1).before A s = true) : ∀ j, j < rz_sL.getD 4 0 → (Cond.eq (.elem (.field (rz_tm 4) "java/lang/String" "value" "[B") (.int (Int32.ofNat j))) (.int ((rz_sB.getD 4 []).getD j 0))).before A s = true := fun j hj => rz_pf (tm := rz_tm 4) (l := rz_t4) (rz_pc (n := 172) (by decide +kernel) (rz_p1 (flatC narrow_1_3) 46 (by decide +kernel) (rz_nr3 h)) (rz_pz (by decide +kernel))) j (Nat.lt_of_lt_of_eq hj (by decide +kernel))
set_option maxRecDepth 100000 in
theorem rz_he5 {A : Array Value} {s : State} (h : (Jvm.Cond.and given_1 narrow_1).before A s = true) : ∀ j, j < rz_sL.getD 5 0 → (Cond.eq (.elem (.field (rz_tm 5) "java/lang/String" "value" "[B") (.int (Int32.ofNat j))) (.int ((rz_sB.getD 5 []).getD j 0))).before A s = true := fun j hj => rz_pf (tm := rz_tm 5) (l := rz_t5) (rz_pc (n := 174) (by decide +kernel) (rz_p1 (flatC narrow_1_3) 226 (by decide +kernel) (rz_nr3 h)) (rz_pc (n := 200) (by decide +kernel) (rz_p1 (flatC narrow_1_4) 0 (by decide +kernel) (rz_nr4 h)) (rz_pc (n := 2) (by decide +kernel) (rz_p1 (flatC narrow_1_4) 200 (by decide +kernel) (rz_nr4 h)) (rz_pz (by decide +kernel))))) j (Nat.lt_of_lt_of_eq hj (by decide +kernel))
set_option maxRecDepth 100000 in
theorem rz_he6 {A : Array Value} {s : State} (h : (Jvm.Cond.and given_1 narrow_1).before A s = true) : ∀ j, j < rz_sL.getD 6 0 → (Cond.eq (.elem (.field (rz_tm 6) "java/lang/String" "value" "[B") (.int (Int32.ofNat j))) (.int ((rz_sB.getD 6 []).getD j 0))).before A s = true := fun j hj => rz_pf (tm := rz_tm 6) (l := rz_t6) (rz_pc (n := 189) (by decide +kernel) (rz_p1 (flatC narrow_1_4) 211 (by decide +kernel) (rz_nr4 h)) (rz_pc (n := 191) (by decide +kernel) (rz_p1 (flatC narrow_1_5) 0 (by decide +kernel) (rz_nr5 h)) (rz_pz (by decide +kernel)))) j (Nat.lt_of_lt_of_eq hj (by decide +kernel))
set_option maxRecDepth 100000 in
theorem rz_he7 {A : Array Value} {s : State} (h : (Jvm.Cond.and given_1 narrow_1).before A s = true) : ∀ j, j < rz_sL.getD 7 0 → (Cond.eq (.elem (.field (rz_tm 7) "java/lang/String" "value" "[B") (.int (Int32.ofNat j))) (.int ((rz_sB.getD 7 []).getD j 0))).before A s = true := fun j hj => rz_pf (tm := rz_tm 7) (l := rz_t7) (rz_pc (n := 96) (by decide +kernel) (rz_p1 (flatC narrow_1_5) 201 (by decide +kernel) (rz_nr5 h)) (rz_pz (by decide +kernel))) j (Nat.lt_of_lt_of_eq hj (by decide +kernel))
set_option maxRecDepth 100000 in
theorem rz_he8 {A : Array Value} {s : State} (h : (Jvm.Cond.and given_1 narrow_1).before A s = true) : ∀ j, j < rz_sL.getD 8 0 → (Cond.eq (.elem (.field (rz_tm 8) "java/lang/String" "value" "[B") (.int (Int32.ofNat j))) (.int ((rz_sB.getD 8 []).getD j 0))).before A s = true := fun j hj => rz_pf (tm := rz_tm 8) (l := rz_t8) (rz_pc (n := 10) (by decide +kernel) (rz_p1 (flatC narrow_1_5) 308 (by decide +kernel) (rz_nr5 h)) (rz_pz (by decide +kernel))) j (Nat.lt_of_lt_of_eq hj (by decide +kernel))
set_option maxRecDepth 100000 in
theorem rz_he9 {A : Array Value} {s : State} (h : (Jvm.Cond.and given_1 narrow_1).before A s = true) : ∀ j, j < rz_sL.getD 9 0 → (Cond.eq (.elem (.field (rz_tm 9) "java/lang/String" "value" "[B") (.int (Int32.ofNat j))) (.int ((rz_sB.getD 9 []).getD j 0))).before A s = true := fun j hj => rz_pf (tm := rz_tm 9) (l := rz_t9) (rz_pc (n := 58) (by decide +kernel) (rz_p1 (flatC narrow_1_5) 330 (by decide +kernel) (rz_nr5 h)) (rz_pz (by decide +kernel))) j (Nat.lt_of_lt_of_eq hj (by decide +kernel))
set_option maxRecDepth 100000 in
theorem rz_he10 {A : Array Value} {s : State} (h : (Jvm.Cond.and given_1 narrow_1).before A s = true) : ∀ j, j < rz_sL.getD 10 0 → (Cond.eq (.elem (.field (rz_tm 10) "java/lang/String" "value" "[B") (.int (Int32.ofNat j))) (.int ((rz_sB.getD 10 []).getD j 0))).before A s = true := fun j hj => rz_pf (tm := rz_tm 10) (l := rz_t10) (rz_pc (n := 200) (by decide +kernel) (rz_p1 (flatC narrow_1_6) 73 (by decide +kernel) (rz_nr6 h)) (rz_pc (n := 127) (by decide +kernel) (rz_p1 (flatC narrow_1_6) 273 (by decide +kernel) (rz_nr6 h)) (rz_pc (n := 200) (by decide +kernel) (rz_p1 (flatC narrow_1_7) 0 (by decide +kernel) (rz_nr7 h)) (rz_pc (n := 200) (by decide +kernel) (rz_p1 (flatC narrow_1_7) 200 (by decide +kernel) (rz_nr7 h)) (rz_pc (n := 200) (by decide +kernel) (rz_p1 (flatC narrow_1_8) 0 (by decide +kernel) (rz_nr8 h)) (rz_pc (n := 200) (by decide +kernel) (rz_p1 (flatC narrow_1_8) 200 (by decide +kernel) (rz_nr8 h)) (rz_pc (n := 65) (by decide +kernel) (rz_p1 (flatC narrow_1_9) 0 (by decide +kernel) (rz_nr9 h)) (rz_pz (by decide +kernel))))))))) j (Nat.lt_of_lt_of_eq hj (by decide +kernel))
set_option maxRecDepth 100000 in
theorem rz_he11 {A : Array Value} {s : State} (h : (Jvm.Cond.and given_1 narrow_1).before A s = true) : ∀ j, j < rz_sL.getD 11 0 → (Cond.eq (.elem (.field (rz_tm 11) "java/lang/String" "value" "[B") (.int (Int32.ofNat j))) (.int ((rz_sB.getD 11 []).getD j 0))).before A s = true := fun j hj => rz_pf (tm := rz_tm 11) (l := rz_t11) (rz_pc (n := 116) (by decide +kernel) (rz_p1 (flatC narrow_1_9) 80 (by decide +kernel) (rz_nr9 h)) (rz_pz (by decide +kernel))) j (Nat.lt_of_lt_of_eq hj (by decide +kernel))
set_option maxRecDepth 100000 in
theorem rz_he12 {A : Array Value} {s : State} (h : (Jvm.Cond.and given_1 narrow_1).before A s = true) : ∀ j, j < rz_sL.getD 12 0 → (Cond.eq (.elem (.field (rz_tm 12) "java/lang/String" "value" "[B") (.int (Int32.ofNat j))) (.int ((rz_sB.getD 12 []).getD j 0))).before A s = true := fun j hj => rz_pf (tm := rz_tm 12) (l := rz_t12) (rz_pc (n := 188) (by decide +kernel) (rz_p1 (flatC narrow_1_9) 212 (by decide +kernel) (rz_nr9 h)) (rz_pc (n := 131) (by decide +kernel) (rz_p1 (flatC narrow_1_10) 0 (by decide +kernel) (rz_nr10 h)) (rz_pz (by decide +kernel)))) j (Nat.lt_of_lt_of_eq hj (by decide +kernel))
set_option maxRecDepth 100000 in
theorem rz_he13 {A : Array Value} {s : State} (h : (Jvm.Cond.and given_1 narrow_1).before A s = true) : ∀ j, j < rz_sL.getD 13 0 → (Cond.eq (.elem (.field (rz_tm 13) "java/lang/String" "value" "[B") (.int (Int32.ofNat j))) (.int ((rz_sB.getD 13 []).getD j 0))).before A s = true := fun j hj => rz_pf (tm := rz_tm 13) (l := rz_t13) (rz_pc (n := 58) (by decide +kernel) (rz_p1 (flatC narrow_1_10) 148 (by decide +kernel) (rz_nr10 h)) (rz_pz (by decide +kernel))) j (Nat.lt_of_lt_of_eq hj (by decide +kernel))
set_option maxRecDepth 100000 in
theorem rz_he14 {A : Array Value} {s : State} (h : (Jvm.Cond.and given_1 narrow_1).before A s = true) : ∀ j, j < rz_sL.getD 14 0 → (Cond.eq (.elem (.field (rz_tm 14) "java/lang/String" "value" "[B") (.int (Int32.ofNat j))) (.int ((rz_sB.getD 14 []).getD j 0))).before A s = true := fun j hj => rz_pf (tm := rz_tm 14) (l := rz_t14) (rz_pc (n := 6) (by decide +kernel) (rz_p1 (flatC narrow_1_10) 224 (by decide +kernel) (rz_nr10 h)) (rz_pz (by decide +kernel))) j (Nat.lt_of_lt_of_eq hj (by decide +kernel))
set_option maxRecDepth 100000 in
theorem rz_he15 {A : Array Value} {s : State} (h : (Jvm.Cond.and given_1 narrow_1).before A s = true) : ∀ j, j < rz_sL.getD 15 0 → (Cond.eq (.elem (.field (rz_tm 15) "java/lang/String" "value" "[B") (.int (Int32.ofNat j))) (.int ((rz_sB.getD 15 []).getD j 0))).before A s = true := fun j hj => rz_pf (tm := rz_tm 15) (l := rz_t15) (rz_pc (n := 8) (by decide +kernel) (rz_p1 (flatC narrow_1_10) 249 (by decide +kernel) (rz_nr10 h)) (rz_pz (by decide +kernel))) j (Nat.lt_of_lt_of_eq hj (by decide +kernel))
set_option maxRecDepth 100000 in
theorem rz_he16 {A : Array Value} {s : State} (h : (Jvm.Cond.and given_1 narrow_1).before A s = true) : ∀ j, j < rz_sL.getD 16 0 → (Cond.eq (.elem (.field (rz_tm 16) "java/lang/String" "value" "[B") (.int (Int32.ofNat j))) (.int ((rz_sB.getD 16 []).getD j 0))).before A s = true := fun j hj => rz_pf (tm := rz_tm 16) (l := rz_t16) (rz_pc (n := 4) (by decide +kernel) (rz_p1 (flatC narrow_1_10) 277 (by decide +kernel) (rz_nr10 h)) (rz_pz (by decide +kernel))) j (Nat.lt_of_lt_of_eq hj (by decide +kernel))
set_option maxRecDepth 100000 in
theorem rz_he17 {A : Array Value} {s : State} (h : (Jvm.Cond.and given_1 narrow_1).before A s = true) : ∀ j, j < rz_sL.getD 17 0 → (Cond.eq (.elem (.field (rz_tm 17) "java/lang/String" "value" "[B") (.int (Int32.ofNat j))) (.int ((rz_sB.getD 17 []).getD j 0))).before A s = true := fun j hj => rz_pf (tm := rz_tm 17) (l := rz_t17) (rz_pc (n := 74) (by decide +kernel) (rz_p1 (flatC narrow_1_10) 302 (by decide +kernel) (rz_nr10 h)) (rz_pz (by decide +kernel))) j (Nat.lt_of_lt_of_eq hj (by decide +kernel))
theorem rz_hN {A : Array Value} {s : State} (h : (Jvm.Cond.and given_1 narrow_1).before A s = true) : ∀ i, i < rz_sN → rz_sL.getD i 0 < 2 ^ 31 := by
  have h0 : ∀ i, i < 0 → rz_sL.getD i 0 < 2 ^ 31 := fun i hi => absurd hi (Nat.not_lt_zero i)
  have h1 : ∀ i, i < 1 → rz_sL.getD i 0 < 2 ^ 31 := rz_stp (n := 0) h0 (by decide +kernel)
  have h2 : ∀ i, i < 2 → rz_sL.getD i 0 < 2 ^ 31 := rz_stp (n := 1) h1 (by decide +kernel)
  have h3 : ∀ i, i < 3 → rz_sL.getD i 0 < 2 ^ 31 := rz_stp (n := 2) h2 (by decide +kernel)
  have h4 : ∀ i, i < 4 → rz_sL.getD i 0 < 2 ^ 31 := rz_stp (n := 3) h3 (by decide +kernel)
  have h5 : ∀ i, i < 5 → rz_sL.getD i 0 < 2 ^ 31 := rz_stp (n := 4) h4 (by decide +kernel)
  have h6 : ∀ i, i < 6 → rz_sL.getD i 0 < 2 ^ 31 := rz_stp (n := 5) h5 (by decide +kernel)
  have h7 : ∀ i, i < 7 → rz_sL.getD i 0 < 2 ^ 31 := rz_stp (n := 6) h6 (by decide +kernel)
  have h8 : ∀ i, i < 8 → rz_sL.getD i 0 < 2 ^ 31 := rz_stp (n := 7) h7 (by decide +kernel)
  have h9 : ∀ i, i < 9 → rz_sL.getD i 0 < 2 ^ 31 := rz_stp (n := 8) h8 (by decide +kernel)
  have h10 : ∀ i, i < 10 → rz_sL.getD i 0 < 2 ^ 31 := rz_stp (n := 9) h9 (by decide +kernel)
  have h11 : ∀ i, i < 11 → rz_sL.getD i 0 < 2 ^ 31 := rz_stp (n := 10) h10 (by decide +kernel)
  have h12 : ∀ i, i < 12 → rz_sL.getD i 0 < 2 ^ 31 := rz_stp (n := 11) h11 (by decide +kernel)
  have h13 : ∀ i, i < 13 → rz_sL.getD i 0 < 2 ^ 31 := rz_stp (n := 12) h12 (by decide +kernel)
  have h14 : ∀ i, i < 14 → rz_sL.getD i 0 < 2 ^ 31 := rz_stp (n := 13) h13 (by decide +kernel)
  have h15 : ∀ i, i < 15 → rz_sL.getD i 0 < 2 ^ 31 := rz_stp (n := 14) h14 (by decide +kernel)
  have h16 : ∀ i, i < 16 → rz_sL.getD i 0 < 2 ^ 31 := rz_stp (n := 15) h15 (by decide +kernel)
  have h17 : ∀ i, i < 17 → rz_sL.getD i 0 < 2 ^ 31 := rz_stp (n := 16) h16 (by decide +kernel)
  have h18 : ∀ i, i < 18 → rz_sL.getD i 0 < 2 ^ 31 := rz_stp (n := 17) h17 (by decide +kernel)
  exact h18
theorem rz_hex {A : Array Value} {s : State} (h : (Jvm.Cond.and given_1 narrow_1).before A s = true) : ∀ i, i < rz_sN → (Cond.exactly (rz_tm i) "java/lang/String").before A s = true := by
  have h0 : ∀ i, i < 0 → (Cond.exactly (rz_tm i) "java/lang/String").before A s = true := fun i hi => absurd hi (Nat.not_lt_zero i)
  have h1 : ∀ i, i < 1 → (Cond.exactly (rz_tm i) "java/lang/String").before A s = true := rz_stp (n := 0) h0 ((rz_nr1 h _ (List.mem_of_getElem? (i := 130) (by decide +kernel))))
  have h2 : ∀ i, i < 2 → (Cond.exactly (rz_tm i) "java/lang/String").before A s = true := rz_stp (n := 1) h1 ((rz_nr2 h _ (List.mem_of_getElem? (i := 52) (by decide +kernel))))
  have h3 : ∀ i, i < 3 → (Cond.exactly (rz_tm i) "java/lang/String").before A s = true := rz_stp (n := 2) h2 ((rz_nr2 h _ (List.mem_of_getElem? (i := 172) (by decide +kernel))))
  have h4 : ∀ i, i < 4 → (Cond.exactly (rz_tm i) "java/lang/String").before A s = true := rz_stp (n := 3) h3 ((rz_nr2 h _ (List.mem_of_getElem? (i := 267) (by decide +kernel))))
  have h5 : ∀ i, i < 5 → (Cond.exactly (rz_tm i) "java/lang/String").before A s = true := rz_stp (n := 4) h4 ((rz_nr3 h _ (List.mem_of_getElem? (i := 42) (by decide +kernel))))
  have h6 : ∀ i, i < 6 → (Cond.exactly (rz_tm i) "java/lang/String").before A s = true := rz_stp (n := 5) h5 ((rz_nr3 h _ (List.mem_of_getElem? (i := 222) (by decide +kernel))))
  have h7 : ∀ i, i < 7 → (Cond.exactly (rz_tm i) "java/lang/String").before A s = true := rz_stp (n := 6) h6 ((rz_nr4 h _ (List.mem_of_getElem? (i := 207) (by decide +kernel))))
  have h8 : ∀ i, i < 8 → (Cond.exactly (rz_tm i) "java/lang/String").before A s = true := rz_stp (n := 7) h7 ((rz_nr5 h _ (List.mem_of_getElem? (i := 197) (by decide +kernel))))
  have h9 : ∀ i, i < 9 → (Cond.exactly (rz_tm i) "java/lang/String").before A s = true := rz_stp (n := 8) h8 ((rz_nr5 h _ (List.mem_of_getElem? (i := 304) (by decide +kernel))))
  have h10 : ∀ i, i < 10 → (Cond.exactly (rz_tm i) "java/lang/String").before A s = true := rz_stp (n := 9) h9 ((rz_nr5 h _ (List.mem_of_getElem? (i := 326) (by decide +kernel))))
  have h11 : ∀ i, i < 11 → (Cond.exactly (rz_tm i) "java/lang/String").before A s = true := rz_stp (n := 10) h10 ((rz_nr6 h _ (List.mem_of_getElem? (i := 69) (by decide +kernel))))
  have h12 : ∀ i, i < 12 → (Cond.exactly (rz_tm i) "java/lang/String").before A s = true := rz_stp (n := 11) h11 ((rz_nr9 h _ (List.mem_of_getElem? (i := 76) (by decide +kernel))))
  have h13 : ∀ i, i < 13 → (Cond.exactly (rz_tm i) "java/lang/String").before A s = true := rz_stp (n := 12) h12 ((rz_nr9 h _ (List.mem_of_getElem? (i := 208) (by decide +kernel))))
  have h14 : ∀ i, i < 14 → (Cond.exactly (rz_tm i) "java/lang/String").before A s = true := rz_stp (n := 13) h13 ((rz_nr10 h _ (List.mem_of_getElem? (i := 144) (by decide +kernel))))
  have h15 : ∀ i, i < 15 → (Cond.exactly (rz_tm i) "java/lang/String").before A s = true := rz_stp (n := 14) h14 ((rz_nr10 h _ (List.mem_of_getElem? (i := 220) (by decide +kernel))))
  have h16 : ∀ i, i < 16 → (Cond.exactly (rz_tm i) "java/lang/String").before A s = true := rz_stp (n := 15) h15 ((rz_nr10 h _ (List.mem_of_getElem? (i := 245) (by decide +kernel))))
  have h17 : ∀ i, i < 17 → (Cond.exactly (rz_tm i) "java/lang/String").before A s = true := rz_stp (n := 16) h16 ((rz_nr10 h _ (List.mem_of_getElem? (i := 273) (by decide +kernel))))
  have h18 : ∀ i, i < 18 → (Cond.exactly (rz_tm i) "java/lang/String").before A s = true := rz_stp (n := 17) h17 ((rz_nr10 h _ (List.mem_of_getElem? (i := 298) (by decide +kernel))))
  exact h18
theorem rz_hco {A : Array Value} {s : State} (h : (Jvm.Cond.and given_1 narrow_1).before A s = true) : ∀ i, i < rz_sN → (Cond.eq (.field (rz_tm i) "java/lang/String" "coder" "B") (.int 0)).before A s = true := by
  have h0 : ∀ i, i < 0 → (Cond.eq (.field (rz_tm i) "java/lang/String" "coder" "B") (.int 0)).before A s = true := fun i hi => absurd hi (Nat.not_lt_zero i)
  have h1 : ∀ i, i < 1 → (Cond.eq (.field (rz_tm i) "java/lang/String" "coder" "B") (.int 0)).before A s = true := rz_stp (n := 0) h0 ((rz_nr1 h _ (List.mem_of_getElem? (i := 131) (by decide +kernel))))
  have h2 : ∀ i, i < 2 → (Cond.eq (.field (rz_tm i) "java/lang/String" "coder" "B") (.int 0)).before A s = true := rz_stp (n := 1) h1 ((rz_nr2 h _ (List.mem_of_getElem? (i := 53) (by decide +kernel))))
  have h3 : ∀ i, i < 3 → (Cond.eq (.field (rz_tm i) "java/lang/String" "coder" "B") (.int 0)).before A s = true := rz_stp (n := 2) h2 ((rz_nr2 h _ (List.mem_of_getElem? (i := 173) (by decide +kernel))))
  have h4 : ∀ i, i < 4 → (Cond.eq (.field (rz_tm i) "java/lang/String" "coder" "B") (.int 0)).before A s = true := rz_stp (n := 3) h3 ((rz_nr2 h _ (List.mem_of_getElem? (i := 268) (by decide +kernel))))
  have h5 : ∀ i, i < 5 → (Cond.eq (.field (rz_tm i) "java/lang/String" "coder" "B") (.int 0)).before A s = true := rz_stp (n := 4) h4 ((rz_nr3 h _ (List.mem_of_getElem? (i := 43) (by decide +kernel))))
  have h6 : ∀ i, i < 6 → (Cond.eq (.field (rz_tm i) "java/lang/String" "coder" "B") (.int 0)).before A s = true := rz_stp (n := 5) h5 ((rz_nr3 h _ (List.mem_of_getElem? (i := 223) (by decide +kernel))))
  have h7 : ∀ i, i < 7 → (Cond.eq (.field (rz_tm i) "java/lang/String" "coder" "B") (.int 0)).before A s = true := rz_stp (n := 6) h6 ((rz_nr4 h _ (List.mem_of_getElem? (i := 208) (by decide +kernel))))
  have h8 : ∀ i, i < 8 → (Cond.eq (.field (rz_tm i) "java/lang/String" "coder" "B") (.int 0)).before A s = true := rz_stp (n := 7) h7 ((rz_nr5 h _ (List.mem_of_getElem? (i := 198) (by decide +kernel))))
  have h9 : ∀ i, i < 9 → (Cond.eq (.field (rz_tm i) "java/lang/String" "coder" "B") (.int 0)).before A s = true := rz_stp (n := 8) h8 ((rz_nr5 h _ (List.mem_of_getElem? (i := 305) (by decide +kernel))))
  have h10 : ∀ i, i < 10 → (Cond.eq (.field (rz_tm i) "java/lang/String" "coder" "B") (.int 0)).before A s = true := rz_stp (n := 9) h9 ((rz_nr5 h _ (List.mem_of_getElem? (i := 327) (by decide +kernel))))
  have h11 : ∀ i, i < 11 → (Cond.eq (.field (rz_tm i) "java/lang/String" "coder" "B") (.int 0)).before A s = true := rz_stp (n := 10) h10 ((rz_nr6 h _ (List.mem_of_getElem? (i := 70) (by decide +kernel))))
  have h12 : ∀ i, i < 12 → (Cond.eq (.field (rz_tm i) "java/lang/String" "coder" "B") (.int 0)).before A s = true := rz_stp (n := 11) h11 ((rz_nr9 h _ (List.mem_of_getElem? (i := 77) (by decide +kernel))))
  have h13 : ∀ i, i < 13 → (Cond.eq (.field (rz_tm i) "java/lang/String" "coder" "B") (.int 0)).before A s = true := rz_stp (n := 12) h12 ((rz_nr9 h _ (List.mem_of_getElem? (i := 209) (by decide +kernel))))
  have h14 : ∀ i, i < 14 → (Cond.eq (.field (rz_tm i) "java/lang/String" "coder" "B") (.int 0)).before A s = true := rz_stp (n := 13) h13 ((rz_nr10 h _ (List.mem_of_getElem? (i := 145) (by decide +kernel))))
  have h15 : ∀ i, i < 15 → (Cond.eq (.field (rz_tm i) "java/lang/String" "coder" "B") (.int 0)).before A s = true := rz_stp (n := 14) h14 ((rz_nr10 h _ (List.mem_of_getElem? (i := 221) (by decide +kernel))))
  have h16 : ∀ i, i < 16 → (Cond.eq (.field (rz_tm i) "java/lang/String" "coder" "B") (.int 0)).before A s = true := rz_stp (n := 15) h15 ((rz_nr10 h _ (List.mem_of_getElem? (i := 246) (by decide +kernel))))
  have h17 : ∀ i, i < 17 → (Cond.eq (.field (rz_tm i) "java/lang/String" "coder" "B") (.int 0)).before A s = true := rz_stp (n := 16) h16 ((rz_nr10 h _ (List.mem_of_getElem? (i := 274) (by decide +kernel))))
  have h18 : ∀ i, i < 18 → (Cond.eq (.field (rz_tm i) "java/lang/String" "coder" "B") (.int 0)).before A s = true := rz_stp (n := 17) h17 ((rz_nr10 h _ (List.mem_of_getElem? (i := 299) (by decide +kernel))))
  exact h18
theorem rz_har {A : Array Value} {s : State} (h : (Jvm.Cond.and given_1 narrow_1).before A s = true) : ∀ i, i < rz_sN → (Cond.arrayOf (.field (rz_tm i) "java/lang/String" "value" "[B") .byte).before A s = true := by
  have h0 : ∀ i, i < 0 → (Cond.arrayOf (.field (rz_tm i) "java/lang/String" "value" "[B") .byte).before A s = true := fun i hi => absurd hi (Nat.not_lt_zero i)
  have h1 : ∀ i, i < 1 → (Cond.arrayOf (.field (rz_tm i) "java/lang/String" "value" "[B") .byte).before A s = true := rz_stp (n := 0) h0 ((rz_nr1 h _ (List.mem_of_getElem? (i := 132) (by decide +kernel))))
  have h2 : ∀ i, i < 2 → (Cond.arrayOf (.field (rz_tm i) "java/lang/String" "value" "[B") .byte).before A s = true := rz_stp (n := 1) h1 ((rz_nr2 h _ (List.mem_of_getElem? (i := 54) (by decide +kernel))))
  have h3 : ∀ i, i < 3 → (Cond.arrayOf (.field (rz_tm i) "java/lang/String" "value" "[B") .byte).before A s = true := rz_stp (n := 2) h2 ((rz_nr2 h _ (List.mem_of_getElem? (i := 174) (by decide +kernel))))
  have h4 : ∀ i, i < 4 → (Cond.arrayOf (.field (rz_tm i) "java/lang/String" "value" "[B") .byte).before A s = true := rz_stp (n := 3) h3 ((rz_nr2 h _ (List.mem_of_getElem? (i := 269) (by decide +kernel))))
  have h5 : ∀ i, i < 5 → (Cond.arrayOf (.field (rz_tm i) "java/lang/String" "value" "[B") .byte).before A s = true := rz_stp (n := 4) h4 ((rz_nr3 h _ (List.mem_of_getElem? (i := 44) (by decide +kernel))))
  have h6 : ∀ i, i < 6 → (Cond.arrayOf (.field (rz_tm i) "java/lang/String" "value" "[B") .byte).before A s = true := rz_stp (n := 5) h5 ((rz_nr3 h _ (List.mem_of_getElem? (i := 224) (by decide +kernel))))
  have h7 : ∀ i, i < 7 → (Cond.arrayOf (.field (rz_tm i) "java/lang/String" "value" "[B") .byte).before A s = true := rz_stp (n := 6) h6 ((rz_nr4 h _ (List.mem_of_getElem? (i := 209) (by decide +kernel))))
  have h8 : ∀ i, i < 8 → (Cond.arrayOf (.field (rz_tm i) "java/lang/String" "value" "[B") .byte).before A s = true := rz_stp (n := 7) h7 ((rz_nr5 h _ (List.mem_of_getElem? (i := 199) (by decide +kernel))))
  have h9 : ∀ i, i < 9 → (Cond.arrayOf (.field (rz_tm i) "java/lang/String" "value" "[B") .byte).before A s = true := rz_stp (n := 8) h8 ((rz_nr5 h _ (List.mem_of_getElem? (i := 306) (by decide +kernel))))
  have h10 : ∀ i, i < 10 → (Cond.arrayOf (.field (rz_tm i) "java/lang/String" "value" "[B") .byte).before A s = true := rz_stp (n := 9) h9 ((rz_nr5 h _ (List.mem_of_getElem? (i := 328) (by decide +kernel))))
  have h11 : ∀ i, i < 11 → (Cond.arrayOf (.field (rz_tm i) "java/lang/String" "value" "[B") .byte).before A s = true := rz_stp (n := 10) h10 ((rz_nr6 h _ (List.mem_of_getElem? (i := 71) (by decide +kernel))))
  have h12 : ∀ i, i < 12 → (Cond.arrayOf (.field (rz_tm i) "java/lang/String" "value" "[B") .byte).before A s = true := rz_stp (n := 11) h11 ((rz_nr9 h _ (List.mem_of_getElem? (i := 78) (by decide +kernel))))
  have h13 : ∀ i, i < 13 → (Cond.arrayOf (.field (rz_tm i) "java/lang/String" "value" "[B") .byte).before A s = true := rz_stp (n := 12) h12 ((rz_nr9 h _ (List.mem_of_getElem? (i := 210) (by decide +kernel))))
  have h14 : ∀ i, i < 14 → (Cond.arrayOf (.field (rz_tm i) "java/lang/String" "value" "[B") .byte).before A s = true := rz_stp (n := 13) h13 ((rz_nr10 h _ (List.mem_of_getElem? (i := 146) (by decide +kernel))))
  have h15 : ∀ i, i < 15 → (Cond.arrayOf (.field (rz_tm i) "java/lang/String" "value" "[B") .byte).before A s = true := rz_stp (n := 14) h14 ((rz_nr10 h _ (List.mem_of_getElem? (i := 222) (by decide +kernel))))
  have h16 : ∀ i, i < 16 → (Cond.arrayOf (.field (rz_tm i) "java/lang/String" "value" "[B") .byte).before A s = true := rz_stp (n := 15) h15 ((rz_nr10 h _ (List.mem_of_getElem? (i := 247) (by decide +kernel))))
  have h17 : ∀ i, i < 17 → (Cond.arrayOf (.field (rz_tm i) "java/lang/String" "value" "[B") .byte).before A s = true := rz_stp (n := 16) h16 ((rz_nr10 h _ (List.mem_of_getElem? (i := 275) (by decide +kernel))))
  have h18 : ∀ i, i < 18 → (Cond.arrayOf (.field (rz_tm i) "java/lang/String" "value" "[B") .byte).before A s = true := rz_stp (n := 17) h17 ((rz_nr10 h _ (List.mem_of_getElem? (i := 300) (by decide +kernel))))
  exact h18
theorem rz_hle {A : Array Value} {s : State} (h : (Jvm.Cond.and given_1 narrow_1).before A s = true) : ∀ i, i < rz_sN → (Cond.eq (.length (.field (rz_tm i) "java/lang/String" "value" "[B")) (.int (Int32.ofNat (rz_sL.getD i 0)))).before A s = true := by
  have h0 : ∀ i, i < 0 → (Cond.eq (.length (.field (rz_tm i) "java/lang/String" "value" "[B")) (.int (Int32.ofNat (rz_sL.getD i 0)))).before A s = true := fun i hi => absurd hi (Nat.not_lt_zero i)
  have h1 : ∀ i, i < 1 → (Cond.eq (.length (.field (rz_tm i) "java/lang/String" "value" "[B")) (.int (Int32.ofNat (rz_sL.getD i 0)))).before A s = true := rz_stp (n := 0) h0 ((rz_nr1 h _ (List.mem_of_getElem? (i := 133) (by decide +kernel))))
  have h2 : ∀ i, i < 2 → (Cond.eq (.length (.field (rz_tm i) "java/lang/String" "value" "[B")) (.int (Int32.ofNat (rz_sL.getD i 0)))).before A s = true := rz_stp (n := 1) h1 ((rz_nr2 h _ (List.mem_of_getElem? (i := 55) (by decide +kernel))))
  have h3 : ∀ i, i < 3 → (Cond.eq (.length (.field (rz_tm i) "java/lang/String" "value" "[B")) (.int (Int32.ofNat (rz_sL.getD i 0)))).before A s = true := rz_stp (n := 2) h2 ((rz_nr2 h _ (List.mem_of_getElem? (i := 175) (by decide +kernel))))
  have h4 : ∀ i, i < 4 → (Cond.eq (.length (.field (rz_tm i) "java/lang/String" "value" "[B")) (.int (Int32.ofNat (rz_sL.getD i 0)))).before A s = true := rz_stp (n := 3) h3 ((rz_nr2 h _ (List.mem_of_getElem? (i := 270) (by decide +kernel))))
  have h5 : ∀ i, i < 5 → (Cond.eq (.length (.field (rz_tm i) "java/lang/String" "value" "[B")) (.int (Int32.ofNat (rz_sL.getD i 0)))).before A s = true := rz_stp (n := 4) h4 ((rz_nr3 h _ (List.mem_of_getElem? (i := 45) (by decide +kernel))))
  have h6 : ∀ i, i < 6 → (Cond.eq (.length (.field (rz_tm i) "java/lang/String" "value" "[B")) (.int (Int32.ofNat (rz_sL.getD i 0)))).before A s = true := rz_stp (n := 5) h5 ((rz_nr3 h _ (List.mem_of_getElem? (i := 225) (by decide +kernel))))
  have h7 : ∀ i, i < 7 → (Cond.eq (.length (.field (rz_tm i) "java/lang/String" "value" "[B")) (.int (Int32.ofNat (rz_sL.getD i 0)))).before A s = true := rz_stp (n := 6) h6 ((rz_nr4 h _ (List.mem_of_getElem? (i := 210) (by decide +kernel))))
  have h8 : ∀ i, i < 8 → (Cond.eq (.length (.field (rz_tm i) "java/lang/String" "value" "[B")) (.int (Int32.ofNat (rz_sL.getD i 0)))).before A s = true := rz_stp (n := 7) h7 ((rz_nr5 h _ (List.mem_of_getElem? (i := 200) (by decide +kernel))))
  have h9 : ∀ i, i < 9 → (Cond.eq (.length (.field (rz_tm i) "java/lang/String" "value" "[B")) (.int (Int32.ofNat (rz_sL.getD i 0)))).before A s = true := rz_stp (n := 8) h8 ((rz_nr5 h _ (List.mem_of_getElem? (i := 307) (by decide +kernel))))
  have h10 : ∀ i, i < 10 → (Cond.eq (.length (.field (rz_tm i) "java/lang/String" "value" "[B")) (.int (Int32.ofNat (rz_sL.getD i 0)))).before A s = true := rz_stp (n := 9) h9 ((rz_nr5 h _ (List.mem_of_getElem? (i := 329) (by decide +kernel))))
  have h11 : ∀ i, i < 11 → (Cond.eq (.length (.field (rz_tm i) "java/lang/String" "value" "[B")) (.int (Int32.ofNat (rz_sL.getD i 0)))).before A s = true := rz_stp (n := 10) h10 ((rz_nr6 h _ (List.mem_of_getElem? (i := 72) (by decide +kernel))))
  have h12 : ∀ i, i < 12 → (Cond.eq (.length (.field (rz_tm i) "java/lang/String" "value" "[B")) (.int (Int32.ofNat (rz_sL.getD i 0)))).before A s = true := rz_stp (n := 11) h11 ((rz_nr9 h _ (List.mem_of_getElem? (i := 79) (by decide +kernel))))
  have h13 : ∀ i, i < 13 → (Cond.eq (.length (.field (rz_tm i) "java/lang/String" "value" "[B")) (.int (Int32.ofNat (rz_sL.getD i 0)))).before A s = true := rz_stp (n := 12) h12 ((rz_nr9 h _ (List.mem_of_getElem? (i := 211) (by decide +kernel))))
  have h14 : ∀ i, i < 14 → (Cond.eq (.length (.field (rz_tm i) "java/lang/String" "value" "[B")) (.int (Int32.ofNat (rz_sL.getD i 0)))).before A s = true := rz_stp (n := 13) h13 ((rz_nr10 h _ (List.mem_of_getElem? (i := 147) (by decide +kernel))))
  have h15 : ∀ i, i < 15 → (Cond.eq (.length (.field (rz_tm i) "java/lang/String" "value" "[B")) (.int (Int32.ofNat (rz_sL.getD i 0)))).before A s = true := rz_stp (n := 14) h14 ((rz_nr10 h _ (List.mem_of_getElem? (i := 223) (by decide +kernel))))
  have h16 : ∀ i, i < 16 → (Cond.eq (.length (.field (rz_tm i) "java/lang/String" "value" "[B")) (.int (Int32.ofNat (rz_sL.getD i 0)))).before A s = true := rz_stp (n := 15) h15 ((rz_nr10 h _ (List.mem_of_getElem? (i := 248) (by decide +kernel))))
  have h17 : ∀ i, i < 17 → (Cond.eq (.length (.field (rz_tm i) "java/lang/String" "value" "[B")) (.int (Int32.ofNat (rz_sL.getD i 0)))).before A s = true := rz_stp (n := 16) h16 ((rz_nr10 h _ (List.mem_of_getElem? (i := 276) (by decide +kernel))))
  have h18 : ∀ i, i < 18 → (Cond.eq (.length (.field (rz_tm i) "java/lang/String" "value" "[B")) (.int (Int32.ofNat (rz_sL.getD i 0)))).before A s = true := rz_stp (n := 17) h17 ((rz_nr10 h _ (List.mem_of_getElem? (i := 301) (by decide +kernel))))
  exact h18
theorem rz_hel {A : Array Value} {s : State} (h : (Jvm.Cond.and given_1 narrow_1).before A s = true) : ∀ i, i < rz_sN → ∀ j, j < rz_sL.getD i 0 → (Cond.eq (.elem (.field (rz_tm i) "java/lang/String" "value" "[B") (.int (Int32.ofNat j))) (.int ((rz_sB.getD i []).getD j 0))).before A s = true := by
  have h0 : ∀ i, i < 0 → ∀ j, j < rz_sL.getD i 0 → (Cond.eq (.elem (.field (rz_tm i) "java/lang/String" "value" "[B") (.int (Int32.ofNat j))) (.int ((rz_sB.getD i []).getD j 0))).before A s = true := fun i hi => absurd hi (Nat.not_lt_zero i)
  have h1 : ∀ i, i < 1 → ∀ j, j < rz_sL.getD i 0 → (Cond.eq (.elem (.field (rz_tm i) "java/lang/String" "value" "[B") (.int (Int32.ofNat j))) (.int ((rz_sB.getD i []).getD j 0))).before A s = true := rz_stp (n := 0) h0 (rz_he0 h)
  have h2 : ∀ i, i < 2 → ∀ j, j < rz_sL.getD i 0 → (Cond.eq (.elem (.field (rz_tm i) "java/lang/String" "value" "[B") (.int (Int32.ofNat j))) (.int ((rz_sB.getD i []).getD j 0))).before A s = true := rz_stp (n := 1) h1 (rz_he1 h)
  have h3 : ∀ i, i < 3 → ∀ j, j < rz_sL.getD i 0 → (Cond.eq (.elem (.field (rz_tm i) "java/lang/String" "value" "[B") (.int (Int32.ofNat j))) (.int ((rz_sB.getD i []).getD j 0))).before A s = true := rz_stp (n := 2) h2 (rz_he2 h)
  have h4 : ∀ i, i < 4 → ∀ j, j < rz_sL.getD i 0 → (Cond.eq (.elem (.field (rz_tm i) "java/lang/String" "value" "[B") (.int (Int32.ofNat j))) (.int ((rz_sB.getD i []).getD j 0))).before A s = true := rz_stp (n := 3) h3 (rz_he3 h)
  have h5 : ∀ i, i < 5 → ∀ j, j < rz_sL.getD i 0 → (Cond.eq (.elem (.field (rz_tm i) "java/lang/String" "value" "[B") (.int (Int32.ofNat j))) (.int ((rz_sB.getD i []).getD j 0))).before A s = true := rz_stp (n := 4) h4 (rz_he4 h)
  have h6 : ∀ i, i < 6 → ∀ j, j < rz_sL.getD i 0 → (Cond.eq (.elem (.field (rz_tm i) "java/lang/String" "value" "[B") (.int (Int32.ofNat j))) (.int ((rz_sB.getD i []).getD j 0))).before A s = true := rz_stp (n := 5) h5 (rz_he5 h)
  have h7 : ∀ i, i < 7 → ∀ j, j < rz_sL.getD i 0 → (Cond.eq (.elem (.field (rz_tm i) "java/lang/String" "value" "[B") (.int (Int32.ofNat j))) (.int ((rz_sB.getD i []).getD j 0))).before A s = true := rz_stp (n := 6) h6 (rz_he6 h)
  have h8 : ∀ i, i < 8 → ∀ j, j < rz_sL.getD i 0 → (Cond.eq (.elem (.field (rz_tm i) "java/lang/String" "value" "[B") (.int (Int32.ofNat j))) (.int ((rz_sB.getD i []).getD j 0))).before A s = true := rz_stp (n := 7) h7 (rz_he7 h)
  have h9 : ∀ i, i < 9 → ∀ j, j < rz_sL.getD i 0 → (Cond.eq (.elem (.field (rz_tm i) "java/lang/String" "value" "[B") (.int (Int32.ofNat j))) (.int ((rz_sB.getD i []).getD j 0))).before A s = true := rz_stp (n := 8) h8 (rz_he8 h)
  have h10 : ∀ i, i < 10 → ∀ j, j < rz_sL.getD i 0 → (Cond.eq (.elem (.field (rz_tm i) "java/lang/String" "value" "[B") (.int (Int32.ofNat j))) (.int ((rz_sB.getD i []).getD j 0))).before A s = true := rz_stp (n := 9) h9 (rz_he9 h)
  have h11 : ∀ i, i < 11 → ∀ j, j < rz_sL.getD i 0 → (Cond.eq (.elem (.field (rz_tm i) "java/lang/String" "value" "[B") (.int (Int32.ofNat j))) (.int ((rz_sB.getD i []).getD j 0))).before A s = true := rz_stp (n := 10) h10 (rz_he10 h)
  have h12 : ∀ i, i < 12 → ∀ j, j < rz_sL.getD i 0 → (Cond.eq (.elem (.field (rz_tm i) "java/lang/String" "value" "[B") (.int (Int32.ofNat j))) (.int ((rz_sB.getD i []).getD j 0))).before A s = true := rz_stp (n := 11) h11 (rz_he11 h)
  have h13 : ∀ i, i < 13 → ∀ j, j < rz_sL.getD i 0 → (Cond.eq (.elem (.field (rz_tm i) "java/lang/String" "value" "[B") (.int (Int32.ofNat j))) (.int ((rz_sB.getD i []).getD j 0))).before A s = true := rz_stp (n := 12) h12 (rz_he12 h)
  have h14 : ∀ i, i < 14 → ∀ j, j < rz_sL.getD i 0 → (Cond.eq (.elem (.field (rz_tm i) "java/lang/String" "value" "[B") (.int (Int32.ofNat j))) (.int ((rz_sB.getD i []).getD j 0))).before A s = true := rz_stp (n := 13) h13 (rz_he13 h)
  have h15 : ∀ i, i < 15 → ∀ j, j < rz_sL.getD i 0 → (Cond.eq (.elem (.field (rz_tm i) "java/lang/String" "value" "[B") (.int (Int32.ofNat j))) (.int ((rz_sB.getD i []).getD j 0))).before A s = true := rz_stp (n := 14) h14 (rz_he14 h)
  have h16 : ∀ i, i < 16 → ∀ j, j < rz_sL.getD i 0 → (Cond.eq (.elem (.field (rz_tm i) "java/lang/String" "value" "[B") (.int (Int32.ofNat j))) (.int ((rz_sB.getD i []).getD j 0))).before A s = true := rz_stp (n := 15) h15 (rz_he15 h)
  have h17 : ∀ i, i < 17 → ∀ j, j < rz_sL.getD i 0 → (Cond.eq (.elem (.field (rz_tm i) "java/lang/String" "value" "[B") (.int (Int32.ofNat j))) (.int ((rz_sB.getD i []).getD j 0))).before A s = true := rz_stp (n := 16) h16 (rz_he16 h)
  have h18 : ∀ i, i < 18 → ∀ j, j < rz_sL.getD i 0 → (Cond.eq (.elem (.field (rz_tm i) "java/lang/String" "value" "[B") (.int (Int32.ofNat j))) (.int ((rz_sB.getD i []).getD j 0))).before A s = true := rz_stp (n := 17) h17 (rz_he17 h)
  exact h18
theorem rz_ne1 {A : Array Value} {s : State} (h : (Jvm.Cond.and given_1 narrow_1).before A s = true) : ∀ i, i < 1 → (Cond.not (Cond.eq (rz_tm i) (rz_tm 1))).before A s = true ∨ (Cond.not (Cond.eq (rz_tm 1) (rz_tm i))).before A s = true := by
  have h0 : ∀ i, i < 0 → (Cond.not (Cond.eq (rz_tm i) (rz_tm 1))).before A s = true ∨ (Cond.not (Cond.eq (rz_tm 1) (rz_tm i))).before A s = true := fun i hi => absurd hi (Nat.not_lt_zero i)
  have h1 : ∀ i, i < 1 → (Cond.not (Cond.eq (rz_tm i) (rz_tm 1))).before A s = true ∨ (Cond.not (Cond.eq (rz_tm 1) (rz_tm i))).before A s = true := rz_stp (n := 0) h0 (Or.inl (rz_nr2 h _ (List.mem_of_getElem? (i := 171) (by decide +kernel))))
  exact h1
theorem rz_ne2 {A : Array Value} {s : State} (h : (Jvm.Cond.and given_1 narrow_1).before A s = true) : ∀ i, i < 2 → (Cond.not (Cond.eq (rz_tm i) (rz_tm 2))).before A s = true ∨ (Cond.not (Cond.eq (rz_tm 2) (rz_tm i))).before A s = true := by
  have h0 : ∀ i, i < 0 → (Cond.not (Cond.eq (rz_tm i) (rz_tm 2))).before A s = true ∨ (Cond.not (Cond.eq (rz_tm 2) (rz_tm i))).before A s = true := fun i hi => absurd hi (Nat.not_lt_zero i)
  have h1 : ∀ i, i < 1 → (Cond.not (Cond.eq (rz_tm i) (rz_tm 2))).before A s = true ∨ (Cond.not (Cond.eq (rz_tm 2) (rz_tm i))).before A s = true := rz_stp (n := 0) h0 (Or.inl (rz_nr2 h _ (List.mem_of_getElem? (i := 265) (by decide +kernel))))
  have h2 : ∀ i, i < 2 → (Cond.not (Cond.eq (rz_tm i) (rz_tm 2))).before A s = true ∨ (Cond.not (Cond.eq (rz_tm 2) (rz_tm i))).before A s = true := rz_stp (n := 1) h1 (Or.inl (rz_nr2 h _ (List.mem_of_getElem? (i := 266) (by decide +kernel))))
  exact h2
theorem rz_ne3 {A : Array Value} {s : State} (h : (Jvm.Cond.and given_1 narrow_1).before A s = true) : ∀ i, i < 3 → (Cond.not (Cond.eq (rz_tm i) (rz_tm 3))).before A s = true ∨ (Cond.not (Cond.eq (rz_tm 3) (rz_tm i))).before A s = true := by
  have h0 : ∀ i, i < 0 → (Cond.not (Cond.eq (rz_tm i) (rz_tm 3))).before A s = true ∨ (Cond.not (Cond.eq (rz_tm 3) (rz_tm i))).before A s = true := fun i hi => absurd hi (Nat.not_lt_zero i)
  have h1 : ∀ i, i < 1 → (Cond.not (Cond.eq (rz_tm i) (rz_tm 3))).before A s = true ∨ (Cond.not (Cond.eq (rz_tm 3) (rz_tm i))).before A s = true := rz_stp (n := 0) h0 (Or.inl (rz_nr3 h _ (List.mem_of_getElem? (i := 39) (by decide +kernel))))
  have h2 : ∀ i, i < 2 → (Cond.not (Cond.eq (rz_tm i) (rz_tm 3))).before A s = true ∨ (Cond.not (Cond.eq (rz_tm 3) (rz_tm i))).before A s = true := rz_stp (n := 1) h1 (Or.inl (rz_nr3 h _ (List.mem_of_getElem? (i := 40) (by decide +kernel))))
  have h3 : ∀ i, i < 3 → (Cond.not (Cond.eq (rz_tm i) (rz_tm 3))).before A s = true ∨ (Cond.not (Cond.eq (rz_tm 3) (rz_tm i))).before A s = true := rz_stp (n := 2) h2 (Or.inl (rz_nr3 h _ (List.mem_of_getElem? (i := 41) (by decide +kernel))))
  exact h3
theorem rz_ne4 {A : Array Value} {s : State} (h : (Jvm.Cond.and given_1 narrow_1).before A s = true) : ∀ i, i < 4 → (Cond.not (Cond.eq (rz_tm i) (rz_tm 4))).before A s = true ∨ (Cond.not (Cond.eq (rz_tm 4) (rz_tm i))).before A s = true := by
  have h0 : ∀ i, i < 0 → (Cond.not (Cond.eq (rz_tm i) (rz_tm 4))).before A s = true ∨ (Cond.not (Cond.eq (rz_tm 4) (rz_tm i))).before A s = true := fun i hi => absurd hi (Nat.not_lt_zero i)
  have h1 : ∀ i, i < 1 → (Cond.not (Cond.eq (rz_tm i) (rz_tm 4))).before A s = true ∨ (Cond.not (Cond.eq (rz_tm 4) (rz_tm i))).before A s = true := rz_stp (n := 0) h0 (Or.inl (rz_nr3 h _ (List.mem_of_getElem? (i := 218) (by decide +kernel))))
  have h2 : ∀ i, i < 2 → (Cond.not (Cond.eq (rz_tm i) (rz_tm 4))).before A s = true ∨ (Cond.not (Cond.eq (rz_tm 4) (rz_tm i))).before A s = true := rz_stp (n := 1) h1 (Or.inl (rz_nr3 h _ (List.mem_of_getElem? (i := 219) (by decide +kernel))))
  have h3 : ∀ i, i < 3 → (Cond.not (Cond.eq (rz_tm i) (rz_tm 4))).before A s = true ∨ (Cond.not (Cond.eq (rz_tm 4) (rz_tm i))).before A s = true := rz_stp (n := 2) h2 (Or.inl (rz_nr3 h _ (List.mem_of_getElem? (i := 220) (by decide +kernel))))
  have h4 : ∀ i, i < 4 → (Cond.not (Cond.eq (rz_tm i) (rz_tm 4))).before A s = true ∨ (Cond.not (Cond.eq (rz_tm 4) (rz_tm i))).before A s = true := rz_stp (n := 3) h3 (Or.inl (rz_nr3 h _ (List.mem_of_getElem? (i := 221) (by decide +kernel))))
  exact h4
theorem rz_ne5 {A : Array Value} {s : State} (h : (Jvm.Cond.and given_1 narrow_1).before A s = true) : ∀ i, i < 5 → (Cond.not (Cond.eq (rz_tm i) (rz_tm 5))).before A s = true ∨ (Cond.not (Cond.eq (rz_tm 5) (rz_tm i))).before A s = true := by
  have h0 : ∀ i, i < 0 → (Cond.not (Cond.eq (rz_tm i) (rz_tm 5))).before A s = true ∨ (Cond.not (Cond.eq (rz_tm 5) (rz_tm i))).before A s = true := fun i hi => absurd hi (Nat.not_lt_zero i)
  have h1 : ∀ i, i < 1 → (Cond.not (Cond.eq (rz_tm i) (rz_tm 5))).before A s = true ∨ (Cond.not (Cond.eq (rz_tm 5) (rz_tm i))).before A s = true := rz_stp (n := 0) h0 (Or.inl (rz_nr4 h _ (List.mem_of_getElem? (i := 202) (by decide +kernel))))
  have h2 : ∀ i, i < 2 → (Cond.not (Cond.eq (rz_tm i) (rz_tm 5))).before A s = true ∨ (Cond.not (Cond.eq (rz_tm 5) (rz_tm i))).before A s = true := rz_stp (n := 1) h1 (Or.inl (rz_nr4 h _ (List.mem_of_getElem? (i := 203) (by decide +kernel))))
  have h3 : ∀ i, i < 3 → (Cond.not (Cond.eq (rz_tm i) (rz_tm 5))).before A s = true ∨ (Cond.not (Cond.eq (rz_tm 5) (rz_tm i))).before A s = true := rz_stp (n := 2) h2 (Or.inl (rz_nr4 h _ (List.mem_of_getElem? (i := 204) (by decide +kernel))))
  have h4 : ∀ i, i < 4 → (Cond.not (Cond.eq (rz_tm i) (rz_tm 5))).before A s = true ∨ (Cond.not (Cond.eq (rz_tm 5) (rz_tm i))).before A s = true := rz_stp (n := 3) h3 (Or.inl (rz_nr4 h _ (List.mem_of_getElem? (i := 205) (by decide +kernel))))
  have h5 : ∀ i, i < 5 → (Cond.not (Cond.eq (rz_tm i) (rz_tm 5))).before A s = true ∨ (Cond.not (Cond.eq (rz_tm 5) (rz_tm i))).before A s = true := rz_stp (n := 4) h4 (Or.inl (rz_nr4 h _ (List.mem_of_getElem? (i := 206) (by decide +kernel))))
  exact h5
theorem rz_ne6 {A : Array Value} {s : State} (h : (Jvm.Cond.and given_1 narrow_1).before A s = true) : ∀ i, i < 6 → (Cond.not (Cond.eq (rz_tm i) (rz_tm 6))).before A s = true ∨ (Cond.not (Cond.eq (rz_tm 6) (rz_tm i))).before A s = true := by
  have h0 : ∀ i, i < 0 → (Cond.not (Cond.eq (rz_tm i) (rz_tm 6))).before A s = true ∨ (Cond.not (Cond.eq (rz_tm 6) (rz_tm i))).before A s = true := fun i hi => absurd hi (Nat.not_lt_zero i)
  have h1 : ∀ i, i < 1 → (Cond.not (Cond.eq (rz_tm i) (rz_tm 6))).before A s = true ∨ (Cond.not (Cond.eq (rz_tm 6) (rz_tm i))).before A s = true := rz_stp (n := 0) h0 (Or.inl (rz_nr5 h _ (List.mem_of_getElem? (i := 191) (by decide +kernel))))
  have h2 : ∀ i, i < 2 → (Cond.not (Cond.eq (rz_tm i) (rz_tm 6))).before A s = true ∨ (Cond.not (Cond.eq (rz_tm 6) (rz_tm i))).before A s = true := rz_stp (n := 1) h1 (Or.inl (rz_nr5 h _ (List.mem_of_getElem? (i := 192) (by decide +kernel))))
  have h3 : ∀ i, i < 3 → (Cond.not (Cond.eq (rz_tm i) (rz_tm 6))).before A s = true ∨ (Cond.not (Cond.eq (rz_tm 6) (rz_tm i))).before A s = true := rz_stp (n := 2) h2 (Or.inl (rz_nr5 h _ (List.mem_of_getElem? (i := 193) (by decide +kernel))))
  have h4 : ∀ i, i < 4 → (Cond.not (Cond.eq (rz_tm i) (rz_tm 6))).before A s = true ∨ (Cond.not (Cond.eq (rz_tm 6) (rz_tm i))).before A s = true := rz_stp (n := 3) h3 (Or.inl (rz_nr5 h _ (List.mem_of_getElem? (i := 194) (by decide +kernel))))
  have h5 : ∀ i, i < 5 → (Cond.not (Cond.eq (rz_tm i) (rz_tm 6))).before A s = true ∨ (Cond.not (Cond.eq (rz_tm 6) (rz_tm i))).before A s = true := rz_stp (n := 4) h4 (Or.inl (rz_nr5 h _ (List.mem_of_getElem? (i := 195) (by decide +kernel))))
  have h6 : ∀ i, i < 6 → (Cond.not (Cond.eq (rz_tm i) (rz_tm 6))).before A s = true ∨ (Cond.not (Cond.eq (rz_tm 6) (rz_tm i))).before A s = true := rz_stp (n := 5) h5 (Or.inl (rz_nr5 h _ (List.mem_of_getElem? (i := 196) (by decide +kernel))))
  exact h6
theorem rz_ne7 {A : Array Value} {s : State} (h : (Jvm.Cond.and given_1 narrow_1).before A s = true) : ∀ i, i < 7 → (Cond.not (Cond.eq (rz_tm i) (rz_tm 7))).before A s = true ∨ (Cond.not (Cond.eq (rz_tm 7) (rz_tm i))).before A s = true := by
  have h0 : ∀ i, i < 0 → (Cond.not (Cond.eq (rz_tm i) (rz_tm 7))).before A s = true ∨ (Cond.not (Cond.eq (rz_tm 7) (rz_tm i))).before A s = true := fun i hi => absurd hi (Nat.not_lt_zero i)
  have h1 : ∀ i, i < 1 → (Cond.not (Cond.eq (rz_tm i) (rz_tm 7))).before A s = true ∨ (Cond.not (Cond.eq (rz_tm 7) (rz_tm i))).before A s = true := rz_stp (n := 0) h0 (Or.inl (rz_nr5 h _ (List.mem_of_getElem? (i := 297) (by decide +kernel))))
  have h2 : ∀ i, i < 2 → (Cond.not (Cond.eq (rz_tm i) (rz_tm 7))).before A s = true ∨ (Cond.not (Cond.eq (rz_tm 7) (rz_tm i))).before A s = true := rz_stp (n := 1) h1 (Or.inl (rz_nr5 h _ (List.mem_of_getElem? (i := 298) (by decide +kernel))))
  have h3 : ∀ i, i < 3 → (Cond.not (Cond.eq (rz_tm i) (rz_tm 7))).before A s = true ∨ (Cond.not (Cond.eq (rz_tm 7) (rz_tm i))).before A s = true := rz_stp (n := 2) h2 (Or.inl (rz_nr5 h _ (List.mem_of_getElem? (i := 299) (by decide +kernel))))
  have h4 : ∀ i, i < 4 → (Cond.not (Cond.eq (rz_tm i) (rz_tm 7))).before A s = true ∨ (Cond.not (Cond.eq (rz_tm 7) (rz_tm i))).before A s = true := rz_stp (n := 3) h3 (Or.inl (rz_nr5 h _ (List.mem_of_getElem? (i := 300) (by decide +kernel))))
  have h5 : ∀ i, i < 5 → (Cond.not (Cond.eq (rz_tm i) (rz_tm 7))).before A s = true ∨ (Cond.not (Cond.eq (rz_tm 7) (rz_tm i))).before A s = true := rz_stp (n := 4) h4 (Or.inl (rz_nr5 h _ (List.mem_of_getElem? (i := 301) (by decide +kernel))))
  have h6 : ∀ i, i < 6 → (Cond.not (Cond.eq (rz_tm i) (rz_tm 7))).before A s = true ∨ (Cond.not (Cond.eq (rz_tm 7) (rz_tm i))).before A s = true := rz_stp (n := 5) h5 (Or.inl (rz_nr5 h _ (List.mem_of_getElem? (i := 302) (by decide +kernel))))
  have h7 : ∀ i, i < 7 → (Cond.not (Cond.eq (rz_tm i) (rz_tm 7))).before A s = true ∨ (Cond.not (Cond.eq (rz_tm 7) (rz_tm i))).before A s = true := rz_stp (n := 6) h6 (Or.inl (rz_nr5 h _ (List.mem_of_getElem? (i := 303) (by decide +kernel))))
  exact h7
theorem rz_ne8 {A : Array Value} {s : State} (h : (Jvm.Cond.and given_1 narrow_1).before A s = true) : ∀ i, i < 8 → (Cond.not (Cond.eq (rz_tm i) (rz_tm 8))).before A s = true ∨ (Cond.not (Cond.eq (rz_tm 8) (rz_tm i))).before A s = true := by
  have h0 : ∀ i, i < 0 → (Cond.not (Cond.eq (rz_tm i) (rz_tm 8))).before A s = true ∨ (Cond.not (Cond.eq (rz_tm 8) (rz_tm i))).before A s = true := fun i hi => absurd hi (Nat.not_lt_zero i)
  have h1 : ∀ i, i < 1 → (Cond.not (Cond.eq (rz_tm i) (rz_tm 8))).before A s = true ∨ (Cond.not (Cond.eq (rz_tm 8) (rz_tm i))).before A s = true := rz_stp (n := 0) h0 (Or.inl (rz_nr5 h _ (List.mem_of_getElem? (i := 318) (by decide +kernel))))
  have h2 : ∀ i, i < 2 → (Cond.not (Cond.eq (rz_tm i) (rz_tm 8))).before A s = true ∨ (Cond.not (Cond.eq (rz_tm 8) (rz_tm i))).before A s = true := rz_stp (n := 1) h1 (Or.inl (rz_nr5 h _ (List.mem_of_getElem? (i := 319) (by decide +kernel))))
  have h3 : ∀ i, i < 3 → (Cond.not (Cond.eq (rz_tm i) (rz_tm 8))).before A s = true ∨ (Cond.not (Cond.eq (rz_tm 8) (rz_tm i))).before A s = true := rz_stp (n := 2) h2 (Or.inl (rz_nr5 h _ (List.mem_of_getElem? (i := 320) (by decide +kernel))))
  have h4 : ∀ i, i < 4 → (Cond.not (Cond.eq (rz_tm i) (rz_tm 8))).before A s = true ∨ (Cond.not (Cond.eq (rz_tm 8) (rz_tm i))).before A s = true := rz_stp (n := 3) h3 (Or.inl (rz_nr5 h _ (List.mem_of_getElem? (i := 321) (by decide +kernel))))
  have h5 : ∀ i, i < 5 → (Cond.not (Cond.eq (rz_tm i) (rz_tm 8))).before A s = true ∨ (Cond.not (Cond.eq (rz_tm 8) (rz_tm i))).before A s = true := rz_stp (n := 4) h4 (Or.inl (rz_nr5 h _ (List.mem_of_getElem? (i := 322) (by decide +kernel))))
  have h6 : ∀ i, i < 6 → (Cond.not (Cond.eq (rz_tm i) (rz_tm 8))).before A s = true ∨ (Cond.not (Cond.eq (rz_tm 8) (rz_tm i))).before A s = true := rz_stp (n := 5) h5 (Or.inl (rz_nr5 h _ (List.mem_of_getElem? (i := 323) (by decide +kernel))))
  have h7 : ∀ i, i < 7 → (Cond.not (Cond.eq (rz_tm i) (rz_tm 8))).before A s = true ∨ (Cond.not (Cond.eq (rz_tm 8) (rz_tm i))).before A s = true := rz_stp (n := 6) h6 (Or.inl (rz_nr5 h _ (List.mem_of_getElem? (i := 324) (by decide +kernel))))
  have h8 : ∀ i, i < 8 → (Cond.not (Cond.eq (rz_tm i) (rz_tm 8))).before A s = true ∨ (Cond.not (Cond.eq (rz_tm 8) (rz_tm i))).before A s = true := rz_stp (n := 7) h7 (Or.inl (rz_nr5 h _ (List.mem_of_getElem? (i := 325) (by decide +kernel))))
  exact h8
theorem rz_ne9 {A : Array Value} {s : State} (h : (Jvm.Cond.and given_1 narrow_1).before A s = true) : ∀ i, i < 9 → (Cond.not (Cond.eq (rz_tm i) (rz_tm 9))).before A s = true ∨ (Cond.not (Cond.eq (rz_tm 9) (rz_tm i))).before A s = true := by
  have h0 : ∀ i, i < 0 → (Cond.not (Cond.eq (rz_tm i) (rz_tm 9))).before A s = true ∨ (Cond.not (Cond.eq (rz_tm 9) (rz_tm i))).before A s = true := fun i hi => absurd hi (Nat.not_lt_zero i)
  have h1 : ∀ i, i < 1 → (Cond.not (Cond.eq (rz_tm i) (rz_tm 9))).before A s = true ∨ (Cond.not (Cond.eq (rz_tm 9) (rz_tm i))).before A s = true := rz_stp (n := 0) h0 (Or.inl (rz_nr5 h _ (List.mem_of_getElem? (i := 388) (by decide +kernel))))
  have h2 : ∀ i, i < 2 → (Cond.not (Cond.eq (rz_tm i) (rz_tm 9))).before A s = true ∨ (Cond.not (Cond.eq (rz_tm 9) (rz_tm i))).before A s = true := rz_stp (n := 1) h1 (Or.inl (rz_nr5 h _ (List.mem_of_getElem? (i := 389) (by decide +kernel))))
  have h3 : ∀ i, i < 3 → (Cond.not (Cond.eq (rz_tm i) (rz_tm 9))).before A s = true ∨ (Cond.not (Cond.eq (rz_tm 9) (rz_tm i))).before A s = true := rz_stp (n := 2) h2 (Or.inl (rz_nr5 h _ (List.mem_of_getElem? (i := 390) (by decide +kernel))))
  have h4 : ∀ i, i < 4 → (Cond.not (Cond.eq (rz_tm i) (rz_tm 9))).before A s = true ∨ (Cond.not (Cond.eq (rz_tm 9) (rz_tm i))).before A s = true := rz_stp (n := 3) h3 (Or.inl (rz_nr5 h _ (List.mem_of_getElem? (i := 391) (by decide +kernel))))
  have h5 : ∀ i, i < 5 → (Cond.not (Cond.eq (rz_tm i) (rz_tm 9))).before A s = true ∨ (Cond.not (Cond.eq (rz_tm 9) (rz_tm i))).before A s = true := rz_stp (n := 4) h4 (Or.inl (rz_nr5 h _ (List.mem_of_getElem? (i := 392) (by decide +kernel))))
  have h6 : ∀ i, i < 6 → (Cond.not (Cond.eq (rz_tm i) (rz_tm 9))).before A s = true ∨ (Cond.not (Cond.eq (rz_tm 9) (rz_tm i))).before A s = true := rz_stp (n := 5) h5 (Or.inl (rz_nr5 h _ (List.mem_of_getElem? (i := 393) (by decide +kernel))))
  have h7 : ∀ i, i < 7 → (Cond.not (Cond.eq (rz_tm i) (rz_tm 9))).before A s = true ∨ (Cond.not (Cond.eq (rz_tm 9) (rz_tm i))).before A s = true := rz_stp (n := 6) h6 (Or.inl (rz_nr5 h _ (List.mem_of_getElem? (i := 394) (by decide +kernel))))
  have h8 : ∀ i, i < 8 → (Cond.not (Cond.eq (rz_tm i) (rz_tm 9))).before A s = true ∨ (Cond.not (Cond.eq (rz_tm 9) (rz_tm i))).before A s = true := rz_stp (n := 7) h7 (Or.inl (rz_nr5 h _ (List.mem_of_getElem? (i := 395) (by decide +kernel))))
  have h9 : ∀ i, i < 9 → (Cond.not (Cond.eq (rz_tm i) (rz_tm 9))).before A s = true ∨ (Cond.not (Cond.eq (rz_tm 9) (rz_tm i))).before A s = true := rz_stp (n := 8) h8 (Or.inl (rz_nr5 h _ (List.mem_of_getElem? (i := 396) (by decide +kernel))))
  exact h9
theorem rz_ne10 {A : Array Value} {s : State} (h : (Jvm.Cond.and given_1 narrow_1).before A s = true) : ∀ i, i < 10 → (Cond.not (Cond.eq (rz_tm i) (rz_tm 10))).before A s = true ∨ (Cond.not (Cond.eq (rz_tm 10) (rz_tm i))).before A s = true := by
  have h0 : ∀ i, i < 0 → (Cond.not (Cond.eq (rz_tm i) (rz_tm 10))).before A s = true ∨ (Cond.not (Cond.eq (rz_tm 10) (rz_tm i))).before A s = true := fun i hi => absurd hi (Nat.not_lt_zero i)
  have h1 : ∀ i, i < 1 → (Cond.not (Cond.eq (rz_tm i) (rz_tm 10))).before A s = true ∨ (Cond.not (Cond.eq (rz_tm 10) (rz_tm i))).before A s = true := rz_stp (n := 0) h0 (Or.inl (rz_nr9 h _ (List.mem_of_getElem? (i := 65) (by decide +kernel))))
  have h2 : ∀ i, i < 2 → (Cond.not (Cond.eq (rz_tm i) (rz_tm 10))).before A s = true ∨ (Cond.not (Cond.eq (rz_tm 10) (rz_tm i))).before A s = true := rz_stp (n := 1) h1 (Or.inl (rz_nr9 h _ (List.mem_of_getElem? (i := 66) (by decide +kernel))))
  have h3 : ∀ i, i < 3 → (Cond.not (Cond.eq (rz_tm i) (rz_tm 10))).before A s = true ∨ (Cond.not (Cond.eq (rz_tm 10) (rz_tm i))).before A s = true := rz_stp (n := 2) h2 (Or.inl (rz_nr9 h _ (List.mem_of_getElem? (i := 67) (by decide +kernel))))
  have h4 : ∀ i, i < 4 → (Cond.not (Cond.eq (rz_tm i) (rz_tm 10))).before A s = true ∨ (Cond.not (Cond.eq (rz_tm 10) (rz_tm i))).before A s = true := rz_stp (n := 3) h3 (Or.inl (rz_nr9 h _ (List.mem_of_getElem? (i := 68) (by decide +kernel))))
  have h5 : ∀ i, i < 5 → (Cond.not (Cond.eq (rz_tm i) (rz_tm 10))).before A s = true ∨ (Cond.not (Cond.eq (rz_tm 10) (rz_tm i))).before A s = true := rz_stp (n := 4) h4 (Or.inl (rz_nr9 h _ (List.mem_of_getElem? (i := 69) (by decide +kernel))))
  have h6 : ∀ i, i < 6 → (Cond.not (Cond.eq (rz_tm i) (rz_tm 10))).before A s = true ∨ (Cond.not (Cond.eq (rz_tm 10) (rz_tm i))).before A s = true := rz_stp (n := 5) h5 (Or.inl (rz_nr9 h _ (List.mem_of_getElem? (i := 70) (by decide +kernel))))
  have h7 : ∀ i, i < 7 → (Cond.not (Cond.eq (rz_tm i) (rz_tm 10))).before A s = true ∨ (Cond.not (Cond.eq (rz_tm 10) (rz_tm i))).before A s = true := rz_stp (n := 6) h6 (Or.inl (rz_nr9 h _ (List.mem_of_getElem? (i := 71) (by decide +kernel))))
  have h8 : ∀ i, i < 8 → (Cond.not (Cond.eq (rz_tm i) (rz_tm 10))).before A s = true ∨ (Cond.not (Cond.eq (rz_tm 10) (rz_tm i))).before A s = true := rz_stp (n := 7) h7 (Or.inl (rz_nr9 h _ (List.mem_of_getElem? (i := 72) (by decide +kernel))))
  have h9 : ∀ i, i < 9 → (Cond.not (Cond.eq (rz_tm i) (rz_tm 10))).before A s = true ∨ (Cond.not (Cond.eq (rz_tm 10) (rz_tm i))).before A s = true := rz_stp (n := 8) h8 (Or.inl (rz_nr9 h _ (List.mem_of_getElem? (i := 73) (by decide +kernel))))
  have h10 : ∀ i, i < 10 → (Cond.not (Cond.eq (rz_tm i) (rz_tm 10))).before A s = true ∨ (Cond.not (Cond.eq (rz_tm 10) (rz_tm i))).before A s = true := rz_stp (n := 9) h9 (Or.inl (rz_nr9 h _ (List.mem_of_getElem? (i := 74) (by decide +kernel))))
  exact h10
theorem rz_ne11 {A : Array Value} {s : State} (h : (Jvm.Cond.and given_1 narrow_1).before A s = true) : ∀ i, i < 11 → (Cond.not (Cond.eq (rz_tm i) (rz_tm 11))).before A s = true ∨ (Cond.not (Cond.eq (rz_tm 11) (rz_tm i))).before A s = true := by
  have h0 : ∀ i, i < 0 → (Cond.not (Cond.eq (rz_tm i) (rz_tm 11))).before A s = true ∨ (Cond.not (Cond.eq (rz_tm 11) (rz_tm i))).before A s = true := fun i hi => absurd hi (Nat.not_lt_zero i)
  have h1 : ∀ i, i < 1 → (Cond.not (Cond.eq (rz_tm i) (rz_tm 11))).before A s = true ∨ (Cond.not (Cond.eq (rz_tm 11) (rz_tm i))).before A s = true := rz_stp (n := 0) h0 (Or.inl (rz_nr9 h _ (List.mem_of_getElem? (i := 196) (by decide +kernel))))
  have h2 : ∀ i, i < 2 → (Cond.not (Cond.eq (rz_tm i) (rz_tm 11))).before A s = true ∨ (Cond.not (Cond.eq (rz_tm 11) (rz_tm i))).before A s = true := rz_stp (n := 1) h1 (Or.inl (rz_nr9 h _ (List.mem_of_getElem? (i := 197) (by decide +kernel))))
  have h3 : ∀ i, i < 3 → (Cond.not (Cond.eq (rz_tm i) (rz_tm 11))).before A s = true ∨ (Cond.not (Cond.eq (rz_tm 11) (rz_tm i))).before A s = true := rz_stp (n := 2) h2 (Or.inl (rz_nr9 h _ (List.mem_of_getElem? (i := 198) (by decide +kernel))))
  have h4 : ∀ i, i < 4 → (Cond.not (Cond.eq (rz_tm i) (rz_tm 11))).before A s = true ∨ (Cond.not (Cond.eq (rz_tm 11) (rz_tm i))).before A s = true := rz_stp (n := 3) h3 (Or.inl (rz_nr9 h _ (List.mem_of_getElem? (i := 199) (by decide +kernel))))
  have h5 : ∀ i, i < 5 → (Cond.not (Cond.eq (rz_tm i) (rz_tm 11))).before A s = true ∨ (Cond.not (Cond.eq (rz_tm 11) (rz_tm i))).before A s = true := rz_stp (n := 4) h4 (Or.inl (rz_nr9 h _ (List.mem_of_getElem? (i := 200) (by decide +kernel))))
  have h6 : ∀ i, i < 6 → (Cond.not (Cond.eq (rz_tm i) (rz_tm 11))).before A s = true ∨ (Cond.not (Cond.eq (rz_tm 11) (rz_tm i))).before A s = true := rz_stp (n := 5) h5 (Or.inl (rz_nr9 h _ (List.mem_of_getElem? (i := 201) (by decide +kernel))))
  have h7 : ∀ i, i < 7 → (Cond.not (Cond.eq (rz_tm i) (rz_tm 11))).before A s = true ∨ (Cond.not (Cond.eq (rz_tm 11) (rz_tm i))).before A s = true := rz_stp (n := 6) h6 (Or.inl (rz_nr9 h _ (List.mem_of_getElem? (i := 202) (by decide +kernel))))
  have h8 : ∀ i, i < 8 → (Cond.not (Cond.eq (rz_tm i) (rz_tm 11))).before A s = true ∨ (Cond.not (Cond.eq (rz_tm 11) (rz_tm i))).before A s = true := rz_stp (n := 7) h7 (Or.inl (rz_nr9 h _ (List.mem_of_getElem? (i := 203) (by decide +kernel))))
  have h9 : ∀ i, i < 9 → (Cond.not (Cond.eq (rz_tm i) (rz_tm 11))).before A s = true ∨ (Cond.not (Cond.eq (rz_tm 11) (rz_tm i))).before A s = true := rz_stp (n := 8) h8 (Or.inl (rz_nr9 h _ (List.mem_of_getElem? (i := 204) (by decide +kernel))))
  have h10 : ∀ i, i < 10 → (Cond.not (Cond.eq (rz_tm i) (rz_tm 11))).before A s = true ∨ (Cond.not (Cond.eq (rz_tm 11) (rz_tm i))).before A s = true := rz_stp (n := 9) h9 (Or.inl (rz_nr9 h _ (List.mem_of_getElem? (i := 205) (by decide +kernel))))
  have h11 : ∀ i, i < 11 → (Cond.not (Cond.eq (rz_tm i) (rz_tm 11))).before A s = true ∨ (Cond.not (Cond.eq (rz_tm 11) (rz_tm i))).before A s = true := rz_stp (n := 10) h10 (Or.inl (rz_nr9 h _ (List.mem_of_getElem? (i := 207) (by decide +kernel))))
  exact h11
theorem rz_ne12 {A : Array Value} {s : State} (h : (Jvm.Cond.and given_1 narrow_1).before A s = true) : ∀ i, i < 12 → (Cond.not (Cond.eq (rz_tm i) (rz_tm 12))).before A s = true ∨ (Cond.not (Cond.eq (rz_tm 12) (rz_tm i))).before A s = true := by
  have h0 : ∀ i, i < 0 → (Cond.not (Cond.eq (rz_tm i) (rz_tm 12))).before A s = true ∨ (Cond.not (Cond.eq (rz_tm 12) (rz_tm i))).before A s = true := fun i hi => absurd hi (Nat.not_lt_zero i)
  have h1 : ∀ i, i < 1 → (Cond.not (Cond.eq (rz_tm i) (rz_tm 12))).before A s = true ∨ (Cond.not (Cond.eq (rz_tm 12) (rz_tm i))).before A s = true := rz_stp (n := 0) h0 (Or.inl (rz_nr10 h _ (List.mem_of_getElem? (i := 131) (by decide +kernel))))
  have h2 : ∀ i, i < 2 → (Cond.not (Cond.eq (rz_tm i) (rz_tm 12))).before A s = true ∨ (Cond.not (Cond.eq (rz_tm 12) (rz_tm i))).before A s = true := rz_stp (n := 1) h1 (Or.inl (rz_nr10 h _ (List.mem_of_getElem? (i := 132) (by decide +kernel))))
  have h3 : ∀ i, i < 3 → (Cond.not (Cond.eq (rz_tm i) (rz_tm 12))).before A s = true ∨ (Cond.not (Cond.eq (rz_tm 12) (rz_tm i))).before A s = true := rz_stp (n := 2) h2 (Or.inl (rz_nr10 h _ (List.mem_of_getElem? (i := 133) (by decide +kernel))))
  have h4 : ∀ i, i < 4 → (Cond.not (Cond.eq (rz_tm i) (rz_tm 12))).before A s = true ∨ (Cond.not (Cond.eq (rz_tm 12) (rz_tm i))).before A s = true := rz_stp (n := 3) h3 (Or.inl (rz_nr10 h _ (List.mem_of_getElem? (i := 134) (by decide +kernel))))
  have h5 : ∀ i, i < 5 → (Cond.not (Cond.eq (rz_tm i) (rz_tm 12))).before A s = true ∨ (Cond.not (Cond.eq (rz_tm 12) (rz_tm i))).before A s = true := rz_stp (n := 4) h4 (Or.inl (rz_nr10 h _ (List.mem_of_getElem? (i := 135) (by decide +kernel))))
  have h6 : ∀ i, i < 6 → (Cond.not (Cond.eq (rz_tm i) (rz_tm 12))).before A s = true ∨ (Cond.not (Cond.eq (rz_tm 12) (rz_tm i))).before A s = true := rz_stp (n := 5) h5 (Or.inl (rz_nr10 h _ (List.mem_of_getElem? (i := 136) (by decide +kernel))))
  have h7 : ∀ i, i < 7 → (Cond.not (Cond.eq (rz_tm i) (rz_tm 12))).before A s = true ∨ (Cond.not (Cond.eq (rz_tm 12) (rz_tm i))).before A s = true := rz_stp (n := 6) h6 (Or.inl (rz_nr10 h _ (List.mem_of_getElem? (i := 137) (by decide +kernel))))
  have h8 : ∀ i, i < 8 → (Cond.not (Cond.eq (rz_tm i) (rz_tm 12))).before A s = true ∨ (Cond.not (Cond.eq (rz_tm 12) (rz_tm i))).before A s = true := rz_stp (n := 7) h7 (Or.inl (rz_nr10 h _ (List.mem_of_getElem? (i := 138) (by decide +kernel))))
  have h9 : ∀ i, i < 9 → (Cond.not (Cond.eq (rz_tm i) (rz_tm 12))).before A s = true ∨ (Cond.not (Cond.eq (rz_tm 12) (rz_tm i))).before A s = true := rz_stp (n := 8) h8 (Or.inl (rz_nr10 h _ (List.mem_of_getElem? (i := 139) (by decide +kernel))))
  have h10 : ∀ i, i < 10 → (Cond.not (Cond.eq (rz_tm i) (rz_tm 12))).before A s = true ∨ (Cond.not (Cond.eq (rz_tm 12) (rz_tm i))).before A s = true := rz_stp (n := 9) h9 (Or.inl (rz_nr10 h _ (List.mem_of_getElem? (i := 140) (by decide +kernel))))
  have h11 : ∀ i, i < 11 → (Cond.not (Cond.eq (rz_tm i) (rz_tm 12))).before A s = true ∨ (Cond.not (Cond.eq (rz_tm 12) (rz_tm i))).before A s = true := rz_stp (n := 10) h10 (Or.inl (rz_nr10 h _ (List.mem_of_getElem? (i := 142) (by decide +kernel))))
  have h12 : ∀ i, i < 12 → (Cond.not (Cond.eq (rz_tm i) (rz_tm 12))).before A s = true ∨ (Cond.not (Cond.eq (rz_tm 12) (rz_tm i))).before A s = true := rz_stp (n := 11) h11 (Or.inl (rz_nr10 h _ (List.mem_of_getElem? (i := 143) (by decide +kernel))))
  exact h12
theorem rz_ne13 {A : Array Value} {s : State} (h : (Jvm.Cond.and given_1 narrow_1).before A s = true) : ∀ i, i < 13 → (Cond.not (Cond.eq (rz_tm i) (rz_tm 13))).before A s = true ∨ (Cond.not (Cond.eq (rz_tm 13) (rz_tm i))).before A s = true := by
  have h0 : ∀ i, i < 0 → (Cond.not (Cond.eq (rz_tm i) (rz_tm 13))).before A s = true ∨ (Cond.not (Cond.eq (rz_tm 13) (rz_tm i))).before A s = true := fun i hi => absurd hi (Nat.not_lt_zero i)
  have h1 : ∀ i, i < 1 → (Cond.not (Cond.eq (rz_tm i) (rz_tm 13))).before A s = true ∨ (Cond.not (Cond.eq (rz_tm 13) (rz_tm i))).before A s = true := rz_stp (n := 0) h0 (Or.inl (rz_nr10 h _ (List.mem_of_getElem? (i := 206) (by decide +kernel))))
  have h2 : ∀ i, i < 2 → (Cond.not (Cond.eq (rz_tm i) (rz_tm 13))).before A s = true ∨ (Cond.not (Cond.eq (rz_tm 13) (rz_tm i))).before A s = true := rz_stp (n := 1) h1 (Or.inl (rz_nr10 h _ (List.mem_of_getElem? (i := 207) (by decide +kernel))))
  have h3 : ∀ i, i < 3 → (Cond.not (Cond.eq (rz_tm i) (rz_tm 13))).before A s = true ∨ (Cond.not (Cond.eq (rz_tm 13) (rz_tm i))).before A s = true := rz_stp (n := 2) h2 (Or.inl (rz_nr10 h _ (List.mem_of_getElem? (i := 208) (by decide +kernel))))
  have h4 : ∀ i, i < 4 → (Cond.not (Cond.eq (rz_tm i) (rz_tm 13))).before A s = true ∨ (Cond.not (Cond.eq (rz_tm 13) (rz_tm i))).before A s = true := rz_stp (n := 3) h3 (Or.inl (rz_nr10 h _ (List.mem_of_getElem? (i := 209) (by decide +kernel))))
  have h5 : ∀ i, i < 5 → (Cond.not (Cond.eq (rz_tm i) (rz_tm 13))).before A s = true ∨ (Cond.not (Cond.eq (rz_tm 13) (rz_tm i))).before A s = true := rz_stp (n := 4) h4 (Or.inl (rz_nr10 h _ (List.mem_of_getElem? (i := 210) (by decide +kernel))))
  have h6 : ∀ i, i < 6 → (Cond.not (Cond.eq (rz_tm i) (rz_tm 13))).before A s = true ∨ (Cond.not (Cond.eq (rz_tm 13) (rz_tm i))).before A s = true := rz_stp (n := 5) h5 (Or.inl (rz_nr10 h _ (List.mem_of_getElem? (i := 211) (by decide +kernel))))
  have h7 : ∀ i, i < 7 → (Cond.not (Cond.eq (rz_tm i) (rz_tm 13))).before A s = true ∨ (Cond.not (Cond.eq (rz_tm 13) (rz_tm i))).before A s = true := rz_stp (n := 6) h6 (Or.inl (rz_nr10 h _ (List.mem_of_getElem? (i := 212) (by decide +kernel))))
  have h8 : ∀ i, i < 8 → (Cond.not (Cond.eq (rz_tm i) (rz_tm 13))).before A s = true ∨ (Cond.not (Cond.eq (rz_tm 13) (rz_tm i))).before A s = true := rz_stp (n := 7) h7 (Or.inl (rz_nr10 h _ (List.mem_of_getElem? (i := 213) (by decide +kernel))))
  have h9 : ∀ i, i < 9 → (Cond.not (Cond.eq (rz_tm i) (rz_tm 13))).before A s = true ∨ (Cond.not (Cond.eq (rz_tm 13) (rz_tm i))).before A s = true := rz_stp (n := 8) h8 (Or.inl (rz_nr10 h _ (List.mem_of_getElem? (i := 214) (by decide +kernel))))
  have h10 : ∀ i, i < 10 → (Cond.not (Cond.eq (rz_tm i) (rz_tm 13))).before A s = true ∨ (Cond.not (Cond.eq (rz_tm 13) (rz_tm i))).before A s = true := rz_stp (n := 9) h9 (Or.inl (rz_nr10 h _ (List.mem_of_getElem? (i := 215) (by decide +kernel))))
  have h11 : ∀ i, i < 11 → (Cond.not (Cond.eq (rz_tm i) (rz_tm 13))).before A s = true ∨ (Cond.not (Cond.eq (rz_tm 13) (rz_tm i))).before A s = true := rz_stp (n := 10) h10 (Or.inl (rz_nr10 h _ (List.mem_of_getElem? (i := 217) (by decide +kernel))))
  have h12 : ∀ i, i < 12 → (Cond.not (Cond.eq (rz_tm i) (rz_tm 13))).before A s = true ∨ (Cond.not (Cond.eq (rz_tm 13) (rz_tm i))).before A s = true := rz_stp (n := 11) h11 (Or.inl (rz_nr10 h _ (List.mem_of_getElem? (i := 218) (by decide +kernel))))
  have h13 : ∀ i, i < 13 → (Cond.not (Cond.eq (rz_tm i) (rz_tm 13))).before A s = true ∨ (Cond.not (Cond.eq (rz_tm 13) (rz_tm i))).before A s = true := rz_stp (n := 12) h12 (Or.inl (rz_nr10 h _ (List.mem_of_getElem? (i := 219) (by decide +kernel))))
  exact h13
theorem rz_ne14 {A : Array Value} {s : State} (h : (Jvm.Cond.and given_1 narrow_1).before A s = true) : ∀ i, i < 14 → (Cond.not (Cond.eq (rz_tm i) (rz_tm 14))).before A s = true ∨ (Cond.not (Cond.eq (rz_tm 14) (rz_tm i))).before A s = true := by
  have h0 : ∀ i, i < 0 → (Cond.not (Cond.eq (rz_tm i) (rz_tm 14))).before A s = true ∨ (Cond.not (Cond.eq (rz_tm 14) (rz_tm i))).before A s = true := fun i hi => absurd hi (Nat.not_lt_zero i)
  have h1 : ∀ i, i < 1 → (Cond.not (Cond.eq (rz_tm i) (rz_tm 14))).before A s = true ∨ (Cond.not (Cond.eq (rz_tm 14) (rz_tm i))).before A s = true := rz_stp (n := 0) h0 (Or.inl (rz_nr10 h _ (List.mem_of_getElem? (i := 230) (by decide +kernel))))
  have h2 : ∀ i, i < 2 → (Cond.not (Cond.eq (rz_tm i) (rz_tm 14))).before A s = true ∨ (Cond.not (Cond.eq (rz_tm 14) (rz_tm i))).before A s = true := rz_stp (n := 1) h1 (Or.inl (rz_nr10 h _ (List.mem_of_getElem? (i := 231) (by decide +kernel))))
  have h3 : ∀ i, i < 3 → (Cond.not (Cond.eq (rz_tm i) (rz_tm 14))).before A s = true ∨ (Cond.not (Cond.eq (rz_tm 14) (rz_tm i))).before A s = true := rz_stp (n := 2) h2 (Or.inl (rz_nr10 h _ (List.mem_of_getElem? (i := 232) (by decide +kernel))))
  have h4 : ∀ i, i < 4 → (Cond.not (Cond.eq (rz_tm i) (rz_tm 14))).before A s = true ∨ (Cond.not (Cond.eq (rz_tm 14) (rz_tm i))).before A s = true := rz_stp (n := 3) h3 (Or.inl (rz_nr10 h _ (List.mem_of_getElem? (i := 233) (by decide +kernel))))
  have h5 : ∀ i, i < 5 → (Cond.not (Cond.eq (rz_tm i) (rz_tm 14))).before A s = true ∨ (Cond.not (Cond.eq (rz_tm 14) (rz_tm i))).before A s = true := rz_stp (n := 4) h4 (Or.inl (rz_nr10 h _ (List.mem_of_getElem? (i := 234) (by decide +kernel))))
  have h6 : ∀ i, i < 6 → (Cond.not (Cond.eq (rz_tm i) (rz_tm 14))).before A s = true ∨ (Cond.not (Cond.eq (rz_tm 14) (rz_tm i))).before A s = true := rz_stp (n := 5) h5 (Or.inl (rz_nr10 h _ (List.mem_of_getElem? (i := 235) (by decide +kernel))))
  have h7 : ∀ i, i < 7 → (Cond.not (Cond.eq (rz_tm i) (rz_tm 14))).before A s = true ∨ (Cond.not (Cond.eq (rz_tm 14) (rz_tm i))).before A s = true := rz_stp (n := 6) h6 (Or.inl (rz_nr10 h _ (List.mem_of_getElem? (i := 236) (by decide +kernel))))
  have h8 : ∀ i, i < 8 → (Cond.not (Cond.eq (rz_tm i) (rz_tm 14))).before A s = true ∨ (Cond.not (Cond.eq (rz_tm 14) (rz_tm i))).before A s = true := rz_stp (n := 7) h7 (Or.inl (rz_nr10 h _ (List.mem_of_getElem? (i := 237) (by decide +kernel))))
  have h9 : ∀ i, i < 9 → (Cond.not (Cond.eq (rz_tm i) (rz_tm 14))).before A s = true ∨ (Cond.not (Cond.eq (rz_tm 14) (rz_tm i))).before A s = true := rz_stp (n := 8) h8 (Or.inl (rz_nr10 h _ (List.mem_of_getElem? (i := 238) (by decide +kernel))))
  have h10 : ∀ i, i < 10 → (Cond.not (Cond.eq (rz_tm i) (rz_tm 14))).before A s = true ∨ (Cond.not (Cond.eq (rz_tm 14) (rz_tm i))).before A s = true := rz_stp (n := 9) h9 (Or.inl (rz_nr10 h _ (List.mem_of_getElem? (i := 239) (by decide +kernel))))
  have h11 : ∀ i, i < 11 → (Cond.not (Cond.eq (rz_tm i) (rz_tm 14))).before A s = true ∨ (Cond.not (Cond.eq (rz_tm 14) (rz_tm i))).before A s = true := rz_stp (n := 10) h10 (Or.inl (rz_nr10 h _ (List.mem_of_getElem? (i := 241) (by decide +kernel))))
  have h12 : ∀ i, i < 12 → (Cond.not (Cond.eq (rz_tm i) (rz_tm 14))).before A s = true ∨ (Cond.not (Cond.eq (rz_tm 14) (rz_tm i))).before A s = true := rz_stp (n := 11) h11 (Or.inl (rz_nr10 h _ (List.mem_of_getElem? (i := 242) (by decide +kernel))))
  have h13 : ∀ i, i < 13 → (Cond.not (Cond.eq (rz_tm i) (rz_tm 14))).before A s = true ∨ (Cond.not (Cond.eq (rz_tm 14) (rz_tm i))).before A s = true := rz_stp (n := 12) h12 (Or.inl (rz_nr10 h _ (List.mem_of_getElem? (i := 243) (by decide +kernel))))
  have h14 : ∀ i, i < 14 → (Cond.not (Cond.eq (rz_tm i) (rz_tm 14))).before A s = true ∨ (Cond.not (Cond.eq (rz_tm 14) (rz_tm i))).before A s = true := rz_stp (n := 13) h13 (Or.inl (rz_nr10 h _ (List.mem_of_getElem? (i := 244) (by decide +kernel))))
  exact h14
theorem rz_ne15 {A : Array Value} {s : State} (h : (Jvm.Cond.and given_1 narrow_1).before A s = true) : ∀ i, i < 15 → (Cond.not (Cond.eq (rz_tm i) (rz_tm 15))).before A s = true ∨ (Cond.not (Cond.eq (rz_tm 15) (rz_tm i))).before A s = true := by
  have h0 : ∀ i, i < 0 → (Cond.not (Cond.eq (rz_tm i) (rz_tm 15))).before A s = true ∨ (Cond.not (Cond.eq (rz_tm 15) (rz_tm i))).before A s = true := fun i hi => absurd hi (Nat.not_lt_zero i)
  have h1 : ∀ i, i < 1 → (Cond.not (Cond.eq (rz_tm i) (rz_tm 15))).before A s = true ∨ (Cond.not (Cond.eq (rz_tm 15) (rz_tm i))).before A s = true := rz_stp (n := 0) h0 (Or.inl (rz_nr10 h _ (List.mem_of_getElem? (i := 257) (by decide +kernel))))
  have h2 : ∀ i, i < 2 → (Cond.not (Cond.eq (rz_tm i) (rz_tm 15))).before A s = true ∨ (Cond.not (Cond.eq (rz_tm 15) (rz_tm i))).before A s = true := rz_stp (n := 1) h1 (Or.inl (rz_nr10 h _ (List.mem_of_getElem? (i := 258) (by decide +kernel))))
  have h3 : ∀ i, i < 3 → (Cond.not (Cond.eq (rz_tm i) (rz_tm 15))).before A s = true ∨ (Cond.not (Cond.eq (rz_tm 15) (rz_tm i))).before A s = true := rz_stp (n := 2) h2 (Or.inl (rz_nr10 h _ (List.mem_of_getElem? (i := 259) (by decide +kernel))))
  have h4 : ∀ i, i < 4 → (Cond.not (Cond.eq (rz_tm i) (rz_tm 15))).before A s = true ∨ (Cond.not (Cond.eq (rz_tm 15) (rz_tm i))).before A s = true := rz_stp (n := 3) h3 (Or.inl (rz_nr10 h _ (List.mem_of_getElem? (i := 260) (by decide +kernel))))
  have h5 : ∀ i, i < 5 → (Cond.not (Cond.eq (rz_tm i) (rz_tm 15))).before A s = true ∨ (Cond.not (Cond.eq (rz_tm 15) (rz_tm i))).before A s = true := rz_stp (n := 4) h4 (Or.inl (rz_nr10 h _ (List.mem_of_getElem? (i := 261) (by decide +kernel))))
  have h6 : ∀ i, i < 6 → (Cond.not (Cond.eq (rz_tm i) (rz_tm 15))).before A s = true ∨ (Cond.not (Cond.eq (rz_tm 15) (rz_tm i))).before A s = true := rz_stp (n := 5) h5 (Or.inl (rz_nr10 h _ (List.mem_of_getElem? (i := 262) (by decide +kernel))))
  have h7 : ∀ i, i < 7 → (Cond.not (Cond.eq (rz_tm i) (rz_tm 15))).before A s = true ∨ (Cond.not (Cond.eq (rz_tm 15) (rz_tm i))).before A s = true := rz_stp (n := 6) h6 (Or.inl (rz_nr10 h _ (List.mem_of_getElem? (i := 263) (by decide +kernel))))
  have h8 : ∀ i, i < 8 → (Cond.not (Cond.eq (rz_tm i) (rz_tm 15))).before A s = true ∨ (Cond.not (Cond.eq (rz_tm 15) (rz_tm i))).before A s = true := rz_stp (n := 7) h7 (Or.inl (rz_nr10 h _ (List.mem_of_getElem? (i := 264) (by decide +kernel))))
  have h9 : ∀ i, i < 9 → (Cond.not (Cond.eq (rz_tm i) (rz_tm 15))).before A s = true ∨ (Cond.not (Cond.eq (rz_tm 15) (rz_tm i))).before A s = true := rz_stp (n := 8) h8 (Or.inl (rz_nr10 h _ (List.mem_of_getElem? (i := 265) (by decide +kernel))))
  have h10 : ∀ i, i < 10 → (Cond.not (Cond.eq (rz_tm i) (rz_tm 15))).before A s = true ∨ (Cond.not (Cond.eq (rz_tm 15) (rz_tm i))).before A s = true := rz_stp (n := 9) h9 (Or.inl (rz_nr10 h _ (List.mem_of_getElem? (i := 266) (by decide +kernel))))
  have h11 : ∀ i, i < 11 → (Cond.not (Cond.eq (rz_tm i) (rz_tm 15))).before A s = true ∨ (Cond.not (Cond.eq (rz_tm 15) (rz_tm i))).before A s = true := rz_stp (n := 10) h10 (Or.inl (rz_nr10 h _ (List.mem_of_getElem? (i := 268) (by decide +kernel))))
  have h12 : ∀ i, i < 12 → (Cond.not (Cond.eq (rz_tm i) (rz_tm 15))).before A s = true ∨ (Cond.not (Cond.eq (rz_tm 15) (rz_tm i))).before A s = true := rz_stp (n := 11) h11 (Or.inl (rz_nr10 h _ (List.mem_of_getElem? (i := 269) (by decide +kernel))))
  have h13 : ∀ i, i < 13 → (Cond.not (Cond.eq (rz_tm i) (rz_tm 15))).before A s = true ∨ (Cond.not (Cond.eq (rz_tm 15) (rz_tm i))).before A s = true := rz_stp (n := 12) h12 (Or.inl (rz_nr10 h _ (List.mem_of_getElem? (i := 270) (by decide +kernel))))
  have h14 : ∀ i, i < 14 → (Cond.not (Cond.eq (rz_tm i) (rz_tm 15))).before A s = true ∨ (Cond.not (Cond.eq (rz_tm 15) (rz_tm i))).before A s = true := rz_stp (n := 13) h13 (Or.inl (rz_nr10 h _ (List.mem_of_getElem? (i := 271) (by decide +kernel))))
  have h15 : ∀ i, i < 15 → (Cond.not (Cond.eq (rz_tm i) (rz_tm 15))).before A s = true ∨ (Cond.not (Cond.eq (rz_tm 15) (rz_tm i))).before A s = true := rz_stp (n := 14) h14 (Or.inl (rz_nr10 h _ (List.mem_of_getElem? (i := 272) (by decide +kernel))))
  exact h15
theorem rz_ne16 {A : Array Value} {s : State} (h : (Jvm.Cond.and given_1 narrow_1).before A s = true) : ∀ i, i < 16 → (Cond.not (Cond.eq (rz_tm i) (rz_tm 16))).before A s = true ∨ (Cond.not (Cond.eq (rz_tm 16) (rz_tm i))).before A s = true := by
  have h0 : ∀ i, i < 0 → (Cond.not (Cond.eq (rz_tm i) (rz_tm 16))).before A s = true ∨ (Cond.not (Cond.eq (rz_tm 16) (rz_tm i))).before A s = true := fun i hi => absurd hi (Nat.not_lt_zero i)
  have h1 : ∀ i, i < 1 → (Cond.not (Cond.eq (rz_tm i) (rz_tm 16))).before A s = true ∨ (Cond.not (Cond.eq (rz_tm 16) (rz_tm i))).before A s = true := rz_stp (n := 0) h0 (Or.inl (rz_nr10 h _ (List.mem_of_getElem? (i := 281) (by decide +kernel))))
  have h2 : ∀ i, i < 2 → (Cond.not (Cond.eq (rz_tm i) (rz_tm 16))).before A s = true ∨ (Cond.not (Cond.eq (rz_tm 16) (rz_tm i))).before A s = true := rz_stp (n := 1) h1 (Or.inl (rz_nr10 h _ (List.mem_of_getElem? (i := 282) (by decide +kernel))))
  have h3 : ∀ i, i < 3 → (Cond.not (Cond.eq (rz_tm i) (rz_tm 16))).before A s = true ∨ (Cond.not (Cond.eq (rz_tm 16) (rz_tm i))).before A s = true := rz_stp (n := 2) h2 (Or.inl (rz_nr10 h _ (List.mem_of_getElem? (i := 283) (by decide +kernel))))
  have h4 : ∀ i, i < 4 → (Cond.not (Cond.eq (rz_tm i) (rz_tm 16))).before A s = true ∨ (Cond.not (Cond.eq (rz_tm 16) (rz_tm i))).before A s = true := rz_stp (n := 3) h3 (Or.inl (rz_nr10 h _ (List.mem_of_getElem? (i := 284) (by decide +kernel))))
  have h5 : ∀ i, i < 5 → (Cond.not (Cond.eq (rz_tm i) (rz_tm 16))).before A s = true ∨ (Cond.not (Cond.eq (rz_tm 16) (rz_tm i))).before A s = true := rz_stp (n := 4) h4 (Or.inl (rz_nr10 h _ (List.mem_of_getElem? (i := 285) (by decide +kernel))))
  have h6 : ∀ i, i < 6 → (Cond.not (Cond.eq (rz_tm i) (rz_tm 16))).before A s = true ∨ (Cond.not (Cond.eq (rz_tm 16) (rz_tm i))).before A s = true := rz_stp (n := 5) h5 (Or.inl (rz_nr10 h _ (List.mem_of_getElem? (i := 286) (by decide +kernel))))
  have h7 : ∀ i, i < 7 → (Cond.not (Cond.eq (rz_tm i) (rz_tm 16))).before A s = true ∨ (Cond.not (Cond.eq (rz_tm 16) (rz_tm i))).before A s = true := rz_stp (n := 6) h6 (Or.inl (rz_nr10 h _ (List.mem_of_getElem? (i := 287) (by decide +kernel))))
  have h8 : ∀ i, i < 8 → (Cond.not (Cond.eq (rz_tm i) (rz_tm 16))).before A s = true ∨ (Cond.not (Cond.eq (rz_tm 16) (rz_tm i))).before A s = true := rz_stp (n := 7) h7 (Or.inl (rz_nr10 h _ (List.mem_of_getElem? (i := 288) (by decide +kernel))))
  have h9 : ∀ i, i < 9 → (Cond.not (Cond.eq (rz_tm i) (rz_tm 16))).before A s = true ∨ (Cond.not (Cond.eq (rz_tm 16) (rz_tm i))).before A s = true := rz_stp (n := 8) h8 (Or.inl (rz_nr10 h _ (List.mem_of_getElem? (i := 289) (by decide +kernel))))
  have h10 : ∀ i, i < 10 → (Cond.not (Cond.eq (rz_tm i) (rz_tm 16))).before A s = true ∨ (Cond.not (Cond.eq (rz_tm 16) (rz_tm i))).before A s = true := rz_stp (n := 9) h9 (Or.inl (rz_nr10 h _ (List.mem_of_getElem? (i := 290) (by decide +kernel))))
  have h11 : ∀ i, i < 11 → (Cond.not (Cond.eq (rz_tm i) (rz_tm 16))).before A s = true ∨ (Cond.not (Cond.eq (rz_tm 16) (rz_tm i))).before A s = true := rz_stp (n := 10) h10 (Or.inl (rz_nr10 h _ (List.mem_of_getElem? (i := 292) (by decide +kernel))))
  have h12 : ∀ i, i < 12 → (Cond.not (Cond.eq (rz_tm i) (rz_tm 16))).before A s = true ∨ (Cond.not (Cond.eq (rz_tm 16) (rz_tm i))).before A s = true := rz_stp (n := 11) h11 (Or.inl (rz_nr10 h _ (List.mem_of_getElem? (i := 293) (by decide +kernel))))
  have h13 : ∀ i, i < 13 → (Cond.not (Cond.eq (rz_tm i) (rz_tm 16))).before A s = true ∨ (Cond.not (Cond.eq (rz_tm 16) (rz_tm i))).before A s = true := rz_stp (n := 12) h12 (Or.inl (rz_nr10 h _ (List.mem_of_getElem? (i := 294) (by decide +kernel))))
  have h14 : ∀ i, i < 14 → (Cond.not (Cond.eq (rz_tm i) (rz_tm 16))).before A s = true ∨ (Cond.not (Cond.eq (rz_tm 16) (rz_tm i))).before A s = true := rz_stp (n := 13) h13 (Or.inl (rz_nr10 h _ (List.mem_of_getElem? (i := 295) (by decide +kernel))))
  have h15 : ∀ i, i < 15 → (Cond.not (Cond.eq (rz_tm i) (rz_tm 16))).before A s = true ∨ (Cond.not (Cond.eq (rz_tm 16) (rz_tm i))).before A s = true := rz_stp (n := 14) h14 (Or.inl (rz_nr10 h _ (List.mem_of_getElem? (i := 296) (by decide +kernel))))
  have h16 : ∀ i, i < 16 → (Cond.not (Cond.eq (rz_tm i) (rz_tm 16))).before A s = true ∨ (Cond.not (Cond.eq (rz_tm 16) (rz_tm i))).before A s = true := rz_stp (n := 15) h15 (Or.inl (rz_nr10 h _ (List.mem_of_getElem? (i := 297) (by decide +kernel))))
  exact h16
theorem rz_ne17 {A : Array Value} {s : State} (h : (Jvm.Cond.and given_1 narrow_1).before A s = true) : ∀ i, i < 17 → (Cond.not (Cond.eq (rz_tm i) (rz_tm 17))).before A s = true ∨ (Cond.not (Cond.eq (rz_tm 17) (rz_tm i))).before A s = true := by
  have h0 : ∀ i, i < 0 → (Cond.not (Cond.eq (rz_tm i) (rz_tm 17))).before A s = true ∨ (Cond.not (Cond.eq (rz_tm 17) (rz_tm i))).before A s = true := fun i hi => absurd hi (Nat.not_lt_zero i)
  have h1 : ∀ i, i < 1 → (Cond.not (Cond.eq (rz_tm i) (rz_tm 17))).before A s = true ∨ (Cond.not (Cond.eq (rz_tm 17) (rz_tm i))).before A s = true := rz_stp (n := 0) h0 (Or.inl (rz_nr10 h _ (List.mem_of_getElem? (i := 376) (by decide +kernel))))
  have h2 : ∀ i, i < 2 → (Cond.not (Cond.eq (rz_tm i) (rz_tm 17))).before A s = true ∨ (Cond.not (Cond.eq (rz_tm 17) (rz_tm i))).before A s = true := rz_stp (n := 1) h1 (Or.inl (rz_nr10 h _ (List.mem_of_getElem? (i := 377) (by decide +kernel))))
  have h3 : ∀ i, i < 3 → (Cond.not (Cond.eq (rz_tm i) (rz_tm 17))).before A s = true ∨ (Cond.not (Cond.eq (rz_tm 17) (rz_tm i))).before A s = true := rz_stp (n := 2) h2 (Or.inl (rz_nr10 h _ (List.mem_of_getElem? (i := 378) (by decide +kernel))))
  have h4 : ∀ i, i < 4 → (Cond.not (Cond.eq (rz_tm i) (rz_tm 17))).before A s = true ∨ (Cond.not (Cond.eq (rz_tm 17) (rz_tm i))).before A s = true := rz_stp (n := 3) h3 (Or.inl (rz_nr10 h _ (List.mem_of_getElem? (i := 379) (by decide +kernel))))
  have h5 : ∀ i, i < 5 → (Cond.not (Cond.eq (rz_tm i) (rz_tm 17))).before A s = true ∨ (Cond.not (Cond.eq (rz_tm 17) (rz_tm i))).before A s = true := rz_stp (n := 4) h4 (Or.inl (rz_nr10 h _ (List.mem_of_getElem? (i := 380) (by decide +kernel))))
  have h6 : ∀ i, i < 6 → (Cond.not (Cond.eq (rz_tm i) (rz_tm 17))).before A s = true ∨ (Cond.not (Cond.eq (rz_tm 17) (rz_tm i))).before A s = true := rz_stp (n := 5) h5 (Or.inl (rz_nr10 h _ (List.mem_of_getElem? (i := 381) (by decide +kernel))))
  have h7 : ∀ i, i < 7 → (Cond.not (Cond.eq (rz_tm i) (rz_tm 17))).before A s = true ∨ (Cond.not (Cond.eq (rz_tm 17) (rz_tm i))).before A s = true := rz_stp (n := 6) h6 (Or.inl (rz_nr10 h _ (List.mem_of_getElem? (i := 382) (by decide +kernel))))
  have h8 : ∀ i, i < 8 → (Cond.not (Cond.eq (rz_tm i) (rz_tm 17))).before A s = true ∨ (Cond.not (Cond.eq (rz_tm 17) (rz_tm i))).before A s = true := rz_stp (n := 7) h7 (Or.inl (rz_nr10 h _ (List.mem_of_getElem? (i := 383) (by decide +kernel))))
  have h9 : ∀ i, i < 9 → (Cond.not (Cond.eq (rz_tm i) (rz_tm 17))).before A s = true ∨ (Cond.not (Cond.eq (rz_tm 17) (rz_tm i))).before A s = true := rz_stp (n := 8) h8 (Or.inl (rz_nr10 h _ (List.mem_of_getElem? (i := 384) (by decide +kernel))))
  have h10 : ∀ i, i < 10 → (Cond.not (Cond.eq (rz_tm i) (rz_tm 17))).before A s = true ∨ (Cond.not (Cond.eq (rz_tm 17) (rz_tm i))).before A s = true := rz_stp (n := 9) h9 (Or.inl (rz_nr10 h _ (List.mem_of_getElem? (i := 385) (by decide +kernel))))
  have h11 : ∀ i, i < 11 → (Cond.not (Cond.eq (rz_tm i) (rz_tm 17))).before A s = true ∨ (Cond.not (Cond.eq (rz_tm 17) (rz_tm i))).before A s = true := rz_stp (n := 10) h10 (Or.inl (rz_nr10 h _ (List.mem_of_getElem? (i := 387) (by decide +kernel))))
  have h12 : ∀ i, i < 12 → (Cond.not (Cond.eq (rz_tm i) (rz_tm 17))).before A s = true ∨ (Cond.not (Cond.eq (rz_tm 17) (rz_tm i))).before A s = true := rz_stp (n := 11) h11 (Or.inl (rz_nr10 h _ (List.mem_of_getElem? (i := 388) (by decide +kernel))))
  have h13 : ∀ i, i < 13 → (Cond.not (Cond.eq (rz_tm i) (rz_tm 17))).before A s = true ∨ (Cond.not (Cond.eq (rz_tm 17) (rz_tm i))).before A s = true := rz_stp (n := 12) h12 (Or.inl (rz_nr10 h _ (List.mem_of_getElem? (i := 389) (by decide +kernel))))
  have h14 : ∀ i, i < 14 → (Cond.not (Cond.eq (rz_tm i) (rz_tm 17))).before A s = true ∨ (Cond.not (Cond.eq (rz_tm 17) (rz_tm i))).before A s = true := rz_stp (n := 13) h13 (Or.inl (rz_nr10 h _ (List.mem_of_getElem? (i := 390) (by decide +kernel))))
  have h15 : ∀ i, i < 15 → (Cond.not (Cond.eq (rz_tm i) (rz_tm 17))).before A s = true ∨ (Cond.not (Cond.eq (rz_tm 17) (rz_tm i))).before A s = true := rz_stp (n := 14) h14 (Or.inl (rz_nr10 h _ (List.mem_of_getElem? (i := 391) (by decide +kernel))))
  have h16 : ∀ i, i < 16 → (Cond.not (Cond.eq (rz_tm i) (rz_tm 17))).before A s = true ∨ (Cond.not (Cond.eq (rz_tm 17) (rz_tm i))).before A s = true := rz_stp (n := 15) h15 (Or.inl (rz_nr10 h _ (List.mem_of_getElem? (i := 392) (by decide +kernel))))
  have h17 : ∀ i, i < 17 → (Cond.not (Cond.eq (rz_tm i) (rz_tm 17))).before A s = true ∨ (Cond.not (Cond.eq (rz_tm 17) (rz_tm i))).before A s = true := rz_stp (n := 16) h16 (Or.inl (rz_nr10 h _ (List.mem_of_getElem? (i := 393) (by decide +kernel))))
  exact h17
theorem rz_neA {A : Array Value} {s : State} (h : (Jvm.Cond.and given_1 narrow_1).before A s = true) : ∀ j, j < 18 → ∀ i, i < j → (Cond.not (Cond.eq (rz_tm i) (rz_tm j))).before A s = true ∨ (Cond.not (Cond.eq (rz_tm j) (rz_tm i))).before A s = true := by
  have h0 : ∀ j, j < 0 → ∀ i, i < j → (Cond.not (Cond.eq (rz_tm i) (rz_tm j))).before A s = true ∨ (Cond.not (Cond.eq (rz_tm j) (rz_tm i))).before A s = true := fun j hj => absurd hj (Nat.not_lt_zero j)
  have h1 : ∀ j, j < 1 → ∀ i, i < j → (Cond.not (Cond.eq (rz_tm i) (rz_tm j))).before A s = true ∨ (Cond.not (Cond.eq (rz_tm j) (rz_tm i))).before A s = true := rz_stp (n := 0) h0 (fun i hi => absurd hi (Nat.not_lt_zero i))
  have h2 : ∀ j, j < 2 → ∀ i, i < j → (Cond.not (Cond.eq (rz_tm i) (rz_tm j))).before A s = true ∨ (Cond.not (Cond.eq (rz_tm j) (rz_tm i))).before A s = true := rz_stp (n := 1) h1 (rz_ne1 h)
  have h3 : ∀ j, j < 3 → ∀ i, i < j → (Cond.not (Cond.eq (rz_tm i) (rz_tm j))).before A s = true ∨ (Cond.not (Cond.eq (rz_tm j) (rz_tm i))).before A s = true := rz_stp (n := 2) h2 (rz_ne2 h)
  have h4 : ∀ j, j < 4 → ∀ i, i < j → (Cond.not (Cond.eq (rz_tm i) (rz_tm j))).before A s = true ∨ (Cond.not (Cond.eq (rz_tm j) (rz_tm i))).before A s = true := rz_stp (n := 3) h3 (rz_ne3 h)
  have h5 : ∀ j, j < 5 → ∀ i, i < j → (Cond.not (Cond.eq (rz_tm i) (rz_tm j))).before A s = true ∨ (Cond.not (Cond.eq (rz_tm j) (rz_tm i))).before A s = true := rz_stp (n := 4) h4 (rz_ne4 h)
  have h6 : ∀ j, j < 6 → ∀ i, i < j → (Cond.not (Cond.eq (rz_tm i) (rz_tm j))).before A s = true ∨ (Cond.not (Cond.eq (rz_tm j) (rz_tm i))).before A s = true := rz_stp (n := 5) h5 (rz_ne5 h)
  have h7 : ∀ j, j < 7 → ∀ i, i < j → (Cond.not (Cond.eq (rz_tm i) (rz_tm j))).before A s = true ∨ (Cond.not (Cond.eq (rz_tm j) (rz_tm i))).before A s = true := rz_stp (n := 6) h6 (rz_ne6 h)
  have h8 : ∀ j, j < 8 → ∀ i, i < j → (Cond.not (Cond.eq (rz_tm i) (rz_tm j))).before A s = true ∨ (Cond.not (Cond.eq (rz_tm j) (rz_tm i))).before A s = true := rz_stp (n := 7) h7 (rz_ne7 h)
  have h9 : ∀ j, j < 9 → ∀ i, i < j → (Cond.not (Cond.eq (rz_tm i) (rz_tm j))).before A s = true ∨ (Cond.not (Cond.eq (rz_tm j) (rz_tm i))).before A s = true := rz_stp (n := 8) h8 (rz_ne8 h)
  have h10 : ∀ j, j < 10 → ∀ i, i < j → (Cond.not (Cond.eq (rz_tm i) (rz_tm j))).before A s = true ∨ (Cond.not (Cond.eq (rz_tm j) (rz_tm i))).before A s = true := rz_stp (n := 9) h9 (rz_ne9 h)
  have h11 : ∀ j, j < 11 → ∀ i, i < j → (Cond.not (Cond.eq (rz_tm i) (rz_tm j))).before A s = true ∨ (Cond.not (Cond.eq (rz_tm j) (rz_tm i))).before A s = true := rz_stp (n := 10) h10 (rz_ne10 h)
  have h12 : ∀ j, j < 12 → ∀ i, i < j → (Cond.not (Cond.eq (rz_tm i) (rz_tm j))).before A s = true ∨ (Cond.not (Cond.eq (rz_tm j) (rz_tm i))).before A s = true := rz_stp (n := 11) h11 (rz_ne11 h)
  have h13 : ∀ j, j < 13 → ∀ i, i < j → (Cond.not (Cond.eq (rz_tm i) (rz_tm j))).before A s = true ∨ (Cond.not (Cond.eq (rz_tm j) (rz_tm i))).before A s = true := rz_stp (n := 12) h12 (rz_ne12 h)
  have h14 : ∀ j, j < 14 → ∀ i, i < j → (Cond.not (Cond.eq (rz_tm i) (rz_tm j))).before A s = true ∨ (Cond.not (Cond.eq (rz_tm j) (rz_tm i))).before A s = true := rz_stp (n := 13) h13 (rz_ne13 h)
  have h15 : ∀ j, j < 15 → ∀ i, i < j → (Cond.not (Cond.eq (rz_tm i) (rz_tm j))).before A s = true ∨ (Cond.not (Cond.eq (rz_tm j) (rz_tm i))).before A s = true := rz_stp (n := 14) h14 (rz_ne14 h)
  have h16 : ∀ j, j < 16 → ∀ i, i < j → (Cond.not (Cond.eq (rz_tm i) (rz_tm j))).before A s = true ∨ (Cond.not (Cond.eq (rz_tm j) (rz_tm i))).before A s = true := rz_stp (n := 15) h15 (rz_ne15 h)
  have h17 : ∀ j, j < 17 → ∀ i, i < j → (Cond.not (Cond.eq (rz_tm i) (rz_tm j))).before A s = true ∨ (Cond.not (Cond.eq (rz_tm j) (rz_tm i))).before A s = true := rz_stp (n := 16) h16 (rz_ne16 h)
  have h18 : ∀ j, j < 18 → ∀ i, i < j → (Cond.not (Cond.eq (rz_tm i) (rz_tm j))).before A s = true ∨ (Cond.not (Cond.eq (rz_tm j) (rz_tm i))).before A s = true := rz_stp (n := 17) h17 (rz_ne17 h)
  exact h18
theorem rz_hne {A : Array Value} {s : State} (h : (Jvm.Cond.and given_1 narrow_1).before A s = true) : ∀ i j : Nat, i < rz_sN → j < rz_sN → i ≠ j → (Cond.not (Cond.eq (rz_tm i) (rz_tm j))).before A s = true ∨ (Cond.not (Cond.eq (rz_tm j) (rz_tm i))).before A s = true := by
  intro i j hi hj hij
  rcases Nat.lt_or_gt_of_ne hij with q | q
  · exact rz_neA h j hj i q
  · exact (rz_neA h i hi j q).symm
