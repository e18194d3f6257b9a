/-! A small machine over numbers that the kernel runs. A value: an int (a number, its low 32 bits), a long, a reference (0 null, k + 1 the cell of place k), or another (0 nothing, k + 1 the k-th word of the script). Handlers in continuation style: an instruction is a handler, a method a list of them; true means: run to the end, and the last continuation holds. -/
abbrev rz_V : Type := Nat ⊕ Nat ⊕ Nat ⊕ Nat
def rz_T (d : Nat) : Type := Nat.rec (motive := fun _ => Type) Nat (fun _ t => t × t) d
abbrev rz_H : Type := rz_T 9
abbrev rz_M : Type := rz_H × Nat × Nat
abbrev rz_L : Type := List rz_V
abbrev rz_K : Type := rz_L → rz_L → rz_M → Bool
abbrev rz_J : Type := Nat → rz_K
abbrev rz_Z : Type := rz_V → rz_M → Bool
abbrev rz_B : Type := rz_K → rz_J → rz_Z → rz_K
abbrev rz_i (n : Nat) : rz_V := Sum.inl n
abbrev rz_l (n : Nat) : rz_V := Sum.inr (Sum.inl n)
abbrev rz_r (n : Nat) : rz_V := Sum.inr (Sum.inr (Sum.inl n))
abbrev rz_y (n : Nat) : rz_V := Sum.inr (Sum.inr (Sum.inr n))
abbrev rz_o : rz_V := rz_y 0
-- combinators
noncomputable def rz_F (n : Nat) (k : Nat → Bool) : Bool := Nat.rec (k 0) (fun m _ => k (Nat.succ m)) n
noncomputable def rz_if (b : Bool) (x y : Bool) : Bool := Bool.rec y x b
noncomputable def rz_hd (l : rz_L) (k : rz_V → rz_L → Bool) : Bool := List.rec false (fun a t _ => k a t) l
noncomputable def rz_int (v : rz_V) (k : Nat → Bool) : Bool := Sum.rec k (fun _ => false) v
noncomputable def rz_lng (v : rz_V) (k : Nat → Bool) : Bool := Sum.rec (fun _ => false) (fun w => Sum.rec k (fun _ => false) w) v
noncomputable def rz_ref (v : rz_V) (k : Nat → Bool) : Bool := Sum.rec (fun _ => false) (fun w => Sum.rec (fun _ => false) (fun x => Sum.rec (fun n => Nat.rec false (fun m _ => k m) n) (fun _ => false) x) w) v
noncomputable def rz_isI (v : rz_V) (a : Bool) : Bool := Sum.rec (fun _ => a) (fun w => Sum.rec (fun _ => false) (fun x => Sum.rec (fun _ => false) (fun y => Nat.rec false (fun _ _ => a) y) x) w) v
noncomputable def rz_isR (v : rz_V) (a : Bool) : Bool := Sum.rec (fun _ => false) (fun w => Sum.rec (fun _ => false) (fun x => Sum.rec (fun _ => a) (fun _ => false) x) w) v
noncomputable def rz_isH (v : rz_V) (a : Bool) : Bool := Sum.rec (fun _ => false) (fun w => Sum.rec (fun _ => false) (fun x => Sum.rec (fun _ => false) (fun y => Nat.rec a (fun _ _ => false) y) x) w) v
noncomputable def rz_is1 (v : rz_V) (a : Bool) : Bool := Sum.rec (fun _ => a) (fun w => Sum.rec (fun _ => false) (fun x => Sum.rec (fun _ => a) (fun y => Nat.rec false (fun _ _ => a) y) x) w) v
noncomputable def rz_nth (n : Nat) : rz_L → (rz_V → Bool) → Bool := Nat.rec (fun l k => rz_hd l (fun a _ => k a)) (fun _ ih l k => rz_hd l (fun _ t => ih t k)) n
noncomputable def rz_set (n : Nat) : rz_L → rz_V → (rz_L → Bool) → Bool := Nat.rec (fun l v k => rz_hd l (fun _ t => k (v :: t))) (fun _ ih l v k => rz_hd l (fun a t => ih t v (fun u => k (a :: u)))) n
noncomputable def rz_mm (M : rz_M) (k : rz_H → Nat × Nat → Bool) : Bool := Prod.rec k M
noncomputable def rz_get (d : Nat) : rz_T d → Nat → (Nat → Bool) → Bool := Nat.rec (motive := fun d => rz_T d → Nat → (Nat → Bool) → Bool) (fun h j k => Nat.rec (k h) (fun _ _ => false) j) (fun _ ih h j k => Prod.rec (fun x y => Nat.rec (ih x (Nat.div j 2) k) (fun _ _ => ih y (Nat.div j 2) k) (Nat.mod j 2)) h) d
noncomputable def rz_upd (d : Nat) : rz_T d → Nat → Nat → (rz_T d → Bool) → Bool := Nat.rec (motive := fun d => rz_T d → Nat → Nat → (rz_T d → Bool) → Bool) (fun _ _ v k => k v) (fun _ ih h j v k => Prod.rec (fun x y => Nat.rec (ih x (Nat.div j 2) v (fun u => k (u, y))) (fun _ _ => ih y (Nat.div j 2) v (fun u => k (x, u))) (Nat.mod j 2)) h) d
noncomputable def rz_drop (n : Nat) : List rz_B → List rz_B := Nat.rec (fun l => l) (fun _ ih l => List.rec [] (fun _ t _ => ih t) l) n
noncomputable def rz_seq (J : rz_J) (Z : rz_Z) (c : List rz_B) : rz_K := List.rec (fun _ _ _ => false) (fun h _ ih => h ih J Z) c
noncomputable def rz_run (c : List rz_B) (Z : rz_Z) (X : rz_J) (fuel : Nat) : rz_J := Nat.rec X (fun _ ih j => rz_seq ih Z (rz_drop j c)) fuel
-- what they say
theorem rz_F_eq (n : Nat) (k : Nat → Bool) : rz_F n k = k n := by cases n <;> rfl
theorem rz_if_t {b x y : Bool} (h : rz_if b x y = true) : (b = true ∧ x = true) ∨ (b = false ∧ y = true) := by
  cases b
  · exact Or.inr ⟨rfl, h⟩
  · exact Or.inl ⟨rfl, h⟩
theorem rz_hd_t {l : rz_L} {k : rz_V → rz_L → Bool} (h : rz_hd l k = true) : ∃ a t, l = a :: t ∧ k a t = true := by
  cases l with
  | nil => cases h
  | cons a t => exact ⟨a, t, rfl, h⟩
theorem rz_int_t {v : rz_V} {k : Nat → Bool} (h : rz_int v k = true) : ∃ n, v = rz_i n ∧ k n = true := by
  rcases v with n | n | n | n
  · exact ⟨n, rfl, h⟩
  · cases h
  · cases h
  · cases h
theorem rz_lng_t {v : rz_V} {k : Nat → Bool} (h : rz_lng v k = true) : ∃ n, v = rz_l n ∧ k n = true := by
  rcases v with n | n | n | n
  · cases h
  · exact ⟨n, rfl, h⟩
  · cases h
  · cases h
theorem rz_ref_t {v : rz_V} {k : Nat → Bool} (h : rz_ref v k = true) : ∃ n, v = rz_r (n + 1) ∧ k n = true := by
  rcases v with n | n | n | n
  · cases h
  · cases h
  · cases n with
    | zero => cases h
    | succ n => exact ⟨n, rfl, h⟩
  · cases h
theorem rz_isI_t {v : rz_V} {a : Bool} (h : rz_isI v a = true) : ((∃ n, v = rz_i n) ∨ ∃ n, v = rz_y (n + 1)) ∧ a = true := by
  rcases v with n | n | n | n
  · exact ⟨Or.inl ⟨n, rfl⟩, h⟩
  · cases h
  · cases h
  · cases n with
    | zero => cases h
    | succ n => exact ⟨Or.inr ⟨n, rfl⟩, h⟩
theorem rz_isR_t {v : rz_V} {a : Bool} (h : rz_isR v a = true) : (∃ n, v = rz_r n) ∧ a = true := by
  rcases v with n | n | n | n
  · cases h
  · cases h
  · exact ⟨⟨n, rfl⟩, h⟩
  · cases h
theorem rz_isH_t {v : rz_V} {a : Bool} (h : rz_isH v a = true) : v = rz_o ∧ a = true := by
  rcases v with n | n | n | n
  · cases h
  · cases h
  · cases h
  · cases n with
    | zero => exact ⟨rfl, h⟩
    | succ n => cases h
theorem rz_nth_t {n : Nat} : ∀ {L : rz_L} {k : rz_V → Bool}, rz_nth n L k = true → ∃ v, L[n]? = some v ∧ k v = true := by
  induction n with
  | zero =>
    intro L k h
    obtain ⟨a, t, rfl, h⟩ := rz_hd_t h
    exact ⟨a, rfl, h⟩
  | succ n ih =>
    intro L k h
    obtain ⟨a, t, rfl, h⟩ := rz_hd_t h
    obtain ⟨v, h1, h2⟩ := ih h
    exact ⟨v, by simpa using h1, h2⟩
theorem rz_set_t {n : Nat} : ∀ {L : rz_L} {v : rz_V} {k : rz_L → Bool}, rz_set n L v k = true → n < L.length ∧ k (L.set n v) = true := by
  induction n with
  | zero =>
    intro L v k h
    obtain ⟨a, t, rfl, h⟩ := rz_hd_t h
    exact ⟨by simp, h⟩
  | succ n ih =>
    intro L v k h
    obtain ⟨a, t, rfl, h⟩ := rz_hd_t h
    obtain ⟨h1, h2⟩ := ih h
    exact ⟨by simpa using h1, h2⟩
theorem rz_mm_t {M : rz_M} {k : rz_H → Nat × Nat → Bool} (h : rz_mm M k = true) : ∃ g nz, M = (g, nz) ∧ k g nz = true := ⟨M.1, M.2, rfl, h⟩
-- the heap as a function
noncomputable def rz_gt (d : Nat) : rz_T d → Nat → Nat := Nat.rec (motive := fun d => rz_T d → Nat → Nat) (fun h _ => h) (fun _ ih h j => Prod.rec (fun x y => Nat.rec (ih x (Nat.div j 2)) (fun _ _ => ih y (Nat.div j 2)) (Nat.mod j 2)) h) d
noncomputable def rz_ud (d : Nat) : rz_T d → Nat → Nat → rz_T d := Nat.rec (motive := fun d => rz_T d → Nat → Nat → rz_T d) (fun _ _ v => v) (fun _ ih h j v => Prod.rec (fun x y => Nat.rec (ih x (Nat.div j 2) v, y) (fun _ _ => (x, ih y (Nat.div j 2) v)) (Nat.mod j 2)) h) d
theorem rz_ud0 {d : Nat} (x y : rz_T d) {j v : Nat} (h : j % 2 = 0) : rz_ud (d + 1) ((x, y) : rz_T d × rz_T d) j v = ((rz_ud d x (j / 2) v, y) : rz_T d × rz_T d) := by
  show (Nat.rec (motive := fun _ => rz_T d × rz_T d) (rz_ud d x (j / 2) v, y) (fun _ _ => (x, rz_ud d y (j / 2) v)) (j % 2) : rz_T d × rz_T d) = _
  rw [h]
  rfl
theorem rz_ud1 {d : Nat} (x y : rz_T d) {j v : Nat} (h : j % 2 = 1) : rz_ud (d + 1) ((x, y) : rz_T d × rz_T d) j v = ((x, rz_ud d y (j / 2) v) : rz_T d × rz_T d) := by
  show (Nat.rec (motive := fun _ => rz_T d × rz_T d) (rz_ud d x (j / 2) v, y) (fun _ _ => (x, rz_ud d y (j / 2) v)) (j % 2) : rz_T d × rz_T d) = _
  rw [h]
  rfl
theorem rz_gt0 {d : Nat} (x y : rz_T d) {j : Nat} (h : j % 2 = 0) : rz_gt (d + 1) ((x, y) : rz_T d × rz_T d) j = rz_gt d x (j / 2) := by
  show (Nat.rec (motive := fun _ => Nat) (rz_gt d x (j / 2)) (fun _ _ => rz_gt d y (j / 2)) (j % 2) : Nat) = _
  rw [h]
  rfl
theorem rz_gt1 {d : Nat} (x y : rz_T d) {j : Nat} (h : j % 2 = 1) : rz_gt (d + 1) ((x, y) : rz_T d × rz_T d) j = rz_gt d y (j / 2) := by
  show (Nat.rec (motive := fun _ => Nat) (rz_gt d x (j / 2)) (fun _ _ => rz_gt d y (j / 2)) (j % 2) : Nat) = _
  rw [h]
  rfl
theorem rz_get_t (d : Nat) : ∀ {h : rz_T d} {j : Nat} {k : Nat → Bool}, rz_get d h j k = true → j < 2 ^ d ∧ k (rz_gt d h j) = true := by
  induction d with
  | zero =>
    intro h j k hk
    cases j with
    | zero => exact ⟨by decide, hk⟩
    | succ j => cases hk
  | succ d ih =>
    intro (h : rz_T d × rz_T d) j k hk
    obtain ⟨x, y⟩ := h
    have e1 : rz_get (d + 1) ((x, y) : rz_T d × rz_T d) j k = Nat.rec (motive := fun _ => Bool) (rz_get d x (j / 2) k) (fun _ _ => rz_get d y (j / 2) k) (j % 2) := rfl
    rw [e1] at hk
    rcases Nat.mod_two_eq_zero_or_one j with a | a
    · rw [a] at hk
      obtain ⟨h1, h2⟩ := ih (show rz_get d x (j / 2) k = true from hk)
      exact ⟨by rw [Nat.pow_succ]; omega, by rw [show rz_gt (d + 1) ((x, y) : rz_T d × rz_T d) j = rz_gt d x (j / 2) from rz_gt0 x y a]; exact h2⟩
    · rw [a] at hk
      obtain ⟨h1, h2⟩ := ih (show rz_get d y (j / 2) k = true from hk)
      exact ⟨by rw [Nat.pow_succ]; omega, by rw [show rz_gt (d + 1) ((x, y) : rz_T d × rz_T d) j = rz_gt d y (j / 2) from rz_gt1 x y a]; exact h2⟩
theorem rz_upd_eq (d : Nat) : ∀ (h : rz_T d) (j v : Nat) (k : rz_T d → Bool), rz_upd d h j v k = k (rz_ud d h j v) := by
  induction d with
  | zero => intro h j v k; rfl
  | succ d ih =>
    intro h j v k
    obtain ⟨x, y⟩ := h
    have e1 : rz_upd (d + 1) (x, y) j v k = Nat.rec (rz_upd d x (Nat.div j 2) v (fun u => k (u, y))) (fun _ _ => rz_upd d y (Nat.div j 2) v (fun u => k (x, u))) (Nat.mod j 2) := rfl
    have e2 : rz_ud (d + 1) (x, y) j v = Nat.rec (motive := fun _ => rz_T d × rz_T d) (rz_ud d x (Nat.div j 2) v, y) (fun _ _ => (x, rz_ud d y (Nat.div j 2) v)) (Nat.mod j 2) := rfl
    rw [e1, e2]
    cases Nat.mod j 2 with
    | zero => exact ih x _ v _
    | succ q => exact ih y _ v _
theorem rz_gt_ud (d : Nat) : ∀ (h : rz_T d) (j i v : Nat), j < 2 ^ d → i < 2 ^ d → rz_gt d (rz_ud d h j v) i = if i = j then v else rz_gt d h i := by
  induction d with
  | zero =>
    intro h j i v hj hi
    have hij : i = j := by simp at hi hj; omega
    rw [if_pos hij]
    rfl
  | succ d ih =>
    intro (h : rz_T d × rz_T d) j i v hj hi
    obtain ⟨x, y⟩ := h
    have hj2 : j / 2 < 2 ^ d := by rw [Nat.pow_succ] at hj; omega
    have hi2 : i / 2 < 2 ^ d := by rw [Nat.pow_succ] at hi; omega
    rcases Nat.mod_two_eq_zero_or_one j with a | a <;> rcases Nat.mod_two_eq_zero_or_one i with b | b
    · refine (congrArg (fun z => rz_gt (d + 1) z i) (rz_ud0 x y a)).trans ((rz_gt0 _ _ b).trans ((ih x _ _ _ hj2 hi2).trans ?_))
      by_cases e : i = j
      · rw [if_pos (by omega), if_pos e]
      · rw [if_neg (by omega), if_neg e]
        exact (rz_gt0 x y b).symm
    · refine (congrArg (fun z => rz_gt (d + 1) z i) (rz_ud0 x y a)).trans ((rz_gt1 _ _ b).trans ?_)
      rw [if_neg (by omega)]
      exact (rz_gt1 x y b).symm
    · refine (congrArg (fun z => rz_gt (d + 1) z i) (rz_ud1 x y a)).trans ((rz_gt0 _ _ b).trans ?_)
      rw [if_neg (by omega)]
      exact (rz_gt0 x y b).symm
    · refine (congrArg (fun z => rz_gt (d + 1) z i) (rz_ud1 x y a)).trans ((rz_gt1 _ _ b).trans ((ih y _ _ _ hj2 hi2).trans ?_))
      by_cases e : i = j
      · rw [if_pos (by omega), if_pos e]
      · rw [if_neg (by omega), if_neg e]
        exact (rz_gt1 x y b).symm
-- lanes behind the head of 32 bits
def rz_g16 (B j : Nat) : Nat := Nat.mod (Nat.shiftRight B (Nat.add 32 (Nat.mul 16 j))) 65536
def rz_g32 (B j : Nat) : Nat := Nat.mod (Nat.shiftRight B (Nat.add 32 (Nat.mul 32 j))) 4294967296
def rz_g64 (B j : Nat) : Nat := Nat.mod (Nat.shiftRight B (Nat.add 32 (Nat.mul 64 j))) 18446744073709551616
/-- B with v in the lane at the bit sh that held o -/
def rz_p (B sh o v : Nat) : Nat := Nat.sub (Nat.add B (Nat.shiftLeft v sh)) (Nat.shiftLeft o sh)
theorem rz_p_eq {B a w v : Nat} (hv : v < 2 ^ w) : rz_p B a (B / 2 ^ a % 2 ^ w) v = B % 2 ^ a + 2 ^ a * (v + 2 ^ w * (B / 2 ^ a / 2 ^ w)) := by
  have h1 : B = B % 2 ^ a + 2 ^ a * (B / 2 ^ a) := (Nat.mod_add_div B (2 ^ a)).symm
  have h2 : B / 2 ^ a = B / 2 ^ a % 2 ^ w + 2 ^ w * (B / 2 ^ a / 2 ^ w) := (Nat.mod_add_div (B / 2 ^ a) (2 ^ w)).symm
  have e : rz_p B a (B / 2 ^ a % 2 ^ w) v = B + v * 2 ^ a - (B / 2 ^ a % 2 ^ w) * 2 ^ a := by
    show B + v <<< a - (B / 2 ^ a % 2 ^ w) <<< a = _
    rw [Nat.shiftLeft_eq, Nat.shiftLeft_eq]
  rw [e]
  generalize hq : B / 2 ^ a / 2 ^ w = q at h2 ⊢
  generalize hr : B / 2 ^ a % 2 ^ w = r at h2 ⊢
  generalize hx : B % 2 ^ a = x at h1 ⊢
  rw [h1, h2]
  generalize 2 ^ a = P
  generalize 2 ^ w = R
  have : x + P * (r + R * q) + v * P = x + P * (v + R * q) + r * P := by
    rw [Nat.mul_add, Nat.mul_add, Nat.mul_comm P r, Nat.mul_comm P v]
    omega
  rw [this]
  exact Nat.add_sub_cancel _ _
/-- a lane of its own, or another one -/
theorem rz_p_lane {B w v o : Nat} {i j : Nat} (hv : v < 2 ^ w) (ho : o = B / 2 ^ (32 + w * j) % 2 ^ w) : rz_p B (32 + w * j) o v / 2 ^ (32 + w * i) % 2 ^ w = if i = j then v else B / 2 ^ (32 + w * i) % 2 ^ w := by
  subst ho
  rw [rz_p_eq hv]
  generalize ha : 32 + w * j = a
  generalize hq : B / 2 ^ a / 2 ^ w = q
  rcases Nat.lt_trichotomy i j with h | h | h
  · rw [if_neg (Nat.ne_of_lt h)]
    -- a lower lane
    have h1 : 32 + w * i + w ≤ a := by
      rw [← ha]
      have : w * i + w ≤ w * j := by rw [← Nat.mul_succ]; exact Nat.mul_le_mul_left w h
      omega
    obtain ⟨c, hc⟩ : ∃ c, a = 32 + w * i + w + c := ⟨a - (32 + w * i + w), by omega⟩
    have hm : ∀ X Y : Nat, X % 2 ^ a = Y % 2 ^ a → X / 2 ^ (32 + w * i) % 2 ^ w = Y / 2 ^ (32 + w * i) % 2 ^ w := by
      intro X Y h
      have k : ∀ Z : Nat, Z / 2 ^ (32 + w * i) % 2 ^ w = Z % 2 ^ a / 2 ^ (32 + w * i) % 2 ^ w := by
        intro Z
        apply Nat.eq_of_testBit_eq
        intro t
        simp only [Nat.testBit_mod_two_pow, Nat.testBit_div_two_pow]
        by_cases ht : t < w
        · have : t + (32 + w * i) < a := by omega
          simp [ht, this]
        · simp [ht]
      rw [k X, k Y, h]
    apply hm
    rw [Nat.add_mul_mod_self_left, Nat.mod_mod]
  · subst h
    rw [if_pos rfl, ha]
    have hP : 0 < 2 ^ a := Nat.two_pow_pos a
    rw [Nat.add_mul_div_left _ _ hP, Nat.div_eq_of_lt (Nat.mod_lt _ hP), Nat.zero_add, Nat.add_mul_mod_self_left, Nat.mod_eq_of_lt hv]
  · rw [if_neg (Nat.ne_of_gt h)]
    -- a higher lane
    have h1 : a + w ≤ 32 + w * i := by
      rw [← ha]
      have : w * j + w ≤ w * i := by rw [← Nat.mul_succ]; exact Nat.mul_le_mul_left w h
      omega
    obtain ⟨c, hc⟩ : ∃ c, 32 + w * i = a + w + c := ⟨32 + w * i - (a + w), by omega⟩
    have hP : 0 < 2 ^ a := Nat.two_pow_pos a
    have hR : 0 < 2 ^ w := Nat.two_pow_pos w
    have e1 : ∀ Z : Nat, Z / 2 ^ (32 + w * i) = Z / 2 ^ a / 2 ^ w / 2 ^ c := by
      intro Z
      rw [hc, Nat.pow_add, Nat.pow_add, Nat.div_div_eq_div_mul, Nat.div_div_eq_div_mul, Nat.mul_assoc]
    rw [e1, e1 B]
    rw [Nat.add_mul_div_left _ _ hP, Nat.div_eq_of_lt (Nat.mod_lt _ hP), Nat.zero_add, Nat.add_mul_div_left _ _ hR, Nat.div_eq_of_lt hv, Nat.zero_add, ← hq]
theorem rz_p_head {B w v o j : Nat} (hv : v < 2 ^ w) (ho : o = B / 2 ^ (32 + w * j) % 2 ^ w) : rz_p B (32 + w * j) o v % 4294967296 = B % 4294967296 := by
  subst ho
  rw [rz_p_eq hv]
  have e : (2 : Nat) ^ (32 + w * j) = 4294967296 * 2 ^ (w * j) := by rw [Nat.pow_add]
  rw [e]
  generalize 2 ^ (w * j) = P
  rw [Nat.mul_assoc, Nat.add_mul_mod_self_left]
  exact Nat.mod_mul_right_mod B 4294967296 P
theorem rz_g32_eq (B j : Nat) : rz_g32 B j = B / 2 ^ (32 + 32 * j) % 2 ^ 32 := by
  show (B >>> (32 + 32 * j)) % 4294967296 = _
  rw [Nat.shiftRight_eq_div_pow]
theorem rz_g64_eq (B j : Nat) : rz_g64 B j = B / 2 ^ (32 + 64 * j) % 2 ^ 64 := by
  show (B >>> (32 + 64 * j)) % 18446744073709551616 = _
  rw [Nat.shiftRight_eq_div_pow]
theorem rz_g16_eq (B j : Nat) : rz_g16 B j = B / 2 ^ (32 + 16 * j) % 2 ^ 16 := by
  show (B >>> (32 + 16 * j)) % 65536 = _
  rw [Nat.shiftRight_eq_div_pow]
