/-! A small machine over numbers that the kernel runs. A value: an int (its 32 bits as a number), a long, a reference (0 null, k + 1 the cell of place k), or a word of the script. Handlers in continuation style; an instruction is a handler; a method is a list of them. -/
abbrev rz_V : Type := Nat ⊕ Nat ⊕ Nat ⊕ Nat
abbrev rz_i (n : Nat) : rz_V := Sum.inl n
abbrev rz_l (n : Nat) : rz_V := Sum.inr (Sum.inl n)
abbrev rz_r (n : Nat) : rz_V := Sum.inr (Sum.inr (Sum.inl n))
abbrev rz_y (n : Nat) : rz_V := Sum.inr (Sum.inr (Sum.inr n))
/-- the heap: a full tree of numbers -/
def rz_T (d : Nat) : Type := Nat.rec Nat (fun _ t => t × t) d
abbrev rz_H : Type := rz_T 9
abbrev rz_L : Type := List rz_V
abbrev rz_K : Type := rz_L → rz_L → rz_H → Bool
abbrev rz_J : Type := Nat → rz_K
abbrev rz_Z : Type := rz_V → rz_H → Bool
abbrev rz_B : Type := rz_K → rz_J → rz_Z → rz_K
/-- a number is reckoned before it goes on -/
noncomputable def rz_F (n : Nat) (k : Nat → Bool) : Bool := Nat.rec (k 0) (fun m _ => k (Nat.succ m)) n
noncomputable def rz_if (b : Bool) (x y : Bool) : Bool := Bool.rec y x b
noncomputable def rz_hd (l : rz_L) (k : rz_V → rz_L → Bool) : Bool := List.rec false (fun a t _ => k a t) l
noncomputable def rz_int (v : rz_V) (k : Nat → Bool) : Bool := Sum.rec k (fun _ => false) v
noncomputable def rz_ref (v : rz_V) (k : Nat → Bool) : Bool := Sum.rec (fun _ => false) (fun w => Sum.rec (fun _ => false) (fun x => Sum.rec (fun n => Nat.rec false (fun m _ => k m) n) (fun _ => false) x) w) v
noncomputable def rz_nth (n : Nat) : rz_L → (rz_V → Bool) → Bool := Nat.rec (fun l k => rz_hd l (fun a _ => k a)) (fun _ ih l k => rz_hd l (fun _ t => ih t k)) n
noncomputable def rz_set (n : Nat) : rz_L → rz_V → (rz_L → Bool) → Bool := Nat.rec (fun l v k => rz_hd l (fun _ t => k (v :: t))) (fun _ ih l v k => rz_hd l (fun a t => ih t v (fun u => k (a :: u)))) n
noncomputable def rz_get (d : Nat) : rz_T d → Nat → (Nat → Bool) → Bool := Nat.rec (fun h _ k => k h) (fun _ ih h j k => Nat.rec (ih (Prod.fst h) (Nat.div j 2) k) (fun _ _ => ih (Prod.snd h) (Nat.div j 2) k) (Nat.mod j 2)) d
noncomputable def rz_upd (d : Nat) : rz_T d → Nat → Nat → (rz_T d → Bool) → Bool := Nat.rec (fun _ _ v k => k v) (fun _ ih h j v k => Nat.rec (ih (Prod.fst h) (Nat.div j 2) v (fun u => k (u, Prod.snd h))) (fun _ _ => ih (Prod.snd h) (Nat.div j 2) v (fun u => k (Prod.fst h, u))) (Nat.mod j 2)) d
noncomputable def rz_drop (n : Nat) : List rz_B → List rz_B := Nat.rec (fun l => l) (fun _ ih l => List.rec [] (fun _ t _ => ih t) l) n
noncomputable def rz_seq (J : rz_J) (Z : rz_Z) (c : List rz_B) : rz_K := List.rec (fun _ _ _ => false) (fun h _ ih => h ih J Z) c
noncomputable def rz_run (c : List rz_B) (Z : rz_Z) (fuel : Nat) : rz_J := Nat.rec (fun _ _ _ _ => false) (fun _ ih j => rz_seq ih Z (rz_drop j c)) fuel
-- instructions
noncomputable def rz_iload (n : Nat) : rz_B := fun k _ _ L S h => rz_nth n L (fun v => k L (v :: S) h)
noncomputable def rz_istore (n : Nat) : rz_B := fun k _ _ L S h => rz_hd S (fun v T => rz_set n L v (fun M => k M T h))
noncomputable def rz_iconst (n : Nat) : rz_B := fun k _ _ L S h => k L (rz_i n :: S) h
noncomputable def rz_iadd : rz_B := fun k _ _ L S h => rz_hd S (fun b T => rz_hd T (fun a U => rz_int b (fun y => rz_int a (fun x => rz_F (Nat.mod (Nat.add x y) 4294967296) (fun z => k L (rz_i z :: U) h)))))
noncomputable def rz_iinc (n d : Nat) : rz_B := fun k _ _ L S h => rz_nth n L (fun v => rz_int v (fun x => rz_F (Nat.mod (Nat.add x d) 4294967296) (fun z => rz_set n L (rz_i z) (fun M => k M S h))))
noncomputable def rz_off (n : Nat) : Nat := Nat.mod (Nat.add n 2147483648) 4294967296
noncomputable def rz_icmpge (j : Nat) : rz_B := fun k J _ L S h => rz_hd S (fun b T => rz_hd T (fun a U => rz_int b (fun y => rz_int a (fun x => rz_if (Nat.ble (rz_off y) (rz_off x)) (J j L U h) (k L U h)))))
noncomputable def rz_icmpne (j : Nat) : rz_B := fun k J _ L S h => rz_hd S (fun b T => rz_hd T (fun a U => rz_int b (fun y => rz_int a (fun x => rz_if (Nat.beq y x) (k L U h) (J j L U h)))))
noncomputable def rz_goto (j : Nat) : rz_B := fun _ J _ L S h => J j L S h
noncomputable def rz_getf (f : Nat) : rz_B := fun k _ _ L S h => rz_hd S (fun o T => rz_ref o (fun c => rz_get 9 h c (fun B => rz_F (Nat.mod (Nat.shiftRight B (Nat.mul 64 f)) 18446744073709551616) (fun z => k L (rz_r z :: T) h))))
noncomputable def rz_getfi (f : Nat) : rz_B := fun k _ _ L S h => rz_hd S (fun o T => rz_ref o (fun c => rz_get 9 h c (fun B => rz_F (Nat.mod (Nat.shiftRight B (Nat.mul 64 f)) 18446744073709551616) (fun z => k L (rz_i z :: T) h))))
noncomputable def rz_iald : rz_B := fun k _ _ L S h => rz_hd S (fun i T => rz_hd T (fun o U => rz_int i (fun x => rz_ref o (fun c => rz_get 9 h c (fun B => rz_F (Nat.mod (Nat.shiftRight B (Nat.mul 32 x)) 4294967296) (fun z => k L (rz_i z :: U) h))))))
noncomputable def rz_iast : rz_B := fun k _ _ L S h => rz_hd S (fun v R => rz_hd R (fun i T => rz_hd T (fun o U => rz_int v (fun y => rz_int i (fun x => rz_ref o (fun c => rz_get 9 h c (fun B => rz_F (Nat.sub (Nat.add B (Nat.shiftLeft y (Nat.mul 32 x))) (Nat.shiftLeft (Nat.mod (Nat.shiftRight B (Nat.mul 32 x)) 4294967296) (Nat.mul 32 x))) (fun C => rz_upd 9 h c C (fun g => k L U g)))))))))
noncomputable def rz_iret : rz_B := fun _ _ Z _ S h => rz_hd S (fun v _ => Z v h)
noncomputable def rz_call (n : Nat) (f : rz_L → rz_H → rz_Z → Bool) : rz_B := fun k _ _ L S h => f (List.take n S).reverse h (fun v g => k L (v :: List.drop n S) g)
-- a trial: sum over an array, many times round
noncomputable def rc_body : List rz_B := [rz_iconst 0, rz_istore 1, rz_iconst 0, rz_istore 2, rz_iload 2, rz_iload 3, rz_icmpge 22, rz_iload 0, rz_getf 3, rz_iload 2, rz_iload 0, rz_getf 3, rz_iload 2, rz_iald, rz_iload 2, rz_iadd, rz_iload 1, rz_iadd, rz_istore 1, rz_iload 1, rz_iast, rz_goto 24, rz_iload 1, rz_iret, rz_iinc 2 1, rz_goto 4]
def rc_z (d : Nat) : rz_T d := Nat.rec (motive := fun d => rz_T d) (0 : Nat) (fun _ t => (t, t)) d
noncomputable def rc_go (n : Nat) (Z : rz_Z) : Bool := rz_upd 9 (rc_z 9) 5 (Nat.shiftLeft 8 192) (fun h => rz_run rc_body Z 1000000 0 [rz_r 6, rz_i 0, rz_i 0, rz_i n] [] h)
set_option maxRecDepth 100000 in
theorem rc_t1 : rc_go 10000 (fun v _ => Sum.rec (fun n => Nat.ble 1 n) (fun _ => false) v) = true := by decide +kernel
