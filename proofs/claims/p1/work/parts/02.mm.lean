/-! A SMALL MACHINE that the kernel runs: values, cells, handlers, one an instruction; a run answers true when all that it meets is as it should be. Its soundness over the machine itself stands in the parts behind. -/
/-- int (as a number below 2^32, or any: it is taken modulo); cell of the world; long; int that is only named; long that is only named; another reference (0: null) -/
abbrev mV : Type := Nat ⊕ (Nat ⊕ (Nat ⊕ (Nat ⊕ (Nat ⊕ Nat))))
/-- array of numbers (kind, length, all its numbers in one, 32 bits each); object (class, fields); array of references (kind, places) -/
abbrev mC : Type := (Nat × Nat × Nat) ⊕ ((Nat × List mV) ⊕ (Nat × List mV))
abbrev mL : Type := List (Option mV)
/-- may cells be made; how many were, of how many slots, in this method; the cells -/
abbrev mH : Type := Bool × Nat × Nat × List mC
/-- facts of named numbers: what, of which two, is which -/
abbrev mF : Type := List (Nat × mV × mV × mV)
abbrev mK : Type := Option mV → List mC → Bool
abbrev mN : Type := mL → List mV → mH → Bool
abbrev mA : Type := Nat → List mV → Bool → List mC → mK → Bool
abbrev mI : Type := mF → mA → (Nat → mN) → mK → mN → mN
noncomputable def mm_f {α : Type} (n : Nat) (k : Nat → α) : α := Nat.rec (motive := fun _ => α) (k 0) (fun m _ => k (Nat.succ m)) n
theorem mm_f_eq {α : Type} (n : Nat) (k : Nat → α) : mm_f n k = k n := by cases n <;> rfl
noncomputable def mm_p (S : List mV) (k : mV → List mV → Bool) : Bool := List.rec (motive := fun _ => Bool) false (fun x xs _ => k x xs) S
theorem mm_p_s {S : List mV} {k : mV → List mV → Bool} (h : mm_p S k = true) : ∃ x xs, S = x :: xs ∧ k x xs = true := by
  cases S with
  | nil => cases h
  | cons x xs => exact ⟨x, xs, rfl, h⟩
noncomputable def mm_i (v : mV) (k : Nat → Bool) (o : Bool) : Bool := Sum.rec (motive := fun _ => Bool) k (fun _ => o) v
theorem mm_i_s {v : mV} {k : Nat → Bool} {o : Bool} (h : mm_i v k o = true) : (∃ n, v = .inl n ∧ k n = true) ∨ o = true := by
  rcases v with n | w
  · exact Or.inl ⟨n, rfl, h⟩
  · exact Or.inr h
noncomputable def mm_r (v : mV) (k : Nat → Bool) : Bool := Sum.rec (motive := fun _ => Bool) (fun _ => false) (fun w => Sum.rec (motive := fun _ => Bool) k (fun _ => false) w) v
theorem mm_r_s {v : mV} {k : Nat → Bool} (h : mm_r v k = true) : ∃ n, v = .inr (.inl n) ∧ k n = true := by
  rcases v with n | n | w
  · cases h
  · exact ⟨n, rfl, h⟩
  · cases h
noncomputable def mm_l (v : mV) (k : Nat → Bool) (o : Bool) : Bool := Sum.rec (motive := fun _ => Bool) (fun _ => o) (fun w => Sum.rec (motive := fun _ => Bool) (fun _ => o) (fun w => Sum.rec (motive := fun _ => Bool) k (fun _ => o) w) w) v
theorem mm_l_s {v : mV} {k : Nat → Bool} {o : Bool} (h : mm_l v k o = true) : (∃ n, v = .inr (.inr (.inl n)) ∧ k n = true) ∨ o = true := by
  rcases v with n | n | n | w
  · exact Or.inr h
  · exact Or.inr h
  · exact Or.inl ⟨n, rfl, h⟩
  · exact Or.inr h
/-- an int, known or named -/
noncomputable def mm_ci (v : mV) (b : Bool) : Bool := Sum.rec (motive := fun _ => Bool) (fun _ => b) (fun w => Sum.rec (motive := fun _ => Bool) (fun _ => false) (fun w => Sum.rec (motive := fun _ => Bool) (fun _ => false) (fun w => Sum.rec (motive := fun _ => Bool) (fun _ => b) (fun _ => false) w) w) w) v
/-- a long, known or named -/
noncomputable def mm_cl (v : mV) (b : Bool) : Bool := Sum.rec (motive := fun _ => Bool) (fun _ => false) (fun w => Sum.rec (motive := fun _ => Bool) (fun _ => false) (fun w => Sum.rec (motive := fun _ => Bool) (fun _ => b) (fun w => Sum.rec (motive := fun _ => Bool) (fun _ => false) (fun w => Sum.rec (motive := fun _ => Bool) (fun _ => b) (fun _ => false) w) w) w) w) v
/-- no long -/
noncomputable def mm_c1 (v : mV) (b : Bool) : Bool := Sum.rec (motive := fun _ => Bool) (fun _ => b) (fun w => Sum.rec (motive := fun _ => Bool) (fun _ => b) (fun w => Sum.rec (motive := fun _ => Bool) (fun _ => false) (fun w => Sum.rec (motive := fun _ => Bool) (fun _ => b) (fun w => Sum.rec (motive := fun _ => Bool) (fun _ => false) (fun _ => b) w) w) w) w) v
noncomputable def mm_n {α : Type} (l : List α) (i : Nat) (k : α → Bool) : Bool := List.rec (motive := fun _ => Nat → Bool) (fun _ => false) (fun x _ ih i => Nat.rec (motive := fun _ => Bool) (k x) (fun m _ => ih m) i) l i
theorem mm_n_s {α : Type} {l : List α} {i : Nat} {k : α → Bool} (h : mm_n l i k = true) : ∃ x, l[i]? = some x ∧ k x = true := by
  induction l generalizing i with
  | nil => cases h
  | cons a t ih =>
    cases i with
    | zero => exact ⟨a, rfl, h⟩
    | succ i => exact ih h
noncomputable def mm_u {α : Type} (l : List α) (i : Nat) (v : α) (k : List α → Bool) : Bool := List.rec (motive := fun _ => Nat → (List α → Bool) → Bool) (fun _ _ => false) (fun x xs ih i k => Nat.rec (motive := fun _ => Bool) (k (v :: xs)) (fun m _ => ih m (fun l => k (x :: l))) i) l i k
theorem mm_u_s {α : Type} {l : List α} {i : Nat} {v : α} {k : List α → Bool} (h : mm_u l i v k = true) : i < l.length ∧ k (l.set i v) = true := by
  induction l generalizing i k with
  | nil => cases h
  | cons a t ih =>
    cases i with
    | zero => exact ⟨Nat.succ_pos _, h⟩
    | succ i =>
      obtain ⟨h1, h2⟩ := ih (i := i) (k := fun l => k (a :: l)) h
      exact ⟨Nat.succ_lt_succ h1, h2⟩
/-- a local is stored: the one ahead of it may not be a long -/
noncomputable def mm_ls (l : mL) (i : Nat) (v : Option mV) (k : mL → Bool) : Bool := List.rec (motive := fun _ => Nat → (mL → Bool) → Bool) (fun _ _ => false) (fun x xs ih i k => Nat.rec (motive := fun _ => Bool) (k (v :: xs)) (fun m _ => Nat.rec (motive := fun _ => Bool) (Option.rec (motive := fun _ => Bool) (ih m (fun l => k (x :: l))) (fun w => mm_c1 w (ih m (fun l => k (x :: l)))) x) (fun _ _ => ih m (fun l => k (x :: l))) m) i) l i k
noncomputable def mm_b (b : Bool) (k : Bool) : Bool := Bool.rec (motive := fun _ => Bool) false k b
theorem mm_b_s {b k : Bool} (h : mm_b b k = true) : b = true ∧ k = true := by
  cases b
  · cases h
  · exact ⟨rfl, h⟩
noncomputable def mm_t (b : Bool) (x y : Bool) : Bool := Bool.rec (motive := fun _ => Bool) y x b
/-- the number at a place of an array -/
def mm_gt (M i : Nat) : Nat := Nat.mod (Nat.shiftRight M (Nat.mul 32 i)) 4294967296
def mm_st (M i v : Nat) : Nat := Nat.add (Nat.sub M (Nat.shiftLeft (mm_gt M i) (Nat.mul 32 i))) (Nat.shiftLeft (Nat.mod v 4294967296) (Nat.mul 32 i))
/-- an int's order -/
def mm_o (n : Nat) : Nat := Nat.mod (Nat.add n 2147483648) 4294967296
def mm_e (n : Nat) : Nat := Nat.mod n 4294967296
/-- equality of values -/
def mm_q : mV → mV → Bool
  | .inl a, .inl b => Nat.beq (mm_e a) (mm_e b)
  | .inr (.inl a), .inr (.inl b) => Nat.beq a b
  | .inr (.inr (.inl a)), .inr (.inr (.inl b)) => Nat.beq a b
  | .inr (.inr (.inr (.inl a))), .inr (.inr (.inr (.inl b))) => Nat.beq a b
  | .inr (.inr (.inr (.inr (.inl a)))), .inr (.inr (.inr (.inr (.inl b)))) => Nat.beq a b
  | .inr (.inr (.inr (.inr (.inr a)))), .inr (.inr (.inr (.inr (.inr b)))) => Nat.beq a b
  | _, _ => false
/-- a fact is looked up -/
noncomputable def mm_k (F : mF) (op : Nat) (a b : mV) (k : mV → Bool) : Bool := List.rec (motive := fun _ => Bool) false (fun q _ ih => mm_t (mm_t (Nat.beq q.1 op) (mm_t (mm_q q.2.1 a) (mm_q q.2.2.1 b) false) false) (k q.2.2.2) ih) F
/-- a comparison of two ints: 0 eq, 1 ne, 2 lt, 3 ge, 4 gt, 5 le -/
noncomputable def mm_cmp (c : Nat) (a b : Nat) : Bool := Nat.rec (motive := fun _ => Bool) (Nat.beq (mm_e a) (mm_e b)) (fun c _ => Nat.rec (motive := fun _ => Bool) (not (Nat.beq (mm_e a) (mm_e b))) (fun c _ => Nat.rec (motive := fun _ => Bool) (Nat.blt (mm_o a) (mm_o b)) (fun c _ => Nat.rec (motive := fun _ => Bool) (Nat.ble (mm_o b) (mm_o a)) (fun c _ => Nat.rec (motive := fun _ => Bool) (Nat.blt (mm_o b) (mm_o a)) (fun _ _ => Nat.ble (mm_o a) (mm_o b)) c) c) c) c) c
-- the handlers
noncomputable def h_const (n : Nat) : mI := fun _ _ _ _ nx L S h => nx L (.inl n :: S) h
noncomputable def h_lconst (n : Nat) : mI := fun _ _ _ _ nx L S h => nx L (.inr (.inr (.inl n)) :: S) h
noncomputable def h_iload (i : Nat) : mI := fun _ _ _ _ nx L S h => mm_n L i (fun o => Option.rec (motive := fun _ => Bool) false (fun v => mm_ci v (nx L (v :: S) h)) o)
noncomputable def h_lload (i : Nat) : mI := fun _ _ _ _ nx L S h => mm_n L i (fun o => Option.rec (motive := fun _ => Bool) false (fun v => mm_cl v (nx L (v :: S) h)) o)
noncomputable def h_aload (i : Nat) : mI := fun _ _ _ _ nx L S h => mm_n L i (fun o => Option.rec (motive := fun _ => Bool) false (fun v => mm_r v (fun _ => nx L (v :: S) h)) o)
noncomputable def h_istore (i : Nat) : mI := fun _ _ _ _ nx L S h => mm_p S (fun v S => mm_ci v (mm_ls L i (some v) (fun L => nx L S h)))
noncomputable def h_astore (i : Nat) : mI := fun _ _ _ _ nx L S h => mm_p S (fun v S => mm_r v (fun _ => mm_ls L i (some v) (fun L => nx L S h)))
noncomputable def h_lstore (i : Nat) : mI := fun _ _ _ _ nx L S h => mm_p S (fun v S => mm_cl v (mm_ls L i (some v) (fun L => mm_u L (Nat.succ i) none (fun L => nx L S h))))
noncomputable def h_iinc (i n : Nat) : mI := fun _ _ _ _ nx L S h => mm_n L i (fun o => Option.rec (motive := fun _ => Bool) false (fun v => mm_i v (fun a => mm_f (Nat.mod (Nat.add a n) 4294967296) (fun a => mm_ls L i (some (.inl a)) (fun L => nx L S h))) false) o)
noncomputable def h_iadd : mI := fun _ _ _ _ nx L S h => mm_p S (fun y S => mm_p S (fun x S => mm_i y (fun b => mm_i x (fun a => mm_f (Nat.mod (Nat.add a b) 4294967296) (fun n => nx L (.inl n :: S) h)) false) false))
noncomputable def h_isub : mI := fun _ _ _ _ nx L S h => mm_p S (fun y S => mm_p S (fun x S => mm_i y (fun b => mm_i x (fun a => mm_f (Nat.mod (Nat.sub (Nat.add (mm_e a) 4294967296) (mm_e b)) 4294967296) (fun n => nx L (.inl n :: S) h)) false) false))
noncomputable def h_imul : mI := fun F _ _ _ nx L S h => mm_p S (fun y S => mm_p S (fun x S => mm_i y (fun b => mm_i x (fun a => mm_f (Nat.mod (Nat.mul a b) 4294967296) (fun n => nx L (.inl n :: S) h)) (mm_k F 1 x y (fun v => nx L (v :: S) h))) (mm_k F 1 x y (fun v => nx L (v :: S) h))))
noncomputable def h_iand : mI := fun _ _ _ _ nx L S h => mm_p S (fun y S => mm_p S (fun x S => mm_i y (fun b => mm_i x (fun a => mm_f (Nat.land a b) (fun n => nx L (.inl n :: S) h)) false) false))
noncomputable def h_ior : mI := fun _ _ _ _ nx L S h => mm_p S (fun y S => mm_p S (fun x S => mm_i y (fun b => mm_i x (fun a => mm_f (Nat.lor a b) (fun n => nx L (.inl n :: S) h)) false) false))
noncomputable def h_ixor : mI := fun _ _ _ _ nx L S h => mm_p S (fun y S => mm_p S (fun x S => mm_i y (fun b => mm_i x (fun a => mm_f (Nat.xor a b) (fun n => nx L (.inl n :: S) h)) false) false))
noncomputable def h_irem : mI := fun F _ _ _ nx L S h => mm_p S (fun y S => mm_p S (fun x S => mm_i y (fun b => mm_i x (fun a => mm_b (Nat.ble a 2147483647) (mm_b (Nat.ble b 2147483647) (mm_b (Nat.ble 1 b) (mm_f (Nat.mod a b) (fun n => nx L (.inl n :: S) h))))) (mm_k F 8 x y (fun v => nx L (v :: S) h))) false))
noncomputable def h_ishl : mI := fun _ _ _ _ nx L S h => mm_p S (fun y S => mm_p S (fun x S => mm_i y (fun b => mm_i x (fun a => mm_b (Nat.ble b 31) (mm_f (Nat.mod (Nat.shiftLeft a b) 4294967296) (fun n => nx L (.inl n :: S) h))) false) false))
noncomputable def h_ishr : mI := fun _ _ _ _ nx L S h => mm_p S (fun y S => mm_p S (fun x S => mm_i y (fun b => mm_i x (fun a => mm_b (Nat.ble b 31) (mm_b (Nat.ble a 2147483647) (mm_f (Nat.shiftRight a b) (fun n => nx L (.inl n :: S) h)))) false) false))
noncomputable def h_iushr : mI := fun _ _ _ _ nx L S h => mm_p S (fun y S => mm_p S (fun x S => mm_i y (fun b => mm_i x (fun a => mm_b (Nat.ble b 31) (mm_b (Nat.ble a 4294967295) (mm_f (Nat.shiftRight a b) (fun n => nx L (.inl n :: S) h)))) false) false))
noncomputable def h_i2c : mI := fun _ _ _ _ nx L S h => mm_p S (fun x S => mm_i x (fun a => mm_f (Nat.mod a 65536) (fun n => nx L (.inl n :: S) h)) false)
/-- i2l, l2i and the longs' arithmetic: op 2, 7; 3 lmul, 4 ladd, 5 lrem, 6 ldiv, 9 lcmp; small known numbers only -/
noncomputable def h_i2l : mI := fun F _ _ _ nx L S h => mm_p S (fun x S => mm_i x (fun a => mm_b (Nat.ble a 2147483647) (nx L (.inr (.inr (.inl a)) :: S) h)) (mm_k F 2 x x (fun v => nx L (v :: S) h)))
noncomputable def h_l2i : mI := fun F _ _ _ nx L S h => mm_p S (fun x S => mm_l x (fun a => mm_f (Nat.mod a 4294967296) (fun n => nx L (.inl n :: S) h)) (mm_k F 7 x x (fun v => nx L (v :: S) h)))
noncomputable def h_lmul : mI := fun F _ _ _ nx L S h => mm_p S (fun y S => mm_p S (fun x S => mm_l y (fun b => mm_l x (fun a => mm_f (Nat.mod (Nat.mul a b) 18446744073709551616) (fun n => nx L (.inr (.inr (.inl n)) :: S) h)) (mm_k F 3 x y (fun v => nx L (v :: S) h))) (mm_k F 3 x y (fun v => nx L (v :: S) h))))
noncomputable def h_ladd : mI := fun F _ _ _ nx L S h => mm_p S (fun y S => mm_p S (fun x S => mm_l y (fun b => mm_l x (fun a => mm_f (Nat.mod (Nat.add a b) 18446744073709551616) (fun n => nx L (.inr (.inr (.inl n)) :: S) h)) (mm_k F 4 x y (fun v => nx L (v :: S) h))) (mm_k F 4 x y (fun v => nx L (v :: S) h))))
noncomputable def h_lrem : mI := fun F _ _ _ nx L S h => mm_p S (fun y S => mm_p S (fun x S => mm_k F 5 x y (fun v => nx L (v :: S) h)))
noncomputable def h_ldiv : mI := fun F _ _ _ nx L S h => mm_p S (fun y S => mm_p S (fun x S => mm_k F 6 x y (fun v => nx L (v :: S) h)))
noncomputable def h_lcmp : mI := fun F _ _ _ nx L S h => mm_p S (fun y S => mm_p S (fun x S => mm_k F 9 x y (fun v => nx L (v :: S) h)))
noncomputable def h_dup : mI := fun _ _ _ _ nx L S h => mm_p S (fun x S => mm_c1 x (nx L (x :: x :: S) h))
noncomputable def h_dup2 : mI := fun _ _ _ _ nx L S h => mm_p S (fun y S => mm_p S (fun x S => mm_c1 x (mm_c1 y (nx L (y :: x :: y :: x :: S) h))))
noncomputable def h_pop : mI := fun _ _ _ _ nx L S h => mm_p S (fun x S => mm_c1 x (nx L S h))
noncomputable def h_goto (l : Nat) : mI := fun _ _ j _ _ L S h => j l L S h
/-- behind a block's end: the next block -/
noncomputable def h_if (c l : Nat) : mI := fun F _ j _ nx L S h => mm_p S (fun x S => mm_i x (fun a => mm_t (mm_cmp c a 0) (j l L S h) (nx L S h)) (mm_k F (Nat.add 10 c) x (.inl 0) (fun v => mm_i v (fun b => Nat.rec (motive := fun _ => Bool) (nx L S h) (fun _ _ => j l L S h) b) false)))
noncomputable def h_icmp (c l : Nat) : mI := fun F _ j _ nx L S h => mm_p S (fun y S => mm_p S (fun x S => mm_i y (fun b => mm_i x (fun a => mm_t (mm_cmp c a b) (j l L S h) (nx L S h)) (mm_k F (Nat.add 10 c) x y (fun v => mm_i v (fun b => Nat.rec (motive := fun _ => Bool) (nx L S h) (fun _ _ => j l L S h) b) false))) (mm_k F (Nat.add 10 c) x y (fun v => mm_i v (fun b => Nat.rec (motive := fun _ => Bool) (nx L S h) (fun _ _ => j l L S h) b) false))))
/-- a switch: the default's label, the first number, the labels from it on -/
noncomputable def h_table (d lo : Nat) (ls : List Nat) : mI := fun F _ j _ _ L S h => mm_p S (fun x S => mm_i x (fun a => mm_t (Nat.ble a 2147483647) (mm_t (Nat.blt a lo) (j d L S h) (mm_t (Nat.blt (Nat.sub a lo) ls.length) (mm_n ls (Nat.sub a lo) (fun l => j l L S h)) (j d L S h))) (mm_b (Nat.ble a 4294967295) (j d L S h))) (mm_k F 12 x (.inl lo) (fun v => mm_i v (fun b => Nat.rec (motive := fun _ => Bool) (mm_k F 14 x (.inl (Nat.add lo (Nat.sub ls.length 1))) (fun v => mm_i v (fun b => Nat.rec (motive := fun _ => Bool) false (fun _ _ => j d L S h) b) false)) (fun _ _ => j d L S h) b) false)))
noncomputable def h_bad : mI := fun _ _ _ _ _ _ _ _ => false
noncomputable def mm_z (S : List mV) (b : Bool) : Bool := List.rec (motive := fun _ => Bool) b (fun _ _ _ => false) S
theorem mm_z_s {S : List mV} {b : Bool} (h : mm_z S b = true) : S = [] ∧ b = true := by
  cases S with
  | nil => exact ⟨rfl, h⟩
  | cons x xs => cases h
noncomputable def h_ireturn (mc ms : Nat) : mI := fun _ _ _ K _ _ S h => mm_p S (fun x S => mm_z S (mm_ci x (mm_b (Nat.beq h.2.1 mc) (mm_b (Nat.beq h.2.2.1 ms) (K (some x) h.2.2.2)))))
/-- of a boolean or a char: at most bd -/
noncomputable def h_zreturn (bd mc ms : Nat) : mI := fun _ _ _ K _ _ S h => mm_p S (fun x S => mm_z S (mm_i x (fun a => mm_b (Nat.ble a bd) (mm_b (Nat.beq h.2.1 mc) (mm_b (Nat.beq h.2.2.1 ms) (K (some x) h.2.2.2)))) false))
noncomputable def h_return (mc ms : Nat) : mI := fun _ _ _ K _ _ S h => mm_z S (mm_b (Nat.beq h.2.1 mc) (mm_b (Nat.beq h.2.2.1 ms) (K none h.2.2.2)))
/-- fields: of which class, which -/
noncomputable def mm_ob (c : mC) (k : Nat → List mV → Bool) : Bool := Sum.rec (motive := fun _ => Bool) (fun _ => false) (fun d => Sum.rec (motive := fun _ => Bool) (fun o => k o.1 o.2) (fun _ => false) d) c
noncomputable def mm_ar (c : mC) (k : Nat → Nat → Nat → Bool) : Bool := Sum.rec (motive := fun _ => Bool) (fun a => k a.1 a.2.1 a.2.2) (fun _ => false) c
noncomputable def mm_rr (c : mC) (k : Nat → List mV → Bool) : Bool := Sum.rec (motive := fun _ => Bool) (fun _ => false) (fun d => Sum.rec (motive := fun _ => Bool) (fun _ => false) (fun o => k o.1 o.2) d) c
noncomputable def h_getf (ci f : Nat) : mI := fun _ _ _ _ nx L S h => mm_p S (fun x S => mm_r x (fun a => mm_n h.2.2.2 a (fun c => mm_ob c (fun ci' fs => mm_b (Nat.beq ci' ci) (mm_n fs f (fun v => nx L (v :: S) h))))))
/-- ty: 0 an int field, 1 one of references -/
noncomputable def h_putf (ci f ty : Nat) : mI := fun _ _ _ _ nx L S h => mm_p S (fun v S => mm_p S (fun x S => mm_r x (fun a => mm_n h.2.2.2 a (fun c => mm_ob c (fun ci' fs => mm_b (Nat.beq ci' ci) (Nat.rec (motive := fun _ => Bool) (mm_ci v (mm_u fs f v (fun fs => mm_u h.2.2.2 a (.inr (.inl (ci, fs))) (fun hp => nx L S (h.1, h.2.1, h.2.2.1, hp))))) (fun _ _ => mm_r v (fun _ => mm_u fs f v (fun fs => mm_u h.2.2.2 a (.inr (.inl (ci, fs))) (fun hp => nx L S (h.1, h.2.1, h.2.2.1, hp))))) ty))))))
noncomputable def h_ald (ty : Nat) : mI := fun _ _ _ _ nx L S h => mm_p S (fun y S => mm_p S (fun x S => mm_i y (fun i => mm_r x (fun a => mm_n h.2.2.2 a (fun c => mm_ar c (fun ty' n M => mm_b (Nat.beq ty' ty) (mm_b (Nat.blt i n) (mm_b (Nat.ble n 65535) (mm_f (mm_gt M i) (fun v => nx L (.inl v :: S) h)))))))) false))
noncomputable def h_ast (ty : Nat) : mI := fun _ _ _ _ nx L S h => mm_p S (fun z S => mm_p S (fun y S => mm_p S (fun x S => mm_i z (fun v => mm_i y (fun i => mm_r x (fun a => mm_n h.2.2.2 a (fun c => mm_ar c (fun ty' n M => mm_b (Nat.beq ty' ty) (mm_b (Nat.blt i n) (mm_b (Nat.ble n 65535) (mm_b (Nat.rec (motive := fun _ => Bool) true (fun _ _ => Nat.ble v 65535) ty) (mm_f (mm_st M i v) (fun M => mm_u h.2.2.2 a (.inl (ty, n, M)) (fun hp => nx L S (h.1, h.2.1, h.2.2.1, hp))))))))))) false) false)))
noncomputable def h_aald : mI := fun _ _ _ _ nx L S h => mm_p S (fun y S => mm_p S (fun x S => mm_i y (fun i => mm_r x (fun a => mm_n h.2.2.2 a (fun c => mm_rr c (fun ty es => mm_b (Nat.ble ty 4) (mm_b (Nat.ble 2 ty) (mm_b (Nat.ble es.length 65535) (mm_n es i (fun v => mm_r v (fun _ => nx L (v :: S) h))))))))) false))
/-- a reference is stored into an array of kind ty, whose elements are of class ci -/
noncomputable def h_aast (ty ci : Nat) : mI := fun _ _ _ _ nx L S h => mm_p S (fun z S => mm_p S (fun y S => mm_p S (fun x S => mm_r z (fun q => mm_i y (fun i => mm_r x (fun a => mm_n h.2.2.2 q (fun c => mm_ob c (fun ci' _ => mm_b (Nat.beq ci' ci) (mm_n h.2.2.2 a (fun c => mm_rr c (fun ty' es => mm_b (Nat.beq ty' ty) (mm_b (Nat.ble es.length 65535) (mm_u es i z (fun es => mm_u h.2.2.2 a (.inr (.inr (ty, es))) (fun hp => nx L S (h.1, h.2.1, h.2.2.1, hp)))))))))))) false))))
noncomputable def h_alen : mI := fun _ _ _ _ nx L S h => mm_p S (fun x S => mm_r x (fun a => mm_n h.2.2.2 a (fun c => Sum.rec (motive := fun _ => Bool) (fun b => mm_b (Nat.ble b.1 4) (nx L (.inl b.2.1 :: S) h)) (fun d => Sum.rec (motive := fun _ => Bool) (fun _ => false) (fun o => mm_b (Nat.ble o.1 4) (mm_f o.2.length (fun n => nx L (.inl n :: S) h))) d) c)))
/-- two lists, one behind the other -/
noncomputable def mm_ap (l r : List mC) (k : List mC → Bool) : Bool := List.rec (motive := fun _ => (List mC → Bool) → Bool) (fun k => k r) (fun x _ ih k => ih (fun l => k (x :: l))) l k
theorem mm_ap_s {l r : List mC} {k : List mC → Bool} (h : mm_ap l r k = true) : k (l ++ r) = true := by
  induction l generalizing k with
  | nil => exact h
  | cons x l ih => exact ih (k := fun l => k (x :: l)) h
/-- Math.max, Math.min -/
noncomputable def h_max : mI := fun _ _ _ _ nx L S h => mm_p S (fun y S => mm_p S (fun x S => mm_i y (fun b => mm_i x (fun a => mm_b (Nat.ble S.length 4) (mm_t (mm_cmp 2 a b) (nx L (.inl b :: S) h) (nx L (.inl a :: S) h))) false) false))
noncomputable def h_min : mI := fun _ _ _ _ nx L S h => mm_p S (fun y S => mm_p S (fun x S => mm_i y (fun b => mm_i x (fun a => mm_b (Nat.ble S.length 4) (mm_t (mm_cmp 2 b a) (nx L (.inl b :: S) h) (nx L (.inl a :: S) h))) false) false))
/-- the room for cells and slots of the method stands in the instruction -/
noncomputable def h_new (ci : Nat) (fs : List mV) (rc rs : Nat) : mI := fun _ _ _ _ nx L S h => mm_b h.1 (mm_f (Nat.succ h.2.1) (fun nc => mm_f (Nat.add h.2.2.1 fs.length) (fun ns => mm_b (Nat.ble nc rc) (mm_b (Nat.ble ns rs) (mm_f h.2.2.2.length (fun a => mm_ap h.2.2.2 [.inr (.inl (ci, fs))] (fun hp => nx L (.inr (.inl a) :: S) (true, nc, ns, hp))))))))
noncomputable def h_newa (ty : Nat) (rc rs : Nat) : mI := fun _ _ _ _ nx L S h => mm_p S (fun x S => mm_i x (fun n => mm_b h.1 (mm_b (Nat.ble n 65535) (mm_f (Nat.succ h.2.1) (fun nc => mm_f (Nat.add h.2.2.1 n) (fun ns => mm_b (Nat.ble nc rc) (mm_b (Nat.ble ns rs) (mm_f h.2.2.2.length (fun a => mm_ap h.2.2.2 [.inl (ty, n, 0)] (fun hp => nx L (.inr (.inl a) :: S) (true, nc, ns, hp))))))))))  false)
noncomputable def h_newq (ty : Nat) (rc rs : Nat) : mI := fun _ _ _ _ nx L S h => mm_p S (fun x S => mm_i x (fun n => mm_b h.1 (mm_b (Nat.ble n 65535) (mm_f (Nat.succ h.2.1) (fun nc => mm_f (Nat.add h.2.2.1 n) (fun ns => mm_b (Nat.ble nc rc) (mm_b (Nat.ble ns rs) (mm_f h.2.2.2.length (fun a => mm_ap h.2.2.2 [.inr (.inr (ty, List.replicate n (.inr (.inr (.inr (.inr (.inr 0)))))))] (fun hp => nx L (.inr (.inl a) :: S) (true, nc, ns, hp))))))))))  false)
noncomputable def mm_rows (n k a : Nat) : List mC := List.replicate n (.inl (0, k, 0))
noncomputable def mm_refs (a : Nat) : Nat → List mV := fun n => (List.range n).map (fun i => .inr (.inl (a + i)))
noncomputable def h_mna (rc rs : Nat) : mI := fun _ _ _ _ nx L S h => mm_p S (fun y S => mm_p S (fun x S => mm_i y (fun k => mm_i x (fun n => mm_b h.1 (mm_b (Nat.ble n 65535) (mm_b (Nat.ble k 65535) (mm_f (Nat.add h.2.1 (Nat.succ n)) (fun nc => mm_f (Nat.add h.2.2.1 (Nat.add n (Nat.mul n k))) (fun ns => mm_b (Nat.ble nc rc) (mm_b (Nat.ble ns rs) (mm_f h.2.2.2.length (fun a => mm_ap h.2.2.2 (.inr (.inr (4, mm_refs (a + 1) n)) :: mm_rows n k a) (fun hp => nx L (.inr (.inl a) :: S) (true, nc, ns, hp))))))))))) false) false))
noncomputable def h_oinit : mI := fun _ _ _ _ nx L S h => mm_p S (fun x S => mm_r x (fun _ => mm_b (Nat.ble S.length 4) (nx L S h)))
/-- so many from the stack, the last one first -/
noncomputable def mm_pn (n : Nat) (S : List mV) (as : List mV) (k : List mV → List mV → Bool) : Bool := Nat.rec (motive := fun _ => List mV → List mV → Bool) (fun S as => k as S) (fun _ ih S as => mm_p S (fun x S => mm_c1 x (ih S (x :: as)))) n S as
/-- a call, rv: 0 of no answer, 1 of an int; ci: 0 static, 1 a constructor, k + 2: virtual, the receiver is of class k -/
noncomputable def h_call (y n rv ci : Nat) (mc ms rc rs : Nat) : mI := fun _ call _ _ nx L S h => mm_pn n S [] (fun as S => mm_b (Nat.ble S.length 4) (mm_f (Nat.add h.2.1 mc) (fun nc => mm_f (Nat.add h.2.2.1 ms) (fun ns => mm_b (Nat.ble nc rc) (mm_b (Nat.ble ns rs)
  (mm_b (Nat.rec (motive := fun _ => Bool) true (fun k _ => mm_p as (fun x _ => mm_r x (fun a => Nat.rec (motive := fun _ => Bool) true (fun k _ => mm_n h.2.2.2 a (fun c => mm_ob c (fun ci' _ => Nat.beq ci' k))) k))) ci)
    (call y as h.1 h.2.2.2 (fun v hp => Nat.rec (motive := fun _ => Bool) (Option.rec (motive := fun _ => Bool) (nx L S (h.1, nc, ns, hp)) (fun _ => false) v) (fun _ _ => Option.rec (motive := fun _ => Bool) false (fun v => mm_ci v (nx L (v :: S) (h.1, nc, ns, hp))) v) rv))))))))
/-- the text, as a constant: its length, its letters -/
noncomputable def h_str : mI := fun _ _ _ _ nx L S h => mm_b h.1 (nx L (.inr (.inr (.inr (.inr (.inr 1)))) :: S) h)
noncomputable def mm_sr (v : mV) (b : Bool) : Bool := mm_b (mm_q v (.inr (.inr (.inr (.inr (.inr 1)))))) b
noncomputable def h_slen (n : Nat) : mI := fun _ _ _ _ nx L S h => mm_p S (fun x S => mm_b h.1 (mm_sr x (mm_b (Nat.ble S.length 4) (nx L (.inl n :: S) h))))
noncomputable def h_char (n M : Nat) : mI := fun _ _ _ _ nx L S h => mm_p S (fun y S => mm_p S (fun x S => mm_b h.1 (mm_sr x (mm_i y (fun i => mm_b (Nat.blt i n) (mm_b (Nat.ble S.length 4) (mm_f (mm_gt M i) (fun v => nx L (.inl v :: S) h)))) false))))
noncomputable def bl (c : List mI) : mF → mA → (Nat → mN) → mK → mN := List.rec (motive := fun _ => mF → mA → (Nat → mN) → mK → mN) (fun _ _ _ _ _ _ _ => false) (fun i _ ih F a j K L S h => i F a j K (ih F a j K) L S h) c
noncomputable def mm_en (n : Nat) (as : List mV) (k : mL → Bool) : Bool := Nat.rec (motive := fun _ => List mV → (mL → Bool) → Bool) (fun as k => List.rec (motive := fun _ => Bool) (k []) (fun _ _ _ => false) as) (fun _ ih as k => List.rec (motive := fun _ => Bool) (ih [] (fun L => k (none :: L))) (fun a as _ => mm_c1 a (ih as (fun L => k (some a :: L)))) as) n as k
/-- a frame's run: the facts, what calls do; so many jumps; the method's code by blocks, block, locals, stack, cells; what is asked of its end; what is asked where the jumps are at an end -/
noncomputable def fr (F : mF) (call : mA) (n : Nat) : (Nat → List mI) → Nat → mL → List mV → mH → mK → (Nat → mN) → Bool :=
  Nat.rec (motive := fun _ => (Nat → List mI) → Nat → mL → List mV → mH → mK → (Nat → mN) → Bool) (fun _ b L S h _ Z => Z b L S h)
    (fun _ ih cs b L S h K Z => bl (cs b) F call (fun b L S h => ih cs b L S h K Z) K L S h) n
/-- a call's run, d deep: every method's code, number of locals -/
noncomputable def ed (F : mF) (rc : Nat → Nat → List mI) (nl : Nat → Nat) (d : Nat) : mA :=
  Nat.rec (motive := fun _ => mA) (fun _ _ _ _ _ => false) (fun _ ih y as al hp K => mm_en (nl y) as (fun L => fr F ih 1000000 (rc y) 0 L [] (al, 0, 0, hp) K (fun _ _ _ _ => false))) d
