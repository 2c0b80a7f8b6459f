/-! RUNS of one call on each object, by kinds of arguments: class and reference answer alike -/
noncomputable def al (n : Nat) (f : Nat → Bool) : Bool := Nat.rec (motive := fun _ => Bool) true (fun j ih => mm_b (f j) ih) n
theorem al_s {n : Nat} {f : Nat → Bool} (h : al n f = true) : ∀ j, j < n → f j = true := by
  induction n with
  | zero => exact fun j hj => absurd hj (Nat.not_lt_zero _)
  | succ n ih =>
    obtain ⟨h1, h2⟩ := mm_b_s h
    intro j hj
    by_cases e : j = n
    · rw [e]; exact h1
    · exact ih h2 j (by omega)
noncomputable def chk (F : mF) (y1 y2 : Nat) (av : List mV) (n : Nat) : Bool := mm_b (ed F rc nl 8 y1 (.inr (.inl 0) :: av) false hC (rN n)) (ed F rc nl 8 y2 (.inr (.inl 0) :: av) false hM (rN n))
/-- one call: both answer the same, whatever stands elsewhere -/
def OP (y1 y2 : Nat) (xs : List Int32) : Prop := ∃ (sg : Nat → Int32) (tl : Nat → Int64) (av : List mV) (n : Nat), (∀ d : mD, d.2.1 = sg → d.2.2.1 = tl → av.map (dn d) = xs.map Value.int) ∧
  ∀ (l : Launch) (d : mD) (E : mE), d.2.1 = sg → d.2.2.1 = tl → d.2.2.2.2 = false → CM l d E y1 (.inr (.inl 0) :: av) false hC (rN n) ∧ CM l d E y2 (.inr (.inl 0) :: av) false hM (rN n)
theorem op_of {F : mF} {y1 y2 : Nat} {av : List mV} {n : Nat} {sg : Nat → Int32} {tl : Nat → Int64} {xs : List Int32} (h : chk F y1 y2 av n = true) (hF : ∀ d : mD, d.2.1 = sg → d.2.2.1 = tl → FOK d F) (hx : ∀ d : mD, d.2.1 = sg → d.2.2.1 = tl → av.map (dn d) = xs.map Value.int) : OP y1 y2 xs := by
  obtain ⟨h1, h2⟩ := mm_b_s h
  exact ⟨sg, tl, av, n, hx, fun l d E e1 e2 e3 => ⟨ed_s (hF d e1 e2) 8 _ _ _ _ _ h1, ed_s (hF d e1 e2) 8 _ _ _ _ _ h2⟩⟩
def sg3 (a b c : Int32) : Nat → Int32
  | 0 => a
  | 1 => b
  | _ => c
def icP (c : Nat) (x y : Int) : Prop := match c with
  | 0 => x = y
  | 1 => ¬ x = y
  | 2 => x < y
  | 3 => y ≤ x
  | 4 => y < x
  | _ => x ≤ y
theorem cmp_ic (c : Nat) (x y : Int32) : cmpP c x y ↔ icP c x.toInt y.toInt := by
  rcases c with _ | _ | _ | _ | _ | c
  · exact Int32.toInt_inj.symm
  · exact not_congr Int32.toInt_inj.symm
  · exact Int32.lt_iff_toInt_lt
  · exact Int32.le_iff_toInt_le
  · exact Int32.lt_iff_toInt_lt
  · exact Int32.le_iff_toInt_le
theorem fk_n {d : mD} : FOK d [] := fun q hq => by cases hq
theorem fk_1 {d : mD} {F : mF} {op cc k c : Nat} {z : Int} (hop : op = 10 + cc) (hz : (nI c).toInt = z) (h : icP cc (d.2.1 k).toInt z) (hF : FOK d F) : FOK d ((op, .inr (.inr (.inr (.inl k))), .inl c, .inl 1) :: F) := by
  intro q hq
  rcases List.mem_cons.mp hq with rfl | hq
  · subst hop
    refine ⟨?_, fun _ => Or.inr rfl⟩
    show fsem (10 + cc) _ _ _
    have h2 : cmpP cc (d.2.1 k) (nI c) := (cmp_ic _ _ _).mpr (by rw [hz]; exact h)
    rw [Nat.add_comm]
    exact ⟨_, _, rfl, rfl, Or.inl ⟨h2, rfl⟩⟩
  · exact hF q hq
theorem fk_0 {d : mD} {F : mF} {op cc k c : Nat} {z : Int} (hop : op = 10 + cc) (hz : (nI c).toInt = z) (h : ¬ icP cc (d.2.1 k).toInt z) (hF : FOK d F) : FOK d ((op, .inr (.inr (.inr (.inl k))), .inl c, .inl 0) :: F) := by
  intro q hq
  rcases List.mem_cons.mp hq with rfl | hq
  · subst hop
    refine ⟨?_, fun _ => Or.inl rfl⟩
    have h2 : ¬ cmpP cc (d.2.1 k) (nI c) := fun w => h (by rw [← hz]; exact (cmp_ic _ _ _).mp w)
    show fsem (10 + cc) _ _ _
    rw [Nat.add_comm]
    exact ⟨_, _, rfl, rfl, Or.inr ⟨h2, rfl⟩⟩
  · exact hF q hq
theorem pt {x : Int32} (lo n : Nat) (h : lo + n ≤ 65535) (h1 : (lo : Int) ≤ x.toInt) (h2 : x.toInt < (lo : Int) + (n : Int)) : ∃ j, j < n ∧ x = nI (Nat.add lo j) := by
  refine ⟨(x.toInt - lo).toNat, by omega, Int32.toInt_inj.mp ?_⟩
  show x.toInt = (nI (lo + (x.toInt - lo).toNat)).toInt
  rw [nI_toInt (by omega)]
  omega
theorem pt1 {x : Int32} (n : Nat) (h : n ≤ 65535) (h1 : (-1 : Int) ≤ x.toInt) (h2 : x.toInt < (-1 : Int) + (n : Int)) : ∃ j, j < n ∧ x = nI (Nat.mod (Nat.add 4294967295 j) 4294967296) := by
  refine ⟨(x.toInt + 1).toNat, by omega, Int32.toInt_inj.mp ?_⟩
  rw [nI_ti]
  show x.toInt = ((((4294967295 + (x.toInt + 1).toNat) % 4294967296 + 2147483648) % 4294967296 : Nat) : Int) - 2147483648
  omega
