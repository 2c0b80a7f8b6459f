theorem op_write (a : Int32) : OP 60 101 [a] := by
  rcases (show a.toInt < 32 ∨ 126 < a.toInt ∨ (32 ≤ a.toInt ∧ a.toInt < 127) by omega) with hx0 | hx0 | hx0
  · skip
    have t0 := ar_write_0
    exact op_of (sg := sg3 a 0 0) (tl := fun _ => 0) t0 (fun d h1 _ => fk_1 (cc := 2) rfl (show _ = (32 : Int) by decide) (by rw [h1]; show a.toInt < (32 : Int); omega) (fk_n)) (fun d h1 _ => (by show [Value.int (d.2.1 0)] = _; rw [h1]; rfl))
  · skip
    have t0 := ar_write_1
    exact op_of (sg := sg3 a 0 0) (tl := fun _ => 0) t0 (fun d h1 _ => fk_0 (cc := 2) rfl (show _ = (32 : Int) by decide) (by rw [h1]; show ¬ (a.toInt < (32 : Int)); omega) (fk_1 (cc := 4) rfl (show _ = (126 : Int) by decide) (by rw [h1]; show (126 : Int) < a.toInt; omega) (fk_n))) (fun d h1 _ => (by show [Value.int (d.2.1 0)] = _; rw [h1]; rfl))
  · skip
    obtain ⟨j0, hj0, rfl⟩ := pt 32 95 (by decide) hx0.1 hx0.2
    have t0 := ar_write_2
    have t0 := al_s t0 j0 hj0
    rw [mm_f_eq] at t0
    rw [mm_f_eq] at t0
    exact op_of (sg := sg3 0 0 0) (tl := fun _ => 0) t0 (fun d h1 _ => fk_n) (fun d h1 _ => rfl)
theorem op_wipe : OP 61 102 [] := by
  have t0 := ar_wipe_0
  exact op_of (sg := sg3 0 0 0) (tl := fun _ => 0) t0 (fun d h1 _ => fk_n) (fun d h1 _ => rfl)
theorem op_fault : OP 62 103 [] := by
  have t0 := ar_fault_0
  exact op_of (sg := sg3 0 0 0) (tl := fun _ => 0) t0 (fun d h1 _ => fk_n) (fun d h1 _ => rfl)
theorem op_lay : OP 63 104 [] := by
  have t0 := ar_lay_0
  exact op_of (sg := sg3 0 0 0) (tl := fun _ => 0) t0 (fun d h1 _ => fk_n) (fun d h1 _ => rfl)
theorem op_person (a b : Int32) : OP 64 105 [a, b] := by
  rcases (show a.toInt < 0 ∨ 3 < a.toInt ∨ (0 ≤ a.toInt ∧ a.toInt < 4) by omega) with hx0 | hx0 | hx0
  · skip
    have t0 := ar_person_0
    exact op_of (sg := sg3 a b 0) (tl := fun _ => 0) t0 (fun d h1 _ => fk_1 (cc := 2) rfl (show _ = (0 : Int) by decide) (by rw [h1]; show a.toInt < (0 : Int); omega) (fk_n)) (fun d h1 _ => (by show [Value.int (d.2.1 0), Value.int (d.2.1 1)] = _; rw [h1]; rfl))
  · skip
    have t0 := ar_person_1
    exact op_of (sg := sg3 a b 0) (tl := fun _ => 0) t0 (fun d h1 _ => fk_0 (cc := 2) rfl (show _ = (0 : Int) by decide) (by rw [h1]; show ¬ (a.toInt < (0 : Int)); omega) (fk_1 (cc := 3) rfl (show _ = (4 : Int) by decide) (by rw [h1]; show (4 : Int) ≤ a.toInt; omega) (fk_1 (cc := 4) rfl (show _ = (3 : Int) by decide) (by rw [h1]; show (3 : Int) < a.toInt; omega) (fk_n)))) (fun d h1 _ => (by show [Value.int (d.2.1 0), Value.int (d.2.1 1)] = _; rw [h1]; rfl))
  · skip
    obtain ⟨j0, hj0, rfl⟩ := pt 0 4 (by decide) hx0.1 hx0.2
    rcases (show b.toInt < 0 ∨ 3 < b.toInt ∨ (0 ≤ b.toInt ∧ b.toInt < 4) by omega) with hx1 | hx1 | hx1
    · skip
      have t0 := ar_person_2
      have t0 := al_s t0 j0 hj0
      rw [mm_f_eq] at t0
      rw [mm_f_eq] at t0
      exact op_of (sg := sg3 0 b 0) (tl := fun _ => 0) t0 (fun d h1 _ => fk_1 (cc := 2) rfl (show _ = (0 : Int) by decide) (by rw [h1]; show b.toInt < (0 : Int); omega) (fk_n)) (fun d h1 _ => (by show [Value.int (nI (Nat.add 0 j0)), Value.int (d.2.1 1)] = _; rw [h1]; rfl))
    · skip
      have t0 := ar_person_3
      have t0 := al_s t0 j0 hj0
      rw [mm_f_eq] at t0
      rw [mm_f_eq] at t0
      exact op_of (sg := sg3 0 b 0) (tl := fun _ => 0) t0 (fun d h1 _ => fk_0 (cc := 2) rfl (show _ = (0 : Int) by decide) (by rw [h1]; show ¬ (b.toInt < (0 : Int)); omega) (fk_1 (cc := 4) rfl (show _ = (3 : Int) by decide) (by rw [h1]; show (3 : Int) < b.toInt; omega) (fk_n))) (fun d h1 _ => (by show [Value.int (nI (Nat.add 0 j0)), Value.int (d.2.1 1)] = _; rw [h1]; rfl))
    · skip
      obtain ⟨j1, hj1, rfl⟩ := pt 0 4 (by decide) hx1.1 hx1.2
      have t0 := ar_person_4
      have t0 := al_s t0 j0 hj0
      rw [mm_f_eq] at t0
      have t0 := al_s t0 j1 hj1
      rw [mm_f_eq] at t0
      rw [mm_f_eq] at t0
      exact op_of (sg := sg3 0 0 0) (tl := fun _ => 0) t0 (fun d h1 _ => fk_n) (fun d h1 _ => rfl)
theorem op_doing (a b : Int32) : OP 65 106 [a, b] := by
  rcases (show a.toInt < 0 ∨ 2 < a.toInt ∨ (0 ≤ a.toInt ∧ a.toInt < 3) by omega) with hx0 | hx0 | hx0
  · skip
    have t0 := ar_doing_0
    exact op_of (sg := sg3 a b 0) (tl := fun _ => 0) t0 (fun d h1 _ => fk_1 (cc := 2) rfl (show _ = (0 : Int) by decide) (by rw [h1]; show a.toInt < (0 : Int); omega) (fk_n)) (fun d h1 _ => (by show [Value.int (d.2.1 0), Value.int (d.2.1 1)] = _; rw [h1]; rfl))
  · skip
    have t0 := ar_doing_1
    exact op_of (sg := sg3 a b 0) (tl := fun _ => 0) t0 (fun d h1 _ => fk_0 (cc := 2) rfl (show _ = (0 : Int) by decide) (by rw [h1]; show ¬ (a.toInt < (0 : Int)); omega) (fk_1 (cc := 3) rfl (show _ = (3 : Int) by decide) (by rw [h1]; show (3 : Int) ≤ a.toInt; omega) (fk_1 (cc := 4) rfl (show _ = (2 : Int) by decide) (by rw [h1]; show (2 : Int) < a.toInt; omega) (fk_n)))) (fun d h1 _ => (by show [Value.int (d.2.1 0), Value.int (d.2.1 1)] = _; rw [h1]; rfl))
  · skip
    obtain ⟨j0, hj0, rfl⟩ := pt 0 3 (by decide) hx0.1 hx0.2
    rcases (show b.toInt < 0 ∨ 2 < b.toInt ∨ (0 ≤ b.toInt ∧ b.toInt < 3) by omega) with hx1 | hx1 | hx1
    · skip
      have t0 := ar_doing_2
      have t0 := al_s t0 j0 hj0
      rw [mm_f_eq] at t0
      rw [mm_f_eq] at t0
      exact op_of (sg := sg3 0 b 0) (tl := fun _ => 0) t0 (fun d h1 _ => fk_1 (cc := 2) rfl (show _ = (0 : Int) by decide) (by rw [h1]; show b.toInt < (0 : Int); omega) (fk_n)) (fun d h1 _ => (by show [Value.int (nI (Nat.add 0 j0)), Value.int (d.2.1 1)] = _; rw [h1]; rfl))
    · skip
      have t0 := ar_doing_3
      have t0 := al_s t0 j0 hj0
      rw [mm_f_eq] at t0
      rw [mm_f_eq] at t0
      exact op_of (sg := sg3 0 b 0) (tl := fun _ => 0) t0 (fun d h1 _ => fk_0 (cc := 2) rfl (show _ = (0 : Int) by decide) (by rw [h1]; show ¬ (b.toInt < (0 : Int)); omega) (fk_1 (cc := 4) rfl (show _ = (2 : Int) by decide) (by rw [h1]; show (2 : Int) < b.toInt; omega) (fk_n))) (fun d h1 _ => (by show [Value.int (nI (Nat.add 0 j0)), Value.int (d.2.1 1)] = _; rw [h1]; rfl))
    · skip
      obtain ⟨j1, hj1, rfl⟩ := pt 0 3 (by decide) hx1.1 hx1.2
      have t0 := ar_doing_4
      have t0 := al_s t0 j0 hj0
      rw [mm_f_eq] at t0
      have t0 := al_s t0 j1 hj1
      rw [mm_f_eq] at t0
      rw [mm_f_eq] at t0
      exact op_of (sg := sg3 0 0 0) (tl := fun _ => 0) t0 (fun d h1 _ => fk_n) (fun d h1 _ => rfl)
theorem op_occasion (a b : Int32) : OP 66 107 [a, b] := by
  rcases (show a.toInt < 0 ∨ 8 < a.toInt ∨ (0 ≤ a.toInt ∧ a.toInt < 9) by omega) with hx0 | hx0 | hx0
  · skip
    have t0 := ar_occasion_0
    exact op_of (sg := sg3 a b 0) (tl := fun _ => 0) t0 (fun d h1 _ => fk_1 (cc := 2) rfl (show _ = (0 : Int) by decide) (by rw [h1]; show a.toInt < (0 : Int); omega) (fk_n)) (fun d h1 _ => (by show [Value.int (d.2.1 0), Value.int (d.2.1 1)] = _; rw [h1]; rfl))
  · skip
    have t0 := ar_occasion_1
    exact op_of (sg := sg3 a b 0) (tl := fun _ => 0) t0 (fun d h1 _ => fk_0 (cc := 2) rfl (show _ = (0 : Int) by decide) (by rw [h1]; show ¬ (a.toInt < (0 : Int)); omega) (fk_1 (cc := 3) rfl (show _ = (9 : Int) by decide) (by rw [h1]; show (9 : Int) ≤ a.toInt; omega) (fk_1 (cc := 4) rfl (show _ = (8 : Int) by decide) (by rw [h1]; show (8 : Int) < a.toInt; omega) (fk_n)))) (fun d h1 _ => (by show [Value.int (d.2.1 0), Value.int (d.2.1 1)] = _; rw [h1]; rfl))
  · skip
    obtain ⟨j0, hj0, rfl⟩ := pt 0 9 (by decide) hx0.1 hx0.2
    rcases (show b.toInt < 0 ∨ 4 < b.toInt ∨ (0 ≤ b.toInt ∧ b.toInt < 5) by omega) with hx1 | hx1 | hx1
    · skip
      have t0 := ar_occasion_2
      have t0 := al_s t0 j0 hj0
      rw [mm_f_eq] at t0
      rw [mm_f_eq] at t0
      exact op_of (sg := sg3 0 b 0) (tl := fun _ => 0) t0 (fun d h1 _ => fk_1 (cc := 2) rfl (show _ = (0 : Int) by decide) (by rw [h1]; show b.toInt < (0 : Int); omega) (fk_n)) (fun d h1 _ => (by show [Value.int (nI (Nat.add 0 j0)), Value.int (d.2.1 1)] = _; rw [h1]; rfl))
    · skip
      have t0 := ar_occasion_3
      have t0 := al_s t0 j0 hj0
      rw [mm_f_eq] at t0
      rw [mm_f_eq] at t0
      exact op_of (sg := sg3 0 b 0) (tl := fun _ => 0) t0 (fun d h1 _ => fk_0 (cc := 2) rfl (show _ = (0 : Int) by decide) (by rw [h1]; show ¬ (b.toInt < (0 : Int)); omega) (fk_1 (cc := 4) rfl (show _ = (4 : Int) by decide) (by rw [h1]; show (4 : Int) < b.toInt; omega) (fk_n))) (fun d h1 _ => (by show [Value.int (nI (Nat.add 0 j0)), Value.int (d.2.1 1)] = _; rw [h1]; rfl))
    · skip
      obtain ⟨j1, hj1, rfl⟩ := pt 0 5 (by decide) hx1.1 hx1.2
      have t0 := ar_occasion_4
      have t0 := al_s t0 j0 hj0
      rw [mm_f_eq] at t0
      have t0 := al_s t0 j1 hj1
      rw [mm_f_eq] at t0
      rw [mm_f_eq] at t0
      exact op_of (sg := sg3 0 0 0) (tl := fun _ => 0) t0 (fun d h1 _ => fk_n) (fun d h1 _ => rfl)
theorem op_take (a : Int32) : OP 68 110 [a] := by
  rcases (show a.toInt < 0 ∨ 8 < a.toInt ∨ (0 ≤ a.toInt ∧ a.toInt < 9) by omega) with hx0 | hx0 | hx0
  · skip
    have t0 := ar_take_0
    exact op_of (sg := sg3 a 0 0) (tl := fun _ => 0) t0 (fun d h1 _ => fk_1 (cc := 2) rfl (show _ = (0 : Int) by decide) (by rw [h1]; show a.toInt < (0 : Int); omega) (fk_n)) (fun d h1 _ => (by show [Value.int (d.2.1 0)] = _; rw [h1]; rfl))
  · skip
    have t0 := ar_take_1
    exact op_of (sg := sg3 a 0 0) (tl := fun _ => 0) t0 (fun d h1 _ => fk_0 (cc := 2) rfl (show _ = (0 : Int) by decide) (by rw [h1]; show ¬ (a.toInt < (0 : Int)); omega) (fk_1 (cc := 3) rfl (show _ = (9 : Int) by decide) (by rw [h1]; show (9 : Int) ≤ a.toInt; omega) (fk_1 (cc := 4) rfl (show _ = (8 : Int) by decide) (by rw [h1]; show (8 : Int) < a.toInt; omega) (fk_n)))) (fun d h1 _ => (by show [Value.int (d.2.1 0)] = _; rw [h1]; rfl))
  · skip
    obtain ⟨j0, hj0, rfl⟩ := pt 0 9 (by decide) hx0.1 hx0.2
    have t0 := ar_take_2
    have t0 := al_s t0 j0 hj0
    rw [mm_f_eq] at t0
    rw [mm_f_eq] at t0
    exact op_of (sg := sg3 0 0 0) (tl := fun _ => 0) t0 (fun d h1 _ => fk_n) (fun d h1 _ => rfl)
theorem op_pass (a : Int32) : OP 70 112 [a] := by
  rcases (show a.toInt < 1 ∨ 30 < a.toInt ∨ (1 ≤ a.toInt ∧ a.toInt < 31) by omega) with hx0 | hx0 | hx0
  · skip
    have t0 := ar_pass_0
    exact op_of (sg := sg3 a 0 0) (tl := fun _ => 0) t0 (fun d h1 _ => fk_1 (cc := 2) rfl (show _ = (1 : Int) by decide) (by rw [h1]; show a.toInt < (1 : Int); omega) (fk_n)) (fun d h1 _ => (by show [Value.int (d.2.1 0)] = _; rw [h1]; rfl))
  · skip
    have t0 := ar_pass_1
    exact op_of (sg := sg3 a 0 0) (tl := fun _ => 0) t0 (fun d h1 _ => fk_0 (cc := 2) rfl (show _ = (1 : Int) by decide) (by rw [h1]; show ¬ (a.toInt < (1 : Int)); omega) (fk_1 (cc := 4) rfl (show _ = (30 : Int) by decide) (by rw [h1]; show (30 : Int) < a.toInt; omega) (fk_n))) (fun d h1 _ => (by show [Value.int (d.2.1 0)] = _; rw [h1]; rfl))
  · skip
    obtain ⟨j0, hj0, rfl⟩ := pt 1 30 (by decide) hx0.1 hx0.2
    have t0 := ar_pass_2
    have t0 := al_s t0 j0 hj0
    rw [mm_f_eq] at t0
    rw [mm_f_eq] at t0
    exact op_of (sg := sg3 0 0 0) (tl := fun _ => 0) t0 (fun d h1 _ => fk_n) (fun d h1 _ => rfl)
theorem op_give (a b c : Int32) : OP 71 113 [a, b, c] := by
  rcases (show a.toInt < 0 ∨ 3 < a.toInt ∨ (0 ≤ a.toInt ∧ a.toInt < 1) ∨ (1 ≤ a.toInt ∧ a.toInt < 2) ∨ (2 ≤ a.toInt ∧ a.toInt < 3) ∨ (3 ≤ a.toInt ∧ a.toInt < 4) by omega) with hx0 | hx0 | hx0 | hx0 | hx0 | hx0
  · skip
    have t0 := ar_give_0
    exact op_of (sg := sg3 a b c) (tl := fun _ => 0) t0 (fun d h1 _ => fk_1 (cc := 2) rfl (show _ = (0 : Int) by decide) (by rw [h1]; show a.toInt < (0 : Int); omega) (fk_n)) (fun d h1 _ => (by show [Value.int (d.2.1 0), Value.int (d.2.1 1), Value.int (d.2.1 2)] = _; rw [h1]; rfl))
  · skip
    have t0 := ar_give_1
    exact op_of (sg := sg3 a b c) (tl := fun _ => 0) t0 (fun d h1 _ => fk_0 (cc := 2) rfl (show _ = (0 : Int) by decide) (by rw [h1]; show ¬ (a.toInt < (0 : Int)); omega) (fk_1 (cc := 3) rfl (show _ = (4 : Int) by decide) (by rw [h1]; show (4 : Int) ≤ a.toInt; omega) (fk_1 (cc := 4) rfl (show _ = (3 : Int) by decide) (by rw [h1]; show (3 : Int) < a.toInt; omega) (fk_n)))) (fun d h1 _ => (by show [Value.int (d.2.1 0), Value.int (d.2.1 1), Value.int (d.2.1 2)] = _; rw [h1]; rfl))
  · skip
    obtain ⟨j0, hj0, rfl⟩ := pt 0 1 (by decide) hx0.1 hx0.2
    obtain rfl : j0 = 0 := by omega
    rcases (show b.toInt < 0 ∨ 3 < b.toInt ∨ (0 ≤ b.toInt ∧ b.toInt < 4) by omega) with hx1 | hx1 | hx1
    · skip
      have t0 := ar_give_2
      exact op_of (sg := sg3 0 b c) (tl := fun _ => 0) t0 (fun d h1 _ => fk_1 (cc := 2) rfl (show _ = (0 : Int) by decide) (by rw [h1]; show b.toInt < (0 : Int); omega) (fk_n)) (fun d h1 _ => (by show [Value.int (nI 0), Value.int (d.2.1 1), Value.int (d.2.1 2)] = _; rw [h1]; rfl))
    · skip
      have t0 := ar_give_3
      exact op_of (sg := sg3 0 b c) (tl := fun _ => 0) t0 (fun d h1 _ => fk_0 (cc := 2) rfl (show _ = (0 : Int) by decide) (by rw [h1]; show ¬ (b.toInt < (0 : Int)); omega) (fk_1 (cc := 3) rfl (show _ = (4 : Int) by decide) (by rw [h1]; show (4 : Int) ≤ b.toInt; omega) (fk_1 (cc := 4) rfl (show _ = (3 : Int) by decide) (by rw [h1]; show (3 : Int) < b.toInt; omega) (fk_n)))) (fun d h1 _ => (by show [Value.int (nI 0), Value.int (d.2.1 1), Value.int (d.2.1 2)] = _; rw [h1]; rfl))
    · skip
      obtain ⟨j1, hj1, rfl⟩ := pt 0 4 (by decide) hx1.1 hx1.2
      rcases (show c.toInt < 1 ∨ 15 < c.toInt ∨ (1 ≤ c.toInt ∧ c.toInt < 16) by omega) with hx2 | hx2 | hx2
      · skip
        have t0 := ar_give_4
        have t0 := al_s t0 j1 hj1
        rw [mm_f_eq] at t0
        rw [mm_f_eq] at t0
        exact op_of (sg := sg3 0 0 c) (tl := fun _ => 0) t0 (fun d h1 _ => fk_1 (cc := 2) rfl (show _ = (1 : Int) by decide) (by rw [h1]; show c.toInt < (1 : Int); omega) (fk_n)) (fun d h1 _ => (by show [Value.int (nI 0), Value.int (nI (Nat.add 0 j1)), Value.int (d.2.1 2)] = _; rw [h1]; rfl))
      · skip
        have t0 := ar_give_5
        have t0 := al_s t0 j1 hj1
        rw [mm_f_eq] at t0
        rw [mm_f_eq] at t0
        exact op_of (sg := sg3 0 0 c) (tl := fun _ => 0) t0 (fun d h1 _ => fk_0 (cc := 2) rfl (show _ = (1 : Int) by decide) (by rw [h1]; show ¬ (c.toInt < (1 : Int)); omega) (fk_1 (cc := 4) rfl (show _ = (15 : Int) by decide) (by rw [h1]; show (15 : Int) < c.toInt; omega) (fk_n))) (fun d h1 _ => (by show [Value.int (nI 0), Value.int (nI (Nat.add 0 j1)), Value.int (d.2.1 2)] = _; rw [h1]; rfl))
      · skip
        obtain ⟨j2, hj2, rfl⟩ := pt 1 15 (by decide) hx2.1 hx2.2
        have t0 := ar_give_6
        have t0 := al_s t0 j1 hj1
        rw [mm_f_eq] at t0
        have t0 := al_s t0 j2 hj2
        rw [mm_f_eq] at t0
        rw [mm_f_eq] at t0
        exact op_of (sg := sg3 0 0 0) (tl := fun _ => 0) t0 (fun d h1 _ => fk_n) (fun d h1 _ => rfl)
  · skip
    obtain ⟨j0, hj0, rfl⟩ := pt 1 1 (by decide) hx0.1 hx0.2
    obtain rfl : j0 = 0 := by omega
    rcases (show b.toInt < 0 ∨ 3 < b.toInt ∨ (0 ≤ b.toInt ∧ b.toInt < 4) by omega) with hx1 | hx1 | hx1
    · skip
      have t0 := ar_give_7
      exact op_of (sg := sg3 0 b c) (tl := fun _ => 0) t0 (fun d h1 _ => fk_1 (cc := 2) rfl (show _ = (0 : Int) by decide) (by rw [h1]; show b.toInt < (0 : Int); omega) (fk_n)) (fun d h1 _ => (by show [Value.int (nI 1), Value.int (d.2.1 1), Value.int (d.2.1 2)] = _; rw [h1]; rfl))
    · skip
      have t0 := ar_give_8
      exact op_of (sg := sg3 0 b c) (tl := fun _ => 0) t0 (fun d h1 _ => fk_0 (cc := 2) rfl (show _ = (0 : Int) by decide) (by rw [h1]; show ¬ (b.toInt < (0 : Int)); omega) (fk_1 (cc := 3) rfl (show _ = (4 : Int) by decide) (by rw [h1]; show (4 : Int) ≤ b.toInt; omega) (fk_1 (cc := 4) rfl (show _ = (3 : Int) by decide) (by rw [h1]; show (3 : Int) < b.toInt; omega) (fk_n)))) (fun d h1 _ => (by show [Value.int (nI 1), Value.int (d.2.1 1), Value.int (d.2.1 2)] = _; rw [h1]; rfl))
    · skip
      obtain ⟨j1, hj1, rfl⟩ := pt 0 4 (by decide) hx1.1 hx1.2
      rcases (show c.toInt < 1 ∨ 15 < c.toInt ∨ (1 ≤ c.toInt ∧ c.toInt < 16) by omega) with hx2 | hx2 | hx2
      · skip
        have t0 := ar_give_9
        have t0 := al_s t0 j1 hj1
        rw [mm_f_eq] at t0
        rw [mm_f_eq] at t0
        exact op_of (sg := sg3 0 0 c) (tl := fun _ => 0) t0 (fun d h1 _ => fk_1 (cc := 2) rfl (show _ = (1 : Int) by decide) (by rw [h1]; show c.toInt < (1 : Int); omega) (fk_n)) (fun d h1 _ => (by show [Value.int (nI 1), Value.int (nI (Nat.add 0 j1)), Value.int (d.2.1 2)] = _; rw [h1]; rfl))
      · skip
        have t0 := ar_give_10
        have t0 := al_s t0 j1 hj1
        rw [mm_f_eq] at t0
        rw [mm_f_eq] at t0
        exact op_of (sg := sg3 0 0 c) (tl := fun _ => 0) t0 (fun d h1 _ => fk_0 (cc := 2) rfl (show _ = (1 : Int) by decide) (by rw [h1]; show ¬ (c.toInt < (1 : Int)); omega) (fk_1 (cc := 4) rfl (show _ = (15 : Int) by decide) (by rw [h1]; show (15 : Int) < c.toInt; omega) (fk_n))) (fun d h1 _ => (by show [Value.int (nI 1), Value.int (nI (Nat.add 0 j1)), Value.int (d.2.1 2)] = _; rw [h1]; rfl))
      · skip
        obtain ⟨j2, hj2, rfl⟩ := pt 1 15 (by decide) hx2.1 hx2.2
        have t0 := ar_give_11
        have t0 := al_s t0 j1 hj1
        rw [mm_f_eq] at t0
        have t0 := al_s t0 j2 hj2
        rw [mm_f_eq] at t0
        rw [mm_f_eq] at t0
        exact op_of (sg := sg3 0 0 0) (tl := fun _ => 0) t0 (fun d h1 _ => fk_n) (fun d h1 _ => rfl)
  · skip
    obtain ⟨j0, hj0, rfl⟩ := pt 2 1 (by decide) hx0.1 hx0.2
    obtain rfl : j0 = 0 := by omega
    rcases (show b.toInt < 0 ∨ 3 < b.toInt ∨ (0 ≤ b.toInt ∧ b.toInt < 4) by omega) with hx1 | hx1 | hx1
    · skip
      have t0 := ar_give_12
      exact op_of (sg := sg3 0 b c) (tl := fun _ => 0) t0 (fun d h1 _ => fk_1 (cc := 2) rfl (show _ = (0 : Int) by decide) (by rw [h1]; show b.toInt < (0 : Int); omega) (fk_n)) (fun d h1 _ => (by show [Value.int (nI 2), Value.int (d.2.1 1), Value.int (d.2.1 2)] = _; rw [h1]; rfl))
    · skip
      have t0 := ar_give_13
      exact op_of (sg := sg3 0 b c) (tl := fun _ => 0) t0 (fun d h1 _ => fk_0 (cc := 2) rfl (show _ = (0 : Int) by decide) (by rw [h1]; show ¬ (b.toInt < (0 : Int)); omega) (fk_1 (cc := 3) rfl (show _ = (4 : Int) by decide) (by rw [h1]; show (4 : Int) ≤ b.toInt; omega) (fk_1 (cc := 4) rfl (show _ = (3 : Int) by decide) (by rw [h1]; show (3 : Int) < b.toInt; omega) (fk_n)))) (fun d h1 _ => (by show [Value.int (nI 2), Value.int (d.2.1 1), Value.int (d.2.1 2)] = _; rw [h1]; rfl))
    · skip
      obtain ⟨j1, hj1, rfl⟩ := pt 0 4 (by decide) hx1.1 hx1.2
      rcases (show c.toInt < 1 ∨ 15 < c.toInt ∨ (1 ≤ c.toInt ∧ c.toInt < 16) by omega) with hx2 | hx2 | hx2
      · skip
        have t0 := ar_give_14
        have t0 := al_s t0 j1 hj1
        rw [mm_f_eq] at t0
        rw [mm_f_eq] at t0
        exact op_of (sg := sg3 0 0 c) (tl := fun _ => 0) t0 (fun d h1 _ => fk_1 (cc := 2) rfl (show _ = (1 : Int) by decide) (by rw [h1]; show c.toInt < (1 : Int); omega) (fk_n)) (fun d h1 _ => (by show [Value.int (nI 2), Value.int (nI (Nat.add 0 j1)), Value.int (d.2.1 2)] = _; rw [h1]; rfl))
      · skip
        have t0 := ar_give_15
        have t0 := al_s t0 j1 hj1
        rw [mm_f_eq] at t0
        rw [mm_f_eq] at t0
        exact op_of (sg := sg3 0 0 c) (tl := fun _ => 0) t0 (fun d h1 _ => fk_0 (cc := 2) rfl (show _ = (1 : Int) by decide) (by rw [h1]; show ¬ (c.toInt < (1 : Int)); omega) (fk_1 (cc := 4) rfl (show _ = (15 : Int) by decide) (by rw [h1]; show (15 : Int) < c.toInt; omega) (fk_n))) (fun d h1 _ => (by show [Value.int (nI 2), Value.int (nI (Nat.add 0 j1)), Value.int (d.2.1 2)] = _; rw [h1]; rfl))
      · skip
        obtain ⟨j2, hj2, rfl⟩ := pt 1 15 (by decide) hx2.1 hx2.2
        have t0 := ar_give_16
        have t0 := al_s t0 j1 hj1
        rw [mm_f_eq] at t0
        have t0 := al_s t0 j2 hj2
        rw [mm_f_eq] at t0
        rw [mm_f_eq] at t0
        exact op_of (sg := sg3 0 0 0) (tl := fun _ => 0) t0 (fun d h1 _ => fk_n) (fun d h1 _ => rfl)
  · skip
    obtain ⟨j0, hj0, rfl⟩ := pt 3 1 (by decide) hx0.1 hx0.2
    obtain rfl : j0 = 0 := by omega
    rcases (show b.toInt < 0 ∨ 3 < b.toInt ∨ (0 ≤ b.toInt ∧ b.toInt < 4) by omega) with hx1 | hx1 | hx1
    · skip
      have t0 := ar_give_17
      exact op_of (sg := sg3 0 b c) (tl := fun _ => 0) t0 (fun d h1 _ => fk_1 (cc := 2) rfl (show _ = (0 : Int) by decide) (by rw [h1]; show b.toInt < (0 : Int); omega) (fk_n)) (fun d h1 _ => (by show [Value.int (nI 3), Value.int (d.2.1 1), Value.int (d.2.1 2)] = _; rw [h1]; rfl))
    · skip
      have t0 := ar_give_18
      exact op_of (sg := sg3 0 b c) (tl := fun _ => 0) t0 (fun d h1 _ => fk_0 (cc := 2) rfl (show _ = (0 : Int) by decide) (by rw [h1]; show ¬ (b.toInt < (0 : Int)); omega) (fk_1 (cc := 3) rfl (show _ = (4 : Int) by decide) (by rw [h1]; show (4 : Int) ≤ b.toInt; omega) (fk_1 (cc := 4) rfl (show _ = (3 : Int) by decide) (by rw [h1]; show (3 : Int) < b.toInt; omega) (fk_n)))) (fun d h1 _ => (by show [Value.int (nI 3), Value.int (d.2.1 1), Value.int (d.2.1 2)] = _; rw [h1]; rfl))
    · skip
      obtain ⟨j1, hj1, rfl⟩ := pt 0 4 (by decide) hx1.1 hx1.2
      rcases (show c.toInt < 1 ∨ 15 < c.toInt ∨ (1 ≤ c.toInt ∧ c.toInt < 16) by omega) with hx2 | hx2 | hx2
      · skip
        have t0 := ar_give_19
        have t0 := al_s t0 j1 hj1
        rw [mm_f_eq] at t0
        rw [mm_f_eq] at t0
        exact op_of (sg := sg3 0 0 c) (tl := fun _ => 0) t0 (fun d h1 _ => fk_1 (cc := 2) rfl (show _ = (1 : Int) by decide) (by rw [h1]; show c.toInt < (1 : Int); omega) (fk_n)) (fun d h1 _ => (by show [Value.int (nI 3), Value.int (nI (Nat.add 0 j1)), Value.int (d.2.1 2)] = _; rw [h1]; rfl))
      · skip
        have t0 := ar_give_20
        have t0 := al_s t0 j1 hj1
        rw [mm_f_eq] at t0
        rw [mm_f_eq] at t0
        exact op_of (sg := sg3 0 0 c) (tl := fun _ => 0) t0 (fun d h1 _ => fk_0 (cc := 2) rfl (show _ = (1 : Int) by decide) (by rw [h1]; show ¬ (c.toInt < (1 : Int)); omega) (fk_1 (cc := 4) rfl (show _ = (15 : Int) by decide) (by rw [h1]; show (15 : Int) < c.toInt; omega) (fk_n))) (fun d h1 _ => (by show [Value.int (nI 3), Value.int (nI (Nat.add 0 j1)), Value.int (d.2.1 2)] = _; rw [h1]; rfl))
      · skip
        obtain ⟨j2, hj2, rfl⟩ := pt 1 15 (by decide) hx2.1 hx2.2
        have t0 := ar_give_21
        have t0 := al_s t0 j1 hj1
        rw [mm_f_eq] at t0
        have t0 := al_s t0 j2 hj2
        rw [mm_f_eq] at t0
        rw [mm_f_eq] at t0
        exact op_of (sg := sg3 0 0 0) (tl := fun _ => 0) t0 (fun d h1 _ => fk_n) (fun d h1 _ => rfl)
theorem op_ration (a : Int32) : OP 72 114 [a] := by
  rcases (show a.toInt < 0 ∨ 15 < a.toInt ∨ (0 ≤ a.toInt ∧ a.toInt < 16) by omega) with hx0 | hx0 | hx0
  · skip
    have t0 := ar_ration_0
    exact op_of (sg := sg3 a 0 0) (tl := fun _ => 0) t0 (fun d h1 _ => fk_1 (cc := 2) rfl (show _ = (0 : Int) by decide) (by rw [h1]; show a.toInt < (0 : Int); omega) (fk_n)) (fun d h1 _ => (by show [Value.int (d.2.1 0)] = _; rw [h1]; rfl))
  · skip
    have t0 := ar_ration_1
    exact op_of (sg := sg3 a 0 0) (tl := fun _ => 0) t0 (fun d h1 _ => fk_0 (cc := 2) rfl (show _ = (0 : Int) by decide) (by rw [h1]; show ¬ (a.toInt < (0 : Int)); omega) (fk_1 (cc := 4) rfl (show _ = (15 : Int) by decide) (by rw [h1]; show (15 : Int) < a.toInt; omega) (fk_n))) (fun d h1 _ => (by show [Value.int (d.2.1 0)] = _; rw [h1]; rfl))
  · skip
    obtain ⟨j0, hj0, rfl⟩ := pt 0 16 (by decide) hx0.1 hx0.2
    have t0 := ar_ration_2
    have t0 := al_s t0 j0 hj0
    rw [mm_f_eq] at t0
    rw [mm_f_eq] at t0
    exact op_of (sg := sg3 0 0 0) (tl := fun _ => 0) t0 (fun d h1 _ => fk_n) (fun d h1 _ => rfl)
theorem op_undo : OP 74 116 [] := by
  have t0 := ar_undo_0
  exact op_of (sg := sg3 0 0 0) (tl := fun _ => 0) t0 (fun d h1 _ => fk_n) (fun d h1 _ => rfl)
theorem op_best (a b : Int32) : OP 75 117 [a, b] := by
  rcases (show a.toInt < 0 ∨ 3 < a.toInt ∨ (0 ≤ a.toInt ∧ a.toInt < 1) ∨ (1 ≤ a.toInt ∧ a.toInt < 2) ∨ (2 ≤ a.toInt ∧ a.toInt < 3) ∨ (3 ≤ a.toInt ∧ a.toInt < 4) by omega) with hx0 | hx0 | hx0 | hx0 | hx0 | hx0
  · skip
    have t0 := ar_best_0
    exact op_of (sg := sg3 a b 0) (tl := fun _ => 0) t0 (fun d h1 _ => fk_1 (cc := 2) rfl (show _ = (0 : Int) by decide) (by rw [h1]; show a.toInt < (0 : Int); omega) (fk_n)) (fun d h1 _ => (by show [Value.int (d.2.1 0), Value.int (d.2.1 1)] = _; rw [h1]; rfl))
  · skip
    have t0 := ar_best_1
    exact op_of (sg := sg3 a b 0) (tl := fun _ => 0) t0 (fun d h1 _ => fk_0 (cc := 2) rfl (show _ = (0 : Int) by decide) (by rw [h1]; show ¬ (a.toInt < (0 : Int)); omega) (fk_1 (cc := 3) rfl (show _ = (4 : Int) by decide) (by rw [h1]; show (4 : Int) ≤ a.toInt; omega) (fk_1 (cc := 4) rfl (show _ = (3 : Int) by decide) (by rw [h1]; show (3 : Int) < a.toInt; omega) (fk_n)))) (fun d h1 _ => (by show [Value.int (d.2.1 0), Value.int (d.2.1 1)] = _; rw [h1]; rfl))
  · skip
    obtain ⟨j0, hj0, rfl⟩ := pt 0 1 (by decide) hx0.1 hx0.2
    obtain rfl : j0 = 0 := by omega
    rcases (show b.toInt < 0 ∨ 1 < b.toInt ∨ (0 ≤ b.toInt ∧ b.toInt < 2) by omega) with hx1 | hx1 | hx1
    · skip
      have t0 := ar_best_2
      exact op_of (sg := sg3 0 b 0) (tl := fun _ => 0) t0 (fun d h1 _ => fk_1 (cc := 2) rfl (show _ = (0 : Int) by decide) (by rw [h1]; show b.toInt < (0 : Int); omega) (fk_n)) (fun d h1 _ => (by show [Value.int (nI 0), Value.int (d.2.1 1)] = _; rw [h1]; rfl))
    · skip
      have t0 := ar_best_3
      exact op_of (sg := sg3 0 b 0) (tl := fun _ => 0) t0 (fun d h1 _ => fk_0 (cc := 2) rfl (show _ = (0 : Int) by decide) (by rw [h1]; show ¬ (b.toInt < (0 : Int)); omega) (fk_1 (cc := 4) rfl (show _ = (1 : Int) by decide) (by rw [h1]; show (1 : Int) < b.toInt; omega) (fk_n))) (fun d h1 _ => (by show [Value.int (nI 0), Value.int (d.2.1 1)] = _; rw [h1]; rfl))
    · skip
      obtain ⟨j1, hj1, rfl⟩ := pt 0 2 (by decide) hx1.1 hx1.2
      have t0 := ar_best_4
      have t0 := al_s t0 j1 hj1
      rw [mm_f_eq] at t0
      rw [mm_f_eq] at t0
      exact op_of (sg := sg3 0 0 0) (tl := fun _ => 0) t0 (fun d h1 _ => fk_n) (fun d h1 _ => rfl)
  · skip
    obtain ⟨j0, hj0, rfl⟩ := pt 1 1 (by decide) hx0.1 hx0.2
    obtain rfl : j0 = 0 := by omega
    rcases (show b.toInt < 0 ∨ 1 < b.toInt ∨ (0 ≤ b.toInt ∧ b.toInt < 2) by omega) with hx1 | hx1 | hx1
    · skip
      have t0 := ar_best_5
      exact op_of (sg := sg3 0 b 0) (tl := fun _ => 0) t0 (fun d h1 _ => fk_1 (cc := 2) rfl (show _ = (0 : Int) by decide) (by rw [h1]; show b.toInt < (0 : Int); omega) (fk_n)) (fun d h1 _ => (by show [Value.int (nI 1), Value.int (d.2.1 1)] = _; rw [h1]; rfl))
    · skip
      have t0 := ar_best_6
      exact op_of (sg := sg3 0 b 0) (tl := fun _ => 0) t0 (fun d h1 _ => fk_0 (cc := 2) rfl (show _ = (0 : Int) by decide) (by rw [h1]; show ¬ (b.toInt < (0 : Int)); omega) (fk_1 (cc := 4) rfl (show _ = (1 : Int) by decide) (by rw [h1]; show (1 : Int) < b.toInt; omega) (fk_n))) (fun d h1 _ => (by show [Value.int (nI 1), Value.int (d.2.1 1)] = _; rw [h1]; rfl))
    · skip
      obtain ⟨j1, hj1, rfl⟩ := pt 0 2 (by decide) hx1.1 hx1.2
      have t0 := ar_best_7
      have t0 := al_s t0 j1 hj1
      rw [mm_f_eq] at t0
      rw [mm_f_eq] at t0
      exact op_of (sg := sg3 0 0 0) (tl := fun _ => 0) t0 (fun d h1 _ => fk_n) (fun d h1 _ => rfl)
  · skip
    obtain ⟨j0, hj0, rfl⟩ := pt 2 1 (by decide) hx0.1 hx0.2
    obtain rfl : j0 = 0 := by omega
    rcases (show b.toInt < 0 ∨ 1 < b.toInt ∨ (0 ≤ b.toInt ∧ b.toInt < 2) by omega) with hx1 | hx1 | hx1
    · skip
      have t0 := ar_best_8
      exact op_of (sg := sg3 0 b 0) (tl := fun _ => 0) t0 (fun d h1 _ => fk_1 (cc := 2) rfl (show _ = (0 : Int) by decide) (by rw [h1]; show b.toInt < (0 : Int); omega) (fk_n)) (fun d h1 _ => (by show [Value.int (nI 2), Value.int (d.2.1 1)] = _; rw [h1]; rfl))
    · skip
      have t0 := ar_best_9
      exact op_of (sg := sg3 0 b 0) (tl := fun _ => 0) t0 (fun d h1 _ => fk_0 (cc := 2) rfl (show _ = (0 : Int) by decide) (by rw [h1]; show ¬ (b.toInt < (0 : Int)); omega) (fk_1 (cc := 4) rfl (show _ = (1 : Int) by decide) (by rw [h1]; show (1 : Int) < b.toInt; omega) (fk_n))) (fun d h1 _ => (by show [Value.int (nI 2), Value.int (d.2.1 1)] = _; rw [h1]; rfl))
    · skip
      obtain ⟨j1, hj1, rfl⟩ := pt 0 2 (by decide) hx1.1 hx1.2
      have t0 := ar_best_10
      have t0 := al_s t0 j1 hj1
      rw [mm_f_eq] at t0
      rw [mm_f_eq] at t0
      exact op_of (sg := sg3 0 0 0) (tl := fun _ => 0) t0 (fun d h1 _ => fk_n) (fun d h1 _ => rfl)
  · skip
    obtain ⟨j0, hj0, rfl⟩ := pt 3 1 (by decide) hx0.1 hx0.2
    obtain rfl : j0 = 0 := by omega
    rcases (show b.toInt < 0 ∨ 1 < b.toInt ∨ (0 ≤ b.toInt ∧ b.toInt < 2) by omega) with hx1 | hx1 | hx1
    · skip
      have t0 := ar_best_11
      exact op_of (sg := sg3 0 b 0) (tl := fun _ => 0) t0 (fun d h1 _ => fk_1 (cc := 2) rfl (show _ = (0 : Int) by decide) (by rw [h1]; show b.toInt < (0 : Int); omega) (fk_n)) (fun d h1 _ => (by show [Value.int (nI 3), Value.int (d.2.1 1)] = _; rw [h1]; rfl))
    · skip
      have t0 := ar_best_12
      exact op_of (sg := sg3 0 b 0) (tl := fun _ => 0) t0 (fun d h1 _ => fk_0 (cc := 2) rfl (show _ = (0 : Int) by decide) (by rw [h1]; show ¬ (b.toInt < (0 : Int)); omega) (fk_1 (cc := 4) rfl (show _ = (1 : Int) by decide) (by rw [h1]; show (1 : Int) < b.toInt; omega) (fk_n))) (fun d h1 _ => (by show [Value.int (nI 3), Value.int (d.2.1 1)] = _; rw [h1]; rfl))
    · skip
      obtain ⟨j1, hj1, rfl⟩ := pt 0 2 (by decide) hx1.1 hx1.2
      have t0 := ar_best_13
      have t0 := al_s t0 j1 hj1
      rw [mm_f_eq] at t0
      rw [mm_f_eq] at t0
      exact op_of (sg := sg3 0 0 0) (tl := fun _ => 0) t0 (fun d h1 _ => fk_n) (fun d h1 _ => rfl)
theorem op_more (a : Int32) : OP 76 118 [a] := by
  rcases (show a.toInt < 0 ∨ 3 < a.toInt ∨ (0 ≤ a.toInt ∧ a.toInt < 1) ∨ (1 ≤ a.toInt ∧ a.toInt < 2) ∨ (2 ≤ a.toInt ∧ a.toInt < 3) ∨ (3 ≤ a.toInt ∧ a.toInt < 4) by omega) with hx0 | hx0 | hx0 | hx0 | hx0 | hx0
  · skip
    have t0 := ar_more_0
    exact op_of (sg := sg3 a 0 0) (tl := fun _ => 0) t0 (fun d h1 _ => fk_1 (cc := 2) rfl (show _ = (0 : Int) by decide) (by rw [h1]; show a.toInt < (0 : Int); omega) (fk_n)) (fun d h1 _ => (by show [Value.int (d.2.1 0)] = _; rw [h1]; rfl))
  · skip
    have t0 := ar_more_1
    exact op_of (sg := sg3 a 0 0) (tl := fun _ => 0) t0 (fun d h1 _ => fk_0 (cc := 2) rfl (show _ = (0 : Int) by decide) (by rw [h1]; show ¬ (a.toInt < (0 : Int)); omega) (fk_1 (cc := 3) rfl (show _ = (4 : Int) by decide) (by rw [h1]; show (4 : Int) ≤ a.toInt; omega) (fk_1 (cc := 4) rfl (show _ = (3 : Int) by decide) (by rw [h1]; show (3 : Int) < a.toInt; omega) (fk_n)))) (fun d h1 _ => (by show [Value.int (d.2.1 0)] = _; rw [h1]; rfl))
  · skip
    obtain ⟨j0, hj0, rfl⟩ := pt 0 1 (by decide) hx0.1 hx0.2
    obtain rfl : j0 = 0 := by omega
    have t0 := ar_more_2
    exact op_of (sg := sg3 0 0 0) (tl := fun _ => 0) t0 (fun d h1 _ => fk_n) (fun d h1 _ => rfl)
  · skip
    obtain ⟨j0, hj0, rfl⟩ := pt 1 1 (by decide) hx0.1 hx0.2
    obtain rfl : j0 = 0 := by omega
    have t0 := ar_more_3
    exact op_of (sg := sg3 0 0 0) (tl := fun _ => 0) t0 (fun d h1 _ => fk_n) (fun d h1 _ => rfl)
  · skip
    obtain ⟨j0, hj0, rfl⟩ := pt 2 1 (by decide) hx0.1 hx0.2
    obtain rfl : j0 = 0 := by omega
    have t0 := ar_more_4
    exact op_of (sg := sg3 0 0 0) (tl := fun _ => 0) t0 (fun d h1 _ => fk_n) (fun d h1 _ => rfl)
  · skip
    obtain ⟨j0, hj0, rfl⟩ := pt 3 1 (by decide) hx0.1 hx0.2
    obtain rfl : j0 = 0 := by omega
    have t0 := ar_more_5
    exact op_of (sg := sg3 0 0 0) (tl := fun _ => 0) t0 (fun d h1 _ => fk_n) (fun d h1 _ => rfl)
theorem op_seen (a b c : Int32) : OP 82 124 [a, b, c] := by
  rcases (show a.toInt < 0 ∨ 3 < a.toInt ∨ (0 ≤ a.toInt ∧ a.toInt < 1) ∨ (1 ≤ a.toInt ∧ a.toInt < 2) ∨ (2 ≤ a.toInt ∧ a.toInt < 3) ∨ (3 ≤ a.toInt ∧ a.toInt < 4) by omega) with hx0 | hx0 | hx0 | hx0 | hx0 | hx0
  · skip
    have t0 := ar_seen_0
    exact op_of (sg := sg3 a b c) (tl := fun _ => 0) t0 (fun d h1 _ => fk_1 (cc := 2) rfl (show _ = (0 : Int) by decide) (by rw [h1]; show a.toInt < (0 : Int); omega) (fk_n)) (fun d h1 _ => (by show [Value.int (d.2.1 0), Value.int (d.2.1 1), Value.int (d.2.1 2)] = _; rw [h1]; rfl))
  · skip
    have t0 := ar_seen_1
    exact op_of (sg := sg3 a b c) (tl := fun _ => 0) t0 (fun d h1 _ => fk_0 (cc := 2) rfl (show _ = (0 : Int) by decide) (by rw [h1]; show ¬ (a.toInt < (0 : Int)); omega) (fk_1 (cc := 3) rfl (show _ = (4 : Int) by decide) (by rw [h1]; show (4 : Int) ≤ a.toInt; omega) (fk_1 (cc := 4) rfl (show _ = (3 : Int) by decide) (by rw [h1]; show (3 : Int) < a.toInt; omega) (fk_n)))) (fun d h1 _ => (by show [Value.int (d.2.1 0), Value.int (d.2.1 1), Value.int (d.2.1 2)] = _; rw [h1]; rfl))
  · skip
    obtain ⟨j0, hj0, rfl⟩ := pt 0 1 (by decide) hx0.1 hx0.2
    obtain rfl : j0 = 0 := by omega
    rcases (show b.toInt < 0 ∨ 2 < b.toInt ∨ (0 ≤ b.toInt ∧ b.toInt < 3) by omega) with hx1 | hx1 | hx1
    · skip
      have t0 := ar_seen_2
      exact op_of (sg := sg3 0 b c) (tl := fun _ => 0) t0 (fun d h1 _ => fk_1 (cc := 2) rfl (show _ = (0 : Int) by decide) (by rw [h1]; show b.toInt < (0 : Int); omega) (fk_n)) (fun d h1 _ => (by show [Value.int (nI 0), Value.int (d.2.1 1), Value.int (d.2.1 2)] = _; rw [h1]; rfl))
    · skip
      have t0 := ar_seen_3
      exact op_of (sg := sg3 0 b c) (tl := fun _ => 0) t0 (fun d h1 _ => fk_0 (cc := 2) rfl (show _ = (0 : Int) by decide) (by rw [h1]; show ¬ (b.toInt < (0 : Int)); omega) (fk_1 (cc := 3) rfl (show _ = (3 : Int) by decide) (by rw [h1]; show (3 : Int) ≤ b.toInt; omega) (fk_1 (cc := 4) rfl (show _ = (2 : Int) by decide) (by rw [h1]; show (2 : Int) < b.toInt; omega) (fk_n)))) (fun d h1 _ => (by show [Value.int (nI 0), Value.int (d.2.1 1), Value.int (d.2.1 2)] = _; rw [h1]; rfl))
    · skip
      obtain ⟨j1, hj1, rfl⟩ := pt 0 3 (by decide) hx1.1 hx1.2
      rcases (show c.toInt < 0 ∨ 99 < c.toInt ∨ (0 ≤ c.toInt ∧ c.toInt < 100) by omega) with hx2 | hx2 | hx2
      · skip
        have t0 := ar_seen_4
        have t0 := al_s t0 j1 hj1
        rw [mm_f_eq] at t0
        rw [mm_f_eq] at t0
        exact op_of (sg := sg3 0 0 c) (tl := fun _ => 0) t0 (fun d h1 _ => fk_1 (cc := 2) rfl (show _ = (0 : Int) by decide) (by rw [h1]; show c.toInt < (0 : Int); omega) (fk_n)) (fun d h1 _ => (by show [Value.int (nI 0), Value.int (nI (Nat.add 0 j1)), Value.int (d.2.1 2)] = _; rw [h1]; rfl))
      · skip
        have t0 := ar_seen_5
        have t0 := al_s t0 j1 hj1
        rw [mm_f_eq] at t0
        rw [mm_f_eq] at t0
        exact op_of (sg := sg3 0 0 c) (tl := fun _ => 0) t0 (fun d h1 _ => fk_0 (cc := 2) rfl (show _ = (0 : Int) by decide) (by rw [h1]; show ¬ (c.toInt < (0 : Int)); omega) (fk_1 (cc := 4) rfl (show _ = (99 : Int) by decide) (by rw [h1]; show (99 : Int) < c.toInt; omega) (fk_n))) (fun d h1 _ => (by show [Value.int (nI 0), Value.int (nI (Nat.add 0 j1)), Value.int (d.2.1 2)] = _; rw [h1]; rfl))
      · skip
        obtain ⟨j2, hj2, rfl⟩ := pt 0 100 (by decide) hx2.1 hx2.2
        have t0 := ar_seen_6
        have t0 := al_s t0 j1 hj1
        rw [mm_f_eq] at t0
        have t0 := al_s t0 j2 hj2
        rw [mm_f_eq] at t0
        rw [mm_f_eq] at t0
        exact op_of (sg := sg3 0 0 0) (tl := fun _ => 0) t0 (fun d h1 _ => fk_n) (fun d h1 _ => rfl)
  · skip
    obtain ⟨j0, hj0, rfl⟩ := pt 1 1 (by decide) hx0.1 hx0.2
    obtain rfl : j0 = 0 := by omega
    rcases (show b.toInt < 0 ∨ 2 < b.toInt ∨ (0 ≤ b.toInt ∧ b.toInt < 3) by omega) with hx1 | hx1 | hx1
    · skip
      have t0 := ar_seen_7
      exact op_of (sg := sg3 0 b c) (tl := fun _ => 0) t0 (fun d h1 _ => fk_1 (cc := 2) rfl (show _ = (0 : Int) by decide) (by rw [h1]; show b.toInt < (0 : Int); omega) (fk_n)) (fun d h1 _ => (by show [Value.int (nI 1), Value.int (d.2.1 1), Value.int (d.2.1 2)] = _; rw [h1]; rfl))
    · skip
      have t0 := ar_seen_8
      exact op_of (sg := sg3 0 b c) (tl := fun _ => 0) t0 (fun d h1 _ => fk_0 (cc := 2) rfl (show _ = (0 : Int) by decide) (by rw [h1]; show ¬ (b.toInt < (0 : Int)); omega) (fk_1 (cc := 3) rfl (show _ = (3 : Int) by decide) (by rw [h1]; show (3 : Int) ≤ b.toInt; omega) (fk_1 (cc := 4) rfl (show _ = (2 : Int) by decide) (by rw [h1]; show (2 : Int) < b.toInt; omega) (fk_n)))) (fun d h1 _ => (by show [Value.int (nI 1), Value.int (d.2.1 1), Value.int (d.2.1 2)] = _; rw [h1]; rfl))
    · skip
      obtain ⟨j1, hj1, rfl⟩ := pt 0 3 (by decide) hx1.1 hx1.2
      rcases (show c.toInt < 0 ∨ 99 < c.toInt ∨ (0 ≤ c.toInt ∧ c.toInt < 100) by omega) with hx2 | hx2 | hx2
      · skip
        have t0 := ar_seen_9
        have t0 := al_s t0 j1 hj1
        rw [mm_f_eq] at t0
        rw [mm_f_eq] at t0
        exact op_of (sg := sg3 0 0 c) (tl := fun _ => 0) t0 (fun d h1 _ => fk_1 (cc := 2) rfl (show _ = (0 : Int) by decide) (by rw [h1]; show c.toInt < (0 : Int); omega) (fk_n)) (fun d h1 _ => (by show [Value.int (nI 1), Value.int (nI (Nat.add 0 j1)), Value.int (d.2.1 2)] = _; rw [h1]; rfl))
      · skip
        have t0 := ar_seen_10
        have t0 := al_s t0 j1 hj1
        rw [mm_f_eq] at t0
        rw [mm_f_eq] at t0
        exact op_of (sg := sg3 0 0 c) (tl := fun _ => 0) t0 (fun d h1 _ => fk_0 (cc := 2) rfl (show _ = (0 : Int) by decide) (by rw [h1]; show ¬ (c.toInt < (0 : Int)); omega) (fk_1 (cc := 4) rfl (show _ = (99 : Int) by decide) (by rw [h1]; show (99 : Int) < c.toInt; omega) (fk_n))) (fun d h1 _ => (by show [Value.int (nI 1), Value.int (nI (Nat.add 0 j1)), Value.int (d.2.1 2)] = _; rw [h1]; rfl))
      · skip
        obtain ⟨j2, hj2, rfl⟩ := pt 0 100 (by decide) hx2.1 hx2.2
        have t0 := ar_seen_11
        have t0 := al_s t0 j1 hj1
        rw [mm_f_eq] at t0
        have t0 := al_s t0 j2 hj2
        rw [mm_f_eq] at t0
        rw [mm_f_eq] at t0
        exact op_of (sg := sg3 0 0 0) (tl := fun _ => 0) t0 (fun d h1 _ => fk_n) (fun d h1 _ => rfl)
  · skip
    obtain ⟨j0, hj0, rfl⟩ := pt 2 1 (by decide) hx0.1 hx0.2
    obtain rfl : j0 = 0 := by omega
    rcases (show b.toInt < 0 ∨ 2 < b.toInt ∨ (0 ≤ b.toInt ∧ b.toInt < 3) by omega) with hx1 | hx1 | hx1
    · skip
      have t0 := ar_seen_12
      exact op_of (sg := sg3 0 b c) (tl := fun _ => 0) t0 (fun d h1 _ => fk_1 (cc := 2) rfl (show _ = (0 : Int) by decide) (by rw [h1]; show b.toInt < (0 : Int); omega) (fk_n)) (fun d h1 _ => (by show [Value.int (nI 2), Value.int (d.2.1 1), Value.int (d.2.1 2)] = _; rw [h1]; rfl))
    · skip
      have t0 := ar_seen_13
      exact op_of (sg := sg3 0 b c) (tl := fun _ => 0) t0 (fun d h1 _ => fk_0 (cc := 2) rfl (show _ = (0 : Int) by decide) (by rw [h1]; show ¬ (b.toInt < (0 : Int)); omega) (fk_1 (cc := 3) rfl (show _ = (3 : Int) by decide) (by rw [h1]; show (3 : Int) ≤ b.toInt; omega) (fk_1 (cc := 4) rfl (show _ = (2 : Int) by decide) (by rw [h1]; show (2 : Int) < b.toInt; omega) (fk_n)))) (fun d h1 _ => (by show [Value.int (nI 2), Value.int (d.2.1 1), Value.int (d.2.1 2)] = _; rw [h1]; rfl))
    · skip
      obtain ⟨j1, hj1, rfl⟩ := pt 0 3 (by decide) hx1.1 hx1.2
      rcases (show c.toInt < 0 ∨ 99 < c.toInt ∨ (0 ≤ c.toInt ∧ c.toInt < 100) by omega) with hx2 | hx2 | hx2
      · skip
        have t0 := ar_seen_14
        have t0 := al_s t0 j1 hj1
        rw [mm_f_eq] at t0
        rw [mm_f_eq] at t0
        exact op_of (sg := sg3 0 0 c) (tl := fun _ => 0) t0 (fun d h1 _ => fk_1 (cc := 2) rfl (show _ = (0 : Int) by decide) (by rw [h1]; show c.toInt < (0 : Int); omega) (fk_n)) (fun d h1 _ => (by show [Value.int (nI 2), Value.int (nI (Nat.add 0 j1)), Value.int (d.2.1 2)] = _; rw [h1]; rfl))
      · skip
        have t0 := ar_seen_15
        have t0 := al_s t0 j1 hj1
        rw [mm_f_eq] at t0
        rw [mm_f_eq] at t0
        exact op_of (sg := sg3 0 0 c) (tl := fun _ => 0) t0 (fun d h1 _ => fk_0 (cc := 2) rfl (show _ = (0 : Int) by decide) (by rw [h1]; show ¬ (c.toInt < (0 : Int)); omega) (fk_1 (cc := 4) rfl (show _ = (99 : Int) by decide) (by rw [h1]; show (99 : Int) < c.toInt; omega) (fk_n))) (fun d h1 _ => (by show [Value.int (nI 2), Value.int (nI (Nat.add 0 j1)), Value.int (d.2.1 2)] = _; rw [h1]; rfl))
      · skip
        obtain ⟨j2, hj2, rfl⟩ := pt 0 100 (by decide) hx2.1 hx2.2
        have t0 := ar_seen_16
        have t0 := al_s t0 j1 hj1
        rw [mm_f_eq] at t0
        have t0 := al_s t0 j2 hj2
        rw [mm_f_eq] at t0
        rw [mm_f_eq] at t0
        exact op_of (sg := sg3 0 0 0) (tl := fun _ => 0) t0 (fun d h1 _ => fk_n) (fun d h1 _ => rfl)
  · skip
    obtain ⟨j0, hj0, rfl⟩ := pt 3 1 (by decide) hx0.1 hx0.2
    obtain rfl : j0 = 0 := by omega
    rcases (show b.toInt < 0 ∨ 2 < b.toInt ∨ (0 ≤ b.toInt ∧ b.toInt < 3) by omega) with hx1 | hx1 | hx1
    · skip
      have t0 := ar_seen_17
      exact op_of (sg := sg3 0 b c) (tl := fun _ => 0) t0 (fun d h1 _ => fk_1 (cc := 2) rfl (show _ = (0 : Int) by decide) (by rw [h1]; show b.toInt < (0 : Int); omega) (fk_n)) (fun d h1 _ => (by show [Value.int (nI 3), Value.int (d.2.1 1), Value.int (d.2.1 2)] = _; rw [h1]; rfl))
    · skip
      have t0 := ar_seen_18
      exact op_of (sg := sg3 0 b c) (tl := fun _ => 0) t0 (fun d h1 _ => fk_0 (cc := 2) rfl (show _ = (0 : Int) by decide) (by rw [h1]; show ¬ (b.toInt < (0 : Int)); omega) (fk_1 (cc := 3) rfl (show _ = (3 : Int) by decide) (by rw [h1]; show (3 : Int) ≤ b.toInt; omega) (fk_1 (cc := 4) rfl (show _ = (2 : Int) by decide) (by rw [h1]; show (2 : Int) < b.toInt; omega) (fk_n)))) (fun d h1 _ => (by show [Value.int (nI 3), Value.int (d.2.1 1), Value.int (d.2.1 2)] = _; rw [h1]; rfl))
    · skip
      obtain ⟨j1, hj1, rfl⟩ := pt 0 3 (by decide) hx1.1 hx1.2
      rcases (show c.toInt < 0 ∨ 99 < c.toInt ∨ (0 ≤ c.toInt ∧ c.toInt < 100) by omega) with hx2 | hx2 | hx2
      · skip
        have t0 := ar_seen_19
        have t0 := al_s t0 j1 hj1
        rw [mm_f_eq] at t0
        rw [mm_f_eq] at t0
        exact op_of (sg := sg3 0 0 c) (tl := fun _ => 0) t0 (fun d h1 _ => fk_1 (cc := 2) rfl (show _ = (0 : Int) by decide) (by rw [h1]; show c.toInt < (0 : Int); omega) (fk_n)) (fun d h1 _ => (by show [Value.int (nI 3), Value.int (nI (Nat.add 0 j1)), Value.int (d.2.1 2)] = _; rw [h1]; rfl))
      · skip
        have t0 := ar_seen_20
        have t0 := al_s t0 j1 hj1
        rw [mm_f_eq] at t0
        rw [mm_f_eq] at t0
        exact op_of (sg := sg3 0 0 c) (tl := fun _ => 0) t0 (fun d h1 _ => fk_0 (cc := 2) rfl (show _ = (0 : Int) by decide) (by rw [h1]; show ¬ (c.toInt < (0 : Int)); omega) (fk_1 (cc := 4) rfl (show _ = (99 : Int) by decide) (by rw [h1]; show (99 : Int) < c.toInt; omega) (fk_n))) (fun d h1 _ => (by show [Value.int (nI 3), Value.int (nI (Nat.add 0 j1)), Value.int (d.2.1 2)] = _; rw [h1]; rfl))
      · skip
        obtain ⟨j2, hj2, rfl⟩ := pt 0 100 (by decide) hx2.1 hx2.2
        have t0 := ar_seen_21
        have t0 := al_s t0 j1 hj1
        rw [mm_f_eq] at t0
        have t0 := al_s t0 j2 hj2
        rw [mm_f_eq] at t0
        rw [mm_f_eq] at t0
        exact op_of (sg := sg3 0 0 0) (tl := fun _ => 0) t0 (fun d h1 _ => fk_n) (fun d h1 _ => rfl)
theorem op_forget : OP 83 125 [] := by
  have t0 := ar_forget_0
  exact op_of (sg := sg3 0 0 0) (tl := fun _ => 0) t0 (fun d h1 _ => fk_n) (fun d h1 _ => rfl)
theorem op_without : OP 84 126 [] := by
  have t0 := ar_without_0
  exact op_of (sg := sg3 0 0 0) (tl := fun _ => 0) t0 (fun d h1 _ => fk_n) (fun d h1 _ => rfl)
theorem op_letGo (a b : Int32) : OP 85 127 [a, b] := by
  rcases (show a.toInt < 0 ∨ 99 < a.toInt ∨ (0 ≤ a.toInt ∧ a.toInt < 100) by omega) with hx0 | hx0 | hx0
  · skip
    have t0 := ar_letGo_0
    exact op_of (sg := sg3 a b 0) (tl := fun _ => 0) t0 (fun d h1 _ => fk_1 (cc := 2) rfl (show _ = (0 : Int) by decide) (by rw [h1]; show a.toInt < (0 : Int); omega) (fk_n)) (fun d h1 _ => (by show [Value.int (d.2.1 0), Value.int (d.2.1 1)] = _; rw [h1]; rfl))
  · skip
    have t0 := ar_letGo_1
    exact op_of (sg := sg3 a b 0) (tl := fun _ => 0) t0 (fun d h1 _ => fk_0 (cc := 2) rfl (show _ = (0 : Int) by decide) (by rw [h1]; show ¬ (a.toInt < (0 : Int)); omega) (fk_1 (cc := 4) rfl (show _ = (99 : Int) by decide) (by rw [h1]; show (99 : Int) < a.toInt; omega) (fk_n))) (fun d h1 _ => (by show [Value.int (d.2.1 0), Value.int (d.2.1 1)] = _; rw [h1]; rfl))
  · skip
    obtain ⟨j0, hj0, rfl⟩ := pt 0 100 (by decide) hx0.1 hx0.2
    rcases (show b.toInt < 0 ∨ 1 < b.toInt ∨ (0 ≤ b.toInt ∧ b.toInt < 1) ∨ (1 ≤ b.toInt ∧ b.toInt < 2) by omega) with hx1 | hx1 | hx1 | hx1
    · skip
      have t0 := ar_letGo_2
      have t0 := al_s t0 j0 hj0
      rw [mm_f_eq] at t0
      rw [mm_f_eq] at t0
      exact op_of (sg := sg3 0 b 0) (tl := fun _ => 0) t0 (fun d h1 _ => fk_1 (cc := 2) rfl (show _ = (0 : Int) by decide) (by rw [h1]; show b.toInt < (0 : Int); omega) (fk_n)) (fun d h1 _ => (by show [Value.int (nI (Nat.add 0 j0)), Value.int (d.2.1 1)] = _; rw [h1]; rfl))
    · skip
      have t0 := ar_letGo_3
      have t0 := al_s t0 j0 hj0
      rw [mm_f_eq] at t0
      rw [mm_f_eq] at t0
      exact op_of (sg := sg3 0 b 0) (tl := fun _ => 0) t0 (fun d h1 _ => fk_0 (cc := 2) rfl (show _ = (0 : Int) by decide) (by rw [h1]; show ¬ (b.toInt < (0 : Int)); omega) (fk_1 (cc := 4) rfl (show _ = (1 : Int) by decide) (by rw [h1]; show (1 : Int) < b.toInt; omega) (fk_n))) (fun d h1 _ => (by show [Value.int (nI (Nat.add 0 j0)), Value.int (d.2.1 1)] = _; rw [h1]; rfl))
    · skip
      obtain ⟨j1, hj1, rfl⟩ := pt 0 1 (by decide) hx1.1 hx1.2
      obtain rfl : j1 = 0 := by omega
      have t0 := ar_letGo_4
      have t0 := al_s t0 j0 hj0
      rw [mm_f_eq] at t0
      rw [mm_f_eq] at t0
      exact op_of (sg := sg3 0 0 0) (tl := fun _ => 0) t0 (fun d h1 _ => fk_n) (fun d h1 _ => rfl)
    · skip
      obtain ⟨j1, hj1, rfl⟩ := pt 1 1 (by decide) hx1.1 hx1.2
      obtain rfl : j1 = 0 := by omega
      have t0 := ar_letGo_5
      have t0 := al_s t0 j0 hj0
      rw [mm_f_eq] at t0
      rw [mm_f_eq] at t0
      exact op_of (sg := sg3 0 0 0) (tl := fun _ => 0) t0 (fun d h1 _ => fk_n) (fun d h1 _ => rfl)
theorem op_net (a : Int32) : OP 87 129 [a] := by
  rcases (show a.toInt < 0 ∨ 3 < a.toInt ∨ (0 ≤ a.toInt ∧ a.toInt < 4) by omega) with hx0 | hx0 | hx0
  · skip
    have t0 := ar_net_0
    exact op_of (sg := sg3 a 0 0) (tl := fun _ => 0) t0 (fun d h1 _ => fk_1 (cc := 2) rfl (show _ = (0 : Int) by decide) (by rw [h1]; show a.toInt < (0 : Int); omega) (fk_n)) (fun d h1 _ => (by show [Value.int (d.2.1 0)] = _; rw [h1]; rfl))
  · skip
    have t0 := ar_net_1
    exact op_of (sg := sg3 a 0 0) (tl := fun _ => 0) t0 (fun d h1 _ => fk_0 (cc := 2) rfl (show _ = (0 : Int) by decide) (by rw [h1]; show ¬ (a.toInt < (0 : Int)); omega) (fk_1 (cc := 3) rfl (show _ = (4 : Int) by decide) (by rw [h1]; show (4 : Int) ≤ a.toInt; omega) (fk_1 (cc := 4) rfl (show _ = (3 : Int) by decide) (by rw [h1]; show (3 : Int) < a.toInt; omega) (fk_n)))) (fun d h1 _ => (by show [Value.int (d.2.1 0)] = _; rw [h1]; rfl))
  · skip
    obtain ⟨j0, hj0, rfl⟩ := pt 0 4 (by decide) hx0.1 hx0.2
    have t0 := ar_net_2
    have t0 := al_s t0 j0 hj0
    rw [mm_f_eq] at t0
    rw [mm_f_eq] at t0
    exact op_of (sg := sg3 0 0 0) (tl := fun _ => 0) t0 (fun d h1 _ => fk_n) (fun d h1 _ => rfl)
theorem op_heard (a : Int32) : OP 88 130 [a] := by
  rcases (show a.toInt < -1 ∨ 3 < a.toInt ∨ (-1 ≤ a.toInt ∧ a.toInt < 4) by omega) with hx0 | hx0 | hx0
  · skip
    have t0 := ar_heard_0
    exact op_of (sg := sg3 a 0 0) (tl := fun _ => 0) t0 (fun d h1 _ => fk_1 (cc := 1) rfl (show _ = (-1 : Int) by decide) (by rw [h1]; show ¬ a.toInt = (-1 : Int); omega) (fk_1 (cc := 2) rfl (show _ = (0 : Int) by decide) (by rw [h1]; show a.toInt < (0 : Int); omega) (fk_1 (cc := 2) rfl (show _ = (-1 : Int) by decide) (by rw [h1]; show a.toInt < (-1 : Int); omega) (fk_n)))) (fun d h1 _ => (by show [Value.int (d.2.1 0)] = _; rw [h1]; rfl))
  · skip
    have t0 := ar_heard_1
    exact op_of (sg := sg3 a 0 0) (tl := fun _ => 0) t0 (fun d h1 _ => fk_1 (cc := 1) rfl (show _ = (-1 : Int) by decide) (by rw [h1]; show ¬ a.toInt = (-1 : Int); omega) (fk_0 (cc := 2) rfl (show _ = (0 : Int) by decide) (by rw [h1]; show ¬ (a.toInt < (0 : Int)); omega) (fk_1 (cc := 3) rfl (show _ = (4 : Int) by decide) (by rw [h1]; show (4 : Int) ≤ a.toInt; omega) (fk_0 (cc := 2) rfl (show _ = (-1 : Int) by decide) (by rw [h1]; show ¬ (a.toInt < (-1 : Int)); omega) (fk_1 (cc := 4) rfl (show _ = (3 : Int) by decide) (by rw [h1]; show (3 : Int) < a.toInt; omega) (fk_n)))))) (fun d h1 _ => (by show [Value.int (d.2.1 0)] = _; rw [h1]; rfl))
  · skip
    obtain ⟨j0, hj0, rfl⟩ := pt1 5 (by decide) hx0.1 hx0.2
    have t0 := ar_heard_2
    have t0 := al_s t0 j0 hj0
    rw [mm_f_eq] at t0
    rw [mm_f_eq] at t0
    exact op_of (sg := sg3 0 0 0) (tl := fun _ => 0) t0 (fun d h1 _ => fk_n) (fun d h1 _ => rfl)
theorem op_keep : OP 91 132 [] := by
  have t0 := ar_keep_0
  exact op_of (sg := sg3 0 0 0) (tl := fun _ => 0) t0 (fun d h1 _ => fk_n) (fun d h1 _ => rfl)
theorem op_back : OP 92 133 [] := by
  have t0 := ar_back_0
  exact op_of (sg := sg3 0 0 0) (tl := fun _ => 0) t0 (fun d h1 _ => fk_n) (fun d h1 _ => rfl)
theorem op_count (a : Int32) : OP 93 134 [a] := by
  rcases (show a.toInt < 0 ∨ 9 < a.toInt ∨ (0 ≤ a.toInt ∧ a.toInt < 10) by omega) with hx0 | hx0 | hx0
  · skip
    have t0 := ar_count_0
    exact op_of (sg := sg3 a 0 0) (tl := fun _ => 0) t0 (fun d h1 _ => fk_1 (cc := 2) rfl (show _ = (0 : Int) by decide) (by rw [h1]; show a.toInt < (0 : Int); omega) (fk_n)) (fun d h1 _ => (by show [Value.int (d.2.1 0)] = _; rw [h1]; rfl))
  · skip
    have t0 := ar_count_1
    exact op_of (sg := sg3 a 0 0) (tl := fun _ => 0) t0 (fun d h1 _ => fk_0 (cc := 2) rfl (show _ = (0 : Int) by decide) (by rw [h1]; show ¬ (a.toInt < (0 : Int)); omega) (fk_1 (cc := 4) rfl (show _ = (9 : Int) by decide) (by rw [h1]; show (9 : Int) < a.toInt; omega) (fk_n))) (fun d h1 _ => (by show [Value.int (d.2.1 0)] = _; rw [h1]; rfl))
  · skip
    obtain ⟨j0, hj0, rfl⟩ := pt 0 10 (by decide) hx0.1 hx0.2
    have t0 := ar_count_2
    have t0 := al_s t0 j0 hj0
    rw [mm_f_eq] at t0
    rw [mm_f_eq] at t0
    exact op_of (sg := sg3 0 0 0) (tl := fun _ => 0) t0 (fun d h1 _ => fk_n) (fun d h1 _ => rfl)
