theorem yr_all {j : Nat} (hj : j < 10000) : OP 89 131 [nI j, nI 0] ∧ OP 89 131 [nI j, nI 1] := by
  rcases Nat.eq_zero_or_pos (er j 0) with e0 | e0
  · skip
    rcases Nat.eq_zero_or_pos (er j 1) with e1 | e1
    · skip
      rcases Nat.eq_zero_or_pos (er j 2) with e2 | e2
      · skip
        rcases Nat.eq_zero_or_pos (er j 3) with e3 | e3
        · skip
          rcases Nat.eq_zero_or_pos (er j 4) with e4 | e4
          · skip
            rcases Nat.eq_zero_or_pos (er j 5) with e5 | e5
            · skip
              rcases Nat.eq_zero_or_pos (er j 6) with e6 | e6
              · skip
                rcases Nat.eq_zero_or_pos (er j 7) with e7 | e7
                · skip
                  rcases Nat.eq_zero_or_pos (er j 8) with e8 | e8
                  · skip
                    have hf : ∀ d : mD, d.2.1 = sgY j → d.2.2.1 = tlY j → FOK d _ := fun d h1 h2 => yb_0 (k := 8) e8 (by rw [h1]; rfl) (by rw [h1]; rfl) (yb_0 (k := 7) e7 (by rw [h1]; rfl) (by rw [h1]; rfl) (yb_0 (k := 6) e6 (by rw [h1]; rfl) (by rw [h1]; rfl) (yb_0 (k := 5) e5 (by rw [h1]; rfl) (by rw [h1]; rfl) (yb_0 (k := 4) e4 (by rw [h1]; rfl) (by rw [h1]; rfl) (yb_0 (k := 3) e3 (by rw [h1]; rfl) (by rw [h1]; rfl) (yb_0 (k := 2) e2 (by rw [h1]; rfl) (by rw [h1]; rfl) (yb_0 (k := 1) e1 (by rw [h1]; rfl) (by rw [h1]; rfl) (yb_0 (k := 0) e0 (by rw [h1]; rfl) (by rw [h1]; rfl) (yL_k hj ⟨h1, h2⟩)))))))))
                    exact ⟨op_of (sg := sgY j) (tl := tlY j) yr_0_0 hf (fun d h1 _ => (by show [Value.int (d.2.1 0), Value.int (nI 0)] = _; rw [h1]; rfl)), op_of (sg := sgY j) (tl := tlY j) yr_0_1 hf (fun d h1 _ => (by show [Value.int (d.2.1 0), Value.int (nI 1)] = _; rw [h1]; rfl))⟩
                  · skip
                    have hf : ∀ d : mD, d.2.1 = sgY j → d.2.2.1 = tlY j → FOK d _ := fun d h1 h2 => yb_1 (k := 8) e8 (by rw [h1]; rfl) (by rw [h1]; rfl) (yb_0 (k := 7) e7 (by rw [h1]; rfl) (by rw [h1]; rfl) (yb_0 (k := 6) e6 (by rw [h1]; rfl) (by rw [h1]; rfl) (yb_0 (k := 5) e5 (by rw [h1]; rfl) (by rw [h1]; rfl) (yb_0 (k := 4) e4 (by rw [h1]; rfl) (by rw [h1]; rfl) (yb_0 (k := 3) e3 (by rw [h1]; rfl) (by rw [h1]; rfl) (yb_0 (k := 2) e2 (by rw [h1]; rfl) (by rw [h1]; rfl) (yb_0 (k := 1) e1 (by rw [h1]; rfl) (by rw [h1]; rfl) (yb_0 (k := 0) e0 (by rw [h1]; rfl) (by rw [h1]; rfl) (yL_k hj ⟨h1, h2⟩)))))))))
                    exact ⟨op_of (sg := sgY j) (tl := tlY j) yr_1_0 hf (fun d h1 _ => (by show [Value.int (d.2.1 0), Value.int (nI 0)] = _; rw [h1]; rfl)), op_of (sg := sgY j) (tl := tlY j) yr_1_1 hf (fun d h1 _ => (by show [Value.int (d.2.1 0), Value.int (nI 1)] = _; rw [h1]; rfl))⟩
                · skip
                  rcases Nat.eq_zero_or_pos (er j 8) with e8 | e8
                  · skip
                    have hf : ∀ d : mD, d.2.1 = sgY j → d.2.2.1 = tlY j → FOK d _ := fun d h1 h2 => yb_0 (k := 8) e8 (by rw [h1]; rfl) (by rw [h1]; rfl) (yb_1 (k := 7) e7 (by rw [h1]; rfl) (by rw [h1]; rfl) (yb_0 (k := 6) e6 (by rw [h1]; rfl) (by rw [h1]; rfl) (yb_0 (k := 5) e5 (by rw [h1]; rfl) (by rw [h1]; rfl) (yb_0 (k := 4) e4 (by rw [h1]; rfl) (by rw [h1]; rfl) (yb_0 (k := 3) e3 (by rw [h1]; rfl) (by rw [h1]; rfl) (yb_0 (k := 2) e2 (by rw [h1]; rfl) (by rw [h1]; rfl) (yb_0 (k := 1) e1 (by rw [h1]; rfl) (by rw [h1]; rfl) (yb_0 (k := 0) e0 (by rw [h1]; rfl) (by rw [h1]; rfl) (yL_k hj ⟨h1, h2⟩)))))))))
                    exact ⟨op_of (sg := sgY j) (tl := tlY j) yr_2_0 hf (fun d h1 _ => (by show [Value.int (d.2.1 0), Value.int (nI 0)] = _; rw [h1]; rfl)), op_of (sg := sgY j) (tl := tlY j) yr_2_1 hf (fun d h1 _ => (by show [Value.int (d.2.1 0), Value.int (nI 1)] = _; rw [h1]; rfl))⟩
                  · skip
                    have hf : ∀ d : mD, d.2.1 = sgY j → d.2.2.1 = tlY j → FOK d _ := fun d h1 h2 => yb_1 (k := 8) e8 (by rw [h1]; rfl) (by rw [h1]; rfl) (yb_1 (k := 7) e7 (by rw [h1]; rfl) (by rw [h1]; rfl) (yb_0 (k := 6) e6 (by rw [h1]; rfl) (by rw [h1]; rfl) (yb_0 (k := 5) e5 (by rw [h1]; rfl) (by rw [h1]; rfl) (yb_0 (k := 4) e4 (by rw [h1]; rfl) (by rw [h1]; rfl) (yb_0 (k := 3) e3 (by rw [h1]; rfl) (by rw [h1]; rfl) (yb_0 (k := 2) e2 (by rw [h1]; rfl) (by rw [h1]; rfl) (yb_0 (k := 1) e1 (by rw [h1]; rfl) (by rw [h1]; rfl) (yb_0 (k := 0) e0 (by rw [h1]; rfl) (by rw [h1]; rfl) (yL_k hj ⟨h1, h2⟩)))))))))
                    exact ⟨op_of (sg := sgY j) (tl := tlY j) yr_3_0 hf (fun d h1 _ => (by show [Value.int (d.2.1 0), Value.int (nI 0)] = _; rw [h1]; rfl)), op_of (sg := sgY j) (tl := tlY j) yr_3_1 hf (fun d h1 _ => (by show [Value.int (d.2.1 0), Value.int (nI 1)] = _; rw [h1]; rfl))⟩
              · skip
                rcases Nat.eq_zero_or_pos (er j 7) with e7 | e7
                · skip
                  rcases Nat.eq_zero_or_pos (er j 8) with e8 | e8
                  · skip
                    have hf : ∀ d : mD, d.2.1 = sgY j → d.2.2.1 = tlY j → FOK d _ := fun d h1 h2 => yb_0 (k := 8) e8 (by rw [h1]; rfl) (by rw [h1]; rfl) (yb_0 (k := 7) e7 (by rw [h1]; rfl) (by rw [h1]; rfl) (yb_1 (k := 6) e6 (by rw [h1]; rfl) (by rw [h1]; rfl) (yb_0 (k := 5) e5 (by rw [h1]; rfl) (by rw [h1]; rfl) (yb_0 (k := 4) e4 (by rw [h1]; rfl) (by rw [h1]; rfl) (yb_0 (k := 3) e3 (by rw [h1]; rfl) (by rw [h1]; rfl) (yb_0 (k := 2) e2 (by rw [h1]; rfl) (by rw [h1]; rfl) (yb_0 (k := 1) e1 (by rw [h1]; rfl) (by rw [h1]; rfl) (yb_0 (k := 0) e0 (by rw [h1]; rfl) (by rw [h1]; rfl) (yL_k hj ⟨h1, h2⟩)))))))))
                    exact ⟨op_of (sg := sgY j) (tl := tlY j) yr_4_0 hf (fun d h1 _ => (by show [Value.int (d.2.1 0), Value.int (nI 0)] = _; rw [h1]; rfl)), op_of (sg := sgY j) (tl := tlY j) yr_4_1 hf (fun d h1 _ => (by show [Value.int (d.2.1 0), Value.int (nI 1)] = _; rw [h1]; rfl))⟩
                  · skip
                    have hf : ∀ d : mD, d.2.1 = sgY j → d.2.2.1 = tlY j → FOK d _ := fun d h1 h2 => yb_1 (k := 8) e8 (by rw [h1]; rfl) (by rw [h1]; rfl) (yb_0 (k := 7) e7 (by rw [h1]; rfl) (by rw [h1]; rfl) (yb_1 (k := 6) e6 (by rw [h1]; rfl) (by rw [h1]; rfl) (yb_0 (k := 5) e5 (by rw [h1]; rfl) (by rw [h1]; rfl) (yb_0 (k := 4) e4 (by rw [h1]; rfl) (by rw [h1]; rfl) (yb_0 (k := 3) e3 (by rw [h1]; rfl) (by rw [h1]; rfl) (yb_0 (k := 2) e2 (by rw [h1]; rfl) (by rw [h1]; rfl) (yb_0 (k := 1) e1 (by rw [h1]; rfl) (by rw [h1]; rfl) (yb_0 (k := 0) e0 (by rw [h1]; rfl) (by rw [h1]; rfl) (yL_k hj ⟨h1, h2⟩)))))))))
                    exact ⟨op_of (sg := sgY j) (tl := tlY j) yr_5_0 hf (fun d h1 _ => (by show [Value.int (d.2.1 0), Value.int (nI 0)] = _; rw [h1]; rfl)), op_of (sg := sgY j) (tl := tlY j) yr_5_1 hf (fun d h1 _ => (by show [Value.int (d.2.1 0), Value.int (nI 1)] = _; rw [h1]; rfl))⟩
                · skip
                  rcases Nat.eq_zero_or_pos (er j 8) with e8 | e8
                  · skip
                    have hf : ∀ d : mD, d.2.1 = sgY j → d.2.2.1 = tlY j → FOK d _ := fun d h1 h2 => yb_0 (k := 8) e8 (by rw [h1]; rfl) (by rw [h1]; rfl) (yb_1 (k := 7) e7 (by rw [h1]; rfl) (by rw [h1]; rfl) (yb_1 (k := 6) e6 (by rw [h1]; rfl) (by rw [h1]; rfl) (yb_0 (k := 5) e5 (by rw [h1]; rfl) (by rw [h1]; rfl) (yb_0 (k := 4) e4 (by rw [h1]; rfl) (by rw [h1]; rfl) (yb_0 (k := 3) e3 (by rw [h1]; rfl) (by rw [h1]; rfl) (yb_0 (k := 2) e2 (by rw [h1]; rfl) (by rw [h1]; rfl) (yb_0 (k := 1) e1 (by rw [h1]; rfl) (by rw [h1]; rfl) (yb_0 (k := 0) e0 (by rw [h1]; rfl) (by rw [h1]; rfl) (yL_k hj ⟨h1, h2⟩)))))))))
                    exact ⟨op_of (sg := sgY j) (tl := tlY j) yr_6_0 hf (fun d h1 _ => (by show [Value.int (d.2.1 0), Value.int (nI 0)] = _; rw [h1]; rfl)), op_of (sg := sgY j) (tl := tlY j) yr_6_1 hf (fun d h1 _ => (by show [Value.int (d.2.1 0), Value.int (nI 1)] = _; rw [h1]; rfl))⟩
                  · skip
                    have hf : ∀ d : mD, d.2.1 = sgY j → d.2.2.1 = tlY j → FOK d _ := fun d h1 h2 => yb_1 (k := 8) e8 (by rw [h1]; rfl) (by rw [h1]; rfl) (yb_1 (k := 7) e7 (by rw [h1]; rfl) (by rw [h1]; rfl) (yb_1 (k := 6) e6 (by rw [h1]; rfl) (by rw [h1]; rfl) (yb_0 (k := 5) e5 (by rw [h1]; rfl) (by rw [h1]; rfl) (yb_0 (k := 4) e4 (by rw [h1]; rfl) (by rw [h1]; rfl) (yb_0 (k := 3) e3 (by rw [h1]; rfl) (by rw [h1]; rfl) (yb_0 (k := 2) e2 (by rw [h1]; rfl) (by rw [h1]; rfl) (yb_0 (k := 1) e1 (by rw [h1]; rfl) (by rw [h1]; rfl) (yb_0 (k := 0) e0 (by rw [h1]; rfl) (by rw [h1]; rfl) (yL_k hj ⟨h1, h2⟩)))))))))
                    exact ⟨op_of (sg := sgY j) (tl := tlY j) yr_7_0 hf (fun d h1 _ => (by show [Value.int (d.2.1 0), Value.int (nI 0)] = _; rw [h1]; rfl)), op_of (sg := sgY j) (tl := tlY j) yr_7_1 hf (fun d h1 _ => (by show [Value.int (d.2.1 0), Value.int (nI 1)] = _; rw [h1]; rfl))⟩
            · skip
              rcases Nat.eq_zero_or_pos (er j 6) with e6 | e6
              · skip
                rcases Nat.eq_zero_or_pos (er j 7) with e7 | e7
                · skip
                  rcases Nat.eq_zero_or_pos (er j 8) with e8 | e8
                  · skip
                    have hf : ∀ d : mD, d.2.1 = sgY j → d.2.2.1 = tlY j → FOK d _ := fun d h1 h2 => yb_0 (k := 8) e8 (by rw [h1]; rfl) (by rw [h1]; rfl) (yb_0 (k := 7) e7 (by rw [h1]; rfl) (by rw [h1]; rfl) (yb_0 (k := 6) e6 (by rw [h1]; rfl) (by rw [h1]; rfl) (yb_1 (k := 5) e5 (by rw [h1]; rfl) (by rw [h1]; rfl) (yb_0 (k := 4) e4 (by rw [h1]; rfl) (by rw [h1]; rfl) (yb_0 (k := 3) e3 (by rw [h1]; rfl) (by rw [h1]; rfl) (yb_0 (k := 2) e2 (by rw [h1]; rfl) (by rw [h1]; rfl) (yb_0 (k := 1) e1 (by rw [h1]; rfl) (by rw [h1]; rfl) (yb_0 (k := 0) e0 (by rw [h1]; rfl) (by rw [h1]; rfl) (yL_k hj ⟨h1, h2⟩)))))))))
                    exact ⟨op_of (sg := sgY j) (tl := tlY j) yr_8_0 hf (fun d h1 _ => (by show [Value.int (d.2.1 0), Value.int (nI 0)] = _; rw [h1]; rfl)), op_of (sg := sgY j) (tl := tlY j) yr_8_1 hf (fun d h1 _ => (by show [Value.int (d.2.1 0), Value.int (nI 1)] = _; rw [h1]; rfl))⟩
                  · skip
                    have hf : ∀ d : mD, d.2.1 = sgY j → d.2.2.1 = tlY j → FOK d _ := fun d h1 h2 => yb_1 (k := 8) e8 (by rw [h1]; rfl) (by rw [h1]; rfl) (yb_0 (k := 7) e7 (by rw [h1]; rfl) (by rw [h1]; rfl) (yb_0 (k := 6) e6 (by rw [h1]; rfl) (by rw [h1]; rfl) (yb_1 (k := 5) e5 (by rw [h1]; rfl) (by rw [h1]; rfl) (yb_0 (k := 4) e4 (by rw [h1]; rfl) (by rw [h1]; rfl) (yb_0 (k := 3) e3 (by rw [h1]; rfl) (by rw [h1]; rfl) (yb_0 (k := 2) e2 (by rw [h1]; rfl) (by rw [h1]; rfl) (yb_0 (k := 1) e1 (by rw [h1]; rfl) (by rw [h1]; rfl) (yb_0 (k := 0) e0 (by rw [h1]; rfl) (by rw [h1]; rfl) (yL_k hj ⟨h1, h2⟩)))))))))
                    exact ⟨op_of (sg := sgY j) (tl := tlY j) yr_9_0 hf (fun d h1 _ => (by show [Value.int (d.2.1 0), Value.int (nI 0)] = _; rw [h1]; rfl)), op_of (sg := sgY j) (tl := tlY j) yr_9_1 hf (fun d h1 _ => (by show [Value.int (d.2.1 0), Value.int (nI 1)] = _; rw [h1]; rfl))⟩
                · skip
                  rcases Nat.eq_zero_or_pos (er j 8) with e8 | e8
                  · skip
                    have hf : ∀ d : mD, d.2.1 = sgY j → d.2.2.1 = tlY j → FOK d _ := fun d h1 h2 => yb_0 (k := 8) e8 (by rw [h1]; rfl) (by rw [h1]; rfl) (yb_1 (k := 7) e7 (by rw [h1]; rfl) (by rw [h1]; rfl) (yb_0 (k := 6) e6 (by rw [h1]; rfl) (by rw [h1]; rfl) (yb_1 (k := 5) e5 (by rw [h1]; rfl) (by rw [h1]; rfl) (yb_0 (k := 4) e4 (by rw [h1]; rfl) (by rw [h1]; rfl) (yb_0 (k := 3) e3 (by rw [h1]; rfl) (by rw [h1]; rfl) (yb_0 (k := 2) e2 (by rw [h1]; rfl) (by rw [h1]; rfl) (yb_0 (k := 1) e1 (by rw [h1]; rfl) (by rw [h1]; rfl) (yb_0 (k := 0) e0 (by rw [h1]; rfl) (by rw [h1]; rfl) (yL_k hj ⟨h1, h2⟩)))))))))
                    exact ⟨op_of (sg := sgY j) (tl := tlY j) yr_10_0 hf (fun d h1 _ => (by show [Value.int (d.2.1 0), Value.int (nI 0)] = _; rw [h1]; rfl)), op_of (sg := sgY j) (tl := tlY j) yr_10_1 hf (fun d h1 _ => (by show [Value.int (d.2.1 0), Value.int (nI 1)] = _; rw [h1]; rfl))⟩
                  · skip
                    have hf : ∀ d : mD, d.2.1 = sgY j → d.2.2.1 = tlY j → FOK d _ := fun d h1 h2 => yb_1 (k := 8) e8 (by rw [h1]; rfl) (by rw [h1]; rfl) (yb_1 (k := 7) e7 (by rw [h1]; rfl) (by rw [h1]; rfl) (yb_0 (k := 6) e6 (by rw [h1]; rfl) (by rw [h1]; rfl) (yb_1 (k := 5) e5 (by rw [h1]; rfl) (by rw [h1]; rfl) (yb_0 (k := 4) e4 (by rw [h1]; rfl) (by rw [h1]; rfl) (yb_0 (k := 3) e3 (by rw [h1]; rfl) (by rw [h1]; rfl) (yb_0 (k := 2) e2 (by rw [h1]; rfl) (by rw [h1]; rfl) (yb_0 (k := 1) e1 (by rw [h1]; rfl) (by rw [h1]; rfl) (yb_0 (k := 0) e0 (by rw [h1]; rfl) (by rw [h1]; rfl) (yL_k hj ⟨h1, h2⟩)))))))))
                    exact ⟨op_of (sg := sgY j) (tl := tlY j) yr_11_0 hf (fun d h1 _ => (by show [Value.int (d.2.1 0), Value.int (nI 0)] = _; rw [h1]; rfl)), op_of (sg := sgY j) (tl := tlY j) yr_11_1 hf (fun d h1 _ => (by show [Value.int (d.2.1 0), Value.int (nI 1)] = _; rw [h1]; rfl))⟩
              · skip
                rcases Nat.eq_zero_or_pos (er j 7) with e7 | e7
                · skip
                  rcases Nat.eq_zero_or_pos (er j 8) with e8 | e8
                  · skip
                    have hf : ∀ d : mD, d.2.1 = sgY j → d.2.2.1 = tlY j → FOK d _ := fun d h1 h2 => yb_0 (k := 8) e8 (by rw [h1]; rfl) (by rw [h1]; rfl) (yb_0 (k := 7) e7 (by rw [h1]; rfl) (by rw [h1]; rfl) (yb_1 (k := 6) e6 (by rw [h1]; rfl) (by rw [h1]; rfl) (yb_1 (k := 5) e5 (by rw [h1]; rfl) (by rw [h1]; rfl) (yb_0 (k := 4) e4 (by rw [h1]; rfl) (by rw [h1]; rfl) (yb_0 (k := 3) e3 (by rw [h1]; rfl) (by rw [h1]; rfl) (yb_0 (k := 2) e2 (by rw [h1]; rfl) (by rw [h1]; rfl) (yb_0 (k := 1) e1 (by rw [h1]; rfl) (by rw [h1]; rfl) (yb_0 (k := 0) e0 (by rw [h1]; rfl) (by rw [h1]; rfl) (yL_k hj ⟨h1, h2⟩)))))))))
                    exact ⟨op_of (sg := sgY j) (tl := tlY j) yr_12_0 hf (fun d h1 _ => (by show [Value.int (d.2.1 0), Value.int (nI 0)] = _; rw [h1]; rfl)), op_of (sg := sgY j) (tl := tlY j) yr_12_1 hf (fun d h1 _ => (by show [Value.int (d.2.1 0), Value.int (nI 1)] = _; rw [h1]; rfl))⟩
                  · skip
                    have hf : ∀ d : mD, d.2.1 = sgY j → d.2.2.1 = tlY j → FOK d _ := fun d h1 h2 => yb_1 (k := 8) e8 (by rw [h1]; rfl) (by rw [h1]; rfl) (yb_0 (k := 7) e7 (by rw [h1]; rfl) (by rw [h1]; rfl) (yb_1 (k := 6) e6 (by rw [h1]; rfl) (by rw [h1]; rfl) (yb_1 (k := 5) e5 (by rw [h1]; rfl) (by rw [h1]; rfl) (yb_0 (k := 4) e4 (by rw [h1]; rfl) (by rw [h1]; rfl) (yb_0 (k := 3) e3 (by rw [h1]; rfl) (by rw [h1]; rfl) (yb_0 (k := 2) e2 (by rw [h1]; rfl) (by rw [h1]; rfl) (yb_0 (k := 1) e1 (by rw [h1]; rfl) (by rw [h1]; rfl) (yb_0 (k := 0) e0 (by rw [h1]; rfl) (by rw [h1]; rfl) (yL_k hj ⟨h1, h2⟩)))))))))
                    exact ⟨op_of (sg := sgY j) (tl := tlY j) yr_13_0 hf (fun d h1 _ => (by show [Value.int (d.2.1 0), Value.int (nI 0)] = _; rw [h1]; rfl)), op_of (sg := sgY j) (tl := tlY j) yr_13_1 hf (fun d h1 _ => (by show [Value.int (d.2.1 0), Value.int (nI 1)] = _; rw [h1]; rfl))⟩
                · skip
                  rcases Nat.eq_zero_or_pos (er j 8) with e8 | e8
                  · skip
                    have hf : ∀ d : mD, d.2.1 = sgY j → d.2.2.1 = tlY j → FOK d _ := fun d h1 h2 => yb_0 (k := 8) e8 (by rw [h1]; rfl) (by rw [h1]; rfl) (yb_1 (k := 7) e7 (by rw [h1]; rfl) (by rw [h1]; rfl) (yb_1 (k := 6) e6 (by rw [h1]; rfl) (by rw [h1]; rfl) (yb_1 (k := 5) e5 (by rw [h1]; rfl) (by rw [h1]; rfl) (yb_0 (k := 4) e4 (by rw [h1]; rfl) (by rw [h1]; rfl) (yb_0 (k := 3) e3 (by rw [h1]; rfl) (by rw [h1]; rfl) (yb_0 (k := 2) e2 (by rw [h1]; rfl) (by rw [h1]; rfl) (yb_0 (k := 1) e1 (by rw [h1]; rfl) (by rw [h1]; rfl) (yb_0 (k := 0) e0 (by rw [h1]; rfl) (by rw [h1]; rfl) (yL_k hj ⟨h1, h2⟩)))))))))
                    exact ⟨op_of (sg := sgY j) (tl := tlY j) yr_14_0 hf (fun d h1 _ => (by show [Value.int (d.2.1 0), Value.int (nI 0)] = _; rw [h1]; rfl)), op_of (sg := sgY j) (tl := tlY j) yr_14_1 hf (fun d h1 _ => (by show [Value.int (d.2.1 0), Value.int (nI 1)] = _; rw [h1]; rfl))⟩
                  · skip
                    have hf : ∀ d : mD, d.2.1 = sgY j → d.2.2.1 = tlY j → FOK d _ := fun d h1 h2 => yb_1 (k := 8) e8 (by rw [h1]; rfl) (by rw [h1]; rfl) (yb_1 (k := 7) e7 (by rw [h1]; rfl) (by rw [h1]; rfl) (yb_1 (k := 6) e6 (by rw [h1]; rfl) (by rw [h1]; rfl) (yb_1 (k := 5) e5 (by rw [h1]; rfl) (by rw [h1]; rfl) (yb_0 (k := 4) e4 (by rw [h1]; rfl) (by rw [h1]; rfl) (yb_0 (k := 3) e3 (by rw [h1]; rfl) (by rw [h1]; rfl) (yb_0 (k := 2) e2 (by rw [h1]; rfl) (by rw [h1]; rfl) (yb_0 (k := 1) e1 (by rw [h1]; rfl) (by rw [h1]; rfl) (yb_0 (k := 0) e0 (by rw [h1]; rfl) (by rw [h1]; rfl) (yL_k hj ⟨h1, h2⟩)))))))))
                    exact ⟨op_of (sg := sgY j) (tl := tlY j) yr_15_0 hf (fun d h1 _ => (by show [Value.int (d.2.1 0), Value.int (nI 0)] = _; rw [h1]; rfl)), op_of (sg := sgY j) (tl := tlY j) yr_15_1 hf (fun d h1 _ => (by show [Value.int (d.2.1 0), Value.int (nI 1)] = _; rw [h1]; rfl))⟩
          · skip
            rcases Nat.eq_zero_or_pos (er j 5) with e5 | e5
            · skip
              rcases Nat.eq_zero_or_pos (er j 6) with e6 | e6
              · skip
                rcases Nat.eq_zero_or_pos (er j 8) with e8 | e8
                · skip
                  have hf : ∀ d : mD, d.2.1 = sgY j → d.2.2.1 = tlY j → FOK d _ := fun d h1 h2 => yb_0 (k := 8) e8 (by rw [h1]; rfl) (by rw [h1]; rfl) (yb_0 (k := 6) e6 (by rw [h1]; rfl) (by rw [h1]; rfl) (yb_0 (k := 5) e5 (by rw [h1]; rfl) (by rw [h1]; rfl) (yb_1 (k := 4) e4 (by rw [h1]; rfl) (by rw [h1]; rfl) (yb_0 (k := 3) e3 (by rw [h1]; rfl) (by rw [h1]; rfl) (yb_0 (k := 2) e2 (by rw [h1]; rfl) (by rw [h1]; rfl) (yb_0 (k := 1) e1 (by rw [h1]; rfl) (by rw [h1]; rfl) (yb_0 (k := 0) e0 (by rw [h1]; rfl) (by rw [h1]; rfl) (yL_k hj ⟨h1, h2⟩))))))))
                  exact ⟨op_of (sg := sgY j) (tl := tlY j) yr_16_0 hf (fun d h1 _ => (by show [Value.int (d.2.1 0), Value.int (nI 0)] = _; rw [h1]; rfl)), op_of (sg := sgY j) (tl := tlY j) yr_16_1 hf (fun d h1 _ => (by show [Value.int (d.2.1 0), Value.int (nI 1)] = _; rw [h1]; rfl))⟩
                · skip
                  have hf : ∀ d : mD, d.2.1 = sgY j → d.2.2.1 = tlY j → FOK d _ := fun d h1 h2 => yb_1 (k := 8) e8 (by rw [h1]; rfl) (by rw [h1]; rfl) (yb_0 (k := 6) e6 (by rw [h1]; rfl) (by rw [h1]; rfl) (yb_0 (k := 5) e5 (by rw [h1]; rfl) (by rw [h1]; rfl) (yb_1 (k := 4) e4 (by rw [h1]; rfl) (by rw [h1]; rfl) (yb_0 (k := 3) e3 (by rw [h1]; rfl) (by rw [h1]; rfl) (yb_0 (k := 2) e2 (by rw [h1]; rfl) (by rw [h1]; rfl) (yb_0 (k := 1) e1 (by rw [h1]; rfl) (by rw [h1]; rfl) (yb_0 (k := 0) e0 (by rw [h1]; rfl) (by rw [h1]; rfl) (yL_k hj ⟨h1, h2⟩))))))))
                  exact ⟨op_of (sg := sgY j) (tl := tlY j) yr_17_0 hf (fun d h1 _ => (by show [Value.int (d.2.1 0), Value.int (nI 0)] = _; rw [h1]; rfl)), op_of (sg := sgY j) (tl := tlY j) yr_17_1 hf (fun d h1 _ => (by show [Value.int (d.2.1 0), Value.int (nI 1)] = _; rw [h1]; rfl))⟩
              · skip
                rcases Nat.eq_zero_or_pos (er j 8) with e8 | e8
                · skip
                  have hf : ∀ d : mD, d.2.1 = sgY j → d.2.2.1 = tlY j → FOK d _ := fun d h1 h2 => yb_0 (k := 8) e8 (by rw [h1]; rfl) (by rw [h1]; rfl) (yb_1 (k := 6) e6 (by rw [h1]; rfl) (by rw [h1]; rfl) (yb_0 (k := 5) e5 (by rw [h1]; rfl) (by rw [h1]; rfl) (yb_1 (k := 4) e4 (by rw [h1]; rfl) (by rw [h1]; rfl) (yb_0 (k := 3) e3 (by rw [h1]; rfl) (by rw [h1]; rfl) (yb_0 (k := 2) e2 (by rw [h1]; rfl) (by rw [h1]; rfl) (yb_0 (k := 1) e1 (by rw [h1]; rfl) (by rw [h1]; rfl) (yb_0 (k := 0) e0 (by rw [h1]; rfl) (by rw [h1]; rfl) (yL_k hj ⟨h1, h2⟩))))))))
                  exact ⟨op_of (sg := sgY j) (tl := tlY j) yr_18_0 hf (fun d h1 _ => (by show [Value.int (d.2.1 0), Value.int (nI 0)] = _; rw [h1]; rfl)), op_of (sg := sgY j) (tl := tlY j) yr_18_1 hf (fun d h1 _ => (by show [Value.int (d.2.1 0), Value.int (nI 1)] = _; rw [h1]; rfl))⟩
                · skip
                  have hf : ∀ d : mD, d.2.1 = sgY j → d.2.2.1 = tlY j → FOK d _ := fun d h1 h2 => yb_1 (k := 8) e8 (by rw [h1]; rfl) (by rw [h1]; rfl) (yb_1 (k := 6) e6 (by rw [h1]; rfl) (by rw [h1]; rfl) (yb_0 (k := 5) e5 (by rw [h1]; rfl) (by rw [h1]; rfl) (yb_1 (k := 4) e4 (by rw [h1]; rfl) (by rw [h1]; rfl) (yb_0 (k := 3) e3 (by rw [h1]; rfl) (by rw [h1]; rfl) (yb_0 (k := 2) e2 (by rw [h1]; rfl) (by rw [h1]; rfl) (yb_0 (k := 1) e1 (by rw [h1]; rfl) (by rw [h1]; rfl) (yb_0 (k := 0) e0 (by rw [h1]; rfl) (by rw [h1]; rfl) (yL_k hj ⟨h1, h2⟩))))))))
                  exact ⟨op_of (sg := sgY j) (tl := tlY j) yr_19_0 hf (fun d h1 _ => (by show [Value.int (d.2.1 0), Value.int (nI 0)] = _; rw [h1]; rfl)), op_of (sg := sgY j) (tl := tlY j) yr_19_1 hf (fun d h1 _ => (by show [Value.int (d.2.1 0), Value.int (nI 1)] = _; rw [h1]; rfl))⟩
            · skip
              rcases Nat.eq_zero_or_pos (er j 6) with e6 | e6
              · skip
                rcases Nat.eq_zero_or_pos (er j 8) with e8 | e8
                · skip
                  have hf : ∀ d : mD, d.2.1 = sgY j → d.2.2.1 = tlY j → FOK d _ := fun d h1 h2 => yb_0 (k := 8) e8 (by rw [h1]; rfl) (by rw [h1]; rfl) (yb_0 (k := 6) e6 (by rw [h1]; rfl) (by rw [h1]; rfl) (yb_1 (k := 5) e5 (by rw [h1]; rfl) (by rw [h1]; rfl) (yb_1 (k := 4) e4 (by rw [h1]; rfl) (by rw [h1]; rfl) (yb_0 (k := 3) e3 (by rw [h1]; rfl) (by rw [h1]; rfl) (yb_0 (k := 2) e2 (by rw [h1]; rfl) (by rw [h1]; rfl) (yb_0 (k := 1) e1 (by rw [h1]; rfl) (by rw [h1]; rfl) (yb_0 (k := 0) e0 (by rw [h1]; rfl) (by rw [h1]; rfl) (yL_k hj ⟨h1, h2⟩))))))))
                  exact ⟨op_of (sg := sgY j) (tl := tlY j) yr_20_0 hf (fun d h1 _ => (by show [Value.int (d.2.1 0), Value.int (nI 0)] = _; rw [h1]; rfl)), op_of (sg := sgY j) (tl := tlY j) yr_20_1 hf (fun d h1 _ => (by show [Value.int (d.2.1 0), Value.int (nI 1)] = _; rw [h1]; rfl))⟩
                · skip
                  have hf : ∀ d : mD, d.2.1 = sgY j → d.2.2.1 = tlY j → FOK d _ := fun d h1 h2 => yb_1 (k := 8) e8 (by rw [h1]; rfl) (by rw [h1]; rfl) (yb_0 (k := 6) e6 (by rw [h1]; rfl) (by rw [h1]; rfl) (yb_1 (k := 5) e5 (by rw [h1]; rfl) (by rw [h1]; rfl) (yb_1 (k := 4) e4 (by rw [h1]; rfl) (by rw [h1]; rfl) (yb_0 (k := 3) e3 (by rw [h1]; rfl) (by rw [h1]; rfl) (yb_0 (k := 2) e2 (by rw [h1]; rfl) (by rw [h1]; rfl) (yb_0 (k := 1) e1 (by rw [h1]; rfl) (by rw [h1]; rfl) (yb_0 (k := 0) e0 (by rw [h1]; rfl) (by rw [h1]; rfl) (yL_k hj ⟨h1, h2⟩))))))))
                  exact ⟨op_of (sg := sgY j) (tl := tlY j) yr_21_0 hf (fun d h1 _ => (by show [Value.int (d.2.1 0), Value.int (nI 0)] = _; rw [h1]; rfl)), op_of (sg := sgY j) (tl := tlY j) yr_21_1 hf (fun d h1 _ => (by show [Value.int (d.2.1 0), Value.int (nI 1)] = _; rw [h1]; rfl))⟩
              · skip
                rcases Nat.eq_zero_or_pos (er j 8) with e8 | e8
                · skip
                  have hf : ∀ d : mD, d.2.1 = sgY j → d.2.2.1 = tlY j → FOK d _ := fun d h1 h2 => yb_0 (k := 8) e8 (by rw [h1]; rfl) (by rw [h1]; rfl) (yb_1 (k := 6) e6 (by rw [h1]; rfl) (by rw [h1]; rfl) (yb_1 (k := 5) e5 (by rw [h1]; rfl) (by rw [h1]; rfl) (yb_1 (k := 4) e4 (by rw [h1]; rfl) (by rw [h1]; rfl) (yb_0 (k := 3) e3 (by rw [h1]; rfl) (by rw [h1]; rfl) (yb_0 (k := 2) e2 (by rw [h1]; rfl) (by rw [h1]; rfl) (yb_0 (k := 1) e1 (by rw [h1]; rfl) (by rw [h1]; rfl) (yb_0 (k := 0) e0 (by rw [h1]; rfl) (by rw [h1]; rfl) (yL_k hj ⟨h1, h2⟩))))))))
                  exact ⟨op_of (sg := sgY j) (tl := tlY j) yr_22_0 hf (fun d h1 _ => (by show [Value.int (d.2.1 0), Value.int (nI 0)] = _; rw [h1]; rfl)), op_of (sg := sgY j) (tl := tlY j) yr_22_1 hf (fun d h1 _ => (by show [Value.int (d.2.1 0), Value.int (nI 1)] = _; rw [h1]; rfl))⟩
                · skip
                  have hf : ∀ d : mD, d.2.1 = sgY j → d.2.2.1 = tlY j → FOK d _ := fun d h1 h2 => yb_1 (k := 8) e8 (by rw [h1]; rfl) (by rw [h1]; rfl) (yb_1 (k := 6) e6 (by rw [h1]; rfl) (by rw [h1]; rfl) (yb_1 (k := 5) e5 (by rw [h1]; rfl) (by rw [h1]; rfl) (yb_1 (k := 4) e4 (by rw [h1]; rfl) (by rw [h1]; rfl) (yb_0 (k := 3) e3 (by rw [h1]; rfl) (by rw [h1]; rfl) (yb_0 (k := 2) e2 (by rw [h1]; rfl) (by rw [h1]; rfl) (yb_0 (k := 1) e1 (by rw [h1]; rfl) (by rw [h1]; rfl) (yb_0 (k := 0) e0 (by rw [h1]; rfl) (by rw [h1]; rfl) (yL_k hj ⟨h1, h2⟩))))))))
                  exact ⟨op_of (sg := sgY j) (tl := tlY j) yr_23_0 hf (fun d h1 _ => (by show [Value.int (d.2.1 0), Value.int (nI 0)] = _; rw [h1]; rfl)), op_of (sg := sgY j) (tl := tlY j) yr_23_1 hf (fun d h1 _ => (by show [Value.int (d.2.1 0), Value.int (nI 1)] = _; rw [h1]; rfl))⟩
        · skip
          rcases Nat.eq_zero_or_pos (er j 4) with e4 | e4
          · skip
            rcases Nat.eq_zero_or_pos (er j 5) with e5 | e5
            · skip
              rcases Nat.eq_zero_or_pos (er j 6) with e6 | e6
              · skip
                rcases Nat.eq_zero_or_pos (er j 7) with e7 | e7
                · skip
                  rcases Nat.eq_zero_or_pos (er j 8) with e8 | e8
                  · skip
                    have hf : ∀ d : mD, d.2.1 = sgY j → d.2.2.1 = tlY j → FOK d _ := fun d h1 h2 => yb_0 (k := 8) e8 (by rw [h1]; rfl) (by rw [h1]; rfl) (yb_0 (k := 7) e7 (by rw [h1]; rfl) (by rw [h1]; rfl) (yb_0 (k := 6) e6 (by rw [h1]; rfl) (by rw [h1]; rfl) (yb_0 (k := 5) e5 (by rw [h1]; rfl) (by rw [h1]; rfl) (yb_0 (k := 4) e4 (by rw [h1]; rfl) (by rw [h1]; rfl) (yb_1 (k := 3) e3 (by rw [h1]; rfl) (by rw [h1]; rfl) (yb_0 (k := 2) e2 (by rw [h1]; rfl) (by rw [h1]; rfl) (yb_0 (k := 1) e1 (by rw [h1]; rfl) (by rw [h1]; rfl) (yb_0 (k := 0) e0 (by rw [h1]; rfl) (by rw [h1]; rfl) (yL_k hj ⟨h1, h2⟩)))))))))
                    exact ⟨op_of (sg := sgY j) (tl := tlY j) yr_24_0 hf (fun d h1 _ => (by show [Value.int (d.2.1 0), Value.int (nI 0)] = _; rw [h1]; rfl)), op_of (sg := sgY j) (tl := tlY j) yr_24_1 hf (fun d h1 _ => (by show [Value.int (d.2.1 0), Value.int (nI 1)] = _; rw [h1]; rfl))⟩
                  · skip
                    have hf : ∀ d : mD, d.2.1 = sgY j → d.2.2.1 = tlY j → FOK d _ := fun d h1 h2 => yb_1 (k := 8) e8 (by rw [h1]; rfl) (by rw [h1]; rfl) (yb_0 (k := 7) e7 (by rw [h1]; rfl) (by rw [h1]; rfl) (yb_0 (k := 6) e6 (by rw [h1]; rfl) (by rw [h1]; rfl) (yb_0 (k := 5) e5 (by rw [h1]; rfl) (by rw [h1]; rfl) (yb_0 (k := 4) e4 (by rw [h1]; rfl) (by rw [h1]; rfl) (yb_1 (k := 3) e3 (by rw [h1]; rfl) (by rw [h1]; rfl) (yb_0 (k := 2) e2 (by rw [h1]; rfl) (by rw [h1]; rfl) (yb_0 (k := 1) e1 (by rw [h1]; rfl) (by rw [h1]; rfl) (yb_0 (k := 0) e0 (by rw [h1]; rfl) (by rw [h1]; rfl) (yL_k hj ⟨h1, h2⟩)))))))))
                    exact ⟨op_of (sg := sgY j) (tl := tlY j) yr_25_0 hf (fun d h1 _ => (by show [Value.int (d.2.1 0), Value.int (nI 0)] = _; rw [h1]; rfl)), op_of (sg := sgY j) (tl := tlY j) yr_25_1 hf (fun d h1 _ => (by show [Value.int (d.2.1 0), Value.int (nI 1)] = _; rw [h1]; rfl))⟩
                · skip
                  rcases Nat.eq_zero_or_pos (er j 8) with e8 | e8
                  · skip
                    have hf : ∀ d : mD, d.2.1 = sgY j → d.2.2.1 = tlY j → FOK d _ := fun d h1 h2 => yb_0 (k := 8) e8 (by rw [h1]; rfl) (by rw [h1]; rfl) (yb_1 (k := 7) e7 (by rw [h1]; rfl) (by rw [h1]; rfl) (yb_0 (k := 6) e6 (by rw [h1]; rfl) (by rw [h1]; rfl) (yb_0 (k := 5) e5 (by rw [h1]; rfl) (by rw [h1]; rfl) (yb_0 (k := 4) e4 (by rw [h1]; rfl) (by rw [h1]; rfl) (yb_1 (k := 3) e3 (by rw [h1]; rfl) (by rw [h1]; rfl) (yb_0 (k := 2) e2 (by rw [h1]; rfl) (by rw [h1]; rfl) (yb_0 (k := 1) e1 (by rw [h1]; rfl) (by rw [h1]; rfl) (yb_0 (k := 0) e0 (by rw [h1]; rfl) (by rw [h1]; rfl) (yL_k hj ⟨h1, h2⟩)))))))))
                    exact ⟨op_of (sg := sgY j) (tl := tlY j) yr_26_0 hf (fun d h1 _ => (by show [Value.int (d.2.1 0), Value.int (nI 0)] = _; rw [h1]; rfl)), op_of (sg := sgY j) (tl := tlY j) yr_26_1 hf (fun d h1 _ => (by show [Value.int (d.2.1 0), Value.int (nI 1)] = _; rw [h1]; rfl))⟩
                  · skip
                    have hf : ∀ d : mD, d.2.1 = sgY j → d.2.2.1 = tlY j → FOK d _ := fun d h1 h2 => yb_1 (k := 8) e8 (by rw [h1]; rfl) (by rw [h1]; rfl) (yb_1 (k := 7) e7 (by rw [h1]; rfl) (by rw [h1]; rfl) (yb_0 (k := 6) e6 (by rw [h1]; rfl) (by rw [h1]; rfl) (yb_0 (k := 5) e5 (by rw [h1]; rfl) (by rw [h1]; rfl) (yb_0 (k := 4) e4 (by rw [h1]; rfl) (by rw [h1]; rfl) (yb_1 (k := 3) e3 (by rw [h1]; rfl) (by rw [h1]; rfl) (yb_0 (k := 2) e2 (by rw [h1]; rfl) (by rw [h1]; rfl) (yb_0 (k := 1) e1 (by rw [h1]; rfl) (by rw [h1]; rfl) (yb_0 (k := 0) e0 (by rw [h1]; rfl) (by rw [h1]; rfl) (yL_k hj ⟨h1, h2⟩)))))))))
                    exact ⟨op_of (sg := sgY j) (tl := tlY j) yr_27_0 hf (fun d h1 _ => (by show [Value.int (d.2.1 0), Value.int (nI 0)] = _; rw [h1]; rfl)), op_of (sg := sgY j) (tl := tlY j) yr_27_1 hf (fun d h1 _ => (by show [Value.int (d.2.1 0), Value.int (nI 1)] = _; rw [h1]; rfl))⟩
              · skip
                rcases Nat.eq_zero_or_pos (er j 7) with e7 | e7
                · skip
                  rcases Nat.eq_zero_or_pos (er j 8) with e8 | e8
                  · skip
                    have hf : ∀ d : mD, d.2.1 = sgY j → d.2.2.1 = tlY j → FOK d _ := fun d h1 h2 => yb_0 (k := 8) e8 (by rw [h1]; rfl) (by rw [h1]; rfl) (yb_0 (k := 7) e7 (by rw [h1]; rfl) (by rw [h1]; rfl) (yb_1 (k := 6) e6 (by rw [h1]; rfl) (by rw [h1]; rfl) (yb_0 (k := 5) e5 (by rw [h1]; rfl) (by rw [h1]; rfl) (yb_0 (k := 4) e4 (by rw [h1]; rfl) (by rw [h1]; rfl) (yb_1 (k := 3) e3 (by rw [h1]; rfl) (by rw [h1]; rfl) (yb_0 (k := 2) e2 (by rw [h1]; rfl) (by rw [h1]; rfl) (yb_0 (k := 1) e1 (by rw [h1]; rfl) (by rw [h1]; rfl) (yb_0 (k := 0) e0 (by rw [h1]; rfl) (by rw [h1]; rfl) (yL_k hj ⟨h1, h2⟩)))))))))
                    exact ⟨op_of (sg := sgY j) (tl := tlY j) yr_28_0 hf (fun d h1 _ => (by show [Value.int (d.2.1 0), Value.int (nI 0)] = _; rw [h1]; rfl)), op_of (sg := sgY j) (tl := tlY j) yr_28_1 hf (fun d h1 _ => (by show [Value.int (d.2.1 0), Value.int (nI 1)] = _; rw [h1]; rfl))⟩
                  · skip
                    have hf : ∀ d : mD, d.2.1 = sgY j → d.2.2.1 = tlY j → FOK d _ := fun d h1 h2 => yb_1 (k := 8) e8 (by rw [h1]; rfl) (by rw [h1]; rfl) (yb_0 (k := 7) e7 (by rw [h1]; rfl) (by rw [h1]; rfl) (yb_1 (k := 6) e6 (by rw [h1]; rfl) (by rw [h1]; rfl) (yb_0 (k := 5) e5 (by rw [h1]; rfl) (by rw [h1]; rfl) (yb_0 (k := 4) e4 (by rw [h1]; rfl) (by rw [h1]; rfl) (yb_1 (k := 3) e3 (by rw [h1]; rfl) (by rw [h1]; rfl) (yb_0 (k := 2) e2 (by rw [h1]; rfl) (by rw [h1]; rfl) (yb_0 (k := 1) e1 (by rw [h1]; rfl) (by rw [h1]; rfl) (yb_0 (k := 0) e0 (by rw [h1]; rfl) (by rw [h1]; rfl) (yL_k hj ⟨h1, h2⟩)))))))))
                    exact ⟨op_of (sg := sgY j) (tl := tlY j) yr_29_0 hf (fun d h1 _ => (by show [Value.int (d.2.1 0), Value.int (nI 0)] = _; rw [h1]; rfl)), op_of (sg := sgY j) (tl := tlY j) yr_29_1 hf (fun d h1 _ => (by show [Value.int (d.2.1 0), Value.int (nI 1)] = _; rw [h1]; rfl))⟩
                · skip
                  rcases Nat.eq_zero_or_pos (er j 8) with e8 | e8
                  · skip
                    have hf : ∀ d : mD, d.2.1 = sgY j → d.2.2.1 = tlY j → FOK d _ := fun d h1 h2 => yb_0 (k := 8) e8 (by rw [h1]; rfl) (by rw [h1]; rfl) (yb_1 (k := 7) e7 (by rw [h1]; rfl) (by rw [h1]; rfl) (yb_1 (k := 6) e6 (by rw [h1]; rfl) (by rw [h1]; rfl) (yb_0 (k := 5) e5 (by rw [h1]; rfl) (by rw [h1]; rfl) (yb_0 (k := 4) e4 (by rw [h1]; rfl) (by rw [h1]; rfl) (yb_1 (k := 3) e3 (by rw [h1]; rfl) (by rw [h1]; rfl) (yb_0 (k := 2) e2 (by rw [h1]; rfl) (by rw [h1]; rfl) (yb_0 (k := 1) e1 (by rw [h1]; rfl) (by rw [h1]; rfl) (yb_0 (k := 0) e0 (by rw [h1]; rfl) (by rw [h1]; rfl) (yL_k hj ⟨h1, h2⟩)))))))))
                    exact ⟨op_of (sg := sgY j) (tl := tlY j) yr_30_0 hf (fun d h1 _ => (by show [Value.int (d.2.1 0), Value.int (nI 0)] = _; rw [h1]; rfl)), op_of (sg := sgY j) (tl := tlY j) yr_30_1 hf (fun d h1 _ => (by show [Value.int (d.2.1 0), Value.int (nI 1)] = _; rw [h1]; rfl))⟩
                  · skip
                    have hf : ∀ d : mD, d.2.1 = sgY j → d.2.2.1 = tlY j → FOK d _ := fun d h1 h2 => yb_1 (k := 8) e8 (by rw [h1]; rfl) (by rw [h1]; rfl) (yb_1 (k := 7) e7 (by rw [h1]; rfl) (by rw [h1]; rfl) (yb_1 (k := 6) e6 (by rw [h1]; rfl) (by rw [h1]; rfl) (yb_0 (k := 5) e5 (by rw [h1]; rfl) (by rw [h1]; rfl) (yb_0 (k := 4) e4 (by rw [h1]; rfl) (by rw [h1]; rfl) (yb_1 (k := 3) e3 (by rw [h1]; rfl) (by rw [h1]; rfl) (yb_0 (k := 2) e2 (by rw [h1]; rfl) (by rw [h1]; rfl) (yb_0 (k := 1) e1 (by rw [h1]; rfl) (by rw [h1]; rfl) (yb_0 (k := 0) e0 (by rw [h1]; rfl) (by rw [h1]; rfl) (yL_k hj ⟨h1, h2⟩)))))))))
                    exact ⟨op_of (sg := sgY j) (tl := tlY j) yr_31_0 hf (fun d h1 _ => (by show [Value.int (d.2.1 0), Value.int (nI 0)] = _; rw [h1]; rfl)), op_of (sg := sgY j) (tl := tlY j) yr_31_1 hf (fun d h1 _ => (by show [Value.int (d.2.1 0), Value.int (nI 1)] = _; rw [h1]; rfl))⟩
            · skip
              rcases Nat.eq_zero_or_pos (er j 6) with e6 | e6
              · skip
                rcases Nat.eq_zero_or_pos (er j 7) with e7 | e7
                · skip
                  rcases Nat.eq_zero_or_pos (er j 8) with e8 | e8
                  · skip
                    have hf : ∀ d : mD, d.2.1 = sgY j → d.2.2.1 = tlY j → FOK d _ := fun d h1 h2 => yb_0 (k := 8) e8 (by rw [h1]; rfl) (by rw [h1]; rfl) (yb_0 (k := 7) e7 (by rw [h1]; rfl) (by rw [h1]; rfl) (yb_0 (k := 6) e6 (by rw [h1]; rfl) (by rw [h1]; rfl) (yb_1 (k := 5) e5 (by rw [h1]; rfl) (by rw [h1]; rfl) (yb_0 (k := 4) e4 (by rw [h1]; rfl) (by rw [h1]; rfl) (yb_1 (k := 3) e3 (by rw [h1]; rfl) (by rw [h1]; rfl) (yb_0 (k := 2) e2 (by rw [h1]; rfl) (by rw [h1]; rfl) (yb_0 (k := 1) e1 (by rw [h1]; rfl) (by rw [h1]; rfl) (yb_0 (k := 0) e0 (by rw [h1]; rfl) (by rw [h1]; rfl) (yL_k hj ⟨h1, h2⟩)))))))))
                    exact ⟨op_of (sg := sgY j) (tl := tlY j) yr_32_0 hf (fun d h1 _ => (by show [Value.int (d.2.1 0), Value.int (nI 0)] = _; rw [h1]; rfl)), op_of (sg := sgY j) (tl := tlY j) yr_32_1 hf (fun d h1 _ => (by show [Value.int (d.2.1 0), Value.int (nI 1)] = _; rw [h1]; rfl))⟩
                  · skip
                    have hf : ∀ d : mD, d.2.1 = sgY j → d.2.2.1 = tlY j → FOK d _ := fun d h1 h2 => yb_1 (k := 8) e8 (by rw [h1]; rfl) (by rw [h1]; rfl) (yb_0 (k := 7) e7 (by rw [h1]; rfl) (by rw [h1]; rfl) (yb_0 (k := 6) e6 (by rw [h1]; rfl) (by rw [h1]; rfl) (yb_1 (k := 5) e5 (by rw [h1]; rfl) (by rw [h1]; rfl) (yb_0 (k := 4) e4 (by rw [h1]; rfl) (by rw [h1]; rfl) (yb_1 (k := 3) e3 (by rw [h1]; rfl) (by rw [h1]; rfl) (yb_0 (k := 2) e2 (by rw [h1]; rfl) (by rw [h1]; rfl) (yb_0 (k := 1) e1 (by rw [h1]; rfl) (by rw [h1]; rfl) (yb_0 (k := 0) e0 (by rw [h1]; rfl) (by rw [h1]; rfl) (yL_k hj ⟨h1, h2⟩)))))))))
                    exact ⟨op_of (sg := sgY j) (tl := tlY j) yr_33_0 hf (fun d h1 _ => (by show [Value.int (d.2.1 0), Value.int (nI 0)] = _; rw [h1]; rfl)), op_of (sg := sgY j) (tl := tlY j) yr_33_1 hf (fun d h1 _ => (by show [Value.int (d.2.1 0), Value.int (nI 1)] = _; rw [h1]; rfl))⟩
                · skip
                  rcases Nat.eq_zero_or_pos (er j 8) with e8 | e8
                  · skip
                    have hf : ∀ d : mD, d.2.1 = sgY j → d.2.2.1 = tlY j → FOK d _ := fun d h1 h2 => yb_0 (k := 8) e8 (by rw [h1]; rfl) (by rw [h1]; rfl) (yb_1 (k := 7) e7 (by rw [h1]; rfl) (by rw [h1]; rfl) (yb_0 (k := 6) e6 (by rw [h1]; rfl) (by rw [h1]; rfl) (yb_1 (k := 5) e5 (by rw [h1]; rfl) (by rw [h1]; rfl) (yb_0 (k := 4) e4 (by rw [h1]; rfl) (by rw [h1]; rfl) (yb_1 (k := 3) e3 (by rw [h1]; rfl) (by rw [h1]; rfl) (yb_0 (k := 2) e2 (by rw [h1]; rfl) (by rw [h1]; rfl) (yb_0 (k := 1) e1 (by rw [h1]; rfl) (by rw [h1]; rfl) (yb_0 (k := 0) e0 (by rw [h1]; rfl) (by rw [h1]; rfl) (yL_k hj ⟨h1, h2⟩)))))))))
                    exact ⟨op_of (sg := sgY j) (tl := tlY j) yr_34_0 hf (fun d h1 _ => (by show [Value.int (d.2.1 0), Value.int (nI 0)] = _; rw [h1]; rfl)), op_of (sg := sgY j) (tl := tlY j) yr_34_1 hf (fun d h1 _ => (by show [Value.int (d.2.1 0), Value.int (nI 1)] = _; rw [h1]; rfl))⟩
                  · skip
                    have hf : ∀ d : mD, d.2.1 = sgY j → d.2.2.1 = tlY j → FOK d _ := fun d h1 h2 => yb_1 (k := 8) e8 (by rw [h1]; rfl) (by rw [h1]; rfl) (yb_1 (k := 7) e7 (by rw [h1]; rfl) (by rw [h1]; rfl) (yb_0 (k := 6) e6 (by rw [h1]; rfl) (by rw [h1]; rfl) (yb_1 (k := 5) e5 (by rw [h1]; rfl) (by rw [h1]; rfl) (yb_0 (k := 4) e4 (by rw [h1]; rfl) (by rw [h1]; rfl) (yb_1 (k := 3) e3 (by rw [h1]; rfl) (by rw [h1]; rfl) (yb_0 (k := 2) e2 (by rw [h1]; rfl) (by rw [h1]; rfl) (yb_0 (k := 1) e1 (by rw [h1]; rfl) (by rw [h1]; rfl) (yb_0 (k := 0) e0 (by rw [h1]; rfl) (by rw [h1]; rfl) (yL_k hj ⟨h1, h2⟩)))))))))
                    exact ⟨op_of (sg := sgY j) (tl := tlY j) yr_35_0 hf (fun d h1 _ => (by show [Value.int (d.2.1 0), Value.int (nI 0)] = _; rw [h1]; rfl)), op_of (sg := sgY j) (tl := tlY j) yr_35_1 hf (fun d h1 _ => (by show [Value.int (d.2.1 0), Value.int (nI 1)] = _; rw [h1]; rfl))⟩
              · skip
                rcases Nat.eq_zero_or_pos (er j 7) with e7 | e7
                · skip
                  rcases Nat.eq_zero_or_pos (er j 8) with e8 | e8
                  · skip
                    have hf : ∀ d : mD, d.2.1 = sgY j → d.2.2.1 = tlY j → FOK d _ := fun d h1 h2 => yb_0 (k := 8) e8 (by rw [h1]; rfl) (by rw [h1]; rfl) (yb_0 (k := 7) e7 (by rw [h1]; rfl) (by rw [h1]; rfl) (yb_1 (k := 6) e6 (by rw [h1]; rfl) (by rw [h1]; rfl) (yb_1 (k := 5) e5 (by rw [h1]; rfl) (by rw [h1]; rfl) (yb_0 (k := 4) e4 (by rw [h1]; rfl) (by rw [h1]; rfl) (yb_1 (k := 3) e3 (by rw [h1]; rfl) (by rw [h1]; rfl) (yb_0 (k := 2) e2 (by rw [h1]; rfl) (by rw [h1]; rfl) (yb_0 (k := 1) e1 (by rw [h1]; rfl) (by rw [h1]; rfl) (yb_0 (k := 0) e0 (by rw [h1]; rfl) (by rw [h1]; rfl) (yL_k hj ⟨h1, h2⟩)))))))))
                    exact ⟨op_of (sg := sgY j) (tl := tlY j) yr_36_0 hf (fun d h1 _ => (by show [Value.int (d.2.1 0), Value.int (nI 0)] = _; rw [h1]; rfl)), op_of (sg := sgY j) (tl := tlY j) yr_36_1 hf (fun d h1 _ => (by show [Value.int (d.2.1 0), Value.int (nI 1)] = _; rw [h1]; rfl))⟩
                  · skip
                    have hf : ∀ d : mD, d.2.1 = sgY j → d.2.2.1 = tlY j → FOK d _ := fun d h1 h2 => yb_1 (k := 8) e8 (by rw [h1]; rfl) (by rw [h1]; rfl) (yb_0 (k := 7) e7 (by rw [h1]; rfl) (by rw [h1]; rfl) (yb_1 (k := 6) e6 (by rw [h1]; rfl) (by rw [h1]; rfl) (yb_1 (k := 5) e5 (by rw [h1]; rfl) (by rw [h1]; rfl) (yb_0 (k := 4) e4 (by rw [h1]; rfl) (by rw [h1]; rfl) (yb_1 (k := 3) e3 (by rw [h1]; rfl) (by rw [h1]; rfl) (yb_0 (k := 2) e2 (by rw [h1]; rfl) (by rw [h1]; rfl) (yb_0 (k := 1) e1 (by rw [h1]; rfl) (by rw [h1]; rfl) (yb_0 (k := 0) e0 (by rw [h1]; rfl) (by rw [h1]; rfl) (yL_k hj ⟨h1, h2⟩)))))))))
                    exact ⟨op_of (sg := sgY j) (tl := tlY j) yr_37_0 hf (fun d h1 _ => (by show [Value.int (d.2.1 0), Value.int (nI 0)] = _; rw [h1]; rfl)), op_of (sg := sgY j) (tl := tlY j) yr_37_1 hf (fun d h1 _ => (by show [Value.int (d.2.1 0), Value.int (nI 1)] = _; rw [h1]; rfl))⟩
                · skip
                  rcases Nat.eq_zero_or_pos (er j 8) with e8 | e8
                  · skip
                    have hf : ∀ d : mD, d.2.1 = sgY j → d.2.2.1 = tlY j → FOK d _ := fun d h1 h2 => yb_0 (k := 8) e8 (by rw [h1]; rfl) (by rw [h1]; rfl) (yb_1 (k := 7) e7 (by rw [h1]; rfl) (by rw [h1]; rfl) (yb_1 (k := 6) e6 (by rw [h1]; rfl) (by rw [h1]; rfl) (yb_1 (k := 5) e5 (by rw [h1]; rfl) (by rw [h1]; rfl) (yb_0 (k := 4) e4 (by rw [h1]; rfl) (by rw [h1]; rfl) (yb_1 (k := 3) e3 (by rw [h1]; rfl) (by rw [h1]; rfl) (yb_0 (k := 2) e2 (by rw [h1]; rfl) (by rw [h1]; rfl) (yb_0 (k := 1) e1 (by rw [h1]; rfl) (by rw [h1]; rfl) (yb_0 (k := 0) e0 (by rw [h1]; rfl) (by rw [h1]; rfl) (yL_k hj ⟨h1, h2⟩)))))))))
                    exact ⟨op_of (sg := sgY j) (tl := tlY j) yr_38_0 hf (fun d h1 _ => (by show [Value.int (d.2.1 0), Value.int (nI 0)] = _; rw [h1]; rfl)), op_of (sg := sgY j) (tl := tlY j) yr_38_1 hf (fun d h1 _ => (by show [Value.int (d.2.1 0), Value.int (nI 1)] = _; rw [h1]; rfl))⟩
                  · skip
                    have hf : ∀ d : mD, d.2.1 = sgY j → d.2.2.1 = tlY j → FOK d _ := fun d h1 h2 => yb_1 (k := 8) e8 (by rw [h1]; rfl) (by rw [h1]; rfl) (yb_1 (k := 7) e7 (by rw [h1]; rfl) (by rw [h1]; rfl) (yb_1 (k := 6) e6 (by rw [h1]; rfl) (by rw [h1]; rfl) (yb_1 (k := 5) e5 (by rw [h1]; rfl) (by rw [h1]; rfl) (yb_0 (k := 4) e4 (by rw [h1]; rfl) (by rw [h1]; rfl) (yb_1 (k := 3) e3 (by rw [h1]; rfl) (by rw [h1]; rfl) (yb_0 (k := 2) e2 (by rw [h1]; rfl) (by rw [h1]; rfl) (yb_0 (k := 1) e1 (by rw [h1]; rfl) (by rw [h1]; rfl) (yb_0 (k := 0) e0 (by rw [h1]; rfl) (by rw [h1]; rfl) (yL_k hj ⟨h1, h2⟩)))))))))
                    exact ⟨op_of (sg := sgY j) (tl := tlY j) yr_39_0 hf (fun d h1 _ => (by show [Value.int (d.2.1 0), Value.int (nI 0)] = _; rw [h1]; rfl)), op_of (sg := sgY j) (tl := tlY j) yr_39_1 hf (fun d h1 _ => (by show [Value.int (d.2.1 0), Value.int (nI 1)] = _; rw [h1]; rfl))⟩
          · skip
            rcases Nat.eq_zero_or_pos (er j 5) with e5 | e5
            · skip
              rcases Nat.eq_zero_or_pos (er j 6) with e6 | e6
              · skip
                rcases Nat.eq_zero_or_pos (er j 8) with e8 | e8
                · skip
                  have hf : ∀ d : mD, d.2.1 = sgY j → d.2.2.1 = tlY j → FOK d _ := fun d h1 h2 => yb_0 (k := 8) e8 (by rw [h1]; rfl) (by rw [h1]; rfl) (yb_0 (k := 6) e6 (by rw [h1]; rfl) (by rw [h1]; rfl) (yb_0 (k := 5) e5 (by rw [h1]; rfl) (by rw [h1]; rfl) (yb_1 (k := 4) e4 (by rw [h1]; rfl) (by rw [h1]; rfl) (yb_1 (k := 3) e3 (by rw [h1]; rfl) (by rw [h1]; rfl) (yb_0 (k := 2) e2 (by rw [h1]; rfl) (by rw [h1]; rfl) (yb_0 (k := 1) e1 (by rw [h1]; rfl) (by rw [h1]; rfl) (yb_0 (k := 0) e0 (by rw [h1]; rfl) (by rw [h1]; rfl) (yL_k hj ⟨h1, h2⟩))))))))
                  exact ⟨op_of (sg := sgY j) (tl := tlY j) yr_40_0 hf (fun d h1 _ => (by show [Value.int (d.2.1 0), Value.int (nI 0)] = _; rw [h1]; rfl)), op_of (sg := sgY j) (tl := tlY j) yr_40_1 hf (fun d h1 _ => (by show [Value.int (d.2.1 0), Value.int (nI 1)] = _; rw [h1]; rfl))⟩
                · skip
                  have hf : ∀ d : mD, d.2.1 = sgY j → d.2.2.1 = tlY j → FOK d _ := fun d h1 h2 => yb_1 (k := 8) e8 (by rw [h1]; rfl) (by rw [h1]; rfl) (yb_0 (k := 6) e6 (by rw [h1]; rfl) (by rw [h1]; rfl) (yb_0 (k := 5) e5 (by rw [h1]; rfl) (by rw [h1]; rfl) (yb_1 (k := 4) e4 (by rw [h1]; rfl) (by rw [h1]; rfl) (yb_1 (k := 3) e3 (by rw [h1]; rfl) (by rw [h1]; rfl) (yb_0 (k := 2) e2 (by rw [h1]; rfl) (by rw [h1]; rfl) (yb_0 (k := 1) e1 (by rw [h1]; rfl) (by rw [h1]; rfl) (yb_0 (k := 0) e0 (by rw [h1]; rfl) (by rw [h1]; rfl) (yL_k hj ⟨h1, h2⟩))))))))
                  exact ⟨op_of (sg := sgY j) (tl := tlY j) yr_41_0 hf (fun d h1 _ => (by show [Value.int (d.2.1 0), Value.int (nI 0)] = _; rw [h1]; rfl)), op_of (sg := sgY j) (tl := tlY j) yr_41_1 hf (fun d h1 _ => (by show [Value.int (d.2.1 0), Value.int (nI 1)] = _; rw [h1]; rfl))⟩
              · skip
                rcases Nat.eq_zero_or_pos (er j 8) with e8 | e8
                · skip
                  have hf : ∀ d : mD, d.2.1 = sgY j → d.2.2.1 = tlY j → FOK d _ := fun d h1 h2 => yb_0 (k := 8) e8 (by rw [h1]; rfl) (by rw [h1]; rfl) (yb_1 (k := 6) e6 (by rw [h1]; rfl) (by rw [h1]; rfl) (yb_0 (k := 5) e5 (by rw [h1]; rfl) (by rw [h1]; rfl) (yb_1 (k := 4) e4 (by rw [h1]; rfl) (by rw [h1]; rfl) (yb_1 (k := 3) e3 (by rw [h1]; rfl) (by rw [h1]; rfl) (yb_0 (k := 2) e2 (by rw [h1]; rfl) (by rw [h1]; rfl) (yb_0 (k := 1) e1 (by rw [h1]; rfl) (by rw [h1]; rfl) (yb_0 (k := 0) e0 (by rw [h1]; rfl) (by rw [h1]; rfl) (yL_k hj ⟨h1, h2⟩))))))))
                  exact ⟨op_of (sg := sgY j) (tl := tlY j) yr_42_0 hf (fun d h1 _ => (by show [Value.int (d.2.1 0), Value.int (nI 0)] = _; rw [h1]; rfl)), op_of (sg := sgY j) (tl := tlY j) yr_42_1 hf (fun d h1 _ => (by show [Value.int (d.2.1 0), Value.int (nI 1)] = _; rw [h1]; rfl))⟩
                · skip
                  have hf : ∀ d : mD, d.2.1 = sgY j → d.2.2.1 = tlY j → FOK d _ := fun d h1 h2 => yb_1 (k := 8) e8 (by rw [h1]; rfl) (by rw [h1]; rfl) (yb_1 (k := 6) e6 (by rw [h1]; rfl) (by rw [h1]; rfl) (yb_0 (k := 5) e5 (by rw [h1]; rfl) (by rw [h1]; rfl) (yb_1 (k := 4) e4 (by rw [h1]; rfl) (by rw [h1]; rfl) (yb_1 (k := 3) e3 (by rw [h1]; rfl) (by rw [h1]; rfl) (yb_0 (k := 2) e2 (by rw [h1]; rfl) (by rw [h1]; rfl) (yb_0 (k := 1) e1 (by rw [h1]; rfl) (by rw [h1]; rfl) (yb_0 (k := 0) e0 (by rw [h1]; rfl) (by rw [h1]; rfl) (yL_k hj ⟨h1, h2⟩))))))))
                  exact ⟨op_of (sg := sgY j) (tl := tlY j) yr_43_0 hf (fun d h1 _ => (by show [Value.int (d.2.1 0), Value.int (nI 0)] = _; rw [h1]; rfl)), op_of (sg := sgY j) (tl := tlY j) yr_43_1 hf (fun d h1 _ => (by show [Value.int (d.2.1 0), Value.int (nI 1)] = _; rw [h1]; rfl))⟩
            · skip
              rcases Nat.eq_zero_or_pos (er j 6) with e6 | e6
              · skip
                rcases Nat.eq_zero_or_pos (er j 8) with e8 | e8
                · skip
                  have hf : ∀ d : mD, d.2.1 = sgY j → d.2.2.1 = tlY j → FOK d _ := fun d h1 h2 => yb_0 (k := 8) e8 (by rw [h1]; rfl) (by rw [h1]; rfl) (yb_0 (k := 6) e6 (by rw [h1]; rfl) (by rw [h1]; rfl) (yb_1 (k := 5) e5 (by rw [h1]; rfl) (by rw [h1]; rfl) (yb_1 (k := 4) e4 (by rw [h1]; rfl) (by rw [h1]; rfl) (yb_1 (k := 3) e3 (by rw [h1]; rfl) (by rw [h1]; rfl) (yb_0 (k := 2) e2 (by rw [h1]; rfl) (by rw [h1]; rfl) (yb_0 (k := 1) e1 (by rw [h1]; rfl) (by rw [h1]; rfl) (yb_0 (k := 0) e0 (by rw [h1]; rfl) (by rw [h1]; rfl) (yL_k hj ⟨h1, h2⟩))))))))
                  exact ⟨op_of (sg := sgY j) (tl := tlY j) yr_44_0 hf (fun d h1 _ => (by show [Value.int (d.2.1 0), Value.int (nI 0)] = _; rw [h1]; rfl)), op_of (sg := sgY j) (tl := tlY j) yr_44_1 hf (fun d h1 _ => (by show [Value.int (d.2.1 0), Value.int (nI 1)] = _; rw [h1]; rfl))⟩
                · skip
                  have hf : ∀ d : mD, d.2.1 = sgY j → d.2.2.1 = tlY j → FOK d _ := fun d h1 h2 => yb_1 (k := 8) e8 (by rw [h1]; rfl) (by rw [h1]; rfl) (yb_0 (k := 6) e6 (by rw [h1]; rfl) (by rw [h1]; rfl) (yb_1 (k := 5) e5 (by rw [h1]; rfl) (by rw [h1]; rfl) (yb_1 (k := 4) e4 (by rw [h1]; rfl) (by rw [h1]; rfl) (yb_1 (k := 3) e3 (by rw [h1]; rfl) (by rw [h1]; rfl) (yb_0 (k := 2) e2 (by rw [h1]; rfl) (by rw [h1]; rfl) (yb_0 (k := 1) e1 (by rw [h1]; rfl) (by rw [h1]; rfl) (yb_0 (k := 0) e0 (by rw [h1]; rfl) (by rw [h1]; rfl) (yL_k hj ⟨h1, h2⟩))))))))
                  exact ⟨op_of (sg := sgY j) (tl := tlY j) yr_45_0 hf (fun d h1 _ => (by show [Value.int (d.2.1 0), Value.int (nI 0)] = _; rw [h1]; rfl)), op_of (sg := sgY j) (tl := tlY j) yr_45_1 hf (fun d h1 _ => (by show [Value.int (d.2.1 0), Value.int (nI 1)] = _; rw [h1]; rfl))⟩
              · skip
                rcases Nat.eq_zero_or_pos (er j 8) with e8 | e8
                · skip
                  have hf : ∀ d : mD, d.2.1 = sgY j → d.2.2.1 = tlY j → FOK d _ := fun d h1 h2 => yb_0 (k := 8) e8 (by rw [h1]; rfl) (by rw [h1]; rfl) (yb_1 (k := 6) e6 (by rw [h1]; rfl) (by rw [h1]; rfl) (yb_1 (k := 5) e5 (by rw [h1]; rfl) (by rw [h1]; rfl) (yb_1 (k := 4) e4 (by rw [h1]; rfl) (by rw [h1]; rfl) (yb_1 (k := 3) e3 (by rw [h1]; rfl) (by rw [h1]; rfl) (yb_0 (k := 2) e2 (by rw [h1]; rfl) (by rw [h1]; rfl) (yb_0 (k := 1) e1 (by rw [h1]; rfl) (by rw [h1]; rfl) (yb_0 (k := 0) e0 (by rw [h1]; rfl) (by rw [h1]; rfl) (yL_k hj ⟨h1, h2⟩))))))))
                  exact ⟨op_of (sg := sgY j) (tl := tlY j) yr_46_0 hf (fun d h1 _ => (by show [Value.int (d.2.1 0), Value.int (nI 0)] = _; rw [h1]; rfl)), op_of (sg := sgY j) (tl := tlY j) yr_46_1 hf (fun d h1 _ => (by show [Value.int (d.2.1 0), Value.int (nI 1)] = _; rw [h1]; rfl))⟩
                · skip
                  have hf : ∀ d : mD, d.2.1 = sgY j → d.2.2.1 = tlY j → FOK d _ := fun d h1 h2 => yb_1 (k := 8) e8 (by rw [h1]; rfl) (by rw [h1]; rfl) (yb_1 (k := 6) e6 (by rw [h1]; rfl) (by rw [h1]; rfl) (yb_1 (k := 5) e5 (by rw [h1]; rfl) (by rw [h1]; rfl) (yb_1 (k := 4) e4 (by rw [h1]; rfl) (by rw [h1]; rfl) (yb_1 (k := 3) e3 (by rw [h1]; rfl) (by rw [h1]; rfl) (yb_0 (k := 2) e2 (by rw [h1]; rfl) (by rw [h1]; rfl) (yb_0 (k := 1) e1 (by rw [h1]; rfl) (by rw [h1]; rfl) (yb_0 (k := 0) e0 (by rw [h1]; rfl) (by rw [h1]; rfl) (yL_k hj ⟨h1, h2⟩))))))))
                  exact ⟨op_of (sg := sgY j) (tl := tlY j) yr_47_0 hf (fun d h1 _ => (by show [Value.int (d.2.1 0), Value.int (nI 0)] = _; rw [h1]; rfl)), op_of (sg := sgY j) (tl := tlY j) yr_47_1 hf (fun d h1 _ => (by show [Value.int (d.2.1 0), Value.int (nI 1)] = _; rw [h1]; rfl))⟩
      · skip
        rcases Nat.eq_zero_or_pos (er j 3) with e3 | e3
        · skip
          rcases Nat.eq_zero_or_pos (er j 4) with e4 | e4
          · skip
            rcases Nat.eq_zero_or_pos (er j 5) with e5 | e5
            · skip
              rcases Nat.eq_zero_or_pos (er j 7) with e7 | e7
              · skip
                rcases Nat.eq_zero_or_pos (er j 8) with e8 | e8
                · skip
                  have hf : ∀ d : mD, d.2.1 = sgY j → d.2.2.1 = tlY j → FOK d _ := fun d h1 h2 => yb_0 (k := 8) e8 (by rw [h1]; rfl) (by rw [h1]; rfl) (yb_0 (k := 7) e7 (by rw [h1]; rfl) (by rw [h1]; rfl) (yb_0 (k := 5) e5 (by rw [h1]; rfl) (by rw [h1]; rfl) (yb_0 (k := 4) e4 (by rw [h1]; rfl) (by rw [h1]; rfl) (yb_0 (k := 3) e3 (by rw [h1]; rfl) (by rw [h1]; rfl) (yb_1 (k := 2) e2 (by rw [h1]; rfl) (by rw [h1]; rfl) (yb_0 (k := 1) e1 (by rw [h1]; rfl) (by rw [h1]; rfl) (yb_0 (k := 0) e0 (by rw [h1]; rfl) (by rw [h1]; rfl) (yL_k hj ⟨h1, h2⟩))))))))
                  exact ⟨op_of (sg := sgY j) (tl := tlY j) yr_48_0 hf (fun d h1 _ => (by show [Value.int (d.2.1 0), Value.int (nI 0)] = _; rw [h1]; rfl)), op_of (sg := sgY j) (tl := tlY j) yr_48_1 hf (fun d h1 _ => (by show [Value.int (d.2.1 0), Value.int (nI 1)] = _; rw [h1]; rfl))⟩
                · skip
                  have hf : ∀ d : mD, d.2.1 = sgY j → d.2.2.1 = tlY j → FOK d _ := fun d h1 h2 => yb_1 (k := 8) e8 (by rw [h1]; rfl) (by rw [h1]; rfl) (yb_0 (k := 7) e7 (by rw [h1]; rfl) (by rw [h1]; rfl) (yb_0 (k := 5) e5 (by rw [h1]; rfl) (by rw [h1]; rfl) (yb_0 (k := 4) e4 (by rw [h1]; rfl) (by rw [h1]; rfl) (yb_0 (k := 3) e3 (by rw [h1]; rfl) (by rw [h1]; rfl) (yb_1 (k := 2) e2 (by rw [h1]; rfl) (by rw [h1]; rfl) (yb_0 (k := 1) e1 (by rw [h1]; rfl) (by rw [h1]; rfl) (yb_0 (k := 0) e0 (by rw [h1]; rfl) (by rw [h1]; rfl) (yL_k hj ⟨h1, h2⟩))))))))
                  exact ⟨op_of (sg := sgY j) (tl := tlY j) yr_49_0 hf (fun d h1 _ => (by show [Value.int (d.2.1 0), Value.int (nI 0)] = _; rw [h1]; rfl)), op_of (sg := sgY j) (tl := tlY j) yr_49_1 hf (fun d h1 _ => (by show [Value.int (d.2.1 0), Value.int (nI 1)] = _; rw [h1]; rfl))⟩
              · skip
                rcases Nat.eq_zero_or_pos (er j 8) with e8 | e8
                · skip
                  have hf : ∀ d : mD, d.2.1 = sgY j → d.2.2.1 = tlY j → FOK d _ := fun d h1 h2 => yb_0 (k := 8) e8 (by rw [h1]; rfl) (by rw [h1]; rfl) (yb_1 (k := 7) e7 (by rw [h1]; rfl) (by rw [h1]; rfl) (yb_0 (k := 5) e5 (by rw [h1]; rfl) (by rw [h1]; rfl) (yb_0 (k := 4) e4 (by rw [h1]; rfl) (by rw [h1]; rfl) (yb_0 (k := 3) e3 (by rw [h1]; rfl) (by rw [h1]; rfl) (yb_1 (k := 2) e2 (by rw [h1]; rfl) (by rw [h1]; rfl) (yb_0 (k := 1) e1 (by rw [h1]; rfl) (by rw [h1]; rfl) (yb_0 (k := 0) e0 (by rw [h1]; rfl) (by rw [h1]; rfl) (yL_k hj ⟨h1, h2⟩))))))))
                  exact ⟨op_of (sg := sgY j) (tl := tlY j) yr_50_0 hf (fun d h1 _ => (by show [Value.int (d.2.1 0), Value.int (nI 0)] = _; rw [h1]; rfl)), op_of (sg := sgY j) (tl := tlY j) yr_50_1 hf (fun d h1 _ => (by show [Value.int (d.2.1 0), Value.int (nI 1)] = _; rw [h1]; rfl))⟩
                · skip
                  have hf : ∀ d : mD, d.2.1 = sgY j → d.2.2.1 = tlY j → FOK d _ := fun d h1 h2 => yb_1 (k := 8) e8 (by rw [h1]; rfl) (by rw [h1]; rfl) (yb_1 (k := 7) e7 (by rw [h1]; rfl) (by rw [h1]; rfl) (yb_0 (k := 5) e5 (by rw [h1]; rfl) (by rw [h1]; rfl) (yb_0 (k := 4) e4 (by rw [h1]; rfl) (by rw [h1]; rfl) (yb_0 (k := 3) e3 (by rw [h1]; rfl) (by rw [h1]; rfl) (yb_1 (k := 2) e2 (by rw [h1]; rfl) (by rw [h1]; rfl) (yb_0 (k := 1) e1 (by rw [h1]; rfl) (by rw [h1]; rfl) (yb_0 (k := 0) e0 (by rw [h1]; rfl) (by rw [h1]; rfl) (yL_k hj ⟨h1, h2⟩))))))))
                  exact ⟨op_of (sg := sgY j) (tl := tlY j) yr_51_0 hf (fun d h1 _ => (by show [Value.int (d.2.1 0), Value.int (nI 0)] = _; rw [h1]; rfl)), op_of (sg := sgY j) (tl := tlY j) yr_51_1 hf (fun d h1 _ => (by show [Value.int (d.2.1 0), Value.int (nI 1)] = _; rw [h1]; rfl))⟩
            · skip
              rcases Nat.eq_zero_or_pos (er j 7) with e7 | e7
              · skip
                rcases Nat.eq_zero_or_pos (er j 8) with e8 | e8
                · skip
                  have hf : ∀ d : mD, d.2.1 = sgY j → d.2.2.1 = tlY j → FOK d _ := fun d h1 h2 => yb_0 (k := 8) e8 (by rw [h1]; rfl) (by rw [h1]; rfl) (yb_0 (k := 7) e7 (by rw [h1]; rfl) (by rw [h1]; rfl) (yb_1 (k := 5) e5 (by rw [h1]; rfl) (by rw [h1]; rfl) (yb_0 (k := 4) e4 (by rw [h1]; rfl) (by rw [h1]; rfl) (yb_0 (k := 3) e3 (by rw [h1]; rfl) (by rw [h1]; rfl) (yb_1 (k := 2) e2 (by rw [h1]; rfl) (by rw [h1]; rfl) (yb_0 (k := 1) e1 (by rw [h1]; rfl) (by rw [h1]; rfl) (yb_0 (k := 0) e0 (by rw [h1]; rfl) (by rw [h1]; rfl) (yL_k hj ⟨h1, h2⟩))))))))
                  exact ⟨op_of (sg := sgY j) (tl := tlY j) yr_52_0 hf (fun d h1 _ => (by show [Value.int (d.2.1 0), Value.int (nI 0)] = _; rw [h1]; rfl)), op_of (sg := sgY j) (tl := tlY j) yr_52_1 hf (fun d h1 _ => (by show [Value.int (d.2.1 0), Value.int (nI 1)] = _; rw [h1]; rfl))⟩
                · skip
                  have hf : ∀ d : mD, d.2.1 = sgY j → d.2.2.1 = tlY j → FOK d _ := fun d h1 h2 => yb_1 (k := 8) e8 (by rw [h1]; rfl) (by rw [h1]; rfl) (yb_0 (k := 7) e7 (by rw [h1]; rfl) (by rw [h1]; rfl) (yb_1 (k := 5) e5 (by rw [h1]; rfl) (by rw [h1]; rfl) (yb_0 (k := 4) e4 (by rw [h1]; rfl) (by rw [h1]; rfl) (yb_0 (k := 3) e3 (by rw [h1]; rfl) (by rw [h1]; rfl) (yb_1 (k := 2) e2 (by rw [h1]; rfl) (by rw [h1]; rfl) (yb_0 (k := 1) e1 (by rw [h1]; rfl) (by rw [h1]; rfl) (yb_0 (k := 0) e0 (by rw [h1]; rfl) (by rw [h1]; rfl) (yL_k hj ⟨h1, h2⟩))))))))
                  exact ⟨op_of (sg := sgY j) (tl := tlY j) yr_53_0 hf (fun d h1 _ => (by show [Value.int (d.2.1 0), Value.int (nI 0)] = _; rw [h1]; rfl)), op_of (sg := sgY j) (tl := tlY j) yr_53_1 hf (fun d h1 _ => (by show [Value.int (d.2.1 0), Value.int (nI 1)] = _; rw [h1]; rfl))⟩
              · skip
                rcases Nat.eq_zero_or_pos (er j 8) with e8 | e8
                · skip
                  have hf : ∀ d : mD, d.2.1 = sgY j → d.2.2.1 = tlY j → FOK d _ := fun d h1 h2 => yb_0 (k := 8) e8 (by rw [h1]; rfl) (by rw [h1]; rfl) (yb_1 (k := 7) e7 (by rw [h1]; rfl) (by rw [h1]; rfl) (yb_1 (k := 5) e5 (by rw [h1]; rfl) (by rw [h1]; rfl) (yb_0 (k := 4) e4 (by rw [h1]; rfl) (by rw [h1]; rfl) (yb_0 (k := 3) e3 (by rw [h1]; rfl) (by rw [h1]; rfl) (yb_1 (k := 2) e2 (by rw [h1]; rfl) (by rw [h1]; rfl) (yb_0 (k := 1) e1 (by rw [h1]; rfl) (by rw [h1]; rfl) (yb_0 (k := 0) e0 (by rw [h1]; rfl) (by rw [h1]; rfl) (yL_k hj ⟨h1, h2⟩))))))))
                  exact ⟨op_of (sg := sgY j) (tl := tlY j) yr_54_0 hf (fun d h1 _ => (by show [Value.int (d.2.1 0), Value.int (nI 0)] = _; rw [h1]; rfl)), op_of (sg := sgY j) (tl := tlY j) yr_54_1 hf (fun d h1 _ => (by show [Value.int (d.2.1 0), Value.int (nI 1)] = _; rw [h1]; rfl))⟩
                · skip
                  have hf : ∀ d : mD, d.2.1 = sgY j → d.2.2.1 = tlY j → FOK d _ := fun d h1 h2 => yb_1 (k := 8) e8 (by rw [h1]; rfl) (by rw [h1]; rfl) (yb_1 (k := 7) e7 (by rw [h1]; rfl) (by rw [h1]; rfl) (yb_1 (k := 5) e5 (by rw [h1]; rfl) (by rw [h1]; rfl) (yb_0 (k := 4) e4 (by rw [h1]; rfl) (by rw [h1]; rfl) (yb_0 (k := 3) e3 (by rw [h1]; rfl) (by rw [h1]; rfl) (yb_1 (k := 2) e2 (by rw [h1]; rfl) (by rw [h1]; rfl) (yb_0 (k := 1) e1 (by rw [h1]; rfl) (by rw [h1]; rfl) (yb_0 (k := 0) e0 (by rw [h1]; rfl) (by rw [h1]; rfl) (yL_k hj ⟨h1, h2⟩))))))))
                  exact ⟨op_of (sg := sgY j) (tl := tlY j) yr_55_0 hf (fun d h1 _ => (by show [Value.int (d.2.1 0), Value.int (nI 0)] = _; rw [h1]; rfl)), op_of (sg := sgY j) (tl := tlY j) yr_55_1 hf (fun d h1 _ => (by show [Value.int (d.2.1 0), Value.int (nI 1)] = _; rw [h1]; rfl))⟩
          · skip
            rcases Nat.eq_zero_or_pos (er j 5) with e5 | e5
            · skip
              rcases Nat.eq_zero_or_pos (er j 8) with e8 | e8
              · skip
                have hf : ∀ d : mD, d.2.1 = sgY j → d.2.2.1 = tlY j → FOK d _ := fun d h1 h2 => yb_0 (k := 8) e8 (by rw [h1]; rfl) (by rw [h1]; rfl) (yb_0 (k := 5) e5 (by rw [h1]; rfl) (by rw [h1]; rfl) (yb_1 (k := 4) e4 (by rw [h1]; rfl) (by rw [h1]; rfl) (yb_0 (k := 3) e3 (by rw [h1]; rfl) (by rw [h1]; rfl) (yb_1 (k := 2) e2 (by rw [h1]; rfl) (by rw [h1]; rfl) (yb_0 (k := 1) e1 (by rw [h1]; rfl) (by rw [h1]; rfl) (yb_0 (k := 0) e0 (by rw [h1]; rfl) (by rw [h1]; rfl) (yL_k hj ⟨h1, h2⟩)))))))
                exact ⟨op_of (sg := sgY j) (tl := tlY j) yr_56_0 hf (fun d h1 _ => (by show [Value.int (d.2.1 0), Value.int (nI 0)] = _; rw [h1]; rfl)), op_of (sg := sgY j) (tl := tlY j) yr_56_1 hf (fun d h1 _ => (by show [Value.int (d.2.1 0), Value.int (nI 1)] = _; rw [h1]; rfl))⟩
              · skip
                have hf : ∀ d : mD, d.2.1 = sgY j → d.2.2.1 = tlY j → FOK d _ := fun d h1 h2 => yb_1 (k := 8) e8 (by rw [h1]; rfl) (by rw [h1]; rfl) (yb_0 (k := 5) e5 (by rw [h1]; rfl) (by rw [h1]; rfl) (yb_1 (k := 4) e4 (by rw [h1]; rfl) (by rw [h1]; rfl) (yb_0 (k := 3) e3 (by rw [h1]; rfl) (by rw [h1]; rfl) (yb_1 (k := 2) e2 (by rw [h1]; rfl) (by rw [h1]; rfl) (yb_0 (k := 1) e1 (by rw [h1]; rfl) (by rw [h1]; rfl) (yb_0 (k := 0) e0 (by rw [h1]; rfl) (by rw [h1]; rfl) (yL_k hj ⟨h1, h2⟩)))))))
                exact ⟨op_of (sg := sgY j) (tl := tlY j) yr_57_0 hf (fun d h1 _ => (by show [Value.int (d.2.1 0), Value.int (nI 0)] = _; rw [h1]; rfl)), op_of (sg := sgY j) (tl := tlY j) yr_57_1 hf (fun d h1 _ => (by show [Value.int (d.2.1 0), Value.int (nI 1)] = _; rw [h1]; rfl))⟩
            · skip
              rcases Nat.eq_zero_or_pos (er j 8) with e8 | e8
              · skip
                have hf : ∀ d : mD, d.2.1 = sgY j → d.2.2.1 = tlY j → FOK d _ := fun d h1 h2 => yb_0 (k := 8) e8 (by rw [h1]; rfl) (by rw [h1]; rfl) (yb_1 (k := 5) e5 (by rw [h1]; rfl) (by rw [h1]; rfl) (yb_1 (k := 4) e4 (by rw [h1]; rfl) (by rw [h1]; rfl) (yb_0 (k := 3) e3 (by rw [h1]; rfl) (by rw [h1]; rfl) (yb_1 (k := 2) e2 (by rw [h1]; rfl) (by rw [h1]; rfl) (yb_0 (k := 1) e1 (by rw [h1]; rfl) (by rw [h1]; rfl) (yb_0 (k := 0) e0 (by rw [h1]; rfl) (by rw [h1]; rfl) (yL_k hj ⟨h1, h2⟩)))))))
                exact ⟨op_of (sg := sgY j) (tl := tlY j) yr_58_0 hf (fun d h1 _ => (by show [Value.int (d.2.1 0), Value.int (nI 0)] = _; rw [h1]; rfl)), op_of (sg := sgY j) (tl := tlY j) yr_58_1 hf (fun d h1 _ => (by show [Value.int (d.2.1 0), Value.int (nI 1)] = _; rw [h1]; rfl))⟩
              · skip
                have hf : ∀ d : mD, d.2.1 = sgY j → d.2.2.1 = tlY j → FOK d _ := fun d h1 h2 => yb_1 (k := 8) e8 (by rw [h1]; rfl) (by rw [h1]; rfl) (yb_1 (k := 5) e5 (by rw [h1]; rfl) (by rw [h1]; rfl) (yb_1 (k := 4) e4 (by rw [h1]; rfl) (by rw [h1]; rfl) (yb_0 (k := 3) e3 (by rw [h1]; rfl) (by rw [h1]; rfl) (yb_1 (k := 2) e2 (by rw [h1]; rfl) (by rw [h1]; rfl) (yb_0 (k := 1) e1 (by rw [h1]; rfl) (by rw [h1]; rfl) (yb_0 (k := 0) e0 (by rw [h1]; rfl) (by rw [h1]; rfl) (yL_k hj ⟨h1, h2⟩)))))))
                exact ⟨op_of (sg := sgY j) (tl := tlY j) yr_59_0 hf (fun d h1 _ => (by show [Value.int (d.2.1 0), Value.int (nI 0)] = _; rw [h1]; rfl)), op_of (sg := sgY j) (tl := tlY j) yr_59_1 hf (fun d h1 _ => (by show [Value.int (d.2.1 0), Value.int (nI 1)] = _; rw [h1]; rfl))⟩
        · skip
          rcases Nat.eq_zero_or_pos (er j 4) with e4 | e4
          · skip
            rcases Nat.eq_zero_or_pos (er j 5) with e5 | e5
            · skip
              rcases Nat.eq_zero_or_pos (er j 7) with e7 | e7
              · skip
                rcases Nat.eq_zero_or_pos (er j 8) with e8 | e8
                · skip
                  have hf : ∀ d : mD, d.2.1 = sgY j → d.2.2.1 = tlY j → FOK d _ := fun d h1 h2 => yb_0 (k := 8) e8 (by rw [h1]; rfl) (by rw [h1]; rfl) (yb_0 (k := 7) e7 (by rw [h1]; rfl) (by rw [h1]; rfl) (yb_0 (k := 5) e5 (by rw [h1]; rfl) (by rw [h1]; rfl) (yb_0 (k := 4) e4 (by rw [h1]; rfl) (by rw [h1]; rfl) (yb_1 (k := 3) e3 (by rw [h1]; rfl) (by rw [h1]; rfl) (yb_1 (k := 2) e2 (by rw [h1]; rfl) (by rw [h1]; rfl) (yb_0 (k := 1) e1 (by rw [h1]; rfl) (by rw [h1]; rfl) (yb_0 (k := 0) e0 (by rw [h1]; rfl) (by rw [h1]; rfl) (yL_k hj ⟨h1, h2⟩))))))))
                  exact ⟨op_of (sg := sgY j) (tl := tlY j) yr_60_0 hf (fun d h1 _ => (by show [Value.int (d.2.1 0), Value.int (nI 0)] = _; rw [h1]; rfl)), op_of (sg := sgY j) (tl := tlY j) yr_60_1 hf (fun d h1 _ => (by show [Value.int (d.2.1 0), Value.int (nI 1)] = _; rw [h1]; rfl))⟩
                · skip
                  have hf : ∀ d : mD, d.2.1 = sgY j → d.2.2.1 = tlY j → FOK d _ := fun d h1 h2 => yb_1 (k := 8) e8 (by rw [h1]; rfl) (by rw [h1]; rfl) (yb_0 (k := 7) e7 (by rw [h1]; rfl) (by rw [h1]; rfl) (yb_0 (k := 5) e5 (by rw [h1]; rfl) (by rw [h1]; rfl) (yb_0 (k := 4) e4 (by rw [h1]; rfl) (by rw [h1]; rfl) (yb_1 (k := 3) e3 (by rw [h1]; rfl) (by rw [h1]; rfl) (yb_1 (k := 2) e2 (by rw [h1]; rfl) (by rw [h1]; rfl) (yb_0 (k := 1) e1 (by rw [h1]; rfl) (by rw [h1]; rfl) (yb_0 (k := 0) e0 (by rw [h1]; rfl) (by rw [h1]; rfl) (yL_k hj ⟨h1, h2⟩))))))))
                  exact ⟨op_of (sg := sgY j) (tl := tlY j) yr_61_0 hf (fun d h1 _ => (by show [Value.int (d.2.1 0), Value.int (nI 0)] = _; rw [h1]; rfl)), op_of (sg := sgY j) (tl := tlY j) yr_61_1 hf (fun d h1 _ => (by show [Value.int (d.2.1 0), Value.int (nI 1)] = _; rw [h1]; rfl))⟩
              · skip
                rcases Nat.eq_zero_or_pos (er j 8) with e8 | e8
                · skip
                  have hf : ∀ d : mD, d.2.1 = sgY j → d.2.2.1 = tlY j → FOK d _ := fun d h1 h2 => yb_0 (k := 8) e8 (by rw [h1]; rfl) (by rw [h1]; rfl) (yb_1 (k := 7) e7 (by rw [h1]; rfl) (by rw [h1]; rfl) (yb_0 (k := 5) e5 (by rw [h1]; rfl) (by rw [h1]; rfl) (yb_0 (k := 4) e4 (by rw [h1]; rfl) (by rw [h1]; rfl) (yb_1 (k := 3) e3 (by rw [h1]; rfl) (by rw [h1]; rfl) (yb_1 (k := 2) e2 (by rw [h1]; rfl) (by rw [h1]; rfl) (yb_0 (k := 1) e1 (by rw [h1]; rfl) (by rw [h1]; rfl) (yb_0 (k := 0) e0 (by rw [h1]; rfl) (by rw [h1]; rfl) (yL_k hj ⟨h1, h2⟩))))))))
                  exact ⟨op_of (sg := sgY j) (tl := tlY j) yr_62_0 hf (fun d h1 _ => (by show [Value.int (d.2.1 0), Value.int (nI 0)] = _; rw [h1]; rfl)), op_of (sg := sgY j) (tl := tlY j) yr_62_1 hf (fun d h1 _ => (by show [Value.int (d.2.1 0), Value.int (nI 1)] = _; rw [h1]; rfl))⟩
                · skip
                  have hf : ∀ d : mD, d.2.1 = sgY j → d.2.2.1 = tlY j → FOK d _ := fun d h1 h2 => yb_1 (k := 8) e8 (by rw [h1]; rfl) (by rw [h1]; rfl) (yb_1 (k := 7) e7 (by rw [h1]; rfl) (by rw [h1]; rfl) (yb_0 (k := 5) e5 (by rw [h1]; rfl) (by rw [h1]; rfl) (yb_0 (k := 4) e4 (by rw [h1]; rfl) (by rw [h1]; rfl) (yb_1 (k := 3) e3 (by rw [h1]; rfl) (by rw [h1]; rfl) (yb_1 (k := 2) e2 (by rw [h1]; rfl) (by rw [h1]; rfl) (yb_0 (k := 1) e1 (by rw [h1]; rfl) (by rw [h1]; rfl) (yb_0 (k := 0) e0 (by rw [h1]; rfl) (by rw [h1]; rfl) (yL_k hj ⟨h1, h2⟩))))))))
                  exact ⟨op_of (sg := sgY j) (tl := tlY j) yr_63_0 hf (fun d h1 _ => (by show [Value.int (d.2.1 0), Value.int (nI 0)] = _; rw [h1]; rfl)), op_of (sg := sgY j) (tl := tlY j) yr_63_1 hf (fun d h1 _ => (by show [Value.int (d.2.1 0), Value.int (nI 1)] = _; rw [h1]; rfl))⟩
            · skip
              rcases Nat.eq_zero_or_pos (er j 7) with e7 | e7
              · skip
                rcases Nat.eq_zero_or_pos (er j 8) with e8 | e8
                · skip
                  have hf : ∀ d : mD, d.2.1 = sgY j → d.2.2.1 = tlY j → FOK d _ := fun d h1 h2 => yb_0 (k := 8) e8 (by rw [h1]; rfl) (by rw [h1]; rfl) (yb_0 (k := 7) e7 (by rw [h1]; rfl) (by rw [h1]; rfl) (yb_1 (k := 5) e5 (by rw [h1]; rfl) (by rw [h1]; rfl) (yb_0 (k := 4) e4 (by rw [h1]; rfl) (by rw [h1]; rfl) (yb_1 (k := 3) e3 (by rw [h1]; rfl) (by rw [h1]; rfl) (yb_1 (k := 2) e2 (by rw [h1]; rfl) (by rw [h1]; rfl) (yb_0 (k := 1) e1 (by rw [h1]; rfl) (by rw [h1]; rfl) (yb_0 (k := 0) e0 (by rw [h1]; rfl) (by rw [h1]; rfl) (yL_k hj ⟨h1, h2⟩))))))))
                  exact ⟨op_of (sg := sgY j) (tl := tlY j) yr_64_0 hf (fun d h1 _ => (by show [Value.int (d.2.1 0), Value.int (nI 0)] = _; rw [h1]; rfl)), op_of (sg := sgY j) (tl := tlY j) yr_64_1 hf (fun d h1 _ => (by show [Value.int (d.2.1 0), Value.int (nI 1)] = _; rw [h1]; rfl))⟩
                · skip
                  have hf : ∀ d : mD, d.2.1 = sgY j → d.2.2.1 = tlY j → FOK d _ := fun d h1 h2 => yb_1 (k := 8) e8 (by rw [h1]; rfl) (by rw [h1]; rfl) (yb_0 (k := 7) e7 (by rw [h1]; rfl) (by rw [h1]; rfl) (yb_1 (k := 5) e5 (by rw [h1]; rfl) (by rw [h1]; rfl) (yb_0 (k := 4) e4 (by rw [h1]; rfl) (by rw [h1]; rfl) (yb_1 (k := 3) e3 (by rw [h1]; rfl) (by rw [h1]; rfl) (yb_1 (k := 2) e2 (by rw [h1]; rfl) (by rw [h1]; rfl) (yb_0 (k := 1) e1 (by rw [h1]; rfl) (by rw [h1]; rfl) (yb_0 (k := 0) e0 (by rw [h1]; rfl) (by rw [h1]; rfl) (yL_k hj ⟨h1, h2⟩))))))))
                  exact ⟨op_of (sg := sgY j) (tl := tlY j) yr_65_0 hf (fun d h1 _ => (by show [Value.int (d.2.1 0), Value.int (nI 0)] = _; rw [h1]; rfl)), op_of (sg := sgY j) (tl := tlY j) yr_65_1 hf (fun d h1 _ => (by show [Value.int (d.2.1 0), Value.int (nI 1)] = _; rw [h1]; rfl))⟩
              · skip
                rcases Nat.eq_zero_or_pos (er j 8) with e8 | e8
                · skip
                  have hf : ∀ d : mD, d.2.1 = sgY j → d.2.2.1 = tlY j → FOK d _ := fun d h1 h2 => yb_0 (k := 8) e8 (by rw [h1]; rfl) (by rw [h1]; rfl) (yb_1 (k := 7) e7 (by rw [h1]; rfl) (by rw [h1]; rfl) (yb_1 (k := 5) e5 (by rw [h1]; rfl) (by rw [h1]; rfl) (yb_0 (k := 4) e4 (by rw [h1]; rfl) (by rw [h1]; rfl) (yb_1 (k := 3) e3 (by rw [h1]; rfl) (by rw [h1]; rfl) (yb_1 (k := 2) e2 (by rw [h1]; rfl) (by rw [h1]; rfl) (yb_0 (k := 1) e1 (by rw [h1]; rfl) (by rw [h1]; rfl) (yb_0 (k := 0) e0 (by rw [h1]; rfl) (by rw [h1]; rfl) (yL_k hj ⟨h1, h2⟩))))))))
                  exact ⟨op_of (sg := sgY j) (tl := tlY j) yr_66_0 hf (fun d h1 _ => (by show [Value.int (d.2.1 0), Value.int (nI 0)] = _; rw [h1]; rfl)), op_of (sg := sgY j) (tl := tlY j) yr_66_1 hf (fun d h1 _ => (by show [Value.int (d.2.1 0), Value.int (nI 1)] = _; rw [h1]; rfl))⟩
                · skip
                  have hf : ∀ d : mD, d.2.1 = sgY j → d.2.2.1 = tlY j → FOK d _ := fun d h1 h2 => yb_1 (k := 8) e8 (by rw [h1]; rfl) (by rw [h1]; rfl) (yb_1 (k := 7) e7 (by rw [h1]; rfl) (by rw [h1]; rfl) (yb_1 (k := 5) e5 (by rw [h1]; rfl) (by rw [h1]; rfl) (yb_0 (k := 4) e4 (by rw [h1]; rfl) (by rw [h1]; rfl) (yb_1 (k := 3) e3 (by rw [h1]; rfl) (by rw [h1]; rfl) (yb_1 (k := 2) e2 (by rw [h1]; rfl) (by rw [h1]; rfl) (yb_0 (k := 1) e1 (by rw [h1]; rfl) (by rw [h1]; rfl) (yb_0 (k := 0) e0 (by rw [h1]; rfl) (by rw [h1]; rfl) (yL_k hj ⟨h1, h2⟩))))))))
                  exact ⟨op_of (sg := sgY j) (tl := tlY j) yr_67_0 hf (fun d h1 _ => (by show [Value.int (d.2.1 0), Value.int (nI 0)] = _; rw [h1]; rfl)), op_of (sg := sgY j) (tl := tlY j) yr_67_1 hf (fun d h1 _ => (by show [Value.int (d.2.1 0), Value.int (nI 1)] = _; rw [h1]; rfl))⟩
          · skip
            rcases Nat.eq_zero_or_pos (er j 5) with e5 | e5
            · skip
              rcases Nat.eq_zero_or_pos (er j 8) with e8 | e8
              · skip
                have hf : ∀ d : mD, d.2.1 = sgY j → d.2.2.1 = tlY j → FOK d _ := fun d h1 h2 => yb_0 (k := 8) e8 (by rw [h1]; rfl) (by rw [h1]; rfl) (yb_0 (k := 5) e5 (by rw [h1]; rfl) (by rw [h1]; rfl) (yb_1 (k := 4) e4 (by rw [h1]; rfl) (by rw [h1]; rfl) (yb_1 (k := 3) e3 (by rw [h1]; rfl) (by rw [h1]; rfl) (yb_1 (k := 2) e2 (by rw [h1]; rfl) (by rw [h1]; rfl) (yb_0 (k := 1) e1 (by rw [h1]; rfl) (by rw [h1]; rfl) (yb_0 (k := 0) e0 (by rw [h1]; rfl) (by rw [h1]; rfl) (yL_k hj ⟨h1, h2⟩)))))))
                exact ⟨op_of (sg := sgY j) (tl := tlY j) yr_68_0 hf (fun d h1 _ => (by show [Value.int (d.2.1 0), Value.int (nI 0)] = _; rw [h1]; rfl)), op_of (sg := sgY j) (tl := tlY j) yr_68_1 hf (fun d h1 _ => (by show [Value.int (d.2.1 0), Value.int (nI 1)] = _; rw [h1]; rfl))⟩
              · skip
                have hf : ∀ d : mD, d.2.1 = sgY j → d.2.2.1 = tlY j → FOK d _ := fun d h1 h2 => yb_1 (k := 8) e8 (by rw [h1]; rfl) (by rw [h1]; rfl) (yb_0 (k := 5) e5 (by rw [h1]; rfl) (by rw [h1]; rfl) (yb_1 (k := 4) e4 (by rw [h1]; rfl) (by rw [h1]; rfl) (yb_1 (k := 3) e3 (by rw [h1]; rfl) (by rw [h1]; rfl) (yb_1 (k := 2) e2 (by rw [h1]; rfl) (by rw [h1]; rfl) (yb_0 (k := 1) e1 (by rw [h1]; rfl) (by rw [h1]; rfl) (yb_0 (k := 0) e0 (by rw [h1]; rfl) (by rw [h1]; rfl) (yL_k hj ⟨h1, h2⟩)))))))
                exact ⟨op_of (sg := sgY j) (tl := tlY j) yr_69_0 hf (fun d h1 _ => (by show [Value.int (d.2.1 0), Value.int (nI 0)] = _; rw [h1]; rfl)), op_of (sg := sgY j) (tl := tlY j) yr_69_1 hf (fun d h1 _ => (by show [Value.int (d.2.1 0), Value.int (nI 1)] = _; rw [h1]; rfl))⟩
            · skip
              rcases Nat.eq_zero_or_pos (er j 8) with e8 | e8
              · skip
                have hf : ∀ d : mD, d.2.1 = sgY j → d.2.2.1 = tlY j → FOK d _ := fun d h1 h2 => yb_0 (k := 8) e8 (by rw [h1]; rfl) (by rw [h1]; rfl) (yb_1 (k := 5) e5 (by rw [h1]; rfl) (by rw [h1]; rfl) (yb_1 (k := 4) e4 (by rw [h1]; rfl) (by rw [h1]; rfl) (yb_1 (k := 3) e3 (by rw [h1]; rfl) (by rw [h1]; rfl) (yb_1 (k := 2) e2 (by rw [h1]; rfl) (by rw [h1]; rfl) (yb_0 (k := 1) e1 (by rw [h1]; rfl) (by rw [h1]; rfl) (yb_0 (k := 0) e0 (by rw [h1]; rfl) (by rw [h1]; rfl) (yL_k hj ⟨h1, h2⟩)))))))
                exact ⟨op_of (sg := sgY j) (tl := tlY j) yr_70_0 hf (fun d h1 _ => (by show [Value.int (d.2.1 0), Value.int (nI 0)] = _; rw [h1]; rfl)), op_of (sg := sgY j) (tl := tlY j) yr_70_1 hf (fun d h1 _ => (by show [Value.int (d.2.1 0), Value.int (nI 1)] = _; rw [h1]; rfl))⟩
              · skip
                have hf : ∀ d : mD, d.2.1 = sgY j → d.2.2.1 = tlY j → FOK d _ := fun d h1 h2 => yb_1 (k := 8) e8 (by rw [h1]; rfl) (by rw [h1]; rfl) (yb_1 (k := 5) e5 (by rw [h1]; rfl) (by rw [h1]; rfl) (yb_1 (k := 4) e4 (by rw [h1]; rfl) (by rw [h1]; rfl) (yb_1 (k := 3) e3 (by rw [h1]; rfl) (by rw [h1]; rfl) (yb_1 (k := 2) e2 (by rw [h1]; rfl) (by rw [h1]; rfl) (yb_0 (k := 1) e1 (by rw [h1]; rfl) (by rw [h1]; rfl) (yb_0 (k := 0) e0 (by rw [h1]; rfl) (by rw [h1]; rfl) (yL_k hj ⟨h1, h2⟩)))))))
                exact ⟨op_of (sg := sgY j) (tl := tlY j) yr_71_0 hf (fun d h1 _ => (by show [Value.int (d.2.1 0), Value.int (nI 0)] = _; rw [h1]; rfl)), op_of (sg := sgY j) (tl := tlY j) yr_71_1 hf (fun d h1 _ => (by show [Value.int (d.2.1 0), Value.int (nI 1)] = _; rw [h1]; rfl))⟩
    · skip
      rcases Nat.eq_zero_or_pos (er j 2) with e2 | e2
      · skip
        rcases Nat.eq_zero_or_pos (er j 3) with e3 | e3
        · skip
          rcases Nat.eq_zero_or_pos (er j 4) with e4 | e4
          · skip
            rcases Nat.eq_zero_or_pos (er j 6) with e6 | e6
            · skip
              rcases Nat.eq_zero_or_pos (er j 7) with e7 | e7
              · skip
                rcases Nat.eq_zero_or_pos (er j 8) with e8 | e8
                · skip
                  have hf : ∀ d : mD, d.2.1 = sgY j → d.2.2.1 = tlY j → FOK d _ := fun d h1 h2 => yb_0 (k := 8) e8 (by rw [h1]; rfl) (by rw [h1]; rfl) (yb_0 (k := 7) e7 (by rw [h1]; rfl) (by rw [h1]; rfl) (yb_0 (k := 6) e6 (by rw [h1]; rfl) (by rw [h1]; rfl) (yb_0 (k := 4) e4 (by rw [h1]; rfl) (by rw [h1]; rfl) (yb_0 (k := 3) e3 (by rw [h1]; rfl) (by rw [h1]; rfl) (yb_0 (k := 2) e2 (by rw [h1]; rfl) (by rw [h1]; rfl) (yb_1 (k := 1) e1 (by rw [h1]; rfl) (by rw [h1]; rfl) (yb_0 (k := 0) e0 (by rw [h1]; rfl) (by rw [h1]; rfl) (yL_k hj ⟨h1, h2⟩))))))))
                  exact ⟨op_of (sg := sgY j) (tl := tlY j) yr_72_0 hf (fun d h1 _ => (by show [Value.int (d.2.1 0), Value.int (nI 0)] = _; rw [h1]; rfl)), op_of (sg := sgY j) (tl := tlY j) yr_72_1 hf (fun d h1 _ => (by show [Value.int (d.2.1 0), Value.int (nI 1)] = _; rw [h1]; rfl))⟩
                · skip
                  have hf : ∀ d : mD, d.2.1 = sgY j → d.2.2.1 = tlY j → FOK d _ := fun d h1 h2 => yb_1 (k := 8) e8 (by rw [h1]; rfl) (by rw [h1]; rfl) (yb_0 (k := 7) e7 (by rw [h1]; rfl) (by rw [h1]; rfl) (yb_0 (k := 6) e6 (by rw [h1]; rfl) (by rw [h1]; rfl) (yb_0 (k := 4) e4 (by rw [h1]; rfl) (by rw [h1]; rfl) (yb_0 (k := 3) e3 (by rw [h1]; rfl) (by rw [h1]; rfl) (yb_0 (k := 2) e2 (by rw [h1]; rfl) (by rw [h1]; rfl) (yb_1 (k := 1) e1 (by rw [h1]; rfl) (by rw [h1]; rfl) (yb_0 (k := 0) e0 (by rw [h1]; rfl) (by rw [h1]; rfl) (yL_k hj ⟨h1, h2⟩))))))))
                  exact ⟨op_of (sg := sgY j) (tl := tlY j) yr_73_0 hf (fun d h1 _ => (by show [Value.int (d.2.1 0), Value.int (nI 0)] = _; rw [h1]; rfl)), op_of (sg := sgY j) (tl := tlY j) yr_73_1 hf (fun d h1 _ => (by show [Value.int (d.2.1 0), Value.int (nI 1)] = _; rw [h1]; rfl))⟩
              · skip
                rcases Nat.eq_zero_or_pos (er j 8) with e8 | e8
                · skip
                  have hf : ∀ d : mD, d.2.1 = sgY j → d.2.2.1 = tlY j → FOK d _ := fun d h1 h2 => yb_0 (k := 8) e8 (by rw [h1]; rfl) (by rw [h1]; rfl) (yb_1 (k := 7) e7 (by rw [h1]; rfl) (by rw [h1]; rfl) (yb_0 (k := 6) e6 (by rw [h1]; rfl) (by rw [h1]; rfl) (yb_0 (k := 4) e4 (by rw [h1]; rfl) (by rw [h1]; rfl) (yb_0 (k := 3) e3 (by rw [h1]; rfl) (by rw [h1]; rfl) (yb_0 (k := 2) e2 (by rw [h1]; rfl) (by rw [h1]; rfl) (yb_1 (k := 1) e1 (by rw [h1]; rfl) (by rw [h1]; rfl) (yb_0 (k := 0) e0 (by rw [h1]; rfl) (by rw [h1]; rfl) (yL_k hj ⟨h1, h2⟩))))))))
                  exact ⟨op_of (sg := sgY j) (tl := tlY j) yr_74_0 hf (fun d h1 _ => (by show [Value.int (d.2.1 0), Value.int (nI 0)] = _; rw [h1]; rfl)), op_of (sg := sgY j) (tl := tlY j) yr_74_1 hf (fun d h1 _ => (by show [Value.int (d.2.1 0), Value.int (nI 1)] = _; rw [h1]; rfl))⟩
                · skip
                  have hf : ∀ d : mD, d.2.1 = sgY j → d.2.2.1 = tlY j → FOK d _ := fun d h1 h2 => yb_1 (k := 8) e8 (by rw [h1]; rfl) (by rw [h1]; rfl) (yb_1 (k := 7) e7 (by rw [h1]; rfl) (by rw [h1]; rfl) (yb_0 (k := 6) e6 (by rw [h1]; rfl) (by rw [h1]; rfl) (yb_0 (k := 4) e4 (by rw [h1]; rfl) (by rw [h1]; rfl) (yb_0 (k := 3) e3 (by rw [h1]; rfl) (by rw [h1]; rfl) (yb_0 (k := 2) e2 (by rw [h1]; rfl) (by rw [h1]; rfl) (yb_1 (k := 1) e1 (by rw [h1]; rfl) (by rw [h1]; rfl) (yb_0 (k := 0) e0 (by rw [h1]; rfl) (by rw [h1]; rfl) (yL_k hj ⟨h1, h2⟩))))))))
                  exact ⟨op_of (sg := sgY j) (tl := tlY j) yr_75_0 hf (fun d h1 _ => (by show [Value.int (d.2.1 0), Value.int (nI 0)] = _; rw [h1]; rfl)), op_of (sg := sgY j) (tl := tlY j) yr_75_1 hf (fun d h1 _ => (by show [Value.int (d.2.1 0), Value.int (nI 1)] = _; rw [h1]; rfl))⟩
            · skip
              rcases Nat.eq_zero_or_pos (er j 7) with e7 | e7
              · skip
                rcases Nat.eq_zero_or_pos (er j 8) with e8 | e8
                · skip
                  have hf : ∀ d : mD, d.2.1 = sgY j → d.2.2.1 = tlY j → FOK d _ := fun d h1 h2 => yb_0 (k := 8) e8 (by rw [h1]; rfl) (by rw [h1]; rfl) (yb_0 (k := 7) e7 (by rw [h1]; rfl) (by rw [h1]; rfl) (yb_1 (k := 6) e6 (by rw [h1]; rfl) (by rw [h1]; rfl) (yb_0 (k := 4) e4 (by rw [h1]; rfl) (by rw [h1]; rfl) (yb_0 (k := 3) e3 (by rw [h1]; rfl) (by rw [h1]; rfl) (yb_0 (k := 2) e2 (by rw [h1]; rfl) (by rw [h1]; rfl) (yb_1 (k := 1) e1 (by rw [h1]; rfl) (by rw [h1]; rfl) (yb_0 (k := 0) e0 (by rw [h1]; rfl) (by rw [h1]; rfl) (yL_k hj ⟨h1, h2⟩))))))))
                  exact ⟨op_of (sg := sgY j) (tl := tlY j) yr_76_0 hf (fun d h1 _ => (by show [Value.int (d.2.1 0), Value.int (nI 0)] = _; rw [h1]; rfl)), op_of (sg := sgY j) (tl := tlY j) yr_76_1 hf (fun d h1 _ => (by show [Value.int (d.2.1 0), Value.int (nI 1)] = _; rw [h1]; rfl))⟩
                · skip
                  have hf : ∀ d : mD, d.2.1 = sgY j → d.2.2.1 = tlY j → FOK d _ := fun d h1 h2 => yb_1 (k := 8) e8 (by rw [h1]; rfl) (by rw [h1]; rfl) (yb_0 (k := 7) e7 (by rw [h1]; rfl) (by rw [h1]; rfl) (yb_1 (k := 6) e6 (by rw [h1]; rfl) (by rw [h1]; rfl) (yb_0 (k := 4) e4 (by rw [h1]; rfl) (by rw [h1]; rfl) (yb_0 (k := 3) e3 (by rw [h1]; rfl) (by rw [h1]; rfl) (yb_0 (k := 2) e2 (by rw [h1]; rfl) (by rw [h1]; rfl) (yb_1 (k := 1) e1 (by rw [h1]; rfl) (by rw [h1]; rfl) (yb_0 (k := 0) e0 (by rw [h1]; rfl) (by rw [h1]; rfl) (yL_k hj ⟨h1, h2⟩))))))))
                  exact ⟨op_of (sg := sgY j) (tl := tlY j) yr_77_0 hf (fun d h1 _ => (by show [Value.int (d.2.1 0), Value.int (nI 0)] = _; rw [h1]; rfl)), op_of (sg := sgY j) (tl := tlY j) yr_77_1 hf (fun d h1 _ => (by show [Value.int (d.2.1 0), Value.int (nI 1)] = _; rw [h1]; rfl))⟩
              · skip
                rcases Nat.eq_zero_or_pos (er j 8) with e8 | e8
                · skip
                  have hf : ∀ d : mD, d.2.1 = sgY j → d.2.2.1 = tlY j → FOK d _ := fun d h1 h2 => yb_0 (k := 8) e8 (by rw [h1]; rfl) (by rw [h1]; rfl) (yb_1 (k := 7) e7 (by rw [h1]; rfl) (by rw [h1]; rfl) (yb_1 (k := 6) e6 (by rw [h1]; rfl) (by rw [h1]; rfl) (yb_0 (k := 4) e4 (by rw [h1]; rfl) (by rw [h1]; rfl) (yb_0 (k := 3) e3 (by rw [h1]; rfl) (by rw [h1]; rfl) (yb_0 (k := 2) e2 (by rw [h1]; rfl) (by rw [h1]; rfl) (yb_1 (k := 1) e1 (by rw [h1]; rfl) (by rw [h1]; rfl) (yb_0 (k := 0) e0 (by rw [h1]; rfl) (by rw [h1]; rfl) (yL_k hj ⟨h1, h2⟩))))))))
                  exact ⟨op_of (sg := sgY j) (tl := tlY j) yr_78_0 hf (fun d h1 _ => (by show [Value.int (d.2.1 0), Value.int (nI 0)] = _; rw [h1]; rfl)), op_of (sg := sgY j) (tl := tlY j) yr_78_1 hf (fun d h1 _ => (by show [Value.int (d.2.1 0), Value.int (nI 1)] = _; rw [h1]; rfl))⟩
                · skip
                  have hf : ∀ d : mD, d.2.1 = sgY j → d.2.2.1 = tlY j → FOK d _ := fun d h1 h2 => yb_1 (k := 8) e8 (by rw [h1]; rfl) (by rw [h1]; rfl) (yb_1 (k := 7) e7 (by rw [h1]; rfl) (by rw [h1]; rfl) (yb_1 (k := 6) e6 (by rw [h1]; rfl) (by rw [h1]; rfl) (yb_0 (k := 4) e4 (by rw [h1]; rfl) (by rw [h1]; rfl) (yb_0 (k := 3) e3 (by rw [h1]; rfl) (by rw [h1]; rfl) (yb_0 (k := 2) e2 (by rw [h1]; rfl) (by rw [h1]; rfl) (yb_1 (k := 1) e1 (by rw [h1]; rfl) (by rw [h1]; rfl) (yb_0 (k := 0) e0 (by rw [h1]; rfl) (by rw [h1]; rfl) (yL_k hj ⟨h1, h2⟩))))))))
                  exact ⟨op_of (sg := sgY j) (tl := tlY j) yr_79_0 hf (fun d h1 _ => (by show [Value.int (d.2.1 0), Value.int (nI 0)] = _; rw [h1]; rfl)), op_of (sg := sgY j) (tl := tlY j) yr_79_1 hf (fun d h1 _ => (by show [Value.int (d.2.1 0), Value.int (nI 1)] = _; rw [h1]; rfl))⟩
          · skip
            rcases Nat.eq_zero_or_pos (er j 6) with e6 | e6
            · skip
              rcases Nat.eq_zero_or_pos (er j 8) with e8 | e8
              · skip
                have hf : ∀ d : mD, d.2.1 = sgY j → d.2.2.1 = tlY j → FOK d _ := fun d h1 h2 => yb_0 (k := 8) e8 (by rw [h1]; rfl) (by rw [h1]; rfl) (yb_0 (k := 6) e6 (by rw [h1]; rfl) (by rw [h1]; rfl) (yb_1 (k := 4) e4 (by rw [h1]; rfl) (by rw [h1]; rfl) (yb_0 (k := 3) e3 (by rw [h1]; rfl) (by rw [h1]; rfl) (yb_0 (k := 2) e2 (by rw [h1]; rfl) (by rw [h1]; rfl) (yb_1 (k := 1) e1 (by rw [h1]; rfl) (by rw [h1]; rfl) (yb_0 (k := 0) e0 (by rw [h1]; rfl) (by rw [h1]; rfl) (yL_k hj ⟨h1, h2⟩)))))))
                exact ⟨op_of (sg := sgY j) (tl := tlY j) yr_80_0 hf (fun d h1 _ => (by show [Value.int (d.2.1 0), Value.int (nI 0)] = _; rw [h1]; rfl)), op_of (sg := sgY j) (tl := tlY j) yr_80_1 hf (fun d h1 _ => (by show [Value.int (d.2.1 0), Value.int (nI 1)] = _; rw [h1]; rfl))⟩
              · skip
                have hf : ∀ d : mD, d.2.1 = sgY j → d.2.2.1 = tlY j → FOK d _ := fun d h1 h2 => yb_1 (k := 8) e8 (by rw [h1]; rfl) (by rw [h1]; rfl) (yb_0 (k := 6) e6 (by rw [h1]; rfl) (by rw [h1]; rfl) (yb_1 (k := 4) e4 (by rw [h1]; rfl) (by rw [h1]; rfl) (yb_0 (k := 3) e3 (by rw [h1]; rfl) (by rw [h1]; rfl) (yb_0 (k := 2) e2 (by rw [h1]; rfl) (by rw [h1]; rfl) (yb_1 (k := 1) e1 (by rw [h1]; rfl) (by rw [h1]; rfl) (yb_0 (k := 0) e0 (by rw [h1]; rfl) (by rw [h1]; rfl) (yL_k hj ⟨h1, h2⟩)))))))
                exact ⟨op_of (sg := sgY j) (tl := tlY j) yr_81_0 hf (fun d h1 _ => (by show [Value.int (d.2.1 0), Value.int (nI 0)] = _; rw [h1]; rfl)), op_of (sg := sgY j) (tl := tlY j) yr_81_1 hf (fun d h1 _ => (by show [Value.int (d.2.1 0), Value.int (nI 1)] = _; rw [h1]; rfl))⟩
            · skip
              rcases Nat.eq_zero_or_pos (er j 8) with e8 | e8
              · skip
                have hf : ∀ d : mD, d.2.1 = sgY j → d.2.2.1 = tlY j → FOK d _ := fun d h1 h2 => yb_0 (k := 8) e8 (by rw [h1]; rfl) (by rw [h1]; rfl) (yb_1 (k := 6) e6 (by rw [h1]; rfl) (by rw [h1]; rfl) (yb_1 (k := 4) e4 (by rw [h1]; rfl) (by rw [h1]; rfl) (yb_0 (k := 3) e3 (by rw [h1]; rfl) (by rw [h1]; rfl) (yb_0 (k := 2) e2 (by rw [h1]; rfl) (by rw [h1]; rfl) (yb_1 (k := 1) e1 (by rw [h1]; rfl) (by rw [h1]; rfl) (yb_0 (k := 0) e0 (by rw [h1]; rfl) (by rw [h1]; rfl) (yL_k hj ⟨h1, h2⟩)))))))
                exact ⟨op_of (sg := sgY j) (tl := tlY j) yr_82_0 hf (fun d h1 _ => (by show [Value.int (d.2.1 0), Value.int (nI 0)] = _; rw [h1]; rfl)), op_of (sg := sgY j) (tl := tlY j) yr_82_1 hf (fun d h1 _ => (by show [Value.int (d.2.1 0), Value.int (nI 1)] = _; rw [h1]; rfl))⟩
              · skip
                have hf : ∀ d : mD, d.2.1 = sgY j → d.2.2.1 = tlY j → FOK d _ := fun d h1 h2 => yb_1 (k := 8) e8 (by rw [h1]; rfl) (by rw [h1]; rfl) (yb_1 (k := 6) e6 (by rw [h1]; rfl) (by rw [h1]; rfl) (yb_1 (k := 4) e4 (by rw [h1]; rfl) (by rw [h1]; rfl) (yb_0 (k := 3) e3 (by rw [h1]; rfl) (by rw [h1]; rfl) (yb_0 (k := 2) e2 (by rw [h1]; rfl) (by rw [h1]; rfl) (yb_1 (k := 1) e1 (by rw [h1]; rfl) (by rw [h1]; rfl) (yb_0 (k := 0) e0 (by rw [h1]; rfl) (by rw [h1]; rfl) (yL_k hj ⟨h1, h2⟩)))))))
                exact ⟨op_of (sg := sgY j) (tl := tlY j) yr_83_0 hf (fun d h1 _ => (by show [Value.int (d.2.1 0), Value.int (nI 0)] = _; rw [h1]; rfl)), op_of (sg := sgY j) (tl := tlY j) yr_83_1 hf (fun d h1 _ => (by show [Value.int (d.2.1 0), Value.int (nI 1)] = _; rw [h1]; rfl))⟩
        · skip
          rcases Nat.eq_zero_or_pos (er j 4) with e4 | e4
          · skip
            rcases Nat.eq_zero_or_pos (er j 6) with e6 | e6
            · skip
              rcases Nat.eq_zero_or_pos (er j 7) with e7 | e7
              · skip
                rcases Nat.eq_zero_or_pos (er j 8) with e8 | e8
                · skip
                  have hf : ∀ d : mD, d.2.1 = sgY j → d.2.2.1 = tlY j → FOK d _ := fun d h1 h2 => yb_0 (k := 8) e8 (by rw [h1]; rfl) (by rw [h1]; rfl) (yb_0 (k := 7) e7 (by rw [h1]; rfl) (by rw [h1]; rfl) (yb_0 (k := 6) e6 (by rw [h1]; rfl) (by rw [h1]; rfl) (yb_0 (k := 4) e4 (by rw [h1]; rfl) (by rw [h1]; rfl) (yb_1 (k := 3) e3 (by rw [h1]; rfl) (by rw [h1]; rfl) (yb_0 (k := 2) e2 (by rw [h1]; rfl) (by rw [h1]; rfl) (yb_1 (k := 1) e1 (by rw [h1]; rfl) (by rw [h1]; rfl) (yb_0 (k := 0) e0 (by rw [h1]; rfl) (by rw [h1]; rfl) (yL_k hj ⟨h1, h2⟩))))))))
                  exact ⟨op_of (sg := sgY j) (tl := tlY j) yr_84_0 hf (fun d h1 _ => (by show [Value.int (d.2.1 0), Value.int (nI 0)] = _; rw [h1]; rfl)), op_of (sg := sgY j) (tl := tlY j) yr_84_1 hf (fun d h1 _ => (by show [Value.int (d.2.1 0), Value.int (nI 1)] = _; rw [h1]; rfl))⟩
                · skip
                  have hf : ∀ d : mD, d.2.1 = sgY j → d.2.2.1 = tlY j → FOK d _ := fun d h1 h2 => yb_1 (k := 8) e8 (by rw [h1]; rfl) (by rw [h1]; rfl) (yb_0 (k := 7) e7 (by rw [h1]; rfl) (by rw [h1]; rfl) (yb_0 (k := 6) e6 (by rw [h1]; rfl) (by rw [h1]; rfl) (yb_0 (k := 4) e4 (by rw [h1]; rfl) (by rw [h1]; rfl) (yb_1 (k := 3) e3 (by rw [h1]; rfl) (by rw [h1]; rfl) (yb_0 (k := 2) e2 (by rw [h1]; rfl) (by rw [h1]; rfl) (yb_1 (k := 1) e1 (by rw [h1]; rfl) (by rw [h1]; rfl) (yb_0 (k := 0) e0 (by rw [h1]; rfl) (by rw [h1]; rfl) (yL_k hj ⟨h1, h2⟩))))))))
                  exact ⟨op_of (sg := sgY j) (tl := tlY j) yr_85_0 hf (fun d h1 _ => (by show [Value.int (d.2.1 0), Value.int (nI 0)] = _; rw [h1]; rfl)), op_of (sg := sgY j) (tl := tlY j) yr_85_1 hf (fun d h1 _ => (by show [Value.int (d.2.1 0), Value.int (nI 1)] = _; rw [h1]; rfl))⟩
              · skip
                rcases Nat.eq_zero_or_pos (er j 8) with e8 | e8
                · skip
                  have hf : ∀ d : mD, d.2.1 = sgY j → d.2.2.1 = tlY j → FOK d _ := fun d h1 h2 => yb_0 (k := 8) e8 (by rw [h1]; rfl) (by rw [h1]; rfl) (yb_1 (k := 7) e7 (by rw [h1]; rfl) (by rw [h1]; rfl) (yb_0 (k := 6) e6 (by rw [h1]; rfl) (by rw [h1]; rfl) (yb_0 (k := 4) e4 (by rw [h1]; rfl) (by rw [h1]; rfl) (yb_1 (k := 3) e3 (by rw [h1]; rfl) (by rw [h1]; rfl) (yb_0 (k := 2) e2 (by rw [h1]; rfl) (by rw [h1]; rfl) (yb_1 (k := 1) e1 (by rw [h1]; rfl) (by rw [h1]; rfl) (yb_0 (k := 0) e0 (by rw [h1]; rfl) (by rw [h1]; rfl) (yL_k hj ⟨h1, h2⟩))))))))
                  exact ⟨op_of (sg := sgY j) (tl := tlY j) yr_86_0 hf (fun d h1 _ => (by show [Value.int (d.2.1 0), Value.int (nI 0)] = _; rw [h1]; rfl)), op_of (sg := sgY j) (tl := tlY j) yr_86_1 hf (fun d h1 _ => (by show [Value.int (d.2.1 0), Value.int (nI 1)] = _; rw [h1]; rfl))⟩
                · skip
                  have hf : ∀ d : mD, d.2.1 = sgY j → d.2.2.1 = tlY j → FOK d _ := fun d h1 h2 => yb_1 (k := 8) e8 (by rw [h1]; rfl) (by rw [h1]; rfl) (yb_1 (k := 7) e7 (by rw [h1]; rfl) (by rw [h1]; rfl) (yb_0 (k := 6) e6 (by rw [h1]; rfl) (by rw [h1]; rfl) (yb_0 (k := 4) e4 (by rw [h1]; rfl) (by rw [h1]; rfl) (yb_1 (k := 3) e3 (by rw [h1]; rfl) (by rw [h1]; rfl) (yb_0 (k := 2) e2 (by rw [h1]; rfl) (by rw [h1]; rfl) (yb_1 (k := 1) e1 (by rw [h1]; rfl) (by rw [h1]; rfl) (yb_0 (k := 0) e0 (by rw [h1]; rfl) (by rw [h1]; rfl) (yL_k hj ⟨h1, h2⟩))))))))
                  exact ⟨op_of (sg := sgY j) (tl := tlY j) yr_87_0 hf (fun d h1 _ => (by show [Value.int (d.2.1 0), Value.int (nI 0)] = _; rw [h1]; rfl)), op_of (sg := sgY j) (tl := tlY j) yr_87_1 hf (fun d h1 _ => (by show [Value.int (d.2.1 0), Value.int (nI 1)] = _; rw [h1]; rfl))⟩
            · skip
              rcases Nat.eq_zero_or_pos (er j 7) with e7 | e7
              · skip
                rcases Nat.eq_zero_or_pos (er j 8) with e8 | e8
                · skip
                  have hf : ∀ d : mD, d.2.1 = sgY j → d.2.2.1 = tlY j → FOK d _ := fun d h1 h2 => yb_0 (k := 8) e8 (by rw [h1]; rfl) (by rw [h1]; rfl) (yb_0 (k := 7) e7 (by rw [h1]; rfl) (by rw [h1]; rfl) (yb_1 (k := 6) e6 (by rw [h1]; rfl) (by rw [h1]; rfl) (yb_0 (k := 4) e4 (by rw [h1]; rfl) (by rw [h1]; rfl) (yb_1 (k := 3) e3 (by rw [h1]; rfl) (by rw [h1]; rfl) (yb_0 (k := 2) e2 (by rw [h1]; rfl) (by rw [h1]; rfl) (yb_1 (k := 1) e1 (by rw [h1]; rfl) (by rw [h1]; rfl) (yb_0 (k := 0) e0 (by rw [h1]; rfl) (by rw [h1]; rfl) (yL_k hj ⟨h1, h2⟩))))))))
                  exact ⟨op_of (sg := sgY j) (tl := tlY j) yr_88_0 hf (fun d h1 _ => (by show [Value.int (d.2.1 0), Value.int (nI 0)] = _; rw [h1]; rfl)), op_of (sg := sgY j) (tl := tlY j) yr_88_1 hf (fun d h1 _ => (by show [Value.int (d.2.1 0), Value.int (nI 1)] = _; rw [h1]; rfl))⟩
                · skip
                  have hf : ∀ d : mD, d.2.1 = sgY j → d.2.2.1 = tlY j → FOK d _ := fun d h1 h2 => yb_1 (k := 8) e8 (by rw [h1]; rfl) (by rw [h1]; rfl) (yb_0 (k := 7) e7 (by rw [h1]; rfl) (by rw [h1]; rfl) (yb_1 (k := 6) e6 (by rw [h1]; rfl) (by rw [h1]; rfl) (yb_0 (k := 4) e4 (by rw [h1]; rfl) (by rw [h1]; rfl) (yb_1 (k := 3) e3 (by rw [h1]; rfl) (by rw [h1]; rfl) (yb_0 (k := 2) e2 (by rw [h1]; rfl) (by rw [h1]; rfl) (yb_1 (k := 1) e1 (by rw [h1]; rfl) (by rw [h1]; rfl) (yb_0 (k := 0) e0 (by rw [h1]; rfl) (by rw [h1]; rfl) (yL_k hj ⟨h1, h2⟩))))))))
                  exact ⟨op_of (sg := sgY j) (tl := tlY j) yr_89_0 hf (fun d h1 _ => (by show [Value.int (d.2.1 0), Value.int (nI 0)] = _; rw [h1]; rfl)), op_of (sg := sgY j) (tl := tlY j) yr_89_1 hf (fun d h1 _ => (by show [Value.int (d.2.1 0), Value.int (nI 1)] = _; rw [h1]; rfl))⟩
              · skip
                rcases Nat.eq_zero_or_pos (er j 8) with e8 | e8
                · skip
                  have hf : ∀ d : mD, d.2.1 = sgY j → d.2.2.1 = tlY j → FOK d _ := fun d h1 h2 => yb_0 (k := 8) e8 (by rw [h1]; rfl) (by rw [h1]; rfl) (yb_1 (k := 7) e7 (by rw [h1]; rfl) (by rw [h1]; rfl) (yb_1 (k := 6) e6 (by rw [h1]; rfl) (by rw [h1]; rfl) (yb_0 (k := 4) e4 (by rw [h1]; rfl) (by rw [h1]; rfl) (yb_1 (k := 3) e3 (by rw [h1]; rfl) (by rw [h1]; rfl) (yb_0 (k := 2) e2 (by rw [h1]; rfl) (by rw [h1]; rfl) (yb_1 (k := 1) e1 (by rw [h1]; rfl) (by rw [h1]; rfl) (yb_0 (k := 0) e0 (by rw [h1]; rfl) (by rw [h1]; rfl) (yL_k hj ⟨h1, h2⟩))))))))
                  exact ⟨op_of (sg := sgY j) (tl := tlY j) yr_90_0 hf (fun d h1 _ => (by show [Value.int (d.2.1 0), Value.int (nI 0)] = _; rw [h1]; rfl)), op_of (sg := sgY j) (tl := tlY j) yr_90_1 hf (fun d h1 _ => (by show [Value.int (d.2.1 0), Value.int (nI 1)] = _; rw [h1]; rfl))⟩
                · skip
                  have hf : ∀ d : mD, d.2.1 = sgY j → d.2.2.1 = tlY j → FOK d _ := fun d h1 h2 => yb_1 (k := 8) e8 (by rw [h1]; rfl) (by rw [h1]; rfl) (yb_1 (k := 7) e7 (by rw [h1]; rfl) (by rw [h1]; rfl) (yb_1 (k := 6) e6 (by rw [h1]; rfl) (by rw [h1]; rfl) (yb_0 (k := 4) e4 (by rw [h1]; rfl) (by rw [h1]; rfl) (yb_1 (k := 3) e3 (by rw [h1]; rfl) (by rw [h1]; rfl) (yb_0 (k := 2) e2 (by rw [h1]; rfl) (by rw [h1]; rfl) (yb_1 (k := 1) e1 (by rw [h1]; rfl) (by rw [h1]; rfl) (yb_0 (k := 0) e0 (by rw [h1]; rfl) (by rw [h1]; rfl) (yL_k hj ⟨h1, h2⟩))))))))
                  exact ⟨op_of (sg := sgY j) (tl := tlY j) yr_91_0 hf (fun d h1 _ => (by show [Value.int (d.2.1 0), Value.int (nI 0)] = _; rw [h1]; rfl)), op_of (sg := sgY j) (tl := tlY j) yr_91_1 hf (fun d h1 _ => (by show [Value.int (d.2.1 0), Value.int (nI 1)] = _; rw [h1]; rfl))⟩
          · skip
            rcases Nat.eq_zero_or_pos (er j 6) with e6 | e6
            · skip
              rcases Nat.eq_zero_or_pos (er j 8) with e8 | e8
              · skip
                have hf : ∀ d : mD, d.2.1 = sgY j → d.2.2.1 = tlY j → FOK d _ := fun d h1 h2 => yb_0 (k := 8) e8 (by rw [h1]; rfl) (by rw [h1]; rfl) (yb_0 (k := 6) e6 (by rw [h1]; rfl) (by rw [h1]; rfl) (yb_1 (k := 4) e4 (by rw [h1]; rfl) (by rw [h1]; rfl) (yb_1 (k := 3) e3 (by rw [h1]; rfl) (by rw [h1]; rfl) (yb_0 (k := 2) e2 (by rw [h1]; rfl) (by rw [h1]; rfl) (yb_1 (k := 1) e1 (by rw [h1]; rfl) (by rw [h1]; rfl) (yb_0 (k := 0) e0 (by rw [h1]; rfl) (by rw [h1]; rfl) (yL_k hj ⟨h1, h2⟩)))))))
                exact ⟨op_of (sg := sgY j) (tl := tlY j) yr_92_0 hf (fun d h1 _ => (by show [Value.int (d.2.1 0), Value.int (nI 0)] = _; rw [h1]; rfl)), op_of (sg := sgY j) (tl := tlY j) yr_92_1 hf (fun d h1 _ => (by show [Value.int (d.2.1 0), Value.int (nI 1)] = _; rw [h1]; rfl))⟩
              · skip
                have hf : ∀ d : mD, d.2.1 = sgY j → d.2.2.1 = tlY j → FOK d _ := fun d h1 h2 => yb_1 (k := 8) e8 (by rw [h1]; rfl) (by rw [h1]; rfl) (yb_0 (k := 6) e6 (by rw [h1]; rfl) (by rw [h1]; rfl) (yb_1 (k := 4) e4 (by rw [h1]; rfl) (by rw [h1]; rfl) (yb_1 (k := 3) e3 (by rw [h1]; rfl) (by rw [h1]; rfl) (yb_0 (k := 2) e2 (by rw [h1]; rfl) (by rw [h1]; rfl) (yb_1 (k := 1) e1 (by rw [h1]; rfl) (by rw [h1]; rfl) (yb_0 (k := 0) e0 (by rw [h1]; rfl) (by rw [h1]; rfl) (yL_k hj ⟨h1, h2⟩)))))))
                exact ⟨op_of (sg := sgY j) (tl := tlY j) yr_93_0 hf (fun d h1 _ => (by show [Value.int (d.2.1 0), Value.int (nI 0)] = _; rw [h1]; rfl)), op_of (sg := sgY j) (tl := tlY j) yr_93_1 hf (fun d h1 _ => (by show [Value.int (d.2.1 0), Value.int (nI 1)] = _; rw [h1]; rfl))⟩
            · skip
              rcases Nat.eq_zero_or_pos (er j 8) with e8 | e8
              · skip
                have hf : ∀ d : mD, d.2.1 = sgY j → d.2.2.1 = tlY j → FOK d _ := fun d h1 h2 => yb_0 (k := 8) e8 (by rw [h1]; rfl) (by rw [h1]; rfl) (yb_1 (k := 6) e6 (by rw [h1]; rfl) (by rw [h1]; rfl) (yb_1 (k := 4) e4 (by rw [h1]; rfl) (by rw [h1]; rfl) (yb_1 (k := 3) e3 (by rw [h1]; rfl) (by rw [h1]; rfl) (yb_0 (k := 2) e2 (by rw [h1]; rfl) (by rw [h1]; rfl) (yb_1 (k := 1) e1 (by rw [h1]; rfl) (by rw [h1]; rfl) (yb_0 (k := 0) e0 (by rw [h1]; rfl) (by rw [h1]; rfl) (yL_k hj ⟨h1, h2⟩)))))))
                exact ⟨op_of (sg := sgY j) (tl := tlY j) yr_94_0 hf (fun d h1 _ => (by show [Value.int (d.2.1 0), Value.int (nI 0)] = _; rw [h1]; rfl)), op_of (sg := sgY j) (tl := tlY j) yr_94_1 hf (fun d h1 _ => (by show [Value.int (d.2.1 0), Value.int (nI 1)] = _; rw [h1]; rfl))⟩
              · skip
                have hf : ∀ d : mD, d.2.1 = sgY j → d.2.2.1 = tlY j → FOK d _ := fun d h1 h2 => yb_1 (k := 8) e8 (by rw [h1]; rfl) (by rw [h1]; rfl) (yb_1 (k := 6) e6 (by rw [h1]; rfl) (by rw [h1]; rfl) (yb_1 (k := 4) e4 (by rw [h1]; rfl) (by rw [h1]; rfl) (yb_1 (k := 3) e3 (by rw [h1]; rfl) (by rw [h1]; rfl) (yb_0 (k := 2) e2 (by rw [h1]; rfl) (by rw [h1]; rfl) (yb_1 (k := 1) e1 (by rw [h1]; rfl) (by rw [h1]; rfl) (yb_0 (k := 0) e0 (by rw [h1]; rfl) (by rw [h1]; rfl) (yL_k hj ⟨h1, h2⟩)))))))
                exact ⟨op_of (sg := sgY j) (tl := tlY j) yr_95_0 hf (fun d h1 _ => (by show [Value.int (d.2.1 0), Value.int (nI 0)] = _; rw [h1]; rfl)), op_of (sg := sgY j) (tl := tlY j) yr_95_1 hf (fun d h1 _ => (by show [Value.int (d.2.1 0), Value.int (nI 1)] = _; rw [h1]; rfl))⟩
      · skip
        rcases Nat.eq_zero_or_pos (er j 3) with e3 | e3
        · skip
          rcases Nat.eq_zero_or_pos (er j 4) with e4 | e4
          · skip
            rcases Nat.eq_zero_or_pos (er j 7) with e7 | e7
            · skip
              rcases Nat.eq_zero_or_pos (er j 8) with e8 | e8
              · skip
                have hf : ∀ d : mD, d.2.1 = sgY j → d.2.2.1 = tlY j → FOK d _ := fun d h1 h2 => yb_0 (k := 8) e8 (by rw [h1]; rfl) (by rw [h1]; rfl) (yb_0 (k := 7) e7 (by rw [h1]; rfl) (by rw [h1]; rfl) (yb_0 (k := 4) e4 (by rw [h1]; rfl) (by rw [h1]; rfl) (yb_0 (k := 3) e3 (by rw [h1]; rfl) (by rw [h1]; rfl) (yb_1 (k := 2) e2 (by rw [h1]; rfl) (by rw [h1]; rfl) (yb_1 (k := 1) e1 (by rw [h1]; rfl) (by rw [h1]; rfl) (yb_0 (k := 0) e0 (by rw [h1]; rfl) (by rw [h1]; rfl) (yL_k hj ⟨h1, h2⟩)))))))
                exact ⟨op_of (sg := sgY j) (tl := tlY j) yr_96_0 hf (fun d h1 _ => (by show [Value.int (d.2.1 0), Value.int (nI 0)] = _; rw [h1]; rfl)), op_of (sg := sgY j) (tl := tlY j) yr_96_1 hf (fun d h1 _ => (by show [Value.int (d.2.1 0), Value.int (nI 1)] = _; rw [h1]; rfl))⟩
              · skip
                have hf : ∀ d : mD, d.2.1 = sgY j → d.2.2.1 = tlY j → FOK d _ := fun d h1 h2 => yb_1 (k := 8) e8 (by rw [h1]; rfl) (by rw [h1]; rfl) (yb_0 (k := 7) e7 (by rw [h1]; rfl) (by rw [h1]; rfl) (yb_0 (k := 4) e4 (by rw [h1]; rfl) (by rw [h1]; rfl) (yb_0 (k := 3) e3 (by rw [h1]; rfl) (by rw [h1]; rfl) (yb_1 (k := 2) e2 (by rw [h1]; rfl) (by rw [h1]; rfl) (yb_1 (k := 1) e1 (by rw [h1]; rfl) (by rw [h1]; rfl) (yb_0 (k := 0) e0 (by rw [h1]; rfl) (by rw [h1]; rfl) (yL_k hj ⟨h1, h2⟩)))))))
                exact ⟨op_of (sg := sgY j) (tl := tlY j) yr_97_0 hf (fun d h1 _ => (by show [Value.int (d.2.1 0), Value.int (nI 0)] = _; rw [h1]; rfl)), op_of (sg := sgY j) (tl := tlY j) yr_97_1 hf (fun d h1 _ => (by show [Value.int (d.2.1 0), Value.int (nI 1)] = _; rw [h1]; rfl))⟩
            · skip
              rcases Nat.eq_zero_or_pos (er j 8) with e8 | e8
              · skip
                have hf : ∀ d : mD, d.2.1 = sgY j → d.2.2.1 = tlY j → FOK d _ := fun d h1 h2 => yb_0 (k := 8) e8 (by rw [h1]; rfl) (by rw [h1]; rfl) (yb_1 (k := 7) e7 (by rw [h1]; rfl) (by rw [h1]; rfl) (yb_0 (k := 4) e4 (by rw [h1]; rfl) (by rw [h1]; rfl) (yb_0 (k := 3) e3 (by rw [h1]; rfl) (by rw [h1]; rfl) (yb_1 (k := 2) e2 (by rw [h1]; rfl) (by rw [h1]; rfl) (yb_1 (k := 1) e1 (by rw [h1]; rfl) (by rw [h1]; rfl) (yb_0 (k := 0) e0 (by rw [h1]; rfl) (by rw [h1]; rfl) (yL_k hj ⟨h1, h2⟩)))))))
                exact ⟨op_of (sg := sgY j) (tl := tlY j) yr_98_0 hf (fun d h1 _ => (by show [Value.int (d.2.1 0), Value.int (nI 0)] = _; rw [h1]; rfl)), op_of (sg := sgY j) (tl := tlY j) yr_98_1 hf (fun d h1 _ => (by show [Value.int (d.2.1 0), Value.int (nI 1)] = _; rw [h1]; rfl))⟩
              · skip
                have hf : ∀ d : mD, d.2.1 = sgY j → d.2.2.1 = tlY j → FOK d _ := fun d h1 h2 => yb_1 (k := 8) e8 (by rw [h1]; rfl) (by rw [h1]; rfl) (yb_1 (k := 7) e7 (by rw [h1]; rfl) (by rw [h1]; rfl) (yb_0 (k := 4) e4 (by rw [h1]; rfl) (by rw [h1]; rfl) (yb_0 (k := 3) e3 (by rw [h1]; rfl) (by rw [h1]; rfl) (yb_1 (k := 2) e2 (by rw [h1]; rfl) (by rw [h1]; rfl) (yb_1 (k := 1) e1 (by rw [h1]; rfl) (by rw [h1]; rfl) (yb_0 (k := 0) e0 (by rw [h1]; rfl) (by rw [h1]; rfl) (yL_k hj ⟨h1, h2⟩)))))))
                exact ⟨op_of (sg := sgY j) (tl := tlY j) yr_99_0 hf (fun d h1 _ => (by show [Value.int (d.2.1 0), Value.int (nI 0)] = _; rw [h1]; rfl)), op_of (sg := sgY j) (tl := tlY j) yr_99_1 hf (fun d h1 _ => (by show [Value.int (d.2.1 0), Value.int (nI 1)] = _; rw [h1]; rfl))⟩
          · skip
            rcases Nat.eq_zero_or_pos (er j 8) with e8 | e8
            · skip
              have hf : ∀ d : mD, d.2.1 = sgY j → d.2.2.1 = tlY j → FOK d _ := fun d h1 h2 => yb_0 (k := 8) e8 (by rw [h1]; rfl) (by rw [h1]; rfl) (yb_1 (k := 4) e4 (by rw [h1]; rfl) (by rw [h1]; rfl) (yb_0 (k := 3) e3 (by rw [h1]; rfl) (by rw [h1]; rfl) (yb_1 (k := 2) e2 (by rw [h1]; rfl) (by rw [h1]; rfl) (yb_1 (k := 1) e1 (by rw [h1]; rfl) (by rw [h1]; rfl) (yb_0 (k := 0) e0 (by rw [h1]; rfl) (by rw [h1]; rfl) (yL_k hj ⟨h1, h2⟩))))))
              exact ⟨op_of (sg := sgY j) (tl := tlY j) yr_100_0 hf (fun d h1 _ => (by show [Value.int (d.2.1 0), Value.int (nI 0)] = _; rw [h1]; rfl)), op_of (sg := sgY j) (tl := tlY j) yr_100_1 hf (fun d h1 _ => (by show [Value.int (d.2.1 0), Value.int (nI 1)] = _; rw [h1]; rfl))⟩
            · skip
              have hf : ∀ d : mD, d.2.1 = sgY j → d.2.2.1 = tlY j → FOK d _ := fun d h1 h2 => yb_1 (k := 8) e8 (by rw [h1]; rfl) (by rw [h1]; rfl) (yb_1 (k := 4) e4 (by rw [h1]; rfl) (by rw [h1]; rfl) (yb_0 (k := 3) e3 (by rw [h1]; rfl) (by rw [h1]; rfl) (yb_1 (k := 2) e2 (by rw [h1]; rfl) (by rw [h1]; rfl) (yb_1 (k := 1) e1 (by rw [h1]; rfl) (by rw [h1]; rfl) (yb_0 (k := 0) e0 (by rw [h1]; rfl) (by rw [h1]; rfl) (yL_k hj ⟨h1, h2⟩))))))
              exact ⟨op_of (sg := sgY j) (tl := tlY j) yr_101_0 hf (fun d h1 _ => (by show [Value.int (d.2.1 0), Value.int (nI 0)] = _; rw [h1]; rfl)), op_of (sg := sgY j) (tl := tlY j) yr_101_1 hf (fun d h1 _ => (by show [Value.int (d.2.1 0), Value.int (nI 1)] = _; rw [h1]; rfl))⟩
        · skip
          rcases Nat.eq_zero_or_pos (er j 4) with e4 | e4
          · skip
            rcases Nat.eq_zero_or_pos (er j 7) with e7 | e7
            · skip
              rcases Nat.eq_zero_or_pos (er j 8) with e8 | e8
              · skip
                have hf : ∀ d : mD, d.2.1 = sgY j → d.2.2.1 = tlY j → FOK d _ := fun d h1 h2 => yb_0 (k := 8) e8 (by rw [h1]; rfl) (by rw [h1]; rfl) (yb_0 (k := 7) e7 (by rw [h1]; rfl) (by rw [h1]; rfl) (yb_0 (k := 4) e4 (by rw [h1]; rfl) (by rw [h1]; rfl) (yb_1 (k := 3) e3 (by rw [h1]; rfl) (by rw [h1]; rfl) (yb_1 (k := 2) e2 (by rw [h1]; rfl) (by rw [h1]; rfl) (yb_1 (k := 1) e1 (by rw [h1]; rfl) (by rw [h1]; rfl) (yb_0 (k := 0) e0 (by rw [h1]; rfl) (by rw [h1]; rfl) (yL_k hj ⟨h1, h2⟩)))))))
                exact ⟨op_of (sg := sgY j) (tl := tlY j) yr_102_0 hf (fun d h1 _ => (by show [Value.int (d.2.1 0), Value.int (nI 0)] = _; rw [h1]; rfl)), op_of (sg := sgY j) (tl := tlY j) yr_102_1 hf (fun d h1 _ => (by show [Value.int (d.2.1 0), Value.int (nI 1)] = _; rw [h1]; rfl))⟩
              · skip
                have hf : ∀ d : mD, d.2.1 = sgY j → d.2.2.1 = tlY j → FOK d _ := fun d h1 h2 => yb_1 (k := 8) e8 (by rw [h1]; rfl) (by rw [h1]; rfl) (yb_0 (k := 7) e7 (by rw [h1]; rfl) (by rw [h1]; rfl) (yb_0 (k := 4) e4 (by rw [h1]; rfl) (by rw [h1]; rfl) (yb_1 (k := 3) e3 (by rw [h1]; rfl) (by rw [h1]; rfl) (yb_1 (k := 2) e2 (by rw [h1]; rfl) (by rw [h1]; rfl) (yb_1 (k := 1) e1 (by rw [h1]; rfl) (by rw [h1]; rfl) (yb_0 (k := 0) e0 (by rw [h1]; rfl) (by rw [h1]; rfl) (yL_k hj ⟨h1, h2⟩)))))))
                exact ⟨op_of (sg := sgY j) (tl := tlY j) yr_103_0 hf (fun d h1 _ => (by show [Value.int (d.2.1 0), Value.int (nI 0)] = _; rw [h1]; rfl)), op_of (sg := sgY j) (tl := tlY j) yr_103_1 hf (fun d h1 _ => (by show [Value.int (d.2.1 0), Value.int (nI 1)] = _; rw [h1]; rfl))⟩
            · skip
              rcases Nat.eq_zero_or_pos (er j 8) with e8 | e8
              · skip
                have hf : ∀ d : mD, d.2.1 = sgY j → d.2.2.1 = tlY j → FOK d _ := fun d h1 h2 => yb_0 (k := 8) e8 (by rw [h1]; rfl) (by rw [h1]; rfl) (yb_1 (k := 7) e7 (by rw [h1]; rfl) (by rw [h1]; rfl) (yb_0 (k := 4) e4 (by rw [h1]; rfl) (by rw [h1]; rfl) (yb_1 (k := 3) e3 (by rw [h1]; rfl) (by rw [h1]; rfl) (yb_1 (k := 2) e2 (by rw [h1]; rfl) (by rw [h1]; rfl) (yb_1 (k := 1) e1 (by rw [h1]; rfl) (by rw [h1]; rfl) (yb_0 (k := 0) e0 (by rw [h1]; rfl) (by rw [h1]; rfl) (yL_k hj ⟨h1, h2⟩)))))))
                exact ⟨op_of (sg := sgY j) (tl := tlY j) yr_104_0 hf (fun d h1 _ => (by show [Value.int (d.2.1 0), Value.int (nI 0)] = _; rw [h1]; rfl)), op_of (sg := sgY j) (tl := tlY j) yr_104_1 hf (fun d h1 _ => (by show [Value.int (d.2.1 0), Value.int (nI 1)] = _; rw [h1]; rfl))⟩
              · skip
                have hf : ∀ d : mD, d.2.1 = sgY j → d.2.2.1 = tlY j → FOK d _ := fun d h1 h2 => yb_1 (k := 8) e8 (by rw [h1]; rfl) (by rw [h1]; rfl) (yb_1 (k := 7) e7 (by rw [h1]; rfl) (by rw [h1]; rfl) (yb_0 (k := 4) e4 (by rw [h1]; rfl) (by rw [h1]; rfl) (yb_1 (k := 3) e3 (by rw [h1]; rfl) (by rw [h1]; rfl) (yb_1 (k := 2) e2 (by rw [h1]; rfl) (by rw [h1]; rfl) (yb_1 (k := 1) e1 (by rw [h1]; rfl) (by rw [h1]; rfl) (yb_0 (k := 0) e0 (by rw [h1]; rfl) (by rw [h1]; rfl) (yL_k hj ⟨h1, h2⟩)))))))
                exact ⟨op_of (sg := sgY j) (tl := tlY j) yr_105_0 hf (fun d h1 _ => (by show [Value.int (d.2.1 0), Value.int (nI 0)] = _; rw [h1]; rfl)), op_of (sg := sgY j) (tl := tlY j) yr_105_1 hf (fun d h1 _ => (by show [Value.int (d.2.1 0), Value.int (nI 1)] = _; rw [h1]; rfl))⟩
          · skip
            rcases Nat.eq_zero_or_pos (er j 8) with e8 | e8
            · skip
              have hf : ∀ d : mD, d.2.1 = sgY j → d.2.2.1 = tlY j → FOK d _ := fun d h1 h2 => yb_0 (k := 8) e8 (by rw [h1]; rfl) (by rw [h1]; rfl) (yb_1 (k := 4) e4 (by rw [h1]; rfl) (by rw [h1]; rfl) (yb_1 (k := 3) e3 (by rw [h1]; rfl) (by rw [h1]; rfl) (yb_1 (k := 2) e2 (by rw [h1]; rfl) (by rw [h1]; rfl) (yb_1 (k := 1) e1 (by rw [h1]; rfl) (by rw [h1]; rfl) (yb_0 (k := 0) e0 (by rw [h1]; rfl) (by rw [h1]; rfl) (yL_k hj ⟨h1, h2⟩))))))
              exact ⟨op_of (sg := sgY j) (tl := tlY j) yr_106_0 hf (fun d h1 _ => (by show [Value.int (d.2.1 0), Value.int (nI 0)] = _; rw [h1]; rfl)), op_of (sg := sgY j) (tl := tlY j) yr_106_1 hf (fun d h1 _ => (by show [Value.int (d.2.1 0), Value.int (nI 1)] = _; rw [h1]; rfl))⟩
            · skip
              have hf : ∀ d : mD, d.2.1 = sgY j → d.2.2.1 = tlY j → FOK d _ := fun d h1 h2 => yb_1 (k := 8) e8 (by rw [h1]; rfl) (by rw [h1]; rfl) (yb_1 (k := 4) e4 (by rw [h1]; rfl) (by rw [h1]; rfl) (yb_1 (k := 3) e3 (by rw [h1]; rfl) (by rw [h1]; rfl) (yb_1 (k := 2) e2 (by rw [h1]; rfl) (by rw [h1]; rfl) (yb_1 (k := 1) e1 (by rw [h1]; rfl) (by rw [h1]; rfl) (yb_0 (k := 0) e0 (by rw [h1]; rfl) (by rw [h1]; rfl) (yL_k hj ⟨h1, h2⟩))))))
              exact ⟨op_of (sg := sgY j) (tl := tlY j) yr_107_0 hf (fun d h1 _ => (by show [Value.int (d.2.1 0), Value.int (nI 0)] = _; rw [h1]; rfl)), op_of (sg := sgY j) (tl := tlY j) yr_107_1 hf (fun d h1 _ => (by show [Value.int (d.2.1 0), Value.int (nI 1)] = _; rw [h1]; rfl))⟩
  · skip
    rcases Nat.eq_zero_or_pos (er j 1) with e1 | e1
    · skip
      rcases Nat.eq_zero_or_pos (er j 2) with e2 | e2
      · skip
        rcases Nat.eq_zero_or_pos (er j 3) with e3 | e3
        · skip
          rcases Nat.eq_zero_or_pos (er j 4) with e4 | e4
          · skip
            rcases Nat.eq_zero_or_pos (er j 5) with e5 | e5
            · skip
              rcases Nat.eq_zero_or_pos (er j 6) with e6 | e6
              · skip
                rcases Nat.eq_zero_or_pos (er j 7) with e7 | e7
                · skip
                  rcases Nat.eq_zero_or_pos (er j 8) with e8 | e8
                  · skip
                    have hf : ∀ d : mD, d.2.1 = sgY j → d.2.2.1 = tlY j → FOK d _ := fun d h1 h2 => yb_0 (k := 8) e8 (by rw [h1]; rfl) (by rw [h1]; rfl) (yb_0 (k := 7) e7 (by rw [h1]; rfl) (by rw [h1]; rfl) (yb_0 (k := 6) e6 (by rw [h1]; rfl) (by rw [h1]; rfl) (yb_0 (k := 5) e5 (by rw [h1]; rfl) (by rw [h1]; rfl) (yb_0 (k := 4) e4 (by rw [h1]; rfl) (by rw [h1]; rfl) (yb_0 (k := 3) e3 (by rw [h1]; rfl) (by rw [h1]; rfl) (yb_0 (k := 2) e2 (by rw [h1]; rfl) (by rw [h1]; rfl) (yb_0 (k := 1) e1 (by rw [h1]; rfl) (by rw [h1]; rfl) (yb_1 (k := 0) e0 (by rw [h1]; rfl) (by rw [h1]; rfl) (yL_k hj ⟨h1, h2⟩)))))))))
                    exact ⟨op_of (sg := sgY j) (tl := tlY j) yr_108_0 hf (fun d h1 _ => (by show [Value.int (d.2.1 0), Value.int (nI 0)] = _; rw [h1]; rfl)), op_of (sg := sgY j) (tl := tlY j) yr_108_1 hf (fun d h1 _ => (by show [Value.int (d.2.1 0), Value.int (nI 1)] = _; rw [h1]; rfl))⟩
                  · skip
                    have hf : ∀ d : mD, d.2.1 = sgY j → d.2.2.1 = tlY j → FOK d _ := fun d h1 h2 => yb_1 (k := 8) e8 (by rw [h1]; rfl) (by rw [h1]; rfl) (yb_0 (k := 7) e7 (by rw [h1]; rfl) (by rw [h1]; rfl) (yb_0 (k := 6) e6 (by rw [h1]; rfl) (by rw [h1]; rfl) (yb_0 (k := 5) e5 (by rw [h1]; rfl) (by rw [h1]; rfl) (yb_0 (k := 4) e4 (by rw [h1]; rfl) (by rw [h1]; rfl) (yb_0 (k := 3) e3 (by rw [h1]; rfl) (by rw [h1]; rfl) (yb_0 (k := 2) e2 (by rw [h1]; rfl) (by rw [h1]; rfl) (yb_0 (k := 1) e1 (by rw [h1]; rfl) (by rw [h1]; rfl) (yb_1 (k := 0) e0 (by rw [h1]; rfl) (by rw [h1]; rfl) (yL_k hj ⟨h1, h2⟩)))))))))
                    exact ⟨op_of (sg := sgY j) (tl := tlY j) yr_109_0 hf (fun d h1 _ => (by show [Value.int (d.2.1 0), Value.int (nI 0)] = _; rw [h1]; rfl)), op_of (sg := sgY j) (tl := tlY j) yr_109_1 hf (fun d h1 _ => (by show [Value.int (d.2.1 0), Value.int (nI 1)] = _; rw [h1]; rfl))⟩
                · skip
                  rcases Nat.eq_zero_or_pos (er j 8) with e8 | e8
                  · skip
                    have hf : ∀ d : mD, d.2.1 = sgY j → d.2.2.1 = tlY j → FOK d _ := fun d h1 h2 => yb_0 (k := 8) e8 (by rw [h1]; rfl) (by rw [h1]; rfl) (yb_1 (k := 7) e7 (by rw [h1]; rfl) (by rw [h1]; rfl) (yb_0 (k := 6) e6 (by rw [h1]; rfl) (by rw [h1]; rfl) (yb_0 (k := 5) e5 (by rw [h1]; rfl) (by rw [h1]; rfl) (yb_0 (k := 4) e4 (by rw [h1]; rfl) (by rw [h1]; rfl) (yb_0 (k := 3) e3 (by rw [h1]; rfl) (by rw [h1]; rfl) (yb_0 (k := 2) e2 (by rw [h1]; rfl) (by rw [h1]; rfl) (yb_0 (k := 1) e1 (by rw [h1]; rfl) (by rw [h1]; rfl) (yb_1 (k := 0) e0 (by rw [h1]; rfl) (by rw [h1]; rfl) (yL_k hj ⟨h1, h2⟩)))))))))
                    exact ⟨op_of (sg := sgY j) (tl := tlY j) yr_110_0 hf (fun d h1 _ => (by show [Value.int (d.2.1 0), Value.int (nI 0)] = _; rw [h1]; rfl)), op_of (sg := sgY j) (tl := tlY j) yr_110_1 hf (fun d h1 _ => (by show [Value.int (d.2.1 0), Value.int (nI 1)] = _; rw [h1]; rfl))⟩
                  · skip
                    have hf : ∀ d : mD, d.2.1 = sgY j → d.2.2.1 = tlY j → FOK d _ := fun d h1 h2 => yb_1 (k := 8) e8 (by rw [h1]; rfl) (by rw [h1]; rfl) (yb_1 (k := 7) e7 (by rw [h1]; rfl) (by rw [h1]; rfl) (yb_0 (k := 6) e6 (by rw [h1]; rfl) (by rw [h1]; rfl) (yb_0 (k := 5) e5 (by rw [h1]; rfl) (by rw [h1]; rfl) (yb_0 (k := 4) e4 (by rw [h1]; rfl) (by rw [h1]; rfl) (yb_0 (k := 3) e3 (by rw [h1]; rfl) (by rw [h1]; rfl) (yb_0 (k := 2) e2 (by rw [h1]; rfl) (by rw [h1]; rfl) (yb_0 (k := 1) e1 (by rw [h1]; rfl) (by rw [h1]; rfl) (yb_1 (k := 0) e0 (by rw [h1]; rfl) (by rw [h1]; rfl) (yL_k hj ⟨h1, h2⟩)))))))))
                    exact ⟨op_of (sg := sgY j) (tl := tlY j) yr_111_0 hf (fun d h1 _ => (by show [Value.int (d.2.1 0), Value.int (nI 0)] = _; rw [h1]; rfl)), op_of (sg := sgY j) (tl := tlY j) yr_111_1 hf (fun d h1 _ => (by show [Value.int (d.2.1 0), Value.int (nI 1)] = _; rw [h1]; rfl))⟩
              · skip
                rcases Nat.eq_zero_or_pos (er j 7) with e7 | e7
                · skip
                  rcases Nat.eq_zero_or_pos (er j 8) with e8 | e8
                  · skip
                    have hf : ∀ d : mD, d.2.1 = sgY j → d.2.2.1 = tlY j → FOK d _ := fun d h1 h2 => yb_0 (k := 8) e8 (by rw [h1]; rfl) (by rw [h1]; rfl) (yb_0 (k := 7) e7 (by rw [h1]; rfl) (by rw [h1]; rfl) (yb_1 (k := 6) e6 (by rw [h1]; rfl) (by rw [h1]; rfl) (yb_0 (k := 5) e5 (by rw [h1]; rfl) (by rw [h1]; rfl) (yb_0 (k := 4) e4 (by rw [h1]; rfl) (by rw [h1]; rfl) (yb_0 (k := 3) e3 (by rw [h1]; rfl) (by rw [h1]; rfl) (yb_0 (k := 2) e2 (by rw [h1]; rfl) (by rw [h1]; rfl) (yb_0 (k := 1) e1 (by rw [h1]; rfl) (by rw [h1]; rfl) (yb_1 (k := 0) e0 (by rw [h1]; rfl) (by rw [h1]; rfl) (yL_k hj ⟨h1, h2⟩)))))))))
                    exact ⟨op_of (sg := sgY j) (tl := tlY j) yr_112_0 hf (fun d h1 _ => (by show [Value.int (d.2.1 0), Value.int (nI 0)] = _; rw [h1]; rfl)), op_of (sg := sgY j) (tl := tlY j) yr_112_1 hf (fun d h1 _ => (by show [Value.int (d.2.1 0), Value.int (nI 1)] = _; rw [h1]; rfl))⟩
                  · skip
                    have hf : ∀ d : mD, d.2.1 = sgY j → d.2.2.1 = tlY j → FOK d _ := fun d h1 h2 => yb_1 (k := 8) e8 (by rw [h1]; rfl) (by rw [h1]; rfl) (yb_0 (k := 7) e7 (by rw [h1]; rfl) (by rw [h1]; rfl) (yb_1 (k := 6) e6 (by rw [h1]; rfl) (by rw [h1]; rfl) (yb_0 (k := 5) e5 (by rw [h1]; rfl) (by rw [h1]; rfl) (yb_0 (k := 4) e4 (by rw [h1]; rfl) (by rw [h1]; rfl) (yb_0 (k := 3) e3 (by rw [h1]; rfl) (by rw [h1]; rfl) (yb_0 (k := 2) e2 (by rw [h1]; rfl) (by rw [h1]; rfl) (yb_0 (k := 1) e1 (by rw [h1]; rfl) (by rw [h1]; rfl) (yb_1 (k := 0) e0 (by rw [h1]; rfl) (by rw [h1]; rfl) (yL_k hj ⟨h1, h2⟩)))))))))
                    exact ⟨op_of (sg := sgY j) (tl := tlY j) yr_113_0 hf (fun d h1 _ => (by show [Value.int (d.2.1 0), Value.int (nI 0)] = _; rw [h1]; rfl)), op_of (sg := sgY j) (tl := tlY j) yr_113_1 hf (fun d h1 _ => (by show [Value.int (d.2.1 0), Value.int (nI 1)] = _; rw [h1]; rfl))⟩
                · skip
                  rcases Nat.eq_zero_or_pos (er j 8) with e8 | e8
                  · skip
                    have hf : ∀ d : mD, d.2.1 = sgY j → d.2.2.1 = tlY j → FOK d _ := fun d h1 h2 => yb_0 (k := 8) e8 (by rw [h1]; rfl) (by rw [h1]; rfl) (yb_1 (k := 7) e7 (by rw [h1]; rfl) (by rw [h1]; rfl) (yb_1 (k := 6) e6 (by rw [h1]; rfl) (by rw [h1]; rfl) (yb_0 (k := 5) e5 (by rw [h1]; rfl) (by rw [h1]; rfl) (yb_0 (k := 4) e4 (by rw [h1]; rfl) (by rw [h1]; rfl) (yb_0 (k := 3) e3 (by rw [h1]; rfl) (by rw [h1]; rfl) (yb_0 (k := 2) e2 (by rw [h1]; rfl) (by rw [h1]; rfl) (yb_0 (k := 1) e1 (by rw [h1]; rfl) (by rw [h1]; rfl) (yb_1 (k := 0) e0 (by rw [h1]; rfl) (by rw [h1]; rfl) (yL_k hj ⟨h1, h2⟩)))))))))
                    exact ⟨op_of (sg := sgY j) (tl := tlY j) yr_114_0 hf (fun d h1 _ => (by show [Value.int (d.2.1 0), Value.int (nI 0)] = _; rw [h1]; rfl)), op_of (sg := sgY j) (tl := tlY j) yr_114_1 hf (fun d h1 _ => (by show [Value.int (d.2.1 0), Value.int (nI 1)] = _; rw [h1]; rfl))⟩
                  · skip
                    have hf : ∀ d : mD, d.2.1 = sgY j → d.2.2.1 = tlY j → FOK d _ := fun d h1 h2 => yb_1 (k := 8) e8 (by rw [h1]; rfl) (by rw [h1]; rfl) (yb_1 (k := 7) e7 (by rw [h1]; rfl) (by rw [h1]; rfl) (yb_1 (k := 6) e6 (by rw [h1]; rfl) (by rw [h1]; rfl) (yb_0 (k := 5) e5 (by rw [h1]; rfl) (by rw [h1]; rfl) (yb_0 (k := 4) e4 (by rw [h1]; rfl) (by rw [h1]; rfl) (yb_0 (k := 3) e3 (by rw [h1]; rfl) (by rw [h1]; rfl) (yb_0 (k := 2) e2 (by rw [h1]; rfl) (by rw [h1]; rfl) (yb_0 (k := 1) e1 (by rw [h1]; rfl) (by rw [h1]; rfl) (yb_1 (k := 0) e0 (by rw [h1]; rfl) (by rw [h1]; rfl) (yL_k hj ⟨h1, h2⟩)))))))))
                    exact ⟨op_of (sg := sgY j) (tl := tlY j) yr_115_0 hf (fun d h1 _ => (by show [Value.int (d.2.1 0), Value.int (nI 0)] = _; rw [h1]; rfl)), op_of (sg := sgY j) (tl := tlY j) yr_115_1 hf (fun d h1 _ => (by show [Value.int (d.2.1 0), Value.int (nI 1)] = _; rw [h1]; rfl))⟩
            · skip
              rcases Nat.eq_zero_or_pos (er j 6) with e6 | e6
              · skip
                rcases Nat.eq_zero_or_pos (er j 7) with e7 | e7
                · skip
                  have hf : ∀ d : mD, d.2.1 = sgY j → d.2.2.1 = tlY j → FOK d _ := fun d h1 h2 => yb_0 (k := 7) e7 (by rw [h1]; rfl) (by rw [h1]; rfl) (yb_0 (k := 6) e6 (by rw [h1]; rfl) (by rw [h1]; rfl) (yb_1 (k := 5) e5 (by rw [h1]; rfl) (by rw [h1]; rfl) (yb_0 (k := 4) e4 (by rw [h1]; rfl) (by rw [h1]; rfl) (yb_0 (k := 3) e3 (by rw [h1]; rfl) (by rw [h1]; rfl) (yb_0 (k := 2) e2 (by rw [h1]; rfl) (by rw [h1]; rfl) (yb_0 (k := 1) e1 (by rw [h1]; rfl) (by rw [h1]; rfl) (yb_1 (k := 0) e0 (by rw [h1]; rfl) (by rw [h1]; rfl) (yL_k hj ⟨h1, h2⟩))))))))
                  exact ⟨op_of (sg := sgY j) (tl := tlY j) yr_116_0 hf (fun d h1 _ => (by show [Value.int (d.2.1 0), Value.int (nI 0)] = _; rw [h1]; rfl)), op_of (sg := sgY j) (tl := tlY j) yr_116_1 hf (fun d h1 _ => (by show [Value.int (d.2.1 0), Value.int (nI 1)] = _; rw [h1]; rfl))⟩
                · skip
                  have hf : ∀ d : mD, d.2.1 = sgY j → d.2.2.1 = tlY j → FOK d _ := fun d h1 h2 => yb_1 (k := 7) e7 (by rw [h1]; rfl) (by rw [h1]; rfl) (yb_0 (k := 6) e6 (by rw [h1]; rfl) (by rw [h1]; rfl) (yb_1 (k := 5) e5 (by rw [h1]; rfl) (by rw [h1]; rfl) (yb_0 (k := 4) e4 (by rw [h1]; rfl) (by rw [h1]; rfl) (yb_0 (k := 3) e3 (by rw [h1]; rfl) (by rw [h1]; rfl) (yb_0 (k := 2) e2 (by rw [h1]; rfl) (by rw [h1]; rfl) (yb_0 (k := 1) e1 (by rw [h1]; rfl) (by rw [h1]; rfl) (yb_1 (k := 0) e0 (by rw [h1]; rfl) (by rw [h1]; rfl) (yL_k hj ⟨h1, h2⟩))))))))
                  exact ⟨op_of (sg := sgY j) (tl := tlY j) yr_117_0 hf (fun d h1 _ => (by show [Value.int (d.2.1 0), Value.int (nI 0)] = _; rw [h1]; rfl)), op_of (sg := sgY j) (tl := tlY j) yr_117_1 hf (fun d h1 _ => (by show [Value.int (d.2.1 0), Value.int (nI 1)] = _; rw [h1]; rfl))⟩
              · skip
                rcases Nat.eq_zero_or_pos (er j 7) with e7 | e7
                · skip
                  have hf : ∀ d : mD, d.2.1 = sgY j → d.2.2.1 = tlY j → FOK d _ := fun d h1 h2 => yb_0 (k := 7) e7 (by rw [h1]; rfl) (by rw [h1]; rfl) (yb_1 (k := 6) e6 (by rw [h1]; rfl) (by rw [h1]; rfl) (yb_1 (k := 5) e5 (by rw [h1]; rfl) (by rw [h1]; rfl) (yb_0 (k := 4) e4 (by rw [h1]; rfl) (by rw [h1]; rfl) (yb_0 (k := 3) e3 (by rw [h1]; rfl) (by rw [h1]; rfl) (yb_0 (k := 2) e2 (by rw [h1]; rfl) (by rw [h1]; rfl) (yb_0 (k := 1) e1 (by rw [h1]; rfl) (by rw [h1]; rfl) (yb_1 (k := 0) e0 (by rw [h1]; rfl) (by rw [h1]; rfl) (yL_k hj ⟨h1, h2⟩))))))))
                  exact ⟨op_of (sg := sgY j) (tl := tlY j) yr_118_0 hf (fun d h1 _ => (by show [Value.int (d.2.1 0), Value.int (nI 0)] = _; rw [h1]; rfl)), op_of (sg := sgY j) (tl := tlY j) yr_118_1 hf (fun d h1 _ => (by show [Value.int (d.2.1 0), Value.int (nI 1)] = _; rw [h1]; rfl))⟩
                · skip
                  have hf : ∀ d : mD, d.2.1 = sgY j → d.2.2.1 = tlY j → FOK d _ := fun d h1 h2 => yb_1 (k := 7) e7 (by rw [h1]; rfl) (by rw [h1]; rfl) (yb_1 (k := 6) e6 (by rw [h1]; rfl) (by rw [h1]; rfl) (yb_1 (k := 5) e5 (by rw [h1]; rfl) (by rw [h1]; rfl) (yb_0 (k := 4) e4 (by rw [h1]; rfl) (by rw [h1]; rfl) (yb_0 (k := 3) e3 (by rw [h1]; rfl) (by rw [h1]; rfl) (yb_0 (k := 2) e2 (by rw [h1]; rfl) (by rw [h1]; rfl) (yb_0 (k := 1) e1 (by rw [h1]; rfl) (by rw [h1]; rfl) (yb_1 (k := 0) e0 (by rw [h1]; rfl) (by rw [h1]; rfl) (yL_k hj ⟨h1, h2⟩))))))))
                  exact ⟨op_of (sg := sgY j) (tl := tlY j) yr_119_0 hf (fun d h1 _ => (by show [Value.int (d.2.1 0), Value.int (nI 0)] = _; rw [h1]; rfl)), op_of (sg := sgY j) (tl := tlY j) yr_119_1 hf (fun d h1 _ => (by show [Value.int (d.2.1 0), Value.int (nI 1)] = _; rw [h1]; rfl))⟩
          · skip
            rcases Nat.eq_zero_or_pos (er j 5) with e5 | e5
            · skip
              rcases Nat.eq_zero_or_pos (er j 6) with e6 | e6
              · skip
                rcases Nat.eq_zero_or_pos (er j 8) with e8 | e8
                · skip
                  have hf : ∀ d : mD, d.2.1 = sgY j → d.2.2.1 = tlY j → FOK d _ := fun d h1 h2 => yb_0 (k := 8) e8 (by rw [h1]; rfl) (by rw [h1]; rfl) (yb_0 (k := 6) e6 (by rw [h1]; rfl) (by rw [h1]; rfl) (yb_0 (k := 5) e5 (by rw [h1]; rfl) (by rw [h1]; rfl) (yb_1 (k := 4) e4 (by rw [h1]; rfl) (by rw [h1]; rfl) (yb_0 (k := 3) e3 (by rw [h1]; rfl) (by rw [h1]; rfl) (yb_0 (k := 2) e2 (by rw [h1]; rfl) (by rw [h1]; rfl) (yb_0 (k := 1) e1 (by rw [h1]; rfl) (by rw [h1]; rfl) (yb_1 (k := 0) e0 (by rw [h1]; rfl) (by rw [h1]; rfl) (yL_k hj ⟨h1, h2⟩))))))))
                  exact ⟨op_of (sg := sgY j) (tl := tlY j) yr_120_0 hf (fun d h1 _ => (by show [Value.int (d.2.1 0), Value.int (nI 0)] = _; rw [h1]; rfl)), op_of (sg := sgY j) (tl := tlY j) yr_120_1 hf (fun d h1 _ => (by show [Value.int (d.2.1 0), Value.int (nI 1)] = _; rw [h1]; rfl))⟩
                · skip
                  have hf : ∀ d : mD, d.2.1 = sgY j → d.2.2.1 = tlY j → FOK d _ := fun d h1 h2 => yb_1 (k := 8) e8 (by rw [h1]; rfl) (by rw [h1]; rfl) (yb_0 (k := 6) e6 (by rw [h1]; rfl) (by rw [h1]; rfl) (yb_0 (k := 5) e5 (by rw [h1]; rfl) (by rw [h1]; rfl) (yb_1 (k := 4) e4 (by rw [h1]; rfl) (by rw [h1]; rfl) (yb_0 (k := 3) e3 (by rw [h1]; rfl) (by rw [h1]; rfl) (yb_0 (k := 2) e2 (by rw [h1]; rfl) (by rw [h1]; rfl) (yb_0 (k := 1) e1 (by rw [h1]; rfl) (by rw [h1]; rfl) (yb_1 (k := 0) e0 (by rw [h1]; rfl) (by rw [h1]; rfl) (yL_k hj ⟨h1, h2⟩))))))))
                  exact ⟨op_of (sg := sgY j) (tl := tlY j) yr_121_0 hf (fun d h1 _ => (by show [Value.int (d.2.1 0), Value.int (nI 0)] = _; rw [h1]; rfl)), op_of (sg := sgY j) (tl := tlY j) yr_121_1 hf (fun d h1 _ => (by show [Value.int (d.2.1 0), Value.int (nI 1)] = _; rw [h1]; rfl))⟩
              · skip
                rcases Nat.eq_zero_or_pos (er j 8) with e8 | e8
                · skip
                  have hf : ∀ d : mD, d.2.1 = sgY j → d.2.2.1 = tlY j → FOK d _ := fun d h1 h2 => yb_0 (k := 8) e8 (by rw [h1]; rfl) (by rw [h1]; rfl) (yb_1 (k := 6) e6 (by rw [h1]; rfl) (by rw [h1]; rfl) (yb_0 (k := 5) e5 (by rw [h1]; rfl) (by rw [h1]; rfl) (yb_1 (k := 4) e4 (by rw [h1]; rfl) (by rw [h1]; rfl) (yb_0 (k := 3) e3 (by rw [h1]; rfl) (by rw [h1]; rfl) (yb_0 (k := 2) e2 (by rw [h1]; rfl) (by rw [h1]; rfl) (yb_0 (k := 1) e1 (by rw [h1]; rfl) (by rw [h1]; rfl) (yb_1 (k := 0) e0 (by rw [h1]; rfl) (by rw [h1]; rfl) (yL_k hj ⟨h1, h2⟩))))))))
                  exact ⟨op_of (sg := sgY j) (tl := tlY j) yr_122_0 hf (fun d h1 _ => (by show [Value.int (d.2.1 0), Value.int (nI 0)] = _; rw [h1]; rfl)), op_of (sg := sgY j) (tl := tlY j) yr_122_1 hf (fun d h1 _ => (by show [Value.int (d.2.1 0), Value.int (nI 1)] = _; rw [h1]; rfl))⟩
                · skip
                  have hf : ∀ d : mD, d.2.1 = sgY j → d.2.2.1 = tlY j → FOK d _ := fun d h1 h2 => yb_1 (k := 8) e8 (by rw [h1]; rfl) (by rw [h1]; rfl) (yb_1 (k := 6) e6 (by rw [h1]; rfl) (by rw [h1]; rfl) (yb_0 (k := 5) e5 (by rw [h1]; rfl) (by rw [h1]; rfl) (yb_1 (k := 4) e4 (by rw [h1]; rfl) (by rw [h1]; rfl) (yb_0 (k := 3) e3 (by rw [h1]; rfl) (by rw [h1]; rfl) (yb_0 (k := 2) e2 (by rw [h1]; rfl) (by rw [h1]; rfl) (yb_0 (k := 1) e1 (by rw [h1]; rfl) (by rw [h1]; rfl) (yb_1 (k := 0) e0 (by rw [h1]; rfl) (by rw [h1]; rfl) (yL_k hj ⟨h1, h2⟩))))))))
                  exact ⟨op_of (sg := sgY j) (tl := tlY j) yr_123_0 hf (fun d h1 _ => (by show [Value.int (d.2.1 0), Value.int (nI 0)] = _; rw [h1]; rfl)), op_of (sg := sgY j) (tl := tlY j) yr_123_1 hf (fun d h1 _ => (by show [Value.int (d.2.1 0), Value.int (nI 1)] = _; rw [h1]; rfl))⟩
            · skip
              rcases Nat.eq_zero_or_pos (er j 6) with e6 | e6
              · skip
                have hf : ∀ d : mD, d.2.1 = sgY j → d.2.2.1 = tlY j → FOK d _ := fun d h1 h2 => yb_0 (k := 6) e6 (by rw [h1]; rfl) (by rw [h1]; rfl) (yb_1 (k := 5) e5 (by rw [h1]; rfl) (by rw [h1]; rfl) (yb_1 (k := 4) e4 (by rw [h1]; rfl) (by rw [h1]; rfl) (yb_0 (k := 3) e3 (by rw [h1]; rfl) (by rw [h1]; rfl) (yb_0 (k := 2) e2 (by rw [h1]; rfl) (by rw [h1]; rfl) (yb_0 (k := 1) e1 (by rw [h1]; rfl) (by rw [h1]; rfl) (yb_1 (k := 0) e0 (by rw [h1]; rfl) (by rw [h1]; rfl) (yL_k hj ⟨h1, h2⟩)))))))
                exact ⟨op_of (sg := sgY j) (tl := tlY j) yr_124_0 hf (fun d h1 _ => (by show [Value.int (d.2.1 0), Value.int (nI 0)] = _; rw [h1]; rfl)), op_of (sg := sgY j) (tl := tlY j) yr_124_1 hf (fun d h1 _ => (by show [Value.int (d.2.1 0), Value.int (nI 1)] = _; rw [h1]; rfl))⟩
              · skip
                have hf : ∀ d : mD, d.2.1 = sgY j → d.2.2.1 = tlY j → FOK d _ := fun d h1 h2 => yb_1 (k := 6) e6 (by rw [h1]; rfl) (by rw [h1]; rfl) (yb_1 (k := 5) e5 (by rw [h1]; rfl) (by rw [h1]; rfl) (yb_1 (k := 4) e4 (by rw [h1]; rfl) (by rw [h1]; rfl) (yb_0 (k := 3) e3 (by rw [h1]; rfl) (by rw [h1]; rfl) (yb_0 (k := 2) e2 (by rw [h1]; rfl) (by rw [h1]; rfl) (yb_0 (k := 1) e1 (by rw [h1]; rfl) (by rw [h1]; rfl) (yb_1 (k := 0) e0 (by rw [h1]; rfl) (by rw [h1]; rfl) (yL_k hj ⟨h1, h2⟩)))))))
                exact ⟨op_of (sg := sgY j) (tl := tlY j) yr_125_0 hf (fun d h1 _ => (by show [Value.int (d.2.1 0), Value.int (nI 0)] = _; rw [h1]; rfl)), op_of (sg := sgY j) (tl := tlY j) yr_125_1 hf (fun d h1 _ => (by show [Value.int (d.2.1 0), Value.int (nI 1)] = _; rw [h1]; rfl))⟩
        · skip
          rcases Nat.eq_zero_or_pos (er j 4) with e4 | e4
          · skip
            rcases Nat.eq_zero_or_pos (er j 5) with e5 | e5
            · skip
              rcases Nat.eq_zero_or_pos (er j 6) with e6 | e6
              · skip
                rcases Nat.eq_zero_or_pos (er j 7) with e7 | e7
                · skip
                  rcases Nat.eq_zero_or_pos (er j 8) with e8 | e8
                  · skip
                    have hf : ∀ d : mD, d.2.1 = sgY j → d.2.2.1 = tlY j → FOK d _ := fun d h1 h2 => yb_0 (k := 8) e8 (by rw [h1]; rfl) (by rw [h1]; rfl) (yb_0 (k := 7) e7 (by rw [h1]; rfl) (by rw [h1]; rfl) (yb_0 (k := 6) e6 (by rw [h1]; rfl) (by rw [h1]; rfl) (yb_0 (k := 5) e5 (by rw [h1]; rfl) (by rw [h1]; rfl) (yb_0 (k := 4) e4 (by rw [h1]; rfl) (by rw [h1]; rfl) (yb_1 (k := 3) e3 (by rw [h1]; rfl) (by rw [h1]; rfl) (yb_0 (k := 2) e2 (by rw [h1]; rfl) (by rw [h1]; rfl) (yb_0 (k := 1) e1 (by rw [h1]; rfl) (by rw [h1]; rfl) (yb_1 (k := 0) e0 (by rw [h1]; rfl) (by rw [h1]; rfl) (yL_k hj ⟨h1, h2⟩)))))))))
                    exact ⟨op_of (sg := sgY j) (tl := tlY j) yr_126_0 hf (fun d h1 _ => (by show [Value.int (d.2.1 0), Value.int (nI 0)] = _; rw [h1]; rfl)), op_of (sg := sgY j) (tl := tlY j) yr_126_1 hf (fun d h1 _ => (by show [Value.int (d.2.1 0), Value.int (nI 1)] = _; rw [h1]; rfl))⟩
                  · skip
                    have hf : ∀ d : mD, d.2.1 = sgY j → d.2.2.1 = tlY j → FOK d _ := fun d h1 h2 => yb_1 (k := 8) e8 (by rw [h1]; rfl) (by rw [h1]; rfl) (yb_0 (k := 7) e7 (by rw [h1]; rfl) (by rw [h1]; rfl) (yb_0 (k := 6) e6 (by rw [h1]; rfl) (by rw [h1]; rfl) (yb_0 (k := 5) e5 (by rw [h1]; rfl) (by rw [h1]; rfl) (yb_0 (k := 4) e4 (by rw [h1]; rfl) (by rw [h1]; rfl) (yb_1 (k := 3) e3 (by rw [h1]; rfl) (by rw [h1]; rfl) (yb_0 (k := 2) e2 (by rw [h1]; rfl) (by rw [h1]; rfl) (yb_0 (k := 1) e1 (by rw [h1]; rfl) (by rw [h1]; rfl) (yb_1 (k := 0) e0 (by rw [h1]; rfl) (by rw [h1]; rfl) (yL_k hj ⟨h1, h2⟩)))))))))
                    exact ⟨op_of (sg := sgY j) (tl := tlY j) yr_127_0 hf (fun d h1 _ => (by show [Value.int (d.2.1 0), Value.int (nI 0)] = _; rw [h1]; rfl)), op_of (sg := sgY j) (tl := tlY j) yr_127_1 hf (fun d h1 _ => (by show [Value.int (d.2.1 0), Value.int (nI 1)] = _; rw [h1]; rfl))⟩
                · skip
                  rcases Nat.eq_zero_or_pos (er j 8) with e8 | e8
                  · skip
                    have hf : ∀ d : mD, d.2.1 = sgY j → d.2.2.1 = tlY j → FOK d _ := fun d h1 h2 => yb_0 (k := 8) e8 (by rw [h1]; rfl) (by rw [h1]; rfl) (yb_1 (k := 7) e7 (by rw [h1]; rfl) (by rw [h1]; rfl) (yb_0 (k := 6) e6 (by rw [h1]; rfl) (by rw [h1]; rfl) (yb_0 (k := 5) e5 (by rw [h1]; rfl) (by rw [h1]; rfl) (yb_0 (k := 4) e4 (by rw [h1]; rfl) (by rw [h1]; rfl) (yb_1 (k := 3) e3 (by rw [h1]; rfl) (by rw [h1]; rfl) (yb_0 (k := 2) e2 (by rw [h1]; rfl) (by rw [h1]; rfl) (yb_0 (k := 1) e1 (by rw [h1]; rfl) (by rw [h1]; rfl) (yb_1 (k := 0) e0 (by rw [h1]; rfl) (by rw [h1]; rfl) (yL_k hj ⟨h1, h2⟩)))))))))
                    exact ⟨op_of (sg := sgY j) (tl := tlY j) yr_128_0 hf (fun d h1 _ => (by show [Value.int (d.2.1 0), Value.int (nI 0)] = _; rw [h1]; rfl)), op_of (sg := sgY j) (tl := tlY j) yr_128_1 hf (fun d h1 _ => (by show [Value.int (d.2.1 0), Value.int (nI 1)] = _; rw [h1]; rfl))⟩
                  · skip
                    have hf : ∀ d : mD, d.2.1 = sgY j → d.2.2.1 = tlY j → FOK d _ := fun d h1 h2 => yb_1 (k := 8) e8 (by rw [h1]; rfl) (by rw [h1]; rfl) (yb_1 (k := 7) e7 (by rw [h1]; rfl) (by rw [h1]; rfl) (yb_0 (k := 6) e6 (by rw [h1]; rfl) (by rw [h1]; rfl) (yb_0 (k := 5) e5 (by rw [h1]; rfl) (by rw [h1]; rfl) (yb_0 (k := 4) e4 (by rw [h1]; rfl) (by rw [h1]; rfl) (yb_1 (k := 3) e3 (by rw [h1]; rfl) (by rw [h1]; rfl) (yb_0 (k := 2) e2 (by rw [h1]; rfl) (by rw [h1]; rfl) (yb_0 (k := 1) e1 (by rw [h1]; rfl) (by rw [h1]; rfl) (yb_1 (k := 0) e0 (by rw [h1]; rfl) (by rw [h1]; rfl) (yL_k hj ⟨h1, h2⟩)))))))))
                    exact ⟨op_of (sg := sgY j) (tl := tlY j) yr_129_0 hf (fun d h1 _ => (by show [Value.int (d.2.1 0), Value.int (nI 0)] = _; rw [h1]; rfl)), op_of (sg := sgY j) (tl := tlY j) yr_129_1 hf (fun d h1 _ => (by show [Value.int (d.2.1 0), Value.int (nI 1)] = _; rw [h1]; rfl))⟩
              · skip
                rcases Nat.eq_zero_or_pos (er j 7) with e7 | e7
                · skip
                  rcases Nat.eq_zero_or_pos (er j 8) with e8 | e8
                  · skip
                    have hf : ∀ d : mD, d.2.1 = sgY j → d.2.2.1 = tlY j → FOK d _ := fun d h1 h2 => yb_0 (k := 8) e8 (by rw [h1]; rfl) (by rw [h1]; rfl) (yb_0 (k := 7) e7 (by rw [h1]; rfl) (by rw [h1]; rfl) (yb_1 (k := 6) e6 (by rw [h1]; rfl) (by rw [h1]; rfl) (yb_0 (k := 5) e5 (by rw [h1]; rfl) (by rw [h1]; rfl) (yb_0 (k := 4) e4 (by rw [h1]; rfl) (by rw [h1]; rfl) (yb_1 (k := 3) e3 (by rw [h1]; rfl) (by rw [h1]; rfl) (yb_0 (k := 2) e2 (by rw [h1]; rfl) (by rw [h1]; rfl) (yb_0 (k := 1) e1 (by rw [h1]; rfl) (by rw [h1]; rfl) (yb_1 (k := 0) e0 (by rw [h1]; rfl) (by rw [h1]; rfl) (yL_k hj ⟨h1, h2⟩)))))))))
                    exact ⟨op_of (sg := sgY j) (tl := tlY j) yr_130_0 hf (fun d h1 _ => (by show [Value.int (d.2.1 0), Value.int (nI 0)] = _; rw [h1]; rfl)), op_of (sg := sgY j) (tl := tlY j) yr_130_1 hf (fun d h1 _ => (by show [Value.int (d.2.1 0), Value.int (nI 1)] = _; rw [h1]; rfl))⟩
                  · skip
                    have hf : ∀ d : mD, d.2.1 = sgY j → d.2.2.1 = tlY j → FOK d _ := fun d h1 h2 => yb_1 (k := 8) e8 (by rw [h1]; rfl) (by rw [h1]; rfl) (yb_0 (k := 7) e7 (by rw [h1]; rfl) (by rw [h1]; rfl) (yb_1 (k := 6) e6 (by rw [h1]; rfl) (by rw [h1]; rfl) (yb_0 (k := 5) e5 (by rw [h1]; rfl) (by rw [h1]; rfl) (yb_0 (k := 4) e4 (by rw [h1]; rfl) (by rw [h1]; rfl) (yb_1 (k := 3) e3 (by rw [h1]; rfl) (by rw [h1]; rfl) (yb_0 (k := 2) e2 (by rw [h1]; rfl) (by rw [h1]; rfl) (yb_0 (k := 1) e1 (by rw [h1]; rfl) (by rw [h1]; rfl) (yb_1 (k := 0) e0 (by rw [h1]; rfl) (by rw [h1]; rfl) (yL_k hj ⟨h1, h2⟩)))))))))
                    exact ⟨op_of (sg := sgY j) (tl := tlY j) yr_131_0 hf (fun d h1 _ => (by show [Value.int (d.2.1 0), Value.int (nI 0)] = _; rw [h1]; rfl)), op_of (sg := sgY j) (tl := tlY j) yr_131_1 hf (fun d h1 _ => (by show [Value.int (d.2.1 0), Value.int (nI 1)] = _; rw [h1]; rfl))⟩
                · skip
                  rcases Nat.eq_zero_or_pos (er j 8) with e8 | e8
                  · skip
                    have hf : ∀ d : mD, d.2.1 = sgY j → d.2.2.1 = tlY j → FOK d _ := fun d h1 h2 => yb_0 (k := 8) e8 (by rw [h1]; rfl) (by rw [h1]; rfl) (yb_1 (k := 7) e7 (by rw [h1]; rfl) (by rw [h1]; rfl) (yb_1 (k := 6) e6 (by rw [h1]; rfl) (by rw [h1]; rfl) (yb_0 (k := 5) e5 (by rw [h1]; rfl) (by rw [h1]; rfl) (yb_0 (k := 4) e4 (by rw [h1]; rfl) (by rw [h1]; rfl) (yb_1 (k := 3) e3 (by rw [h1]; rfl) (by rw [h1]; rfl) (yb_0 (k := 2) e2 (by rw [h1]; rfl) (by rw [h1]; rfl) (yb_0 (k := 1) e1 (by rw [h1]; rfl) (by rw [h1]; rfl) (yb_1 (k := 0) e0 (by rw [h1]; rfl) (by rw [h1]; rfl) (yL_k hj ⟨h1, h2⟩)))))))))
                    exact ⟨op_of (sg := sgY j) (tl := tlY j) yr_132_0 hf (fun d h1 _ => (by show [Value.int (d.2.1 0), Value.int (nI 0)] = _; rw [h1]; rfl)), op_of (sg := sgY j) (tl := tlY j) yr_132_1 hf (fun d h1 _ => (by show [Value.int (d.2.1 0), Value.int (nI 1)] = _; rw [h1]; rfl))⟩
                  · skip
                    have hf : ∀ d : mD, d.2.1 = sgY j → d.2.2.1 = tlY j → FOK d _ := fun d h1 h2 => yb_1 (k := 8) e8 (by rw [h1]; rfl) (by rw [h1]; rfl) (yb_1 (k := 7) e7 (by rw [h1]; rfl) (by rw [h1]; rfl) (yb_1 (k := 6) e6 (by rw [h1]; rfl) (by rw [h1]; rfl) (yb_0 (k := 5) e5 (by rw [h1]; rfl) (by rw [h1]; rfl) (yb_0 (k := 4) e4 (by rw [h1]; rfl) (by rw [h1]; rfl) (yb_1 (k := 3) e3 (by rw [h1]; rfl) (by rw [h1]; rfl) (yb_0 (k := 2) e2 (by rw [h1]; rfl) (by rw [h1]; rfl) (yb_0 (k := 1) e1 (by rw [h1]; rfl) (by rw [h1]; rfl) (yb_1 (k := 0) e0 (by rw [h1]; rfl) (by rw [h1]; rfl) (yL_k hj ⟨h1, h2⟩)))))))))
                    exact ⟨op_of (sg := sgY j) (tl := tlY j) yr_133_0 hf (fun d h1 _ => (by show [Value.int (d.2.1 0), Value.int (nI 0)] = _; rw [h1]; rfl)), op_of (sg := sgY j) (tl := tlY j) yr_133_1 hf (fun d h1 _ => (by show [Value.int (d.2.1 0), Value.int (nI 1)] = _; rw [h1]; rfl))⟩
            · skip
              rcases Nat.eq_zero_or_pos (er j 6) with e6 | e6
              · skip
                rcases Nat.eq_zero_or_pos (er j 7) with e7 | e7
                · skip
                  have hf : ∀ d : mD, d.2.1 = sgY j → d.2.2.1 = tlY j → FOK d _ := fun d h1 h2 => yb_0 (k := 7) e7 (by rw [h1]; rfl) (by rw [h1]; rfl) (yb_0 (k := 6) e6 (by rw [h1]; rfl) (by rw [h1]; rfl) (yb_1 (k := 5) e5 (by rw [h1]; rfl) (by rw [h1]; rfl) (yb_0 (k := 4) e4 (by rw [h1]; rfl) (by rw [h1]; rfl) (yb_1 (k := 3) e3 (by rw [h1]; rfl) (by rw [h1]; rfl) (yb_0 (k := 2) e2 (by rw [h1]; rfl) (by rw [h1]; rfl) (yb_0 (k := 1) e1 (by rw [h1]; rfl) (by rw [h1]; rfl) (yb_1 (k := 0) e0 (by rw [h1]; rfl) (by rw [h1]; rfl) (yL_k hj ⟨h1, h2⟩))))))))
                  exact ⟨op_of (sg := sgY j) (tl := tlY j) yr_134_0 hf (fun d h1 _ => (by show [Value.int (d.2.1 0), Value.int (nI 0)] = _; rw [h1]; rfl)), op_of (sg := sgY j) (tl := tlY j) yr_134_1 hf (fun d h1 _ => (by show [Value.int (d.2.1 0), Value.int (nI 1)] = _; rw [h1]; rfl))⟩
                · skip
                  have hf : ∀ d : mD, d.2.1 = sgY j → d.2.2.1 = tlY j → FOK d _ := fun d h1 h2 => yb_1 (k := 7) e7 (by rw [h1]; rfl) (by rw [h1]; rfl) (yb_0 (k := 6) e6 (by rw [h1]; rfl) (by rw [h1]; rfl) (yb_1 (k := 5) e5 (by rw [h1]; rfl) (by rw [h1]; rfl) (yb_0 (k := 4) e4 (by rw [h1]; rfl) (by rw [h1]; rfl) (yb_1 (k := 3) e3 (by rw [h1]; rfl) (by rw [h1]; rfl) (yb_0 (k := 2) e2 (by rw [h1]; rfl) (by rw [h1]; rfl) (yb_0 (k := 1) e1 (by rw [h1]; rfl) (by rw [h1]; rfl) (yb_1 (k := 0) e0 (by rw [h1]; rfl) (by rw [h1]; rfl) (yL_k hj ⟨h1, h2⟩))))))))
                  exact ⟨op_of (sg := sgY j) (tl := tlY j) yr_135_0 hf (fun d h1 _ => (by show [Value.int (d.2.1 0), Value.int (nI 0)] = _; rw [h1]; rfl)), op_of (sg := sgY j) (tl := tlY j) yr_135_1 hf (fun d h1 _ => (by show [Value.int (d.2.1 0), Value.int (nI 1)] = _; rw [h1]; rfl))⟩
              · skip
                rcases Nat.eq_zero_or_pos (er j 7) with e7 | e7
                · skip
                  have hf : ∀ d : mD, d.2.1 = sgY j → d.2.2.1 = tlY j → FOK d _ := fun d h1 h2 => yb_0 (k := 7) e7 (by rw [h1]; rfl) (by rw [h1]; rfl) (yb_1 (k := 6) e6 (by rw [h1]; rfl) (by rw [h1]; rfl) (yb_1 (k := 5) e5 (by rw [h1]; rfl) (by rw [h1]; rfl) (yb_0 (k := 4) e4 (by rw [h1]; rfl) (by rw [h1]; rfl) (yb_1 (k := 3) e3 (by rw [h1]; rfl) (by rw [h1]; rfl) (yb_0 (k := 2) e2 (by rw [h1]; rfl) (by rw [h1]; rfl) (yb_0 (k := 1) e1 (by rw [h1]; rfl) (by rw [h1]; rfl) (yb_1 (k := 0) e0 (by rw [h1]; rfl) (by rw [h1]; rfl) (yL_k hj ⟨h1, h2⟩))))))))
                  exact ⟨op_of (sg := sgY j) (tl := tlY j) yr_136_0 hf (fun d h1 _ => (by show [Value.int (d.2.1 0), Value.int (nI 0)] = _; rw [h1]; rfl)), op_of (sg := sgY j) (tl := tlY j) yr_136_1 hf (fun d h1 _ => (by show [Value.int (d.2.1 0), Value.int (nI 1)] = _; rw [h1]; rfl))⟩
                · skip
                  have hf : ∀ d : mD, d.2.1 = sgY j → d.2.2.1 = tlY j → FOK d _ := fun d h1 h2 => yb_1 (k := 7) e7 (by rw [h1]; rfl) (by rw [h1]; rfl) (yb_1 (k := 6) e6 (by rw [h1]; rfl) (by rw [h1]; rfl) (yb_1 (k := 5) e5 (by rw [h1]; rfl) (by rw [h1]; rfl) (yb_0 (k := 4) e4 (by rw [h1]; rfl) (by rw [h1]; rfl) (yb_1 (k := 3) e3 (by rw [h1]; rfl) (by rw [h1]; rfl) (yb_0 (k := 2) e2 (by rw [h1]; rfl) (by rw [h1]; rfl) (yb_0 (k := 1) e1 (by rw [h1]; rfl) (by rw [h1]; rfl) (yb_1 (k := 0) e0 (by rw [h1]; rfl) (by rw [h1]; rfl) (yL_k hj ⟨h1, h2⟩))))))))
                  exact ⟨op_of (sg := sgY j) (tl := tlY j) yr_137_0 hf (fun d h1 _ => (by show [Value.int (d.2.1 0), Value.int (nI 0)] = _; rw [h1]; rfl)), op_of (sg := sgY j) (tl := tlY j) yr_137_1 hf (fun d h1 _ => (by show [Value.int (d.2.1 0), Value.int (nI 1)] = _; rw [h1]; rfl))⟩
          · skip
            rcases Nat.eq_zero_or_pos (er j 5) with e5 | e5
            · skip
              rcases Nat.eq_zero_or_pos (er j 6) with e6 | e6
              · skip
                rcases Nat.eq_zero_or_pos (er j 8) with e8 | e8
                · skip
                  have hf : ∀ d : mD, d.2.1 = sgY j → d.2.2.1 = tlY j → FOK d _ := fun d h1 h2 => yb_0 (k := 8) e8 (by rw [h1]; rfl) (by rw [h1]; rfl) (yb_0 (k := 6) e6 (by rw [h1]; rfl) (by rw [h1]; rfl) (yb_0 (k := 5) e5 (by rw [h1]; rfl) (by rw [h1]; rfl) (yb_1 (k := 4) e4 (by rw [h1]; rfl) (by rw [h1]; rfl) (yb_1 (k := 3) e3 (by rw [h1]; rfl) (by rw [h1]; rfl) (yb_0 (k := 2) e2 (by rw [h1]; rfl) (by rw [h1]; rfl) (yb_0 (k := 1) e1 (by rw [h1]; rfl) (by rw [h1]; rfl) (yb_1 (k := 0) e0 (by rw [h1]; rfl) (by rw [h1]; rfl) (yL_k hj ⟨h1, h2⟩))))))))
                  exact ⟨op_of (sg := sgY j) (tl := tlY j) yr_138_0 hf (fun d h1 _ => (by show [Value.int (d.2.1 0), Value.int (nI 0)] = _; rw [h1]; rfl)), op_of (sg := sgY j) (tl := tlY j) yr_138_1 hf (fun d h1 _ => (by show [Value.int (d.2.1 0), Value.int (nI 1)] = _; rw [h1]; rfl))⟩
                · skip
                  have hf : ∀ d : mD, d.2.1 = sgY j → d.2.2.1 = tlY j → FOK d _ := fun d h1 h2 => yb_1 (k := 8) e8 (by rw [h1]; rfl) (by rw [h1]; rfl) (yb_0 (k := 6) e6 (by rw [h1]; rfl) (by rw [h1]; rfl) (yb_0 (k := 5) e5 (by rw [h1]; rfl) (by rw [h1]; rfl) (yb_1 (k := 4) e4 (by rw [h1]; rfl) (by rw [h1]; rfl) (yb_1 (k := 3) e3 (by rw [h1]; rfl) (by rw [h1]; rfl) (yb_0 (k := 2) e2 (by rw [h1]; rfl) (by rw [h1]; rfl) (yb_0 (k := 1) e1 (by rw [h1]; rfl) (by rw [h1]; rfl) (yb_1 (k := 0) e0 (by rw [h1]; rfl) (by rw [h1]; rfl) (yL_k hj ⟨h1, h2⟩))))))))
                  exact ⟨op_of (sg := sgY j) (tl := tlY j) yr_139_0 hf (fun d h1 _ => (by show [Value.int (d.2.1 0), Value.int (nI 0)] = _; rw [h1]; rfl)), op_of (sg := sgY j) (tl := tlY j) yr_139_1 hf (fun d h1 _ => (by show [Value.int (d.2.1 0), Value.int (nI 1)] = _; rw [h1]; rfl))⟩
              · skip
                rcases Nat.eq_zero_or_pos (er j 8) with e8 | e8
                · skip
                  have hf : ∀ d : mD, d.2.1 = sgY j → d.2.2.1 = tlY j → FOK d _ := fun d h1 h2 => yb_0 (k := 8) e8 (by rw [h1]; rfl) (by rw [h1]; rfl) (yb_1 (k := 6) e6 (by rw [h1]; rfl) (by rw [h1]; rfl) (yb_0 (k := 5) e5 (by rw [h1]; rfl) (by rw [h1]; rfl) (yb_1 (k := 4) e4 (by rw [h1]; rfl) (by rw [h1]; rfl) (yb_1 (k := 3) e3 (by rw [h1]; rfl) (by rw [h1]; rfl) (yb_0 (k := 2) e2 (by rw [h1]; rfl) (by rw [h1]; rfl) (yb_0 (k := 1) e1 (by rw [h1]; rfl) (by rw [h1]; rfl) (yb_1 (k := 0) e0 (by rw [h1]; rfl) (by rw [h1]; rfl) (yL_k hj ⟨h1, h2⟩))))))))
                  exact ⟨op_of (sg := sgY j) (tl := tlY j) yr_140_0 hf (fun d h1 _ => (by show [Value.int (d.2.1 0), Value.int (nI 0)] = _; rw [h1]; rfl)), op_of (sg := sgY j) (tl := tlY j) yr_140_1 hf (fun d h1 _ => (by show [Value.int (d.2.1 0), Value.int (nI 1)] = _; rw [h1]; rfl))⟩
                · skip
                  have hf : ∀ d : mD, d.2.1 = sgY j → d.2.2.1 = tlY j → FOK d _ := fun d h1 h2 => yb_1 (k := 8) e8 (by rw [h1]; rfl) (by rw [h1]; rfl) (yb_1 (k := 6) e6 (by rw [h1]; rfl) (by rw [h1]; rfl) (yb_0 (k := 5) e5 (by rw [h1]; rfl) (by rw [h1]; rfl) (yb_1 (k := 4) e4 (by rw [h1]; rfl) (by rw [h1]; rfl) (yb_1 (k := 3) e3 (by rw [h1]; rfl) (by rw [h1]; rfl) (yb_0 (k := 2) e2 (by rw [h1]; rfl) (by rw [h1]; rfl) (yb_0 (k := 1) e1 (by rw [h1]; rfl) (by rw [h1]; rfl) (yb_1 (k := 0) e0 (by rw [h1]; rfl) (by rw [h1]; rfl) (yL_k hj ⟨h1, h2⟩))))))))
                  exact ⟨op_of (sg := sgY j) (tl := tlY j) yr_141_0 hf (fun d h1 _ => (by show [Value.int (d.2.1 0), Value.int (nI 0)] = _; rw [h1]; rfl)), op_of (sg := sgY j) (tl := tlY j) yr_141_1 hf (fun d h1 _ => (by show [Value.int (d.2.1 0), Value.int (nI 1)] = _; rw [h1]; rfl))⟩
            · skip
              rcases Nat.eq_zero_or_pos (er j 6) with e6 | e6
              · skip
                have hf : ∀ d : mD, d.2.1 = sgY j → d.2.2.1 = tlY j → FOK d _ := fun d h1 h2 => yb_0 (k := 6) e6 (by rw [h1]; rfl) (by rw [h1]; rfl) (yb_1 (k := 5) e5 (by rw [h1]; rfl) (by rw [h1]; rfl) (yb_1 (k := 4) e4 (by rw [h1]; rfl) (by rw [h1]; rfl) (yb_1 (k := 3) e3 (by rw [h1]; rfl) (by rw [h1]; rfl) (yb_0 (k := 2) e2 (by rw [h1]; rfl) (by rw [h1]; rfl) (yb_0 (k := 1) e1 (by rw [h1]; rfl) (by rw [h1]; rfl) (yb_1 (k := 0) e0 (by rw [h1]; rfl) (by rw [h1]; rfl) (yL_k hj ⟨h1, h2⟩)))))))
                exact ⟨op_of (sg := sgY j) (tl := tlY j) yr_142_0 hf (fun d h1 _ => (by show [Value.int (d.2.1 0), Value.int (nI 0)] = _; rw [h1]; rfl)), op_of (sg := sgY j) (tl := tlY j) yr_142_1 hf (fun d h1 _ => (by show [Value.int (d.2.1 0), Value.int (nI 1)] = _; rw [h1]; rfl))⟩
              · skip
                have hf : ∀ d : mD, d.2.1 = sgY j → d.2.2.1 = tlY j → FOK d _ := fun d h1 h2 => yb_1 (k := 6) e6 (by rw [h1]; rfl) (by rw [h1]; rfl) (yb_1 (k := 5) e5 (by rw [h1]; rfl) (by rw [h1]; rfl) (yb_1 (k := 4) e4 (by rw [h1]; rfl) (by rw [h1]; rfl) (yb_1 (k := 3) e3 (by rw [h1]; rfl) (by rw [h1]; rfl) (yb_0 (k := 2) e2 (by rw [h1]; rfl) (by rw [h1]; rfl) (yb_0 (k := 1) e1 (by rw [h1]; rfl) (by rw [h1]; rfl) (yb_1 (k := 0) e0 (by rw [h1]; rfl) (by rw [h1]; rfl) (yL_k hj ⟨h1, h2⟩)))))))
                exact ⟨op_of (sg := sgY j) (tl := tlY j) yr_143_0 hf (fun d h1 _ => (by show [Value.int (d.2.1 0), Value.int (nI 0)] = _; rw [h1]; rfl)), op_of (sg := sgY j) (tl := tlY j) yr_143_1 hf (fun d h1 _ => (by show [Value.int (d.2.1 0), Value.int (nI 1)] = _; rw [h1]; rfl))⟩
      · skip
        rcases Nat.eq_zero_or_pos (er j 3) with e3 | e3
        · skip
          rcases Nat.eq_zero_or_pos (er j 4) with e4 | e4
          · skip
            rcases Nat.eq_zero_or_pos (er j 5) with e5 | e5
            · skip
              rcases Nat.eq_zero_or_pos (er j 7) with e7 | e7
              · skip
                rcases Nat.eq_zero_or_pos (er j 8) with e8 | e8
                · skip
                  have hf : ∀ d : mD, d.2.1 = sgY j → d.2.2.1 = tlY j → FOK d _ := fun d h1 h2 => yb_0 (k := 8) e8 (by rw [h1]; rfl) (by rw [h1]; rfl) (yb_0 (k := 7) e7 (by rw [h1]; rfl) (by rw [h1]; rfl) (yb_0 (k := 5) e5 (by rw [h1]; rfl) (by rw [h1]; rfl) (yb_0 (k := 4) e4 (by rw [h1]; rfl) (by rw [h1]; rfl) (yb_0 (k := 3) e3 (by rw [h1]; rfl) (by rw [h1]; rfl) (yb_1 (k := 2) e2 (by rw [h1]; rfl) (by rw [h1]; rfl) (yb_0 (k := 1) e1 (by rw [h1]; rfl) (by rw [h1]; rfl) (yb_1 (k := 0) e0 (by rw [h1]; rfl) (by rw [h1]; rfl) (yL_k hj ⟨h1, h2⟩))))))))
                  exact ⟨op_of (sg := sgY j) (tl := tlY j) yr_144_0 hf (fun d h1 _ => (by show [Value.int (d.2.1 0), Value.int (nI 0)] = _; rw [h1]; rfl)), op_of (sg := sgY j) (tl := tlY j) yr_144_1 hf (fun d h1 _ => (by show [Value.int (d.2.1 0), Value.int (nI 1)] = _; rw [h1]; rfl))⟩
                · skip
                  have hf : ∀ d : mD, d.2.1 = sgY j → d.2.2.1 = tlY j → FOK d _ := fun d h1 h2 => yb_1 (k := 8) e8 (by rw [h1]; rfl) (by rw [h1]; rfl) (yb_0 (k := 7) e7 (by rw [h1]; rfl) (by rw [h1]; rfl) (yb_0 (k := 5) e5 (by rw [h1]; rfl) (by rw [h1]; rfl) (yb_0 (k := 4) e4 (by rw [h1]; rfl) (by rw [h1]; rfl) (yb_0 (k := 3) e3 (by rw [h1]; rfl) (by rw [h1]; rfl) (yb_1 (k := 2) e2 (by rw [h1]; rfl) (by rw [h1]; rfl) (yb_0 (k := 1) e1 (by rw [h1]; rfl) (by rw [h1]; rfl) (yb_1 (k := 0) e0 (by rw [h1]; rfl) (by rw [h1]; rfl) (yL_k hj ⟨h1, h2⟩))))))))
                  exact ⟨op_of (sg := sgY j) (tl := tlY j) yr_145_0 hf (fun d h1 _ => (by show [Value.int (d.2.1 0), Value.int (nI 0)] = _; rw [h1]; rfl)), op_of (sg := sgY j) (tl := tlY j) yr_145_1 hf (fun d h1 _ => (by show [Value.int (d.2.1 0), Value.int (nI 1)] = _; rw [h1]; rfl))⟩
              · skip
                rcases Nat.eq_zero_or_pos (er j 8) with e8 | e8
                · skip
                  have hf : ∀ d : mD, d.2.1 = sgY j → d.2.2.1 = tlY j → FOK d _ := fun d h1 h2 => yb_0 (k := 8) e8 (by rw [h1]; rfl) (by rw [h1]; rfl) (yb_1 (k := 7) e7 (by rw [h1]; rfl) (by rw [h1]; rfl) (yb_0 (k := 5) e5 (by rw [h1]; rfl) (by rw [h1]; rfl) (yb_0 (k := 4) e4 (by rw [h1]; rfl) (by rw [h1]; rfl) (yb_0 (k := 3) e3 (by rw [h1]; rfl) (by rw [h1]; rfl) (yb_1 (k := 2) e2 (by rw [h1]; rfl) (by rw [h1]; rfl) (yb_0 (k := 1) e1 (by rw [h1]; rfl) (by rw [h1]; rfl) (yb_1 (k := 0) e0 (by rw [h1]; rfl) (by rw [h1]; rfl) (yL_k hj ⟨h1, h2⟩))))))))
                  exact ⟨op_of (sg := sgY j) (tl := tlY j) yr_146_0 hf (fun d h1 _ => (by show [Value.int (d.2.1 0), Value.int (nI 0)] = _; rw [h1]; rfl)), op_of (sg := sgY j) (tl := tlY j) yr_146_1 hf (fun d h1 _ => (by show [Value.int (d.2.1 0), Value.int (nI 1)] = _; rw [h1]; rfl))⟩
                · skip
                  have hf : ∀ d : mD, d.2.1 = sgY j → d.2.2.1 = tlY j → FOK d _ := fun d h1 h2 => yb_1 (k := 8) e8 (by rw [h1]; rfl) (by rw [h1]; rfl) (yb_1 (k := 7) e7 (by rw [h1]; rfl) (by rw [h1]; rfl) (yb_0 (k := 5) e5 (by rw [h1]; rfl) (by rw [h1]; rfl) (yb_0 (k := 4) e4 (by rw [h1]; rfl) (by rw [h1]; rfl) (yb_0 (k := 3) e3 (by rw [h1]; rfl) (by rw [h1]; rfl) (yb_1 (k := 2) e2 (by rw [h1]; rfl) (by rw [h1]; rfl) (yb_0 (k := 1) e1 (by rw [h1]; rfl) (by rw [h1]; rfl) (yb_1 (k := 0) e0 (by rw [h1]; rfl) (by rw [h1]; rfl) (yL_k hj ⟨h1, h2⟩))))))))
                  exact ⟨op_of (sg := sgY j) (tl := tlY j) yr_147_0 hf (fun d h1 _ => (by show [Value.int (d.2.1 0), Value.int (nI 0)] = _; rw [h1]; rfl)), op_of (sg := sgY j) (tl := tlY j) yr_147_1 hf (fun d h1 _ => (by show [Value.int (d.2.1 0), Value.int (nI 1)] = _; rw [h1]; rfl))⟩
            · skip
              rcases Nat.eq_zero_or_pos (er j 7) with e7 | e7
              · skip
                have hf : ∀ d : mD, d.2.1 = sgY j → d.2.2.1 = tlY j → FOK d _ := fun d h1 h2 => yb_0 (k := 7) e7 (by rw [h1]; rfl) (by rw [h1]; rfl) (yb_1 (k := 5) e5 (by rw [h1]; rfl) (by rw [h1]; rfl) (yb_0 (k := 4) e4 (by rw [h1]; rfl) (by rw [h1]; rfl) (yb_0 (k := 3) e3 (by rw [h1]; rfl) (by rw [h1]; rfl) (yb_1 (k := 2) e2 (by rw [h1]; rfl) (by rw [h1]; rfl) (yb_0 (k := 1) e1 (by rw [h1]; rfl) (by rw [h1]; rfl) (yb_1 (k := 0) e0 (by rw [h1]; rfl) (by rw [h1]; rfl) (yL_k hj ⟨h1, h2⟩)))))))
                exact ⟨op_of (sg := sgY j) (tl := tlY j) yr_148_0 hf (fun d h1 _ => (by show [Value.int (d.2.1 0), Value.int (nI 0)] = _; rw [h1]; rfl)), op_of (sg := sgY j) (tl := tlY j) yr_148_1 hf (fun d h1 _ => (by show [Value.int (d.2.1 0), Value.int (nI 1)] = _; rw [h1]; rfl))⟩
              · skip
                have hf : ∀ d : mD, d.2.1 = sgY j → d.2.2.1 = tlY j → FOK d _ := fun d h1 h2 => yb_1 (k := 7) e7 (by rw [h1]; rfl) (by rw [h1]; rfl) (yb_1 (k := 5) e5 (by rw [h1]; rfl) (by rw [h1]; rfl) (yb_0 (k := 4) e4 (by rw [h1]; rfl) (by rw [h1]; rfl) (yb_0 (k := 3) e3 (by rw [h1]; rfl) (by rw [h1]; rfl) (yb_1 (k := 2) e2 (by rw [h1]; rfl) (by rw [h1]; rfl) (yb_0 (k := 1) e1 (by rw [h1]; rfl) (by rw [h1]; rfl) (yb_1 (k := 0) e0 (by rw [h1]; rfl) (by rw [h1]; rfl) (yL_k hj ⟨h1, h2⟩)))))))
                exact ⟨op_of (sg := sgY j) (tl := tlY j) yr_149_0 hf (fun d h1 _ => (by show [Value.int (d.2.1 0), Value.int (nI 0)] = _; rw [h1]; rfl)), op_of (sg := sgY j) (tl := tlY j) yr_149_1 hf (fun d h1 _ => (by show [Value.int (d.2.1 0), Value.int (nI 1)] = _; rw [h1]; rfl))⟩
          · skip
            rcases Nat.eq_zero_or_pos (er j 5) with e5 | e5
            · skip
              rcases Nat.eq_zero_or_pos (er j 8) with e8 | e8
              · skip
                have hf : ∀ d : mD, d.2.1 = sgY j → d.2.2.1 = tlY j → FOK d _ := fun d h1 h2 => yb_0 (k := 8) e8 (by rw [h1]; rfl) (by rw [h1]; rfl) (yb_0 (k := 5) e5 (by rw [h1]; rfl) (by rw [h1]; rfl) (yb_1 (k := 4) e4 (by rw [h1]; rfl) (by rw [h1]; rfl) (yb_0 (k := 3) e3 (by rw [h1]; rfl) (by rw [h1]; rfl) (yb_1 (k := 2) e2 (by rw [h1]; rfl) (by rw [h1]; rfl) (yb_0 (k := 1) e1 (by rw [h1]; rfl) (by rw [h1]; rfl) (yb_1 (k := 0) e0 (by rw [h1]; rfl) (by rw [h1]; rfl) (yL_k hj ⟨h1, h2⟩)))))))
                exact ⟨op_of (sg := sgY j) (tl := tlY j) yr_150_0 hf (fun d h1 _ => (by show [Value.int (d.2.1 0), Value.int (nI 0)] = _; rw [h1]; rfl)), op_of (sg := sgY j) (tl := tlY j) yr_150_1 hf (fun d h1 _ => (by show [Value.int (d.2.1 0), Value.int (nI 1)] = _; rw [h1]; rfl))⟩
              · skip
                have hf : ∀ d : mD, d.2.1 = sgY j → d.2.2.1 = tlY j → FOK d _ := fun d h1 h2 => yb_1 (k := 8) e8 (by rw [h1]; rfl) (by rw [h1]; rfl) (yb_0 (k := 5) e5 (by rw [h1]; rfl) (by rw [h1]; rfl) (yb_1 (k := 4) e4 (by rw [h1]; rfl) (by rw [h1]; rfl) (yb_0 (k := 3) e3 (by rw [h1]; rfl) (by rw [h1]; rfl) (yb_1 (k := 2) e2 (by rw [h1]; rfl) (by rw [h1]; rfl) (yb_0 (k := 1) e1 (by rw [h1]; rfl) (by rw [h1]; rfl) (yb_1 (k := 0) e0 (by rw [h1]; rfl) (by rw [h1]; rfl) (yL_k hj ⟨h1, h2⟩)))))))
                exact ⟨op_of (sg := sgY j) (tl := tlY j) yr_151_0 hf (fun d h1 _ => (by show [Value.int (d.2.1 0), Value.int (nI 0)] = _; rw [h1]; rfl)), op_of (sg := sgY j) (tl := tlY j) yr_151_1 hf (fun d h1 _ => (by show [Value.int (d.2.1 0), Value.int (nI 1)] = _; rw [h1]; rfl))⟩
            · skip
              have hf : ∀ d : mD, d.2.1 = sgY j → d.2.2.1 = tlY j → FOK d _ := fun d h1 h2 => yb_1 (k := 5) e5 (by rw [h1]; rfl) (by rw [h1]; rfl) (yb_1 (k := 4) e4 (by rw [h1]; rfl) (by rw [h1]; rfl) (yb_0 (k := 3) e3 (by rw [h1]; rfl) (by rw [h1]; rfl) (yb_1 (k := 2) e2 (by rw [h1]; rfl) (by rw [h1]; rfl) (yb_0 (k := 1) e1 (by rw [h1]; rfl) (by rw [h1]; rfl) (yb_1 (k := 0) e0 (by rw [h1]; rfl) (by rw [h1]; rfl) (yL_k hj ⟨h1, h2⟩))))))
              exact ⟨op_of (sg := sgY j) (tl := tlY j) yr_152_0 hf (fun d h1 _ => (by show [Value.int (d.2.1 0), Value.int (nI 0)] = _; rw [h1]; rfl)), op_of (sg := sgY j) (tl := tlY j) yr_152_1 hf (fun d h1 _ => (by show [Value.int (d.2.1 0), Value.int (nI 1)] = _; rw [h1]; rfl))⟩
        · skip
          rcases Nat.eq_zero_or_pos (er j 4) with e4 | e4
          · skip
            rcases Nat.eq_zero_or_pos (er j 5) with e5 | e5
            · skip
              rcases Nat.eq_zero_or_pos (er j 7) with e7 | e7
              · skip
                rcases Nat.eq_zero_or_pos (er j 8) with e8 | e8
                · skip
                  have hf : ∀ d : mD, d.2.1 = sgY j → d.2.2.1 = tlY j → FOK d _ := fun d h1 h2 => yb_0 (k := 8) e8 (by rw [h1]; rfl) (by rw [h1]; rfl) (yb_0 (k := 7) e7 (by rw [h1]; rfl) (by rw [h1]; rfl) (yb_0 (k := 5) e5 (by rw [h1]; rfl) (by rw [h1]; rfl) (yb_0 (k := 4) e4 (by rw [h1]; rfl) (by rw [h1]; rfl) (yb_1 (k := 3) e3 (by rw [h1]; rfl) (by rw [h1]; rfl) (yb_1 (k := 2) e2 (by rw [h1]; rfl) (by rw [h1]; rfl) (yb_0 (k := 1) e1 (by rw [h1]; rfl) (by rw [h1]; rfl) (yb_1 (k := 0) e0 (by rw [h1]; rfl) (by rw [h1]; rfl) (yL_k hj ⟨h1, h2⟩))))))))
                  exact ⟨op_of (sg := sgY j) (tl := tlY j) yr_153_0 hf (fun d h1 _ => (by show [Value.int (d.2.1 0), Value.int (nI 0)] = _; rw [h1]; rfl)), op_of (sg := sgY j) (tl := tlY j) yr_153_1 hf (fun d h1 _ => (by show [Value.int (d.2.1 0), Value.int (nI 1)] = _; rw [h1]; rfl))⟩
                · skip
                  have hf : ∀ d : mD, d.2.1 = sgY j → d.2.2.1 = tlY j → FOK d _ := fun d h1 h2 => yb_1 (k := 8) e8 (by rw [h1]; rfl) (by rw [h1]; rfl) (yb_0 (k := 7) e7 (by rw [h1]; rfl) (by rw [h1]; rfl) (yb_0 (k := 5) e5 (by rw [h1]; rfl) (by rw [h1]; rfl) (yb_0 (k := 4) e4 (by rw [h1]; rfl) (by rw [h1]; rfl) (yb_1 (k := 3) e3 (by rw [h1]; rfl) (by rw [h1]; rfl) (yb_1 (k := 2) e2 (by rw [h1]; rfl) (by rw [h1]; rfl) (yb_0 (k := 1) e1 (by rw [h1]; rfl) (by rw [h1]; rfl) (yb_1 (k := 0) e0 (by rw [h1]; rfl) (by rw [h1]; rfl) (yL_k hj ⟨h1, h2⟩))))))))
                  exact ⟨op_of (sg := sgY j) (tl := tlY j) yr_154_0 hf (fun d h1 _ => (by show [Value.int (d.2.1 0), Value.int (nI 0)] = _; rw [h1]; rfl)), op_of (sg := sgY j) (tl := tlY j) yr_154_1 hf (fun d h1 _ => (by show [Value.int (d.2.1 0), Value.int (nI 1)] = _; rw [h1]; rfl))⟩
              · skip
                rcases Nat.eq_zero_or_pos (er j 8) with e8 | e8
                · skip
                  have hf : ∀ d : mD, d.2.1 = sgY j → d.2.2.1 = tlY j → FOK d _ := fun d h1 h2 => yb_0 (k := 8) e8 (by rw [h1]; rfl) (by rw [h1]; rfl) (yb_1 (k := 7) e7 (by rw [h1]; rfl) (by rw [h1]; rfl) (yb_0 (k := 5) e5 (by rw [h1]; rfl) (by rw [h1]; rfl) (yb_0 (k := 4) e4 (by rw [h1]; rfl) (by rw [h1]; rfl) (yb_1 (k := 3) e3 (by rw [h1]; rfl) (by rw [h1]; rfl) (yb_1 (k := 2) e2 (by rw [h1]; rfl) (by rw [h1]; rfl) (yb_0 (k := 1) e1 (by rw [h1]; rfl) (by rw [h1]; rfl) (yb_1 (k := 0) e0 (by rw [h1]; rfl) (by rw [h1]; rfl) (yL_k hj ⟨h1, h2⟩))))))))
                  exact ⟨op_of (sg := sgY j) (tl := tlY j) yr_155_0 hf (fun d h1 _ => (by show [Value.int (d.2.1 0), Value.int (nI 0)] = _; rw [h1]; rfl)), op_of (sg := sgY j) (tl := tlY j) yr_155_1 hf (fun d h1 _ => (by show [Value.int (d.2.1 0), Value.int (nI 1)] = _; rw [h1]; rfl))⟩
                · skip
                  have hf : ∀ d : mD, d.2.1 = sgY j → d.2.2.1 = tlY j → FOK d _ := fun d h1 h2 => yb_1 (k := 8) e8 (by rw [h1]; rfl) (by rw [h1]; rfl) (yb_1 (k := 7) e7 (by rw [h1]; rfl) (by rw [h1]; rfl) (yb_0 (k := 5) e5 (by rw [h1]; rfl) (by rw [h1]; rfl) (yb_0 (k := 4) e4 (by rw [h1]; rfl) (by rw [h1]; rfl) (yb_1 (k := 3) e3 (by rw [h1]; rfl) (by rw [h1]; rfl) (yb_1 (k := 2) e2 (by rw [h1]; rfl) (by rw [h1]; rfl) (yb_0 (k := 1) e1 (by rw [h1]; rfl) (by rw [h1]; rfl) (yb_1 (k := 0) e0 (by rw [h1]; rfl) (by rw [h1]; rfl) (yL_k hj ⟨h1, h2⟩))))))))
                  exact ⟨op_of (sg := sgY j) (tl := tlY j) yr_156_0 hf (fun d h1 _ => (by show [Value.int (d.2.1 0), Value.int (nI 0)] = _; rw [h1]; rfl)), op_of (sg := sgY j) (tl := tlY j) yr_156_1 hf (fun d h1 _ => (by show [Value.int (d.2.1 0), Value.int (nI 1)] = _; rw [h1]; rfl))⟩
            · skip
              rcases Nat.eq_zero_or_pos (er j 7) with e7 | e7
              · skip
                have hf : ∀ d : mD, d.2.1 = sgY j → d.2.2.1 = tlY j → FOK d _ := fun d h1 h2 => yb_0 (k := 7) e7 (by rw [h1]; rfl) (by rw [h1]; rfl) (yb_1 (k := 5) e5 (by rw [h1]; rfl) (by rw [h1]; rfl) (yb_0 (k := 4) e4 (by rw [h1]; rfl) (by rw [h1]; rfl) (yb_1 (k := 3) e3 (by rw [h1]; rfl) (by rw [h1]; rfl) (yb_1 (k := 2) e2 (by rw [h1]; rfl) (by rw [h1]; rfl) (yb_0 (k := 1) e1 (by rw [h1]; rfl) (by rw [h1]; rfl) (yb_1 (k := 0) e0 (by rw [h1]; rfl) (by rw [h1]; rfl) (yL_k hj ⟨h1, h2⟩)))))))
                exact ⟨op_of (sg := sgY j) (tl := tlY j) yr_157_0 hf (fun d h1 _ => (by show [Value.int (d.2.1 0), Value.int (nI 0)] = _; rw [h1]; rfl)), op_of (sg := sgY j) (tl := tlY j) yr_157_1 hf (fun d h1 _ => (by show [Value.int (d.2.1 0), Value.int (nI 1)] = _; rw [h1]; rfl))⟩
              · skip
                have hf : ∀ d : mD, d.2.1 = sgY j → d.2.2.1 = tlY j → FOK d _ := fun d h1 h2 => yb_1 (k := 7) e7 (by rw [h1]; rfl) (by rw [h1]; rfl) (yb_1 (k := 5) e5 (by rw [h1]; rfl) (by rw [h1]; rfl) (yb_0 (k := 4) e4 (by rw [h1]; rfl) (by rw [h1]; rfl) (yb_1 (k := 3) e3 (by rw [h1]; rfl) (by rw [h1]; rfl) (yb_1 (k := 2) e2 (by rw [h1]; rfl) (by rw [h1]; rfl) (yb_0 (k := 1) e1 (by rw [h1]; rfl) (by rw [h1]; rfl) (yb_1 (k := 0) e0 (by rw [h1]; rfl) (by rw [h1]; rfl) (yL_k hj ⟨h1, h2⟩)))))))
                exact ⟨op_of (sg := sgY j) (tl := tlY j) yr_158_0 hf (fun d h1 _ => (by show [Value.int (d.2.1 0), Value.int (nI 0)] = _; rw [h1]; rfl)), op_of (sg := sgY j) (tl := tlY j) yr_158_1 hf (fun d h1 _ => (by show [Value.int (d.2.1 0), Value.int (nI 1)] = _; rw [h1]; rfl))⟩
          · skip
            rcases Nat.eq_zero_or_pos (er j 5) with e5 | e5
            · skip
              rcases Nat.eq_zero_or_pos (er j 8) with e8 | e8
              · skip
                have hf : ∀ d : mD, d.2.1 = sgY j → d.2.2.1 = tlY j → FOK d _ := fun d h1 h2 => yb_0 (k := 8) e8 (by rw [h1]; rfl) (by rw [h1]; rfl) (yb_0 (k := 5) e5 (by rw [h1]; rfl) (by rw [h1]; rfl) (yb_1 (k := 4) e4 (by rw [h1]; rfl) (by rw [h1]; rfl) (yb_1 (k := 3) e3 (by rw [h1]; rfl) (by rw [h1]; rfl) (yb_1 (k := 2) e2 (by rw [h1]; rfl) (by rw [h1]; rfl) (yb_0 (k := 1) e1 (by rw [h1]; rfl) (by rw [h1]; rfl) (yb_1 (k := 0) e0 (by rw [h1]; rfl) (by rw [h1]; rfl) (yL_k hj ⟨h1, h2⟩)))))))
                exact ⟨op_of (sg := sgY j) (tl := tlY j) yr_159_0 hf (fun d h1 _ => (by show [Value.int (d.2.1 0), Value.int (nI 0)] = _; rw [h1]; rfl)), op_of (sg := sgY j) (tl := tlY j) yr_159_1 hf (fun d h1 _ => (by show [Value.int (d.2.1 0), Value.int (nI 1)] = _; rw [h1]; rfl))⟩
              · skip
                have hf : ∀ d : mD, d.2.1 = sgY j → d.2.2.1 = tlY j → FOK d _ := fun d h1 h2 => yb_1 (k := 8) e8 (by rw [h1]; rfl) (by rw [h1]; rfl) (yb_0 (k := 5) e5 (by rw [h1]; rfl) (by rw [h1]; rfl) (yb_1 (k := 4) e4 (by rw [h1]; rfl) (by rw [h1]; rfl) (yb_1 (k := 3) e3 (by rw [h1]; rfl) (by rw [h1]; rfl) (yb_1 (k := 2) e2 (by rw [h1]; rfl) (by rw [h1]; rfl) (yb_0 (k := 1) e1 (by rw [h1]; rfl) (by rw [h1]; rfl) (yb_1 (k := 0) e0 (by rw [h1]; rfl) (by rw [h1]; rfl) (yL_k hj ⟨h1, h2⟩)))))))
                exact ⟨op_of (sg := sgY j) (tl := tlY j) yr_160_0 hf (fun d h1 _ => (by show [Value.int (d.2.1 0), Value.int (nI 0)] = _; rw [h1]; rfl)), op_of (sg := sgY j) (tl := tlY j) yr_160_1 hf (fun d h1 _ => (by show [Value.int (d.2.1 0), Value.int (nI 1)] = _; rw [h1]; rfl))⟩
            · skip
              have hf : ∀ d : mD, d.2.1 = sgY j → d.2.2.1 = tlY j → FOK d _ := fun d h1 h2 => yb_1 (k := 5) e5 (by rw [h1]; rfl) (by rw [h1]; rfl) (yb_1 (k := 4) e4 (by rw [h1]; rfl) (by rw [h1]; rfl) (yb_1 (k := 3) e3 (by rw [h1]; rfl) (by rw [h1]; rfl) (yb_1 (k := 2) e2 (by rw [h1]; rfl) (by rw [h1]; rfl) (yb_0 (k := 1) e1 (by rw [h1]; rfl) (by rw [h1]; rfl) (yb_1 (k := 0) e0 (by rw [h1]; rfl) (by rw [h1]; rfl) (yL_k hj ⟨h1, h2⟩))))))
              exact ⟨op_of (sg := sgY j) (tl := tlY j) yr_161_0 hf (fun d h1 _ => (by show [Value.int (d.2.1 0), Value.int (nI 0)] = _; rw [h1]; rfl)), op_of (sg := sgY j) (tl := tlY j) yr_161_1 hf (fun d h1 _ => (by show [Value.int (d.2.1 0), Value.int (nI 1)] = _; rw [h1]; rfl))⟩
    · skip
      rcases Nat.eq_zero_or_pos (er j 2) with e2 | e2
      · skip
        rcases Nat.eq_zero_or_pos (er j 3) with e3 | e3
        · skip
          rcases Nat.eq_zero_or_pos (er j 4) with e4 | e4
          · skip
            rcases Nat.eq_zero_or_pos (er j 6) with e6 | e6
            · skip
              rcases Nat.eq_zero_or_pos (er j 7) with e7 | e7
              · skip
                rcases Nat.eq_zero_or_pos (er j 8) with e8 | e8
                · skip
                  have hf : ∀ d : mD, d.2.1 = sgY j → d.2.2.1 = tlY j → FOK d _ := fun d h1 h2 => yb_0 (k := 8) e8 (by rw [h1]; rfl) (by rw [h1]; rfl) (yb_0 (k := 7) e7 (by rw [h1]; rfl) (by rw [h1]; rfl) (yb_0 (k := 6) e6 (by rw [h1]; rfl) (by rw [h1]; rfl) (yb_0 (k := 4) e4 (by rw [h1]; rfl) (by rw [h1]; rfl) (yb_0 (k := 3) e3 (by rw [h1]; rfl) (by rw [h1]; rfl) (yb_0 (k := 2) e2 (by rw [h1]; rfl) (by rw [h1]; rfl) (yb_1 (k := 1) e1 (by rw [h1]; rfl) (by rw [h1]; rfl) (yb_1 (k := 0) e0 (by rw [h1]; rfl) (by rw [h1]; rfl) (yL_k hj ⟨h1, h2⟩))))))))
                  exact ⟨op_of (sg := sgY j) (tl := tlY j) yr_162_0 hf (fun d h1 _ => (by show [Value.int (d.2.1 0), Value.int (nI 0)] = _; rw [h1]; rfl)), op_of (sg := sgY j) (tl := tlY j) yr_162_1 hf (fun d h1 _ => (by show [Value.int (d.2.1 0), Value.int (nI 1)] = _; rw [h1]; rfl))⟩
                · skip
                  have hf : ∀ d : mD, d.2.1 = sgY j → d.2.2.1 = tlY j → FOK d _ := fun d h1 h2 => yb_1 (k := 8) e8 (by rw [h1]; rfl) (by rw [h1]; rfl) (yb_0 (k := 7) e7 (by rw [h1]; rfl) (by rw [h1]; rfl) (yb_0 (k := 6) e6 (by rw [h1]; rfl) (by rw [h1]; rfl) (yb_0 (k := 4) e4 (by rw [h1]; rfl) (by rw [h1]; rfl) (yb_0 (k := 3) e3 (by rw [h1]; rfl) (by rw [h1]; rfl) (yb_0 (k := 2) e2 (by rw [h1]; rfl) (by rw [h1]; rfl) (yb_1 (k := 1) e1 (by rw [h1]; rfl) (by rw [h1]; rfl) (yb_1 (k := 0) e0 (by rw [h1]; rfl) (by rw [h1]; rfl) (yL_k hj ⟨h1, h2⟩))))))))
                  exact ⟨op_of (sg := sgY j) (tl := tlY j) yr_163_0 hf (fun d h1 _ => (by show [Value.int (d.2.1 0), Value.int (nI 0)] = _; rw [h1]; rfl)), op_of (sg := sgY j) (tl := tlY j) yr_163_1 hf (fun d h1 _ => (by show [Value.int (d.2.1 0), Value.int (nI 1)] = _; rw [h1]; rfl))⟩
              · skip
                rcases Nat.eq_zero_or_pos (er j 8) with e8 | e8
                · skip
                  have hf : ∀ d : mD, d.2.1 = sgY j → d.2.2.1 = tlY j → FOK d _ := fun d h1 h2 => yb_0 (k := 8) e8 (by rw [h1]; rfl) (by rw [h1]; rfl) (yb_1 (k := 7) e7 (by rw [h1]; rfl) (by rw [h1]; rfl) (yb_0 (k := 6) e6 (by rw [h1]; rfl) (by rw [h1]; rfl) (yb_0 (k := 4) e4 (by rw [h1]; rfl) (by rw [h1]; rfl) (yb_0 (k := 3) e3 (by rw [h1]; rfl) (by rw [h1]; rfl) (yb_0 (k := 2) e2 (by rw [h1]; rfl) (by rw [h1]; rfl) (yb_1 (k := 1) e1 (by rw [h1]; rfl) (by rw [h1]; rfl) (yb_1 (k := 0) e0 (by rw [h1]; rfl) (by rw [h1]; rfl) (yL_k hj ⟨h1, h2⟩))))))))
                  exact ⟨op_of (sg := sgY j) (tl := tlY j) yr_164_0 hf (fun d h1 _ => (by show [Value.int (d.2.1 0), Value.int (nI 0)] = _; rw [h1]; rfl)), op_of (sg := sgY j) (tl := tlY j) yr_164_1 hf (fun d h1 _ => (by show [Value.int (d.2.1 0), Value.int (nI 1)] = _; rw [h1]; rfl))⟩
                · skip
                  have hf : ∀ d : mD, d.2.1 = sgY j → d.2.2.1 = tlY j → FOK d _ := fun d h1 h2 => yb_1 (k := 8) e8 (by rw [h1]; rfl) (by rw [h1]; rfl) (yb_1 (k := 7) e7 (by rw [h1]; rfl) (by rw [h1]; rfl) (yb_0 (k := 6) e6 (by rw [h1]; rfl) (by rw [h1]; rfl) (yb_0 (k := 4) e4 (by rw [h1]; rfl) (by rw [h1]; rfl) (yb_0 (k := 3) e3 (by rw [h1]; rfl) (by rw [h1]; rfl) (yb_0 (k := 2) e2 (by rw [h1]; rfl) (by rw [h1]; rfl) (yb_1 (k := 1) e1 (by rw [h1]; rfl) (by rw [h1]; rfl) (yb_1 (k := 0) e0 (by rw [h1]; rfl) (by rw [h1]; rfl) (yL_k hj ⟨h1, h2⟩))))))))
                  exact ⟨op_of (sg := sgY j) (tl := tlY j) yr_165_0 hf (fun d h1 _ => (by show [Value.int (d.2.1 0), Value.int (nI 0)] = _; rw [h1]; rfl)), op_of (sg := sgY j) (tl := tlY j) yr_165_1 hf (fun d h1 _ => (by show [Value.int (d.2.1 0), Value.int (nI 1)] = _; rw [h1]; rfl))⟩
            · skip
              rcases Nat.eq_zero_or_pos (er j 7) with e7 | e7
              · skip
                rcases Nat.eq_zero_or_pos (er j 8) with e8 | e8
                · skip
                  have hf : ∀ d : mD, d.2.1 = sgY j → d.2.2.1 = tlY j → FOK d _ := fun d h1 h2 => yb_0 (k := 8) e8 (by rw [h1]; rfl) (by rw [h1]; rfl) (yb_0 (k := 7) e7 (by rw [h1]; rfl) (by rw [h1]; rfl) (yb_1 (k := 6) e6 (by rw [h1]; rfl) (by rw [h1]; rfl) (yb_0 (k := 4) e4 (by rw [h1]; rfl) (by rw [h1]; rfl) (yb_0 (k := 3) e3 (by rw [h1]; rfl) (by rw [h1]; rfl) (yb_0 (k := 2) e2 (by rw [h1]; rfl) (by rw [h1]; rfl) (yb_1 (k := 1) e1 (by rw [h1]; rfl) (by rw [h1]; rfl) (yb_1 (k := 0) e0 (by rw [h1]; rfl) (by rw [h1]; rfl) (yL_k hj ⟨h1, h2⟩))))))))
                  exact ⟨op_of (sg := sgY j) (tl := tlY j) yr_166_0 hf (fun d h1 _ => (by show [Value.int (d.2.1 0), Value.int (nI 0)] = _; rw [h1]; rfl)), op_of (sg := sgY j) (tl := tlY j) yr_166_1 hf (fun d h1 _ => (by show [Value.int (d.2.1 0), Value.int (nI 1)] = _; rw [h1]; rfl))⟩
                · skip
                  have hf : ∀ d : mD, d.2.1 = sgY j → d.2.2.1 = tlY j → FOK d _ := fun d h1 h2 => yb_1 (k := 8) e8 (by rw [h1]; rfl) (by rw [h1]; rfl) (yb_0 (k := 7) e7 (by rw [h1]; rfl) (by rw [h1]; rfl) (yb_1 (k := 6) e6 (by rw [h1]; rfl) (by rw [h1]; rfl) (yb_0 (k := 4) e4 (by rw [h1]; rfl) (by rw [h1]; rfl) (yb_0 (k := 3) e3 (by rw [h1]; rfl) (by rw [h1]; rfl) (yb_0 (k := 2) e2 (by rw [h1]; rfl) (by rw [h1]; rfl) (yb_1 (k := 1) e1 (by rw [h1]; rfl) (by rw [h1]; rfl) (yb_1 (k := 0) e0 (by rw [h1]; rfl) (by rw [h1]; rfl) (yL_k hj ⟨h1, h2⟩))))))))
                  exact ⟨op_of (sg := sgY j) (tl := tlY j) yr_167_0 hf (fun d h1 _ => (by show [Value.int (d.2.1 0), Value.int (nI 0)] = _; rw [h1]; rfl)), op_of (sg := sgY j) (tl := tlY j) yr_167_1 hf (fun d h1 _ => (by show [Value.int (d.2.1 0), Value.int (nI 1)] = _; rw [h1]; rfl))⟩
              · skip
                rcases Nat.eq_zero_or_pos (er j 8) with e8 | e8
                · skip
                  have hf : ∀ d : mD, d.2.1 = sgY j → d.2.2.1 = tlY j → FOK d _ := fun d h1 h2 => yb_0 (k := 8) e8 (by rw [h1]; rfl) (by rw [h1]; rfl) (yb_1 (k := 7) e7 (by rw [h1]; rfl) (by rw [h1]; rfl) (yb_1 (k := 6) e6 (by rw [h1]; rfl) (by rw [h1]; rfl) (yb_0 (k := 4) e4 (by rw [h1]; rfl) (by rw [h1]; rfl) (yb_0 (k := 3) e3 (by rw [h1]; rfl) (by rw [h1]; rfl) (yb_0 (k := 2) e2 (by rw [h1]; rfl) (by rw [h1]; rfl) (yb_1 (k := 1) e1 (by rw [h1]; rfl) (by rw [h1]; rfl) (yb_1 (k := 0) e0 (by rw [h1]; rfl) (by rw [h1]; rfl) (yL_k hj ⟨h1, h2⟩))))))))
                  exact ⟨op_of (sg := sgY j) (tl := tlY j) yr_168_0 hf (fun d h1 _ => (by show [Value.int (d.2.1 0), Value.int (nI 0)] = _; rw [h1]; rfl)), op_of (sg := sgY j) (tl := tlY j) yr_168_1 hf (fun d h1 _ => (by show [Value.int (d.2.1 0), Value.int (nI 1)] = _; rw [h1]; rfl))⟩
                · skip
                  have hf : ∀ d : mD, d.2.1 = sgY j → d.2.2.1 = tlY j → FOK d _ := fun d h1 h2 => yb_1 (k := 8) e8 (by rw [h1]; rfl) (by rw [h1]; rfl) (yb_1 (k := 7) e7 (by rw [h1]; rfl) (by rw [h1]; rfl) (yb_1 (k := 6) e6 (by rw [h1]; rfl) (by rw [h1]; rfl) (yb_0 (k := 4) e4 (by rw [h1]; rfl) (by rw [h1]; rfl) (yb_0 (k := 3) e3 (by rw [h1]; rfl) (by rw [h1]; rfl) (yb_0 (k := 2) e2 (by rw [h1]; rfl) (by rw [h1]; rfl) (yb_1 (k := 1) e1 (by rw [h1]; rfl) (by rw [h1]; rfl) (yb_1 (k := 0) e0 (by rw [h1]; rfl) (by rw [h1]; rfl) (yL_k hj ⟨h1, h2⟩))))))))
                  exact ⟨op_of (sg := sgY j) (tl := tlY j) yr_169_0 hf (fun d h1 _ => (by show [Value.int (d.2.1 0), Value.int (nI 0)] = _; rw [h1]; rfl)), op_of (sg := sgY j) (tl := tlY j) yr_169_1 hf (fun d h1 _ => (by show [Value.int (d.2.1 0), Value.int (nI 1)] = _; rw [h1]; rfl))⟩
          · skip
            rcases Nat.eq_zero_or_pos (er j 6) with e6 | e6
            · skip
              rcases Nat.eq_zero_or_pos (er j 8) with e8 | e8
              · skip
                have hf : ∀ d : mD, d.2.1 = sgY j → d.2.2.1 = tlY j → FOK d _ := fun d h1 h2 => yb_0 (k := 8) e8 (by rw [h1]; rfl) (by rw [h1]; rfl) (yb_0 (k := 6) e6 (by rw [h1]; rfl) (by rw [h1]; rfl) (yb_1 (k := 4) e4 (by rw [h1]; rfl) (by rw [h1]; rfl) (yb_0 (k := 3) e3 (by rw [h1]; rfl) (by rw [h1]; rfl) (yb_0 (k := 2) e2 (by rw [h1]; rfl) (by rw [h1]; rfl) (yb_1 (k := 1) e1 (by rw [h1]; rfl) (by rw [h1]; rfl) (yb_1 (k := 0) e0 (by rw [h1]; rfl) (by rw [h1]; rfl) (yL_k hj ⟨h1, h2⟩)))))))
                exact ⟨op_of (sg := sgY j) (tl := tlY j) yr_170_0 hf (fun d h1 _ => (by show [Value.int (d.2.1 0), Value.int (nI 0)] = _; rw [h1]; rfl)), op_of (sg := sgY j) (tl := tlY j) yr_170_1 hf (fun d h1 _ => (by show [Value.int (d.2.1 0), Value.int (nI 1)] = _; rw [h1]; rfl))⟩
              · skip
                have hf : ∀ d : mD, d.2.1 = sgY j → d.2.2.1 = tlY j → FOK d _ := fun d h1 h2 => yb_1 (k := 8) e8 (by rw [h1]; rfl) (by rw [h1]; rfl) (yb_0 (k := 6) e6 (by rw [h1]; rfl) (by rw [h1]; rfl) (yb_1 (k := 4) e4 (by rw [h1]; rfl) (by rw [h1]; rfl) (yb_0 (k := 3) e3 (by rw [h1]; rfl) (by rw [h1]; rfl) (yb_0 (k := 2) e2 (by rw [h1]; rfl) (by rw [h1]; rfl) (yb_1 (k := 1) e1 (by rw [h1]; rfl) (by rw [h1]; rfl) (yb_1 (k := 0) e0 (by rw [h1]; rfl) (by rw [h1]; rfl) (yL_k hj ⟨h1, h2⟩)))))))
                exact ⟨op_of (sg := sgY j) (tl := tlY j) yr_171_0 hf (fun d h1 _ => (by show [Value.int (d.2.1 0), Value.int (nI 0)] = _; rw [h1]; rfl)), op_of (sg := sgY j) (tl := tlY j) yr_171_1 hf (fun d h1 _ => (by show [Value.int (d.2.1 0), Value.int (nI 1)] = _; rw [h1]; rfl))⟩
            · skip
              rcases Nat.eq_zero_or_pos (er j 8) with e8 | e8
              · skip
                have hf : ∀ d : mD, d.2.1 = sgY j → d.2.2.1 = tlY j → FOK d _ := fun d h1 h2 => yb_0 (k := 8) e8 (by rw [h1]; rfl) (by rw [h1]; rfl) (yb_1 (k := 6) e6 (by rw [h1]; rfl) (by rw [h1]; rfl) (yb_1 (k := 4) e4 (by rw [h1]; rfl) (by rw [h1]; rfl) (yb_0 (k := 3) e3 (by rw [h1]; rfl) (by rw [h1]; rfl) (yb_0 (k := 2) e2 (by rw [h1]; rfl) (by rw [h1]; rfl) (yb_1 (k := 1) e1 (by rw [h1]; rfl) (by rw [h1]; rfl) (yb_1 (k := 0) e0 (by rw [h1]; rfl) (by rw [h1]; rfl) (yL_k hj ⟨h1, h2⟩)))))))
                exact ⟨op_of (sg := sgY j) (tl := tlY j) yr_172_0 hf (fun d h1 _ => (by show [Value.int (d.2.1 0), Value.int (nI 0)] = _; rw [h1]; rfl)), op_of (sg := sgY j) (tl := tlY j) yr_172_1 hf (fun d h1 _ => (by show [Value.int (d.2.1 0), Value.int (nI 1)] = _; rw [h1]; rfl))⟩
              · skip
                have hf : ∀ d : mD, d.2.1 = sgY j → d.2.2.1 = tlY j → FOK d _ := fun d h1 h2 => yb_1 (k := 8) e8 (by rw [h1]; rfl) (by rw [h1]; rfl) (yb_1 (k := 6) e6 (by rw [h1]; rfl) (by rw [h1]; rfl) (yb_1 (k := 4) e4 (by rw [h1]; rfl) (by rw [h1]; rfl) (yb_0 (k := 3) e3 (by rw [h1]; rfl) (by rw [h1]; rfl) (yb_0 (k := 2) e2 (by rw [h1]; rfl) (by rw [h1]; rfl) (yb_1 (k := 1) e1 (by rw [h1]; rfl) (by rw [h1]; rfl) (yb_1 (k := 0) e0 (by rw [h1]; rfl) (by rw [h1]; rfl) (yL_k hj ⟨h1, h2⟩)))))))
                exact ⟨op_of (sg := sgY j) (tl := tlY j) yr_173_0 hf (fun d h1 _ => (by show [Value.int (d.2.1 0), Value.int (nI 0)] = _; rw [h1]; rfl)), op_of (sg := sgY j) (tl := tlY j) yr_173_1 hf (fun d h1 _ => (by show [Value.int (d.2.1 0), Value.int (nI 1)] = _; rw [h1]; rfl))⟩
        · skip
          rcases Nat.eq_zero_or_pos (er j 4) with e4 | e4
          · skip
            rcases Nat.eq_zero_or_pos (er j 6) with e6 | e6
            · skip
              rcases Nat.eq_zero_or_pos (er j 7) with e7 | e7
              · skip
                rcases Nat.eq_zero_or_pos (er j 8) with e8 | e8
                · skip
                  have hf : ∀ d : mD, d.2.1 = sgY j → d.2.2.1 = tlY j → FOK d _ := fun d h1 h2 => yb_0 (k := 8) e8 (by rw [h1]; rfl) (by rw [h1]; rfl) (yb_0 (k := 7) e7 (by rw [h1]; rfl) (by rw [h1]; rfl) (yb_0 (k := 6) e6 (by rw [h1]; rfl) (by rw [h1]; rfl) (yb_0 (k := 4) e4 (by rw [h1]; rfl) (by rw [h1]; rfl) (yb_1 (k := 3) e3 (by rw [h1]; rfl) (by rw [h1]; rfl) (yb_0 (k := 2) e2 (by rw [h1]; rfl) (by rw [h1]; rfl) (yb_1 (k := 1) e1 (by rw [h1]; rfl) (by rw [h1]; rfl) (yb_1 (k := 0) e0 (by rw [h1]; rfl) (by rw [h1]; rfl) (yL_k hj ⟨h1, h2⟩))))))))
                  exact ⟨op_of (sg := sgY j) (tl := tlY j) yr_174_0 hf (fun d h1 _ => (by show [Value.int (d.2.1 0), Value.int (nI 0)] = _; rw [h1]; rfl)), op_of (sg := sgY j) (tl := tlY j) yr_174_1 hf (fun d h1 _ => (by show [Value.int (d.2.1 0), Value.int (nI 1)] = _; rw [h1]; rfl))⟩
                · skip
                  have hf : ∀ d : mD, d.2.1 = sgY j → d.2.2.1 = tlY j → FOK d _ := fun d h1 h2 => yb_1 (k := 8) e8 (by rw [h1]; rfl) (by rw [h1]; rfl) (yb_0 (k := 7) e7 (by rw [h1]; rfl) (by rw [h1]; rfl) (yb_0 (k := 6) e6 (by rw [h1]; rfl) (by rw [h1]; rfl) (yb_0 (k := 4) e4 (by rw [h1]; rfl) (by rw [h1]; rfl) (yb_1 (k := 3) e3 (by rw [h1]; rfl) (by rw [h1]; rfl) (yb_0 (k := 2) e2 (by rw [h1]; rfl) (by rw [h1]; rfl) (yb_1 (k := 1) e1 (by rw [h1]; rfl) (by rw [h1]; rfl) (yb_1 (k := 0) e0 (by rw [h1]; rfl) (by rw [h1]; rfl) (yL_k hj ⟨h1, h2⟩))))))))
                  exact ⟨op_of (sg := sgY j) (tl := tlY j) yr_175_0 hf (fun d h1 _ => (by show [Value.int (d.2.1 0), Value.int (nI 0)] = _; rw [h1]; rfl)), op_of (sg := sgY j) (tl := tlY j) yr_175_1 hf (fun d h1 _ => (by show [Value.int (d.2.1 0), Value.int (nI 1)] = _; rw [h1]; rfl))⟩
              · skip
                rcases Nat.eq_zero_or_pos (er j 8) with e8 | e8
                · skip
                  have hf : ∀ d : mD, d.2.1 = sgY j → d.2.2.1 = tlY j → FOK d _ := fun d h1 h2 => yb_0 (k := 8) e8 (by rw [h1]; rfl) (by rw [h1]; rfl) (yb_1 (k := 7) e7 (by rw [h1]; rfl) (by rw [h1]; rfl) (yb_0 (k := 6) e6 (by rw [h1]; rfl) (by rw [h1]; rfl) (yb_0 (k := 4) e4 (by rw [h1]; rfl) (by rw [h1]; rfl) (yb_1 (k := 3) e3 (by rw [h1]; rfl) (by rw [h1]; rfl) (yb_0 (k := 2) e2 (by rw [h1]; rfl) (by rw [h1]; rfl) (yb_1 (k := 1) e1 (by rw [h1]; rfl) (by rw [h1]; rfl) (yb_1 (k := 0) e0 (by rw [h1]; rfl) (by rw [h1]; rfl) (yL_k hj ⟨h1, h2⟩))))))))
                  exact ⟨op_of (sg := sgY j) (tl := tlY j) yr_176_0 hf (fun d h1 _ => (by show [Value.int (d.2.1 0), Value.int (nI 0)] = _; rw [h1]; rfl)), op_of (sg := sgY j) (tl := tlY j) yr_176_1 hf (fun d h1 _ => (by show [Value.int (d.2.1 0), Value.int (nI 1)] = _; rw [h1]; rfl))⟩
                · skip
                  have hf : ∀ d : mD, d.2.1 = sgY j → d.2.2.1 = tlY j → FOK d _ := fun d h1 h2 => yb_1 (k := 8) e8 (by rw [h1]; rfl) (by rw [h1]; rfl) (yb_1 (k := 7) e7 (by rw [h1]; rfl) (by rw [h1]; rfl) (yb_0 (k := 6) e6 (by rw [h1]; rfl) (by rw [h1]; rfl) (yb_0 (k := 4) e4 (by rw [h1]; rfl) (by rw [h1]; rfl) (yb_1 (k := 3) e3 (by rw [h1]; rfl) (by rw [h1]; rfl) (yb_0 (k := 2) e2 (by rw [h1]; rfl) (by rw [h1]; rfl) (yb_1 (k := 1) e1 (by rw [h1]; rfl) (by rw [h1]; rfl) (yb_1 (k := 0) e0 (by rw [h1]; rfl) (by rw [h1]; rfl) (yL_k hj ⟨h1, h2⟩))))))))
                  exact ⟨op_of (sg := sgY j) (tl := tlY j) yr_177_0 hf (fun d h1 _ => (by show [Value.int (d.2.1 0), Value.int (nI 0)] = _; rw [h1]; rfl)), op_of (sg := sgY j) (tl := tlY j) yr_177_1 hf (fun d h1 _ => (by show [Value.int (d.2.1 0), Value.int (nI 1)] = _; rw [h1]; rfl))⟩
            · skip
              rcases Nat.eq_zero_or_pos (er j 7) with e7 | e7
              · skip
                rcases Nat.eq_zero_or_pos (er j 8) with e8 | e8
                · skip
                  have hf : ∀ d : mD, d.2.1 = sgY j → d.2.2.1 = tlY j → FOK d _ := fun d h1 h2 => yb_0 (k := 8) e8 (by rw [h1]; rfl) (by rw [h1]; rfl) (yb_0 (k := 7) e7 (by rw [h1]; rfl) (by rw [h1]; rfl) (yb_1 (k := 6) e6 (by rw [h1]; rfl) (by rw [h1]; rfl) (yb_0 (k := 4) e4 (by rw [h1]; rfl) (by rw [h1]; rfl) (yb_1 (k := 3) e3 (by rw [h1]; rfl) (by rw [h1]; rfl) (yb_0 (k := 2) e2 (by rw [h1]; rfl) (by rw [h1]; rfl) (yb_1 (k := 1) e1 (by rw [h1]; rfl) (by rw [h1]; rfl) (yb_1 (k := 0) e0 (by rw [h1]; rfl) (by rw [h1]; rfl) (yL_k hj ⟨h1, h2⟩))))))))
                  exact ⟨op_of (sg := sgY j) (tl := tlY j) yr_178_0 hf (fun d h1 _ => (by show [Value.int (d.2.1 0), Value.int (nI 0)] = _; rw [h1]; rfl)), op_of (sg := sgY j) (tl := tlY j) yr_178_1 hf (fun d h1 _ => (by show [Value.int (d.2.1 0), Value.int (nI 1)] = _; rw [h1]; rfl))⟩
                · skip
                  have hf : ∀ d : mD, d.2.1 = sgY j → d.2.2.1 = tlY j → FOK d _ := fun d h1 h2 => yb_1 (k := 8) e8 (by rw [h1]; rfl) (by rw [h1]; rfl) (yb_0 (k := 7) e7 (by rw [h1]; rfl) (by rw [h1]; rfl) (yb_1 (k := 6) e6 (by rw [h1]; rfl) (by rw [h1]; rfl) (yb_0 (k := 4) e4 (by rw [h1]; rfl) (by rw [h1]; rfl) (yb_1 (k := 3) e3 (by rw [h1]; rfl) (by rw [h1]; rfl) (yb_0 (k := 2) e2 (by rw [h1]; rfl) (by rw [h1]; rfl) (yb_1 (k := 1) e1 (by rw [h1]; rfl) (by rw [h1]; rfl) (yb_1 (k := 0) e0 (by rw [h1]; rfl) (by rw [h1]; rfl) (yL_k hj ⟨h1, h2⟩))))))))
                  exact ⟨op_of (sg := sgY j) (tl := tlY j) yr_179_0 hf (fun d h1 _ => (by show [Value.int (d.2.1 0), Value.int (nI 0)] = _; rw [h1]; rfl)), op_of (sg := sgY j) (tl := tlY j) yr_179_1 hf (fun d h1 _ => (by show [Value.int (d.2.1 0), Value.int (nI 1)] = _; rw [h1]; rfl))⟩
              · skip
                rcases Nat.eq_zero_or_pos (er j 8) with e8 | e8
                · skip
                  have hf : ∀ d : mD, d.2.1 = sgY j → d.2.2.1 = tlY j → FOK d _ := fun d h1 h2 => yb_0 (k := 8) e8 (by rw [h1]; rfl) (by rw [h1]; rfl) (yb_1 (k := 7) e7 (by rw [h1]; rfl) (by rw [h1]; rfl) (yb_1 (k := 6) e6 (by rw [h1]; rfl) (by rw [h1]; rfl) (yb_0 (k := 4) e4 (by rw [h1]; rfl) (by rw [h1]; rfl) (yb_1 (k := 3) e3 (by rw [h1]; rfl) (by rw [h1]; rfl) (yb_0 (k := 2) e2 (by rw [h1]; rfl) (by rw [h1]; rfl) (yb_1 (k := 1) e1 (by rw [h1]; rfl) (by rw [h1]; rfl) (yb_1 (k := 0) e0 (by rw [h1]; rfl) (by rw [h1]; rfl) (yL_k hj ⟨h1, h2⟩))))))))
                  exact ⟨op_of (sg := sgY j) (tl := tlY j) yr_180_0 hf (fun d h1 _ => (by show [Value.int (d.2.1 0), Value.int (nI 0)] = _; rw [h1]; rfl)), op_of (sg := sgY j) (tl := tlY j) yr_180_1 hf (fun d h1 _ => (by show [Value.int (d.2.1 0), Value.int (nI 1)] = _; rw [h1]; rfl))⟩
                · skip
                  have hf : ∀ d : mD, d.2.1 = sgY j → d.2.2.1 = tlY j → FOK d _ := fun d h1 h2 => yb_1 (k := 8) e8 (by rw [h1]; rfl) (by rw [h1]; rfl) (yb_1 (k := 7) e7 (by rw [h1]; rfl) (by rw [h1]; rfl) (yb_1 (k := 6) e6 (by rw [h1]; rfl) (by rw [h1]; rfl) (yb_0 (k := 4) e4 (by rw [h1]; rfl) (by rw [h1]; rfl) (yb_1 (k := 3) e3 (by rw [h1]; rfl) (by rw [h1]; rfl) (yb_0 (k := 2) e2 (by rw [h1]; rfl) (by rw [h1]; rfl) (yb_1 (k := 1) e1 (by rw [h1]; rfl) (by rw [h1]; rfl) (yb_1 (k := 0) e0 (by rw [h1]; rfl) (by rw [h1]; rfl) (yL_k hj ⟨h1, h2⟩))))))))
                  exact ⟨op_of (sg := sgY j) (tl := tlY j) yr_181_0 hf (fun d h1 _ => (by show [Value.int (d.2.1 0), Value.int (nI 0)] = _; rw [h1]; rfl)), op_of (sg := sgY j) (tl := tlY j) yr_181_1 hf (fun d h1 _ => (by show [Value.int (d.2.1 0), Value.int (nI 1)] = _; rw [h1]; rfl))⟩
          · skip
            rcases Nat.eq_zero_or_pos (er j 6) with e6 | e6
            · skip
              rcases Nat.eq_zero_or_pos (er j 8) with e8 | e8
              · skip
                have hf : ∀ d : mD, d.2.1 = sgY j → d.2.2.1 = tlY j → FOK d _ := fun d h1 h2 => yb_0 (k := 8) e8 (by rw [h1]; rfl) (by rw [h1]; rfl) (yb_0 (k := 6) e6 (by rw [h1]; rfl) (by rw [h1]; rfl) (yb_1 (k := 4) e4 (by rw [h1]; rfl) (by rw [h1]; rfl) (yb_1 (k := 3) e3 (by rw [h1]; rfl) (by rw [h1]; rfl) (yb_0 (k := 2) e2 (by rw [h1]; rfl) (by rw [h1]; rfl) (yb_1 (k := 1) e1 (by rw [h1]; rfl) (by rw [h1]; rfl) (yb_1 (k := 0) e0 (by rw [h1]; rfl) (by rw [h1]; rfl) (yL_k hj ⟨h1, h2⟩)))))))
                exact ⟨op_of (sg := sgY j) (tl := tlY j) yr_182_0 hf (fun d h1 _ => (by show [Value.int (d.2.1 0), Value.int (nI 0)] = _; rw [h1]; rfl)), op_of (sg := sgY j) (tl := tlY j) yr_182_1 hf (fun d h1 _ => (by show [Value.int (d.2.1 0), Value.int (nI 1)] = _; rw [h1]; rfl))⟩
              · skip
                have hf : ∀ d : mD, d.2.1 = sgY j → d.2.2.1 = tlY j → FOK d _ := fun d h1 h2 => yb_1 (k := 8) e8 (by rw [h1]; rfl) (by rw [h1]; rfl) (yb_0 (k := 6) e6 (by rw [h1]; rfl) (by rw [h1]; rfl) (yb_1 (k := 4) e4 (by rw [h1]; rfl) (by rw [h1]; rfl) (yb_1 (k := 3) e3 (by rw [h1]; rfl) (by rw [h1]; rfl) (yb_0 (k := 2) e2 (by rw [h1]; rfl) (by rw [h1]; rfl) (yb_1 (k := 1) e1 (by rw [h1]; rfl) (by rw [h1]; rfl) (yb_1 (k := 0) e0 (by rw [h1]; rfl) (by rw [h1]; rfl) (yL_k hj ⟨h1, h2⟩)))))))
                exact ⟨op_of (sg := sgY j) (tl := tlY j) yr_183_0 hf (fun d h1 _ => (by show [Value.int (d.2.1 0), Value.int (nI 0)] = _; rw [h1]; rfl)), op_of (sg := sgY j) (tl := tlY j) yr_183_1 hf (fun d h1 _ => (by show [Value.int (d.2.1 0), Value.int (nI 1)] = _; rw [h1]; rfl))⟩
            · skip
              rcases Nat.eq_zero_or_pos (er j 8) with e8 | e8
              · skip
                have hf : ∀ d : mD, d.2.1 = sgY j → d.2.2.1 = tlY j → FOK d _ := fun d h1 h2 => yb_0 (k := 8) e8 (by rw [h1]; rfl) (by rw [h1]; rfl) (yb_1 (k := 6) e6 (by rw [h1]; rfl) (by rw [h1]; rfl) (yb_1 (k := 4) e4 (by rw [h1]; rfl) (by rw [h1]; rfl) (yb_1 (k := 3) e3 (by rw [h1]; rfl) (by rw [h1]; rfl) (yb_0 (k := 2) e2 (by rw [h1]; rfl) (by rw [h1]; rfl) (yb_1 (k := 1) e1 (by rw [h1]; rfl) (by rw [h1]; rfl) (yb_1 (k := 0) e0 (by rw [h1]; rfl) (by rw [h1]; rfl) (yL_k hj ⟨h1, h2⟩)))))))
                exact ⟨op_of (sg := sgY j) (tl := tlY j) yr_184_0 hf (fun d h1 _ => (by show [Value.int (d.2.1 0), Value.int (nI 0)] = _; rw [h1]; rfl)), op_of (sg := sgY j) (tl := tlY j) yr_184_1 hf (fun d h1 _ => (by show [Value.int (d.2.1 0), Value.int (nI 1)] = _; rw [h1]; rfl))⟩
              · skip
                have hf : ∀ d : mD, d.2.1 = sgY j → d.2.2.1 = tlY j → FOK d _ := fun d h1 h2 => yb_1 (k := 8) e8 (by rw [h1]; rfl) (by rw [h1]; rfl) (yb_1 (k := 6) e6 (by rw [h1]; rfl) (by rw [h1]; rfl) (yb_1 (k := 4) e4 (by rw [h1]; rfl) (by rw [h1]; rfl) (yb_1 (k := 3) e3 (by rw [h1]; rfl) (by rw [h1]; rfl) (yb_0 (k := 2) e2 (by rw [h1]; rfl) (by rw [h1]; rfl) (yb_1 (k := 1) e1 (by rw [h1]; rfl) (by rw [h1]; rfl) (yb_1 (k := 0) e0 (by rw [h1]; rfl) (by rw [h1]; rfl) (yL_k hj ⟨h1, h2⟩)))))))
                exact ⟨op_of (sg := sgY j) (tl := tlY j) yr_185_0 hf (fun d h1 _ => (by show [Value.int (d.2.1 0), Value.int (nI 0)] = _; rw [h1]; rfl)), op_of (sg := sgY j) (tl := tlY j) yr_185_1 hf (fun d h1 _ => (by show [Value.int (d.2.1 0), Value.int (nI 1)] = _; rw [h1]; rfl))⟩
      · skip
        rcases Nat.eq_zero_or_pos (er j 3) with e3 | e3
        · skip
          rcases Nat.eq_zero_or_pos (er j 4) with e4 | e4
          · skip
            rcases Nat.eq_zero_or_pos (er j 7) with e7 | e7
            · skip
              rcases Nat.eq_zero_or_pos (er j 8) with e8 | e8
              · skip
                have hf : ∀ d : mD, d.2.1 = sgY j → d.2.2.1 = tlY j → FOK d _ := fun d h1 h2 => yb_0 (k := 8) e8 (by rw [h1]; rfl) (by rw [h1]; rfl) (yb_0 (k := 7) e7 (by rw [h1]; rfl) (by rw [h1]; rfl) (yb_0 (k := 4) e4 (by rw [h1]; rfl) (by rw [h1]; rfl) (yb_0 (k := 3) e3 (by rw [h1]; rfl) (by rw [h1]; rfl) (yb_1 (k := 2) e2 (by rw [h1]; rfl) (by rw [h1]; rfl) (yb_1 (k := 1) e1 (by rw [h1]; rfl) (by rw [h1]; rfl) (yb_1 (k := 0) e0 (by rw [h1]; rfl) (by rw [h1]; rfl) (yL_k hj ⟨h1, h2⟩)))))))
                exact ⟨op_of (sg := sgY j) (tl := tlY j) yr_186_0 hf (fun d h1 _ => (by show [Value.int (d.2.1 0), Value.int (nI 0)] = _; rw [h1]; rfl)), op_of (sg := sgY j) (tl := tlY j) yr_186_1 hf (fun d h1 _ => (by show [Value.int (d.2.1 0), Value.int (nI 1)] = _; rw [h1]; rfl))⟩
              · skip
                have hf : ∀ d : mD, d.2.1 = sgY j → d.2.2.1 = tlY j → FOK d _ := fun d h1 h2 => yb_1 (k := 8) e8 (by rw [h1]; rfl) (by rw [h1]; rfl) (yb_0 (k := 7) e7 (by rw [h1]; rfl) (by rw [h1]; rfl) (yb_0 (k := 4) e4 (by rw [h1]; rfl) (by rw [h1]; rfl) (yb_0 (k := 3) e3 (by rw [h1]; rfl) (by rw [h1]; rfl) (yb_1 (k := 2) e2 (by rw [h1]; rfl) (by rw [h1]; rfl) (yb_1 (k := 1) e1 (by rw [h1]; rfl) (by rw [h1]; rfl) (yb_1 (k := 0) e0 (by rw [h1]; rfl) (by rw [h1]; rfl) (yL_k hj ⟨h1, h2⟩)))))))
                exact ⟨op_of (sg := sgY j) (tl := tlY j) yr_187_0 hf (fun d h1 _ => (by show [Value.int (d.2.1 0), Value.int (nI 0)] = _; rw [h1]; rfl)), op_of (sg := sgY j) (tl := tlY j) yr_187_1 hf (fun d h1 _ => (by show [Value.int (d.2.1 0), Value.int (nI 1)] = _; rw [h1]; rfl))⟩
            · skip
              rcases Nat.eq_zero_or_pos (er j 8) with e8 | e8
              · skip
                have hf : ∀ d : mD, d.2.1 = sgY j → d.2.2.1 = tlY j → FOK d _ := fun d h1 h2 => yb_0 (k := 8) e8 (by rw [h1]; rfl) (by rw [h1]; rfl) (yb_1 (k := 7) e7 (by rw [h1]; rfl) (by rw [h1]; rfl) (yb_0 (k := 4) e4 (by rw [h1]; rfl) (by rw [h1]; rfl) (yb_0 (k := 3) e3 (by rw [h1]; rfl) (by rw [h1]; rfl) (yb_1 (k := 2) e2 (by rw [h1]; rfl) (by rw [h1]; rfl) (yb_1 (k := 1) e1 (by rw [h1]; rfl) (by rw [h1]; rfl) (yb_1 (k := 0) e0 (by rw [h1]; rfl) (by rw [h1]; rfl) (yL_k hj ⟨h1, h2⟩)))))))
                exact ⟨op_of (sg := sgY j) (tl := tlY j) yr_188_0 hf (fun d h1 _ => (by show [Value.int (d.2.1 0), Value.int (nI 0)] = _; rw [h1]; rfl)), op_of (sg := sgY j) (tl := tlY j) yr_188_1 hf (fun d h1 _ => (by show [Value.int (d.2.1 0), Value.int (nI 1)] = _; rw [h1]; rfl))⟩
              · skip
                have hf : ∀ d : mD, d.2.1 = sgY j → d.2.2.1 = tlY j → FOK d _ := fun d h1 h2 => yb_1 (k := 8) e8 (by rw [h1]; rfl) (by rw [h1]; rfl) (yb_1 (k := 7) e7 (by rw [h1]; rfl) (by rw [h1]; rfl) (yb_0 (k := 4) e4 (by rw [h1]; rfl) (by rw [h1]; rfl) (yb_0 (k := 3) e3 (by rw [h1]; rfl) (by rw [h1]; rfl) (yb_1 (k := 2) e2 (by rw [h1]; rfl) (by rw [h1]; rfl) (yb_1 (k := 1) e1 (by rw [h1]; rfl) (by rw [h1]; rfl) (yb_1 (k := 0) e0 (by rw [h1]; rfl) (by rw [h1]; rfl) (yL_k hj ⟨h1, h2⟩)))))))
                exact ⟨op_of (sg := sgY j) (tl := tlY j) yr_189_0 hf (fun d h1 _ => (by show [Value.int (d.2.1 0), Value.int (nI 0)] = _; rw [h1]; rfl)), op_of (sg := sgY j) (tl := tlY j) yr_189_1 hf (fun d h1 _ => (by show [Value.int (d.2.1 0), Value.int (nI 1)] = _; rw [h1]; rfl))⟩
          · skip
            rcases Nat.eq_zero_or_pos (er j 8) with e8 | e8
            · skip
              have hf : ∀ d : mD, d.2.1 = sgY j → d.2.2.1 = tlY j → FOK d _ := fun d h1 h2 => yb_0 (k := 8) e8 (by rw [h1]; rfl) (by rw [h1]; rfl) (yb_1 (k := 4) e4 (by rw [h1]; rfl) (by rw [h1]; rfl) (yb_0 (k := 3) e3 (by rw [h1]; rfl) (by rw [h1]; rfl) (yb_1 (k := 2) e2 (by rw [h1]; rfl) (by rw [h1]; rfl) (yb_1 (k := 1) e1 (by rw [h1]; rfl) (by rw [h1]; rfl) (yb_1 (k := 0) e0 (by rw [h1]; rfl) (by rw [h1]; rfl) (yL_k hj ⟨h1, h2⟩))))))
              exact ⟨op_of (sg := sgY j) (tl := tlY j) yr_190_0 hf (fun d h1 _ => (by show [Value.int (d.2.1 0), Value.int (nI 0)] = _; rw [h1]; rfl)), op_of (sg := sgY j) (tl := tlY j) yr_190_1 hf (fun d h1 _ => (by show [Value.int (d.2.1 0), Value.int (nI 1)] = _; rw [h1]; rfl))⟩
            · skip
              have hf : ∀ d : mD, d.2.1 = sgY j → d.2.2.1 = tlY j → FOK d _ := fun d h1 h2 => yb_1 (k := 8) e8 (by rw [h1]; rfl) (by rw [h1]; rfl) (yb_1 (k := 4) e4 (by rw [h1]; rfl) (by rw [h1]; rfl) (yb_0 (k := 3) e3 (by rw [h1]; rfl) (by rw [h1]; rfl) (yb_1 (k := 2) e2 (by rw [h1]; rfl) (by rw [h1]; rfl) (yb_1 (k := 1) e1 (by rw [h1]; rfl) (by rw [h1]; rfl) (yb_1 (k := 0) e0 (by rw [h1]; rfl) (by rw [h1]; rfl) (yL_k hj ⟨h1, h2⟩))))))
              exact ⟨op_of (sg := sgY j) (tl := tlY j) yr_191_0 hf (fun d h1 _ => (by show [Value.int (d.2.1 0), Value.int (nI 0)] = _; rw [h1]; rfl)), op_of (sg := sgY j) (tl := tlY j) yr_191_1 hf (fun d h1 _ => (by show [Value.int (d.2.1 0), Value.int (nI 1)] = _; rw [h1]; rfl))⟩
        · skip
          rcases Nat.eq_zero_or_pos (er j 4) with e4 | e4
          · skip
            rcases Nat.eq_zero_or_pos (er j 7) with e7 | e7
            · skip
              rcases Nat.eq_zero_or_pos (er j 8) with e8 | e8
              · skip
                have hf : ∀ d : mD, d.2.1 = sgY j → d.2.2.1 = tlY j → FOK d _ := fun d h1 h2 => yb_0 (k := 8) e8 (by rw [h1]; rfl) (by rw [h1]; rfl) (yb_0 (k := 7) e7 (by rw [h1]; rfl) (by rw [h1]; rfl) (yb_0 (k := 4) e4 (by rw [h1]; rfl) (by rw [h1]; rfl) (yb_1 (k := 3) e3 (by rw [h1]; rfl) (by rw [h1]; rfl) (yb_1 (k := 2) e2 (by rw [h1]; rfl) (by rw [h1]; rfl) (yb_1 (k := 1) e1 (by rw [h1]; rfl) (by rw [h1]; rfl) (yb_1 (k := 0) e0 (by rw [h1]; rfl) (by rw [h1]; rfl) (yL_k hj ⟨h1, h2⟩)))))))
                exact ⟨op_of (sg := sgY j) (tl := tlY j) yr_192_0 hf (fun d h1 _ => (by show [Value.int (d.2.1 0), Value.int (nI 0)] = _; rw [h1]; rfl)), op_of (sg := sgY j) (tl := tlY j) yr_192_1 hf (fun d h1 _ => (by show [Value.int (d.2.1 0), Value.int (nI 1)] = _; rw [h1]; rfl))⟩
              · skip
                have hf : ∀ d : mD, d.2.1 = sgY j → d.2.2.1 = tlY j → FOK d _ := fun d h1 h2 => yb_1 (k := 8) e8 (by rw [h1]; rfl) (by rw [h1]; rfl) (yb_0 (k := 7) e7 (by rw [h1]; rfl) (by rw [h1]; rfl) (yb_0 (k := 4) e4 (by rw [h1]; rfl) (by rw [h1]; rfl) (yb_1 (k := 3) e3 (by rw [h1]; rfl) (by rw [h1]; rfl) (yb_1 (k := 2) e2 (by rw [h1]; rfl) (by rw [h1]; rfl) (yb_1 (k := 1) e1 (by rw [h1]; rfl) (by rw [h1]; rfl) (yb_1 (k := 0) e0 (by rw [h1]; rfl) (by rw [h1]; rfl) (yL_k hj ⟨h1, h2⟩)))))))
                exact ⟨op_of (sg := sgY j) (tl := tlY j) yr_193_0 hf (fun d h1 _ => (by show [Value.int (d.2.1 0), Value.int (nI 0)] = _; rw [h1]; rfl)), op_of (sg := sgY j) (tl := tlY j) yr_193_1 hf (fun d h1 _ => (by show [Value.int (d.2.1 0), Value.int (nI 1)] = _; rw [h1]; rfl))⟩
            · skip
              rcases Nat.eq_zero_or_pos (er j 8) with e8 | e8
              · skip
                have hf : ∀ d : mD, d.2.1 = sgY j → d.2.2.1 = tlY j → FOK d _ := fun d h1 h2 => yb_0 (k := 8) e8 (by rw [h1]; rfl) (by rw [h1]; rfl) (yb_1 (k := 7) e7 (by rw [h1]; rfl) (by rw [h1]; rfl) (yb_0 (k := 4) e4 (by rw [h1]; rfl) (by rw [h1]; rfl) (yb_1 (k := 3) e3 (by rw [h1]; rfl) (by rw [h1]; rfl) (yb_1 (k := 2) e2 (by rw [h1]; rfl) (by rw [h1]; rfl) (yb_1 (k := 1) e1 (by rw [h1]; rfl) (by rw [h1]; rfl) (yb_1 (k := 0) e0 (by rw [h1]; rfl) (by rw [h1]; rfl) (yL_k hj ⟨h1, h2⟩)))))))
                exact ⟨op_of (sg := sgY j) (tl := tlY j) yr_194_0 hf (fun d h1 _ => (by show [Value.int (d.2.1 0), Value.int (nI 0)] = _; rw [h1]; rfl)), op_of (sg := sgY j) (tl := tlY j) yr_194_1 hf (fun d h1 _ => (by show [Value.int (d.2.1 0), Value.int (nI 1)] = _; rw [h1]; rfl))⟩
              · skip
                have hf : ∀ d : mD, d.2.1 = sgY j → d.2.2.1 = tlY j → FOK d _ := fun d h1 h2 => yb_1 (k := 8) e8 (by rw [h1]; rfl) (by rw [h1]; rfl) (yb_1 (k := 7) e7 (by rw [h1]; rfl) (by rw [h1]; rfl) (yb_0 (k := 4) e4 (by rw [h1]; rfl) (by rw [h1]; rfl) (yb_1 (k := 3) e3 (by rw [h1]; rfl) (by rw [h1]; rfl) (yb_1 (k := 2) e2 (by rw [h1]; rfl) (by rw [h1]; rfl) (yb_1 (k := 1) e1 (by rw [h1]; rfl) (by rw [h1]; rfl) (yb_1 (k := 0) e0 (by rw [h1]; rfl) (by rw [h1]; rfl) (yL_k hj ⟨h1, h2⟩)))))))
                exact ⟨op_of (sg := sgY j) (tl := tlY j) yr_195_0 hf (fun d h1 _ => (by show [Value.int (d.2.1 0), Value.int (nI 0)] = _; rw [h1]; rfl)), op_of (sg := sgY j) (tl := tlY j) yr_195_1 hf (fun d h1 _ => (by show [Value.int (d.2.1 0), Value.int (nI 1)] = _; rw [h1]; rfl))⟩
          · skip
            rcases Nat.eq_zero_or_pos (er j 8) with e8 | e8
            · skip
              have hf : ∀ d : mD, d.2.1 = sgY j → d.2.2.1 = tlY j → FOK d _ := fun d h1 h2 => yb_0 (k := 8) e8 (by rw [h1]; rfl) (by rw [h1]; rfl) (yb_1 (k := 4) e4 (by rw [h1]; rfl) (by rw [h1]; rfl) (yb_1 (k := 3) e3 (by rw [h1]; rfl) (by rw [h1]; rfl) (yb_1 (k := 2) e2 (by rw [h1]; rfl) (by rw [h1]; rfl) (yb_1 (k := 1) e1 (by rw [h1]; rfl) (by rw [h1]; rfl) (yb_1 (k := 0) e0 (by rw [h1]; rfl) (by rw [h1]; rfl) (yL_k hj ⟨h1, h2⟩))))))
              exact ⟨op_of (sg := sgY j) (tl := tlY j) yr_196_0 hf (fun d h1 _ => (by show [Value.int (d.2.1 0), Value.int (nI 0)] = _; rw [h1]; rfl)), op_of (sg := sgY j) (tl := tlY j) yr_196_1 hf (fun d h1 _ => (by show [Value.int (d.2.1 0), Value.int (nI 1)] = _; rw [h1]; rfl))⟩
            · skip
              have hf : ∀ d : mD, d.2.1 = sgY j → d.2.2.1 = tlY j → FOK d _ := fun d h1 h2 => yb_1 (k := 8) e8 (by rw [h1]; rfl) (by rw [h1]; rfl) (yb_1 (k := 4) e4 (by rw [h1]; rfl) (by rw [h1]; rfl) (yb_1 (k := 3) e3 (by rw [h1]; rfl) (by rw [h1]; rfl) (yb_1 (k := 2) e2 (by rw [h1]; rfl) (by rw [h1]; rfl) (yb_1 (k := 1) e1 (by rw [h1]; rfl) (by rw [h1]; rfl) (yb_1 (k := 0) e0 (by rw [h1]; rfl) (by rw [h1]; rfl) (yL_k hj ⟨h1, h2⟩))))))
              exact ⟨op_of (sg := sgY j) (tl := tlY j) yr_197_0 hf (fun d h1 _ => (by show [Value.int (d.2.1 0), Value.int (nI 0)] = _; rw [h1]; rfl)), op_of (sg := sgY j) (tl := tlY j) yr_197_1 hf (fun d h1 _ => (by show [Value.int (d.2.1 0), Value.int (nI 1)] = _; rw [h1]; rfl))⟩
theorem ya_0 : chk [(12, .inr (.inr (.inr (.inl 0))), .inl 0, .inl 1)] 89 131 [.inr (.inr (.inr (.inl 0))), .inr (.inr (.inr (.inl 1)))] 4294967295 = true := by decide +kernel
theorem ya_1 : chk [(12, .inr (.inr (.inr (.inl 0))), .inl 0, .inl 0), (14, .inr (.inr (.inr (.inl 0))), .inl 9999, .inl 1)] 89 131 [.inr (.inr (.inr (.inl 0))), .inr (.inr (.inr (.inl 1)))] 4294967295 = true := by decide +kernel
theorem ya_2 : chk [(12, .inr (.inr (.inr (.inl 0))), .inl 0, .inl 0), (14, .inr (.inr (.inr (.inl 0))), .inl 9999, .inl 0), (12, .inr (.inr (.inr (.inl 1))), .inl 0, .inl 1)] 89 131 [.inr (.inr (.inr (.inl 0))), .inr (.inr (.inr (.inl 1)))] 4294967295 = true := by decide +kernel
theorem ya_3 : chk [(12, .inr (.inr (.inr (.inl 0))), .inl 0, .inl 0), (14, .inr (.inr (.inr (.inl 0))), .inl 9999, .inl 0), (12, .inr (.inr (.inr (.inl 1))), .inl 0, .inl 0), (14, .inr (.inr (.inr (.inl 1))), .inl 1, .inl 1)] 89 131 [.inr (.inr (.inr (.inl 0))), .inr (.inr (.inr (.inl 1)))] 4294967295 = true := by decide +kernel
theorem op_year (a b : Int32) : OP 89 131 [a, b] := by
  rcases (show a.toInt < 0 ∨ 9999 < a.toInt ∨ ((0 ≤ a.toInt ∧ a.toInt < 0 + 10000) ∧ (b.toInt < 0 ∨ 1 < b.toInt ∨ (0 ≤ b.toInt ∧ b.toInt < 0 + 1) ∨ (1 ≤ b.toInt ∧ b.toInt < 1 + 1))) by omega) with hx | hx | ⟨hx, hy | hy | hy | hy⟩
  · exact op_of (sg := sg3 a b 0) (tl := fun _ => 0) ya_0 (fun d h1 _ => fk_1 (cc := 2) rfl (show _ = (0 : Int) by decide) (by rw [h1]; show a.toInt < (0 : Int); omega) (fk_n)) (fun d h1 _ => (by show [Value.int (d.2.1 0), Value.int (d.2.1 1)] = _; rw [h1]; rfl))
  · exact op_of (sg := sg3 a b 0) (tl := fun _ => 0) ya_1 (fun d h1 _ => fk_0 (cc := 2) rfl (show _ = (0 : Int) by decide) (by rw [h1]; show ¬ (a.toInt < (0 : Int)); omega) (fk_1 (cc := 4) rfl (show _ = (9999 : Int) by decide) (by rw [h1]; show (9999 : Int) < a.toInt; omega) (fk_n))) (fun d h1 _ => (by show [Value.int (d.2.1 0), Value.int (d.2.1 1)] = _; rw [h1]; rfl))
  · exact op_of (sg := sg3 a b 0) (tl := fun _ => 0) ya_2 (fun d h1 _ => fk_0 (cc := 2) rfl (show _ = (0 : Int) by decide) (by rw [h1]; show ¬ (a.toInt < (0 : Int)); omega) (fk_0 (cc := 4) rfl (show _ = (9999 : Int) by decide) (by rw [h1]; show ¬ ((9999 : Int) < a.toInt); omega) (fk_1 (cc := 2) rfl (show _ = (0 : Int) by decide) (by rw [h1]; show b.toInt < (0 : Int); omega) (fk_n)))) (fun d h1 _ => (by show [Value.int (d.2.1 0), Value.int (d.2.1 1)] = _; rw [h1]; rfl))
  · exact op_of (sg := sg3 a b 0) (tl := fun _ => 0) ya_3 (fun d h1 _ => fk_0 (cc := 2) rfl (show _ = (0 : Int) by decide) (by rw [h1]; show ¬ (a.toInt < (0 : Int)); omega) (fk_0 (cc := 4) rfl (show _ = (9999 : Int) by decide) (by rw [h1]; show ¬ ((9999 : Int) < a.toInt); omega) (fk_0 (cc := 2) rfl (show _ = (0 : Int) by decide) (by rw [h1]; show ¬ (b.toInt < (0 : Int)); omega) (fk_1 (cc := 4) rfl (show _ = (1 : Int) by decide) (by rw [h1]; show (1 : Int) < b.toInt; omega) (fk_n))))) (fun d h1 _ => (by show [Value.int (d.2.1 0), Value.int (d.2.1 1)] = _; rw [h1]; rfl))
  · obtain ⟨j, hj, rfl⟩ := pt 0 10000 (by decide) hx.1 hx.2
    obtain ⟨i, hi, rfl⟩ := pt 0 1 (by decide) hy.1 hy.2
    obtain rfl : i = 0 := by omega
    have h := (yr_all (j := Nat.add 0 j) (by show 0 + j < 10000; omega)).1
    exact h
  · obtain ⟨j, hj, rfl⟩ := pt 0 10000 (by decide) hx.1 hx.2
    obtain ⟨i, hi, rfl⟩ := pt 1 1 (by decide) hy.1 hy.2
    obtain rfl : i = 0 := by omega
    have h := (yr_all (j := Nat.add 0 j) (by show 0 + j < 10000; omega)).2
    exact h
