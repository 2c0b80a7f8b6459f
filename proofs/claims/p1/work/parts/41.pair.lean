/-! THE LAW, second part: the two worlds, the pairs of calls -/
set_option maxRecDepth 100000 in
theorem wo_C (B tx : Nat) (sg sg' : Nat → Int32) (tl tl' : Nat → Int64) (al al' : Bool) (ca : Nat → ClassId) : wo (B, sg, tl, tx, al) ca B hC = wo (B, sg', tl', tx, al') ca B hC := rfl
set_option maxRecDepth 100000 in
theorem wo_M (B tx : Nat) (sg sg' : Nat → Int32) (tl tl' : Nat → Int64) (al al' : Bool) (ca : Nat → ClassId) : wo (B + 119, sg, tl, tx, al) ca (B + 119) hM = wo (B, sg', tl', tx, al') ca (B + 119) hX := rfl
theorem hC_len : hC.length = 119 := rfl
theorem hCX_p : 0 < hCX.length := by rw [hCX_e, List.length_append, hC_len]; omega
theorem P_CX {D : va_G} {d : mD} {ca : Nat → ClassId} {B : Nat} {H : Heap} (h1 : va_P D xcl (wo d ca B hC) H) (h2 : va_P D xcl (wo d ca (B + 119) hX) H) : va_P D xcl (wo d ca B hCX) H := by
  rw [hCX_e, wo_app, hC_len]
  exact h1.app h2
theorem P_dr {D : va_G} {d : mD} {ca : Nat → ClassId} {B : Nat} {H : Heap} {hp : List mC} (h : va_P D xcl (wo d ca B hp) H) (e : hp.drop 119 = hX) : va_P D xcl (wo d ca (B + 119) hX) H := by
  intro k q hk
  rw [wo_get, ← e, List.getElem?_drop] at hk
  exact h (119 + k) q (by rw [wo_get, ← Nat.add_assoc]; exact hk)
section LAWD
variable {p : Program} {l : Launch} {e : Env} {s : State} {m : MethodId} {args : Array Value} {below : List Frame} {meth : Method} {c : Code} {Q : State → Prop} {E : mE} {tx pc n nA : Nat} {sg : Nat → Int32} {tl : Nat → Int64} {av : List mV} {XS : List Int32} {H : Heap} {locs : List Loc} {cells slots : Nat} {ls : Array Slot} {rest : List Value}
theorem lkC {y1 : Nat} (hKN : KN (s.heap.size, sg, tl, tx, false) E s) (ha : av.map (dn (s.heap.size, sg, tl, tx, false)) = XS.map Value.int) (hcm : CM l (s.heap.size, sg, tl, tx, false) E y1 (.inr (.inl 0) :: av) false hCX (rC n)) (hrun : RunK p l e room_1 s m args below meth c (s.heap.size, sg, tl, tx, false) 4 pc y1 (nA + 1) 9) (hnA : XS.length = nA) (hg : (gM y1).cells = 0) (hg2 : (gM y1).slots = 0)
    (hP : va_P E.1 xcl (wo (s.heap.size, sg, tl, tx, false) E.2 s.heap.size hCX) H) (hS : va_S (fun q => s.heap.size ≤ q) s.heap H locs) (hls : ls.size = 4) (hcat : (rest.map fun v => v.category).sum ≤ 8) (hroom : cells ≤ room_1.cells ∧ slots ≤ room_1.slots)
    (kk : ∀ (H' : Heap) (locs' : List Loc), va_P E.1 xcl (wo (s.heap.size + 119, sg, tl, tx, false) E.2 (s.heap.size + 119) hM) H' → va_S (fun q => s.heap.size ≤ q) s.heap H' locs' → W p l e room_1 s m args below meth c H' locs' cells slots Q (F0 m (pc + 3) ls (.int (nI n) :: rest))) :
    W p l e room_1 s m args below meth c H locs cells slots Q (F0 m pc ls ((XS.map Value.int).reverse ++ .ref s.heap.size :: rest)) := by
  obtain ⟨fs, hf⟩ : ∃ fs, (wo (s.heap.size, sg, tl, tx, false) E.2 s.heap.size hCX)[0]? = some (s.heap.size + 0, .inr (7, fs)) := ⟨_, rfl⟩
  have hL : av.length = nA := by
    have h := congrArg List.length ha
    rw [List.length_map, List.length_map, hnA] at h
    exact h
  refine W.eq (g2 := F0 m pc ls (((.inr (.inl 0) :: av : List mV).map (dn (s.heap.size, sg, tl, tx, false))).reverse ++ rest)) ?_ (lc hrun hcm hKN (Nat.le_refl _) hP hCX_p (fun q => by cases q) hS (by show av.length + 1 = nA + 1; rw [hL]) hls hcat (by rw [hg, hg2]; exact hroom) ⟨_, _, _, rfl, rfl, va_recv hKN.1 hP rfl hf⟩ (fun v hp' H' locs' k1 k2 k3 k4 => ?_))
  · rw [List.map_cons, ha, List.reverse_cons, List.append_assoc]
    rfl
  · obtain ⟨r1, r2⟩ := rC_s k1
    rw [rN_s r1 _, hg, hg2]
    refine kk H' locs' ?_ k3
    rw [wo_M s.heap.size tx sg sg tl tl false false]
    exact P_dr k2 r2
theorem lkM {y2 : Nat} (hKN : KN (s.heap.size + 119, sg, tl, tx, false) E s) (ha : av.map (dn (s.heap.size + 119, sg, tl, tx, false)) = XS.map Value.int) (hcm : CM l (s.heap.size + 119, sg, tl, tx, false) E y2 (.inr (.inl 0) :: av) false hM (rN n)) (hrun : RunK p l e room_1 s m args below meth c (s.heap.size + 119, sg, tl, tx, false) 4 pc y2 (nA + 1) 10) (hnA : XS.length = nA) (hg : (gM y2).cells = 0) (hg2 : (gM y2).slots = 0)
    (hP : va_P E.1 xcl (wo (s.heap.size + 119, sg, tl, tx, false) E.2 (s.heap.size + 119) hM) H) (hS : va_S (fun q => s.heap.size ≤ q) s.heap H locs) (hls : ls.size = 4) (hcat : (rest.map fun v => v.category).sum ≤ 8) (hroom : cells ≤ room_1.cells ∧ slots ≤ room_1.slots)
    (kk : ∀ (H' : Heap) (locs' : List Loc), va_S (fun q => s.heap.size ≤ q) s.heap H' locs' → W p l e room_1 s m args below meth c H' locs' cells slots Q (F0 m (pc + 3) ls (.int (nI n) :: rest))) :
    W p l e room_1 s m args below meth c H locs cells slots Q (F0 m pc ls ((XS.map Value.int).reverse ++ .ref (s.heap.size + 119) :: rest)) := by
  obtain ⟨fs, hf⟩ : ∃ fs, (wo (s.heap.size + 119, sg, tl, tx, false) E.2 (s.heap.size + 119) hM)[0]? = some (s.heap.size + 119 + 0, .inr (8, fs)) := ⟨_, rfl⟩
  have hL : av.length = nA := by
    have h := congrArg List.length ha
    rw [List.length_map, List.length_map, hnA] at h
    exact h
  refine W.eq (g2 := F0 m pc ls (((.inr (.inl 0) :: av : List mV).map (dn (s.heap.size + 119, sg, tl, tx, false))).reverse ++ rest)) ?_ (lc hrun hcm hKN (Nat.le_add_right _ _) hP (by decide) (fun q => by cases q) hS (by show av.length + 1 = nA + 1; rw [hL]) hls hcat (by rw [hg, hg2]; exact hroom) ⟨_, _, _, rfl, rfl, va_recv hKN.1 hP rfl hf⟩ (fun v hp' H' locs' k1 k2 k3 k4 => ?_))
  · rw [List.map_cons, ha, List.reverse_cons, List.append_assoc]
    rfl
  · rw [rN_s k1 _, hg, hg2]
    exact kk H' locs' k3
/-- an argument out of the script -/
theorem pu {b j : Nat} {xs : Nat → Int32} (hx : p.tables.exec = Jvm.exec) (hb : c.code = code) (hX : va_X b 4 xs s s.heap) (hbl : b < s.heap.size) (hS : va_S (fun q => s.heap.size ≤ q) s.heap H locs) {r1 r2 : Value} (hl : lv_has ls 4 [(3, .int 0), (2, r2), (1, r1), (0, .ref b)]) {z : Int} {v : Int32} (d0 : decode code pc = .ok (.aload_n 0, 1)) (d1 : decode code (pc + 1) = .ok (.iload_n 3, 1)) (d2 : decode code (pc + 2) = .ok (.iconst z, 1)) (d3 : decode code (pc + 3) = .ok (.iadd, 1)) (d4 : decode code (pc + 4) = .ok (.iaload, 1)) (hv : Int32.ofInt z = v) (h0 : (0 : Int32) + v = v) (hin : vp_in v 4) (hj : v.toNatClampNeg = j)
    (kk : W p l e room_1 s m args below meth c H locs cells slots Q (F0 m (pc + 5) ls (.int (xs j) :: rest))) : W p l e room_1 s m args below meth c H locs cells slots Q (F0 m pc ls rest) := by
  refine lv_aload_n hx hb d0 rfl (lv_at hl 3 rfl) ?_
  refine lv_iload_n hx hb d1 rfl (lv_at hl 0 rfl) ?_
  refine lv_iconst hx hb d2 hv ?_
  refine lv_iadd hx hb d3 ?_
  rw [h0]
  refine va_sld hx hb hX hbl (fun w => absurd hbl (Nat.not_lt.mpr w)) hS hin d4 ?_
  rw [hj]
  exact kk
end LAWD
