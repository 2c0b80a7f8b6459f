/-! THE CLAIM OUT OF ONE WALK OF THE LAW'S BODY. Your part is whole_start (and what it stands on); all else here is the same for every law, but numbers. -/
def R_law : String := "RudeCouponsLaw"
def lw_P (b : Addr) (xs : List Int32) (args : Array Value) (s : State) : Prop := args = #[.ref b] ∧ s.IntsAt b xs ∧ xs.length ≤ 4 ∧ (Jvm.Cond.and given_1 narrow_1).before args s = true
def lw_Q (_ : Array Value) (s : State) (o : Outcome) (t : State) : Prop := o = .returned (some (.int 1)) ∧ Framed s o t [] 600000 7302250
def lw_Z (below : List Frame) (a : Array Value) (s : State) : State → Prop := fun t => ∃ o, t.status = .running ∧ Ended t below o ∧ lw_Q a s o t
/-- the law's own end, with 1 on the stack, nothing written that was there before, its room as the claim has it -/
theorem lw_ret {p : Program} {l : Launch} {e : Env} {s : State} {m : MethodId} {below : List Frame} {meth : Method} {c : Code} {b : Nat} (hx : p.tables.exec = Jvm.exec) (hb : c.code = code) (hr : meth.sig.returnType = ret) (hlocks : meth.locks = false) {pc : Nat} {H : Heap} {ls : Array Slot} (hdg : decode code pc = .ok (.ireturn, 1)) : W p l e room_1 s m #[Value.ref b] below meth c H [] 600000 7302250 (lw_Z below #[Value.ref b] s) (F0 m pc ls [.int 1]) := by
  intro T hT X
  obtain ⟨fs, hret, hrun, hended, hW, hframe⟩ := X.leave (v := some (.int 1)) (hlocks := hlocks) (fun h => by rw [hr] at h; cases h)
  have hmeth' : T.vm.method? m = some meth := X.method'
  refine ⟨T.setFrames fs, ?_, .returned (some (.int 1)), hrun, hended, rfl, ⟨_, rfl⟩, hW, hframe⟩
  jvm_step X.here [X.here.top, hx, hb, hdg, hmeth', hr, ret, narrow_b1]
  (try refine ⟨rfl, ?_⟩); (try refine ⟨rfl, ?_⟩)
  first | (intro acts; rw [hret _ acts rfl rfl rfl]) | rw [hret _ _ rfl rfl rfl]
  exact Steps.refl _
/-- what holds at the law's entry: the machine, the code, the tables' words (any of lw_tbl by 'hts w (by decide +kernel)'), the script of L ints xs at the cell b, what the Statement gives of the start (any of its parts by flat_of_before) -/
def lw_At (p : Program) (s : State) (m : MethodId) (meth : Method) (c : Code) (b L : Nat) (xs : Nat → Int32) : Prop :=
  p.tables.exec = Jvm.exec ∧ c.code = code ∧ meth.sig.returnType = ret ∧ c.maxLocals = 4 ∧ s.vm.findClass R_law = some m.cls ∧ (∀ w ∈ lw_tbl, w.before #[Value.ref b] s = true) ∧ va_X b L xs s s.heap ∧ b < s.heap.size ∧ meth.locks = false ∧ (Jvm.Cond.and given_1 narrow_1).before #[Value.ref b] s = true
theorem dfl_of {N : Nat} {ty : Nat → FieldType} {fs : List mV} (d : mD) (hfs : ∀ j, j < N → (kz fs[j]? = 0 ∧ ty j = .int) ∨ (kz fs[j]? = 1 ∧ (ty j).isReference = true)) : ∀ j, j < N → defaultValue (ty j) = vp_V (fs.map (dn d)) j := by
  intro j hj
  unfold vp_V
  rw [List.getD_eq_getElem?_getD, List.getElem?_map]
  rcases hfs j hj with ⟨h1, h2⟩ | ⟨h1, h2⟩
  · rw [kz_0 h1, h2]; rfl
  · rw [kz_1 h1, def_ref h2]; rfl
section START
variable {p : Program} {l : Launch} {e : Env} {s : State} {m : MethodId} {below : List Frame} {meth : Method} {c : Code} {E : mE} {tx b L : Nat} {xs : Nat → Int32} {H : Heap} {locs : List Loc} {ls : Array Slot}
theorem st_e {cells slots : Nat} (hx : p.tables.exec = Jvm.exec) (hb : c.code = code) (hr : meth.sig.returnType = ret) (hlocks : meth.locks = false) (hS : va_S (fun q => s.heap.size ≤ q) s.heap H locs) (hc : cells ≤ 600000) (hs : slots ≤ 7302250) : W p l e room_1 s m #[Value.ref b] below meth c H locs cells slots (lw_Z below #[Value.ref b] s) (F0 m 850 ls []) := by
  refine va_forget hS.2.2 (W.widen (k := 600000) (n := 7302250) hc hs ?_)
  refine lv_iconst (n := 1) (v := 1) hx hb (by decide +kernel) (by decide) ?_
  exact lw_ret hx hb hr hlocks (by decide +kernel)
theorem st_3 (hx : p.tables.exec = Jvm.exec) (hb : c.code = code) (hr : meth.sig.returnType = ret) (hml : c.maxLocals = 4) (hown : s.vm.findClass "RudeCouponsLaw" = some m.cls) (hts : ∀ w ∈ lw_g, w.before #[Value.ref b] s = true) (hlocks : meth.locks = false) (hKN : ∀ d : mD, d.2.2.2.1 = tx → s.heap.size ≤ d.1 → KN d E s) (hL : L ≤ 4) (hX : va_X b L xs s s.heap) (hbl : b < s.heap.size) (hP : ∀ (sg : Nat → Int32) (tl : Nat → Int64), va_P E.1 xcl (wo (s.heap.size, sg, tl, tx, false) E.2 s.heap.size hCX) H) (hS : va_S (fun q => s.heap.size ≤ q) s.heap H locs) (hl : lv_has ls 4 [(3, .int 0), (2, .ref (s.heap.size + 119)), (1, .ref s.heap.size), (0, .ref b)]) : W p l e room_1 s m #[Value.ref b] below meth c H locs 136 3452 (lw_Z below #[Value.ref b] s) (F0 m 18 ls []) := by
  have hbA : ¬ s.heap.size ≤ b := Nat.not_le.mpr hbl
  refine lv_iload_n (k := 3) (i := 3) hx hb (by decide +kernel) rfl (lv_at hl 0 rfl) ?_
  refine lv_aload_n (k := 0) (i := 0) hx hb (by decide +kernel) rfl (lv_at hl 3 rfl) ?_
  refine va_slen hx hb hX hbl hbA hS (by decide +kernel) ?_
  refine lv_iconst (n := 4) (v := 4) hx hb (by decide +kernel) (by decide) ?_
  refine lv_isub hx hb (by decide +kernel) ?_
  refine lv_icmp_gt (off := 827) (tgt := 850) hx hb (by decide +kernel) (by decide) (fun _ => st_e hx hb hr hlocks hS (by decide) (by decide)) (fun h => ?_)
  obtain rfl : L = 4 := by
    rcases (show L = 0 ∨ L = 1 ∨ L = 2 ∨ L = 3 ∨ L = 4 by omega) with rfl | rfl | rfl | rfl | rfl
    · exact absurd (by decide) h
    · exact absurd (by decide) h
    · exact absurd (by decide) h
    · exact absurd (by decide) h
    · rfl
  refine lv_aload_n (k := 0) (i := 0) hx hb (by decide +kernel) rfl (lv_at hl 3 rfl) ?_
  refine lv_iload_n (k := 3) (i := 3) hx hb (by decide +kernel) rfl (lv_at hl 0 rfl) ?_
  refine va_sld hx hb hX hbl hbA hS (show vp_in 0 4 by unfold vp_in; decide) (by decide +kernel) ?_
  refine lv_bipush (n := 31) (v := 31) hx hb (by decide +kernel) (by decide) ?_
  refine lv_iand hx hb (by decide +kernel) ?_
  generalize xs (Int32.toNatClampNeg 0) &&& 31 = z
  have kk : ∀ (H' : Heap) (locs' : List Loc), va_S (fun q => s.heap.size ≤ q) s.heap H' locs' → W p l e room_1 s m #[Value.ref b] below meth c H' locs' 136 3452 (lw_Z below #[Value.ref b] s) (F0 m 844 ls []) := by
    intro H' locs' hS
    refine lv_iinc (i := 3) (n := 4) (k := 0) (v := 4) (lv' := [(3, .int 4), (2, .ref (s.heap.size + 119)), (1, .ref s.heap.size), (0, .ref b)]) hx hb (by decide +kernel) hl rfl (by decide) (by decide) rfl (fun ls hl => ?_)
    refine lv_goto (off := -829) (tgt := 18) hx hb (by decide +kernel) (by decide) ?_
    refine lv_iload_n (k := 3) (i := 3) hx hb (by decide +kernel) rfl (lv_at hl 0 rfl) ?_
    refine lv_aload_n (k := 0) (i := 0) hx hb (by decide +kernel) rfl (lv_at hl 3 rfl) ?_
    refine va_slen hx hb hX hbl hbA hS (by decide +kernel) ?_
    refine lv_iconst (n := 4) (v := 4) hx hb (by decide +kernel) (by decide) ?_
    refine lv_isub hx hb (by decide +kernel) ?_
    exact lv_icmp_gt (off := 827) (tgt := 850) hx hb (by decide +kernel) (by decide) (fun _ => st_e hx hb hr hlocks hS (by decide) (by decide)) (fun h => absurd (by decide) h)
  have hK1 : ∀ (sg : Nat → Int32) (tl : Nat → Int64), KN (s.heap.size, sg, tl, tx, false) E s := fun sg tl => hKN _ rfl (Nat.le_refl _)
  have hK2 : ∀ (sg : Nat → Int32) (tl : Nat → Int64), KN (s.heap.size + 119, sg, tl, tx, false) E s := fun sg tl => hKN _ rfl (Nat.le_add_right _ _)
  have dt : decode code 32 = .ok (.tableswitch 812 0 27 #[128, 151, 164, 177, 190, 223, 256, 289, 312, 335, 378, 401, 414, 447, 470, 493, 516, 539, 582, 595, 608, 641, 684, 707, 730, 763, 776, 789], 128) := by decide +kernel
  have hrm : 136 ≤ room_1.cells ∧ 3452 ≤ room_1.slots := by decide
  rcases (show (z.toInt < 0 ∨ 27 < z.toInt) ∨ z.toInt = 0 ∨ z.toInt = 1 ∨ z.toInt = 2 ∨ z.toInt = 3 ∨ z.toInt = 4 ∨ z.toInt = 5 ∨ z.toInt = 6 ∨ z.toInt = 7 ∨ z.toInt = 8 ∨ z.toInt = 9 ∨ z.toInt = 10 ∨ z.toInt = 11 ∨ z.toInt = 12 ∨ z.toInt = 13 ∨ z.toInt = 14 ∨ z.toInt = 15 ∨ z.toInt = 16 ∨ z.toInt = 17 ∨ z.toInt = 18 ∨ z.toInt = 19 ∨ z.toInt = 20 ∨ z.toInt = 21 ∨ z.toInt = 22 ∨ z.toInt = 23 ∨ z.toInt = 24 ∨ z.toInt = 25 ∨ z.toInt = 26 ∨ z.toInt = 27 by omega) with h | h | h | h | h | h | h | h | h | h | h | h | h | h | h | h | h | h | h | h | h | h | h | h | h | h | h | h | h
  · exact lv_tableOut (tgt := 844) hx hb dt h (by decide) (kk H locs hS)
  · exact lv_tableIn (off := 128) (tgt := 160) hx hb dt (by omega) (by omega) (by rw [h]; rfl) (by decide) (cs_0 hx hb hml hown hts hK1 hK2 hX hbl hP hS hl hrm kk)
  · exact lv_tableIn (off := 151) (tgt := 183) hx hb dt (by omega) (by omega) (by rw [h]; rfl) (by decide) (cs_1 hx hb hml hown hts hK1 hK2 hX hbl hP hS hl hrm kk)
  · exact lv_tableIn (off := 164) (tgt := 196) hx hb dt (by omega) (by omega) (by rw [h]; rfl) (by decide) (cs_2 hx hb hml hown hts hK1 hK2 hX hbl hP hS hl hrm kk)
  · exact lv_tableIn (off := 177) (tgt := 209) hx hb dt (by omega) (by omega) (by rw [h]; rfl) (by decide) (cs_3 hx hb hml hown hts hK1 hK2 hX hbl hP hS hl hrm kk)
  · exact lv_tableIn (off := 190) (tgt := 222) hx hb dt (by omega) (by omega) (by rw [h]; rfl) (by decide) (cs_4 hx hb hml hown hts hK1 hK2 hX hbl hP hS hl hrm kk)
  · exact lv_tableIn (off := 223) (tgt := 255) hx hb dt (by omega) (by omega) (by rw [h]; rfl) (by decide) (cs_5 hx hb hml hown hts hK1 hK2 hX hbl hP hS hl hrm kk)
  · exact lv_tableIn (off := 256) (tgt := 288) hx hb dt (by omega) (by omega) (by rw [h]; rfl) (by decide) (cs_6 hx hb hml hown hts hK1 hK2 hX hbl hP hS hl hrm kk)
  · exact lv_tableIn (off := 289) (tgt := 321) hx hb dt (by omega) (by omega) (by rw [h]; rfl) (by decide) (cs_7 hx hb hml hown hts hK1 hK2 hX hbl hP hS hl hrm kk)
  · exact lv_tableIn (off := 312) (tgt := 344) hx hb dt (by omega) (by omega) (by rw [h]; rfl) (by decide) (cs_8 hx hb hml hown hts hK1 hK2 hX hbl hP hS hl hrm kk)
  · exact lv_tableIn (off := 335) (tgt := 367) hx hb dt (by omega) (by omega) (by rw [h]; rfl) (by decide) (cs_9 hx hb hml hown hts hK1 hK2 hX hbl hP hS hl hrm kk)
  · exact lv_tableIn (off := 378) (tgt := 410) hx hb dt (by omega) (by omega) (by rw [h]; rfl) (by decide) (cs_10 hx hb hml hown hts hK1 hK2 hX hbl hP hS hl hrm kk)
  · exact lv_tableIn (off := 401) (tgt := 433) hx hb dt (by omega) (by omega) (by rw [h]; rfl) (by decide) (cs_11 hx hb hml hown hts hK1 hK2 hX hbl hP hS hl hrm kk)
  · exact lv_tableIn (off := 414) (tgt := 446) hx hb dt (by omega) (by omega) (by rw [h]; rfl) (by decide) (cs_12 hx hb hml hown hts hK1 hK2 hX hbl hP hS hl hrm kk)
  · exact lv_tableIn (off := 447) (tgt := 479) hx hb dt (by omega) (by omega) (by rw [h]; rfl) (by decide) (cs_13 hx hb hml hown hts hK1 hK2 hX hbl hP hS hl hrm kk)
  · exact lv_tableIn (off := 470) (tgt := 502) hx hb dt (by omega) (by omega) (by rw [h]; rfl) (by decide) (cs_14 hx hb hml hown hts hK1 hK2 hX hbl hP hS hl hrm kk)
  · exact lv_tableIn (off := 493) (tgt := 525) hx hb dt (by omega) (by omega) (by rw [h]; rfl) (by decide) (cs_15 hx hb hml hown hts hK1 hK2 hX hbl hP hS hl hrm kk)
  · exact lv_tableIn (off := 516) (tgt := 548) hx hb dt (by omega) (by omega) (by rw [h]; rfl) (by decide) (cs_16 hx hb hml hown hts hK1 hK2 hX hbl hP hS hl hrm kk)
  · exact lv_tableIn (off := 539) (tgt := 571) hx hb dt (by omega) (by omega) (by rw [h]; rfl) (by decide) (cs_17 hx hb hml hown hts hK1 hK2 hX hbl hP hS hl hrm kk)
  · exact lv_tableIn (off := 582) (tgt := 614) hx hb dt (by omega) (by omega) (by rw [h]; rfl) (by decide) (cs_18 hx hb hml hown hts hK1 hK2 hX hbl hP hS hl hrm kk)
  · exact lv_tableIn (off := 595) (tgt := 627) hx hb dt (by omega) (by omega) (by rw [h]; rfl) (by decide) (cs_19 hx hb hml hown hts hK1 hK2 hX hbl hP hS hl hrm kk)
  · exact lv_tableIn (off := 608) (tgt := 640) hx hb dt (by omega) (by omega) (by rw [h]; rfl) (by decide) (cs_20 hx hb hml hown hts hK1 hK2 hX hbl hP hS hl hrm kk)
  · exact lv_tableIn (off := 641) (tgt := 673) hx hb dt (by omega) (by omega) (by rw [h]; rfl) (by decide) (cs_21 hx hb hml hown hts hK1 hK2 hX hbl hP hS hl hrm kk)
  · exact lv_tableIn (off := 684) (tgt := 716) hx hb dt (by omega) (by omega) (by rw [h]; rfl) (by decide) (cs_22 hx hb hml hown hts hK1 hK2 hX hbl hP hS hl hrm kk)
  · exact lv_tableIn (off := 707) (tgt := 739) hx hb dt (by omega) (by omega) (by rw [h]; rfl) (by decide) (cs_23 hx hb hml hown hts hK1 hK2 hX hbl hP hS hl hrm kk)
  · exact lv_tableIn (off := 730) (tgt := 762) hx hb dt (by omega) (by omega) (by rw [h]; rfl) (by decide) (cs_24 hx hb hml hown hts hK1 hK2 hX hbl hP hS hl hrm kk)
  · exact lv_tableIn (off := 763) (tgt := 795) hx hb dt (by omega) (by omega) (by rw [h]; rfl) (by decide) (cs_25 hx hb hml hown hts hK1 hK2 hX hbl hP hS hl hrm kk)
  · exact lv_tableIn (off := 776) (tgt := 808) hx hb dt (by omega) (by omega) (by rw [h]; rfl) (by decide) (cs_26 hx hb hml hown hts hK1 hK2 hX hbl hP hS hl hrm kk)
  · exact lv_tableIn (off := 789) (tgt := 821) hx hb dt (by omega) (by omega) (by rw [h]; rfl) (by decide) (cs_27 hx hb hml hown hts hK1 hK2 hX hbl hP hS hl hrm kk)
theorem st_2 (hx : p.tables.exec = Jvm.exec) (hb : c.code = code) (hr : meth.sig.returnType = ret) (hml : c.maxLocals = 4) (hown : s.vm.findClass "RudeCouponsLaw" = some m.cls) (hts : ∀ w ∈ lw_g, w.before #[Value.ref b] s = true) (hlocks : meth.locks = false) (hKN : ∀ d : mD, d.2.2.2.1 = tx → s.heap.size ≤ d.1 → KN d E s) (hL : L ≤ 4) (hX : va_X b L xs s s.heap) (hbl : b < s.heap.size) (hC1 : va_P E.1 xcl (wo (s.heap.size, fun _ => 0, fun _ => 0, tx, true) E.2 s.heap.size hC) H) (hM1 : va_P E.1 xcl (wo (s.heap.size + 119, fun _ => 0, fun _ => 0, tx, true) E.2 (s.heap.size + 119) hM0) H) (hS : va_S (fun q => s.heap.size ≤ q) s.heap H locs) (hl : lv_has ls 4 [(1, .ref s.heap.size), (0, .ref b)]) : W p l e room_1 s m #[Value.ref b] below meth c H locs 120 2058 (lw_Z below #[Value.ref b] s) (F0 m 11 ls [.ref (s.heap.size + 119)]) := by
  refine lv_dup hx hb (by decide +kernel) rfl ?_
  have hk := hKN (s.heap.size + 119, fun _ => 0, fun _ => 0, tx, true) rfl (Nat.le_add_right _ _)
  refine W.eq (g2 := F0 m 12 ls ((([.inr (.inl 0)] : List mV).map (dn (s.heap.size + 119, fun _ => 0, fun _ => 0, tx, true))).reverse ++ [.ref (s.heap.size + 119)])) rfl (lc (rk_I hx hb hml (index := 12) (y := 94) (n := 0) hown hts wc_94 rfl rfl lm_9_12 wk_94 wi_94 wp_94 (by decide +kernel) (by decide +kernel)) (ed_s fk_n 4 _ _ _ _ _ run_M) hk (Nat.le_add_right _ _) hM1 (by decide) (fun _ => rfl) hS rfl hl.1 (by show (1 : Nat) ≤ 8; decide) (by decide +kernel) ⟨_, _, rfl⟩ (fun v hp' H' locs' k1 k2 k3 k4 => ?_))
  obtain ⟨rfl, rfl⟩ := rH_s k1
  have hC2 : va_P E.1 xcl (wo (s.heap.size, fun _ => 0, fun _ => 0, tx, true) E.2 s.heap.size hC) H' := by
    refine hC1.kept (fun k q hq => ?_)
    have hlt := (hC1 k q hq).lt
    rw [wo_get] at hq
    obtain ⟨c1, h1, rfl⟩ := Option.map_eq_some_iff.mp hq
    have h2 : k < hC.length := (List.getElem?_eq_some_iff.mp h1).1
    rw [hC_len] at h2
    exact k4 _ hlt (by show ¬ s.heap.size + 119 ≤ s.heap.size + k; omega)
  refine W.cs (cells' := 136) (slots' := 3452) rfl rfl ?_
  refine lv_astore_n (k := 2) (i := 2) (x := s.heap.size + 119) (lv' := [(2, .ref (s.heap.size + 119)), (1, .ref s.heap.size), (0, .ref b)]) hx hb (by decide +kernel) rfl hl (by decide) rfl (fun ls hl => ?_)
  refine lv_iconst (n := 0) (v := 0) hx hb (by decide +kernel) (by decide) ?_
  refine lv_istore_n (k := 3) (i := 3) (x := 0) (lv' := [(3, .int 0), (2, .ref (s.heap.size + 119)), (1, .ref s.heap.size), (0, .ref b)]) hx hb (by decide +kernel) rfl hl (by decide) rfl (fun ls hl => ?_)
  refine st_3 hx hb hr hml hown hts hlocks hKN hL hX hbl (fun sg tl => P_CX ?_ ?_) k3 hl
  · rw [wo_C s.heap.size tx sg (fun _ => 0) tl (fun _ => 0) false true]
    exact hC2
  · rw [← wo_M s.heap.size tx (fun _ => 0) sg (fun _ => 0) tl true false]
    exact k2
theorem st_1 (hx : p.tables.exec = Jvm.exec) (hb : c.code = code) (hr : meth.sig.returnType = ret) (hml : c.maxLocals = 4) (hown : s.vm.findClass "RudeCouponsLaw" = some m.cls) (hts : ∀ w ∈ lw_g, w.before #[Value.ref b] s = true) (hlocks : meth.locks = false) (hKN : ∀ d : mD, d.2.2.2.1 = tx → s.heap.size ≤ d.1 → KN d E s) (hL : L ≤ 4) (hX : va_X b L xs s s.heap) (hbl : b < s.heap.size) (hC1 : va_P E.1 xcl (wo (s.heap.size, fun _ => 0, fun _ => 0, tx, true) E.2 s.heap.size hC0) H) (hS : va_S (fun q => s.heap.size ≤ q) s.heap H locs) (hl : lv_has ls 4 [(0, .ref b)]) : W p l e room_1 s m #[Value.ref b] below meth c H locs 1 11 (lw_Z below #[Value.ref b] s) (F0 m 3 ls [.ref s.heap.size]) := by
  refine lv_dup hx hb (by decide +kernel) rfl ?_
  have hk := hKN (s.heap.size, fun _ => 0, fun _ => 0, tx, true) rfl (Nat.le_refl _)
  refine W.eq (g2 := F0 m 4 ls ((([.inr (.inl 0)] : List mV).map (dn (s.heap.size, fun _ => 0, fun _ => 0, tx, true))).reverse ++ [.ref s.heap.size])) rfl (lc (rk_I hx hb hml (index := 9) (y := 58) (n := 0) hown hts wc_58 rfl rfl lm_9_9 wk_58 wi_58 wp_58 (by decide +kernel) (by decide +kernel)) (ed_s fk_n 9 _ _ _ _ _ run_C) hk (Nat.le_refl _) hC1 (by decide) (fun _ => rfl) hS rfl hl.1 (by show (1 : Nat) ≤ 8; decide) (by decide +kernel) ⟨_, _, rfl⟩ (fun v hp' H' locs' k1 k2 k3 k4 => ?_))
  obtain ⟨rfl, rfl⟩ := rH_s k1
  refine W.cs (cells' := 119) (slots' := 2030) rfl rfl ?_
  refine lv_astore_n (k := 1) (i := 1) (x := s.heap.size) (lv' := [(1, .ref s.heap.size), (0, .ref b)]) hx hb (by decide +kernel) rfl hl (by decide) rfl (fun ls hl => ?_)
  refine va_new (index := 10) (ci := 8) (fs := ([.inl 0, .inr (.inr (.inr (.inr (.inr 0)))), .inl 0, .inr (.inr (.inr (.inr (.inr 0)))), .inl 0, .inr (.inr (.inr (.inr (.inr 0)))), .inr (.inr (.inr (.inr (.inr 0)))), .inr (.inr (.inr (.inr (.inr 0)))), .inl 0, .inr (.inr (.inr (.inr (.inr 0)))), .inl 0, .inr (.inr (.inr (.inr (.inr 0)))), .inl 0, .inr (.inr (.inr (.inr (.inr 0)))), .inr (.inr (.inr (.inr (.inr 0)))), .inl 0, .inl 0, .inr (.inr (.inr (.inr (.inr 0)))), .inl 0, .inr (.inr (.inr (.inr (.inr 0)))), .inl 0, .inr (.inr (.inr (.inr (.inr 0)))), .inl 0, .inr (.inr (.inr (.inr (.inr 0)))), .inl 0, .inr (.inr (.inr (.inr (.inr 0)))), .inr (.inr (.inr (.inr (.inr 0)))), .inr (.inr (.inr (.inr (.inr 0))))] : List mV).map (dn (s.heap.size, fun _ => 0, fun _ => 0, tx, true))) (D := E.1) (cl := xcl) (ws := wo (s.heap.size, fun _ => 0, fun _ => 0, tx, true) E.2 s.heap.size hC) hx hb hts in_8 tyX8 tyX8_ok hown (hts _ lc_9_10) (hts _ wn_8) (hts _ wz_8) hk.1 k2 (wo_D (d := (s.heap.size, fun _ => 0, fun _ => 0, tx, true))) k3 (fun q h => h) rfl (dfl_of _ df_8) (by decide) (by decide) (by decide +kernel) (fun q H1 hP hD hS => ?_)
  intro T hT X
  have hq := al_q (d := (s.heap.size, fun _ => 0, fun _ => 0, tx, true)) (h := (true, 119, 0, hC)) rfl rfl hP hD hT X
  subst hq
  have hn : (wo (s.heap.size, fun _ => 0, fun _ => 0, tx, true) E.2 s.heap.size hC).length = 119 := rfl
  refine st_2 hx hb hr hml hown hts hlocks hKN hL hX hbl (fun k q hk => hP k q (by rw [List.getElem?_append_left (List.getElem?_eq_some_iff.mp hk).1]; exact hk)) (fun k q hk => ?_) hS hl T hT X
  rcases k with _ | k
  · refine hP 119 q ?_
    rw [List.getElem?_append_right (by rw [hn]; decide), hn]
    exact hk
  · cases hk
end START
theorem whole_start {p : Program} {e : Env} {s : State} {m : MethodId} {below : List Frame} {meth : Method} {c : Code} (l : Launch) {b L : Nat} {xs : Nat → Int32} (hL : L ≤ 4) (C0 : lw_At p s m meth c b L xs) : W p l e room_1 s m #[Value.ref b] below meth c s.heap [] 0 0 (lw_Z below #[Value.ref b] s) (entryFrame m ([Value.ref b] : List Value).toArray 4) := by
  obtain ⟨hx, hb, hr, hml, hown, hts, hX, hbl, hlocks, hgv⟩ := C0
  have hg : ∀ w ∈ lw_g, w.before #[Value.ref b] s = true := fun w hw => hts w (lw_g_in hw)
  obtain ⟨E, n1, n2, n3, n4, n5⟩ := kn_E hts
  obtain ⟨tx, htx⟩ := tx_s hts hgv
  have hKN : ∀ d : mD, d.2.2.2.1 = tx → s.heap.size ≤ d.1 → KN d E s := fun d h1 h2 => ⟨n1, n2, n3, n4, n5, fun _ => htx d h1 h2⟩
  have hS : va_S (fun q => s.heap.size ≤ q) s.heap s.heap [] := va_S.rf
  have hl := lv_entry ([Value.ref b]) (n := 4) (Nat.le_of_ble_eq_true rfl)
  rw [lg_entry_eq]
  generalize (lg_sl ([Value.ref b]) ++ List.replicate (4 - (lg_sl ([Value.ref b])).length) Slot.unset).toArray = ls at hl ⊢
  have hl : lv_has ls 4 [(0, .ref b)] := hl
  refine va_new (index := 7) (ci := 7) (fs := ([.inr (.inr (.inr (.inr (.inr 0)))), .inr (.inr (.inr (.inr (.inr 0)))), .inr (.inr (.inr (.inr (.inr 0)))), .inr (.inr (.inr (.inr (.inr 0)))), .inr (.inr (.inr (.inr (.inr 0)))), .inr (.inr (.inr (.inr (.inr 0)))), .inr (.inr (.inr (.inr (.inr 0)))), .inr (.inr (.inr (.inr (.inr 0)))), .inr (.inr (.inr (.inr (.inr 0)))), .inr (.inr (.inr (.inr (.inr 0)))), .inr (.inr (.inr (.inr (.inr 0))))] : List mV).map (dn (s.heap.size, fun _ => 0, fun _ => 0, tx, true))) (D := E.1) (cl := xcl) (ws := wo (s.heap.size, fun _ => 0, fun _ => 0, tx, true) E.2 s.heap.size []) hx hb hg in_7 tyX7 tyX7_ok hown (hg _ lc_9_7) (hg _ wn_7) (hg _ wz_7) n1 (fun k q hk => by cases hk) (wo_D (d := (s.heap.size, fun _ => 0, fun _ => 0, tx, true))) hS (fun q h => h) rfl (dfl_of _ df_7) (by decide) (by decide) (by decide +kernel) (fun q H1 hP hD hS => ?_)
  intro T hT X
  have hq := al_q (d := (s.heap.size, fun _ => 0, fun _ => 0, tx, true)) (h := (true, 0, 0, [])) rfl rfl hP hD hT X
  subst hq
  exact st_1 hx hb hr hml hown hg hlocks hKN hL hX hbl hP hS hl T hT X
