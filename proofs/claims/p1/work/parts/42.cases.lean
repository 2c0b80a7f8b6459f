/-! THE LAW, third part: its cases -/
set_option linter.unusedSectionVars false
section CASES
variable {p : Program} {l : Launch} {e : Env} {s : State} {m : MethodId} {args : Array Value} {below : List Frame} {meth : Method} {c : Code} {Q : State → Prop} {E : mE} {tx b : Nat} {xs : Nat → Int32} {H : Heap} {locs : List Loc} {cells slots : Nat} {ls : Array Slot}
variable (hx : p.tables.exec = Jvm.exec) (hb : c.code = code) (hml : c.maxLocals = 4) (hown : s.vm.findClass "RudeCouponsLaw" = some m.cls) (hts : ∀ w ∈ lw_g, w.before args s = true) (hK1 : ∀ (sg : Nat → Int32) (tl : Nat → Int64), KN (s.heap.size, sg, tl, tx, false) E s) (hK2 : ∀ (sg : Nat → Int32) (tl : Nat → Int64), KN (s.heap.size + 119, sg, tl, tx, false) E s) (hX : va_X b 4 xs s s.heap) (hbl : b < s.heap.size) (hP : ∀ (sg : Nat → Int32) (tl : Nat → Int64), va_P E.1 xcl (wo (s.heap.size, sg, tl, tx, false) E.2 s.heap.size hCX) H) (hS : va_S (fun q => s.heap.size ≤ q) s.heap H locs) (hl : lv_has ls 4 [(3, .int 0), (2, .ref (s.heap.size + 119)), (1, .ref s.heap.size), (0, .ref b)]) (hroom : cells ≤ room_1.cells ∧ slots ≤ room_1.slots) (kk : ∀ (H' : Heap) (locs' : List Loc), va_S (fun q => s.heap.size ≤ q) s.heap H' locs' → W p l e room_1 s m args below meth c H' locs' cells slots Q (F0 m 844 ls []))
include hx hb hml hown hts hK1 hK2 hX hbl hP hS hl hroom kk
theorem cs_0 : W p l e room_1 s m args below meth c H locs cells slots Q (F0 m 160 ls []) := by
  obtain ⟨sg, tl, av, n, ha, hcm⟩ := op_write (xs 1)
  obtain ⟨c1, -⟩ := hcm l (s.heap.size, sg, tl, tx, false) E rfl rfl rfl
  obtain ⟨-, c2⟩ := hcm l (s.heap.size + 119, sg, tl, tx, false) E rfl rfl rfl
  refine lv_aload_n (k := 1) (i := 1) (x := s.heap.size) hx hb (by decide +kernel) rfl (lv_at hl 2 rfl) ?_
  refine pu (pc := 161) (j := 1) (z := 1) (v := 1) hx hb hX hbl hS hl (by decide +kernel) (by decide +kernel) (by decide +kernel) (by decide +kernel) (by decide +kernel) (by decide) (by decide) (by unfold vp_in; decide) (by decide) ?_
  refine lkC (pc := 166) (XS := [xs 1]) (rest := []) (hK1 sg tl) (ha _ rfl rfl) c1 (rk_V hx hb hml (index := 13) (y := 60) (n := 1) hown hts wc_60 (k := 7) rfl rfl lm_9_13 wk_60 wv_60 wi_60 wp_60 (by decide +kernel) (by decide +kernel)) rfl rfl rfl (hP sg tl) hS hl.1 (by decide) hroom (fun H locs hP hS => ?_)
  refine lv_aload_n (k := 2) (i := 2) (x := s.heap.size + 119) hx hb (by decide +kernel) rfl (lv_at hl 1 rfl) ?_
  refine pu (pc := 170) (j := 1) (z := 1) (v := 1) hx hb hX hbl hS hl (by decide +kernel) (by decide +kernel) (by decide +kernel) (by decide +kernel) (by decide +kernel) (by decide) (by decide) (by unfold vp_in; decide) (by decide) ?_
  refine lkM (pc := 175) (XS := [xs 1]) (rest := [.int (nI n)]) (hK2 sg tl) (ha _ rfl rfl) c2 (rk_V hx hb hml (index := 17) (y := 101) (n := 1) hown hts wc_101 (k := 8) rfl rfl lm_9_17 wk_101 wv_101 wi_101 wp_101 (by decide +kernel) (by decide +kernel)) rfl rfl rfl hP hS hl.1 (by show (1 : Nat) ≤ 8; decide) hroom (fun H locs hS => ?_)
  exact lv_icmp_eq (pc := 178) (off := 666) (tgt := 844) hx hb (by decide +kernel) (by decide) (fun _ => kk H locs hS) (fun h => absurd rfl h)
theorem cs_1 : W p l e room_1 s m args below meth c H locs cells slots Q (F0 m 183 ls []) := by
  obtain ⟨sg, tl, av, n, ha, hcm⟩ := op_wipe 
  obtain ⟨c1, -⟩ := hcm l (s.heap.size, sg, tl, tx, false) E rfl rfl rfl
  obtain ⟨-, c2⟩ := hcm l (s.heap.size + 119, sg, tl, tx, false) E rfl rfl rfl
  refine lv_aload_n (k := 1) (i := 1) (x := s.heap.size) hx hb (by decide +kernel) rfl (lv_at hl 2 rfl) ?_
  refine lkC (pc := 184) (XS := []) (rest := []) (hK1 sg tl) (ha _ rfl rfl) c1 (rk_V hx hb hml (index := 18) (y := 61) (n := 0) hown hts wc_61 (k := 7) rfl rfl lm_9_18 wk_61 wv_61 wi_61 wp_61 (by decide +kernel) (by decide +kernel)) rfl rfl rfl (hP sg tl) hS hl.1 (by decide) hroom (fun H locs hP hS => ?_)
  refine lv_aload_n (k := 2) (i := 2) (x := s.heap.size + 119) hx hb (by decide +kernel) rfl (lv_at hl 1 rfl) ?_
  refine lkM (pc := 188) (XS := []) (rest := [.int (nI n)]) (hK2 sg tl) (ha _ rfl rfl) c2 (rk_V hx hb hml (index := 22) (y := 102) (n := 0) hown hts wc_102 (k := 8) rfl rfl lm_9_22 wk_102 wv_102 wi_102 wp_102 (by decide +kernel) (by decide +kernel)) rfl rfl rfl hP hS hl.1 (by show (1 : Nat) ≤ 8; decide) hroom (fun H locs hS => ?_)
  exact lv_icmp_eq (pc := 191) (off := 653) (tgt := 844) hx hb (by decide +kernel) (by decide) (fun _ => kk H locs hS) (fun h => absurd rfl h)
theorem cs_2 : W p l e room_1 s m args below meth c H locs cells slots Q (F0 m 196 ls []) := by
  obtain ⟨sg, tl, av, n, ha, hcm⟩ := op_fault 
  obtain ⟨c1, -⟩ := hcm l (s.heap.size, sg, tl, tx, false) E rfl rfl rfl
  obtain ⟨-, c2⟩ := hcm l (s.heap.size + 119, sg, tl, tx, false) E rfl rfl rfl
  refine lv_aload_n (k := 1) (i := 1) (x := s.heap.size) hx hb (by decide +kernel) rfl (lv_at hl 2 rfl) ?_
  refine lkC (pc := 197) (XS := []) (rest := []) (hK1 sg tl) (ha _ rfl rfl) c1 (rk_V hx hb hml (index := 23) (y := 62) (n := 0) hown hts wc_62 (k := 7) rfl rfl lm_9_23 wk_62 wv_62 wi_62 wp_62 (by decide +kernel) (by decide +kernel)) rfl rfl rfl (hP sg tl) hS hl.1 (by decide) hroom (fun H locs hP hS => ?_)
  refine lv_aload_n (k := 2) (i := 2) (x := s.heap.size + 119) hx hb (by decide +kernel) rfl (lv_at hl 1 rfl) ?_
  refine lkM (pc := 201) (XS := []) (rest := [.int (nI n)]) (hK2 sg tl) (ha _ rfl rfl) c2 (rk_V hx hb hml (index := 26) (y := 103) (n := 0) hown hts wc_103 (k := 8) rfl rfl lm_9_26 wk_103 wv_103 wi_103 wp_103 (by decide +kernel) (by decide +kernel)) rfl rfl rfl hP hS hl.1 (by show (1 : Nat) ≤ 8; decide) hroom (fun H locs hS => ?_)
  exact lv_icmp_eq (pc := 204) (off := 640) (tgt := 844) hx hb (by decide +kernel) (by decide) (fun _ => kk H locs hS) (fun h => absurd rfl h)
theorem cs_3 : W p l e room_1 s m args below meth c H locs cells slots Q (F0 m 209 ls []) := by
  obtain ⟨sg, tl, av, n, ha, hcm⟩ := op_lay 
  obtain ⟨c1, -⟩ := hcm l (s.heap.size, sg, tl, tx, false) E rfl rfl rfl
  obtain ⟨-, c2⟩ := hcm l (s.heap.size + 119, sg, tl, tx, false) E rfl rfl rfl
  refine lv_aload_n (k := 1) (i := 1) (x := s.heap.size) hx hb (by decide +kernel) rfl (lv_at hl 2 rfl) ?_
  refine lkC (pc := 210) (XS := []) (rest := []) (hK1 sg tl) (ha _ rfl rfl) c1 (rk_V hx hb hml (index := 27) (y := 63) (n := 0) hown hts wc_63 (k := 7) rfl rfl lm_9_27 wk_63 wv_63 wi_63 wp_63 (by decide +kernel) (by decide +kernel)) rfl rfl rfl (hP sg tl) hS hl.1 (by decide) hroom (fun H locs hP hS => ?_)
  refine lv_aload_n (k := 2) (i := 2) (x := s.heap.size + 119) hx hb (by decide +kernel) rfl (lv_at hl 1 rfl) ?_
  refine lkM (pc := 214) (XS := []) (rest := [.int (nI n)]) (hK2 sg tl) (ha _ rfl rfl) c2 (rk_V hx hb hml (index := 30) (y := 104) (n := 0) hown hts wc_104 (k := 8) rfl rfl lm_9_30 wk_104 wv_104 wi_104 wp_104 (by decide +kernel) (by decide +kernel)) rfl rfl rfl hP hS hl.1 (by show (1 : Nat) ≤ 8; decide) hroom (fun H locs hS => ?_)
  exact lv_icmp_eq (pc := 217) (off := 627) (tgt := 844) hx hb (by decide +kernel) (by decide) (fun _ => kk H locs hS) (fun h => absurd rfl h)
theorem cs_4 : W p l e room_1 s m args below meth c H locs cells slots Q (F0 m 222 ls []) := by
  obtain ⟨sg, tl, av, n, ha, hcm⟩ := op_person (xs 1) (xs 2)
  obtain ⟨c1, -⟩ := hcm l (s.heap.size, sg, tl, tx, false) E rfl rfl rfl
  obtain ⟨-, c2⟩ := hcm l (s.heap.size + 119, sg, tl, tx, false) E rfl rfl rfl
  refine lv_aload_n (k := 1) (i := 1) (x := s.heap.size) hx hb (by decide +kernel) rfl (lv_at hl 2 rfl) ?_
  refine pu (pc := 223) (j := 1) (z := 1) (v := 1) hx hb hX hbl hS hl (by decide +kernel) (by decide +kernel) (by decide +kernel) (by decide +kernel) (by decide +kernel) (by decide) (by decide) (by unfold vp_in; decide) (by decide) ?_
  refine pu (pc := 228) (j := 2) (z := 2) (v := 2) hx hb hX hbl hS hl (by decide +kernel) (by decide +kernel) (by decide +kernel) (by decide +kernel) (by decide +kernel) (by decide) (by decide) (by unfold vp_in; decide) (by decide) ?_
  refine lkC (pc := 233) (XS := [xs 1, xs 2]) (rest := []) (hK1 sg tl) (ha _ rfl rfl) c1 (rk_V hx hb hml (index := 31) (y := 64) (n := 2) hown hts wc_64 (k := 7) rfl rfl lm_9_31 wk_64 wv_64 wi_64 wp_64 (by decide +kernel) (by decide +kernel)) rfl rfl rfl (hP sg tl) hS hl.1 (by decide) hroom (fun H locs hP hS => ?_)
  refine lv_aload_n (k := 2) (i := 2) (x := s.heap.size + 119) hx hb (by decide +kernel) rfl (lv_at hl 1 rfl) ?_
  refine pu (pc := 237) (j := 1) (z := 1) (v := 1) hx hb hX hbl hS hl (by decide +kernel) (by decide +kernel) (by decide +kernel) (by decide +kernel) (by decide +kernel) (by decide) (by decide) (by unfold vp_in; decide) (by decide) ?_
  refine pu (pc := 242) (j := 2) (z := 2) (v := 2) hx hb hX hbl hS hl (by decide +kernel) (by decide +kernel) (by decide +kernel) (by decide +kernel) (by decide +kernel) (by decide) (by decide) (by unfold vp_in; decide) (by decide) ?_
  refine lkM (pc := 247) (XS := [xs 1, xs 2]) (rest := [.int (nI n)]) (hK2 sg tl) (ha _ rfl rfl) c2 (rk_V hx hb hml (index := 35) (y := 105) (n := 2) hown hts wc_105 (k := 8) rfl rfl lm_9_35 wk_105 wv_105 wi_105 wp_105 (by decide +kernel) (by decide +kernel)) rfl rfl rfl hP hS hl.1 (by show (1 : Nat) ≤ 8; decide) hroom (fun H locs hS => ?_)
  exact lv_icmp_eq (pc := 250) (off := 594) (tgt := 844) hx hb (by decide +kernel) (by decide) (fun _ => kk H locs hS) (fun h => absurd rfl h)
theorem cs_5 : W p l e room_1 s m args below meth c H locs cells slots Q (F0 m 255 ls []) := by
  obtain ⟨sg, tl, av, n, ha, hcm⟩ := op_doing (xs 1) (xs 2)
  obtain ⟨c1, -⟩ := hcm l (s.heap.size, sg, tl, tx, false) E rfl rfl rfl
  obtain ⟨-, c2⟩ := hcm l (s.heap.size + 119, sg, tl, tx, false) E rfl rfl rfl
  refine lv_aload_n (k := 1) (i := 1) (x := s.heap.size) hx hb (by decide +kernel) rfl (lv_at hl 2 rfl) ?_
  refine pu (pc := 256) (j := 1) (z := 1) (v := 1) hx hb hX hbl hS hl (by decide +kernel) (by decide +kernel) (by decide +kernel) (by decide +kernel) (by decide +kernel) (by decide) (by decide) (by unfold vp_in; decide) (by decide) ?_
  refine pu (pc := 261) (j := 2) (z := 2) (v := 2) hx hb hX hbl hS hl (by decide +kernel) (by decide +kernel) (by decide +kernel) (by decide +kernel) (by decide +kernel) (by decide) (by decide) (by unfold vp_in; decide) (by decide) ?_
  refine lkC (pc := 266) (XS := [xs 1, xs 2]) (rest := []) (hK1 sg tl) (ha _ rfl rfl) c1 (rk_V hx hb hml (index := 36) (y := 65) (n := 2) hown hts wc_65 (k := 7) rfl rfl lm_9_36 wk_65 wv_65 wi_65 wp_65 (by decide +kernel) (by decide +kernel)) rfl rfl rfl (hP sg tl) hS hl.1 (by decide) hroom (fun H locs hP hS => ?_)
  refine lv_aload_n (k := 2) (i := 2) (x := s.heap.size + 119) hx hb (by decide +kernel) rfl (lv_at hl 1 rfl) ?_
  refine pu (pc := 270) (j := 1) (z := 1) (v := 1) hx hb hX hbl hS hl (by decide +kernel) (by decide +kernel) (by decide +kernel) (by decide +kernel) (by decide +kernel) (by decide) (by decide) (by unfold vp_in; decide) (by decide) ?_
  refine pu (pc := 275) (j := 2) (z := 2) (v := 2) hx hb hX hbl hS hl (by decide +kernel) (by decide +kernel) (by decide +kernel) (by decide +kernel) (by decide +kernel) (by decide) (by decide) (by unfold vp_in; decide) (by decide) ?_
  refine lkM (pc := 280) (XS := [xs 1, xs 2]) (rest := [.int (nI n)]) (hK2 sg tl) (ha _ rfl rfl) c2 (rk_V hx hb hml (index := 39) (y := 106) (n := 2) hown hts wc_106 (k := 8) rfl rfl lm_9_39 wk_106 wv_106 wi_106 wp_106 (by decide +kernel) (by decide +kernel)) rfl rfl rfl hP hS hl.1 (by show (1 : Nat) ≤ 8; decide) hroom (fun H locs hS => ?_)
  exact lv_icmp_eq (pc := 283) (off := 561) (tgt := 844) hx hb (by decide +kernel) (by decide) (fun _ => kk H locs hS) (fun h => absurd rfl h)
theorem cs_6 : W p l e room_1 s m args below meth c H locs cells slots Q (F0 m 288 ls []) := by
  obtain ⟨sg, tl, av, n, ha, hcm⟩ := op_occasion (xs 1) (xs 2)
  obtain ⟨c1, -⟩ := hcm l (s.heap.size, sg, tl, tx, false) E rfl rfl rfl
  obtain ⟨-, c2⟩ := hcm l (s.heap.size + 119, sg, tl, tx, false) E rfl rfl rfl
  refine lv_aload_n (k := 1) (i := 1) (x := s.heap.size) hx hb (by decide +kernel) rfl (lv_at hl 2 rfl) ?_
  refine pu (pc := 289) (j := 1) (z := 1) (v := 1) hx hb hX hbl hS hl (by decide +kernel) (by decide +kernel) (by decide +kernel) (by decide +kernel) (by decide +kernel) (by decide) (by decide) (by unfold vp_in; decide) (by decide) ?_
  refine pu (pc := 294) (j := 2) (z := 2) (v := 2) hx hb hX hbl hS hl (by decide +kernel) (by decide +kernel) (by decide +kernel) (by decide +kernel) (by decide +kernel) (by decide) (by decide) (by unfold vp_in; decide) (by decide) ?_
  refine lkC (pc := 299) (XS := [xs 1, xs 2]) (rest := []) (hK1 sg tl) (ha _ rfl rfl) c1 (rk_V hx hb hml (index := 40) (y := 66) (n := 2) hown hts wc_66 (k := 7) rfl rfl lm_9_40 wk_66 wv_66 wi_66 wp_66 (by decide +kernel) (by decide +kernel)) rfl rfl rfl (hP sg tl) hS hl.1 (by decide) hroom (fun H locs hP hS => ?_)
  refine lv_aload_n (k := 2) (i := 2) (x := s.heap.size + 119) hx hb (by decide +kernel) rfl (lv_at hl 1 rfl) ?_
  refine pu (pc := 303) (j := 1) (z := 1) (v := 1) hx hb hX hbl hS hl (by decide +kernel) (by decide +kernel) (by decide +kernel) (by decide +kernel) (by decide +kernel) (by decide) (by decide) (by unfold vp_in; decide) (by decide) ?_
  refine pu (pc := 308) (j := 2) (z := 2) (v := 2) hx hb hX hbl hS hl (by decide +kernel) (by decide +kernel) (by decide +kernel) (by decide +kernel) (by decide +kernel) (by decide) (by decide) (by unfold vp_in; decide) (by decide) ?_
  refine lkM (pc := 313) (XS := [xs 1, xs 2]) (rest := [.int (nI n)]) (hK2 sg tl) (ha _ rfl rfl) c2 (rk_V hx hb hml (index := 43) (y := 107) (n := 2) hown hts wc_107 (k := 8) rfl rfl lm_9_43 wk_107 wv_107 wi_107 wp_107 (by decide +kernel) (by decide +kernel)) rfl rfl rfl hP hS hl.1 (by show (1 : Nat) ≤ 8; decide) hroom (fun H locs hS => ?_)
  exact lv_icmp_eq (pc := 316) (off := 528) (tgt := 844) hx hb (by decide +kernel) (by decide) (fun _ => kk H locs hS) (fun h => absurd rfl h)
theorem cs_7 : W p l e room_1 s m args below meth c H locs cells slots Q (F0 m 321 ls []) := by
  obtain ⟨sg, tl, av, n, ha, hcm⟩ := op_take (xs 1)
  obtain ⟨c1, -⟩ := hcm l (s.heap.size, sg, tl, tx, false) E rfl rfl rfl
  obtain ⟨-, c2⟩ := hcm l (s.heap.size + 119, sg, tl, tx, false) E rfl rfl rfl
  refine lv_aload_n (k := 1) (i := 1) (x := s.heap.size) hx hb (by decide +kernel) rfl (lv_at hl 2 rfl) ?_
  refine pu (pc := 322) (j := 1) (z := 1) (v := 1) hx hb hX hbl hS hl (by decide +kernel) (by decide +kernel) (by decide +kernel) (by decide +kernel) (by decide +kernel) (by decide) (by decide) (by unfold vp_in; decide) (by decide) ?_
  refine lkC (pc := 327) (XS := [xs 1]) (rest := []) (hK1 sg tl) (ha _ rfl rfl) c1 (rk_V hx hb hml (index := 44) (y := 68) (n := 1) hown hts wc_68 (k := 7) rfl rfl lm_9_44 wk_68 wv_68 wi_68 wp_68 (by decide +kernel) (by decide +kernel)) rfl rfl rfl (hP sg tl) hS hl.1 (by decide) hroom (fun H locs hP hS => ?_)
  refine lv_aload_n (k := 2) (i := 2) (x := s.heap.size + 119) hx hb (by decide +kernel) rfl (lv_at hl 1 rfl) ?_
  refine pu (pc := 331) (j := 1) (z := 1) (v := 1) hx hb hX hbl hS hl (by decide +kernel) (by decide +kernel) (by decide +kernel) (by decide +kernel) (by decide +kernel) (by decide) (by decide) (by unfold vp_in; decide) (by decide) ?_
  refine lkM (pc := 336) (XS := [xs 1]) (rest := [.int (nI n)]) (hK2 sg tl) (ha _ rfl rfl) c2 (rk_V hx hb hml (index := 47) (y := 110) (n := 1) hown hts wc_110 (k := 8) rfl rfl lm_9_47 wk_110 wv_110 wi_110 wp_110 (by decide +kernel) (by decide +kernel)) rfl rfl rfl hP hS hl.1 (by show (1 : Nat) ≤ 8; decide) hroom (fun H locs hS => ?_)
  exact lv_icmp_eq (pc := 339) (off := 505) (tgt := 844) hx hb (by decide +kernel) (by decide) (fun _ => kk H locs hS) (fun h => absurd rfl h)
theorem cs_8 : W p l e room_1 s m args below meth c H locs cells slots Q (F0 m 344 ls []) := by
  obtain ⟨sg, tl, av, n, ha, hcm⟩ := op_pass (xs 1)
  obtain ⟨c1, -⟩ := hcm l (s.heap.size, sg, tl, tx, false) E rfl rfl rfl
  obtain ⟨-, c2⟩ := hcm l (s.heap.size + 119, sg, tl, tx, false) E rfl rfl rfl
  refine lv_aload_n (k := 1) (i := 1) (x := s.heap.size) hx hb (by decide +kernel) rfl (lv_at hl 2 rfl) ?_
  refine pu (pc := 345) (j := 1) (z := 1) (v := 1) hx hb hX hbl hS hl (by decide +kernel) (by decide +kernel) (by decide +kernel) (by decide +kernel) (by decide +kernel) (by decide) (by decide) (by unfold vp_in; decide) (by decide) ?_
  refine lkC (pc := 350) (XS := [xs 1]) (rest := []) (hK1 sg tl) (ha _ rfl rfl) c1 (rk_V hx hb hml (index := 48) (y := 70) (n := 1) hown hts wc_70 (k := 7) rfl rfl lm_9_48 wk_70 wv_70 wi_70 wp_70 (by decide +kernel) (by decide +kernel)) rfl rfl rfl (hP sg tl) hS hl.1 (by decide) hroom (fun H locs hP hS => ?_)
  refine lv_aload_n (k := 2) (i := 2) (x := s.heap.size + 119) hx hb (by decide +kernel) rfl (lv_at hl 1 rfl) ?_
  refine pu (pc := 354) (j := 1) (z := 1) (v := 1) hx hb hX hbl hS hl (by decide +kernel) (by decide +kernel) (by decide +kernel) (by decide +kernel) (by decide +kernel) (by decide) (by decide) (by unfold vp_in; decide) (by decide) ?_
  refine lkM (pc := 359) (XS := [xs 1]) (rest := [.int (nI n)]) (hK2 sg tl) (ha _ rfl rfl) c2 (rk_V hx hb hml (index := 51) (y := 112) (n := 1) hown hts wc_112 (k := 8) rfl rfl lm_9_51 wk_112 wv_112 wi_112 wp_112 (by decide +kernel) (by decide +kernel)) rfl rfl rfl hP hS hl.1 (by show (1 : Nat) ≤ 8; decide) hroom (fun H locs hS => ?_)
  exact lv_icmp_eq (pc := 362) (off := 482) (tgt := 844) hx hb (by decide +kernel) (by decide) (fun _ => kk H locs hS) (fun h => absurd rfl h)
theorem cs_9 : W p l e room_1 s m args below meth c H locs cells slots Q (F0 m 367 ls []) := by
  obtain ⟨sg, tl, av, n, ha, hcm⟩ := op_give (xs 1) (xs 2) (xs 3)
  obtain ⟨c1, -⟩ := hcm l (s.heap.size, sg, tl, tx, false) E rfl rfl rfl
  obtain ⟨-, c2⟩ := hcm l (s.heap.size + 119, sg, tl, tx, false) E rfl rfl rfl
  refine lv_aload_n (k := 1) (i := 1) (x := s.heap.size) hx hb (by decide +kernel) rfl (lv_at hl 2 rfl) ?_
  refine pu (pc := 368) (j := 1) (z := 1) (v := 1) hx hb hX hbl hS hl (by decide +kernel) (by decide +kernel) (by decide +kernel) (by decide +kernel) (by decide +kernel) (by decide) (by decide) (by unfold vp_in; decide) (by decide) ?_
  refine pu (pc := 373) (j := 2) (z := 2) (v := 2) hx hb hX hbl hS hl (by decide +kernel) (by decide +kernel) (by decide +kernel) (by decide +kernel) (by decide +kernel) (by decide) (by decide) (by unfold vp_in; decide) (by decide) ?_
  refine pu (pc := 378) (j := 3) (z := 3) (v := 3) hx hb hX hbl hS hl (by decide +kernel) (by decide +kernel) (by decide +kernel) (by decide +kernel) (by decide +kernel) (by decide) (by decide) (by unfold vp_in; decide) (by decide) ?_
  refine lkC (pc := 383) (XS := [xs 1, xs 2, xs 3]) (rest := []) (hK1 sg tl) (ha _ rfl rfl) c1 (rk_V hx hb hml (index := 52) (y := 71) (n := 3) hown hts wc_71 (k := 7) rfl rfl lm_9_52 wk_71 wv_71 wi_71 wp_71 (by decide +kernel) (by decide +kernel)) rfl rfl rfl (hP sg tl) hS hl.1 (by decide) hroom (fun H locs hP hS => ?_)
  refine lv_aload_n (k := 2) (i := 2) (x := s.heap.size + 119) hx hb (by decide +kernel) rfl (lv_at hl 1 rfl) ?_
  refine pu (pc := 387) (j := 1) (z := 1) (v := 1) hx hb hX hbl hS hl (by decide +kernel) (by decide +kernel) (by decide +kernel) (by decide +kernel) (by decide +kernel) (by decide) (by decide) (by unfold vp_in; decide) (by decide) ?_
  refine pu (pc := 392) (j := 2) (z := 2) (v := 2) hx hb hX hbl hS hl (by decide +kernel) (by decide +kernel) (by decide +kernel) (by decide +kernel) (by decide +kernel) (by decide) (by decide) (by unfold vp_in; decide) (by decide) ?_
  refine pu (pc := 397) (j := 3) (z := 3) (v := 3) hx hb hX hbl hS hl (by decide +kernel) (by decide +kernel) (by decide +kernel) (by decide +kernel) (by decide +kernel) (by decide) (by decide) (by unfold vp_in; decide) (by decide) ?_
  refine lkM (pc := 402) (XS := [xs 1, xs 2, xs 3]) (rest := [.int (nI n)]) (hK2 sg tl) (ha _ rfl rfl) c2 (rk_V hx hb hml (index := 56) (y := 113) (n := 3) hown hts wc_113 (k := 8) rfl rfl lm_9_56 wk_113 wv_113 wi_113 wp_113 (by decide +kernel) (by decide +kernel)) rfl rfl rfl hP hS hl.1 (by show (1 : Nat) ≤ 8; decide) hroom (fun H locs hS => ?_)
  exact lv_icmp_eq (pc := 405) (off := 439) (tgt := 844) hx hb (by decide +kernel) (by decide) (fun _ => kk H locs hS) (fun h => absurd rfl h)
theorem cs_10 : W p l e room_1 s m args below meth c H locs cells slots Q (F0 m 410 ls []) := by
  obtain ⟨sg, tl, av, n, ha, hcm⟩ := op_ration (xs 1)
  obtain ⟨c1, -⟩ := hcm l (s.heap.size, sg, tl, tx, false) E rfl rfl rfl
  obtain ⟨-, c2⟩ := hcm l (s.heap.size + 119, sg, tl, tx, false) E rfl rfl rfl
  refine lv_aload_n (k := 1) (i := 1) (x := s.heap.size) hx hb (by decide +kernel) rfl (lv_at hl 2 rfl) ?_
  refine pu (pc := 411) (j := 1) (z := 1) (v := 1) hx hb hX hbl hS hl (by decide +kernel) (by decide +kernel) (by decide +kernel) (by decide +kernel) (by decide +kernel) (by decide) (by decide) (by unfold vp_in; decide) (by decide) ?_
  refine lkC (pc := 416) (XS := [xs 1]) (rest := []) (hK1 sg tl) (ha _ rfl rfl) c1 (rk_V hx hb hml (index := 57) (y := 72) (n := 1) hown hts wc_72 (k := 7) rfl rfl lm_9_57 wk_72 wv_72 wi_72 wp_72 (by decide +kernel) (by decide +kernel)) rfl rfl rfl (hP sg tl) hS hl.1 (by decide) hroom (fun H locs hP hS => ?_)
  refine lv_aload_n (k := 2) (i := 2) (x := s.heap.size + 119) hx hb (by decide +kernel) rfl (lv_at hl 1 rfl) ?_
  refine pu (pc := 420) (j := 1) (z := 1) (v := 1) hx hb hX hbl hS hl (by decide +kernel) (by decide +kernel) (by decide +kernel) (by decide +kernel) (by decide +kernel) (by decide) (by decide) (by unfold vp_in; decide) (by decide) ?_
  refine lkM (pc := 425) (XS := [xs 1]) (rest := [.int (nI n)]) (hK2 sg tl) (ha _ rfl rfl) c2 (rk_V hx hb hml (index := 60) (y := 114) (n := 1) hown hts wc_114 (k := 8) rfl rfl lm_9_60 wk_114 wv_114 wi_114 wp_114 (by decide +kernel) (by decide +kernel)) rfl rfl rfl hP hS hl.1 (by show (1 : Nat) ≤ 8; decide) hroom (fun H locs hS => ?_)
  exact lv_icmp_eq (pc := 428) (off := 416) (tgt := 844) hx hb (by decide +kernel) (by decide) (fun _ => kk H locs hS) (fun h => absurd rfl h)
theorem cs_11 : W p l e room_1 s m args below meth c H locs cells slots Q (F0 m 433 ls []) := by
  obtain ⟨sg, tl, av, n, ha, hcm⟩ := op_undo 
  obtain ⟨c1, -⟩ := hcm l (s.heap.size, sg, tl, tx, false) E rfl rfl rfl
  obtain ⟨-, c2⟩ := hcm l (s.heap.size + 119, sg, tl, tx, false) E rfl rfl rfl
  refine lv_aload_n (k := 1) (i := 1) (x := s.heap.size) hx hb (by decide +kernel) rfl (lv_at hl 2 rfl) ?_
  refine lkC (pc := 434) (XS := []) (rest := []) (hK1 sg tl) (ha _ rfl rfl) c1 (rk_V hx hb hml (index := 61) (y := 74) (n := 0) hown hts wc_74 (k := 7) rfl rfl lm_9_61 wk_74 wv_74 wi_74 wp_74 (by decide +kernel) (by decide +kernel)) rfl rfl rfl (hP sg tl) hS hl.1 (by decide) hroom (fun H locs hP hS => ?_)
  refine lv_aload_n (k := 2) (i := 2) (x := s.heap.size + 119) hx hb (by decide +kernel) rfl (lv_at hl 1 rfl) ?_
  refine lkM (pc := 438) (XS := []) (rest := [.int (nI n)]) (hK2 sg tl) (ha _ rfl rfl) c2 (rk_V hx hb hml (index := 64) (y := 116) (n := 0) hown hts wc_116 (k := 8) rfl rfl lm_9_64 wk_116 wv_116 wi_116 wp_116 (by decide +kernel) (by decide +kernel)) rfl rfl rfl hP hS hl.1 (by show (1 : Nat) ≤ 8; decide) hroom (fun H locs hS => ?_)
  exact lv_icmp_eq (pc := 441) (off := 403) (tgt := 844) hx hb (by decide +kernel) (by decide) (fun _ => kk H locs hS) (fun h => absurd rfl h)
theorem cs_12 : W p l e room_1 s m args below meth c H locs cells slots Q (F0 m 446 ls []) := by
  obtain ⟨sg, tl, av, n, ha, hcm⟩ := op_best (xs 1) (xs 2)
  obtain ⟨c1, -⟩ := hcm l (s.heap.size, sg, tl, tx, false) E rfl rfl rfl
  obtain ⟨-, c2⟩ := hcm l (s.heap.size + 119, sg, tl, tx, false) E rfl rfl rfl
  refine lv_aload_n (k := 1) (i := 1) (x := s.heap.size) hx hb (by decide +kernel) rfl (lv_at hl 2 rfl) ?_
  refine pu (pc := 447) (j := 1) (z := 1) (v := 1) hx hb hX hbl hS hl (by decide +kernel) (by decide +kernel) (by decide +kernel) (by decide +kernel) (by decide +kernel) (by decide) (by decide) (by unfold vp_in; decide) (by decide) ?_
  refine pu (pc := 452) (j := 2) (z := 2) (v := 2) hx hb hX hbl hS hl (by decide +kernel) (by decide +kernel) (by decide +kernel) (by decide +kernel) (by decide +kernel) (by decide) (by decide) (by unfold vp_in; decide) (by decide) ?_
  refine lkC (pc := 457) (XS := [xs 1, xs 2]) (rest := []) (hK1 sg tl) (ha _ rfl rfl) c1 (rk_V hx hb hml (index := 65) (y := 75) (n := 2) hown hts wc_75 (k := 7) rfl rfl lm_9_65 wk_75 wv_75 wi_75 wp_75 (by decide +kernel) (by decide +kernel)) rfl rfl rfl (hP sg tl) hS hl.1 (by decide) hroom (fun H locs hP hS => ?_)
  refine lv_aload_n (k := 2) (i := 2) (x := s.heap.size + 119) hx hb (by decide +kernel) rfl (lv_at hl 1 rfl) ?_
  refine pu (pc := 461) (j := 1) (z := 1) (v := 1) hx hb hX hbl hS hl (by decide +kernel) (by decide +kernel) (by decide +kernel) (by decide +kernel) (by decide +kernel) (by decide) (by decide) (by unfold vp_in; decide) (by decide) ?_
  refine pu (pc := 466) (j := 2) (z := 2) (v := 2) hx hb hX hbl hS hl (by decide +kernel) (by decide +kernel) (by decide +kernel) (by decide +kernel) (by decide +kernel) (by decide) (by decide) (by unfold vp_in; decide) (by decide) ?_
  refine lkM (pc := 471) (XS := [xs 1, xs 2]) (rest := [.int (nI n)]) (hK2 sg tl) (ha _ rfl rfl) c2 (rk_V hx hb hml (index := 68) (y := 117) (n := 2) hown hts wc_117 (k := 8) rfl rfl lm_9_68 wk_117 wv_117 wi_117 wp_117 (by decide +kernel) (by decide +kernel)) rfl rfl rfl hP hS hl.1 (by show (1 : Nat) ≤ 8; decide) hroom (fun H locs hS => ?_)
  exact lv_icmp_eq (pc := 474) (off := 370) (tgt := 844) hx hb (by decide +kernel) (by decide) (fun _ => kk H locs hS) (fun h => absurd rfl h)
theorem cs_13 : W p l e room_1 s m args below meth c H locs cells slots Q (F0 m 479 ls []) := by
  obtain ⟨sg, tl, av, n, ha, hcm⟩ := op_more (xs 1)
  obtain ⟨c1, -⟩ := hcm l (s.heap.size, sg, tl, tx, false) E rfl rfl rfl
  obtain ⟨-, c2⟩ := hcm l (s.heap.size + 119, sg, tl, tx, false) E rfl rfl rfl
  refine lv_aload_n (k := 1) (i := 1) (x := s.heap.size) hx hb (by decide +kernel) rfl (lv_at hl 2 rfl) ?_
  refine pu (pc := 480) (j := 1) (z := 1) (v := 1) hx hb hX hbl hS hl (by decide +kernel) (by decide +kernel) (by decide +kernel) (by decide +kernel) (by decide +kernel) (by decide) (by decide) (by unfold vp_in; decide) (by decide) ?_
  refine lkC (pc := 485) (XS := [xs 1]) (rest := []) (hK1 sg tl) (ha _ rfl rfl) c1 (rk_V hx hb hml (index := 69) (y := 76) (n := 1) hown hts wc_76 (k := 7) rfl rfl lm_9_69 wk_76 wv_76 wi_76 wp_76 (by decide +kernel) (by decide +kernel)) rfl rfl rfl (hP sg tl) hS hl.1 (by decide) hroom (fun H locs hP hS => ?_)
  refine lv_aload_n (k := 2) (i := 2) (x := s.heap.size + 119) hx hb (by decide +kernel) rfl (lv_at hl 1 rfl) ?_
  refine pu (pc := 489) (j := 1) (z := 1) (v := 1) hx hb hX hbl hS hl (by decide +kernel) (by decide +kernel) (by decide +kernel) (by decide +kernel) (by decide +kernel) (by decide) (by decide) (by unfold vp_in; decide) (by decide) ?_
  refine lkM (pc := 494) (XS := [xs 1]) (rest := [.int (nI n)]) (hK2 sg tl) (ha _ rfl rfl) c2 (rk_V hx hb hml (index := 72) (y := 118) (n := 1) hown hts wc_118 (k := 8) rfl rfl lm_9_72 wk_118 wv_118 wi_118 wp_118 (by decide +kernel) (by decide +kernel)) rfl rfl rfl hP hS hl.1 (by show (1 : Nat) ≤ 8; decide) hroom (fun H locs hS => ?_)
  exact lv_icmp_eq (pc := 497) (off := 347) (tgt := 844) hx hb (by decide +kernel) (by decide) (fun _ => kk H locs hS) (fun h => absurd rfl h)
theorem cs_14 : W p l e room_1 s m args below meth c H locs cells slots Q (F0 m 502 ls []) := by
  obtain ⟨sg, tl, av, n, ha, hcm⟩ := op_giveBest (xs 1)
  obtain ⟨c1, -⟩ := hcm l (s.heap.size, sg, tl, tx, false) E rfl rfl rfl
  obtain ⟨-, c2⟩ := hcm l (s.heap.size + 119, sg, tl, tx, false) E rfl rfl rfl
  refine lv_aload_n (k := 1) (i := 1) (x := s.heap.size) hx hb (by decide +kernel) rfl (lv_at hl 2 rfl) ?_
  refine pu (pc := 503) (j := 1) (z := 1) (v := 1) hx hb hX hbl hS hl (by decide +kernel) (by decide +kernel) (by decide +kernel) (by decide +kernel) (by decide +kernel) (by decide) (by decide) (by unfold vp_in; decide) (by decide) ?_
  refine lkC (pc := 508) (XS := [xs 1]) (rest := []) (hK1 sg tl) (ha _ rfl rfl) c1 (rk_V hx hb hml (index := 73) (y := 77) (n := 1) hown hts wc_77 (k := 7) rfl rfl lm_9_73 wk_77 wv_77 wi_77 wp_77 (by decide +kernel) (by decide +kernel)) rfl rfl rfl (hP sg tl) hS hl.1 (by decide) hroom (fun H locs hP hS => ?_)
  refine lv_aload_n (k := 2) (i := 2) (x := s.heap.size + 119) hx hb (by decide +kernel) rfl (lv_at hl 1 rfl) ?_
  refine pu (pc := 512) (j := 1) (z := 1) (v := 1) hx hb hX hbl hS hl (by decide +kernel) (by decide +kernel) (by decide +kernel) (by decide +kernel) (by decide +kernel) (by decide) (by decide) (by unfold vp_in; decide) (by decide) ?_
  refine lkM (pc := 517) (XS := [xs 1]) (rest := [.int (nI n)]) (hK2 sg tl) (ha _ rfl rfl) c2 (rk_V hx hb hml (index := 76) (y := 119) (n := 1) hown hts wc_119 (k := 8) rfl rfl lm_9_76 wk_119 wv_119 wi_119 wp_119 (by decide +kernel) (by decide +kernel)) rfl rfl rfl hP hS hl.1 (by show (1 : Nat) ≤ 8; decide) hroom (fun H locs hS => ?_)
  exact lv_icmp_eq (pc := 520) (off := 324) (tgt := 844) hx hb (by decide +kernel) (by decide) (fun _ => kk H locs hS) (fun h => absurd rfl h)
theorem cs_15 : W p l e room_1 s m args below meth c H locs cells slots Q (F0 m 525 ls []) := by
  obtain ⟨sg, tl, av, n, ha, hcm⟩ := op_shared (xs 1)
  obtain ⟨c1, -⟩ := hcm l (s.heap.size, sg, tl, tx, false) E rfl rfl rfl
  obtain ⟨-, c2⟩ := hcm l (s.heap.size + 119, sg, tl, tx, false) E rfl rfl rfl
  refine lv_aload_n (k := 1) (i := 1) (x := s.heap.size) hx hb (by decide +kernel) rfl (lv_at hl 2 rfl) ?_
  refine pu (pc := 526) (j := 1) (z := 1) (v := 1) hx hb hX hbl hS hl (by decide +kernel) (by decide +kernel) (by decide +kernel) (by decide +kernel) (by decide +kernel) (by decide) (by decide) (by unfold vp_in; decide) (by decide) ?_
  refine lkC (pc := 531) (XS := [xs 1]) (rest := []) (hK1 sg tl) (ha _ rfl rfl) c1 (rk_V hx hb hml (index := 77) (y := 79) (n := 1) hown hts wc_79 (k := 7) rfl rfl lm_9_77 wk_79 wv_79 wi_79 wp_79 (by decide +kernel) (by decide +kernel)) rfl rfl rfl (hP sg tl) hS hl.1 (by decide) hroom (fun H locs hP hS => ?_)
  refine lv_aload_n (k := 2) (i := 2) (x := s.heap.size + 119) hx hb (by decide +kernel) rfl (lv_at hl 1 rfl) ?_
  refine pu (pc := 535) (j := 1) (z := 1) (v := 1) hx hb hX hbl hS hl (by decide +kernel) (by decide +kernel) (by decide +kernel) (by decide +kernel) (by decide +kernel) (by decide) (by decide) (by unfold vp_in; decide) (by decide) ?_
  refine lkM (pc := 540) (XS := [xs 1]) (rest := [.int (nI n)]) (hK2 sg tl) (ha _ rfl rfl) c2 (rk_V hx hb hml (index := 80) (y := 120) (n := 1) hown hts wc_120 (k := 8) rfl rfl lm_9_80 wk_120 wv_120 wi_120 wp_120 (by decide +kernel) (by decide +kernel)) rfl rfl rfl hP hS hl.1 (by show (1 : Nat) ≤ 8; decide) hroom (fun H locs hS => ?_)
  exact lv_icmp_eq (pc := 543) (off := 301) (tgt := 844) hx hb (by decide +kernel) (by decide) (fun _ => kk H locs hS) (fun h => absurd rfl h)
theorem cs_16 : W p l e room_1 s m args below meth c H locs cells slots Q (F0 m 548 ls []) := by
  obtain ⟨sg, tl, av, n, ha, hcm⟩ := op_rationFor (xs 1)
  obtain ⟨c1, -⟩ := hcm l (s.heap.size, sg, tl, tx, false) E rfl rfl rfl
  obtain ⟨-, c2⟩ := hcm l (s.heap.size + 119, sg, tl, tx, false) E rfl rfl rfl
  refine lv_aload_n (k := 1) (i := 1) (x := s.heap.size) hx hb (by decide +kernel) rfl (lv_at hl 2 rfl) ?_
  refine pu (pc := 549) (j := 1) (z := 1) (v := 1) hx hb hX hbl hS hl (by decide +kernel) (by decide +kernel) (by decide +kernel) (by decide +kernel) (by decide +kernel) (by decide) (by decide) (by unfold vp_in; decide) (by decide) ?_
  refine lkC (pc := 554) (XS := [xs 1]) (rest := []) (hK1 sg tl) (ha _ rfl rfl) c1 (rk_V hx hb hml (index := 81) (y := 80) (n := 1) hown hts wc_80 (k := 7) rfl rfl lm_9_81 wk_80 wv_80 wi_80 wp_80 (by decide +kernel) (by decide +kernel)) rfl rfl rfl (hP sg tl) hS hl.1 (by decide) hroom (fun H locs hP hS => ?_)
  refine lv_aload_n (k := 2) (i := 2) (x := s.heap.size + 119) hx hb (by decide +kernel) rfl (lv_at hl 1 rfl) ?_
  refine pu (pc := 558) (j := 1) (z := 1) (v := 1) hx hb hX hbl hS hl (by decide +kernel) (by decide +kernel) (by decide +kernel) (by decide +kernel) (by decide +kernel) (by decide) (by decide) (by unfold vp_in; decide) (by decide) ?_
  refine lkM (pc := 563) (XS := [xs 1]) (rest := [.int (nI n)]) (hK2 sg tl) (ha _ rfl rfl) c2 (rk_V hx hb hml (index := 84) (y := 122) (n := 1) hown hts wc_122 (k := 8) rfl rfl lm_9_84 wk_122 wv_122 wi_122 wp_122 (by decide +kernel) (by decide +kernel)) rfl rfl rfl hP hS hl.1 (by show (1 : Nat) ≤ 8; decide) hroom (fun H locs hS => ?_)
  exact lv_icmp_eq (pc := 566) (off := 278) (tgt := 844) hx hb (by decide +kernel) (by decide) (fun _ => kk H locs hS) (fun h => absurd rfl h)
theorem cs_17 : W p l e room_1 s m args below meth c H locs cells slots Q (F0 m 571 ls []) := by
  obtain ⟨sg, tl, av, n, ha, hcm⟩ := op_seen (xs 1) (xs 2) (xs 3)
  obtain ⟨c1, -⟩ := hcm l (s.heap.size, sg, tl, tx, false) E rfl rfl rfl
  obtain ⟨-, c2⟩ := hcm l (s.heap.size + 119, sg, tl, tx, false) E rfl rfl rfl
  refine lv_aload_n (k := 1) (i := 1) (x := s.heap.size) hx hb (by decide +kernel) rfl (lv_at hl 2 rfl) ?_
  refine pu (pc := 572) (j := 1) (z := 1) (v := 1) hx hb hX hbl hS hl (by decide +kernel) (by decide +kernel) (by decide +kernel) (by decide +kernel) (by decide +kernel) (by decide) (by decide) (by unfold vp_in; decide) (by decide) ?_
  refine pu (pc := 577) (j := 2) (z := 2) (v := 2) hx hb hX hbl hS hl (by decide +kernel) (by decide +kernel) (by decide +kernel) (by decide +kernel) (by decide +kernel) (by decide) (by decide) (by unfold vp_in; decide) (by decide) ?_
  refine pu (pc := 582) (j := 3) (z := 3) (v := 3) hx hb hX hbl hS hl (by decide +kernel) (by decide +kernel) (by decide +kernel) (by decide +kernel) (by decide +kernel) (by decide) (by decide) (by unfold vp_in; decide) (by decide) ?_
  refine lkC (pc := 587) (XS := [xs 1, xs 2, xs 3]) (rest := []) (hK1 sg tl) (ha _ rfl rfl) c1 (rk_V hx hb hml (index := 85) (y := 82) (n := 3) hown hts wc_82 (k := 7) rfl rfl lm_9_85 wk_82 wv_82 wi_82 wp_82 (by decide +kernel) (by decide +kernel)) rfl rfl rfl (hP sg tl) hS hl.1 (by decide) hroom (fun H locs hP hS => ?_)
  refine lv_aload_n (k := 2) (i := 2) (x := s.heap.size + 119) hx hb (by decide +kernel) rfl (lv_at hl 1 rfl) ?_
  refine pu (pc := 591) (j := 1) (z := 1) (v := 1) hx hb hX hbl hS hl (by decide +kernel) (by decide +kernel) (by decide +kernel) (by decide +kernel) (by decide +kernel) (by decide) (by decide) (by unfold vp_in; decide) (by decide) ?_
  refine pu (pc := 596) (j := 2) (z := 2) (v := 2) hx hb hX hbl hS hl (by decide +kernel) (by decide +kernel) (by decide +kernel) (by decide +kernel) (by decide +kernel) (by decide) (by decide) (by unfold vp_in; decide) (by decide) ?_
  refine pu (pc := 601) (j := 3) (z := 3) (v := 3) hx hb hX hbl hS hl (by decide +kernel) (by decide +kernel) (by decide +kernel) (by decide +kernel) (by decide +kernel) (by decide) (by decide) (by unfold vp_in; decide) (by decide) ?_
  refine lkM (pc := 606) (XS := [xs 1, xs 2, xs 3]) (rest := [.int (nI n)]) (hK2 sg tl) (ha _ rfl rfl) c2 (rk_V hx hb hml (index := 88) (y := 124) (n := 3) hown hts wc_124 (k := 8) rfl rfl lm_9_88 wk_124 wv_124 wi_124 wp_124 (by decide +kernel) (by decide +kernel)) rfl rfl rfl hP hS hl.1 (by show (1 : Nat) ≤ 8; decide) hroom (fun H locs hS => ?_)
  exact lv_icmp_eq (pc := 609) (off := 235) (tgt := 844) hx hb (by decide +kernel) (by decide) (fun _ => kk H locs hS) (fun h => absurd rfl h)
theorem cs_18 : W p l e room_1 s m args below meth c H locs cells slots Q (F0 m 614 ls []) := by
  obtain ⟨sg, tl, av, n, ha, hcm⟩ := op_forget 
  obtain ⟨c1, -⟩ := hcm l (s.heap.size, sg, tl, tx, false) E rfl rfl rfl
  obtain ⟨-, c2⟩ := hcm l (s.heap.size + 119, sg, tl, tx, false) E rfl rfl rfl
  refine lv_aload_n (k := 1) (i := 1) (x := s.heap.size) hx hb (by decide +kernel) rfl (lv_at hl 2 rfl) ?_
  refine lkC (pc := 615) (XS := []) (rest := []) (hK1 sg tl) (ha _ rfl rfl) c1 (rk_V hx hb hml (index := 89) (y := 83) (n := 0) hown hts wc_83 (k := 7) rfl rfl lm_9_89 wk_83 wv_83 wi_83 wp_83 (by decide +kernel) (by decide +kernel)) rfl rfl rfl (hP sg tl) hS hl.1 (by decide) hroom (fun H locs hP hS => ?_)
  refine lv_aload_n (k := 2) (i := 2) (x := s.heap.size + 119) hx hb (by decide +kernel) rfl (lv_at hl 1 rfl) ?_
  refine lkM (pc := 619) (XS := []) (rest := [.int (nI n)]) (hK2 sg tl) (ha _ rfl rfl) c2 (rk_V hx hb hml (index := 92) (y := 125) (n := 0) hown hts wc_125 (k := 8) rfl rfl lm_9_92 wk_125 wv_125 wi_125 wp_125 (by decide +kernel) (by decide +kernel)) rfl rfl rfl hP hS hl.1 (by show (1 : Nat) ≤ 8; decide) hroom (fun H locs hS => ?_)
  exact lv_icmp_eq (pc := 622) (off := 222) (tgt := 844) hx hb (by decide +kernel) (by decide) (fun _ => kk H locs hS) (fun h => absurd rfl h)
theorem cs_19 : W p l e room_1 s m args below meth c H locs cells slots Q (F0 m 627 ls []) := by
  obtain ⟨sg, tl, av, n, ha, hcm⟩ := op_without 
  obtain ⟨c1, -⟩ := hcm l (s.heap.size, sg, tl, tx, false) E rfl rfl rfl
  obtain ⟨-, c2⟩ := hcm l (s.heap.size + 119, sg, tl, tx, false) E rfl rfl rfl
  refine lv_aload_n (k := 1) (i := 1) (x := s.heap.size) hx hb (by decide +kernel) rfl (lv_at hl 2 rfl) ?_
  refine lkC (pc := 628) (XS := []) (rest := []) (hK1 sg tl) (ha _ rfl rfl) c1 (rk_V hx hb hml (index := 93) (y := 84) (n := 0) hown hts wc_84 (k := 7) rfl rfl lm_9_93 wk_84 wv_84 wi_84 wp_84 (by decide +kernel) (by decide +kernel)) rfl rfl rfl (hP sg tl) hS hl.1 (by decide) hroom (fun H locs hP hS => ?_)
  refine lv_aload_n (k := 2) (i := 2) (x := s.heap.size + 119) hx hb (by decide +kernel) rfl (lv_at hl 1 rfl) ?_
  refine lkM (pc := 632) (XS := []) (rest := [.int (nI n)]) (hK2 sg tl) (ha _ rfl rfl) c2 (rk_V hx hb hml (index := 96) (y := 126) (n := 0) hown hts wc_126 (k := 8) rfl rfl lm_9_96 wk_126 wv_126 wi_126 wp_126 (by decide +kernel) (by decide +kernel)) rfl rfl rfl hP hS hl.1 (by show (1 : Nat) ≤ 8; decide) hroom (fun H locs hS => ?_)
  exact lv_icmp_eq (pc := 635) (off := 209) (tgt := 844) hx hb (by decide +kernel) (by decide) (fun _ => kk H locs hS) (fun h => absurd rfl h)
theorem cs_20 : W p l e room_1 s m args below meth c H locs cells slots Q (F0 m 640 ls []) := by
  obtain ⟨sg, tl, av, n, ha, hcm⟩ := op_letGo (xs 1) (xs 2)
  obtain ⟨c1, -⟩ := hcm l (s.heap.size, sg, tl, tx, false) E rfl rfl rfl
  obtain ⟨-, c2⟩ := hcm l (s.heap.size + 119, sg, tl, tx, false) E rfl rfl rfl
  refine lv_aload_n (k := 1) (i := 1) (x := s.heap.size) hx hb (by decide +kernel) rfl (lv_at hl 2 rfl) ?_
  refine pu (pc := 641) (j := 1) (z := 1) (v := 1) hx hb hX hbl hS hl (by decide +kernel) (by decide +kernel) (by decide +kernel) (by decide +kernel) (by decide +kernel) (by decide) (by decide) (by unfold vp_in; decide) (by decide) ?_
  refine pu (pc := 646) (j := 2) (z := 2) (v := 2) hx hb hX hbl hS hl (by decide +kernel) (by decide +kernel) (by decide +kernel) (by decide +kernel) (by decide +kernel) (by decide) (by decide) (by unfold vp_in; decide) (by decide) ?_
  refine lkC (pc := 651) (XS := [xs 1, xs 2]) (rest := []) (hK1 sg tl) (ha _ rfl rfl) c1 (rk_V hx hb hml (index := 97) (y := 85) (n := 2) hown hts wc_85 (k := 7) rfl rfl lm_9_97 wk_85 wv_85 wi_85 wp_85 (by decide +kernel) (by decide +kernel)) rfl rfl rfl (hP sg tl) hS hl.1 (by decide) hroom (fun H locs hP hS => ?_)
  refine lv_aload_n (k := 2) (i := 2) (x := s.heap.size + 119) hx hb (by decide +kernel) rfl (lv_at hl 1 rfl) ?_
  refine pu (pc := 655) (j := 1) (z := 1) (v := 1) hx hb hX hbl hS hl (by decide +kernel) (by decide +kernel) (by decide +kernel) (by decide +kernel) (by decide +kernel) (by decide) (by decide) (by unfold vp_in; decide) (by decide) ?_
  refine pu (pc := 660) (j := 2) (z := 2) (v := 2) hx hb hX hbl hS hl (by decide +kernel) (by decide +kernel) (by decide +kernel) (by decide +kernel) (by decide +kernel) (by decide) (by decide) (by unfold vp_in; decide) (by decide) ?_
  refine lkM (pc := 665) (XS := [xs 1, xs 2]) (rest := [.int (nI n)]) (hK2 sg tl) (ha _ rfl rfl) c2 (rk_V hx hb hml (index := 100) (y := 127) (n := 2) hown hts wc_127 (k := 8) rfl rfl lm_9_100 wk_127 wv_127 wi_127 wp_127 (by decide +kernel) (by decide +kernel)) rfl rfl rfl hP hS hl.1 (by show (1 : Nat) ≤ 8; decide) hroom (fun H locs hS => ?_)
  exact lv_icmp_eq (pc := 668) (off := 176) (tgt := 844) hx hb (by decide +kernel) (by decide) (fun _ => kk H locs hS) (fun h => absurd rfl h)
theorem cs_21 : W p l e room_1 s m args below meth c H locs cells slots Q (F0 m 673 ls []) := by
  obtain ⟨sg, tl, av, n, ha, hcm⟩ := op_keepOne (xs 1) (xs 2) (xs 3)
  obtain ⟨c1, -⟩ := hcm l (s.heap.size, sg, tl, tx, false) E rfl rfl rfl
  obtain ⟨-, c2⟩ := hcm l (s.heap.size + 119, sg, tl, tx, false) E rfl rfl rfl
  refine lv_aload_n (k := 1) (i := 1) (x := s.heap.size) hx hb (by decide +kernel) rfl (lv_at hl 2 rfl) ?_
  refine pu (pc := 674) (j := 1) (z := 1) (v := 1) hx hb hX hbl hS hl (by decide +kernel) (by decide +kernel) (by decide +kernel) (by decide +kernel) (by decide +kernel) (by decide) (by decide) (by unfold vp_in; decide) (by decide) ?_
  refine pu (pc := 679) (j := 2) (z := 2) (v := 2) hx hb hX hbl hS hl (by decide +kernel) (by decide +kernel) (by decide +kernel) (by decide +kernel) (by decide +kernel) (by decide) (by decide) (by unfold vp_in; decide) (by decide) ?_
  refine pu (pc := 684) (j := 3) (z := 3) (v := 3) hx hb hX hbl hS hl (by decide +kernel) (by decide +kernel) (by decide +kernel) (by decide +kernel) (by decide +kernel) (by decide) (by decide) (by unfold vp_in; decide) (by decide) ?_
  refine lkC (pc := 689) (XS := [xs 1, xs 2, xs 3]) (rest := []) (hK1 sg tl) (ha _ rfl rfl) c1 (rk_V hx hb hml (index := 101) (y := 86) (n := 3) hown hts wc_86 (k := 7) rfl rfl lm_9_101 wk_86 wv_86 wi_86 wp_86 (by decide +kernel) (by decide +kernel)) rfl rfl rfl (hP sg tl) hS hl.1 (by decide) hroom (fun H locs hP hS => ?_)
  refine lv_aload_n (k := 2) (i := 2) (x := s.heap.size + 119) hx hb (by decide +kernel) rfl (lv_at hl 1 rfl) ?_
  refine pu (pc := 693) (j := 1) (z := 1) (v := 1) hx hb hX hbl hS hl (by decide +kernel) (by decide +kernel) (by decide +kernel) (by decide +kernel) (by decide +kernel) (by decide) (by decide) (by unfold vp_in; decide) (by decide) ?_
  refine pu (pc := 698) (j := 2) (z := 2) (v := 2) hx hb hX hbl hS hl (by decide +kernel) (by decide +kernel) (by decide +kernel) (by decide +kernel) (by decide +kernel) (by decide) (by decide) (by unfold vp_in; decide) (by decide) ?_
  refine pu (pc := 703) (j := 3) (z := 3) (v := 3) hx hb hX hbl hS hl (by decide +kernel) (by decide +kernel) (by decide +kernel) (by decide +kernel) (by decide +kernel) (by decide) (by decide) (by unfold vp_in; decide) (by decide) ?_
  refine lkM (pc := 708) (XS := [xs 1, xs 2, xs 3]) (rest := [.int (nI n)]) (hK2 sg tl) (ha _ rfl rfl) c2 (rk_V hx hb hml (index := 104) (y := 128) (n := 3) hown hts wc_128 (k := 8) rfl rfl lm_9_104 wk_128 wv_128 wi_128 wp_128 (by decide +kernel) (by decide +kernel)) rfl rfl rfl hP hS hl.1 (by show (1 : Nat) ≤ 8; decide) hroom (fun H locs hS => ?_)
  exact lv_icmp_eq (pc := 711) (off := 133) (tgt := 844) hx hb (by decide +kernel) (by decide) (fun _ => kk H locs hS) (fun h => absurd rfl h)
theorem cs_22 : W p l e room_1 s m args below meth c H locs cells slots Q (F0 m 716 ls []) := by
  obtain ⟨sg, tl, av, n, ha, hcm⟩ := op_net (xs 1)
  obtain ⟨c1, -⟩ := hcm l (s.heap.size, sg, tl, tx, false) E rfl rfl rfl
  obtain ⟨-, c2⟩ := hcm l (s.heap.size + 119, sg, tl, tx, false) E rfl rfl rfl
  refine lv_aload_n (k := 1) (i := 1) (x := s.heap.size) hx hb (by decide +kernel) rfl (lv_at hl 2 rfl) ?_
  refine pu (pc := 717) (j := 1) (z := 1) (v := 1) hx hb hX hbl hS hl (by decide +kernel) (by decide +kernel) (by decide +kernel) (by decide +kernel) (by decide +kernel) (by decide) (by decide) (by unfold vp_in; decide) (by decide) ?_
  refine lkC (pc := 722) (XS := [xs 1]) (rest := []) (hK1 sg tl) (ha _ rfl rfl) c1 (rk_V hx hb hml (index := 105) (y := 87) (n := 1) hown hts wc_87 (k := 7) rfl rfl lm_9_105 wk_87 wv_87 wi_87 wp_87 (by decide +kernel) (by decide +kernel)) rfl rfl rfl (hP sg tl) hS hl.1 (by decide) hroom (fun H locs hP hS => ?_)
  refine lv_aload_n (k := 2) (i := 2) (x := s.heap.size + 119) hx hb (by decide +kernel) rfl (lv_at hl 1 rfl) ?_
  refine pu (pc := 726) (j := 1) (z := 1) (v := 1) hx hb hX hbl hS hl (by decide +kernel) (by decide +kernel) (by decide +kernel) (by decide +kernel) (by decide +kernel) (by decide) (by decide) (by unfold vp_in; decide) (by decide) ?_
  refine lkM (pc := 731) (XS := [xs 1]) (rest := [.int (nI n)]) (hK2 sg tl) (ha _ rfl rfl) c2 (rk_V hx hb hml (index := 108) (y := 129) (n := 1) hown hts wc_129 (k := 8) rfl rfl lm_9_108 wk_129 wv_129 wi_129 wp_129 (by decide +kernel) (by decide +kernel)) rfl rfl rfl hP hS hl.1 (by show (1 : Nat) ≤ 8; decide) hroom (fun H locs hS => ?_)
  exact lv_icmp_eq (pc := 734) (off := 110) (tgt := 844) hx hb (by decide +kernel) (by decide) (fun _ => kk H locs hS) (fun h => absurd rfl h)
theorem cs_23 : W p l e room_1 s m args below meth c H locs cells slots Q (F0 m 739 ls []) := by
  obtain ⟨sg, tl, av, n, ha, hcm⟩ := op_heard (xs 1)
  obtain ⟨c1, -⟩ := hcm l (s.heap.size, sg, tl, tx, false) E rfl rfl rfl
  obtain ⟨-, c2⟩ := hcm l (s.heap.size + 119, sg, tl, tx, false) E rfl rfl rfl
  refine lv_aload_n (k := 1) (i := 1) (x := s.heap.size) hx hb (by decide +kernel) rfl (lv_at hl 2 rfl) ?_
  refine pu (pc := 740) (j := 1) (z := 1) (v := 1) hx hb hX hbl hS hl (by decide +kernel) (by decide +kernel) (by decide +kernel) (by decide +kernel) (by decide +kernel) (by decide) (by decide) (by unfold vp_in; decide) (by decide) ?_
  refine lkC (pc := 745) (XS := [xs 1]) (rest := []) (hK1 sg tl) (ha _ rfl rfl) c1 (rk_V hx hb hml (index := 109) (y := 88) (n := 1) hown hts wc_88 (k := 7) rfl rfl lm_9_109 wk_88 wv_88 wi_88 wp_88 (by decide +kernel) (by decide +kernel)) rfl rfl rfl (hP sg tl) hS hl.1 (by decide) hroom (fun H locs hP hS => ?_)
  refine lv_aload_n (k := 2) (i := 2) (x := s.heap.size + 119) hx hb (by decide +kernel) rfl (lv_at hl 1 rfl) ?_
  refine pu (pc := 749) (j := 1) (z := 1) (v := 1) hx hb hX hbl hS hl (by decide +kernel) (by decide +kernel) (by decide +kernel) (by decide +kernel) (by decide +kernel) (by decide) (by decide) (by unfold vp_in; decide) (by decide) ?_
  refine lkM (pc := 754) (XS := [xs 1]) (rest := [.int (nI n)]) (hK2 sg tl) (ha _ rfl rfl) c2 (rk_V hx hb hml (index := 112) (y := 130) (n := 1) hown hts wc_130 (k := 8) rfl rfl lm_9_112 wk_130 wv_130 wi_130 wp_130 (by decide +kernel) (by decide +kernel)) rfl rfl rfl hP hS hl.1 (by show (1 : Nat) ≤ 8; decide) hroom (fun H locs hS => ?_)
  exact lv_icmp_eq (pc := 757) (off := 87) (tgt := 844) hx hb (by decide +kernel) (by decide) (fun _ => kk H locs hS) (fun h => absurd rfl h)
theorem cs_24 : W p l e room_1 s m args below meth c H locs cells slots Q (F0 m 762 ls []) := by
  obtain ⟨sg, tl, av, n, ha, hcm⟩ := op_year (xs 1) (xs 2)
  obtain ⟨c1, -⟩ := hcm l (s.heap.size, sg, tl, tx, false) E rfl rfl rfl
  obtain ⟨-, c2⟩ := hcm l (s.heap.size + 119, sg, tl, tx, false) E rfl rfl rfl
  refine lv_aload_n (k := 1) (i := 1) (x := s.heap.size) hx hb (by decide +kernel) rfl (lv_at hl 2 rfl) ?_
  refine pu (pc := 763) (j := 1) (z := 1) (v := 1) hx hb hX hbl hS hl (by decide +kernel) (by decide +kernel) (by decide +kernel) (by decide +kernel) (by decide +kernel) (by decide) (by decide) (by unfold vp_in; decide) (by decide) ?_
  refine pu (pc := 768) (j := 2) (z := 2) (v := 2) hx hb hX hbl hS hl (by decide +kernel) (by decide +kernel) (by decide +kernel) (by decide +kernel) (by decide +kernel) (by decide) (by decide) (by unfold vp_in; decide) (by decide) ?_
  refine lkC (pc := 773) (XS := [xs 1, xs 2]) (rest := []) (hK1 sg tl) (ha _ rfl rfl) c1 (rk_V hx hb hml (index := 113) (y := 89) (n := 2) hown hts wc_89 (k := 7) rfl rfl lm_9_113 wk_89 wv_89 wi_89 wp_89 (by decide +kernel) (by decide +kernel)) rfl rfl rfl (hP sg tl) hS hl.1 (by decide) hroom (fun H locs hP hS => ?_)
  refine lv_aload_n (k := 2) (i := 2) (x := s.heap.size + 119) hx hb (by decide +kernel) rfl (lv_at hl 1 rfl) ?_
  refine pu (pc := 777) (j := 1) (z := 1) (v := 1) hx hb hX hbl hS hl (by decide +kernel) (by decide +kernel) (by decide +kernel) (by decide +kernel) (by decide +kernel) (by decide) (by decide) (by unfold vp_in; decide) (by decide) ?_
  refine pu (pc := 782) (j := 2) (z := 2) (v := 2) hx hb hX hbl hS hl (by decide +kernel) (by decide +kernel) (by decide +kernel) (by decide +kernel) (by decide +kernel) (by decide) (by decide) (by unfold vp_in; decide) (by decide) ?_
  refine lkM (pc := 787) (XS := [xs 1, xs 2]) (rest := [.int (nI n)]) (hK2 sg tl) (ha _ rfl rfl) c2 (rk_V hx hb hml (index := 116) (y := 131) (n := 2) hown hts wc_131 (k := 8) rfl rfl lm_9_116 wk_131 wv_131 wi_131 wp_131 (by decide +kernel) (by decide +kernel)) rfl rfl rfl hP hS hl.1 (by show (1 : Nat) ≤ 8; decide) hroom (fun H locs hS => ?_)
  exact lv_icmp_eq (pc := 790) (off := 54) (tgt := 844) hx hb (by decide +kernel) (by decide) (fun _ => kk H locs hS) (fun h => absurd rfl h)
theorem cs_25 : W p l e room_1 s m args below meth c H locs cells slots Q (F0 m 795 ls []) := by
  obtain ⟨sg, tl, av, n, ha, hcm⟩ := op_keep 
  obtain ⟨c1, -⟩ := hcm l (s.heap.size, sg, tl, tx, false) E rfl rfl rfl
  obtain ⟨-, c2⟩ := hcm l (s.heap.size + 119, sg, tl, tx, false) E rfl rfl rfl
  refine lv_aload_n (k := 1) (i := 1) (x := s.heap.size) hx hb (by decide +kernel) rfl (lv_at hl 2 rfl) ?_
  refine lkC (pc := 796) (XS := []) (rest := []) (hK1 sg tl) (ha _ rfl rfl) c1 (rk_V hx hb hml (index := 117) (y := 91) (n := 0) hown hts wc_91 (k := 7) rfl rfl lm_9_117 wk_91 wv_91 wi_91 wp_91 (by decide +kernel) (by decide +kernel)) rfl rfl rfl (hP sg tl) hS hl.1 (by decide) hroom (fun H locs hP hS => ?_)
  refine lv_aload_n (k := 2) (i := 2) (x := s.heap.size + 119) hx hb (by decide +kernel) rfl (lv_at hl 1 rfl) ?_
  refine lkM (pc := 800) (XS := []) (rest := [.int (nI n)]) (hK2 sg tl) (ha _ rfl rfl) c2 (rk_V hx hb hml (index := 120) (y := 132) (n := 0) hown hts wc_132 (k := 8) rfl rfl lm_9_120 wk_132 wv_132 wi_132 wp_132 (by decide +kernel) (by decide +kernel)) rfl rfl rfl hP hS hl.1 (by show (1 : Nat) ≤ 8; decide) hroom (fun H locs hS => ?_)
  exact lv_icmp_eq (pc := 803) (off := 41) (tgt := 844) hx hb (by decide +kernel) (by decide) (fun _ => kk H locs hS) (fun h => absurd rfl h)
theorem cs_26 : W p l e room_1 s m args below meth c H locs cells slots Q (F0 m 808 ls []) := by
  obtain ⟨sg, tl, av, n, ha, hcm⟩ := op_back 
  obtain ⟨c1, -⟩ := hcm l (s.heap.size, sg, tl, tx, false) E rfl rfl rfl
  obtain ⟨-, c2⟩ := hcm l (s.heap.size + 119, sg, tl, tx, false) E rfl rfl rfl
  refine lv_aload_n (k := 1) (i := 1) (x := s.heap.size) hx hb (by decide +kernel) rfl (lv_at hl 2 rfl) ?_
  refine lkC (pc := 809) (XS := []) (rest := []) (hK1 sg tl) (ha _ rfl rfl) c1 (rk_V hx hb hml (index := 121) (y := 92) (n := 0) hown hts wc_92 (k := 7) rfl rfl lm_9_121 wk_92 wv_92 wi_92 wp_92 (by decide +kernel) (by decide +kernel)) rfl rfl rfl (hP sg tl) hS hl.1 (by decide) hroom (fun H locs hP hS => ?_)
  refine lv_aload_n (k := 2) (i := 2) (x := s.heap.size + 119) hx hb (by decide +kernel) rfl (lv_at hl 1 rfl) ?_
  refine lkM (pc := 813) (XS := []) (rest := [.int (nI n)]) (hK2 sg tl) (ha _ rfl rfl) c2 (rk_V hx hb hml (index := 124) (y := 133) (n := 0) hown hts wc_133 (k := 8) rfl rfl lm_9_124 wk_133 wv_133 wi_133 wp_133 (by decide +kernel) (by decide +kernel)) rfl rfl rfl hP hS hl.1 (by show (1 : Nat) ≤ 8; decide) hroom (fun H locs hS => ?_)
  exact lv_icmp_eq (pc := 816) (off := 28) (tgt := 844) hx hb (by decide +kernel) (by decide) (fun _ => kk H locs hS) (fun h => absurd rfl h)
theorem cs_27 : W p l e room_1 s m args below meth c H locs cells slots Q (F0 m 821 ls []) := by
  obtain ⟨sg, tl, av, n, ha, hcm⟩ := op_count (xs 1)
  obtain ⟨c1, -⟩ := hcm l (s.heap.size, sg, tl, tx, false) E rfl rfl rfl
  obtain ⟨-, c2⟩ := hcm l (s.heap.size + 119, sg, tl, tx, false) E rfl rfl rfl
  refine lv_aload_n (k := 1) (i := 1) (x := s.heap.size) hx hb (by decide +kernel) rfl (lv_at hl 2 rfl) ?_
  refine pu (pc := 822) (j := 1) (z := 1) (v := 1) hx hb hX hbl hS hl (by decide +kernel) (by decide +kernel) (by decide +kernel) (by decide +kernel) (by decide +kernel) (by decide) (by decide) (by unfold vp_in; decide) (by decide) ?_
  refine lkC (pc := 827) (XS := [xs 1]) (rest := []) (hK1 sg tl) (ha _ rfl rfl) c1 (rk_V hx hb hml (index := 125) (y := 93) (n := 1) hown hts wc_93 (k := 7) rfl rfl lm_9_125 wk_93 wv_93 wi_93 wp_93 (by decide +kernel) (by decide +kernel)) rfl rfl rfl (hP sg tl) hS hl.1 (by decide) hroom (fun H locs hP hS => ?_)
  refine lv_aload_n (k := 2) (i := 2) (x := s.heap.size + 119) hx hb (by decide +kernel) rfl (lv_at hl 1 rfl) ?_
  refine pu (pc := 831) (j := 1) (z := 1) (v := 1) hx hb hX hbl hS hl (by decide +kernel) (by decide +kernel) (by decide +kernel) (by decide +kernel) (by decide +kernel) (by decide) (by decide) (by unfold vp_in; decide) (by decide) ?_
  refine lkM (pc := 836) (XS := [xs 1]) (rest := [.int (nI n)]) (hK2 sg tl) (ha _ rfl rfl) c2 (rk_V hx hb hml (index := 128) (y := 134) (n := 1) hown hts wc_134 (k := 8) rfl rfl lm_9_128 wk_134 wv_134 wi_134 wp_134 (by decide +kernel) (by decide +kernel)) rfl rfl rfl hP hS hl.1 (by show (1 : Nat) ≤ 8; decide) hroom (fun H locs hS => ?_)
  exact lv_icmp_eq (pc := 839) (off := 5) (tgt := 844) hx hb (by decide +kernel) (by decide) (fun _ => kk H locs hS) (fun h => absurd rfl h)
end CASES
