/-! METHODS, block by block, by program: every instruction as its handler says -/
section MTH
variable {p : Program} {l : Launch} {e : Env} {s : State} {m : MethodId} {args : Array Value} {below : List Frame} {meth : Method} {c : Code} {d : mD} {E : mE} {F : mF} {K0 : mK}
set_option maxRecDepth 20000 in
theorem b_76_0 (C : CX p l s m args meth c d E F 76) : BB p l e s m args below meth c d E F K0 76 0 rc_76_0 := by
  obtain ⟨hx, hb, hml, hown, hts, hr, hlocks, hnm, hKN, hb0, hF⟩ := C
  have hb : c.code = prog_1_method_15_code := hb
  have hown : s.vm.findClass "RudeCoupons" = some m.cls := hown
  have hr : meth.sig.returnType = some .int := hr
  refine bs_c (pc := 0) (s_aload_n hx hb (k := 0) (by decide +kernel) rfl) ?_
  refine bs_c (pc := 1) (s_getf hx hb hts in_7 hown hKN.1 (ci := 7) rfl (k := 9) (by decide) (hts _ lf_7_67) (by decide +kernel)) ?_
  refine bs_c (pc := 4) (s_iload_n hx hb (k := 1) (by decide +kernel) rfl) ?_
  refine bs_c (pc := 5) (s_call rfl rfl (rk_V hx hb hml (index := 104) (y := 23) (n := 1) hown hts wc_23 (k := 0) rfl rfl lm_7_104 wk_23 wv_23 wi_23 wp_23 (by decide +kernel) (by decide +kernel)) hKN hb0) ?_
  refine bs_c (pc := 8) (s_if_ne hx hb (by decide +kernel) hF) ?_
  refine bs_c (pc := 11) (s_iconst hx hb (z := -1) (by decide +kernel) (by decide +kernel)) ?_
  refine bs_c (pc := 12) (s_ireturn hx hb hr hlocks (pc' := 0) (by decide +kernel)) ?_
  exact bs_n
set_option maxRecDepth 20000 in
theorem b_76_1 (C : CX p l s m args meth c d E F 76) : BB p l e s m args below meth c d E F K0 76 13 rc_76_1 := by
  obtain ⟨hx, hb, hml, hown, hts, hr, hlocks, hnm, hKN, hb0, hF⟩ := C
  have hb : c.code = prog_1_method_15_code := hb
  have hown : s.vm.findClass "RudeCoupons" = some m.cls := hown
  have hr : meth.sig.returnType = some .int := hr
  refine bs_c (pc := 13) (s_aload_n hx hb (k := 0) (by decide +kernel) rfl) ?_
  refine bs_c (pc := 14) (s_getf hx hb hts in_7 hown hKN.1 (ci := 7) rfl (k := 7) (by decide) (hts _ lf_7_56) (by decide +kernel)) ?_
  refine bs_c (pc := 17) (s_aload_n hx hb (k := 0) (by decide +kernel) rfl) ?_
  refine bs_c (pc := 18) (s_getf hx hb hts in_7 hown hKN.1 (ci := 7) rfl (k := 9) (by decide) (hts _ lf_7_67) (by decide +kernel)) ?_
  refine bs_c (pc := 21) (s_aload_n hx hb (k := 0) (by decide +kernel) rfl) ?_
  refine bs_c (pc := 22) (s_getf hx hb hts in_7 hown hKN.1 (ci := 7) rfl (k := 2) (by decide) (hts _ lf_7_26) (by decide +kernel)) ?_
  refine bs_c (pc := 25) (s_iload_n hx hb (k := 1) (by decide +kernel) rfl) ?_
  refine bs_c (pc := 26) (s_call rfl rfl (rk_V hx hb hml (index := 183) (y := 33) (n := 3) hown hts wc_33 (k := 2) rfl rfl lm_7_183 wk_33 wv_33 wi_33 wp_33 (by decide +kernel) (by decide +kernel)) hKN hb0) ?_
  refine bs_c (pc := 29) (s_aload_n hx hb (k := 0) (by decide +kernel) rfl) ?_
  refine bs_c (pc := 30) (s_getf hx hb hts in_7 hown hKN.1 (ci := 7) rfl (k := 7) (by decide) (hts _ lf_7_56) (by decide +kernel)) ?_
  refine bs_c (pc := 33) (s_iload_n hx hb (k := 1) (by decide +kernel) rfl) ?_
  refine bs_c (pc := 34) (s_aload_n hx hb (k := 0) (by decide +kernel) rfl) ?_
  refine bs_c (pc := 35) (s_getf hx hb hts in_7 hown hKN.1 (ci := 7) rfl (k := 2) (by decide) (hts _ lf_7_26) (by decide +kernel)) ?_
  refine bs_c (pc := 38) (s_getf hx hb hts in_6 hown hKN.1 (ci := 6) rfl (k := 2) (by decide) (hts _ lf_7_111) (by decide +kernel)) ?_
  refine bs_c (pc := 41) (s_iload_n hx hb (k := 1) (by decide +kernel) rfl) ?_
  refine bs_c (pc := 42) (s_ald0 hx hb hKN.1 (by decide +kernel)) ?_
  refine bs_c (pc := 43) (s_call rfl rfl (rk_V hx hb hml (index := 193) (y := 34) (n := 2) hown hts wc_34 (k := 2) rfl rfl lm_7_193 wk_34 wv_34 wi_34 wp_34 (by decide +kernel) (by decide +kernel)) hKN hb0) ?_
  refine bs_c (pc := 46) (s_ireturn hx hb hr hlocks (pc' := 0) (by decide +kernel)) ?_
  exact bs_n
set_option maxRecDepth 20000 in
theorem b_77_0 (C : CX p l s m args meth c d E F 77) : BB p l e s m args below meth c d E F K0 77 0 rc_77_0 := by
  obtain ⟨hx, hb, hml, hown, hts, hr, hlocks, hnm, hKN, hb0, hF⟩ := C
  have hb : c.code = prog_1_method_16_code := hb
  have hown : s.vm.findClass "RudeCoupons" = some m.cls := hown
  have hr : meth.sig.returnType = some .int := hr
  refine bs_c (pc := 0) (s_iload_n hx hb (k := 1) (by decide +kernel) rfl) ?_
  refine bs_c (pc := 1) (s_iconst hx hb (z := 0) (by decide +kernel) (by decide +kernel)) ?_
  refine bs_c (pc := 2) (s_iconst hx hb (z := 1) (by decide +kernel) (by decide +kernel)) ?_
  refine bs_c (pc := 3) (s_call rfl rfl (rk_S hx hb hml (index := 96) (y := 16) (n := 3) hown hts wc_16 lm_7_96 wk_16 wi_16 wp_16 (by decide +kernel) (by decide +kernel)) hKN hb0) ?_
  refine bs_c (pc := 6) (s_if_ne hx hb (by decide +kernel) hF) ?_
  refine bs_c (pc := 9) (s_iconst hx hb (z := -1) (by decide +kernel) (by decide +kernel)) ?_
  refine bs_c (pc := 10) (s_ireturn hx hb hr hlocks (pc' := 0) (by decide +kernel)) ?_
  exact bs_n
set_option maxRecDepth 20000 in
theorem b_77_1 (C : CX p l s m args meth c d E F 77) : BB p l e s m args below meth c d E F K0 77 11 rc_77_1 := by
  obtain ⟨hx, hb, hml, hown, hts, hr, hlocks, hnm, hKN, hb0, hF⟩ := C
  have hb : c.code = prog_1_method_16_code := hb
  have hown : s.vm.findClass "RudeCoupons" = some m.cls := hown
  have hr : meth.sig.returnType = some .int := hr
  refine bs_c (pc := 11) (s_aload_n hx hb (k := 0) (by decide +kernel) rfl) ?_
  refine bs_c (pc := 12) (s_getf hx hb hts in_7 hown hKN.1 (ci := 7) rfl (k := 7) (by decide) (hts _ lf_7_56) (by decide +kernel)) ?_
  refine bs_c (pc := 15) (s_aload_n hx hb (k := 0) (by decide +kernel) rfl) ?_
  refine bs_c (pc := 16) (s_getf hx hb hts in_7 hown hKN.1 (ci := 7) rfl (k := 9) (by decide) (hts _ lf_7_67) (by decide +kernel)) ?_
  refine bs_c (pc := 19) (s_aload_n hx hb (k := 0) (by decide +kernel) rfl) ?_
  refine bs_c (pc := 20) (s_getf hx hb hts in_7 hown hKN.1 (ci := 7) rfl (k := 2) (by decide) (hts _ lf_7_26) (by decide +kernel)) ?_
  refine bs_c (pc := 23) (s_call rfl rfl (rk_V hx hb hml (index := 197) (y := 35) (n := 2) hown hts wc_35 (k := 2) rfl rfl lm_7_197 wk_35 wv_35 wi_35 wp_35 (by decide +kernel) (by decide +kernel)) hKN hb0) ?_
  refine bs_c (pc := 26) (s_iconst hx hb (z := 0) (by decide +kernel) (by decide +kernel)) ?_
  refine bs_c (pc := 27) (s_istore_n hx hb (k := 2) (by decide +kernel) rfl (by decide +kernel)) ?_
  refine bs_c (pc := 28) (s_bipush hx hb (z := -4) (by decide +kernel) (by decide +kernel)) ?_
  refine bs_c (pc := 30) (s_istore_n hx hb (k := 3) (by decide +kernel) rfl (by decide +kernel)) ?_
  refine bs_c (pc := 31) (s_iconst hx hb (z := 0) (by decide +kernel) (by decide +kernel)) ?_
  refine bs_c (pc := 32) (s_istore hx hb (by decide +kernel) (by decide +kernel)) ?_
  refine bs_c (pc := 34) (s_fall (pc' := 0) (by decide +kernel)) ?_
  exact bs_n
set_option maxRecDepth 20000 in
theorem b_77_2 (C : CX p l s m args meth c d E F 77) : BB p l e s m args below meth c d E F K0 77 34 rc_77_2 := by
  obtain ⟨hx, hb, hml, hown, hts, hr, hlocks, hnm, hKN, hb0, hF⟩ := C
  have hb : c.code = prog_1_method_16_code := hb
  have hown : s.vm.findClass "RudeCoupons" = some m.cls := hown
  have hr : meth.sig.returnType = some .int := hr
  refine bs_c (pc := 34) (s_iload hx hb (by decide +kernel)) ?_
  refine bs_c (pc := 36) (s_aload_n hx hb (k := 0) (by decide +kernel) rfl) ?_
  refine bs_c (pc := 37) (s_getf hx hb hts in_7 hown hKN.1 (ci := 7) rfl (k := 9) (by decide) (hts _ lf_7_67) (by decide +kernel)) ?_
  refine bs_c (pc := 40) (s_getf hx hb hts in_0 hown hKN.1 (ci := 0) rfl (k := 0) (by decide) (hts _ lf_7_158) (by decide +kernel)) ?_
  refine bs_c (pc := 43) (s_icmp_ge hx hb (by decide +kernel) hF) ?_
  refine bs_c (pc := 46) (s_iconst hx hb (z := 0) (by decide +kernel) (by decide +kernel)) ?_
  refine bs_c (pc := 47) (s_istore hx hb (by decide +kernel) (by decide +kernel)) ?_
  refine bs_c (pc := 49) (s_fall (pc' := 0) (by decide +kernel)) ?_
  exact bs_n
set_option maxRecDepth 20000 in
theorem b_77_3 (C : CX p l s m args meth c d E F 77) : BB p l e s m args below meth c d E F K0 77 49 rc_77_3 := by
  obtain ⟨hx, hb, hml, hown, hts, hr, hlocks, hnm, hKN, hb0, hF⟩ := C
  have hb : c.code = prog_1_method_16_code := hb
  have hown : s.vm.findClass "RudeCoupons" = some m.cls := hown
  have hr : meth.sig.returnType = some .int := hr
  refine bs_c (pc := 49) (s_iload hx hb (by decide +kernel)) ?_
  refine bs_c (pc := 51) (s_aload_n hx hb (k := 0) (by decide +kernel) rfl) ?_
  refine bs_c (pc := 52) (s_getf hx hb hts in_7 hown hKN.1 (ci := 7) rfl (k := 9) (by decide) (hts _ lf_7_67) (by decide +kernel)) ?_
  refine bs_c (pc := 55) (s_getf hx hb hts in_0 hown hKN.1 (ci := 0) rfl (k := 0) (by decide) (hts _ lf_7_158) (by decide +kernel)) ?_
  refine bs_c (pc := 58) (s_icmp_ge hx hb (by decide +kernel) hF) ?_
  refine bs_c (pc := 61) (s_aload_n hx hb (k := 0) (by decide +kernel) rfl) ?_
  refine bs_c (pc := 62) (s_iload hx hb (by decide +kernel)) ?_
  refine bs_c (pc := 64) (s_iload hx hb (by decide +kernel)) ?_
  refine bs_c (pc := 66) (s_call rfl rfl (rk_V hx hb hml (index := 201) (y := 78) (n := 2) hown hts wc_78 (k := 7) rfl rfl lm_7_201 wk_78 wv_78 wi_78 wp_78 (by decide +kernel) (by decide +kernel)) hKN hb0) ?_
  refine bs_c (pc := 69) (s_istore hx hb (by decide +kernel) (by decide +kernel)) ?_
  refine bs_c (pc := 71) (s_iload hx hb (by decide +kernel)) ?_
  refine bs_c (pc := 73) (s_iload_n hx hb (k := 2) (by decide +kernel) rfl) ?_
  refine bs_c (pc := 74) (s_icmp_le hx hb (by decide +kernel) hF) ?_
  refine bs_c (pc := 77) (s_iload hx hb (by decide +kernel)) ?_
  refine bs_c (pc := 79) (s_istore_n hx hb (k := 2) (by decide +kernel) rfl (by decide +kernel)) ?_
  refine bs_c (pc := 80) (s_bipush hx hb (z := 8) (by decide +kernel) (by decide +kernel)) ?_
  refine bs_c (pc := 82) (s_iload hx hb (by decide +kernel)) ?_
  refine bs_c (pc := 84) (s_imul hx hb (by decide +kernel) hF) ?_
  refine bs_c (pc := 85) (s_iload hx hb (by decide +kernel)) ?_
  refine bs_c (pc := 87) (s_iadd hx hb (by decide +kernel)) ?_
  refine bs_c (pc := 88) (s_istore_n hx hb (k := 3) (by decide +kernel) rfl (by decide +kernel)) ?_
  refine bs_c (pc := 89) (s_fall (pc' := 0) (by decide +kernel)) ?_
  exact bs_n
set_option maxRecDepth 20000 in
theorem b_77_4 (C : CX p l s m args meth c d E F 77) : BB p l e s m args below meth c d E F K0 77 89 rc_77_4 := by
  obtain ⟨hx, hb, hml, hown, hts, hr, hlocks, hnm, hKN, hb0, hF⟩ := C
  have hb : c.code = prog_1_method_16_code := hb
  have hown : s.vm.findClass "RudeCoupons" = some m.cls := hown
  have hr : meth.sig.returnType = some .int := hr
  refine bs_c (pc := 89) (s_iinc hx hb (z := 1) (by decide +kernel) (by decide +kernel) (by decide +kernel)) ?_
  refine bs_c (pc := 92) (s_goto hx hb (pc' := 0) (by decide +kernel)) ?_
  exact bs_n
set_option maxRecDepth 20000 in
theorem b_77_5 (C : CX p l s m args meth c d E F 77) : BB p l e s m args below meth c d E F K0 77 95 rc_77_5 := by
  obtain ⟨hx, hb, hml, hown, hts, hr, hlocks, hnm, hKN, hb0, hF⟩ := C
  have hb : c.code = prog_1_method_16_code := hb
  have hown : s.vm.findClass "RudeCoupons" = some m.cls := hown
  have hr : meth.sig.returnType = some .int := hr
  refine bs_c (pc := 95) (s_iinc hx hb (z := 1) (by decide +kernel) (by decide +kernel) (by decide +kernel)) ?_
  refine bs_c (pc := 98) (s_goto hx hb (pc' := 0) (by decide +kernel)) ?_
  exact bs_n
set_option maxRecDepth 20000 in
theorem b_77_6 (C : CX p l s m args meth c d E F 77) : BB p l e s m args below meth c d E F K0 77 101 rc_77_6 := by
  obtain ⟨hx, hb, hml, hown, hts, hr, hlocks, hnm, hKN, hb0, hF⟩ := C
  have hb : c.code = prog_1_method_16_code := hb
  have hown : s.vm.findClass "RudeCoupons" = some m.cls := hown
  have hr : meth.sig.returnType = some .int := hr
  refine bs_c (pc := 101) (s_iload_n hx hb (k := 3) (by decide +kernel) rfl) ?_
  refine bs_c (pc := 102) (s_bipush hx hb (z := -4) (by decide +kernel) (by decide +kernel)) ?_
  refine bs_c (pc := 104) (s_icmp_ne hx hb (by decide +kernel) hF) ?_
  refine bs_c (pc := 107) (s_bipush hx hb (z := -4) (by decide +kernel) (by decide +kernel)) ?_
  refine bs_c (pc := 109) (s_ireturn hx hb hr hlocks (pc' := 0) (by decide +kernel)) ?_
  exact bs_n
set_option maxRecDepth 20000 in
theorem b_77_7 (C : CX p l s m args meth c d E F 77) : BB p l e s m args below meth c d E F K0 77 110 rc_77_7 := by
  obtain ⟨hx, hb, hml, hown, hts, hr, hlocks, hnm, hKN, hb0, hF⟩ := C
  have hb : c.code = prog_1_method_16_code := hb
  have hown : s.vm.findClass "RudeCoupons" = some m.cls := hown
  have hr : meth.sig.returnType = some .int := hr
  refine bs_c (pc := 110) (s_iload_n hx hb (k := 1) (by decide +kernel) rfl) ?_
  refine bs_c (pc := 111) (s_if_ne hx hb (by decide +kernel) hF) ?_
  refine bs_c (pc := 114) (s_iload_n hx hb (k := 3) (by decide +kernel) rfl) ?_
  refine bs_c (pc := 115) (s_goto hx hb (pc' := 0) (by decide +kernel)) ?_
  exact bs_n
set_option maxRecDepth 20000 in
theorem b_77_8 (C : CX p l s m args meth c d E F 77) : BB p l e s m args below meth c d E F K0 77 118 rc_77_8 := by
  obtain ⟨hx, hb, hml, hown, hts, hr, hlocks, hnm, hKN, hb0, hF⟩ := C
  have hb : c.code = prog_1_method_16_code := hb
  have hown : s.vm.findClass "RudeCoupons" = some m.cls := hown
  have hr : meth.sig.returnType = some .int := hr
  refine bs_c (pc := 118) (s_iload_n hx hb (k := 2) (by decide +kernel) rfl) ?_
  refine bs_c (pc := 119) (s_fall (pc' := 0) (by decide +kernel)) ?_
  exact bs_n
set_option maxRecDepth 20000 in
theorem b_77_9 (C : CX p l s m args meth c d E F 77) : BB p l e s m args below meth c d E F K0 77 119 rc_77_9 := by
  obtain ⟨hx, hb, hml, hown, hts, hr, hlocks, hnm, hKN, hb0, hF⟩ := C
  have hb : c.code = prog_1_method_16_code := hb
  have hown : s.vm.findClass "RudeCoupons" = some m.cls := hown
  have hr : meth.sig.returnType = some .int := hr
  refine bs_c (pc := 119) (s_ireturn hx hb hr hlocks (pc' := 0) (by decide +kernel)) ?_
  exact bs_n
set_option maxRecDepth 20000 in
theorem b_78_0 (C : CX p l s m args meth c d E F 78) : BB p l e s m args below meth c d E F K0 78 0 rc_78_0 := by
  obtain ⟨hx, hb, hml, hown, hts, hr, hlocks, hnm, hKN, hb0, hF⟩ := C
  have hb : c.code = prog_1_method_32_code := hb
  have hown : s.vm.findClass "RudeCoupons" = some m.cls := hown
  have hr : meth.sig.returnType = some .int := hr
  refine bs_c (pc := 0) (s_iload_n hx hb (k := 1) (by decide +kernel) rfl) ?_
  refine bs_c (pc := 1) (s_iload_n hx hb (k := 2) (by decide +kernel) rfl) ?_
  refine bs_c (pc := 2) (s_icmp_eq hx hb (by decide +kernel) hF) ?_
  refine bs_c (pc := 5) (s_aload_n hx hb (k := 0) (by decide +kernel) rfl) ?_
  refine bs_c (pc := 6) (s_getf hx hb hts in_7 hown hKN.1 (ci := 7) rfl (k := 2) (by decide) (hts _ lf_7_26) (by decide +kernel)) ?_
  refine bs_c (pc := 9) (s_getf hx hb hts in_6 hown hKN.1 (ci := 6) rfl (k := 2) (by decide) (hts _ lf_7_111) (by decide +kernel)) ?_
  refine bs_c (pc := 12) (s_iload_n hx hb (k := 1) (by decide +kernel) rfl) ?_
  refine bs_c (pc := 13) (s_ald0 hx hb hKN.1 (by decide +kernel)) ?_
  refine bs_c (pc := 14) (s_iconst hx hb (z := 1) (by decide +kernel) (by decide +kernel)) ?_
  refine bs_c (pc := 15) (s_icmp_lt hx hb (by decide +kernel) hF) ?_
  refine bs_c (pc := 18) (s_aload_n hx hb (k := 0) (by decide +kernel) rfl) ?_
  refine bs_c (pc := 19) (s_getf hx hb hts in_7 hown hKN.1 (ci := 7) rfl (k := 2) (by decide) (hts _ lf_7_26) (by decide +kernel)) ?_
  refine bs_c (pc := 22) (s_getf hx hb hts in_6 hown hKN.1 (ci := 6) rfl (k := 2) (by decide) (hts _ lf_7_111) (by decide +kernel)) ?_
  refine bs_c (pc := 25) (s_iload_n hx hb (k := 2) (by decide +kernel) rfl) ?_
  refine bs_c (pc := 26) (s_ald0 hx hb hKN.1 (by decide +kernel)) ?_
  refine bs_c (pc := 27) (s_bipush hx hb (z := 15) (by decide +kernel) (by decide +kernel)) ?_
  refine bs_c (pc := 29) (s_icmp_lt hx hb (by decide +kernel) hF) ?_
  refine bs_c (pc := 32) (s_fall (pc' := 0) (by decide +kernel)) ?_
  exact bs_n
set_option maxRecDepth 20000 in
theorem b_78_1 (C : CX p l s m args meth c d E F 78) : BB p l e s m args below meth c d E F K0 78 32 rc_78_1 := by
  obtain ⟨hx, hb, hml, hown, hts, hr, hlocks, hnm, hKN, hb0, hF⟩ := C
  have hb : c.code = prog_1_method_32_code := hb
  have hown : s.vm.findClass "RudeCoupons" = some m.cls := hown
  have hr : meth.sig.returnType = some .int := hr
  refine bs_c (pc := 32) (s_iconst hx hb (z := 0) (by decide +kernel) (by decide +kernel)) ?_
  refine bs_c (pc := 33) (s_ireturn hx hb hr hlocks (pc' := 0) (by decide +kernel)) ?_
  exact bs_n
set_option maxRecDepth 20000 in
theorem b_78_2 (C : CX p l s m args meth c d E F 78) : BB p l e s m args below meth c d E F K0 78 34 rc_78_2 := by
  obtain ⟨hx, hb, hml, hown, hts, hr, hlocks, hnm, hKN, hb0, hF⟩ := C
  have hb : c.code = prog_1_method_32_code := hb
  have hown : s.vm.findClass "RudeCoupons" = some m.cls := hown
  have hr : meth.sig.returnType = some .int := hr
  refine bs_c (pc := 34) (s_aload_n hx hb (k := 0) (by decide +kernel) rfl) ?_
  refine bs_c (pc := 35) (s_getf hx hb hts in_7 hown hKN.1 (ci := 7) rfl (k := 7) (by decide) (hts _ lf_7_56) (by decide +kernel)) ?_
  refine bs_c (pc := 38) (s_iload_n hx hb (k := 2) (by decide +kernel) rfl) ?_
  refine bs_c (pc := 39) (s_aload_n hx hb (k := 0) (by decide +kernel) rfl) ?_
  refine bs_c (pc := 40) (s_getf hx hb hts in_7 hown hKN.1 (ci := 7) rfl (k := 2) (by decide) (hts _ lf_7_26) (by decide +kernel)) ?_
  refine bs_c (pc := 43) (s_getf hx hb hts in_6 hown hKN.1 (ci := 6) rfl (k := 2) (by decide) (hts _ lf_7_111) (by decide +kernel)) ?_
  refine bs_c (pc := 46) (s_iload_n hx hb (k := 2) (by decide +kernel) rfl) ?_
  refine bs_c (pc := 47) (s_ald0 hx hb hKN.1 (by decide +kernel)) ?_
  refine bs_c (pc := 48) (s_call rfl rfl (rk_V hx hb hml (index := 193) (y := 34) (n := 2) hown hts wc_34 (k := 2) rfl rfl lm_7_193 wk_34 wv_34 wi_34 wp_34 (by decide +kernel) (by decide +kernel)) hKN hb0) ?_
  refine bs_c (pc := 51) (s_aload_n hx hb (k := 0) (by decide +kernel) rfl) ?_
  refine bs_c (pc := 52) (s_getf hx hb hts in_7 hown hKN.1 (ci := 7) rfl (k := 7) (by decide) (hts _ lf_7_56) (by decide +kernel)) ?_
  refine bs_c (pc := 55) (s_iload_n hx hb (k := 1) (by decide +kernel) rfl) ?_
  refine bs_c (pc := 56) (s_aload_n hx hb (k := 0) (by decide +kernel) rfl) ?_
  refine bs_c (pc := 57) (s_getf hx hb hts in_7 hown hKN.1 (ci := 7) rfl (k := 2) (by decide) (hts _ lf_7_26) (by decide +kernel)) ?_
  refine bs_c (pc := 60) (s_getf hx hb hts in_6 hown hKN.1 (ci := 6) rfl (k := 2) (by decide) (hts _ lf_7_111) (by decide +kernel)) ?_
  refine bs_c (pc := 63) (s_iload_n hx hb (k := 1) (by decide +kernel) rfl) ?_
  refine bs_c (pc := 64) (s_ald0 hx hb hKN.1 (by decide +kernel)) ?_
  refine bs_c (pc := 65) (s_iconst hx hb (z := 1) (by decide +kernel) (by decide +kernel)) ?_
  refine bs_c (pc := 66) (s_isub hx hb (by decide +kernel)) ?_
  refine bs_c (pc := 67) (s_call rfl rfl (rk_V hx hb hml (index := 193) (y := 34) (n := 2) hown hts wc_34 (k := 2) rfl rfl lm_7_193 wk_34 wv_34 wi_34 wp_34 (by decide +kernel) (by decide +kernel)) hKN hb0) ?_
  refine bs_c (pc := 70) (s_isub hx hb (by decide +kernel)) ?_
  refine bs_c (pc := 71) (s_ireturn hx hb hr hlocks (pc' := 0) (by decide +kernel)) ?_
  exact bs_n
set_option maxRecDepth 20000 in
theorem b_79_0 (C : CX p l s m args meth c d E F 79) : BB p l e s m args below meth c d E F K0 79 0 rc_79_0 := by
  obtain ⟨hx, hb, hml, hown, hts, hr, hlocks, hnm, hKN, hb0, hF⟩ := C
  have hb : c.code = prog_1_method_17_code := hb
  have hown : s.vm.findClass "RudeCoupons" = some m.cls := hown
  have hr : meth.sig.returnType = some .int := hr
  refine bs_c (pc := 0) (s_iload_n hx hb (k := 1) (by decide +kernel) rfl) ?_
  refine bs_c (pc := 1) (s_iconst hx hb (z := -1) (by decide +kernel) (by decide +kernel)) ?_
  refine bs_c (pc := 2) (s_icmp_eq hx hb (by decide +kernel) hF) ?_
  refine bs_c (pc := 5) (s_aload_n hx hb (k := 0) (by decide +kernel) rfl) ?_
  refine bs_c (pc := 6) (s_getf hx hb hts in_7 hown hKN.1 (ci := 7) rfl (k := 9) (by decide) (hts _ lf_7_67) (by decide +kernel)) ?_
  refine bs_c (pc := 9) (s_iload_n hx hb (k := 1) (by decide +kernel) rfl) ?_
  refine bs_c (pc := 10) (s_call rfl rfl (rk_V hx hb hml (index := 104) (y := 23) (n := 1) hown hts wc_23 (k := 0) rfl rfl lm_7_104 wk_23 wv_23 wi_23 wp_23 (by decide +kernel) (by decide +kernel)) hKN hb0) ?_
  refine bs_c (pc := 13) (s_if_ne hx hb (by decide +kernel) hF) ?_
  refine bs_c (pc := 16) (s_iconst hx hb (z := -1) (by decide +kernel) (by decide +kernel)) ?_
  refine bs_c (pc := 17) (s_ireturn hx hb hr hlocks (pc' := 0) (by decide +kernel)) ?_
  exact bs_n
set_option maxRecDepth 20000 in
theorem b_79_1 (C : CX p l s m args meth c d E F 79) : BB p l e s m args below meth c d E F K0 79 18 rc_79_1 := by
  obtain ⟨hx, hb, hml, hown, hts, hr, hlocks, hnm, hKN, hb0, hF⟩ := C
  have hb : c.code = prog_1_method_17_code := hb
  have hown : s.vm.findClass "RudeCoupons" = some m.cls := hown
  have hr : meth.sig.returnType = some .int := hr
  refine bs_c (pc := 18) (s_aload_n hx hb (k := 0) (by decide +kernel) rfl) ?_
  refine bs_c (pc := 19) (s_getf hx hb hts in_7 hown hKN.1 (ci := 7) rfl (k := 7) (by decide) (hts _ lf_7_56) (by decide +kernel)) ?_
  refine bs_c (pc := 22) (s_aload_n hx hb (k := 0) (by decide +kernel) rfl) ?_
  refine bs_c (pc := 23) (s_getf hx hb hts in_7 hown hKN.1 (ci := 7) rfl (k := 9) (by decide) (hts _ lf_7_67) (by decide +kernel)) ?_
  refine bs_c (pc := 26) (s_aload_n hx hb (k := 0) (by decide +kernel) rfl) ?_
  refine bs_c (pc := 27) (s_getf hx hb hts in_7 hown hKN.1 (ci := 7) rfl (k := 2) (by decide) (hts _ lf_7_26) (by decide +kernel)) ?_
  refine bs_c (pc := 30) (s_call rfl rfl (rk_V hx hb hml (index := 197) (y := 35) (n := 2) hown hts wc_35 (k := 2) rfl rfl lm_7_197 wk_35 wv_35 wi_35 wp_35 (by decide +kernel) (by decide +kernel)) hKN hb0) ?_
  refine bs_c (pc := 33) (s_aload_n hx hb (k := 0) (by decide +kernel) rfl) ?_
  refine bs_c (pc := 34) (s_getf hx hb hts in_7 hown hKN.1 (ci := 7) rfl (k := 2) (by decide) (hts _ lf_7_26) (by decide +kernel)) ?_
  refine bs_c (pc := 37) (s_call rfl rfl (rk_V hx hb hml (index := 173) (y := 55) (n := 0) hown hts wc_55 (k := 6) rfl rfl lm_7_173 wk_55 wv_55 wi_55 wp_55 (by decide +kernel) (by decide +kernel)) hKN hb0) ?_
  refine bs_c (pc := 40) (s_istore_n hx hb (k := 2) (by decide +kernel) rfl (by decide +kernel)) ?_
  refine bs_c (pc := 41) (s_aload_n hx hb (k := 0) (by decide +kernel) rfl) ?_
  refine bs_c (pc := 42) (s_getf hx hb hts in_7 hown hKN.1 (ci := 7) rfl (k := 7) (by decide) (hts _ lf_7_56) (by decide +kernel)) ?_
  refine bs_c (pc := 45) (s_aload_n hx hb (k := 0) (by decide +kernel) rfl) ?_
  refine bs_c (pc := 46) (s_getf hx hb hts in_7 hown hKN.1 (ci := 7) rfl (k := 9) (by decide) (hts _ lf_7_67) (by decide +kernel)) ?_
  refine bs_c (pc := 49) (s_getf hx hb hts in_0 hown hKN.1 (ci := 0) rfl (k := 0) (by decide) (hts _ lf_7_158) (by decide +kernel)) ?_
  refine bs_c (pc := 52) (s_iload_n hx hb (k := 2) (by decide +kernel) rfl) ?_
  refine bs_c (pc := 53) (s_call rfl rfl (rk_V hx hb hml (index := 204) (y := 36) (n := 2) hown hts wc_36 (k := 2) rfl rfl lm_7_204 wk_36 wv_36 wi_36 wp_36 (by decide +kernel) (by decide +kernel)) hKN hb0) ?_
  refine bs_c (pc := 56) (s_iload_n hx hb (k := 1) (by decide +kernel) rfl) ?_
  refine bs_c (pc := 57) (s_iconst hx hb (z := -1) (by decide +kernel) (by decide +kernel)) ?_
  refine bs_c (pc := 58) (s_icmp_ne hx hb (by decide +kernel) hF) ?_
  refine bs_c (pc := 61) (s_aload_n hx hb (k := 0) (by decide +kernel) rfl) ?_
  refine bs_c (pc := 62) (s_getf hx hb hts in_7 hown hKN.1 (ci := 7) rfl (k := 7) (by decide) (hts _ lf_7_56) (by decide +kernel)) ?_
  refine bs_c (pc := 65) (s_getf hx hb hts in_2 hown hKN.1 (ci := 2) rfl (k := 2) (by decide) (hts _ lf_7_208) (by decide +kernel)) ?_
  refine bs_c (pc := 68) (s_iconst hx hb (z := 0) (by decide +kernel) (by decide +kernel)) ?_
  refine bs_c (pc := 69) (s_aald hx hb hKN.1 (by decide +kernel)) ?_
  refine bs_c (pc := 70) (s_iload_n hx hb (k := 2) (by decide +kernel) rfl) ?_
  refine bs_c (pc := 71) (s_ald0 hx hb hKN.1 (by decide +kernel)) ?_
  refine bs_c (pc := 72) (s_goto hx hb (pc' := 0) (by decide +kernel)) ?_
  exact bs_n
set_option maxRecDepth 20000 in
theorem b_79_2 (C : CX p l s m args meth c d E F 79) : BB p l e s m args below meth c d E F K0 79 75 rc_79_2 := by
  obtain ⟨hx, hb, hml, hown, hts, hr, hlocks, hnm, hKN, hb0, hF⟩ := C
  have hb : c.code = prog_1_method_17_code := hb
  have hown : s.vm.findClass "RudeCoupons" = some m.cls := hown
  have hr : meth.sig.returnType = some .int := hr
  refine bs_c (pc := 75) (s_aload_n hx hb (k := 0) (by decide +kernel) rfl) ?_
  refine bs_c (pc := 76) (s_getf hx hb hts in_7 hown hKN.1 (ci := 7) rfl (k := 7) (by decide) (hts _ lf_7_56) (by decide +kernel)) ?_
  refine bs_c (pc := 79) (s_iload_n hx hb (k := 1) (by decide +kernel) rfl) ?_
  refine bs_c (pc := 80) (s_iload_n hx hb (k := 2) (by decide +kernel) rfl) ?_
  refine bs_c (pc := 81) (s_call rfl rfl (rk_V hx hb hml (index := 211) (y := 37) (n := 2) hown hts wc_37 (k := 2) rfl rfl lm_7_211 wk_37 wv_37 wi_37 wp_37 (by decide +kernel) (by decide +kernel)) hKN hb0) ?_
  refine bs_c (pc := 84) (s_fall (pc' := 0) (by decide +kernel)) ?_
  exact bs_n
set_option maxRecDepth 20000 in
theorem b_79_3 (C : CX p l s m args meth c d E F 79) : BB p l e s m args below meth c d E F K0 79 84 rc_79_3 := by
  obtain ⟨hx, hb, hml, hown, hts, hr, hlocks, hnm, hKN, hb0, hF⟩ := C
  have hb : c.code = prog_1_method_17_code := hb
  have hown : s.vm.findClass "RudeCoupons" = some m.cls := hown
  have hr : meth.sig.returnType = some .int := hr
  refine bs_c (pc := 84) (s_ireturn hx hb hr hlocks (pc' := 0) (by decide +kernel)) ?_
  exact bs_n
set_option maxRecDepth 20000 in
theorem b_80_0 (C : CX p l s m args meth c d E F 80) : BB p l e s m args below meth c d E F K0 80 0 rc_80_0 := by
  obtain ⟨hx, hb, hml, hown, hts, hr, hlocks, hnm, hKN, hb0, hF⟩ := C
  have hb : c.code = prog_1_method_18_code := hb
  have hown : s.vm.findClass "RudeCoupons" = some m.cls := hown
  have hr : meth.sig.returnType = some .int := hr
  refine bs_c (pc := 0) (s_iload_n hx hb (k := 1) (by decide +kernel) rfl) ?_
  refine bs_c (pc := 1) (s_iconst hx hb (z := 0) (by decide +kernel) (by decide +kernel)) ?_
  refine bs_c (pc := 2) (s_sipush hx hb (z := 999) (by decide +kernel) (by decide +kernel)) ?_
  refine bs_c (pc := 5) (s_call rfl rfl (rk_S hx hb hml (index := 96) (y := 16) (n := 3) hown hts wc_16 lm_7_96 wk_16 wi_16 wp_16 (by decide +kernel) (by decide +kernel)) hKN hb0) ?_
  refine bs_c (pc := 8) (s_if_ne hx hb (by decide +kernel) hF) ?_
  refine bs_c (pc := 11) (s_iconst hx hb (z := -1) (by decide +kernel) (by decide +kernel)) ?_
  refine bs_c (pc := 12) (s_ireturn hx hb hr hlocks (pc' := 0) (by decide +kernel)) ?_
  exact bs_n
set_option maxRecDepth 20000 in
theorem b_80_1 (C : CX p l s m args meth c d E F 80) : BB p l e s m args below meth c d E F K0 80 13 rc_80_1 := by
  obtain ⟨hx, hb, hml, hown, hts, hr, hlocks, hnm, hKN, hb0, hF⟩ := C
  have hb : c.code = prog_1_method_18_code := hb
  have hown : s.vm.findClass "RudeCoupons" = some m.cls := hown
  have hr : meth.sig.returnType = some .int := hr
  refine bs_c (pc := 13) (s_aload_n hx hb (k := 0) (by decide +kernel) rfl) ?_
  refine bs_c (pc := 14) (s_getf hx hb hts in_7 hown hKN.1 (ci := 7) rfl (k := 7) (by decide) (hts _ lf_7_56) (by decide +kernel)) ?_
  refine bs_c (pc := 17) (s_aload_n hx hb (k := 0) (by decide +kernel) rfl) ?_
  refine bs_c (pc := 18) (s_getf hx hb hts in_7 hown hKN.1 (ci := 7) rfl (k := 9) (by decide) (hts _ lf_7_67) (by decide +kernel)) ?_
  refine bs_c (pc := 21) (s_aload_n hx hb (k := 0) (by decide +kernel) rfl) ?_
  refine bs_c (pc := 22) (s_getf hx hb hts in_7 hown hKN.1 (ci := 7) rfl (k := 2) (by decide) (hts _ lf_7_26) (by decide +kernel)) ?_
  refine bs_c (pc := 25) (s_call rfl rfl (rk_V hx hb hml (index := 197) (y := 35) (n := 2) hown hts wc_35 (k := 2) rfl rfl lm_7_197 wk_35 wv_35 wi_35 wp_35 (by decide +kernel) (by decide +kernel)) hKN hb0) ?_
  refine bs_c (pc := 28) (s_bipush hx hb (z := 15) (by decide +kernel) (by decide +kernel)) ?_
  refine bs_c (pc := 30) (s_istore_n hx hb (k := 2) (by decide +kernel) rfl (by decide +kernel)) ?_
  refine bs_c (pc := 31) (s_fall (pc' := 0) (by decide +kernel)) ?_
  exact bs_n
set_option maxRecDepth 20000 in
theorem b_80_2 (C : CX p l s m args meth c d E F 80) : BB p l e s m args below meth c d E F K0 80 31 rc_80_2 := by
  obtain ⟨hx, hb, hml, hown, hts, hr, hlocks, hnm, hKN, hb0, hF⟩ := C
  have hb : c.code = prog_1_method_18_code := hb
  have hown : s.vm.findClass "RudeCoupons" = some m.cls := hown
  have hr : meth.sig.returnType = some .int := hr
  refine bs_c (pc := 31) (s_iload_n hx hb (k := 2) (by decide +kernel) rfl) ?_
  refine bs_c (pc := 32) (s_if_le hx hb (by decide +kernel) hF) ?_
  refine bs_c (pc := 35) (s_aload_n hx hb (k := 0) (by decide +kernel) rfl) ?_
  refine bs_c (pc := 36) (s_iload_n hx hb (k := 2) (by decide +kernel) rfl) ?_
  refine bs_c (pc := 37) (s_call rfl rfl (rk_V hx hb hml (index := 214) (y := 81) (n := 1) hown hts wc_81 (k := 7) rfl rfl lm_7_214 wk_81 wv_81 wi_81 wp_81 (by decide +kernel) (by decide +kernel)) hKN hb0) ?_
  refine bs_c (pc := 40) (s_iload_n hx hb (k := 1) (by decide +kernel) rfl) ?_
  refine bs_c (pc := 41) (s_icmp_gt hx hb (by decide +kernel) hF) ?_
  refine bs_c (pc := 44) (s_iload_n hx hb (k := 2) (by decide +kernel) rfl) ?_
  refine bs_c (pc := 45) (s_ireturn hx hb hr hlocks (pc' := 0) (by decide +kernel)) ?_
  exact bs_n
set_option maxRecDepth 20000 in
theorem b_80_3 (C : CX p l s m args meth c d E F 80) : BB p l e s m args below meth c d E F K0 80 46 rc_80_3 := by
  obtain ⟨hx, hb, hml, hown, hts, hr, hlocks, hnm, hKN, hb0, hF⟩ := C
  have hb : c.code = prog_1_method_18_code := hb
  have hown : s.vm.findClass "RudeCoupons" = some m.cls := hown
  have hr : meth.sig.returnType = some .int := hr
  refine bs_c (pc := 46) (s_iinc hx hb (z := -1) (by decide +kernel) (by decide +kernel) (by decide +kernel)) ?_
  refine bs_c (pc := 49) (s_goto hx hb (pc' := 0) (by decide +kernel)) ?_
  exact bs_n
set_option maxRecDepth 20000 in
theorem b_80_4 (C : CX p l s m args meth c d E F 80) : BB p l e s m args below meth c d E F K0 80 52 rc_80_4 := by
  obtain ⟨hx, hb, hml, hown, hts, hr, hlocks, hnm, hKN, hb0, hF⟩ := C
  have hb : c.code = prog_1_method_18_code := hb
  have hown : s.vm.findClass "RudeCoupons" = some m.cls := hown
  have hr : meth.sig.returnType = some .int := hr
  refine bs_c (pc := 52) (s_iconst hx hb (z := 0) (by decide +kernel) (by decide +kernel)) ?_
  refine bs_c (pc := 53) (s_ireturn hx hb hr hlocks (pc' := 0) (by decide +kernel)) ?_
  exact bs_n
set_option maxRecDepth 20000 in
theorem b_81_0 (C : CX p l s m args meth c d E F 81) : BB p l e s m args below meth c d E F K0 81 0 rc_81_0 := by
  obtain ⟨hx, hb, hml, hown, hts, hr, hlocks, hnm, hKN, hb0, hF⟩ := C
  have hb : c.code = prog_1_method_33_code := hb
  have hown : s.vm.findClass "RudeCoupons" = some m.cls := hown
  have hr : meth.sig.returnType = some .int := hr
  refine bs_c (pc := 0) (s_iconst hx hb (z := 0) (by decide +kernel) (by decide +kernel)) ?_
  refine bs_c (pc := 1) (s_istore_n hx hb (k := 2) (by decide +kernel) rfl (by decide +kernel)) ?_
  refine bs_c (pc := 2) (s_iconst hx hb (z := 0) (by decide +kernel) (by decide +kernel)) ?_
  refine bs_c (pc := 3) (s_istore_n hx hb (k := 3) (by decide +kernel) rfl (by decide +kernel)) ?_
  refine bs_c (pc := 4) (s_fall (pc' := 0) (by decide +kernel)) ?_
  exact bs_n
set_option maxRecDepth 20000 in
theorem b_81_1 (C : CX p l s m args meth c d E F 81) : BB p l e s m args below meth c d E F K0 81 4 rc_81_1 := by
  obtain ⟨hx, hb, hml, hown, hts, hr, hlocks, hnm, hKN, hb0, hF⟩ := C
  have hb : c.code = prog_1_method_33_code := hb
  have hown : s.vm.findClass "RudeCoupons" = some m.cls := hown
  have hr : meth.sig.returnType = some .int := hr
  refine bs_c (pc := 4) (s_iload_n hx hb (k := 3) (by decide +kernel) rfl) ?_
  refine bs_c (pc := 5) (s_aload_n hx hb (k := 0) (by decide +kernel) rfl) ?_
  refine bs_c (pc := 6) (s_getf hx hb hts in_7 hown hKN.1 (ci := 7) rfl (k := 9) (by decide) (hts _ lf_7_67) (by decide +kernel)) ?_
  refine bs_c (pc := 9) (s_getf hx hb hts in_0 hown hKN.1 (ci := 0) rfl (k := 8) (by decide) (hts _ lf_7_239) (by decide +kernel)) ?_
  refine bs_c (pc := 12) (s_icmp_ge hx hb (by decide +kernel) hF) ?_
  refine bs_c (pc := 15) (s_aload_n hx hb (k := 0) (by decide +kernel) rfl) ?_
  refine bs_c (pc := 16) (s_getf hx hb hts in_7 hown hKN.1 (ci := 7) rfl (k := 9) (by decide) (hts _ lf_7_67) (by decide +kernel)) ?_
  refine bs_c (pc := 19) (s_getf hx hb hts in_0 hown hKN.1 (ci := 0) rfl (k := 10) (by decide) (hts _ lf_7_138) (by decide +kernel)) ?_
  refine bs_c (pc := 22) (s_iload_n hx hb (k := 3) (by decide +kernel) rfl) ?_
  refine bs_c (pc := 23) (s_ald0 hx hb hKN.1 (by decide +kernel)) ?_
  refine bs_c (pc := 24) (s_istore hx hb (by decide +kernel) (by decide +kernel)) ?_
  refine bs_c (pc := 26) (s_aload_n hx hb (k := 0) (by decide +kernel) rfl) ?_
  refine bs_c (pc := 27) (s_getf hx hb hts in_7 hown hKN.1 (ci := 7) rfl (k := 7) (by decide) (hts _ lf_7_56) (by decide +kernel)) ?_
  refine bs_c (pc := 30) (s_getf hx hb hts in_2 hown hKN.1 (ci := 2) rfl (k := 1) (by decide) (hts _ lf_7_190) (by decide +kernel)) ?_
  refine bs_c (pc := 33) (s_iload hx hb (by decide +kernel)) ?_
  refine bs_c (pc := 35) (s_aald hx hb hKN.1 (by decide +kernel)) ?_
  refine bs_c (pc := 36) (s_iload_n hx hb (k := 1) (by decide +kernel) rfl) ?_
  refine bs_c (pc := 37) (s_ald0 hx hb hKN.1 (by decide +kernel)) ?_
  refine bs_c (pc := 38) (s_iload_n hx hb (k := 3) (by decide +kernel) rfl) ?_
  refine bs_c (pc := 39) (s_ishr hx hb (by decide +kernel)) ?_
  refine bs_c (pc := 40) (s_iconst hx hb (z := 1) (by decide +kernel) (by decide +kernel)) ?_
  refine bs_c (pc := 41) (s_iand hx hb (by decide +kernel)) ?_
  refine bs_c (pc := 42) (s_iconst hx hb (z := 1) (by decide +kernel) (by decide +kernel)) ?_
  refine bs_c (pc := 43) (s_icmp_ne hx hb (by decide +kernel) hF) ?_
  refine bs_c (pc := 46) (s_iload_n hx hb (k := 2) (by decide +kernel) rfl) ?_
  refine bs_c (pc := 47) (s_aload_n hx hb (k := 0) (by decide +kernel) rfl) ?_
  refine bs_c (pc := 48) (s_getf hx hb hts in_7 hown hKN.1 (ci := 7) rfl (k := 9) (by decide) (hts _ lf_7_67) (by decide +kernel)) ?_
  refine bs_c (pc := 51) (s_iload hx hb (by decide +kernel)) ?_
  refine bs_c (pc := 53) (s_aload_n hx hb (k := 0) (by decide +kernel) rfl) ?_
  refine bs_c (pc := 54) (s_getf hx hb hts in_7 hown hKN.1 (ci := 7) rfl (k := 9) (by decide) (hts _ lf_7_67) (by decide +kernel)) ?_
  refine bs_c (pc := 57) (s_getf hx hb hts in_0 hown hKN.1 (ci := 0) rfl (k := 11) (by decide) (hts _ lf_7_141) (by decide +kernel)) ?_
  refine bs_c (pc := 60) (s_iload_n hx hb (k := 3) (by decide +kernel) rfl) ?_
  refine bs_c (pc := 61) (s_ald0 hx hb hKN.1 (by decide +kernel)) ?_
  refine bs_c (pc := 62) (s_call rfl rfl (rk_V hx hb hml (index := 276) (y := 27) (n := 2) hown hts wc_27 (k := 0) rfl rfl lm_7_276 wk_27 wv_27 wi_27 wp_27 (by decide +kernel) (by decide +kernel)) hKN hb0) ?_
  refine bs_c (pc := 65) (s_iadd hx hb (by decide +kernel)) ?_
  refine bs_c (pc := 66) (s_istore_n hx hb (k := 2) (by decide +kernel) rfl (by decide +kernel)) ?_
  refine bs_c (pc := 67) (s_fall (pc' := 0) (by decide +kernel)) ?_
  exact bs_n
set_option maxRecDepth 20000 in
theorem b_81_2 (C : CX p l s m args meth c d E F 81) : BB p l e s m args below meth c d E F K0 81 67 rc_81_2 := by
  obtain ⟨hx, hb, hml, hown, hts, hr, hlocks, hnm, hKN, hb0, hF⟩ := C
  have hb : c.code = prog_1_method_33_code := hb
  have hown : s.vm.findClass "RudeCoupons" = some m.cls := hown
  have hr : meth.sig.returnType = some .int := hr
  refine bs_c (pc := 67) (s_iinc hx hb (z := 1) (by decide +kernel) (by decide +kernel) (by decide +kernel)) ?_
  refine bs_c (pc := 70) (s_goto hx hb (pc' := 0) (by decide +kernel)) ?_
  exact bs_n
set_option maxRecDepth 20000 in
theorem b_81_3 (C : CX p l s m args meth c d E F 81) : BB p l e s m args below meth c d E F K0 81 73 rc_81_3 := by
  obtain ⟨hx, hb, hml, hown, hts, hr, hlocks, hnm, hKN, hb0, hF⟩ := C
  have hb : c.code = prog_1_method_33_code := hb
  have hown : s.vm.findClass "RudeCoupons" = some m.cls := hown
  have hr : meth.sig.returnType = some .int := hr
  refine bs_c (pc := 73) (s_iload_n hx hb (k := 2) (by decide +kernel) rfl) ?_
  refine bs_c (pc := 74) (s_ireturn hx hb hr hlocks (pc' := 0) (by decide +kernel)) ?_
  exact bs_n
set_option maxRecDepth 20000 in
theorem b_82_0 (C : CX p l s m args meth c d E F 82) : BB p l e s m args below meth c d E F K0 82 0 rc_82_0 := by
  obtain ⟨hx, hb, hml, hown, hts, hr, hlocks, hnm, hKN, hb0, hF⟩ := C
  have hb : c.code = prog_1_method_19_code := hb
  have hown : s.vm.findClass "RudeCoupons" = some m.cls := hown
  have hr : meth.sig.returnType = some .int := hr
  refine bs_c (pc := 0) (s_aload_n hx hb (k := 0) (by decide +kernel) rfl) ?_
  refine bs_c (pc := 1) (s_getf hx hb hts in_7 hown hKN.1 (ci := 7) rfl (k := 9) (by decide) (hts _ lf_7_67) (by decide +kernel)) ?_
  refine bs_c (pc := 4) (s_iload_n hx hb (k := 1) (by decide +kernel) rfl) ?_
  refine bs_c (pc := 5) (s_call rfl rfl (rk_V hx hb hml (index := 104) (y := 23) (n := 1) hown hts wc_23 (k := 0) rfl rfl lm_7_104 wk_23 wv_23 wi_23 wp_23 (by decide +kernel) (by decide +kernel)) hKN hb0) ?_
  refine bs_c (pc := 8) (s_if_eq hx hb (by decide +kernel) hF) ?_
  refine bs_c (pc := 11) (s_aload_n hx hb (k := 0) (by decide +kernel) rfl) ?_
  refine bs_c (pc := 12) (s_getf hx hb hts in_7 hown hKN.1 (ci := 7) rfl (k := 9) (by decide) (hts _ lf_7_67) (by decide +kernel)) ?_
  refine bs_c (pc := 15) (s_iload_n hx hb (k := 2) (by decide +kernel) rfl) ?_
  refine bs_c (pc := 16) (s_call rfl rfl (rk_V hx hb hml (index := 120) (y := 24) (n := 1) hown hts wc_24 (k := 0) rfl rfl lm_7_120 wk_24 wv_24 wi_24 wp_24 (by decide +kernel) (by decide +kernel)) hKN hb0) ?_
  refine bs_c (pc := 19) (s_if_eq hx hb (by decide +kernel) hF) ?_
  refine bs_c (pc := 22) (s_iload_n hx hb (k := 3) (by decide +kernel) rfl) ?_
  refine bs_c (pc := 23) (s_iconst hx hb (z := 0) (by decide +kernel) (by decide +kernel)) ?_
  refine bs_c (pc := 24) (s_bipush hx hb (z := 99) (by decide +kernel) (by decide +kernel)) ?_
  refine bs_c (pc := 26) (s_call rfl rfl (rk_S hx hb hml (index := 96) (y := 16) (n := 3) hown hts wc_16 lm_7_96 wk_16 wi_16 wp_16 (by decide +kernel) (by decide +kernel)) hKN hb0) ?_
  refine bs_c (pc := 29) (s_if_ne hx hb (by decide +kernel) hF) ?_
  refine bs_c (pc := 32) (s_fall (pc' := 0) (by decide +kernel)) ?_
  exact bs_n
set_option maxRecDepth 20000 in
theorem b_82_1 (C : CX p l s m args meth c d E F 82) : BB p l e s m args below meth c d E F K0 82 32 rc_82_1 := by
  obtain ⟨hx, hb, hml, hown, hts, hr, hlocks, hnm, hKN, hb0, hF⟩ := C
  have hb : c.code = prog_1_method_19_code := hb
  have hown : s.vm.findClass "RudeCoupons" = some m.cls := hown
  have hr : meth.sig.returnType = some .int := hr
  refine bs_c (pc := 32) (s_iconst hx hb (z := -1) (by decide +kernel) (by decide +kernel)) ?_
  refine bs_c (pc := 33) (s_ireturn hx hb hr hlocks (pc' := 0) (by decide +kernel)) ?_
  exact bs_n
set_option maxRecDepth 20000 in
theorem b_82_2 (C : CX p l s m args meth c d E F 82) : BB p l e s m args below meth c d E F K0 82 34 rc_82_2 := by
  obtain ⟨hx, hb, hml, hown, hts, hr, hlocks, hnm, hKN, hb0, hF⟩ := C
  have hb : c.code = prog_1_method_19_code := hb
  have hown : s.vm.findClass "RudeCoupons" = some m.cls := hown
  have hr : meth.sig.returnType = some .int := hr
  refine bs_c (pc := 34) (s_aload_n hx hb (k := 0) (by decide +kernel) rfl) ?_
  refine bs_c (pc := 35) (s_getf hx hb hts in_7 hown hKN.1 (ci := 7) rfl (k := 6) (by decide) (hts _ lf_7_49) (by decide +kernel)) ?_
  refine bs_c (pc := 38) (s_iload_n hx hb (k := 1) (by decide +kernel) rfl) ?_
  refine bs_c (pc := 39) (s_iload_n hx hb (k := 2) (by decide +kernel) rfl) ?_
  refine bs_c (pc := 40) (s_iload_n hx hb (k := 3) (by decide +kernel) rfl) ?_
  refine bs_c (pc := 41) (s_call rfl rfl (rk_V hx hb hml (index := 217) (y := 50) (n := 3) hown hts wc_50 (k := 5) rfl rfl lm_7_217 wk_50 wv_50 wi_50 wp_50 (by decide +kernel) (by decide +kernel)) hKN hb0) ?_
  refine bs_c (pc := 44) (s_if_eq hx hb (by decide +kernel) hF) ?_
  refine bs_c (pc := 47) (s_aload_n hx hb (k := 0) (by decide +kernel) rfl) ?_
  refine bs_c (pc := 48) (s_getf hx hb hts in_7 hown hKN.1 (ci := 7) rfl (k := 6) (by decide) (hts _ lf_7_49) (by decide +kernel)) ?_
  refine bs_c (pc := 51) (s_getf hx hb hts in_5 hown hKN.1 (ci := 5) rfl (k := 3) (by decide) (hts _ lf_7_219) (by decide +kernel)) ?_
  refine bs_c (pc := 54) (s_goto hx hb (pc' := 0) (by decide +kernel)) ?_
  exact bs_n
set_option maxRecDepth 20000 in
theorem b_82_3 (C : CX p l s m args meth c d E F 82) : BB p l e s m args below meth c d E F K0 82 57 rc_82_3 := by
  obtain ⟨hx, hb, hml, hown, hts, hr, hlocks, hnm, hKN, hb0, hF⟩ := C
  have hb : c.code = prog_1_method_19_code := hb
  have hown : s.vm.findClass "RudeCoupons" = some m.cls := hown
  have hr : meth.sig.returnType = some .int := hr
  refine bs_c (pc := 57) (s_bipush hx hb (z := -3) (by decide +kernel) (by decide +kernel)) ?_
  refine bs_c (pc := 59) (s_fall (pc' := 0) (by decide +kernel)) ?_
  exact bs_n
set_option maxRecDepth 20000 in
theorem b_82_4 (C : CX p l s m args meth c d E F 82) : BB p l e s m args below meth c d E F K0 82 59 rc_82_4 := by
  obtain ⟨hx, hb, hml, hown, hts, hr, hlocks, hnm, hKN, hb0, hF⟩ := C
  have hb : c.code = prog_1_method_19_code := hb
  have hown : s.vm.findClass "RudeCoupons" = some m.cls := hown
  have hr : meth.sig.returnType = some .int := hr
  refine bs_c (pc := 59) (s_ireturn hx hb hr hlocks (pc' := 0) (by decide +kernel)) ?_
  exact bs_n
set_option maxRecDepth 20000 in
theorem b_83_0 (C : CX p l s m args meth c d E F 83) : BB p l e s m args below meth c d E F K0 83 0 rc_83_0 := by
  obtain ⟨hx, hb, hml, hown, hts, hr, hlocks, hnm, hKN, hb0, hF⟩ := C
  have hb : c.code = prog_1_method_20_code := hb
  have hown : s.vm.findClass "RudeCoupons" = some m.cls := hown
  have hr : meth.sig.returnType = some .int := hr
  refine bs_c (pc := 0) (s_aload_n hx hb (k := 0) (by decide +kernel) rfl) ?_
  refine bs_c (pc := 1) (s_getf hx hb hts in_7 hown hKN.1 (ci := 7) rfl (k := 6) (by decide) (hts _ lf_7_49) (by decide +kernel)) ?_
  refine bs_c (pc := 4) (s_getf hx hb hts in_5 hown hKN.1 (ci := 5) rfl (k := 3) (by decide) (hts _ lf_7_219) (by decide +kernel)) ?_
  refine bs_c (pc := 7) (s_istore_n hx hb (k := 1) (by decide +kernel) rfl (by decide +kernel)) ?_
  refine bs_c (pc := 8) (s_aload_n hx hb (k := 0) (by decide +kernel) rfl) ?_
  refine bs_c (pc := 9) (s_getf hx hb hts in_7 hown hKN.1 (ci := 7) rfl (k := 6) (by decide) (hts _ lf_7_49) (by decide +kernel)) ?_
  refine bs_c (pc := 12) (s_iconst hx hb (z := 0) (by decide +kernel) (by decide +kernel)) ?_
  refine bs_c (pc := 13) (s_putI hx hb hts in_5 hown hKN.1 (ci := 5) rfl (k := 3) (by decide) (hts _ lf_7_219) tyX5 tyX5_ok nmX5 (tyX5_ok 3 (by decide)) rfl (by decide +kernel)) ?_
  refine bs_c (pc := 16) (s_iload_n hx hb (k := 1) (by decide +kernel) rfl) ?_
  refine bs_c (pc := 17) (s_ireturn hx hb hr hlocks (pc' := 0) (by decide +kernel)) ?_
  exact bs_n
set_option maxRecDepth 20000 in
theorem b_84_0 (C : CX p l s m args meth c d E F 84) : BB p l e s m args below meth c d E F K0 84 0 rc_84_0 := by
  obtain ⟨hx, hb, hml, hown, hts, hr, hlocks, hnm, hKN, hb0, hF⟩ := C
  have hb : c.code = prog_1_method_21_code := hb
  have hown : s.vm.findClass "RudeCoupons" = some m.cls := hown
  have hr : meth.sig.returnType = some .int := hr
  refine bs_c (pc := 0) (s_iconst hx hb (z := 0) (by decide +kernel) (by decide +kernel)) ?_
  refine bs_c (pc := 1) (s_istore_n hx hb (k := 1) (by decide +kernel) rfl (by decide +kernel)) ?_
  refine bs_c (pc := 2) (s_iconst hx hb (z := 0) (by decide +kernel) (by decide +kernel)) ?_
  refine bs_c (pc := 3) (s_istore_n hx hb (k := 2) (by decide +kernel) rfl (by decide +kernel)) ?_
  refine bs_c (pc := 4) (s_fall (pc' := 0) (by decide +kernel)) ?_
  exact bs_n
set_option maxRecDepth 20000 in
theorem b_84_1 (C : CX p l s m args meth c d E F 84) : BB p l e s m args below meth c d E F K0 84 4 rc_84_1 := by
  obtain ⟨hx, hb, hml, hown, hts, hr, hlocks, hnm, hKN, hb0, hF⟩ := C
  have hb : c.code = prog_1_method_21_code := hb
  have hown : s.vm.findClass "RudeCoupons" = some m.cls := hown
  have hr : meth.sig.returnType = some .int := hr
  refine bs_c (pc := 4) (s_iload_n hx hb (k := 2) (by decide +kernel) rfl) ?_
  refine bs_c (pc := 5) (s_aload_n hx hb (k := 0) (by decide +kernel) rfl) ?_
  refine bs_c (pc := 6) (s_getf hx hb hts in_7 hown hKN.1 (ci := 7) rfl (k := 9) (by decide) (hts _ lf_7_67) (by decide +kernel)) ?_
  refine bs_c (pc := 9) (s_getf hx hb hts in_0 hown hKN.1 (ci := 0) rfl (k := 0) (by decide) (hts _ lf_7_158) (by decide +kernel)) ?_
  refine bs_c (pc := 12) (s_icmp_ge hx hb (by decide +kernel) hF) ?_
  refine bs_c (pc := 15) (s_aload_n hx hb (k := 0) (by decide +kernel) rfl) ?_
  refine bs_c (pc := 16) (s_getf hx hb hts in_7 hown hKN.1 (ci := 7) rfl (k := 6) (by decide) (hts _ lf_7_49) (by decide +kernel)) ?_
  refine bs_c (pc := 19) (s_aload_n hx hb (k := 0) (by decide +kernel) rfl) ?_
  refine bs_c (pc := 20) (s_getf hx hb hts in_7 hown hKN.1 (ci := 7) rfl (k := 9) (by decide) (hts _ lf_7_67) (by decide +kernel)) ?_
  refine bs_c (pc := 23) (s_iload_n hx hb (k := 2) (by decide +kernel) rfl) ?_
  refine bs_c (pc := 24) (s_call rfl rfl (rk_V hx hb hml (index := 220) (y := 51) (n := 2) hown hts wc_51 (k := 5) rfl rfl lm_7_220 wk_51 wv_51 wi_51 wp_51 (by decide +kernel) (by decide +kernel)) hKN hb0) ?_
  refine bs_c (pc := 27) (s_if_ne hx hb (by decide +kernel) hF) ?_
  refine bs_c (pc := 30) (s_iload_n hx hb (k := 1) (by decide +kernel) rfl) ?_
  refine bs_c (pc := 31) (s_iconst hx hb (z := 1) (by decide +kernel) (by decide +kernel)) ?_
  refine bs_c (pc := 32) (s_iload_n hx hb (k := 2) (by decide +kernel) rfl) ?_
  refine bs_c (pc := 33) (s_ishl hx hb (by decide +kernel)) ?_
  refine bs_c (pc := 34) (s_ior hx hb (by decide +kernel)) ?_
  refine bs_c (pc := 35) (s_istore_n hx hb (k := 1) (by decide +kernel) rfl (by decide +kernel)) ?_
  refine bs_c (pc := 36) (s_fall (pc' := 0) (by decide +kernel)) ?_
  exact bs_n
set_option maxRecDepth 20000 in
theorem b_84_2 (C : CX p l s m args meth c d E F 84) : BB p l e s m args below meth c d E F K0 84 36 rc_84_2 := by
  obtain ⟨hx, hb, hml, hown, hts, hr, hlocks, hnm, hKN, hb0, hF⟩ := C
  have hb : c.code = prog_1_method_21_code := hb
  have hown : s.vm.findClass "RudeCoupons" = some m.cls := hown
  have hr : meth.sig.returnType = some .int := hr
  refine bs_c (pc := 36) (s_iinc hx hb (z := 1) (by decide +kernel) (by decide +kernel) (by decide +kernel)) ?_
  refine bs_c (pc := 39) (s_goto hx hb (pc' := 0) (by decide +kernel)) ?_
  exact bs_n
set_option maxRecDepth 20000 in
theorem b_84_3 (C : CX p l s m args meth c d E F 84) : BB p l e s m args below meth c d E F K0 84 42 rc_84_3 := by
  obtain ⟨hx, hb, hml, hown, hts, hr, hlocks, hnm, hKN, hb0, hF⟩ := C
  have hb : c.code = prog_1_method_21_code := hb
  have hown : s.vm.findClass "RudeCoupons" = some m.cls := hown
  have hr : meth.sig.returnType = some .int := hr
  refine bs_c (pc := 42) (s_iload_n hx hb (k := 1) (by decide +kernel) rfl) ?_
  refine bs_c (pc := 43) (s_ireturn hx hb hr hlocks (pc' := 0) (by decide +kernel)) ?_
  exact bs_n
set_option maxRecDepth 20000 in
theorem b_85_0 (C : CX p l s m args meth c d E F 85) : BB p l e s m args below meth c d E F K0 85 0 rc_85_0 := by
  obtain ⟨hx, hb, hml, hown, hts, hr, hlocks, hnm, hKN, hb0, hF⟩ := C
  have hb : c.code = prog_1_method_22_code := hb
  have hown : s.vm.findClass "RudeCoupons" = some m.cls := hown
  have hr : meth.sig.returnType = some .int := hr
  refine bs_c (pc := 0) (s_iload_n hx hb (k := 1) (by decide +kernel) rfl) ?_
  refine bs_c (pc := 1) (s_iconst hx hb (z := 0) (by decide +kernel) (by decide +kernel)) ?_
  refine bs_c (pc := 2) (s_bipush hx hb (z := 99) (by decide +kernel) (by decide +kernel)) ?_
  refine bs_c (pc := 4) (s_call rfl rfl (rk_S hx hb hml (index := 96) (y := 16) (n := 3) hown hts wc_16 lm_7_96 wk_16 wi_16 wp_16 (by decide +kernel) (by decide +kernel)) hKN hb0) ?_
  refine bs_c (pc := 7) (s_if_eq hx hb (by decide +kernel) hF) ?_
  refine bs_c (pc := 10) (s_iload_n hx hb (k := 2) (by decide +kernel) rfl) ?_
  refine bs_c (pc := 11) (s_iconst hx hb (z := 0) (by decide +kernel) (by decide +kernel)) ?_
  refine bs_c (pc := 12) (s_iconst hx hb (z := 1) (by decide +kernel) (by decide +kernel)) ?_
  refine bs_c (pc := 13) (s_call rfl rfl (rk_S hx hb hml (index := 96) (y := 16) (n := 3) hown hts wc_16 lm_7_96 wk_16 wi_16 wp_16 (by decide +kernel) (by decide +kernel)) hKN hb0) ?_
  refine bs_c (pc := 16) (s_if_ne hx hb (by decide +kernel) hF) ?_
  refine bs_c (pc := 19) (s_fall (pc' := 0) (by decide +kernel)) ?_
  exact bs_n
set_option maxRecDepth 20000 in
theorem b_85_1 (C : CX p l s m args meth c d E F 85) : BB p l e s m args below meth c d E F K0 85 19 rc_85_1 := by
  obtain ⟨hx, hb, hml, hown, hts, hr, hlocks, hnm, hKN, hb0, hF⟩ := C
  have hb : c.code = prog_1_method_22_code := hb
  have hown : s.vm.findClass "RudeCoupons" = some m.cls := hown
  have hr : meth.sig.returnType = some .int := hr
  refine bs_c (pc := 19) (s_iconst hx hb (z := -1) (by decide +kernel) (by decide +kernel)) ?_
  refine bs_c (pc := 20) (s_ireturn hx hb hr hlocks (pc' := 0) (by decide +kernel)) ?_
  exact bs_n
set_option maxRecDepth 20000 in
theorem b_85_2 (C : CX p l s m args meth c d E F 85) : BB p l e s m args below meth c d E F K0 85 21 rc_85_2 := by
  obtain ⟨hx, hb, hml, hown, hts, hr, hlocks, hnm, hKN, hb0, hF⟩ := C
  have hb : c.code = prog_1_method_22_code := hb
  have hown : s.vm.findClass "RudeCoupons" = some m.cls := hown
  have hr : meth.sig.returnType = some .int := hr
  refine bs_c (pc := 21) (s_aload_n hx hb (k := 0) (by decide +kernel) rfl) ?_
  refine bs_c (pc := 22) (s_getf hx hb hts in_7 hown hKN.1 (ci := 7) rfl (k := 2) (by decide) (hts _ lf_7_26) (by decide +kernel)) ?_
  refine bs_c (pc := 25) (s_call rfl rfl (rk_V hx hb hml (index := 173) (y := 55) (n := 0) hown hts wc_55 (k := 6) rfl rfl lm_7_173 wk_55 wv_55 wi_55 wp_55 (by decide +kernel) (by decide +kernel)) hKN hb0) ?_
  refine bs_c (pc := 28) (s_istore_n hx hb (k := 3) (by decide +kernel) rfl (by decide +kernel)) ?_
  refine bs_c (pc := 29) (s_iload_n hx hb (k := 3) (by decide +kernel) rfl) ?_
  refine bs_c (pc := 30) (s_aload_n hx hb (k := 0) (by decide +kernel) rfl) ?_
  refine bs_c (pc := 31) (s_getf hx hb hts in_7 hown hKN.1 (ci := 7) rfl (k := 2) (by decide) (hts _ lf_7_26) (by decide +kernel)) ?_
  refine bs_c (pc := 34) (s_call rfl rfl (rk_V hx hb hml (index := 224) (y := 56) (n := 0) hown hts wc_56 (k := 6) rfl rfl lm_7_224 wk_56 wv_56 wi_56 wp_56 (by decide +kernel) (by decide +kernel)) hKN hb0) ?_
  refine bs_c (pc := 37) (s_isub hx hb (by decide +kernel)) ?_
  refine bs_c (pc := 38) (s_istore hx hb (by decide +kernel) (by decide +kernel)) ?_
  refine bs_c (pc := 40) (s_iload_n hx hb (k := 1) (by decide +kernel) rfl) ?_
  refine bs_c (pc := 41) (s_iload_n hx hb (k := 3) (by decide +kernel) rfl) ?_
  refine bs_c (pc := 42) (s_iconst hx hb (z := 2) (by decide +kernel) (by decide +kernel)) ?_
  refine bs_c (pc := 43) (s_iload hx hb (by decide +kernel)) ?_
  refine bs_c (pc := 45) (s_imul hx hb (by decide +kernel) hF) ?_
  refine bs_c (pc := 46) (s_iconst hx hb (z := 1) (by decide +kernel) (by decide +kernel)) ?_
  refine bs_c (pc := 47) (s_iadd hx hb (by decide +kernel)) ?_
  refine bs_c (pc := 48) (s_min hx hb hml hown (hts _ lM_7_227) (hts _ wM_min) (hts _ wM_i) (hts _ wN_min) (by decide +kernel) (by decide +kernel) (by decide +kernel)) ?_
  refine bs_c (pc := 51) (s_min hx hb hml hown (hts _ lM_7_227) (hts _ wM_min) (hts _ wM_i) (hts _ wN_min) (by decide +kernel) (by decide +kernel) (by decide +kernel)) ?_
  refine bs_c (pc := 54) (s_istore hx hb (by decide +kernel) (by decide +kernel)) ?_
  refine bs_c (pc := 56) (s_iload_n hx hb (k := 2) (by decide +kernel) rfl) ?_
  refine bs_c (pc := 57) (s_if_ne hx hb (by decide +kernel) hF) ?_
  refine bs_c (pc := 60) (s_iload hx hb (by decide +kernel)) ?_
  refine bs_c (pc := 62) (s_goto hx hb (pc' := 0) (by decide +kernel)) ?_
  exact bs_n
set_option maxRecDepth 20000 in
theorem b_85_3 (C : CX p l s m args meth c d E F 85) : BB p l e s m args below meth c d E F K0 85 65 rc_85_3 := by
  obtain ⟨hx, hb, hml, hown, hts, hr, hlocks, hnm, hKN, hb0, hF⟩ := C
  have hb : c.code = prog_1_method_22_code := hb
  have hown : s.vm.findClass "RudeCoupons" = some m.cls := hown
  have hr : meth.sig.returnType = some .int := hr
  refine bs_c (pc := 65) (s_iload_n hx hb (k := 3) (by decide +kernel) rfl) ?_
  refine bs_c (pc := 66) (s_iload hx hb (by decide +kernel)) ?_
  refine bs_c (pc := 68) (s_isub hx hb (by decide +kernel)) ?_
  refine bs_c (pc := 69) (s_fall (pc' := 0) (by decide +kernel)) ?_
  exact bs_n
set_option maxRecDepth 20000 in
theorem b_85_4 (C : CX p l s m args meth c d E F 85) : BB p l e s m args below meth c d E F K0 85 69 rc_85_4 := by
  obtain ⟨hx, hb, hml, hown, hts, hr, hlocks, hnm, hKN, hb0, hF⟩ := C
  have hb : c.code = prog_1_method_22_code := hb
  have hown : s.vm.findClass "RudeCoupons" = some m.cls := hown
  have hr : meth.sig.returnType = some .int := hr
  refine bs_c (pc := 69) (s_ireturn hx hb hr hlocks (pc' := 0) (by decide +kernel)) ?_
  exact bs_n
set_option maxRecDepth 20000 in
theorem b_86_0 (C : CX p l s m args meth c d E F 86) : BB p l e s m args below meth c d E F K0 86 0 rc_86_0 := by
  obtain ⟨hx, hb, hml, hown, hts, hr, hlocks, hnm, hKN, hb0, hF⟩ := C
  have hb : c.code = prog_1_method_23_code := hb
  have hown : s.vm.findClass "RudeCoupons" = some m.cls := hown
  have hr : meth.sig.returnType = some .int := hr
  refine bs_c (pc := 0) (s_aload_n hx hb (k := 0) (by decide +kernel) rfl) ?_
  refine bs_c (pc := 1) (s_getf hx hb hts in_7 hown hKN.1 (ci := 7) rfl (k := 9) (by decide) (hts _ lf_7_67) (by decide +kernel)) ?_
  refine bs_c (pc := 4) (s_iload_n hx hb (k := 1) (by decide +kernel) rfl) ?_
  refine bs_c (pc := 5) (s_call rfl rfl (rk_V hx hb hml (index := 104) (y := 23) (n := 1) hown hts wc_23 (k := 0) rfl rfl lm_7_104 wk_23 wv_23 wi_23 wp_23 (by decide +kernel) (by decide +kernel)) hKN hb0) ?_
  refine bs_c (pc := 8) (s_if_eq hx hb (by decide +kernel) hF) ?_
  refine bs_c (pc := 11) (s_iload_n hx hb (k := 2) (by decide +kernel) rfl) ?_
  refine bs_c (pc := 12) (s_iconst hx hb (z := 0) (by decide +kernel) (by decide +kernel)) ?_
  refine bs_c (pc := 13) (s_bipush hx hb (z := 99) (by decide +kernel) (by decide +kernel)) ?_
  refine bs_c (pc := 15) (s_call rfl rfl (rk_S hx hb hml (index := 96) (y := 16) (n := 3) hown hts wc_16 lm_7_96 wk_16 wi_16 wp_16 (by decide +kernel) (by decide +kernel)) hKN hb0) ?_
  refine bs_c (pc := 18) (s_if_eq hx hb (by decide +kernel) hF) ?_
  refine bs_c (pc := 21) (s_iload_n hx hb (k := 3) (by decide +kernel) rfl) ?_
  refine bs_c (pc := 22) (s_iconst hx hb (z := 0) (by decide +kernel) (by decide +kernel)) ?_
  refine bs_c (pc := 23) (s_bipush hx hb (z := 10) (by decide +kernel) (by decide +kernel)) ?_
  refine bs_c (pc := 25) (s_call rfl rfl (rk_S hx hb hml (index := 96) (y := 16) (n := 3) hown hts wc_16 lm_7_96 wk_16 wi_16 wp_16 (by decide +kernel) (by decide +kernel)) hKN hb0) ?_
  refine bs_c (pc := 28) (s_if_ne hx hb (by decide +kernel) hF) ?_
  refine bs_c (pc := 31) (s_fall (pc' := 0) (by decide +kernel)) ?_
  exact bs_n
set_option maxRecDepth 20000 in
theorem b_86_1 (C : CX p l s m args meth c d E F 86) : BB p l e s m args below meth c d E F K0 86 31 rc_86_1 := by
  obtain ⟨hx, hb, hml, hown, hts, hr, hlocks, hnm, hKN, hb0, hF⟩ := C
  have hb : c.code = prog_1_method_23_code := hb
  have hown : s.vm.findClass "RudeCoupons" = some m.cls := hown
  have hr : meth.sig.returnType = some .int := hr
  refine bs_c (pc := 31) (s_iconst hx hb (z := -1) (by decide +kernel) (by decide +kernel)) ?_
  refine bs_c (pc := 32) (s_ireturn hx hb hr hlocks (pc' := 0) (by decide +kernel)) ?_
  exact bs_n
set_option maxRecDepth 20000 in
theorem b_86_2 (C : CX p l s m args meth c d E F 86) : BB p l e s m args below meth c d E F K0 86 33 rc_86_2 := by
  obtain ⟨hx, hb, hml, hown, hts, hr, hlocks, hnm, hKN, hb0, hF⟩ := C
  have hb : c.code = prog_1_method_23_code := hb
  have hown : s.vm.findClass "RudeCoupons" = some m.cls := hown
  have hr : meth.sig.returnType = some .int := hr
  refine bs_c (pc := 33) (s_aload_n hx hb (k := 0) (by decide +kernel) rfl) ?_
  refine bs_c (pc := 34) (s_getf hx hb hts in_7 hown hKN.1 (ci := 7) rfl (k := 2) (by decide) (hts _ lf_7_26) (by decide +kernel)) ?_
  refine bs_c (pc := 37) (s_getf hx hb hts in_6 hown hKN.1 (ci := 6) rfl (k := 2) (by decide) (hts _ lf_7_111) (by decide +kernel)) ?_
  refine bs_c (pc := 40) (s_iload_n hx hb (k := 1) (by decide +kernel) rfl) ?_
  refine bs_c (pc := 41) (s_ald0 hx hb hKN.1 (by decide +kernel)) ?_
  refine bs_c (pc := 42) (s_istore hx hb (by decide +kernel) (by decide +kernel)) ?_
  refine bs_c (pc := 44) (s_iload hx hb (by decide +kernel)) ?_
  refine bs_c (pc := 46) (s_iconst hx hb (z := 1) (by decide +kernel) (by decide +kernel)) ?_
  refine bs_c (pc := 47) (s_icmp_ge hx hb (by decide +kernel) hF) ?_
  refine bs_c (pc := 50) (s_bipush hx hb (z := -2) (by decide +kernel) (by decide +kernel)) ?_
  refine bs_c (pc := 52) (s_ireturn hx hb hr hlocks (pc' := 0) (by decide +kernel)) ?_
  exact bs_n
set_option maxRecDepth 20000 in
theorem b_86_3 (C : CX p l s m args meth c d E F 86) : BB p l e s m args below meth c d E F K0 86 53 rc_86_3 := by
  obtain ⟨hx, hb, hml, hown, hts, hr, hlocks, hnm, hKN, hb0, hF⟩ := C
  have hb : c.code = prog_1_method_23_code := hb
  have hown : s.vm.findClass "RudeCoupons" = some m.cls := hown
  have hr : meth.sig.returnType = some .int := hr
  refine bs_c (pc := 53) (s_aload_n hx hb (k := 0) (by decide +kernel) rfl) ?_
  refine bs_c (pc := 54) (s_getf hx hb hts in_7 hown hKN.1 (ci := 7) rfl (k := 7) (by decide) (hts _ lf_7_56) (by decide +kernel)) ?_
  refine bs_c (pc := 57) (s_aload_n hx hb (k := 0) (by decide +kernel) rfl) ?_
  refine bs_c (pc := 58) (s_getf hx hb hts in_7 hown hKN.1 (ci := 7) rfl (k := 9) (by decide) (hts _ lf_7_67) (by decide +kernel)) ?_
  refine bs_c (pc := 61) (s_aload_n hx hb (k := 0) (by decide +kernel) rfl) ?_
  refine bs_c (pc := 62) (s_getf hx hb hts in_7 hown hKN.1 (ci := 7) rfl (k := 2) (by decide) (hts _ lf_7_26) (by decide +kernel)) ?_
  refine bs_c (pc := 65) (s_iload_n hx hb (k := 1) (by decide +kernel) rfl) ?_
  refine bs_c (pc := 66) (s_call rfl rfl (rk_V hx hb hml (index := 183) (y := 33) (n := 3) hown hts wc_33 (k := 2) rfl rfl lm_7_183 wk_33 wv_33 wi_33 wp_33 (by decide +kernel) (by decide +kernel)) hKN hb0) ?_
  refine bs_c (pc := 69) (s_iload_n hx hb (k := 2) (by decide +kernel) rfl) ?_
  refine bs_c (pc := 70) (s_iload_n hx hb (k := 3) (by decide +kernel) rfl) ?_
  refine bs_c (pc := 71) (s_imul hx hb (by decide +kernel) hF) ?_
  refine bs_c (pc := 72) (s_bipush hx hb (z := 10) (by decide +kernel) (by decide +kernel)) ?_
  refine bs_c (pc := 74) (s_aload_n hx hb (k := 0) (by decide +kernel) rfl) ?_
  refine bs_c (pc := 75) (s_getf hx hb hts in_7 hown hKN.1 (ci := 7) rfl (k := 7) (by decide) (hts _ lf_7_56) (by decide +kernel)) ?_
  refine bs_c (pc := 78) (s_iload_n hx hb (k := 1) (by decide +kernel) rfl) ?_
  refine bs_c (pc := 79) (s_iload hx hb (by decide +kernel)) ?_
  refine bs_c (pc := 81) (s_iconst hx hb (z := 1) (by decide +kernel) (by decide +kernel)) ?_
  refine bs_c (pc := 82) (s_isub hx hb (by decide +kernel)) ?_
  refine bs_c (pc := 83) (s_call rfl rfl (rk_V hx hb hml (index := 193) (y := 34) (n := 2) hown hts wc_34 (k := 2) rfl rfl lm_7_193 wk_34 wv_34 wi_34 wp_34 (by decide +kernel) (by decide +kernel)) hKN hb0) ?_
  refine bs_c (pc := 86) (s_imul hx hb (by decide +kernel) hF) ?_
  refine bs_c (pc := 87) (s_icmp_le hx hb (by decide +kernel) hF) ?_
  refine bs_c (pc := 90) (s_iconst hx hb (z := 1) (by decide +kernel) (by decide +kernel)) ?_
  refine bs_c (pc := 91) (s_goto hx hb (pc' := 0) (by decide +kernel)) ?_
  exact bs_n
set_option maxRecDepth 20000 in
theorem b_86_4 (C : CX p l s m args meth c d E F 86) : BB p l e s m args below meth c d E F K0 86 94 rc_86_4 := by
  obtain ⟨hx, hb, hml, hown, hts, hr, hlocks, hnm, hKN, hb0, hF⟩ := C
  have hb : c.code = prog_1_method_23_code := hb
  have hown : s.vm.findClass "RudeCoupons" = some m.cls := hown
  have hr : meth.sig.returnType = some .int := hr
  refine bs_c (pc := 94) (s_iconst hx hb (z := 0) (by decide +kernel) (by decide +kernel)) ?_
  refine bs_c (pc := 95) (s_fall (pc' := 0) (by decide +kernel)) ?_
  exact bs_n
set_option maxRecDepth 20000 in
theorem b_86_5 (C : CX p l s m args meth c d E F 86) : BB p l e s m args below meth c d E F K0 86 95 rc_86_5 := by
  obtain ⟨hx, hb, hml, hown, hts, hr, hlocks, hnm, hKN, hb0, hF⟩ := C
  have hb : c.code = prog_1_method_23_code := hb
  have hown : s.vm.findClass "RudeCoupons" = some m.cls := hown
  have hr : meth.sig.returnType = some .int := hr
  refine bs_c (pc := 95) (s_ireturn hx hb hr hlocks (pc' := 0) (by decide +kernel)) ?_
  exact bs_n
set_option maxRecDepth 20000 in
theorem b_87_0 (C : CX p l s m args meth c d E F 87) : BB p l e s m args below meth c d E F K0 87 0 rc_87_0 := by
  obtain ⟨hx, hb, hml, hown, hts, hr, hlocks, hnm, hKN, hb0, hF⟩ := C
  have hb : c.code = prog_1_method_24_code := hb
  have hown : s.vm.findClass "RudeCoupons" = some m.cls := hown
  have hr : meth.sig.returnType = some .int := hr
  refine bs_c (pc := 0) (s_aload_n hx hb (k := 0) (by decide +kernel) rfl) ?_
  refine bs_c (pc := 1) (s_getf hx hb hts in_7 hown hKN.1 (ci := 7) rfl (k := 9) (by decide) (hts _ lf_7_67) (by decide +kernel)) ?_
  refine bs_c (pc := 4) (s_iload_n hx hb (k := 1) (by decide +kernel) rfl) ?_
  refine bs_c (pc := 5) (s_call rfl rfl (rk_V hx hb hml (index := 104) (y := 23) (n := 1) hown hts wc_23 (k := 0) rfl rfl lm_7_104 wk_23 wv_23 wi_23 wp_23 (by decide +kernel) (by decide +kernel)) hKN hb0) ?_
  refine bs_c (pc := 8) (s_if_eq hx hb (by decide +kernel) hF) ?_
  refine bs_c (pc := 11) (s_aload_n hx hb (k := 0) (by decide +kernel) rfl) ?_
  refine bs_c (pc := 12) (s_getf hx hb hts in_7 hown hKN.1 (ci := 7) rfl (k := 2) (by decide) (hts _ lf_7_26) (by decide +kernel)) ?_
  refine bs_c (pc := 15) (s_getf hx hb hts in_6 hown hKN.1 (ci := 6) rfl (k := 5) (by decide) (hts _ lf_7_170) (by decide +kernel)) ?_
  refine bs_c (pc := 18) (s_iload_n hx hb (k := 1) (by decide +kernel) rfl) ?_
  refine bs_c (pc := 19) (s_ald0 hx hb hKN.1 (by decide +kernel)) ?_
  refine bs_c (pc := 20) (s_sipush hx hb (z := 10000) (by decide +kernel) (by decide +kernel)) ?_
  refine bs_c (pc := 23) (s_iadd hx hb (by decide +kernel)) ?_
  refine bs_c (pc := 24) (s_goto hx hb (pc' := 0) (by decide +kernel)) ?_
  exact bs_n
set_option maxRecDepth 20000 in
theorem b_87_1 (C : CX p l s m args meth c d E F 87) : BB p l e s m args below meth c d E F K0 87 27 rc_87_1 := by
  obtain ⟨hx, hb, hml, hown, hts, hr, hlocks, hnm, hKN, hb0, hF⟩ := C
  have hb : c.code = prog_1_method_24_code := hb
  have hown : s.vm.findClass "RudeCoupons" = some m.cls := hown
  have hr : meth.sig.returnType = some .int := hr
  refine bs_c (pc := 27) (s_iconst hx hb (z := -1) (by decide +kernel) (by decide +kernel)) ?_
  refine bs_c (pc := 28) (s_fall (pc' := 0) (by decide +kernel)) ?_
  exact bs_n
set_option maxRecDepth 20000 in
theorem b_87_2 (C : CX p l s m args meth c d E F 87) : BB p l e s m args below meth c d E F K0 87 28 rc_87_2 := by
  obtain ⟨hx, hb, hml, hown, hts, hr, hlocks, hnm, hKN, hb0, hF⟩ := C
  have hb : c.code = prog_1_method_24_code := hb
  have hown : s.vm.findClass "RudeCoupons" = some m.cls := hown
  have hr : meth.sig.returnType = some .int := hr
  refine bs_c (pc := 28) (s_ireturn hx hb hr hlocks (pc' := 0) (by decide +kernel)) ?_
  exact bs_n
end MTH
