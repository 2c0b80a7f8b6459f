/-! METHODS, block by block, by program: every instruction as its handler says -/
section MTH
variable {p : Program} {l : Launch} {e : Env} {s : State} {m : MethodId} {args : Array Value} {below : List Frame} {meth : Method} {c : Code} {d : mD} {E : mE} {F : mF} {K0 : mK}
set_option maxRecDepth 20000 in
theorem b_123_0 (C : CX p l s m args meth c d E F 123) : BB p l e s m args below meth c d E F K0 123 0 rc_123_0 := by
  obtain ⟨hx, hb, hml, hown, hts, hr, hlocks, hnm, hKN, hb0, hF⟩ := C
  have hb : c.code = prog_10_method_48_code := hb
  have hown : s.vm.findClass "RudeCouponsModel" = some m.cls := hown
  have hr : meth.sig.returnType = some .int := hr
  refine bs_c (pc := 0) (s_iconst hx hb (z := 0) (by decide +kernel) (by decide +kernel)) ?_
  refine bs_c (pc := 1) (s_istore_n hx hb (k := 2) (by decide +kernel) rfl (by decide +kernel)) ?_
  refine bs_c (pc := 2) (s_iconst hx hb (z := 0) (by decide +kernel) (by decide +kernel)) ?_
  refine bs_c (pc := 3) (s_istore_n hx hb (k := 3) (by decide +kernel) rfl (by decide +kernel)) ?_
  refine bs_c (pc := 4) (s_fall (pc' := 0) (by decide +kernel)) ?_
  exact bs_n
set_option maxRecDepth 20000 in
theorem b_123_1 (C : CX p l s m args meth c d E F 123) : BB p l e s m args below meth c d E F K0 123 4 rc_123_1 := by
  obtain ⟨hx, hb, hml, hown, hts, hr, hlocks, hnm, hKN, hb0, hF⟩ := C
  have hb : c.code = prog_10_method_48_code := hb
  have hown : s.vm.findClass "RudeCouponsModel" = some m.cls := hown
  have hr : meth.sig.returnType = some .int := hr
  refine bs_c (pc := 4) (s_iload_n hx hb (k := 3) (by decide +kernel) rfl) ?_
  refine bs_c (pc := 5) (s_aload_n hx hb (k := 0) (by decide +kernel) rfl) ?_
  refine bs_c (pc := 6) (s_getf hx hb hts in_8 hown hKN.1 (ci := 8) rfl (k := 0) (by decide) (hts _ lf_8_84) (by decide +kernel)) ?_
  refine bs_c (pc := 9) (s_icmp_ge hx hb (by decide +kernel) hF) ?_
  refine bs_c (pc := 12) (s_aload_n hx hb (k := 0) (by decide +kernel) rfl) ?_
  refine bs_c (pc := 13) (s_iload_n hx hb (k := 3) (by decide +kernel) rfl) ?_
  refine bs_c (pc := 14) (s_iload_n hx hb (k := 1) (by decide +kernel) rfl) ?_
  refine bs_c (pc := 15) (s_call rfl rfl (rk_V hx hb hml (index := 189) (y := 6) (n := 2) hown hts wc_6 (k := 8) rfl rfl lm_8_189 wk_6 wv_6 wi_6 wp_6 (by decide +kernel) (by decide +kernel)) hKN hb0) ?_
  refine bs_c (pc := 18) (s_istore hx hb (by decide +kernel) (by decide +kernel)) ?_
  refine bs_c (pc := 20) (s_iconst hx hb (z := 0) (by decide +kernel) (by decide +kernel)) ?_
  refine bs_c (pc := 21) (s_istore hx hb (by decide +kernel) (by decide +kernel)) ?_
  refine bs_c (pc := 23) (s_fall (pc' := 0) (by decide +kernel)) ?_
  exact bs_n
set_option maxRecDepth 20000 in
theorem b_123_2 (C : CX p l s m args meth c d E F 123) : BB p l e s m args below meth c d E F K0 123 23 rc_123_2 := by
  obtain ⟨hx, hb, hml, hown, hts, hr, hlocks, hnm, hKN, hb0, hF⟩ := C
  have hb : c.code = prog_10_method_48_code := hb
  have hown : s.vm.findClass "RudeCouponsModel" = some m.cls := hown
  have hr : meth.sig.returnType = some .int := hr
  refine bs_c (pc := 23) (s_iload hx hb (by decide +kernel)) ?_
  refine bs_c (pc := 25) (s_aload_n hx hb (k := 0) (by decide +kernel) rfl) ?_
  refine bs_c (pc := 26) (s_getf hx hb hts in_8 hown hKN.1 (ci := 8) rfl (k := 4) (by decide) (hts _ lf_8_91) (by decide +kernel)) ?_
  refine bs_c (pc := 29) (s_icmp_ge hx hb (by decide +kernel) hF) ?_
  refine bs_c (pc := 32) (s_iload hx hb (by decide +kernel)) ?_
  refine bs_c (pc := 34) (s_if_lt hx hb (by decide +kernel) hF) ?_
  refine bs_c (pc := 37) (s_iconst hx hb (z := 0) (by decide +kernel) (by decide +kernel)) ?_
  refine bs_c (pc := 38) (s_istore hx hb (by decide +kernel) (by decide +kernel)) ?_
  refine bs_c (pc := 40) (s_fall (pc' := 0) (by decide +kernel)) ?_
  exact bs_n
set_option maxRecDepth 20000 in
theorem b_123_3 (C : CX p l s m args meth c d E F 123) : BB p l e s m args below meth c d E F K0 123 40 rc_123_3 := by
  obtain ⟨hx, hb, hml, hown, hts, hr, hlocks, hnm, hKN, hb0, hF⟩ := C
  have hb : c.code = prog_10_method_48_code := hb
  have hown : s.vm.findClass "RudeCouponsModel" = some m.cls := hown
  have hr : meth.sig.returnType = some .int := hr
  refine bs_c (pc := 40) (s_iload hx hb (by decide +kernel)) ?_
  refine bs_c (pc := 42) (s_aload_n hx hb (k := 0) (by decide +kernel) rfl) ?_
  refine bs_c (pc := 43) (s_getf hx hb hts in_8 hown hKN.1 (ci := 8) rfl (k := 0) (by decide) (hts _ lf_8_84) (by decide +kernel)) ?_
  refine bs_c (pc := 46) (s_icmp_ge hx hb (by decide +kernel) hF) ?_
  refine bs_c (pc := 49) (s_iload_n hx hb (k := 2) (by decide +kernel) rfl) ?_
  refine bs_c (pc := 50) (s_aload_n hx hb (k := 0) (by decide +kernel) rfl) ?_
  refine bs_c (pc := 51) (s_getf hx hb hts in_8 hown hKN.1 (ci := 8) rfl (k := 24) (by decide) (hts _ lf_8_186) (by decide +kernel)) ?_
  refine bs_c (pc := 54) (s_iload hx hb (by decide +kernel)) ?_
  refine bs_c (pc := 56) (s_call rfl rfl (rk_S hx hb hml (index := 154) (y := 0) (n := 2) hown hts wc_0 lm_8_154 wk_0 wi_0 wp_0 (by decide +kernel) (by decide +kernel)) hKN hb0) ?_
  refine bs_c (pc := 59) (s_if_eq hx hb (by decide +kernel) hF) ?_
  refine bs_c (pc := 62) (s_iload hx hb (by decide +kernel)) ?_
  refine bs_c (pc := 64) (s_iload_n hx hb (k := 3) (by decide +kernel) rfl) ?_
  refine bs_c (pc := 65) (s_icmp_eq hx hb (by decide +kernel) hF) ?_
  refine bs_c (pc := 68) (s_aload_n hx hb (k := 0) (by decide +kernel) rfl) ?_
  refine bs_c (pc := 69) (s_iload hx hb (by decide +kernel)) ?_
  refine bs_c (pc := 71) (s_aload_n hx hb (k := 0) (by decide +kernel) rfl) ?_
  refine bs_c (pc := 72) (s_getf hx hb hts in_8 hown hKN.1 (ci := 8) rfl (k := 5) (by decide) (hts _ lf_8_16) (by decide +kernel)) ?_
  refine bs_c (pc := 75) (s_iconst hx hb (z := 3) (by decide +kernel) (by decide +kernel)) ?_
  refine bs_c (pc := 76) (s_iload hx hb (by decide +kernel)) ?_
  refine bs_c (pc := 78) (s_imul hx hb (by decide +kernel) hF) ?_
  refine bs_c (pc := 79) (s_iconst hx hb (z := 2) (by decide +kernel) (by decide +kernel)) ?_
  refine bs_c (pc := 80) (s_iadd hx hb (by decide +kernel)) ?_
  refine bs_c (pc := 81) (s_ald0 hx hb hKN.1 (by decide +kernel)) ?_
  refine bs_c (pc := 82) (s_call rfl rfl (rk_V hx hb hml (index := 177) (y := 8) (n := 2) hown hts wc_8 (k := 8) rfl rfl lm_8_177 wk_8 wv_8 wi_8 wp_8 (by decide +kernel) (by decide +kernel)) hKN hb0) ?_
  refine bs_c (pc := 85) (s_goto hx hb (pc' := 0) (by decide +kernel)) ?_
  exact bs_n
set_option maxRecDepth 20000 in
theorem b_123_4 (C : CX p l s m args meth c d E F 123) : BB p l e s m args below meth c d E F K0 123 88 rc_123_4 := by
  obtain ⟨hx, hb, hml, hown, hts, hr, hlocks, hnm, hKN, hb0, hF⟩ := C
  have hb : c.code = prog_10_method_48_code := hb
  have hown : s.vm.findClass "RudeCouponsModel" = some m.cls := hown
  have hr : meth.sig.returnType = some .int := hr
  refine bs_c (pc := 88) (s_iconst hx hb (z := 0) (by decide +kernel) (by decide +kernel)) ?_
  refine bs_c (pc := 89) (s_fall (pc' := 0) (by decide +kernel)) ?_
  exact bs_n
set_option maxRecDepth 20000 in
theorem b_123_5 (C : CX p l s m args meth c d E F 123) : BB p l e s m args below meth c d E F K0 123 89 rc_123_5 := by
  obtain ⟨hx, hb, hml, hown, hts, hr, hlocks, hnm, hKN, hb0, hF⟩ := C
  have hb : c.code = prog_10_method_48_code := hb
  have hown : s.vm.findClass "RudeCouponsModel" = some m.cls := hown
  have hr : meth.sig.returnType = some .int := hr
  refine bs_c (pc := 89) (s_iadd hx hb (by decide +kernel)) ?_
  refine bs_c (pc := 90) (s_istore_n hx hb (k := 2) (by decide +kernel) rfl (by decide +kernel)) ?_
  refine bs_c (pc := 91) (s_iinc hx hb (z := 1) (by decide +kernel) (by decide +kernel) (by decide +kernel)) ?_
  refine bs_c (pc := 94) (s_goto hx hb (pc' := 0) (by decide +kernel)) ?_
  exact bs_n
set_option maxRecDepth 20000 in
theorem b_123_6 (C : CX p l s m args meth c d E F 123) : BB p l e s m args below meth c d E F K0 123 97 rc_123_6 := by
  obtain ⟨hx, hb, hml, hown, hts, hr, hlocks, hnm, hKN, hb0, hF⟩ := C
  have hb : c.code = prog_10_method_48_code := hb
  have hown : s.vm.findClass "RudeCouponsModel" = some m.cls := hown
  have hr : meth.sig.returnType = some .int := hr
  refine bs_c (pc := 97) (s_iinc hx hb (z := 1) (by decide +kernel) (by decide +kernel) (by decide +kernel)) ?_
  refine bs_c (pc := 100) (s_goto hx hb (pc' := 0) (by decide +kernel)) ?_
  exact bs_n
set_option maxRecDepth 20000 in
theorem b_123_7 (C : CX p l s m args meth c d E F 123) : BB p l e s m args below meth c d E F K0 123 103 rc_123_7 := by
  obtain ⟨hx, hb, hml, hown, hts, hr, hlocks, hnm, hKN, hb0, hF⟩ := C
  have hb : c.code = prog_10_method_48_code := hb
  have hown : s.vm.findClass "RudeCouponsModel" = some m.cls := hown
  have hr : meth.sig.returnType = some .int := hr
  refine bs_c (pc := 103) (s_iinc hx hb (z := 1) (by decide +kernel) (by decide +kernel) (by decide +kernel)) ?_
  refine bs_c (pc := 106) (s_goto hx hb (pc' := 0) (by decide +kernel)) ?_
  exact bs_n
set_option maxRecDepth 20000 in
theorem b_123_8 (C : CX p l s m args meth c d E F 123) : BB p l e s m args below meth c d E F K0 123 109 rc_123_8 := by
  obtain ⟨hx, hb, hml, hown, hts, hr, hlocks, hnm, hKN, hb0, hF⟩ := C
  have hb : c.code = prog_10_method_48_code := hb
  have hown : s.vm.findClass "RudeCouponsModel" = some m.cls := hown
  have hr : meth.sig.returnType = some .int := hr
  refine bs_c (pc := 109) (s_iload_n hx hb (k := 2) (by decide +kernel) rfl) ?_
  refine bs_c (pc := 110) (s_ireturn hx hb hr hlocks (pc' := 0) (by decide +kernel)) ?_
  exact bs_n
set_option maxRecDepth 20000 in
theorem b_124_0 (C : CX p l s m args meth c d E F 124) : BB p l e s m args below meth c d E F K0 124 0 rc_124_0 := by
  obtain ⟨hx, hb, hml, hown, hts, hr, hlocks, hnm, hKN, hb0, hF⟩ := C
  have hb : c.code = prog_10_method_50_code := hb
  have hown : s.vm.findClass "RudeCouponsModel" = some m.cls := hown
  have hr : meth.sig.returnType = some .int := hr
  refine bs_c (pc := 0) (s_aload_n hx hb (k := 0) (by decide +kernel) rfl) ?_
  refine bs_c (pc := 1) (s_iload_n hx hb (k := 1) (by decide +kernel) rfl) ?_
  refine bs_c (pc := 2) (s_call rfl rfl (rk_V hx hb hml (index := 162) (y := 9) (n := 1) hown hts wc_9 (k := 8) rfl rfl lm_8_162 wk_9 wv_9 wi_9 wp_9 (by decide +kernel) (by decide +kernel)) hKN hb0) ?_
  refine bs_c (pc := 5) (s_if_eq hx hb (by decide +kernel) hF) ?_
  refine bs_c (pc := 8) (s_iload_n hx hb (k := 2) (by decide +kernel) rfl) ?_
  refine bs_c (pc := 9) (s_iconst hx hb (z := 0) (by decide +kernel) (by decide +kernel)) ?_
  refine bs_c (pc := 10) (s_aload_n hx hb (k := 0) (by decide +kernel) rfl) ?_
  refine bs_c (pc := 11) (s_getf hx hb hts in_8 hown hKN.1 (ci := 8) rfl (k := 2) (by decide) (hts _ lf_8_131) (by decide +kernel)) ?_
  refine bs_c (pc := 14) (s_iconst hx hb (z := 1) (by decide +kernel) (by decide +kernel)) ?_
  refine bs_c (pc := 15) (s_isub hx hb (by decide +kernel)) ?_
  refine bs_c (pc := 16) (s_call rfl rfl (rk_S hx hb hml (index := 87) (y := 7) (n := 3) hown hts wc_7 lm_8_87 wk_7 wi_7 wp_7 (by decide +kernel) (by decide +kernel)) hKN hb0) ?_
  refine bs_c (pc := 19) (s_if_eq hx hb (by decide +kernel) hF) ?_
  refine bs_c (pc := 22) (s_iload_n hx hb (k := 3) (by decide +kernel) rfl) ?_
  refine bs_c (pc := 23) (s_iconst hx hb (z := 0) (by decide +kernel) (by decide +kernel)) ?_
  refine bs_c (pc := 24) (s_bipush hx hb (z := 99) (by decide +kernel) (by decide +kernel)) ?_
  refine bs_c (pc := 26) (s_call rfl rfl (rk_S hx hb hml (index := 87) (y := 7) (n := 3) hown hts wc_7 lm_8_87 wk_7 wi_7 wp_7 (by decide +kernel) (by decide +kernel)) hKN hb0) ?_
  refine bs_c (pc := 29) (s_if_ne hx hb (by decide +kernel) hF) ?_
  refine bs_c (pc := 32) (s_fall (pc' := 0) (by decide +kernel)) ?_
  exact bs_n
set_option maxRecDepth 20000 in
theorem b_124_1 (C : CX p l s m args meth c d E F 124) : BB p l e s m args below meth c d E F K0 124 32 rc_124_1 := by
  obtain ⟨hx, hb, hml, hown, hts, hr, hlocks, hnm, hKN, hb0, hF⟩ := C
  have hb : c.code = prog_10_method_50_code := hb
  have hown : s.vm.findClass "RudeCouponsModel" = some m.cls := hown
  have hr : meth.sig.returnType = some .int := hr
  refine bs_c (pc := 32) (s_iconst hx hb (z := -1) (by decide +kernel) (by decide +kernel)) ?_
  refine bs_c (pc := 33) (s_ireturn hx hb hr hlocks (pc' := 0) (by decide +kernel)) ?_
  exact bs_n
set_option maxRecDepth 20000 in
theorem b_124_2 (C : CX p l s m args meth c d E F 124) : BB p l e s m args below meth c d E F K0 124 34 rc_124_2 := by
  obtain ⟨hx, hb, hml, hown, hts, hr, hlocks, hnm, hKN, hb0, hF⟩ := C
  have hb : c.code = prog_10_method_50_code := hb
  have hown : s.vm.findClass "RudeCouponsModel" = some m.cls := hown
  have hr : meth.sig.returnType = some .int := hr
  refine bs_c (pc := 34) (s_aload_n hx hb (k := 0) (by decide +kernel) rfl) ?_
  refine bs_c (pc := 35) (s_getf hx hb hts in_8 hown hKN.1 (ci := 8) rfl (k := 12) (by decide) (hts _ lf_8_144) (by decide +kernel)) ?_
  refine bs_c (pc := 38) (s_bipush hx hb (z := 8) (by decide +kernel) (by decide +kernel)) ?_
  refine bs_c (pc := 40) (s_icmp_ne hx hb (by decide +kernel) hF) ?_
  refine bs_c (pc := 43) (s_bipush hx hb (z := -3) (by decide +kernel) (by decide +kernel)) ?_
  refine bs_c (pc := 45) (s_ireturn hx hb hr hlocks (pc' := 0) (by decide +kernel)) ?_
  exact bs_n
set_option maxRecDepth 20000 in
theorem b_124_3 (C : CX p l s m args meth c d E F 124) : BB p l e s m args below meth c d E F K0 124 46 rc_124_3 := by
  obtain ⟨hx, hb, hml, hown, hts, hr, hlocks, hnm, hKN, hb0, hF⟩ := C
  have hb : c.code = prog_10_method_50_code := hb
  have hown : s.vm.findClass "RudeCouponsModel" = some m.cls := hown
  have hr : meth.sig.returnType = some .int := hr
  refine bs_c (pc := 46) (s_aload_n hx hb (k := 0) (by decide +kernel) rfl) ?_
  refine bs_c (pc := 47) (s_getf hx hb hts in_8 hown hKN.1 (ci := 8) rfl (k := 13) (by decide) (hts _ lf_8_31) (by decide +kernel)) ?_
  refine bs_c (pc := 50) (s_iconst hx hb (z := 3) (by decide +kernel) (by decide +kernel)) ?_
  refine bs_c (pc := 51) (s_aload_n hx hb (k := 0) (by decide +kernel) rfl) ?_
  refine bs_c (pc := 52) (s_getf hx hb hts in_8 hown hKN.1 (ci := 8) rfl (k := 12) (by decide) (hts _ lf_8_144) (by decide +kernel)) ?_
  refine bs_c (pc := 55) (s_imul hx hb (by decide +kernel) hF) ?_
  refine bs_c (pc := 56) (s_iload_n hx hb (k := 1) (by decide +kernel) rfl) ?_
  refine bs_c (pc := 57) (s_ast0 hx hb hKN.1 (by decide +kernel)) ?_
  refine bs_c (pc := 58) (s_aload_n hx hb (k := 0) (by decide +kernel) rfl) ?_
  refine bs_c (pc := 59) (s_getf hx hb hts in_8 hown hKN.1 (ci := 8) rfl (k := 13) (by decide) (hts _ lf_8_31) (by decide +kernel)) ?_
  refine bs_c (pc := 62) (s_iconst hx hb (z := 3) (by decide +kernel) (by decide +kernel)) ?_
  refine bs_c (pc := 63) (s_aload_n hx hb (k := 0) (by decide +kernel) rfl) ?_
  refine bs_c (pc := 64) (s_getf hx hb hts in_8 hown hKN.1 (ci := 8) rfl (k := 12) (by decide) (hts _ lf_8_144) (by decide +kernel)) ?_
  refine bs_c (pc := 67) (s_imul hx hb (by decide +kernel) hF) ?_
  refine bs_c (pc := 68) (s_iconst hx hb (z := 1) (by decide +kernel) (by decide +kernel)) ?_
  refine bs_c (pc := 69) (s_iadd hx hb (by decide +kernel)) ?_
  refine bs_c (pc := 70) (s_iload_n hx hb (k := 2) (by decide +kernel) rfl) ?_
  refine bs_c (pc := 71) (s_ast0 hx hb hKN.1 (by decide +kernel)) ?_
  refine bs_c (pc := 72) (s_aload_n hx hb (k := 0) (by decide +kernel) rfl) ?_
  refine bs_c (pc := 73) (s_getf hx hb hts in_8 hown hKN.1 (ci := 8) rfl (k := 13) (by decide) (hts _ lf_8_31) (by decide +kernel)) ?_
  refine bs_c (pc := 76) (s_iconst hx hb (z := 3) (by decide +kernel) (by decide +kernel)) ?_
  refine bs_c (pc := 77) (s_aload_n hx hb (k := 0) (by decide +kernel) rfl) ?_
  refine bs_c (pc := 78) (s_getf hx hb hts in_8 hown hKN.1 (ci := 8) rfl (k := 12) (by decide) (hts _ lf_8_144) (by decide +kernel)) ?_
  refine bs_c (pc := 81) (s_imul hx hb (by decide +kernel) hF) ?_
  refine bs_c (pc := 82) (s_iconst hx hb (z := 2) (by decide +kernel) (by decide +kernel)) ?_
  refine bs_c (pc := 83) (s_iadd hx hb (by decide +kernel)) ?_
  refine bs_c (pc := 84) (s_iload_n hx hb (k := 3) (by decide +kernel) rfl) ?_
  refine bs_c (pc := 85) (s_ast0 hx hb hKN.1 (by decide +kernel)) ?_
  refine bs_c (pc := 86) (s_aload_n hx hb (k := 0) (by decide +kernel) rfl) ?_
  refine bs_c (pc := 87) (s_dup hx hb (by decide +kernel)) ?_
  refine bs_c (pc := 88) (s_getf hx hb hts in_8 hown hKN.1 (ci := 8) rfl (k := 12) (by decide) (hts _ lf_8_144) (by decide +kernel)) ?_
  refine bs_c (pc := 91) (s_iconst hx hb (z := 1) (by decide +kernel) (by decide +kernel)) ?_
  refine bs_c (pc := 92) (s_iadd hx hb (by decide +kernel)) ?_
  refine bs_c (pc := 93) (s_putI hx hb hts in_8 hown hKN.1 (ci := 8) rfl (k := 12) (by decide) (hts _ lf_8_144) tyX8 tyX8_ok nmX8 (tyX8_ok 12 (by decide)) rfl (by decide +kernel)) ?_
  refine bs_c (pc := 96) (s_aload_n hx hb (k := 0) (by decide +kernel) rfl) ?_
  refine bs_c (pc := 97) (s_getf hx hb hts in_8 hown hKN.1 (ci := 8) rfl (k := 12) (by decide) (hts _ lf_8_144) (by decide +kernel)) ?_
  refine bs_c (pc := 100) (s_ireturn hx hb hr hlocks (pc' := 0) (by decide +kernel)) ?_
  exact bs_n
set_option maxRecDepth 20000 in
theorem b_125_0 (C : CX p l s m args meth c d E F 125) : BB p l e s m args below meth c d E F K0 125 0 rc_125_0 := by
  obtain ⟨hx, hb, hml, hown, hts, hr, hlocks, hnm, hKN, hb0, hF⟩ := C
  have hb : c.code = prog_10_method_51_code := hb
  have hown : s.vm.findClass "RudeCouponsModel" = some m.cls := hown
  have hr : meth.sig.returnType = some .int := hr
  refine bs_c (pc := 0) (s_aload_n hx hb (k := 0) (by decide +kernel) rfl) ?_
  refine bs_c (pc := 1) (s_getf hx hb hts in_8 hown hKN.1 (ci := 8) rfl (k := 12) (by decide) (hts _ lf_8_144) (by decide +kernel)) ?_
  refine bs_c (pc := 4) (s_istore_n hx hb (k := 1) (by decide +kernel) rfl (by decide +kernel)) ?_
  refine bs_c (pc := 5) (s_aload_n hx hb (k := 0) (by decide +kernel) rfl) ?_
  refine bs_c (pc := 6) (s_iconst hx hb (z := 0) (by decide +kernel) (by decide +kernel)) ?_
  refine bs_c (pc := 7) (s_putI hx hb hts in_8 hown hKN.1 (ci := 8) rfl (k := 12) (by decide) (hts _ lf_8_144) tyX8 tyX8_ok nmX8 (tyX8_ok 12 (by decide)) rfl (by decide +kernel)) ?_
  refine bs_c (pc := 10) (s_iload_n hx hb (k := 1) (by decide +kernel) rfl) ?_
  refine bs_c (pc := 11) (s_ireturn hx hb hr hlocks (pc' := 0) (by decide +kernel)) ?_
  exact bs_n
set_option maxRecDepth 20000 in
theorem b_126_0 (C : CX p l s m args meth c d E F 126) : BB p l e s m args below meth c d E F K0 126 0 rc_126_0 := by
  obtain ⟨hx, hb, hml, hown, hts, hr, hlocks, hnm, hKN, hb0, hF⟩ := C
  have hb : c.code = prog_10_method_52_code := hb
  have hown : s.vm.findClass "RudeCouponsModel" = some m.cls := hown
  have hr : meth.sig.returnType = some .int := hr
  refine bs_c (pc := 0) (s_iconst hx hb (z := 0) (by decide +kernel) (by decide +kernel)) ?_
  refine bs_c (pc := 1) (s_istore_n hx hb (k := 1) (by decide +kernel) rfl (by decide +kernel)) ?_
  refine bs_c (pc := 2) (s_iconst hx hb (z := 0) (by decide +kernel) (by decide +kernel)) ?_
  refine bs_c (pc := 3) (s_istore_n hx hb (k := 2) (by decide +kernel) rfl (by decide +kernel)) ?_
  refine bs_c (pc := 4) (s_fall (pc' := 0) (by decide +kernel)) ?_
  exact bs_n
set_option maxRecDepth 20000 in
theorem b_126_1 (C : CX p l s m args meth c d E F 126) : BB p l e s m args below meth c d E F K0 126 4 rc_126_1 := by
  obtain ⟨hx, hb, hml, hown, hts, hr, hlocks, hnm, hKN, hb0, hF⟩ := C
  have hb : c.code = prog_10_method_52_code := hb
  have hown : s.vm.findClass "RudeCouponsModel" = some m.cls := hown
  have hr : meth.sig.returnType = some .int := hr
  refine bs_c (pc := 4) (s_iload_n hx hb (k := 2) (by decide +kernel) rfl) ?_
  refine bs_c (pc := 5) (s_aload_n hx hb (k := 0) (by decide +kernel) rfl) ?_
  refine bs_c (pc := 6) (s_getf hx hb hts in_8 hown hKN.1 (ci := 8) rfl (k := 0) (by decide) (hts _ lf_8_84) (by decide +kernel)) ?_
  refine bs_c (pc := 9) (s_icmp_ge hx hb (by decide +kernel) hF) ?_
  refine bs_c (pc := 12) (s_aload_n hx hb (k := 0) (by decide +kernel) rfl) ?_
  refine bs_c (pc := 13) (s_getf hx hb hts in_8 hown hKN.1 (ci := 8) rfl (k := 1) (by decide) (hts _ lf_8_7) (by decide +kernel)) ?_
  refine bs_c (pc := 16) (s_iconst hx hb (z := 3) (by decide +kernel) (by decide +kernel)) ?_
  refine bs_c (pc := 17) (s_iload_n hx hb (k := 2) (by decide +kernel) rfl) ?_
  refine bs_c (pc := 18) (s_imul hx hb (by decide +kernel) hF) ?_
  refine bs_c (pc := 19) (s_iconst hx hb (z := 1) (by decide +kernel) (by decide +kernel)) ?_
  refine bs_c (pc := 20) (s_iadd hx hb (by decide +kernel)) ?_
  refine bs_c (pc := 21) (s_ald0 hx hb hKN.1 (by decide +kernel)) ?_
  refine bs_c (pc := 22) (s_istore_n hx hb (k := 3) (by decide +kernel) rfl (by decide +kernel)) ?_
  refine bs_c (pc := 23) (s_iconst hx hb (z := 0) (by decide +kernel) (by decide +kernel)) ?_
  refine bs_c (pc := 24) (s_istore hx hb (by decide +kernel) (by decide +kernel)) ?_
  refine bs_c (pc := 26) (s_fall (pc' := 0) (by decide +kernel)) ?_
  exact bs_n
set_option maxRecDepth 20000 in
theorem b_126_2 (C : CX p l s m args meth c d E F 126) : BB p l e s m args below meth c d E F K0 126 26 rc_126_2 := by
  obtain ⟨hx, hb, hml, hown, hts, hr, hlocks, hnm, hKN, hb0, hF⟩ := C
  have hb : c.code = prog_10_method_52_code := hb
  have hown : s.vm.findClass "RudeCouponsModel" = some m.cls := hown
  have hr : meth.sig.returnType = some .int := hr
  refine bs_c (pc := 26) (s_iload hx hb (by decide +kernel)) ?_
  refine bs_c (pc := 28) (s_bipush hx hb (z := 99) (by decide +kernel) (by decide +kernel)) ?_
  refine bs_c (pc := 30) (s_icmp_gt hx hb (by decide +kernel) hF) ?_
  refine bs_c (pc := 33) (s_iconst hx hb (z := 0) (by decide +kernel) (by decide +kernel)) ?_
  refine bs_c (pc := 34) (s_istore hx hb (by decide +kernel) (by decide +kernel)) ?_
  refine bs_c (pc := 36) (s_fall (pc' := 0) (by decide +kernel)) ?_
  exact bs_n
set_option maxRecDepth 20000 in
theorem b_126_3 (C : CX p l s m args meth c d E F 126) : BB p l e s m args below meth c d E F K0 126 36 rc_126_3 := by
  obtain ⟨hx, hb, hml, hown, hts, hr, hlocks, hnm, hKN, hb0, hF⟩ := C
  have hb : c.code = prog_10_method_52_code := hb
  have hown : s.vm.findClass "RudeCouponsModel" = some m.cls := hown
  have hr : meth.sig.returnType = some .int := hr
  refine bs_c (pc := 36) (s_iload hx hb (by decide +kernel)) ?_
  refine bs_c (pc := 38) (s_aload_n hx hb (k := 0) (by decide +kernel) rfl) ?_
  refine bs_c (pc := 39) (s_getf hx hb hts in_8 hown hKN.1 (ci := 8) rfl (k := 12) (by decide) (hts _ lf_8_144) (by decide +kernel)) ?_
  refine bs_c (pc := 42) (s_icmp_ge hx hb (by decide +kernel) hF) ?_
  refine bs_c (pc := 45) (s_aload_n hx hb (k := 0) (by decide +kernel) rfl) ?_
  refine bs_c (pc := 46) (s_getf hx hb hts in_8 hown hKN.1 (ci := 8) rfl (k := 13) (by decide) (hts _ lf_8_31) (by decide +kernel)) ?_
  refine bs_c (pc := 49) (s_iconst hx hb (z := 3) (by decide +kernel) (by decide +kernel)) ?_
  refine bs_c (pc := 50) (s_iload hx hb (by decide +kernel)) ?_
  refine bs_c (pc := 52) (s_imul hx hb (by decide +kernel) hF) ?_
  refine bs_c (pc := 53) (s_ald0 hx hb hKN.1 (by decide +kernel)) ?_
  refine bs_c (pc := 54) (s_iload_n hx hb (k := 2) (by decide +kernel) rfl) ?_
  refine bs_c (pc := 55) (s_icmp_ne hx hb (by decide +kernel) hF) ?_
  refine bs_c (pc := 58) (s_aload_n hx hb (k := 0) (by decide +kernel) rfl) ?_
  refine bs_c (pc := 59) (s_getf hx hb hts in_8 hown hKN.1 (ci := 8) rfl (k := 13) (by decide) (hts _ lf_8_31) (by decide +kernel)) ?_
  refine bs_c (pc := 62) (s_iconst hx hb (z := 3) (by decide +kernel) (by decide +kernel)) ?_
  refine bs_c (pc := 63) (s_iload hx hb (by decide +kernel)) ?_
  refine bs_c (pc := 65) (s_imul hx hb (by decide +kernel) hF) ?_
  refine bs_c (pc := 66) (s_iconst hx hb (z := 2) (by decide +kernel) (by decide +kernel)) ?_
  refine bs_c (pc := 67) (s_iadd hx hb (by decide +kernel)) ?_
  refine bs_c (pc := 68) (s_ald0 hx hb hKN.1 (by decide +kernel)) ?_
  refine bs_c (pc := 69) (s_iload hx hb (by decide +kernel)) ?_
  refine bs_c (pc := 71) (s_icmp_ne hx hb (by decide +kernel) hF) ?_
  refine bs_c (pc := 74) (s_iload_n hx hb (k := 3) (by decide +kernel) rfl) ?_
  refine bs_c (pc := 75) (s_if_ge hx hb (by decide +kernel) hF) ?_
  refine bs_c (pc := 78) (s_iconst hx hb (z := -1) (by decide +kernel) (by decide +kernel)) ?_
  refine bs_c (pc := 79) (s_goto hx hb (pc' := 0) (by decide +kernel)) ?_
  exact bs_n
set_option maxRecDepth 20000 in
theorem b_126_4 (C : CX p l s m args meth c d E F 126) : BB p l e s m args below meth c d E F K0 126 82 rc_126_4 := by
  obtain ⟨hx, hb, hml, hown, hts, hr, hlocks, hnm, hKN, hb0, hF⟩ := C
  have hb : c.code = prog_10_method_52_code := hb
  have hown : s.vm.findClass "RudeCouponsModel" = some m.cls := hown
  have hr : meth.sig.returnType = some .int := hr
  refine bs_c (pc := 82) (s_aload_n hx hb (k := 0) (by decide +kernel) rfl) ?_
  refine bs_c (pc := 83) (s_iload_n hx hb (k := 2) (by decide +kernel) rfl) ?_
  refine bs_c (pc := 84) (s_iload_n hx hb (k := 3) (by decide +kernel) rfl) ?_
  refine bs_c (pc := 85) (s_aload_n hx hb (k := 0) (by decide +kernel) rfl) ?_
  refine bs_c (pc := 86) (s_getf hx hb hts in_8 hown hKN.1 (ci := 8) rfl (k := 13) (by decide) (hts _ lf_8_31) (by decide +kernel)) ?_
  refine bs_c (pc := 89) (s_iconst hx hb (z := 3) (by decide +kernel) (by decide +kernel)) ?_
  refine bs_c (pc := 90) (s_iload hx hb (by decide +kernel)) ?_
  refine bs_c (pc := 92) (s_imul hx hb (by decide +kernel) hF) ?_
  refine bs_c (pc := 93) (s_iconst hx hb (z := 1) (by decide +kernel) (by decide +kernel)) ?_
  refine bs_c (pc := 94) (s_iadd hx hb (by decide +kernel)) ?_
  refine bs_c (pc := 95) (s_ald0 hx hb hKN.1 (by decide +kernel)) ?_
  refine bs_c (pc := 96) (s_iload hx hb (by decide +kernel)) ?_
  refine bs_c (pc := 98) (s_call rfl rfl (rk_V hx hb hml (index := 150) (y := 2) (n := 4) hown hts wc_2 (k := 8) rfl rfl lm_8_150 wk_2 wv_2 wi_2 wp_2 (by decide +kernel) (by decide +kernel)) hKN hb0) ?_
  refine bs_c (pc := 101) (s_fall (pc' := 0) (by decide +kernel)) ?_
  exact bs_n
set_option maxRecDepth 20000 in
theorem b_126_5 (C : CX p l s m args meth c d E F 126) : BB p l e s m args below meth c d E F K0 126 101 rc_126_5 := by
  obtain ⟨hx, hb, hml, hown, hts, hr, hlocks, hnm, hKN, hb0, hF⟩ := C
  have hb : c.code = prog_10_method_52_code := hb
  have hown : s.vm.findClass "RudeCouponsModel" = some m.cls := hown
  have hr : meth.sig.returnType = some .int := hr
  refine bs_c (pc := 101) (s_istore_n hx hb (k := 3) (by decide +kernel) rfl (by decide +kernel)) ?_
  refine bs_c (pc := 102) (s_fall (pc' := 0) (by decide +kernel)) ?_
  exact bs_n
set_option maxRecDepth 20000 in
theorem b_126_6 (C : CX p l s m args meth c d E F 126) : BB p l e s m args below meth c d E F K0 126 102 rc_126_6 := by
  obtain ⟨hx, hb, hml, hown, hts, hr, hlocks, hnm, hKN, hb0, hF⟩ := C
  have hb : c.code = prog_10_method_52_code := hb
  have hown : s.vm.findClass "RudeCouponsModel" = some m.cls := hown
  have hr : meth.sig.returnType = some .int := hr
  refine bs_c (pc := 102) (s_iinc hx hb (z := 1) (by decide +kernel) (by decide +kernel) (by decide +kernel)) ?_
  refine bs_c (pc := 105) (s_goto hx hb (pc' := 0) (by decide +kernel)) ?_
  exact bs_n
set_option maxRecDepth 20000 in
theorem b_126_7 (C : CX p l s m args meth c d E F 126) : BB p l e s m args below meth c d E F K0 126 108 rc_126_7 := by
  obtain ⟨hx, hb, hml, hown, hts, hr, hlocks, hnm, hKN, hb0, hF⟩ := C
  have hb : c.code = prog_10_method_52_code := hb
  have hown : s.vm.findClass "RudeCouponsModel" = some m.cls := hown
  have hr : meth.sig.returnType = some .int := hr
  refine bs_c (pc := 108) (s_iinc hx hb (z := 1) (by decide +kernel) (by decide +kernel) (by decide +kernel)) ?_
  refine bs_c (pc := 111) (s_goto hx hb (pc' := 0) (by decide +kernel)) ?_
  exact bs_n
set_option maxRecDepth 20000 in
theorem b_126_8 (C : CX p l s m args meth c d E F 126) : BB p l e s m args below meth c d E F K0 126 114 rc_126_8 := by
  obtain ⟨hx, hb, hml, hown, hts, hr, hlocks, hnm, hKN, hb0, hF⟩ := C
  have hb : c.code = prog_10_method_52_code := hb
  have hown : s.vm.findClass "RudeCouponsModel" = some m.cls := hown
  have hr : meth.sig.returnType = some .int := hr
  refine bs_c (pc := 114) (s_iload_n hx hb (k := 1) (by decide +kernel) rfl) ?_
  refine bs_c (pc := 115) (s_iload_n hx hb (k := 3) (by decide +kernel) rfl) ?_
  refine bs_c (pc := 116) (s_if_ge hx hb (by decide +kernel) hF) ?_
  refine bs_c (pc := 119) (s_iconst hx hb (z := 1) (by decide +kernel) (by decide +kernel)) ?_
  refine bs_c (pc := 120) (s_iload_n hx hb (k := 2) (by decide +kernel) rfl) ?_
  refine bs_c (pc := 121) (s_ishl hx hb (by decide +kernel)) ?_
  refine bs_c (pc := 122) (s_goto hx hb (pc' := 0) (by decide +kernel)) ?_
  exact bs_n
set_option maxRecDepth 20000 in
theorem b_126_9 (C : CX p l s m args meth c d E F 126) : BB p l e s m args below meth c d E F K0 126 125 rc_126_9 := by
  obtain ⟨hx, hb, hml, hown, hts, hr, hlocks, hnm, hKN, hb0, hF⟩ := C
  have hb : c.code = prog_10_method_52_code := hb
  have hown : s.vm.findClass "RudeCouponsModel" = some m.cls := hown
  have hr : meth.sig.returnType = some .int := hr
  refine bs_c (pc := 125) (s_iconst hx hb (z := 0) (by decide +kernel) (by decide +kernel)) ?_
  refine bs_c (pc := 126) (s_fall (pc' := 0) (by decide +kernel)) ?_
  exact bs_n
set_option maxRecDepth 20000 in
theorem b_126_10 (C : CX p l s m args meth c d E F 126) : BB p l e s m args below meth c d E F K0 126 126 rc_126_10 := by
  obtain ⟨hx, hb, hml, hown, hts, hr, hlocks, hnm, hKN, hb0, hF⟩ := C
  have hb : c.code = prog_10_method_52_code := hb
  have hown : s.vm.findClass "RudeCouponsModel" = some m.cls := hown
  have hr : meth.sig.returnType = some .int := hr
  refine bs_c (pc := 126) (s_ior hx hb (by decide +kernel)) ?_
  refine bs_c (pc := 127) (s_istore_n hx hb (k := 1) (by decide +kernel) rfl (by decide +kernel)) ?_
  refine bs_c (pc := 128) (s_iinc hx hb (z := 1) (by decide +kernel) (by decide +kernel) (by decide +kernel)) ?_
  refine bs_c (pc := 131) (s_goto hx hb (pc' := 0) (by decide +kernel)) ?_
  exact bs_n
set_option maxRecDepth 20000 in
theorem b_126_11 (C : CX p l s m args meth c d E F 126) : BB p l e s m args below meth c d E F K0 126 134 rc_126_11 := by
  obtain ⟨hx, hb, hml, hown, hts, hr, hlocks, hnm, hKN, hb0, hF⟩ := C
  have hb : c.code = prog_10_method_52_code := hb
  have hown : s.vm.findClass "RudeCouponsModel" = some m.cls := hown
  have hr : meth.sig.returnType = some .int := hr
  refine bs_c (pc := 134) (s_iload_n hx hb (k := 1) (by decide +kernel) rfl) ?_
  refine bs_c (pc := 135) (s_ireturn hx hb hr hlocks (pc' := 0) (by decide +kernel)) ?_
  exact bs_n
set_option maxRecDepth 20000 in
theorem b_127_0 (C : CX p l s m args meth c d E F 127) : BB p l e s m args below meth c d E F K0 127 0 rc_127_0 := by
  obtain ⟨hx, hb, hml, hown, hts, hr, hlocks, hnm, hKN, hb0, hF⟩ := C
  have hb : c.code = prog_10_method_53_code := hb
  have hown : s.vm.findClass "RudeCouponsModel" = some m.cls := hown
  have hr : meth.sig.returnType = some .int := hr
  refine bs_c (pc := 0) (s_iload_n hx hb (k := 1) (by decide +kernel) rfl) ?_
  refine bs_c (pc := 1) (s_iconst hx hb (z := 0) (by decide +kernel) (by decide +kernel)) ?_
  refine bs_c (pc := 2) (s_bipush hx hb (z := 99) (by decide +kernel) (by decide +kernel)) ?_
  refine bs_c (pc := 4) (s_call rfl rfl (rk_S hx hb hml (index := 87) (y := 7) (n := 3) hown hts wc_7 lm_8_87 wk_7 wi_7 wp_7 (by decide +kernel) (by decide +kernel)) hKN hb0) ?_
  refine bs_c (pc := 7) (s_if_eq hx hb (by decide +kernel) hF) ?_
  refine bs_c (pc := 10) (s_iload_n hx hb (k := 2) (by decide +kernel) rfl) ?_
  refine bs_c (pc := 11) (s_iconst hx hb (z := 0) (by decide +kernel) (by decide +kernel)) ?_
  refine bs_c (pc := 12) (s_iconst hx hb (z := 1) (by decide +kernel) (by decide +kernel)) ?_
  refine bs_c (pc := 13) (s_call rfl rfl (rk_S hx hb hml (index := 87) (y := 7) (n := 3) hown hts wc_7 lm_8_87 wk_7 wi_7 wp_7 (by decide +kernel) (by decide +kernel)) hKN hb0) ?_
  refine bs_c (pc := 16) (s_if_ne hx hb (by decide +kernel) hF) ?_
  refine bs_c (pc := 19) (s_fall (pc' := 0) (by decide +kernel)) ?_
  exact bs_n
set_option maxRecDepth 20000 in
theorem b_127_1 (C : CX p l s m args meth c d E F 127) : BB p l e s m args below meth c d E F K0 127 19 rc_127_1 := by
  obtain ⟨hx, hb, hml, hown, hts, hr, hlocks, hnm, hKN, hb0, hF⟩ := C
  have hb : c.code = prog_10_method_53_code := hb
  have hown : s.vm.findClass "RudeCouponsModel" = some m.cls := hown
  have hr : meth.sig.returnType = some .int := hr
  refine bs_c (pc := 19) (s_iconst hx hb (z := -1) (by decide +kernel) (by decide +kernel)) ?_
  refine bs_c (pc := 20) (s_ireturn hx hb hr hlocks (pc' := 0) (by decide +kernel)) ?_
  exact bs_n
set_option maxRecDepth 20000 in
theorem b_127_2 (C : CX p l s m args meth c d E F 127) : BB p l e s m args below meth c d E F K0 127 21 rc_127_2 := by
  obtain ⟨hx, hb, hml, hown, hts, hr, hlocks, hnm, hKN, hb0, hF⟩ := C
  have hb : c.code = prog_10_method_53_code := hb
  have hown : s.vm.findClass "RudeCouponsModel" = some m.cls := hown
  have hr : meth.sig.returnType = some .int := hr
  refine bs_c (pc := 21) (s_aload_n hx hb (k := 0) (by decide +kernel) rfl) ?_
  refine bs_c (pc := 22) (s_call rfl rfl (rk_V hx hb hml (index := 180) (y := 115) (n := 0) hown hts wc_115 (k := 8) rfl rfl lm_8_180 wk_115 wv_115 wi_115 wp_115 (by decide +kernel) (by decide +kernel)) hKN hb0) ?_
  refine bs_c (pc := 25) (s_istore_n hx hb (k := 3) (by decide +kernel) rfl (by decide +kernel)) ?_
  refine bs_c (pc := 26) (s_iconst hx hb (z := 0) (by decide +kernel) (by decide +kernel)) ?_
  refine bs_c (pc := 27) (s_istore hx hb (by decide +kernel) (by decide +kernel)) ?_
  refine bs_c (pc := 29) (s_iconst hx hb (z := 0) (by decide +kernel) (by decide +kernel)) ?_
  refine bs_c (pc := 30) (s_istore hx hb (by decide +kernel) (by decide +kernel)) ?_
  refine bs_c (pc := 32) (s_fall (pc' := 0) (by decide +kernel)) ?_
  exact bs_n
set_option maxRecDepth 20000 in
theorem b_127_3 (C : CX p l s m args meth c d E F 127) : BB p l e s m args below meth c d E F K0 127 32 rc_127_3 := by
  obtain ⟨hx, hb, hml, hown, hts, hr, hlocks, hnm, hKN, hb0, hF⟩ := C
  have hb : c.code = prog_10_method_53_code := hb
  have hown : s.vm.findClass "RudeCouponsModel" = some m.cls := hown
  have hr : meth.sig.returnType = some .int := hr
  refine bs_c (pc := 32) (s_iload hx hb (by decide +kernel)) ?_
  refine bs_c (pc := 34) (s_aload_n hx hb (k := 0) (by decide +kernel) rfl) ?_
  refine bs_c (pc := 35) (s_getf hx hb hts in_8 hown hKN.1 (ci := 8) rfl (k := 0) (by decide) (hts _ lf_8_84) (by decide +kernel)) ?_
  refine bs_c (pc := 38) (s_icmp_ge hx hb (by decide +kernel) hF) ?_
  refine bs_c (pc := 41) (s_aload_n hx hb (k := 0) (by decide +kernel) rfl) ?_
  refine bs_c (pc := 42) (s_getf hx hb hts in_8 hown hKN.1 (ci := 8) rfl (k := 7) (by decide) (hts _ lf_8_22) (by decide +kernel)) ?_
  refine bs_c (pc := 45) (s_iconst hx hb (z := 2) (by decide +kernel) (by decide +kernel)) ?_
  refine bs_c (pc := 46) (s_iload hx hb (by decide +kernel)) ?_
  refine bs_c (pc := 48) (s_iadd hx hb (by decide +kernel)) ?_
  refine bs_c (pc := 49) (s_ald0 hx hb hKN.1 (by decide +kernel)) ?_
  refine bs_c (pc := 50) (s_iload hx hb (by decide +kernel)) ?_
  refine bs_c (pc := 52) (s_icmp_le hx hb (by decide +kernel) hF) ?_
  refine bs_c (pc := 55) (s_aload_n hx hb (k := 0) (by decide +kernel) rfl) ?_
  refine bs_c (pc := 56) (s_getf hx hb hts in_8 hown hKN.1 (ci := 8) rfl (k := 7) (by decide) (hts _ lf_8_22) (by decide +kernel)) ?_
  refine bs_c (pc := 59) (s_iconst hx hb (z := 2) (by decide +kernel) (by decide +kernel)) ?_
  refine bs_c (pc := 60) (s_iload hx hb (by decide +kernel)) ?_
  refine bs_c (pc := 62) (s_iadd hx hb (by decide +kernel)) ?_
  refine bs_c (pc := 63) (s_ald0 hx hb hKN.1 (by decide +kernel)) ?_
  refine bs_c (pc := 64) (s_goto hx hb (pc' := 0) (by decide +kernel)) ?_
  exact bs_n
set_option maxRecDepth 20000 in
theorem b_127_4 (C : CX p l s m args meth c d E F 127) : BB p l e s m args below meth c d E F K0 127 67 rc_127_4 := by
  obtain ⟨hx, hb, hml, hown, hts, hr, hlocks, hnm, hKN, hb0, hF⟩ := C
  have hb : c.code = prog_10_method_53_code := hb
  have hown : s.vm.findClass "RudeCouponsModel" = some m.cls := hown
  have hr : meth.sig.returnType = some .int := hr
  refine bs_c (pc := 67) (s_iload hx hb (by decide +kernel)) ?_
  refine bs_c (pc := 69) (s_fall (pc' := 0) (by decide +kernel)) ?_
  exact bs_n
set_option maxRecDepth 20000 in
theorem b_127_5 (C : CX p l s m args meth c d E F 127) : BB p l e s m args below meth c d E F K0 127 69 rc_127_5 := by
  obtain ⟨hx, hb, hml, hown, hts, hr, hlocks, hnm, hKN, hb0, hF⟩ := C
  have hb : c.code = prog_10_method_53_code := hb
  have hown : s.vm.findClass "RudeCouponsModel" = some m.cls := hown
  have hr : meth.sig.returnType = some .int := hr
  refine bs_c (pc := 69) (s_istore hx hb (by decide +kernel) (by decide +kernel)) ?_
  refine bs_c (pc := 71) (s_iinc hx hb (z := 1) (by decide +kernel) (by decide +kernel) (by decide +kernel)) ?_
  refine bs_c (pc := 74) (s_goto hx hb (pc' := 0) (by decide +kernel)) ?_
  exact bs_n
set_option maxRecDepth 20000 in
theorem b_127_6 (C : CX p l s m args meth c d E F 127) : BB p l e s m args below meth c d E F K0 127 77 rc_127_6 := by
  obtain ⟨hx, hb, hml, hown, hts, hr, hlocks, hnm, hKN, hb0, hF⟩ := C
  have hb : c.code = prog_10_method_53_code := hb
  have hown : s.vm.findClass "RudeCouponsModel" = some m.cls := hown
  have hr : meth.sig.returnType = some .int := hr
  refine bs_c (pc := 77) (s_iload_n hx hb (k := 3) (by decide +kernel) rfl) ?_
  refine bs_c (pc := 78) (s_iload hx hb (by decide +kernel)) ?_
  refine bs_c (pc := 80) (s_isub hx hb (by decide +kernel)) ?_
  refine bs_c (pc := 81) (s_istore hx hb (by decide +kernel) (by decide +kernel)) ?_
  refine bs_c (pc := 83) (s_iload hx hb (by decide +kernel)) ?_
  refine bs_c (pc := 85) (s_iload hx hb (by decide +kernel)) ?_
  refine bs_c (pc := 87) (s_iconst hx hb (z := 1) (by decide +kernel) (by decide +kernel)) ?_
  refine bs_c (pc := 88) (s_iadd hx hb (by decide +kernel)) ?_
  refine bs_c (pc := 89) (s_icmp_le hx hb (by decide +kernel) hF) ?_
  refine bs_c (pc := 92) (s_iconst hx hb (z := 2) (by decide +kernel) (by decide +kernel)) ?_
  refine bs_c (pc := 93) (s_iload hx hb (by decide +kernel)) ?_
  refine bs_c (pc := 95) (s_imul hx hb (by decide +kernel) hF) ?_
  refine bs_c (pc := 96) (s_iconst hx hb (z := 1) (by decide +kernel) (by decide +kernel)) ?_
  refine bs_c (pc := 97) (s_iadd hx hb (by decide +kernel)) ?_
  refine bs_c (pc := 98) (s_goto hx hb (pc' := 0) (by decide +kernel)) ?_
  exact bs_n
set_option maxRecDepth 20000 in
theorem b_127_7 (C : CX p l s m args meth c d E F 127) : BB p l e s m args below meth c d E F K0 127 101 rc_127_7 := by
  obtain ⟨hx, hb, hml, hown, hts, hr, hlocks, hnm, hKN, hb0, hF⟩ := C
  have hb : c.code = prog_10_method_53_code := hb
  have hown : s.vm.findClass "RudeCouponsModel" = some m.cls := hown
  have hr : meth.sig.returnType = some .int := hr
  refine bs_c (pc := 101) (s_iload_n hx hb (k := 3) (by decide +kernel) rfl) ?_
  refine bs_c (pc := 102) (s_fall (pc' := 0) (by decide +kernel)) ?_
  exact bs_n
set_option maxRecDepth 20000 in
theorem b_127_8 (C : CX p l s m args meth c d E F 127) : BB p l e s m args below meth c d E F K0 127 102 rc_127_8 := by
  obtain ⟨hx, hb, hml, hown, hts, hr, hlocks, hnm, hKN, hb0, hF⟩ := C
  have hb : c.code = prog_10_method_53_code := hb
  have hown : s.vm.findClass "RudeCouponsModel" = some m.cls := hown
  have hr : meth.sig.returnType = some .int := hr
  refine bs_c (pc := 102) (s_istore hx hb (by decide +kernel) (by decide +kernel)) ?_
  refine bs_c (pc := 104) (s_iload hx hb (by decide +kernel)) ?_
  refine bs_c (pc := 106) (s_iload_n hx hb (k := 1) (by decide +kernel) rfl) ?_
  refine bs_c (pc := 107) (s_icmp_ge hx hb (by decide +kernel) hF) ?_
  refine bs_c (pc := 110) (s_iload hx hb (by decide +kernel)) ?_
  refine bs_c (pc := 112) (s_goto hx hb (pc' := 0) (by decide +kernel)) ?_
  exact bs_n
set_option maxRecDepth 20000 in
theorem b_127_9 (C : CX p l s m args meth c d E F 127) : BB p l e s m args below meth c d E F K0 127 115 rc_127_9 := by
  obtain ⟨hx, hb, hml, hown, hts, hr, hlocks, hnm, hKN, hb0, hF⟩ := C
  have hb : c.code = prog_10_method_53_code := hb
  have hown : s.vm.findClass "RudeCouponsModel" = some m.cls := hown
  have hr : meth.sig.returnType = some .int := hr
  refine bs_c (pc := 115) (s_iload_n hx hb (k := 1) (by decide +kernel) rfl) ?_
  refine bs_c (pc := 116) (s_fall (pc' := 0) (by decide +kernel)) ?_
  exact bs_n
set_option maxRecDepth 20000 in
theorem b_127_10 (C : CX p l s m args meth c d E F 127) : BB p l e s m args below meth c d E F K0 127 116 rc_127_10 := by
  obtain ⟨hx, hb, hml, hown, hts, hr, hlocks, hnm, hKN, hb0, hF⟩ := C
  have hb : c.code = prog_10_method_53_code := hb
  have hown : s.vm.findClass "RudeCouponsModel" = some m.cls := hown
  have hr : meth.sig.returnType = some .int := hr
  refine bs_c (pc := 116) (s_istore hx hb (by decide +kernel) (by decide +kernel)) ?_
  refine bs_c (pc := 118) (s_iload_n hx hb (k := 2) (by decide +kernel) rfl) ?_
  refine bs_c (pc := 119) (s_if_ne hx hb (by decide +kernel) hF) ?_
  refine bs_c (pc := 122) (s_iload hx hb (by decide +kernel)) ?_
  refine bs_c (pc := 124) (s_goto hx hb (pc' := 0) (by decide +kernel)) ?_
  exact bs_n
set_option maxRecDepth 20000 in
theorem b_127_11 (C : CX p l s m args meth c d E F 127) : BB p l e s m args below meth c d E F K0 127 127 rc_127_11 := by
  obtain ⟨hx, hb, hml, hown, hts, hr, hlocks, hnm, hKN, hb0, hF⟩ := C
  have hb : c.code = prog_10_method_53_code := hb
  have hown : s.vm.findClass "RudeCouponsModel" = some m.cls := hown
  have hr : meth.sig.returnType = some .int := hr
  refine bs_c (pc := 127) (s_iload_n hx hb (k := 3) (by decide +kernel) rfl) ?_
  refine bs_c (pc := 128) (s_iload hx hb (by decide +kernel)) ?_
  refine bs_c (pc := 130) (s_isub hx hb (by decide +kernel)) ?_
  refine bs_c (pc := 131) (s_fall (pc' := 0) (by decide +kernel)) ?_
  exact bs_n
set_option maxRecDepth 20000 in
theorem b_127_12 (C : CX p l s m args meth c d E F 127) : BB p l e s m args below meth c d E F K0 127 131 rc_127_12 := by
  obtain ⟨hx, hb, hml, hown, hts, hr, hlocks, hnm, hKN, hb0, hF⟩ := C
  have hb : c.code = prog_10_method_53_code := hb
  have hown : s.vm.findClass "RudeCouponsModel" = some m.cls := hown
  have hr : meth.sig.returnType = some .int := hr
  refine bs_c (pc := 131) (s_ireturn hx hb hr hlocks (pc' := 0) (by decide +kernel)) ?_
  exact bs_n
set_option maxRecDepth 20000 in
theorem b_128_0 (C : CX p l s m args meth c d E F 128) : BB p l e s m args below meth c d E F K0 128 0 rc_128_0 := by
  obtain ⟨hx, hb, hml, hown, hts, hr, hlocks, hnm, hKN, hb0, hF⟩ := C
  have hb : c.code = prog_10_method_54_code := hb
  have hown : s.vm.findClass "RudeCouponsModel" = some m.cls := hown
  have hr : meth.sig.returnType = some .int := hr
  refine bs_c (pc := 0) (s_aload_n hx hb (k := 0) (by decide +kernel) rfl) ?_
  refine bs_c (pc := 1) (s_iload_n hx hb (k := 1) (by decide +kernel) rfl) ?_
  refine bs_c (pc := 2) (s_call rfl rfl (rk_V hx hb hml (index := 162) (y := 9) (n := 1) hown hts wc_9 (k := 8) rfl rfl lm_8_162 wk_9 wv_9 wi_9 wp_9 (by decide +kernel) (by decide +kernel)) hKN hb0) ?_
  refine bs_c (pc := 5) (s_if_eq hx hb (by decide +kernel) hF) ?_
  refine bs_c (pc := 8) (s_iload_n hx hb (k := 2) (by decide +kernel) rfl) ?_
  refine bs_c (pc := 9) (s_iconst hx hb (z := 0) (by decide +kernel) (by decide +kernel)) ?_
  refine bs_c (pc := 10) (s_bipush hx hb (z := 99) (by decide +kernel) (by decide +kernel)) ?_
  refine bs_c (pc := 12) (s_call rfl rfl (rk_S hx hb hml (index := 87) (y := 7) (n := 3) hown hts wc_7 lm_8_87 wk_7 wi_7 wp_7 (by decide +kernel) (by decide +kernel)) hKN hb0) ?_
  refine bs_c (pc := 15) (s_if_eq hx hb (by decide +kernel) hF) ?_
  refine bs_c (pc := 18) (s_iload_n hx hb (k := 3) (by decide +kernel) rfl) ?_
  refine bs_c (pc := 19) (s_iconst hx hb (z := 0) (by decide +kernel) (by decide +kernel)) ?_
  refine bs_c (pc := 20) (s_bipush hx hb (z := 10) (by decide +kernel) (by decide +kernel)) ?_
  refine bs_c (pc := 22) (s_call rfl rfl (rk_S hx hb hml (index := 87) (y := 7) (n := 3) hown hts wc_7 lm_8_87 wk_7 wi_7 wp_7 (by decide +kernel) (by decide +kernel)) hKN hb0) ?_
  refine bs_c (pc := 25) (s_if_ne hx hb (by decide +kernel) hF) ?_
  refine bs_c (pc := 28) (s_fall (pc' := 0) (by decide +kernel)) ?_
  exact bs_n
set_option maxRecDepth 20000 in
theorem b_128_1 (C : CX p l s m args meth c d E F 128) : BB p l e s m args below meth c d E F K0 128 28 rc_128_1 := by
  obtain ⟨hx, hb, hml, hown, hts, hr, hlocks, hnm, hKN, hb0, hF⟩ := C
  have hb : c.code = prog_10_method_54_code := hb
  have hown : s.vm.findClass "RudeCouponsModel" = some m.cls := hown
  have hr : meth.sig.returnType = some .int := hr
  refine bs_c (pc := 28) (s_iconst hx hb (z := -1) (by decide +kernel) (by decide +kernel)) ?_
  refine bs_c (pc := 29) (s_ireturn hx hb hr hlocks (pc' := 0) (by decide +kernel)) ?_
  exact bs_n
set_option maxRecDepth 20000 in
theorem b_128_2 (C : CX p l s m args meth c d E F 128) : BB p l e s m args below meth c d E F K0 128 30 rc_128_2 := by
  obtain ⟨hx, hb, hml, hown, hts, hr, hlocks, hnm, hKN, hb0, hF⟩ := C
  have hb : c.code = prog_10_method_54_code := hb
  have hown : s.vm.findClass "RudeCouponsModel" = some m.cls := hown
  have hr : meth.sig.returnType = some .int := hr
  refine bs_c (pc := 30) (s_aload_n hx hb (k := 0) (by decide +kernel) rfl) ?_
  refine bs_c (pc := 31) (s_getf hx hb hts in_8 hown hKN.1 (ci := 8) rfl (k := 7) (by decide) (hts _ lf_8_22) (by decide +kernel)) ?_
  refine bs_c (pc := 34) (s_iconst hx hb (z := 2) (by decide +kernel) (by decide +kernel)) ?_
  refine bs_c (pc := 35) (s_iload_n hx hb (k := 1) (by decide +kernel) rfl) ?_
  refine bs_c (pc := 36) (s_iadd hx hb (by decide +kernel)) ?_
  refine bs_c (pc := 37) (s_ald0 hx hb hKN.1 (by decide +kernel)) ?_
  refine bs_c (pc := 38) (s_if_ne hx hb (by decide +kernel) hF) ?_
  refine bs_c (pc := 41) (s_bipush hx hb (z := -2) (by decide +kernel) (by decide +kernel)) ?_
  refine bs_c (pc := 43) (s_ireturn hx hb hr hlocks (pc' := 0) (by decide +kernel)) ?_
  exact bs_n
set_option maxRecDepth 20000 in
theorem b_128_3 (C : CX p l s m args meth c d E F 128) : BB p l e s m args below meth c d E F K0 128 44 rc_128_3 := by
  obtain ⟨hx, hb, hml, hown, hts, hr, hlocks, hnm, hKN, hb0, hF⟩ := C
  have hb : c.code = prog_10_method_54_code := hb
  have hown : s.vm.findClass "RudeCouponsModel" = some m.cls := hown
  have hr : meth.sig.returnType = some .int := hr
  refine bs_c (pc := 44) (s_aload_n hx hb (k := 0) (by decide +kernel) rfl) ?_
  refine bs_c (pc := 45) (s_iload_n hx hb (k := 1) (by decide +kernel) rfl) ?_
  refine bs_c (pc := 46) (s_aload_n hx hb (k := 0) (by decide +kernel) rfl) ?_
  refine bs_c (pc := 47) (s_getf hx hb hts in_8 hown hKN.1 (ci := 8) rfl (k := 7) (by decide) (hts _ lf_8_22) (by decide +kernel)) ?_
  refine bs_c (pc := 50) (s_iconst hx hb (z := 2) (by decide +kernel) (by decide +kernel)) ?_
  refine bs_c (pc := 51) (s_iload_n hx hb (k := 1) (by decide +kernel) rfl) ?_
  refine bs_c (pc := 52) (s_iadd hx hb (by decide +kernel)) ?_
  refine bs_c (pc := 53) (s_ald0 hx hb hKN.1 (by decide +kernel)) ?_
  refine bs_c (pc := 54) (s_call rfl rfl (rk_V hx hb hml (index := 189) (y := 6) (n := 2) hown hts wc_6 (k := 8) rfl rfl lm_8_189 wk_6 wv_6 wi_6 wp_6 (by decide +kernel) (by decide +kernel)) hKN hb0) ?_
  refine bs_c (pc := 57) (s_aload_n hx hb (k := 0) (by decide +kernel) rfl) ?_
  refine bs_c (pc := 58) (s_iload_n hx hb (k := 1) (by decide +kernel) rfl) ?_
  refine bs_c (pc := 59) (s_aload_n hx hb (k := 0) (by decide +kernel) rfl) ?_
  refine bs_c (pc := 60) (s_getf hx hb hts in_8 hown hKN.1 (ci := 8) rfl (k := 7) (by decide) (hts _ lf_8_22) (by decide +kernel)) ?_
  refine bs_c (pc := 63) (s_iconst hx hb (z := 2) (by decide +kernel) (by decide +kernel)) ?_
  refine bs_c (pc := 64) (s_iload_n hx hb (k := 1) (by decide +kernel) rfl) ?_
  refine bs_c (pc := 65) (s_iadd hx hb (by decide +kernel)) ?_
  refine bs_c (pc := 66) (s_ald0 hx hb hKN.1 (by decide +kernel)) ?_
  refine bs_c (pc := 67) (s_iconst hx hb (z := 1) (by decide +kernel) (by decide +kernel)) ?_
  refine bs_c (pc := 68) (s_isub hx hb (by decide +kernel)) ?_
  refine bs_c (pc := 69) (s_call rfl rfl (rk_V hx hb hml (index := 189) (y := 6) (n := 2) hown hts wc_6 (k := 8) rfl rfl lm_8_189 wk_6 wv_6 wi_6 wp_6 (by decide +kernel) (by decide +kernel)) hKN hb0) ?_
  refine bs_c (pc := 72) (s_isub hx hb (by decide +kernel)) ?_
  refine bs_c (pc := 73) (s_istore hx hb (by decide +kernel) (by decide +kernel)) ?_
  refine bs_c (pc := 75) (s_iload_n hx hb (k := 2) (by decide +kernel) rfl) ?_
  refine bs_c (pc := 76) (s_iload_n hx hb (k := 3) (by decide +kernel) rfl) ?_
  refine bs_c (pc := 77) (s_imul hx hb (by decide +kernel) hF) ?_
  refine bs_c (pc := 78) (s_bipush hx hb (z := 10) (by decide +kernel) (by decide +kernel)) ?_
  refine bs_c (pc := 80) (s_iload hx hb (by decide +kernel)) ?_
  refine bs_c (pc := 82) (s_imul hx hb (by decide +kernel) hF) ?_
  refine bs_c (pc := 83) (s_icmp_le hx hb (by decide +kernel) hF) ?_
  refine bs_c (pc := 86) (s_iconst hx hb (z := 1) (by decide +kernel) (by decide +kernel)) ?_
  refine bs_c (pc := 87) (s_goto hx hb (pc' := 0) (by decide +kernel)) ?_
  exact bs_n
set_option maxRecDepth 20000 in
theorem b_128_4 (C : CX p l s m args meth c d E F 128) : BB p l e s m args below meth c d E F K0 128 90 rc_128_4 := by
  obtain ⟨hx, hb, hml, hown, hts, hr, hlocks, hnm, hKN, hb0, hF⟩ := C
  have hb : c.code = prog_10_method_54_code := hb
  have hown : s.vm.findClass "RudeCouponsModel" = some m.cls := hown
  have hr : meth.sig.returnType = some .int := hr
  refine bs_c (pc := 90) (s_iconst hx hb (z := 0) (by decide +kernel) (by decide +kernel)) ?_
  refine bs_c (pc := 91) (s_fall (pc' := 0) (by decide +kernel)) ?_
  exact bs_n
set_option maxRecDepth 20000 in
theorem b_128_5 (C : CX p l s m args meth c d E F 128) : BB p l e s m args below meth c d E F K0 128 91 rc_128_5 := by
  obtain ⟨hx, hb, hml, hown, hts, hr, hlocks, hnm, hKN, hb0, hF⟩ := C
  have hb : c.code = prog_10_method_54_code := hb
  have hown : s.vm.findClass "RudeCouponsModel" = some m.cls := hown
  have hr : meth.sig.returnType = some .int := hr
  refine bs_c (pc := 91) (s_ireturn hx hb hr hlocks (pc' := 0) (by decide +kernel)) ?_
  exact bs_n
set_option maxRecDepth 20000 in
theorem b_129_0 (C : CX p l s m args meth c d E F 129) : BB p l e s m args below meth c d E F K0 129 0 rc_129_0 := by
  obtain ⟨hx, hb, hml, hown, hts, hr, hlocks, hnm, hKN, hb0, hF⟩ := C
  have hb : c.code = prog_10_method_55_code := hb
  have hown : s.vm.findClass "RudeCouponsModel" = some m.cls := hown
  have hr : meth.sig.returnType = some .int := hr
  refine bs_c (pc := 0) (s_aload_n hx hb (k := 0) (by decide +kernel) rfl) ?_
  refine bs_c (pc := 1) (s_iload_n hx hb (k := 1) (by decide +kernel) rfl) ?_
  refine bs_c (pc := 2) (s_call rfl rfl (rk_V hx hb hml (index := 162) (y := 9) (n := 1) hown hts wc_9 (k := 8) rfl rfl lm_8_162 wk_9 wv_9 wi_9 wp_9 (by decide +kernel) (by decide +kernel)) hKN hb0) ?_
  refine bs_c (pc := 5) (s_if_eq hx hb (by decide +kernel) hF) ?_
  refine bs_c (pc := 8) (s_aload_n hx hb (k := 0) (by decide +kernel) rfl) ?_
  refine bs_c (pc := 9) (s_getf hx hb hts in_8 hown hKN.1 (ci := 8) rfl (k := 7) (by decide) (hts _ lf_8_22) (by decide +kernel)) ?_
  refine bs_c (pc := 12) (s_bipush hx hb (z := 20) (by decide +kernel) (by decide +kernel)) ?_
  refine bs_c (pc := 14) (s_iload_n hx hb (k := 1) (by decide +kernel) rfl) ?_
  refine bs_c (pc := 15) (s_iadd hx hb (by decide +kernel)) ?_
  refine bs_c (pc := 16) (s_ald0 hx hb hKN.1 (by decide +kernel)) ?_
  refine bs_c (pc := 17) (s_goto hx hb (pc' := 0) (by decide +kernel)) ?_
  exact bs_n
set_option maxRecDepth 20000 in
theorem b_129_1 (C : CX p l s m args meth c d E F 129) : BB p l e s m args below meth c d E F K0 129 20 rc_129_1 := by
  obtain ⟨hx, hb, hml, hown, hts, hr, hlocks, hnm, hKN, hb0, hF⟩ := C
  have hb : c.code = prog_10_method_55_code := hb
  have hown : s.vm.findClass "RudeCouponsModel" = some m.cls := hown
  have hr : meth.sig.returnType = some .int := hr
  refine bs_c (pc := 20) (s_iconst hx hb (z := -1) (by decide +kernel) (by decide +kernel)) ?_
  refine bs_c (pc := 21) (s_fall (pc' := 0) (by decide +kernel)) ?_
  exact bs_n
set_option maxRecDepth 20000 in
theorem b_129_2 (C : CX p l s m args meth c d E F 129) : BB p l e s m args below meth c d E F K0 129 21 rc_129_2 := by
  obtain ⟨hx, hb, hml, hown, hts, hr, hlocks, hnm, hKN, hb0, hF⟩ := C
  have hb : c.code = prog_10_method_55_code := hb
  have hown : s.vm.findClass "RudeCouponsModel" = some m.cls := hown
  have hr : meth.sig.returnType = some .int := hr
  refine bs_c (pc := 21) (s_ireturn hx hb hr hlocks (pc' := 0) (by decide +kernel)) ?_
  exact bs_n
set_option maxRecDepth 20000 in
theorem b_130_0 (C : CX p l s m args meth c d E F 130) : BB p l e s m args below meth c d E F K0 130 0 rc_130_0 := by
  obtain ⟨hx, hb, hml, hown, hts, hr, hlocks, hnm, hKN, hb0, hF⟩ := C
  have hb : c.code = prog_10_method_56_code := hb
  have hown : s.vm.findClass "RudeCouponsModel" = some m.cls := hown
  have hr : meth.sig.returnType = some .int := hr
  refine bs_c (pc := 0) (s_iload_n hx hb (k := 1) (by decide +kernel) rfl) ?_
  refine bs_c (pc := 1) (s_iconst hx hb (z := -1) (by decide +kernel) (by decide +kernel)) ?_
  refine bs_c (pc := 2) (s_aload_n hx hb (k := 0) (by decide +kernel) rfl) ?_
  refine bs_c (pc := 3) (s_getf hx hb hts in_8 hown hKN.1 (ci := 8) rfl (k := 0) (by decide) (hts _ lf_8_84) (by decide +kernel)) ?_
  refine bs_c (pc := 6) (s_iconst hx hb (z := 1) (by decide +kernel) (by decide +kernel)) ?_
  refine bs_c (pc := 7) (s_isub hx hb (by decide +kernel)) ?_
  refine bs_c (pc := 8) (s_call rfl rfl (rk_S hx hb hml (index := 87) (y := 7) (n := 3) hown hts wc_7 lm_8_87 wk_7 wi_7 wp_7 (by decide +kernel) (by decide +kernel)) hKN hb0) ?_
  refine bs_c (pc := 11) (s_if_ne hx hb (by decide +kernel) hF) ?_
  refine bs_c (pc := 14) (s_iconst hx hb (z := -1) (by decide +kernel) (by decide +kernel)) ?_
  refine bs_c (pc := 15) (s_ireturn hx hb hr hlocks (pc' := 0) (by decide +kernel)) ?_
  exact bs_n
set_option maxRecDepth 20000 in
theorem b_130_1 (C : CX p l s m args meth c d E F 130) : BB p l e s m args below meth c d E F K0 130 16 rc_130_1 := by
  obtain ⟨hx, hb, hml, hown, hts, hr, hlocks, hnm, hKN, hb0, hF⟩ := C
  have hb : c.code = prog_10_method_56_code := hb
  have hown : s.vm.findClass "RudeCouponsModel" = some m.cls := hown
  have hr : meth.sig.returnType = some .int := hr
  refine bs_c (pc := 16) (s_iconst hx hb (z := 0) (by decide +kernel) (by decide +kernel)) ?_
  refine bs_c (pc := 17) (s_istore_n hx hb (k := 2) (by decide +kernel) rfl (by decide +kernel)) ?_
  refine bs_c (pc := 18) (s_iconst hx hb (z := 0) (by decide +kernel) (by decide +kernel)) ?_
  refine bs_c (pc := 19) (s_istore_n hx hb (k := 3) (by decide +kernel) rfl (by decide +kernel)) ?_
  refine bs_c (pc := 20) (s_fall (pc' := 0) (by decide +kernel)) ?_
  exact bs_n
set_option maxRecDepth 20000 in
theorem b_130_2 (C : CX p l s m args meth c d E F 130) : BB p l e s m args below meth c d E F K0 130 20 rc_130_2 := by
  obtain ⟨hx, hb, hml, hown, hts, hr, hlocks, hnm, hKN, hb0, hF⟩ := C
  have hb : c.code = prog_10_method_56_code := hb
  have hown : s.vm.findClass "RudeCouponsModel" = some m.cls := hown
  have hr : meth.sig.returnType = some .int := hr
  refine bs_c (pc := 20) (s_iload_n hx hb (k := 3) (by decide +kernel) rfl) ?_
  refine bs_c (pc := 21) (s_aload_n hx hb (k := 0) (by decide +kernel) rfl) ?_
  refine bs_c (pc := 22) (s_getf hx hb hts in_8 hown hKN.1 (ci := 8) rfl (k := 0) (by decide) (hts _ lf_8_84) (by decide +kernel)) ?_
  refine bs_c (pc := 25) (s_icmp_ge hx hb (by decide +kernel) hF) ?_
  refine bs_c (pc := 28) (s_iload_n hx hb (k := 2) (by decide +kernel) rfl) ?_
  refine bs_c (pc := 29) (s_iload_n hx hb (k := 1) (by decide +kernel) rfl) ?_
  refine bs_c (pc := 30) (s_if_lt hx hb (by decide +kernel) hF) ?_
  refine bs_c (pc := 33) (s_iload_n hx hb (k := 1) (by decide +kernel) rfl) ?_
  refine bs_c (pc := 34) (s_iload_n hx hb (k := 3) (by decide +kernel) rfl) ?_
  refine bs_c (pc := 35) (s_icmp_ne hx hb (by decide +kernel) hF) ?_
  refine bs_c (pc := 38) (s_fall (pc' := 0) (by decide +kernel)) ?_
  exact bs_n
set_option maxRecDepth 20000 in
theorem b_130_3 (C : CX p l s m args meth c d E F 130) : BB p l e s m args below meth c d E F K0 130 38 rc_130_3 := by
  obtain ⟨hx, hb, hml, hown, hts, hr, hlocks, hnm, hKN, hb0, hF⟩ := C
  have hb : c.code = prog_10_method_56_code := hb
  have hown : s.vm.findClass "RudeCouponsModel" = some m.cls := hown
  have hr : meth.sig.returnType = some .int := hr
  refine bs_c (pc := 38) (s_aload_n hx hb (k := 0) (by decide +kernel) rfl) ?_
  refine bs_c (pc := 39) (s_getf hx hb hts in_8 hown hKN.1 (ci := 8) rfl (k := 7) (by decide) (hts _ lf_8_22) (by decide +kernel)) ?_
  refine bs_c (pc := 42) (s_bipush hx hb (z := 14) (by decide +kernel) (by decide +kernel)) ?_
  refine bs_c (pc := 44) (s_iload_n hx hb (k := 3) (by decide +kernel) rfl) ?_
  refine bs_c (pc := 45) (s_iadd hx hb (by decide +kernel)) ?_
  refine bs_c (pc := 46) (s_ald0 hx hb hKN.1 (by decide +kernel)) ?_
  refine bs_c (pc := 47) (s_goto hx hb (pc' := 0) (by decide +kernel)) ?_
  exact bs_n
set_option maxRecDepth 20000 in
theorem b_130_4 (C : CX p l s m args meth c d E F 130) : BB p l e s m args below meth c d E F K0 130 50 rc_130_4 := by
  obtain ⟨hx, hb, hml, hown, hts, hr, hlocks, hnm, hKN, hb0, hF⟩ := C
  have hb : c.code = prog_10_method_56_code := hb
  have hown : s.vm.findClass "RudeCouponsModel" = some m.cls := hown
  have hr : meth.sig.returnType = some .int := hr
  refine bs_c (pc := 50) (s_iconst hx hb (z := 0) (by decide +kernel) (by decide +kernel)) ?_
  refine bs_c (pc := 51) (s_fall (pc' := 0) (by decide +kernel)) ?_
  exact bs_n
set_option maxRecDepth 20000 in
theorem b_130_5 (C : CX p l s m args meth c d E F 130) : BB p l e s m args below meth c d E F K0 130 51 rc_130_5 := by
  obtain ⟨hx, hb, hml, hown, hts, hr, hlocks, hnm, hKN, hb0, hF⟩ := C
  have hb : c.code = prog_10_method_56_code := hb
  have hown : s.vm.findClass "RudeCouponsModel" = some m.cls := hown
  have hr : meth.sig.returnType = some .int := hr
  refine bs_c (pc := 51) (s_iadd hx hb (by decide +kernel)) ?_
  refine bs_c (pc := 52) (s_istore_n hx hb (k := 2) (by decide +kernel) rfl (by decide +kernel)) ?_
  refine bs_c (pc := 53) (s_iinc hx hb (z := 1) (by decide +kernel) (by decide +kernel) (by decide +kernel)) ?_
  refine bs_c (pc := 56) (s_goto hx hb (pc' := 0) (by decide +kernel)) ?_
  exact bs_n
set_option maxRecDepth 20000 in
theorem b_130_6 (C : CX p l s m args meth c d E F 130) : BB p l e s m args below meth c d E F K0 130 59 rc_130_6 := by
  obtain ⟨hx, hb, hml, hown, hts, hr, hlocks, hnm, hKN, hb0, hF⟩ := C
  have hb : c.code = prog_10_method_56_code := hb
  have hown : s.vm.findClass "RudeCouponsModel" = some m.cls := hown
  have hr : meth.sig.returnType = some .int := hr
  refine bs_c (pc := 59) (s_iload_n hx hb (k := 2) (by decide +kernel) rfl) ?_
  refine bs_c (pc := 60) (s_ireturn hx hb hr hlocks (pc' := 0) (by decide +kernel)) ?_
  exact bs_n
end MTH
