/-! METHODS, block by block, by program: every instruction as its handler says -/
section MTH
variable {p : Program} {l : Launch} {e : Env} {s : State} {m : MethodId} {args : Array Value} {below : List Frame} {meth : Method} {c : Code} {d : mD} {E : mE} {F : mF} {K0 : mK}
set_option maxRecDepth 20000 in
theorem b_107_0 (C : CX p l s m args meth c d E F 107) : BB p l e s m args below meth c d E F K0 107 0 rc_107_0 := by
  obtain ⟨hx, hb, hml, hown, hts, hr, hlocks, hnm, hKN, hb0, hF⟩ := C
  have hb : c.code = prog_10_method_33_code := hb
  have hown : s.vm.findClass "RudeCouponsModel" = some m.cls := hown
  have hr : meth.sig.returnType = some .int := hr
  refine bs_c (pc := 0) (s_aload_n hx hb (k := 0) (by decide +kernel) rfl) ?_
  refine bs_c (pc := 1) (s_iload_n hx hb (k := 1) (by decide +kernel) rfl) ?_
  refine bs_c (pc := 2) (s_call rfl rfl (rk_V hx hb hml (index := 165) (y := 108) (n := 1) hown hts wc_108 (k := 8) rfl rfl lm_8_165 wk_108 wv_108 wi_108 wp_108 (by decide +kernel) (by decide +kernel)) hKN hb0) ?_
  refine bs_c (pc := 5) (s_if_eq hx hb (by decide +kernel) hF) ?_
  refine bs_c (pc := 8) (s_iload_n hx hb (k := 2) (by decide +kernel) rfl) ?_
  refine bs_c (pc := 9) (s_iconst hx hb (z := 0) (by decide +kernel) (by decide +kernel)) ?_
  refine bs_c (pc := 10) (s_iconst hx hb (z := 4) (by decide +kernel) (by decide +kernel)) ?_
  refine bs_c (pc := 11) (s_call rfl rfl (rk_S hx hb hml (index := 87) (y := 7) (n := 3) hown hts wc_7 lm_8_87 wk_7 wi_7 wp_7 (by decide +kernel) (by decide +kernel)) hKN hb0) ?_
  refine bs_c (pc := 14) (s_if_ne hx hb (by decide +kernel) hF) ?_
  refine bs_c (pc := 17) (s_fall (pc' := 0) (by decide +kernel)) ?_
  exact bs_n
set_option maxRecDepth 20000 in
theorem b_107_1 (C : CX p l s m args meth c d E F 107) : BB p l e s m args below meth c d E F K0 107 17 rc_107_1 := by
  obtain ⟨hx, hb, hml, hown, hts, hr, hlocks, hnm, hKN, hb0, hF⟩ := C
  have hb : c.code = prog_10_method_33_code := hb
  have hown : s.vm.findClass "RudeCouponsModel" = some m.cls := hown
  have hr : meth.sig.returnType = some .int := hr
  refine bs_c (pc := 17) (s_iconst hx hb (z := -1) (by decide +kernel) (by decide +kernel)) ?_
  refine bs_c (pc := 18) (s_ireturn hx hb hr hlocks (pc' := 0) (by decide +kernel)) ?_
  exact bs_n
set_option maxRecDepth 20000 in
theorem b_107_2 (C : CX p l s m args meth c d E F 107) : BB p l e s m args below meth c d E F K0 107 19 rc_107_2 := by
  obtain ⟨hx, hb, hml, hown, hts, hr, hlocks, hnm, hKN, hb0, hF⟩ := C
  have hb : c.code = prog_10_method_33_code := hb
  have hown : s.vm.findClass "RudeCouponsModel" = some m.cls := hown
  have hr : meth.sig.returnType = some .int := hr
  refine bs_c (pc := 19) (s_iload_n hx hb (k := 2) (by decide +kernel) rfl) ?_
  refine bs_c (pc := 20) (s_iconst hx hb (z := 3) (by decide +kernel) (by decide +kernel)) ?_
  refine bs_c (pc := 21) (s_icmp_ge hx hb (by decide +kernel) hF) ?_
  refine bs_c (pc := 24) (s_aload_n hx hb (k := 0) (by decide +kernel) rfl) ?_
  refine bs_c (pc := 25) (s_getf hx hb hts in_8 hown hKN.1 (ci := 8) rfl (k := 5) (by decide) (hts _ lf_8_16) (by decide +kernel)) ?_
  refine bs_c (pc := 28) (s_iconst hx hb (z := 3) (by decide +kernel) (by decide +kernel)) ?_
  refine bs_c (pc := 29) (s_iload_n hx hb (k := 1) (by decide +kernel) rfl) ?_
  refine bs_c (pc := 30) (s_imul hx hb (by decide +kernel) hF) ?_
  refine bs_c (pc := 31) (s_iload_n hx hb (k := 2) (by decide +kernel) rfl) ?_
  refine bs_c (pc := 32) (s_iadd hx hb (by decide +kernel)) ?_
  refine bs_c (pc := 33) (s_ald0 hx hb hKN.1 (by decide +kernel)) ?_
  refine bs_c (pc := 34) (s_goto hx hb (pc' := 0) (by decide +kernel)) ?_
  exact bs_n
set_option maxRecDepth 20000 in
theorem b_107_3 (C : CX p l s m args meth c d E F 107) : BB p l e s m args below meth c d E F K0 107 37 rc_107_3 := by
  obtain ⟨hx, hb, hml, hown, hts, hr, hlocks, hnm, hKN, hb0, hF⟩ := C
  have hb : c.code = prog_10_method_33_code := hb
  have hown : s.vm.findClass "RudeCouponsModel" = some m.cls := hown
  have hr : meth.sig.returnType = some .int := hr
  refine bs_c (pc := 37) (s_iload_n hx hb (k := 2) (by decide +kernel) rfl) ?_
  refine bs_c (pc := 38) (s_iconst hx hb (z := 3) (by decide +kernel) (by decide +kernel)) ?_
  refine bs_c (pc := 39) (s_icmp_ne hx hb (by decide +kernel) hF) ?_
  refine bs_c (pc := 42) (s_aload_n hx hb (k := 0) (by decide +kernel) rfl) ?_
  refine bs_c (pc := 43) (s_getf hx hb hts in_8 hown hKN.1 (ci := 8) rfl (k := 7) (by decide) (hts _ lf_8_22) (by decide +kernel)) ?_
  refine bs_c (pc := 46) (s_iconst hx hb (z := 1) (by decide +kernel) (by decide +kernel)) ?_
  refine bs_c (pc := 47) (s_ald0 hx hb hKN.1 (by decide +kernel)) ?_
  refine bs_c (pc := 48) (s_iload_n hx hb (k := 1) (by decide +kernel) rfl) ?_
  refine bs_c (pc := 49) (s_ishr hx hb (by decide +kernel)) ?_
  refine bs_c (pc := 50) (s_iconst hx hb (z := 1) (by decide +kernel) (by decide +kernel)) ?_
  refine bs_c (pc := 51) (s_iand hx hb (by decide +kernel)) ?_
  refine bs_c (pc := 52) (s_goto hx hb (pc' := 0) (by decide +kernel)) ?_
  exact bs_n
set_option maxRecDepth 20000 in
theorem b_107_4 (C : CX p l s m args meth c d E F 107) : BB p l e s m args below meth c d E F K0 107 55 rc_107_4 := by
  obtain ⟨hx, hb, hml, hown, hts, hr, hlocks, hnm, hKN, hb0, hF⟩ := C
  have hb : c.code = prog_10_method_33_code := hb
  have hown : s.vm.findClass "RudeCouponsModel" = some m.cls := hown
  have hr : meth.sig.returnType = some .int := hr
  refine bs_c (pc := 55) (s_aload_n hx hb (k := 0) (by decide +kernel) rfl) ?_
  refine bs_c (pc := 56) (s_iload_n hx hb (k := 1) (by decide +kernel) rfl) ?_
  refine bs_c (pc := 57) (s_call rfl rfl (rk_V hx hb hml (index := 168) (y := 109) (n := 1) hown hts wc_109 (k := 8) rfl rfl lm_8_168 wk_109 wv_109 wi_109 wp_109 (by decide +kernel) (by decide +kernel)) hKN hb0) ?_
  refine bs_c (pc := 60) (s_if_eq hx hb (by decide +kernel) hF) ?_
  refine bs_c (pc := 63) (s_iconst hx hb (z := 1) (by decide +kernel) (by decide +kernel)) ?_
  refine bs_c (pc := 64) (s_goto hx hb (pc' := 0) (by decide +kernel)) ?_
  exact bs_n
set_option maxRecDepth 20000 in
theorem b_107_5 (C : CX p l s m args meth c d E F 107) : BB p l e s m args below meth c d E F K0 107 67 rc_107_5 := by
  obtain ⟨hx, hb, hml, hown, hts, hr, hlocks, hnm, hKN, hb0, hF⟩ := C
  have hb : c.code = prog_10_method_33_code := hb
  have hown : s.vm.findClass "RudeCouponsModel" = some m.cls := hown
  have hr : meth.sig.returnType = some .int := hr
  refine bs_c (pc := 67) (s_iconst hx hb (z := 0) (by decide +kernel) (by decide +kernel)) ?_
  refine bs_c (pc := 68) (s_fall (pc' := 0) (by decide +kernel)) ?_
  exact bs_n
set_option maxRecDepth 20000 in
theorem b_107_6 (C : CX p l s m args meth c d E F 107) : BB p l e s m args below meth c d E F K0 107 68 rc_107_6 := by
  obtain ⟨hx, hb, hml, hown, hts, hr, hlocks, hnm, hKN, hb0, hF⟩ := C
  have hb : c.code = prog_10_method_33_code := hb
  have hown : s.vm.findClass "RudeCouponsModel" = some m.cls := hown
  have hr : meth.sig.returnType = some .int := hr
  refine bs_c (pc := 68) (s_ireturn hx hb hr hlocks (pc' := 0) (by decide +kernel)) ?_
  exact bs_n
set_option maxRecDepth 20000 in
theorem b_108_0 (C : CX p l s m args meth c d E F 108) : BB p l e s m args below meth c d E F K0 108 0 rc_108_0 := by
  obtain ⟨hx, hb, hml, hown, hts, hr, hlocks, hnm, hKN, hb0, hF⟩ := C
  have hb : c.code = prog_10_method_9_code := hb
  have hown : s.vm.findClass "RudeCouponsModel" = some m.cls := hown
  have hr : meth.sig.returnType = some .boolean := hr
  refine bs_c (pc := 0) (s_iload_n hx hb (k := 1) (by decide +kernel) rfl) ?_
  refine bs_c (pc := 1) (s_iconst hx hb (z := 0) (by decide +kernel) (by decide +kernel)) ?_
  refine bs_c (pc := 2) (s_aload_n hx hb (k := 0) (by decide +kernel) rfl) ?_
  refine bs_c (pc := 3) (s_getf hx hb hts in_8 hown hKN.1 (ci := 8) rfl (k := 4) (by decide) (hts _ lf_8_91) (by decide +kernel)) ?_
  refine bs_c (pc := 6) (s_iconst hx hb (z := 1) (by decide +kernel) (by decide +kernel)) ?_
  refine bs_c (pc := 7) (s_isub hx hb (by decide +kernel)) ?_
  refine bs_c (pc := 8) (s_call rfl rfl (rk_S hx hb hml (index := 87) (y := 7) (n := 3) hown hts wc_7 lm_8_87 wk_7 wi_7 wp_7 (by decide +kernel) (by decide +kernel)) hKN hb0) ?_
  refine bs_c (pc := 11) (s_zreturn hx hb hr nar_z hlocks (pc' := 0) (by decide +kernel)) ?_
  exact bs_n
set_option maxRecDepth 20000 in
theorem b_109_0 (C : CX p l s m args meth c d E F 109) : BB p l e s m args below meth c d E F K0 109 0 rc_109_0 := by
  obtain ⟨hx, hb, hml, hown, hts, hr, hlocks, hnm, hKN, hb0, hF⟩ := C
  have hb : c.code = prog_10_method_30_code := hb
  have hown : s.vm.findClass "RudeCouponsModel" = some m.cls := hown
  have hr : meth.sig.returnType = some .boolean := hr
  refine bs_c (pc := 0) (s_aload_n hx hb (k := 0) (by decide +kernel) rfl) ?_
  refine bs_c (pc := 1) (s_getf hx hb hts in_8 hown hKN.1 (ci := 8) rfl (k := 5) (by decide) (hts _ lf_8_16) (by decide +kernel)) ?_
  refine bs_c (pc := 4) (s_iconst hx hb (z := 3) (by decide +kernel) (by decide +kernel)) ?_
  refine bs_c (pc := 5) (s_iload_n hx hb (k := 1) (by decide +kernel) rfl) ?_
  refine bs_c (pc := 6) (s_imul hx hb (by decide +kernel) hF) ?_
  refine bs_c (pc := 7) (s_ald0 hx hb hKN.1 (by decide +kernel)) ?_
  refine bs_c (pc := 8) (s_aload_n hx hb (k := 0) (by decide +kernel) rfl) ?_
  refine bs_c (pc := 9) (s_getf hx hb hts in_8 hown hKN.1 (ci := 8) rfl (k := 7) (by decide) (hts _ lf_8_22) (by decide +kernel)) ?_
  refine bs_c (pc := 12) (s_iconst hx hb (z := 0) (by decide +kernel) (by decide +kernel)) ?_
  refine bs_c (pc := 13) (s_ald0 hx hb hKN.1 (by decide +kernel)) ?_
  refine bs_c (pc := 14) (s_icmp_ne hx hb (by decide +kernel) hF) ?_
  refine bs_c (pc := 17) (s_aload_n hx hb (k := 0) (by decide +kernel) rfl) ?_
  refine bs_c (pc := 18) (s_getf hx hb hts in_8 hown hKN.1 (ci := 8) rfl (k := 7) (by decide) (hts _ lf_8_22) (by decide +kernel)) ?_
  refine bs_c (pc := 21) (s_iconst hx hb (z := 1) (by decide +kernel) (by decide +kernel)) ?_
  refine bs_c (pc := 22) (s_ald0 hx hb hKN.1 (by decide +kernel)) ?_
  refine bs_c (pc := 23) (s_iload_n hx hb (k := 1) (by decide +kernel) rfl) ?_
  refine bs_c (pc := 24) (s_call rfl rfl (rk_S hx hb hml (index := 154) (y := 0) (n := 2) hown hts wc_0 lm_8_154 wk_0 wi_0 wp_0 (by decide +kernel) (by decide +kernel)) hKN hb0) ?_
  refine bs_c (pc := 27) (s_if_ne hx hb (by decide +kernel) hF) ?_
  refine bs_c (pc := 30) (s_aload_n hx hb (k := 0) (by decide +kernel) rfl) ?_
  refine bs_c (pc := 31) (s_iload_n hx hb (k := 1) (by decide +kernel) rfl) ?_
  refine bs_c (pc := 32) (s_aload_n hx hb (k := 0) (by decide +kernel) rfl) ?_
  refine bs_c (pc := 33) (s_getf hx hb hts in_8 hown hKN.1 (ci := 8) rfl (k := 7) (by decide) (hts _ lf_8_22) (by decide +kernel)) ?_
  refine bs_c (pc := 36) (s_iconst hx hb (z := 2) (by decide +kernel) (by decide +kernel)) ?_
  refine bs_c (pc := 37) (s_aload_n hx hb (k := 0) (by decide +kernel) rfl) ?_
  refine bs_c (pc := 38) (s_iload_n hx hb (k := 1) (by decide +kernel) rfl) ?_
  refine bs_c (pc := 39) (s_call rfl rfl (rk_V hx hb hml (index := 147) (y := 1) (n := 1) hown hts wc_1 (k := 8) rfl rfl lm_8_147 wk_1 wv_1 wi_1 wp_1 (by decide +kernel) (by decide +kernel)) hKN hb0) ?_
  refine bs_c (pc := 42) (s_iadd hx hb (by decide +kernel)) ?_
  refine bs_c (pc := 43) (s_ald0 hx hb hKN.1 (by decide +kernel)) ?_
  refine bs_c (pc := 44) (s_call rfl rfl (rk_V hx hb hml (index := 158) (y := 3) (n := 2) hown hts wc_3 (k := 8) rfl rfl lm_8_158 wk_3 wv_3 wi_3 wp_3 (by decide +kernel) (by decide +kernel)) hKN hb0) ?_
  refine bs_c (pc := 47) (s_if_lt hx hb (by decide +kernel) hF) ?_
  refine bs_c (pc := 50) (s_iconst hx hb (z := 1) (by decide +kernel) (by decide +kernel)) ?_
  refine bs_c (pc := 51) (s_goto hx hb (pc' := 0) (by decide +kernel)) ?_
  exact bs_n
set_option maxRecDepth 20000 in
theorem b_109_1 (C : CX p l s m args meth c d E F 109) : BB p l e s m args below meth c d E F K0 109 54 rc_109_1 := by
  obtain ⟨hx, hb, hml, hown, hts, hr, hlocks, hnm, hKN, hb0, hF⟩ := C
  have hb : c.code = prog_10_method_30_code := hb
  have hown : s.vm.findClass "RudeCouponsModel" = some m.cls := hown
  have hr : meth.sig.returnType = some .boolean := hr
  refine bs_c (pc := 54) (s_iconst hx hb (z := 0) (by decide +kernel) (by decide +kernel)) ?_
  refine bs_c (pc := 55) (s_fall (pc' := 0) (by decide +kernel)) ?_
  exact bs_n
set_option maxRecDepth 20000 in
theorem b_109_2 (C : CX p l s m args meth c d E F 109) : BB p l e s m args below meth c d E F K0 109 55 rc_109_2 := by
  obtain ⟨hx, hb, hml, hown, hts, hr, hlocks, hnm, hKN, hb0, hF⟩ := C
  have hb : c.code = prog_10_method_30_code := hb
  have hown : s.vm.findClass "RudeCouponsModel" = some m.cls := hown
  have hr : meth.sig.returnType = some .boolean := hr
  refine bs_c (pc := 55) (s_zreturn hx hb hr nar_z hlocks (pc' := 0) (by decide +kernel)) ?_
  exact bs_n
set_option maxRecDepth 20000 in
theorem b_110_0 (C : CX p l s m args meth c d E F 110) : BB p l e s m args below meth c d E F K0 110 0 rc_110_0 := by
  obtain ⟨hx, hb, hml, hown, hts, hr, hlocks, hnm, hKN, hb0, hF⟩ := C
  have hb : c.code = prog_10_method_35_code := hb
  have hown : s.vm.findClass "RudeCouponsModel" = some m.cls := hown
  have hr : meth.sig.returnType = some .int := hr
  refine bs_c (pc := 0) (s_aload_n hx hb (k := 0) (by decide +kernel) rfl) ?_
  refine bs_c (pc := 1) (s_iload_n hx hb (k := 1) (by decide +kernel) rfl) ?_
  refine bs_c (pc := 2) (s_call rfl rfl (rk_V hx hb hml (index := 165) (y := 108) (n := 1) hown hts wc_108 (k := 8) rfl rfl lm_8_165 wk_108 wv_108 wi_108 wp_108 (by decide +kernel) (by decide +kernel)) hKN hb0) ?_
  refine bs_c (pc := 5) (s_if_ne hx hb (by decide +kernel) hF) ?_
  refine bs_c (pc := 8) (s_iconst hx hb (z := -1) (by decide +kernel) (by decide +kernel)) ?_
  refine bs_c (pc := 9) (s_ireturn hx hb hr hlocks (pc' := 0) (by decide +kernel)) ?_
  exact bs_n
set_option maxRecDepth 20000 in
theorem b_110_1 (C : CX p l s m args meth c d E F 110) : BB p l e s m args below meth c d E F K0 110 10 rc_110_1 := by
  obtain ⟨hx, hb, hml, hown, hts, hr, hlocks, hnm, hKN, hb0, hF⟩ := C
  have hb : c.code = prog_10_method_35_code := hb
  have hown : s.vm.findClass "RudeCouponsModel" = some m.cls := hown
  have hr : meth.sig.returnType = some .int := hr
  refine bs_c (pc := 10) (s_aload_n hx hb (k := 0) (by decide +kernel) rfl) ?_
  refine bs_c (pc := 11) (s_iload_n hx hb (k := 1) (by decide +kernel) rfl) ?_
  refine bs_c (pc := 12) (s_call rfl rfl (rk_V hx hb hml (index := 168) (y := 109) (n := 1) hown hts wc_109 (k := 8) rfl rfl lm_8_168 wk_109 wv_109 wi_109 wp_109 (by decide +kernel) (by decide +kernel)) hKN hb0) ?_
  refine bs_c (pc := 15) (s_if_ne hx hb (by decide +kernel) hF) ?_
  refine bs_c (pc := 18) (s_bipush hx hb (z := -2) (by decide +kernel) (by decide +kernel)) ?_
  refine bs_c (pc := 20) (s_ireturn hx hb hr hlocks (pc' := 0) (by decide +kernel)) ?_
  exact bs_n
set_option maxRecDepth 20000 in
theorem b_110_2 (C : CX p l s m args meth c d E F 110) : BB p l e s m args below meth c d E F K0 110 21 rc_110_2 := by
  obtain ⟨hx, hb, hml, hown, hts, hr, hlocks, hnm, hKN, hb0, hF⟩ := C
  have hb : c.code = prog_10_method_35_code := hb
  have hown : s.vm.findClass "RudeCouponsModel" = some m.cls := hown
  have hr : meth.sig.returnType = some .int := hr
  refine bs_c (pc := 21) (s_aload_n hx hb (k := 0) (by decide +kernel) rfl) ?_
  refine bs_c (pc := 22) (s_call rfl rfl (rk_V hx hb hml (index := 171) (y := 111) (n := 0) hown hts wc_111 (k := 8) rfl rfl lm_8_171 wk_111 wv_111 wi_111 wp_111 (by decide +kernel) (by decide +kernel)) hKN hb0) ?_
  refine bs_c (pc := 25) (s_aload_n hx hb (k := 0) (by decide +kernel) rfl) ?_
  refine bs_c (pc := 26) (s_iload_n hx hb (k := 1) (by decide +kernel) rfl) ?_
  refine bs_c (pc := 27) (s_call rfl rfl (rk_V hx hb hml (index := 147) (y := 1) (n := 1) hown hts wc_1 (k := 8) rfl rfl lm_8_147 wk_1 wv_1 wi_1 wp_1 (by decide +kernel) (by decide +kernel)) hKN hb0) ?_
  refine bs_c (pc := 30) (s_istore_n hx hb (k := 2) (by decide +kernel) rfl (by decide +kernel)) ?_
  refine bs_c (pc := 31) (s_aload_n hx hb (k := 0) (by decide +kernel) rfl) ?_
  refine bs_c (pc := 32) (s_getf hx hb hts in_8 hown hKN.1 (ci := 8) rfl (k := 7) (by decide) (hts _ lf_8_22) (by decide +kernel)) ?_
  refine bs_c (pc := 35) (s_iconst hx hb (z := 1) (by decide +kernel) (by decide +kernel)) ?_
  refine bs_c (pc := 36) (s_dup2 hx hb (by decide +kernel)) ?_
  refine bs_c (pc := 37) (s_ald0 hx hb hKN.1 (by decide +kernel)) ?_
  refine bs_c (pc := 38) (s_iconst hx hb (z := 1) (by decide +kernel) (by decide +kernel)) ?_
  refine bs_c (pc := 39) (s_iload_n hx hb (k := 1) (by decide +kernel) rfl) ?_
  refine bs_c (pc := 40) (s_ishl hx hb (by decide +kernel)) ?_
  refine bs_c (pc := 41) (s_ior hx hb (by decide +kernel)) ?_
  refine bs_c (pc := 42) (s_ast0 hx hb hKN.1 (by decide +kernel)) ?_
  refine bs_c (pc := 43) (s_aload_n hx hb (k := 0) (by decide +kernel) rfl) ?_
  refine bs_c (pc := 44) (s_getf hx hb hts in_8 hown hKN.1 (ci := 8) rfl (k := 7) (by decide) (hts _ lf_8_22) (by decide +kernel)) ?_
  refine bs_c (pc := 47) (s_iconst hx hb (z := 2) (by decide +kernel) (by decide +kernel)) ?_
  refine bs_c (pc := 48) (s_iload_n hx hb (k := 2) (by decide +kernel) rfl) ?_
  refine bs_c (pc := 49) (s_iadd hx hb (by decide +kernel)) ?_
  refine bs_c (pc := 50) (s_aload_n hx hb (k := 0) (by decide +kernel) rfl) ?_
  refine bs_c (pc := 51) (s_iload_n hx hb (k := 1) (by decide +kernel) rfl) ?_
  refine bs_c (pc := 52) (s_aload_n hx hb (k := 0) (by decide +kernel) rfl) ?_
  refine bs_c (pc := 53) (s_getf hx hb hts in_8 hown hKN.1 (ci := 8) rfl (k := 7) (by decide) (hts _ lf_8_22) (by decide +kernel)) ?_
  refine bs_c (pc := 56) (s_iconst hx hb (z := 2) (by decide +kernel) (by decide +kernel)) ?_
  refine bs_c (pc := 57) (s_iload_n hx hb (k := 2) (by decide +kernel) rfl) ?_
  refine bs_c (pc := 58) (s_iadd hx hb (by decide +kernel)) ?_
  refine bs_c (pc := 59) (s_ald0 hx hb hKN.1 (by decide +kernel)) ?_
  refine bs_c (pc := 60) (s_call rfl rfl (rk_V hx hb hml (index := 158) (y := 3) (n := 2) hown hts wc_3 (k := 8) rfl rfl lm_8_158 wk_3 wv_3 wi_3 wp_3 (by decide +kernel) (by decide +kernel)) hKN hb0) ?_
  refine bs_c (pc := 63) (s_ast0 hx hb hKN.1 (by decide +kernel)) ?_
  refine bs_c (pc := 64) (s_aload_n hx hb (k := 0) (by decide +kernel) rfl) ?_
  refine bs_c (pc := 65) (s_getf hx hb hts in_8 hown hKN.1 (ci := 8) rfl (k := 7) (by decide) (hts _ lf_8_22) (by decide +kernel)) ?_
  refine bs_c (pc := 68) (s_bipush hx hb (z := 8) (by decide +kernel) (by decide +kernel)) ?_
  refine bs_c (pc := 70) (s_iload_n hx hb (k := 2) (by decide +kernel) rfl) ?_
  refine bs_c (pc := 71) (s_iadd hx hb (by decide +kernel)) ?_
  refine bs_c (pc := 72) (s_dup2 hx hb (by decide +kernel)) ?_
  refine bs_c (pc := 73) (s_ald0 hx hb hKN.1 (by decide +kernel)) ?_
  refine bs_c (pc := 74) (s_aload_n hx hb (k := 0) (by decide +kernel) rfl) ?_
  refine bs_c (pc := 75) (s_iload_n hx hb (k := 1) (by decide +kernel) rfl) ?_
  refine bs_c (pc := 76) (s_call rfl rfl (rk_V hx hb hml (index := 174) (y := 4) (n := 1) hown hts wc_4 (k := 8) rfl rfl lm_8_174 wk_4 wv_4 wi_4 wp_4 (by decide +kernel) (by decide +kernel)) hKN hb0) ?_
  refine bs_c (pc := 79) (s_iadd hx hb (by decide +kernel)) ?_
  refine bs_c (pc := 80) (s_ast0 hx hb hKN.1 (by decide +kernel)) ?_
  refine bs_c (pc := 81) (s_iconst hx hb (z := 0) (by decide +kernel) (by decide +kernel)) ?_
  refine bs_c (pc := 82) (s_istore_n hx hb (k := 3) (by decide +kernel) rfl (by decide +kernel)) ?_
  refine bs_c (pc := 83) (s_fall (pc' := 0) (by decide +kernel)) ?_
  exact bs_n
set_option maxRecDepth 20000 in
theorem b_110_3 (C : CX p l s m args meth c d E F 110) : BB p l e s m args below meth c d E F K0 110 83 rc_110_3 := by
  obtain ⟨hx, hb, hml, hown, hts, hr, hlocks, hnm, hKN, hb0, hF⟩ := C
  have hb : c.code = prog_10_method_35_code := hb
  have hown : s.vm.findClass "RudeCouponsModel" = some m.cls := hown
  have hr : meth.sig.returnType = some .int := hr
  refine bs_c (pc := 83) (s_iload_n hx hb (k := 3) (by decide +kernel) rfl) ?_
  refine bs_c (pc := 84) (s_aload_n hx hb (k := 0) (by decide +kernel) rfl) ?_
  refine bs_c (pc := 85) (s_getf hx hb hts in_8 hown hKN.1 (ci := 8) rfl (k := 0) (by decide) (hts _ lf_8_84) (by decide +kernel)) ?_
  refine bs_c (pc := 88) (s_icmp_ge hx hb (by decide +kernel) hF) ?_
  refine bs_c (pc := 91) (s_aload_n hx hb (k := 0) (by decide +kernel) rfl) ?_
  refine bs_c (pc := 92) (s_getf hx hb hts in_8 hown hKN.1 (ci := 8) rfl (k := 7) (by decide) (hts _ lf_8_22) (by decide +kernel)) ?_
  refine bs_c (pc := 95) (s_bipush hx hb (z := 14) (by decide +kernel) (by decide +kernel)) ?_
  refine bs_c (pc := 97) (s_iload_n hx hb (k := 3) (by decide +kernel) rfl) ?_
  refine bs_c (pc := 98) (s_iadd hx hb (by decide +kernel)) ?_
  refine bs_c (pc := 99) (s_dup2 hx hb (by decide +kernel)) ?_
  refine bs_c (pc := 100) (s_ald0 hx hb hKN.1 (by decide +kernel)) ?_
  refine bs_c (pc := 101) (s_iload_n hx hb (k := 3) (by decide +kernel) rfl) ?_
  refine bs_c (pc := 102) (s_iload_n hx hb (k := 2) (by decide +kernel) rfl) ?_
  refine bs_c (pc := 103) (s_icmp_ne hx hb (by decide +kernel) hF) ?_
  refine bs_c (pc := 106) (s_iconst hx hb (z := 0) (by decide +kernel) (by decide +kernel)) ?_
  refine bs_c (pc := 107) (s_goto hx hb (pc' := 0) (by decide +kernel)) ?_
  exact bs_n
set_option maxRecDepth 20000 in
theorem b_110_4 (C : CX p l s m args meth c d E F 110) : BB p l e s m args below meth c d E F K0 110 110 rc_110_4 := by
  obtain ⟨hx, hb, hml, hown, hts, hr, hlocks, hnm, hKN, hb0, hF⟩ := C
  have hb : c.code = prog_10_method_35_code := hb
  have hown : s.vm.findClass "RudeCouponsModel" = some m.cls := hown
  have hr : meth.sig.returnType = some .int := hr
  refine bs_c (pc := 110) (s_aload_n hx hb (k := 0) (by decide +kernel) rfl) ?_
  refine bs_c (pc := 111) (s_iload_n hx hb (k := 3) (by decide +kernel) rfl) ?_
  refine bs_c (pc := 112) (s_aload_n hx hb (k := 0) (by decide +kernel) rfl) ?_
  refine bs_c (pc := 113) (s_getf hx hb hts in_8 hown hKN.1 (ci := 8) rfl (k := 5) (by decide) (hts _ lf_8_16) (by decide +kernel)) ?_
  refine bs_c (pc := 116) (s_iconst hx hb (z := 3) (by decide +kernel) (by decide +kernel)) ?_
  refine bs_c (pc := 117) (s_iload_n hx hb (k := 1) (by decide +kernel) rfl) ?_
  refine bs_c (pc := 118) (s_imul hx hb (by decide +kernel) hF) ?_
  refine bs_c (pc := 119) (s_iconst hx hb (z := 2) (by decide +kernel) (by decide +kernel)) ?_
  refine bs_c (pc := 120) (s_iadd hx hb (by decide +kernel)) ?_
  refine bs_c (pc := 121) (s_ald0 hx hb hKN.1 (by decide +kernel)) ?_
  refine bs_c (pc := 122) (s_call rfl rfl (rk_V hx hb hml (index := 177) (y := 8) (n := 2) hown hts wc_8 (k := 8) rfl rfl lm_8_177 wk_8 wv_8 wi_8 wp_8 (by decide +kernel) (by decide +kernel)) hKN hb0) ?_
  refine bs_c (pc := 125) (s_fall (pc' := 0) (by decide +kernel)) ?_
  exact bs_n
set_option maxRecDepth 20000 in
theorem b_110_5 (C : CX p l s m args meth c d E F 110) : BB p l e s m args below meth c d E F K0 110 125 rc_110_5 := by
  obtain ⟨hx, hb, hml, hown, hts, hr, hlocks, hnm, hKN, hb0, hF⟩ := C
  have hb : c.code = prog_10_method_35_code := hb
  have hown : s.vm.findClass "RudeCouponsModel" = some m.cls := hown
  have hr : meth.sig.returnType = some .int := hr
  refine bs_c (pc := 125) (s_iadd hx hb (by decide +kernel)) ?_
  refine bs_c (pc := 126) (s_ast0 hx hb hKN.1 (by decide +kernel)) ?_
  refine bs_c (pc := 127) (s_iinc hx hb (z := 1) (by decide +kernel) (by decide +kernel) (by decide +kernel)) ?_
  refine bs_c (pc := 130) (s_goto hx hb (pc' := 0) (by decide +kernel)) ?_
  exact bs_n
set_option maxRecDepth 20000 in
theorem b_110_6 (C : CX p l s m args meth c d E F 110) : BB p l e s m args below meth c d E F K0 110 133 rc_110_6 := by
  obtain ⟨hx, hb, hml, hown, hts, hr, hlocks, hnm, hKN, hb0, hF⟩ := C
  have hb : c.code = prog_10_method_35_code := hb
  have hown : s.vm.findClass "RudeCouponsModel" = some m.cls := hown
  have hr : meth.sig.returnType = some .int := hr
  refine bs_c (pc := 133) (s_aload_n hx hb (k := 0) (by decide +kernel) rfl) ?_
  refine bs_c (pc := 134) (s_getf hx hb hts in_8 hown hKN.1 (ci := 8) rfl (k := 7) (by decide) (hts _ lf_8_22) (by decide +kernel)) ?_
  refine bs_c (pc := 137) (s_iconst hx hb (z := 2) (by decide +kernel) (by decide +kernel)) ?_
  refine bs_c (pc := 138) (s_iload_n hx hb (k := 2) (by decide +kernel) rfl) ?_
  refine bs_c (pc := 139) (s_iadd hx hb (by decide +kernel)) ?_
  refine bs_c (pc := 140) (s_ald0 hx hb hKN.1 (by decide +kernel)) ?_
  refine bs_c (pc := 141) (s_ireturn hx hb hr hlocks (pc' := 0) (by decide +kernel)) ?_
  exact bs_n
set_option maxRecDepth 20000 in
theorem b_111_0 (C : CX p l s m args meth c d E F 111) : BB p l e s m args below meth c d E F K0 111 0 rc_111_0 := by
  obtain ⟨hx, hb, hml, hown, hts, hr, hlocks, hnm, hKN, hb0, hF⟩ := C
  have hb : c.code = prog_10_method_34_code := hb
  have hown : s.vm.findClass "RudeCouponsModel" = some m.cls := hown
  have hr : meth.sig.returnType = none := hr
  refine bs_c (pc := 0) (s_aload_n hx hb (k := 0) (by decide +kernel) rfl) ?_
  refine bs_c (pc := 1) (s_getf hx hb hts in_8 hown hKN.1 (ci := 8) rfl (k := 8) (by decide) (hts _ lf_8_138) (by decide +kernel)) ?_
  refine bs_c (pc := 4) (s_bipush hx hb (z := 8) (by decide +kernel) (by decide +kernel)) ?_
  refine bs_c (pc := 6) (s_icmp_ne hx hb (by decide +kernel) hF) ?_
  refine bs_c (pc := 9) (s_iconst hx hb (z := 0) (by decide +kernel) (by decide +kernel)) ?_
  refine bs_c (pc := 10) (s_istore_n hx hb (k := 1) (by decide +kernel) rfl (by decide +kernel)) ?_
  refine bs_c (pc := 11) (s_fall (pc' := 0) (by decide +kernel)) ?_
  exact bs_n
set_option maxRecDepth 20000 in
theorem b_111_1 (C : CX p l s m args meth c d E F 111) : BB p l e s m args below meth c d E F K0 111 11 rc_111_1 := by
  obtain ⟨hx, hb, hml, hown, hts, hr, hlocks, hnm, hKN, hb0, hF⟩ := C
  have hb : c.code = prog_10_method_34_code := hb
  have hown : s.vm.findClass "RudeCouponsModel" = some m.cls := hown
  have hr : meth.sig.returnType = none := hr
  refine bs_c (pc := 11) (s_iload_n hx hb (k := 1) (by decide +kernel) rfl) ?_
  refine bs_c (pc := 12) (s_sipush hx hb (z := 182) (by decide +kernel) (by decide +kernel)) ?_
  refine bs_c (pc := 15) (s_icmp_ge hx hb (by decide +kernel) hF) ?_
  refine bs_c (pc := 18) (s_aload_n hx hb (k := 0) (by decide +kernel) rfl) ?_
  refine bs_c (pc := 19) (s_getf hx hb hts in_8 hown hKN.1 (ci := 8) rfl (k := 9) (by decide) (hts _ lf_8_25) (by decide +kernel)) ?_
  refine bs_c (pc := 22) (s_iload_n hx hb (k := 1) (by decide +kernel) rfl) ?_
  refine bs_c (pc := 23) (s_aload_n hx hb (k := 0) (by decide +kernel) rfl) ?_
  refine bs_c (pc := 24) (s_getf hx hb hts in_8 hown hKN.1 (ci := 8) rfl (k := 9) (by decide) (hts _ lf_8_25) (by decide +kernel)) ?_
  refine bs_c (pc := 27) (s_iload_n hx hb (k := 1) (by decide +kernel) rfl) ?_
  refine bs_c (pc := 28) (s_bipush hx hb (z := 26) (by decide +kernel) (by decide +kernel)) ?_
  refine bs_c (pc := 30) (s_iadd hx hb (by decide +kernel)) ?_
  refine bs_c (pc := 31) (s_ald0 hx hb hKN.1 (by decide +kernel)) ?_
  refine bs_c (pc := 32) (s_ast0 hx hb hKN.1 (by decide +kernel)) ?_
  refine bs_c (pc := 33) (s_iinc hx hb (z := 1) (by decide +kernel) (by decide +kernel) (by decide +kernel)) ?_
  refine bs_c (pc := 36) (s_goto hx hb (pc' := 0) (by decide +kernel)) ?_
  exact bs_n
set_option maxRecDepth 20000 in
theorem b_111_2 (C : CX p l s m args meth c d E F 111) : BB p l e s m args below meth c d E F K0 111 39 rc_111_2 := by
  obtain ⟨hx, hb, hml, hown, hts, hr, hlocks, hnm, hKN, hb0, hF⟩ := C
  have hb : c.code = prog_10_method_34_code := hb
  have hown : s.vm.findClass "RudeCouponsModel" = some m.cls := hown
  have hr : meth.sig.returnType = none := hr
  refine bs_c (pc := 39) (s_aload_n hx hb (k := 0) (by decide +kernel) rfl) ?_
  refine bs_c (pc := 40) (s_dup hx hb (by decide +kernel)) ?_
  refine bs_c (pc := 41) (s_getf hx hb hts in_8 hown hKN.1 (ci := 8) rfl (k := 8) (by decide) (hts _ lf_8_138) (by decide +kernel)) ?_
  refine bs_c (pc := 44) (s_iconst hx hb (z := 1) (by decide +kernel) (by decide +kernel)) ?_
  refine bs_c (pc := 45) (s_isub hx hb (by decide +kernel)) ?_
  refine bs_c (pc := 46) (s_putI hx hb hts in_8 hown hKN.1 (ci := 8) rfl (k := 8) (by decide) (hts _ lf_8_138) tyX8 tyX8_ok nmX8 (tyX8_ok 8 (by decide)) rfl (by decide +kernel)) ?_
  refine bs_c (pc := 49) (s_fall (pc' := 0) (by decide +kernel)) ?_
  exact bs_n
set_option maxRecDepth 20000 in
theorem b_111_3 (C : CX p l s m args meth c d E F 111) : BB p l e s m args below meth c d E F K0 111 49 rc_111_3 := by
  obtain ⟨hx, hb, hml, hown, hts, hr, hlocks, hnm, hKN, hb0, hF⟩ := C
  have hb : c.code = prog_10_method_34_code := hb
  have hown : s.vm.findClass "RudeCouponsModel" = some m.cls := hown
  have hr : meth.sig.returnType = none := hr
  refine bs_c (pc := 49) (s_aload_n hx hb (k := 0) (by decide +kernel) rfl) ?_
  refine bs_c (pc := 50) (s_getf hx hb hts in_8 hown hKN.1 (ci := 8) rfl (k := 9) (by decide) (hts _ lf_8_25) (by decide +kernel)) ?_
  refine bs_c (pc := 53) (s_bipush hx hb (z := 26) (by decide +kernel) (by decide +kernel)) ?_
  refine bs_c (pc := 55) (s_aload_n hx hb (k := 0) (by decide +kernel) rfl) ?_
  refine bs_c (pc := 56) (s_getf hx hb hts in_8 hown hKN.1 (ci := 8) rfl (k := 8) (by decide) (hts _ lf_8_138) (by decide +kernel)) ?_
  refine bs_c (pc := 59) (s_imul hx hb (by decide +kernel) hF) ?_
  refine bs_c (pc := 60) (s_aload_n hx hb (k := 0) (by decide +kernel) rfl) ?_
  refine bs_c (pc := 61) (s_getf hx hb hts in_8 hown hKN.1 (ci := 8) rfl (k := 7) (by decide) (hts _ lf_8_22) (by decide +kernel)) ?_
  refine bs_c (pc := 64) (s_iconst hx hb (z := 0) (by decide +kernel) (by decide +kernel)) ?_
  refine bs_c (pc := 65) (s_bipush hx hb (z := 26) (by decide +kernel) (by decide +kernel)) ?_
  refine bs_c (pc := 67) (s_call rfl rfl (rk_S hx hb hml (index := 134) (y := 100) (n := 5) hown hts wc_100 lm_8_134 wk_100 wi_100 wp_100 (by decide +kernel) (by decide +kernel)) hKN hb0) ?_
  refine bs_c (pc := 70) (s_aload_n hx hb (k := 0) (by decide +kernel) rfl) ?_
  refine bs_c (pc := 71) (s_dup hx hb (by decide +kernel)) ?_
  refine bs_c (pc := 72) (s_getf hx hb hts in_8 hown hKN.1 (ci := 8) rfl (k := 8) (by decide) (hts _ lf_8_138) (by decide +kernel)) ?_
  refine bs_c (pc := 75) (s_iconst hx hb (z := 1) (by decide +kernel) (by decide +kernel)) ?_
  refine bs_c (pc := 76) (s_iadd hx hb (by decide +kernel)) ?_
  refine bs_c (pc := 77) (s_putI hx hb hts in_8 hown hKN.1 (ci := 8) rfl (k := 8) (by decide) (hts _ lf_8_138) tyX8 tyX8_ok nmX8 (tyX8_ok 8 (by decide)) rfl (by decide +kernel)) ?_
  refine bs_c (pc := 80) (s_return hx hb hr hlocks (pc' := 0) (by decide +kernel)) ?_
  exact bs_n
set_option maxRecDepth 20000 in
theorem b_112_0 (C : CX p l s m args meth c d E F 112) : BB p l e s m args below meth c d E F K0 112 0 rc_112_0 := by
  obtain ⟨hx, hb, hml, hown, hts, hr, hlocks, hnm, hKN, hb0, hF⟩ := C
  have hb : c.code = prog_10_method_36_code := hb
  have hown : s.vm.findClass "RudeCouponsModel" = some m.cls := hown
  have hr : meth.sig.returnType = some .int := hr
  refine bs_c (pc := 0) (s_iload_n hx hb (k := 1) (by decide +kernel) rfl) ?_
  refine bs_c (pc := 1) (s_iconst hx hb (z := 1) (by decide +kernel) (by decide +kernel)) ?_
  refine bs_c (pc := 2) (s_bipush hx hb (z := 30) (by decide +kernel) (by decide +kernel)) ?_
  refine bs_c (pc := 4) (s_call rfl rfl (rk_S hx hb hml (index := 87) (y := 7) (n := 3) hown hts wc_7 lm_8_87 wk_7 wi_7 wp_7 (by decide +kernel) (by decide +kernel)) hKN hb0) ?_
  refine bs_c (pc := 7) (s_if_ne hx hb (by decide +kernel) hF) ?_
  refine bs_c (pc := 10) (s_iconst hx hb (z := -1) (by decide +kernel) (by decide +kernel)) ?_
  refine bs_c (pc := 11) (s_ireturn hx hb hr hlocks (pc' := 0) (by decide +kernel)) ?_
  exact bs_n
set_option maxRecDepth 20000 in
theorem b_112_1 (C : CX p l s m args meth c d E F 112) : BB p l e s m args below meth c d E F K0 112 12 rc_112_1 := by
  obtain ⟨hx, hb, hml, hown, hts, hr, hlocks, hnm, hKN, hb0, hF⟩ := C
  have hb : c.code = prog_10_method_36_code := hb
  have hown : s.vm.findClass "RudeCouponsModel" = some m.cls := hown
  have hr : meth.sig.returnType = some .int := hr
  refine bs_c (pc := 12) (s_aload_n hx hb (k := 0) (by decide +kernel) rfl) ?_
  refine bs_c (pc := 13) (s_getf hx hb hts in_8 hown hKN.1 (ci := 8) rfl (k := 7) (by decide) (hts _ lf_8_22) (by decide +kernel)) ?_
  refine bs_c (pc := 16) (s_iconst hx hb (z := 0) (by decide +kernel) (by decide +kernel)) ?_
  refine bs_c (pc := 17) (s_ald0 hx hb hKN.1 (by decide +kernel)) ?_
  refine bs_c (pc := 18) (s_iload_n hx hb (k := 1) (by decide +kernel) rfl) ?_
  refine bs_c (pc := 19) (s_iadd hx hb (by decide +kernel)) ?_
  refine bs_c (pc := 20) (s_bipush hx hb (z := 99) (by decide +kernel) (by decide +kernel)) ?_
  refine bs_c (pc := 22) (s_icmp_le hx hb (by decide +kernel) hF) ?_
  refine bs_c (pc := 25) (s_bipush hx hb (z := -2) (by decide +kernel) (by decide +kernel)) ?_
  refine bs_c (pc := 27) (s_ireturn hx hb hr hlocks (pc' := 0) (by decide +kernel)) ?_
  exact bs_n
set_option maxRecDepth 20000 in
theorem b_112_2 (C : CX p l s m args meth c d E F 112) : BB p l e s m args below meth c d E F K0 112 28 rc_112_2 := by
  obtain ⟨hx, hb, hml, hown, hts, hr, hlocks, hnm, hKN, hb0, hF⟩ := C
  have hb : c.code = prog_10_method_36_code := hb
  have hown : s.vm.findClass "RudeCouponsModel" = some m.cls := hown
  have hr : meth.sig.returnType = some .int := hr
  refine bs_c (pc := 28) (s_aload_n hx hb (k := 0) (by decide +kernel) rfl) ?_
  refine bs_c (pc := 29) (s_call rfl rfl (rk_V hx hb hml (index := 171) (y := 111) (n := 0) hown hts wc_111 (k := 8) rfl rfl lm_8_171 wk_111 wv_111 wi_111 wp_111 (by decide +kernel) (by decide +kernel)) hKN hb0) ?_
  refine bs_c (pc := 32) (s_aload_n hx hb (k := 0) (by decide +kernel) rfl) ?_
  refine bs_c (pc := 33) (s_getf hx hb hts in_8 hown hKN.1 (ci := 8) rfl (k := 7) (by decide) (hts _ lf_8_22) (by decide +kernel)) ?_
  refine bs_c (pc := 36) (s_iconst hx hb (z := 0) (by decide +kernel) (by decide +kernel)) ?_
  refine bs_c (pc := 37) (s_dup2 hx hb (by decide +kernel)) ?_
  refine bs_c (pc := 38) (s_ald0 hx hb hKN.1 (by decide +kernel)) ?_
  refine bs_c (pc := 39) (s_iload_n hx hb (k := 1) (by decide +kernel) rfl) ?_
  refine bs_c (pc := 40) (s_iadd hx hb (by decide +kernel)) ?_
  refine bs_c (pc := 41) (s_ast0 hx hb hKN.1 (by decide +kernel)) ?_
  refine bs_c (pc := 42) (s_aload_n hx hb (k := 0) (by decide +kernel) rfl) ?_
  refine bs_c (pc := 43) (s_getf hx hb hts in_8 hown hKN.1 (ci := 8) rfl (k := 7) (by decide) (hts _ lf_8_22) (by decide +kernel)) ?_
  refine bs_c (pc := 46) (s_iconst hx hb (z := 0) (by decide +kernel) (by decide +kernel)) ?_
  refine bs_c (pc := 47) (s_ald0 hx hb hKN.1 (by decide +kernel)) ?_
  refine bs_c (pc := 48) (s_ireturn hx hb hr hlocks (pc' := 0) (by decide +kernel)) ?_
  exact bs_n
set_option maxRecDepth 20000 in
theorem b_113_0 (C : CX p l s m args meth c d E F 113) : BB p l e s m args below meth c d E F K0 113 0 rc_113_0 := by
  obtain ⟨hx, hb, hml, hown, hts, hr, hlocks, hnm, hKN, hb0, hF⟩ := C
  have hb : c.code = prog_10_method_37_code := hb
  have hown : s.vm.findClass "RudeCouponsModel" = some m.cls := hown
  have hr : meth.sig.returnType = some .int := hr
  refine bs_c (pc := 0) (s_aload_n hx hb (k := 0) (by decide +kernel) rfl) ?_
  refine bs_c (pc := 1) (s_iload_n hx hb (k := 1) (by decide +kernel) rfl) ?_
  refine bs_c (pc := 2) (s_call rfl rfl (rk_V hx hb hml (index := 162) (y := 9) (n := 1) hown hts wc_9 (k := 8) rfl rfl lm_8_162 wk_9 wv_9 wi_9 wp_9 (by decide +kernel) (by decide +kernel)) hKN hb0) ?_
  refine bs_c (pc := 5) (s_if_eq hx hb (by decide +kernel) hF) ?_
  refine bs_c (pc := 8) (s_aload_n hx hb (k := 0) (by decide +kernel) rfl) ?_
  refine bs_c (pc := 9) (s_iload_n hx hb (k := 2) (by decide +kernel) rfl) ?_
  refine bs_c (pc := 10) (s_call rfl rfl (rk_V hx hb hml (index := 162) (y := 9) (n := 1) hown hts wc_9 (k := 8) rfl rfl lm_8_162 wk_9 wv_9 wi_9 wp_9 (by decide +kernel) (by decide +kernel)) hKN hb0) ?_
  refine bs_c (pc := 13) (s_if_eq hx hb (by decide +kernel) hF) ?_
  refine bs_c (pc := 16) (s_iload_n hx hb (k := 1) (by decide +kernel) rfl) ?_
  refine bs_c (pc := 17) (s_iload_n hx hb (k := 2) (by decide +kernel) rfl) ?_
  refine bs_c (pc := 18) (s_icmp_eq hx hb (by decide +kernel) hF) ?_
  refine bs_c (pc := 21) (s_iload_n hx hb (k := 3) (by decide +kernel) rfl) ?_
  refine bs_c (pc := 22) (s_iconst hx hb (z := 1) (by decide +kernel) (by decide +kernel)) ?_
  refine bs_c (pc := 23) (s_bipush hx hb (z := 15) (by decide +kernel) (by decide +kernel)) ?_
  refine bs_c (pc := 25) (s_call rfl rfl (rk_S hx hb hml (index := 87) (y := 7) (n := 3) hown hts wc_7 lm_8_87 wk_7 wi_7 wp_7 (by decide +kernel) (by decide +kernel)) hKN hb0) ?_
  refine bs_c (pc := 28) (s_if_ne hx hb (by decide +kernel) hF) ?_
  refine bs_c (pc := 31) (s_fall (pc' := 0) (by decide +kernel)) ?_
  exact bs_n
set_option maxRecDepth 20000 in
theorem b_113_1 (C : CX p l s m args meth c d E F 113) : BB p l e s m args below meth c d E F K0 113 31 rc_113_1 := by
  obtain ⟨hx, hb, hml, hown, hts, hr, hlocks, hnm, hKN, hb0, hF⟩ := C
  have hb : c.code = prog_10_method_37_code := hb
  have hown : s.vm.findClass "RudeCouponsModel" = some m.cls := hown
  have hr : meth.sig.returnType = some .int := hr
  refine bs_c (pc := 31) (s_iconst hx hb (z := -1) (by decide +kernel) (by decide +kernel)) ?_
  refine bs_c (pc := 32) (s_ireturn hx hb hr hlocks (pc' := 0) (by decide +kernel)) ?_
  exact bs_n
set_option maxRecDepth 20000 in
theorem b_113_2 (C : CX p l s m args meth c d E F 113) : BB p l e s m args below meth c d E F K0 113 33 rc_113_2 := by
  obtain ⟨hx, hb, hml, hown, hts, hr, hlocks, hnm, hKN, hb0, hF⟩ := C
  have hb : c.code = prog_10_method_37_code := hb
  have hown : s.vm.findClass "RudeCouponsModel" = some m.cls := hown
  have hr : meth.sig.returnType = some .int := hr
  refine bs_c (pc := 33) (s_aload_n hx hb (k := 0) (by decide +kernel) rfl) ?_
  refine bs_c (pc := 34) (s_getf hx hb hts in_8 hown hKN.1 (ci := 8) rfl (k := 7) (by decide) (hts _ lf_8_22) (by decide +kernel)) ?_
  refine bs_c (pc := 37) (s_iconst hx hb (z := 2) (by decide +kernel) (by decide +kernel)) ?_
  refine bs_c (pc := 38) (s_iload_n hx hb (k := 1) (by decide +kernel) rfl) ?_
  refine bs_c (pc := 39) (s_iadd hx hb (by decide +kernel)) ?_
  refine bs_c (pc := 40) (s_ald0 hx hb hKN.1 (by decide +kernel)) ?_
  refine bs_c (pc := 41) (s_iload_n hx hb (k := 3) (by decide +kernel) rfl) ?_
  refine bs_c (pc := 42) (s_icmp_ge hx hb (by decide +kernel) hF) ?_
  refine bs_c (pc := 45) (s_bipush hx hb (z := -2) (by decide +kernel) (by decide +kernel)) ?_
  refine bs_c (pc := 47) (s_ireturn hx hb hr hlocks (pc' := 0) (by decide +kernel)) ?_
  exact bs_n
set_option maxRecDepth 20000 in
theorem b_113_3 (C : CX p l s m args meth c d E F 113) : BB p l e s m args below meth c d E F K0 113 48 rc_113_3 := by
  obtain ⟨hx, hb, hml, hown, hts, hr, hlocks, hnm, hKN, hb0, hF⟩ := C
  have hb : c.code = prog_10_method_37_code := hb
  have hown : s.vm.findClass "RudeCouponsModel" = some m.cls := hown
  have hr : meth.sig.returnType = some .int := hr
  refine bs_c (pc := 48) (s_aload_n hx hb (k := 0) (by decide +kernel) rfl) ?_
  refine bs_c (pc := 49) (s_getf hx hb hts in_8 hown hKN.1 (ci := 8) rfl (k := 7) (by decide) (hts _ lf_8_22) (by decide +kernel)) ?_
  refine bs_c (pc := 52) (s_iconst hx hb (z := 2) (by decide +kernel) (by decide +kernel)) ?_
  refine bs_c (pc := 53) (s_iload_n hx hb (k := 2) (by decide +kernel) rfl) ?_
  refine bs_c (pc := 54) (s_iadd hx hb (by decide +kernel)) ?_
  refine bs_c (pc := 55) (s_ald0 hx hb hKN.1 (by decide +kernel)) ?_
  refine bs_c (pc := 56) (s_iload_n hx hb (k := 3) (by decide +kernel) rfl) ?_
  refine bs_c (pc := 57) (s_iadd hx hb (by decide +kernel)) ?_
  refine bs_c (pc := 58) (s_bipush hx hb (z := 15) (by decide +kernel) (by decide +kernel)) ?_
  refine bs_c (pc := 60) (s_icmp_le hx hb (by decide +kernel) hF) ?_
  refine bs_c (pc := 63) (s_bipush hx hb (z := -3) (by decide +kernel) (by decide +kernel)) ?_
  refine bs_c (pc := 65) (s_ireturn hx hb hr hlocks (pc' := 0) (by decide +kernel)) ?_
  exact bs_n
set_option maxRecDepth 20000 in
theorem b_113_4 (C : CX p l s m args meth c d E F 113) : BB p l e s m args below meth c d E F K0 113 66 rc_113_4 := by
  obtain ⟨hx, hb, hml, hown, hts, hr, hlocks, hnm, hKN, hb0, hF⟩ := C
  have hb : c.code = prog_10_method_37_code := hb
  have hown : s.vm.findClass "RudeCouponsModel" = some m.cls := hown
  have hr : meth.sig.returnType = some .int := hr
  refine bs_c (pc := 66) (s_aload_n hx hb (k := 0) (by decide +kernel) rfl) ?_
  refine bs_c (pc := 67) (s_call rfl rfl (rk_V hx hb hml (index := 171) (y := 111) (n := 0) hown hts wc_111 (k := 8) rfl rfl lm_8_171 wk_111 wv_111 wi_111 wp_111 (by decide +kernel) (by decide +kernel)) hKN hb0) ?_
  refine bs_c (pc := 70) (s_aload_n hx hb (k := 0) (by decide +kernel) rfl) ?_
  refine bs_c (pc := 71) (s_getf hx hb hts in_8 hown hKN.1 (ci := 8) rfl (k := 7) (by decide) (hts _ lf_8_22) (by decide +kernel)) ?_
  refine bs_c (pc := 74) (s_iconst hx hb (z := 2) (by decide +kernel) (by decide +kernel)) ?_
  refine bs_c (pc := 75) (s_iload_n hx hb (k := 1) (by decide +kernel) rfl) ?_
  refine bs_c (pc := 76) (s_iadd hx hb (by decide +kernel)) ?_
  refine bs_c (pc := 77) (s_dup2 hx hb (by decide +kernel)) ?_
  refine bs_c (pc := 78) (s_ald0 hx hb hKN.1 (by decide +kernel)) ?_
  refine bs_c (pc := 79) (s_iload_n hx hb (k := 3) (by decide +kernel) rfl) ?_
  refine bs_c (pc := 80) (s_isub hx hb (by decide +kernel)) ?_
  refine bs_c (pc := 81) (s_ast0 hx hb hKN.1 (by decide +kernel)) ?_
  refine bs_c (pc := 82) (s_aload_n hx hb (k := 0) (by decide +kernel) rfl) ?_
  refine bs_c (pc := 83) (s_getf hx hb hts in_8 hown hKN.1 (ci := 8) rfl (k := 7) (by decide) (hts _ lf_8_22) (by decide +kernel)) ?_
  refine bs_c (pc := 86) (s_iconst hx hb (z := 2) (by decide +kernel) (by decide +kernel)) ?_
  refine bs_c (pc := 87) (s_iload_n hx hb (k := 2) (by decide +kernel) rfl) ?_
  refine bs_c (pc := 88) (s_iadd hx hb (by decide +kernel)) ?_
  refine bs_c (pc := 89) (s_dup2 hx hb (by decide +kernel)) ?_
  refine bs_c (pc := 90) (s_ald0 hx hb hKN.1 (by decide +kernel)) ?_
  refine bs_c (pc := 91) (s_iload_n hx hb (k := 3) (by decide +kernel) rfl) ?_
  refine bs_c (pc := 92) (s_iadd hx hb (by decide +kernel)) ?_
  refine bs_c (pc := 93) (s_ast0 hx hb hKN.1 (by decide +kernel)) ?_
  refine bs_c (pc := 94) (s_aload_n hx hb (k := 0) (by decide +kernel) rfl) ?_
  refine bs_c (pc := 95) (s_getf hx hb hts in_8 hown hKN.1 (ci := 8) rfl (k := 7) (by decide) (hts _ lf_8_22) (by decide +kernel)) ?_
  refine bs_c (pc := 98) (s_bipush hx hb (z := 20) (by decide +kernel) (by decide +kernel)) ?_
  refine bs_c (pc := 100) (s_iload_n hx hb (k := 1) (by decide +kernel) rfl) ?_
  refine bs_c (pc := 101) (s_iadd hx hb (by decide +kernel)) ?_
  refine bs_c (pc := 102) (s_dup2 hx hb (by decide +kernel)) ?_
  refine bs_c (pc := 103) (s_ald0 hx hb hKN.1 (by decide +kernel)) ?_
  refine bs_c (pc := 104) (s_iload_n hx hb (k := 3) (by decide +kernel) rfl) ?_
  refine bs_c (pc := 105) (s_isub hx hb (by decide +kernel)) ?_
  refine bs_c (pc := 106) (s_ast0 hx hb hKN.1 (by decide +kernel)) ?_
  refine bs_c (pc := 107) (s_aload_n hx hb (k := 0) (by decide +kernel) rfl) ?_
  refine bs_c (pc := 108) (s_getf hx hb hts in_8 hown hKN.1 (ci := 8) rfl (k := 7) (by decide) (hts _ lf_8_22) (by decide +kernel)) ?_
  refine bs_c (pc := 111) (s_bipush hx hb (z := 20) (by decide +kernel) (by decide +kernel)) ?_
  refine bs_c (pc := 113) (s_iload_n hx hb (k := 2) (by decide +kernel) rfl) ?_
  refine bs_c (pc := 114) (s_iadd hx hb (by decide +kernel)) ?_
  refine bs_c (pc := 115) (s_dup2 hx hb (by decide +kernel)) ?_
  refine bs_c (pc := 116) (s_ald0 hx hb hKN.1 (by decide +kernel)) ?_
  refine bs_c (pc := 117) (s_iload_n hx hb (k := 3) (by decide +kernel) rfl) ?_
  refine bs_c (pc := 118) (s_iadd hx hb (by decide +kernel)) ?_
  refine bs_c (pc := 119) (s_ast0 hx hb hKN.1 (by decide +kernel)) ?_
  refine bs_c (pc := 120) (s_aload_n hx hb (k := 0) (by decide +kernel) rfl) ?_
  refine bs_c (pc := 121) (s_getf hx hb hts in_8 hown hKN.1 (ci := 8) rfl (k := 7) (by decide) (hts _ lf_8_22) (by decide +kernel)) ?_
  refine bs_c (pc := 124) (s_iconst hx hb (z := 2) (by decide +kernel) (by decide +kernel)) ?_
  refine bs_c (pc := 125) (s_iload_n hx hb (k := 1) (by decide +kernel) rfl) ?_
  refine bs_c (pc := 126) (s_iadd hx hb (by decide +kernel)) ?_
  refine bs_c (pc := 127) (s_ald0 hx hb hKN.1 (by decide +kernel)) ?_
  refine bs_c (pc := 128) (s_ireturn hx hb hr hlocks (pc' := 0) (by decide +kernel)) ?_
  exact bs_n
set_option maxRecDepth 20000 in
theorem b_114_0 (C : CX p l s m args meth c d E F 114) : BB p l e s m args below meth c d E F K0 114 0 rc_114_0 := by
  obtain ⟨hx, hb, hml, hown, hts, hr, hlocks, hnm, hKN, hb0, hF⟩ := C
  have hb : c.code = prog_10_method_39_code := hb
  have hown : s.vm.findClass "RudeCouponsModel" = some m.cls := hown
  have hr : meth.sig.returnType = some .int := hr
  refine bs_c (pc := 0) (s_iload_n hx hb (k := 1) (by decide +kernel) rfl) ?_
  refine bs_c (pc := 1) (s_iconst hx hb (z := 0) (by decide +kernel) (by decide +kernel)) ?_
  refine bs_c (pc := 2) (s_bipush hx hb (z := 15) (by decide +kernel) (by decide +kernel)) ?_
  refine bs_c (pc := 4) (s_call rfl rfl (rk_S hx hb hml (index := 87) (y := 7) (n := 3) hown hts wc_7 lm_8_87 wk_7 wi_7 wp_7 (by decide +kernel) (by decide +kernel)) hKN hb0) ?_
  refine bs_c (pc := 7) (s_if_ne hx hb (by decide +kernel) hF) ?_
  refine bs_c (pc := 10) (s_iconst hx hb (z := -1) (by decide +kernel) (by decide +kernel)) ?_
  refine bs_c (pc := 11) (s_ireturn hx hb hr hlocks (pc' := 0) (by decide +kernel)) ?_
  exact bs_n
set_option maxRecDepth 20000 in
theorem b_114_1 (C : CX p l s m args meth c d E F 114) : BB p l e s m args below meth c d E F K0 114 12 rc_114_1 := by
  obtain ⟨hx, hb, hml, hown, hts, hr, hlocks, hnm, hKN, hb0, hF⟩ := C
  have hb : c.code = prog_10_method_39_code := hb
  have hown : s.vm.findClass "RudeCouponsModel" = some m.cls := hown
  have hr : meth.sig.returnType = some .int := hr
  refine bs_c (pc := 12) (s_aload_n hx hb (k := 0) (by decide +kernel) rfl) ?_
  refine bs_c (pc := 13) (s_call rfl rfl (rk_V hx hb hml (index := 171) (y := 111) (n := 0) hown hts wc_111 (k := 8) rfl rfl lm_8_171 wk_111 wv_111 wi_111 wp_111 (by decide +kernel) (by decide +kernel)) hKN hb0) ?_
  refine bs_c (pc := 16) (s_aload_n hx hb (k := 0) (by decide +kernel) rfl) ?_
  refine bs_c (pc := 17) (s_call rfl rfl (rk_V hx hb hml (index := 180) (y := 115) (n := 0) hown hts wc_115 (k := 8) rfl rfl lm_8_180 wk_115 wv_115 wi_115 wp_115 (by decide +kernel) (by decide +kernel)) hKN hb0) ?_
  refine bs_c (pc := 20) (s_istore_n hx hb (k := 2) (by decide +kernel) rfl (by decide +kernel)) ?_
  refine bs_c (pc := 21) (s_iconst hx hb (z := 0) (by decide +kernel) (by decide +kernel)) ?_
  refine bs_c (pc := 22) (s_istore_n hx hb (k := 3) (by decide +kernel) rfl (by decide +kernel)) ?_
  refine bs_c (pc := 23) (s_fall (pc' := 0) (by decide +kernel)) ?_
  exact bs_n
set_option maxRecDepth 20000 in
theorem b_114_2 (C : CX p l s m args meth c d E F 114) : BB p l e s m args below meth c d E F K0 114 23 rc_114_2 := by
  obtain ⟨hx, hb, hml, hown, hts, hr, hlocks, hnm, hKN, hb0, hF⟩ := C
  have hb : c.code = prog_10_method_39_code := hb
  have hown : s.vm.findClass "RudeCouponsModel" = some m.cls := hown
  have hr : meth.sig.returnType = some .int := hr
  refine bs_c (pc := 23) (s_iload_n hx hb (k := 3) (by decide +kernel) rfl) ?_
  refine bs_c (pc := 24) (s_aload_n hx hb (k := 0) (by decide +kernel) rfl) ?_
  refine bs_c (pc := 25) (s_getf hx hb hts in_8 hown hKN.1 (ci := 8) rfl (k := 0) (by decide) (hts _ lf_8_84) (by decide +kernel)) ?_
  refine bs_c (pc := 28) (s_icmp_ge hx hb (by decide +kernel) hF) ?_
  refine bs_c (pc := 31) (s_aload_n hx hb (k := 0) (by decide +kernel) rfl) ?_
  refine bs_c (pc := 32) (s_getf hx hb hts in_8 hown hKN.1 (ci := 8) rfl (k := 7) (by decide) (hts _ lf_8_22) (by decide +kernel)) ?_
  refine bs_c (pc := 35) (s_iconst hx hb (z := 2) (by decide +kernel) (by decide +kernel)) ?_
  refine bs_c (pc := 36) (s_iload_n hx hb (k := 3) (by decide +kernel) rfl) ?_
  refine bs_c (pc := 37) (s_iadd hx hb (by decide +kernel)) ?_
  refine bs_c (pc := 38) (s_iload_n hx hb (k := 1) (by decide +kernel) rfl) ?_
  refine bs_c (pc := 39) (s_ast0 hx hb hKN.1 (by decide +kernel)) ?_
  refine bs_c (pc := 40) (s_iinc hx hb (z := 1) (by decide +kernel) (by decide +kernel) (by decide +kernel)) ?_
  refine bs_c (pc := 43) (s_goto hx hb (pc' := 0) (by decide +kernel)) ?_
  exact bs_n
set_option maxRecDepth 20000 in
theorem b_114_3 (C : CX p l s m args meth c d E F 114) : BB p l e s m args below meth c d E F K0 114 46 rc_114_3 := by
  obtain ⟨hx, hb, hml, hown, hts, hr, hlocks, hnm, hKN, hb0, hF⟩ := C
  have hb : c.code = prog_10_method_39_code := hb
  have hown : s.vm.findClass "RudeCouponsModel" = some m.cls := hown
  have hr : meth.sig.returnType = some .int := hr
  refine bs_c (pc := 46) (s_iload_n hx hb (k := 2) (by decide +kernel) rfl) ?_
  refine bs_c (pc := 47) (s_ireturn hx hb hr hlocks (pc' := 0) (by decide +kernel)) ?_
  exact bs_n
set_option maxRecDepth 20000 in
theorem b_115_0 (C : CX p l s m args meth c d E F 115) : BB p l e s m args below meth c d E F K0 115 0 rc_115_0 := by
  obtain ⟨hx, hb, hml, hown, hts, hr, hlocks, hnm, hKN, hb0, hF⟩ := C
  have hb : c.code = prog_10_method_38_code := hb
  have hown : s.vm.findClass "RudeCouponsModel" = some m.cls := hown
  have hr : meth.sig.returnType = some .int := hr
  refine bs_c (pc := 0) (s_iconst hx hb (z := 0) (by decide +kernel) (by decide +kernel)) ?_
  refine bs_c (pc := 1) (s_istore_n hx hb (k := 1) (by decide +kernel) rfl (by decide +kernel)) ?_
  refine bs_c (pc := 2) (s_iconst hx hb (z := 0) (by decide +kernel) (by decide +kernel)) ?_
  refine bs_c (pc := 3) (s_istore_n hx hb (k := 2) (by decide +kernel) rfl (by decide +kernel)) ?_
  refine bs_c (pc := 4) (s_fall (pc' := 0) (by decide +kernel)) ?_
  exact bs_n
set_option maxRecDepth 20000 in
theorem b_115_1 (C : CX p l s m args meth c d E F 115) : BB p l e s m args below meth c d E F K0 115 4 rc_115_1 := by
  obtain ⟨hx, hb, hml, hown, hts, hr, hlocks, hnm, hKN, hb0, hF⟩ := C
  have hb : c.code = prog_10_method_38_code := hb
  have hown : s.vm.findClass "RudeCouponsModel" = some m.cls := hown
  have hr : meth.sig.returnType = some .int := hr
  refine bs_c (pc := 4) (s_iload_n hx hb (k := 2) (by decide +kernel) rfl) ?_
  refine bs_c (pc := 5) (s_aload_n hx hb (k := 0) (by decide +kernel) rfl) ?_
  refine bs_c (pc := 6) (s_getf hx hb hts in_8 hown hKN.1 (ci := 8) rfl (k := 0) (by decide) (hts _ lf_8_84) (by decide +kernel)) ?_
  refine bs_c (pc := 9) (s_icmp_ge hx hb (by decide +kernel) hF) ?_
  refine bs_c (pc := 12) (s_iload_n hx hb (k := 1) (by decide +kernel) rfl) ?_
  refine bs_c (pc := 13) (s_aload_n hx hb (k := 0) (by decide +kernel) rfl) ?_
  refine bs_c (pc := 14) (s_getf hx hb hts in_8 hown hKN.1 (ci := 8) rfl (k := 7) (by decide) (hts _ lf_8_22) (by decide +kernel)) ?_
  refine bs_c (pc := 17) (s_iconst hx hb (z := 2) (by decide +kernel) (by decide +kernel)) ?_
  refine bs_c (pc := 18) (s_iload_n hx hb (k := 2) (by decide +kernel) rfl) ?_
  refine bs_c (pc := 19) (s_iadd hx hb (by decide +kernel)) ?_
  refine bs_c (pc := 20) (s_ald0 hx hb hKN.1 (by decide +kernel)) ?_
  refine bs_c (pc := 21) (s_iadd hx hb (by decide +kernel)) ?_
  refine bs_c (pc := 22) (s_istore_n hx hb (k := 1) (by decide +kernel) rfl (by decide +kernel)) ?_
  refine bs_c (pc := 23) (s_iinc hx hb (z := 1) (by decide +kernel) (by decide +kernel) (by decide +kernel)) ?_
  refine bs_c (pc := 26) (s_goto hx hb (pc' := 0) (by decide +kernel)) ?_
  exact bs_n
set_option maxRecDepth 20000 in
theorem b_115_2 (C : CX p l s m args meth c d E F 115) : BB p l e s m args below meth c d E F K0 115 29 rc_115_2 := by
  obtain ⟨hx, hb, hml, hown, hts, hr, hlocks, hnm, hKN, hb0, hF⟩ := C
  have hb : c.code = prog_10_method_38_code := hb
  have hown : s.vm.findClass "RudeCouponsModel" = some m.cls := hown
  have hr : meth.sig.returnType = some .int := hr
  refine bs_c (pc := 29) (s_iload_n hx hb (k := 1) (by decide +kernel) rfl) ?_
  refine bs_c (pc := 30) (s_ireturn hx hb hr hlocks (pc' := 0) (by decide +kernel)) ?_
  exact bs_n
set_option maxRecDepth 20000 in
theorem b_116_0 (C : CX p l s m args meth c d E F 116) : BB p l e s m args below meth c d E F K0 116 0 rc_116_0 := by
  obtain ⟨hx, hb, hml, hown, hts, hr, hlocks, hnm, hKN, hb0, hF⟩ := C
  have hb : c.code = prog_10_method_40_code := hb
  have hown : s.vm.findClass "RudeCouponsModel" = some m.cls := hown
  have hr : meth.sig.returnType = some .int := hr
  refine bs_c (pc := 0) (s_aload_n hx hb (k := 0) (by decide +kernel) rfl) ?_
  refine bs_c (pc := 1) (s_getf hx hb hts in_8 hown hKN.1 (ci := 8) rfl (k := 8) (by decide) (hts _ lf_8_138) (by decide +kernel)) ?_
  refine bs_c (pc := 4) (s_if_ne hx hb (by decide +kernel) hF) ?_
  refine bs_c (pc := 7) (s_bipush hx hb (z := -2) (by decide +kernel) (by decide +kernel)) ?_
  refine bs_c (pc := 9) (s_ireturn hx hb hr hlocks (pc' := 0) (by decide +kernel)) ?_
  exact bs_n
set_option maxRecDepth 20000 in
theorem b_116_1 (C : CX p l s m args meth c d E F 116) : BB p l e s m args below meth c d E F K0 116 10 rc_116_1 := by
  obtain ⟨hx, hb, hml, hown, hts, hr, hlocks, hnm, hKN, hb0, hF⟩ := C
  have hb : c.code = prog_10_method_40_code := hb
  have hown : s.vm.findClass "RudeCouponsModel" = some m.cls := hown
  have hr : meth.sig.returnType = some .int := hr
  refine bs_c (pc := 10) (s_aload_n hx hb (k := 0) (by decide +kernel) rfl) ?_
  refine bs_c (pc := 11) (s_dup hx hb (by decide +kernel)) ?_
  refine bs_c (pc := 12) (s_getf hx hb hts in_8 hown hKN.1 (ci := 8) rfl (k := 8) (by decide) (hts _ lf_8_138) (by decide +kernel)) ?_
  refine bs_c (pc := 15) (s_iconst hx hb (z := 1) (by decide +kernel) (by decide +kernel)) ?_
  refine bs_c (pc := 16) (s_isub hx hb (by decide +kernel)) ?_
  refine bs_c (pc := 17) (s_putI hx hb hts in_8 hown hKN.1 (ci := 8) rfl (k := 8) (by decide) (hts _ lf_8_138) tyX8 tyX8_ok nmX8 (tyX8_ok 8 (by decide)) rfl (by decide +kernel)) ?_
  refine bs_c (pc := 20) (s_aload_n hx hb (k := 0) (by decide +kernel) rfl) ?_
  refine bs_c (pc := 21) (s_getf hx hb hts in_8 hown hKN.1 (ci := 8) rfl (k := 7) (by decide) (hts _ lf_8_22) (by decide +kernel)) ?_
  refine bs_c (pc := 24) (s_iconst hx hb (z := 0) (by decide +kernel) (by decide +kernel)) ?_
  refine bs_c (pc := 25) (s_aload_n hx hb (k := 0) (by decide +kernel) rfl) ?_
  refine bs_c (pc := 26) (s_getf hx hb hts in_8 hown hKN.1 (ci := 8) rfl (k := 9) (by decide) (hts _ lf_8_25) (by decide +kernel)) ?_
  refine bs_c (pc := 29) (s_bipush hx hb (z := 26) (by decide +kernel) (by decide +kernel)) ?_
  refine bs_c (pc := 31) (s_aload_n hx hb (k := 0) (by decide +kernel) rfl) ?_
  refine bs_c (pc := 32) (s_getf hx hb hts in_8 hown hKN.1 (ci := 8) rfl (k := 8) (by decide) (hts _ lf_8_138) (by decide +kernel)) ?_
  refine bs_c (pc := 35) (s_imul hx hb (by decide +kernel) hF) ?_
  refine bs_c (pc := 36) (s_bipush hx hb (z := 26) (by decide +kernel) (by decide +kernel)) ?_
  refine bs_c (pc := 38) (s_call rfl rfl (rk_S hx hb hml (index := 134) (y := 100) (n := 5) hown hts wc_100 lm_8_134 wk_100 wi_100 wp_100 (by decide +kernel) (by decide +kernel)) hKN hb0) ?_
  refine bs_c (pc := 41) (s_aload_n hx hb (k := 0) (by decide +kernel) rfl) ?_
  refine bs_c (pc := 42) (s_getf hx hb hts in_8 hown hKN.1 (ci := 8) rfl (k := 8) (by decide) (hts _ lf_8_138) (by decide +kernel)) ?_
  refine bs_c (pc := 45) (s_ireturn hx hb hr hlocks (pc' := 0) (by decide +kernel)) ?_
  exact bs_n
end MTH
