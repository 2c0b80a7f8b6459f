/-! METHODS, block by block, by program: every instruction as its handler says -/
section MTH
variable {p : Program} {l : Launch} {e : Env} {s : State} {m : MethodId} {args : Array Value} {below : List Frame} {meth : Method} {c : Code} {d : mD} {E : mE} {F : mF} {K0 : mK}
set_option maxRecDepth 20000 in
theorem b_66_0 (C : CX p l s m args meth c d E F 66) : BB p l e s m args below meth c d E F K0 66 0 rc_66_0 := by
  obtain ⟨hx, hb, hml, hown, hts, hr, hlocks, hnm, hKN, hb0, hF⟩ := C
  have hb : c.code = prog_1_method_8_code := hb
  have hown : s.vm.findClass "RudeCoupons" = some m.cls := hown
  have hr : meth.sig.returnType = some .int := hr
  refine bs_c (pc := 0) (s_aload_n hx hb (k := 0) (by decide +kernel) rfl) ?_
  refine bs_c (pc := 1) (s_getf hx hb hts in_7 hown hKN.1 (ci := 7) rfl (k := 9) (by decide) (hts _ lf_7_67) (by decide +kernel)) ?_
  refine bs_c (pc := 4) (s_iload_n hx hb (k := 1) (by decide +kernel) rfl) ?_
  refine bs_c (pc := 5) (s_call rfl rfl (rk_V hx hb hml (index := 132) (y := 25) (n := 1) hown hts wc_25 (k := 0) rfl rfl lm_7_132 wk_25 wv_25 wi_25 wp_25 (by decide +kernel) (by decide +kernel)) hKN hb0) ?_
  refine bs_c (pc := 8) (s_if_ne hx hb (by decide +kernel) hF) ?_
  refine bs_c (pc := 11) (s_iconst hx hb (z := -1) (by decide +kernel) (by decide +kernel)) ?_
  refine bs_c (pc := 12) (s_ireturn hx hb hr hlocks (pc' := 0) (by decide +kernel)) ?_
  exact bs_n
set_option maxRecDepth 20000 in
theorem b_66_1 (C : CX p l s m args meth c d E F 66) : BB p l e s m args below meth c d E F K0 66 13 rc_66_1 := by
  obtain ⟨hx, hb, hml, hown, hts, hr, hlocks, hnm, hKN, hb0, hF⟩ := C
  have hb : c.code = prog_1_method_8_code := hb
  have hown : s.vm.findClass "RudeCoupons" = some m.cls := hown
  have hr : meth.sig.returnType = some .int := hr
  refine bs_c (pc := 13) (s_iload_n hx hb (k := 2) (by decide +kernel) rfl) ?_
  refine bs_c (pc := 14) (s_table hx hb (hi' := 4) (offs := #[34, 44, 54, 64, 81]) (len := 34) (pc' := 0) (by decide +kernel) (by decide +kernel) (by decide +kernel) (by decide +kernel) (by decide +kernel) hF) ?_
  exact bs_n
set_option maxRecDepth 20000 in
theorem b_66_2 (C : CX p l s m args meth c d E F 66) : BB p l e s m args below meth c d E F K0 66 48 rc_66_2 := by
  obtain ⟨hx, hb, hml, hown, hts, hr, hlocks, hnm, hKN, hb0, hF⟩ := C
  have hb : c.code = prog_1_method_8_code := hb
  have hown : s.vm.findClass "RudeCoupons" = some m.cls := hown
  have hr : meth.sig.returnType = some .int := hr
  refine bs_c (pc := 48) (s_aload_n hx hb (k := 0) (by decide +kernel) rfl) ?_
  refine bs_c (pc := 49) (s_getf hx hb hts in_7 hown hKN.1 (ci := 7) rfl (k := 9) (by decide) (hts _ lf_7_67) (by decide +kernel)) ?_
  refine bs_c (pc := 52) (s_getf hx hb hts in_0 hown hKN.1 (ci := 0) rfl (k := 9) (by decide) (hts _ lf_7_135) (by decide +kernel)) ?_
  refine bs_c (pc := 55) (s_iload_n hx hb (k := 1) (by decide +kernel) rfl) ?_
  refine bs_c (pc := 56) (s_ald0 hx hb hKN.1 (by decide +kernel)) ?_
  refine bs_c (pc := 57) (s_ireturn hx hb hr hlocks (pc' := 0) (by decide +kernel)) ?_
  exact bs_n
set_option maxRecDepth 20000 in
theorem b_66_3 (C : CX p l s m args meth c d E F 66) : BB p l e s m args below meth c d E F K0 66 58 rc_66_3 := by
  obtain ⟨hx, hb, hml, hown, hts, hr, hlocks, hnm, hKN, hb0, hF⟩ := C
  have hb : c.code = prog_1_method_8_code := hb
  have hown : s.vm.findClass "RudeCoupons" = some m.cls := hown
  have hr : meth.sig.returnType = some .int := hr
  refine bs_c (pc := 58) (s_aload_n hx hb (k := 0) (by decide +kernel) rfl) ?_
  refine bs_c (pc := 59) (s_getf hx hb hts in_7 hown hKN.1 (ci := 7) rfl (k := 9) (by decide) (hts _ lf_7_67) (by decide +kernel)) ?_
  refine bs_c (pc := 62) (s_getf hx hb hts in_0 hown hKN.1 (ci := 0) rfl (k := 10) (by decide) (hts _ lf_7_138) (by decide +kernel)) ?_
  refine bs_c (pc := 65) (s_iload_n hx hb (k := 1) (by decide +kernel) rfl) ?_
  refine bs_c (pc := 66) (s_ald0 hx hb hKN.1 (by decide +kernel)) ?_
  refine bs_c (pc := 67) (s_ireturn hx hb hr hlocks (pc' := 0) (by decide +kernel)) ?_
  exact bs_n
set_option maxRecDepth 20000 in
theorem b_66_4 (C : CX p l s m args meth c d E F 66) : BB p l e s m args below meth c d E F K0 66 68 rc_66_4 := by
  obtain ⟨hx, hb, hml, hown, hts, hr, hlocks, hnm, hKN, hb0, hF⟩ := C
  have hb : c.code = prog_1_method_8_code := hb
  have hown : s.vm.findClass "RudeCoupons" = some m.cls := hown
  have hr : meth.sig.returnType = some .int := hr
  refine bs_c (pc := 68) (s_aload_n hx hb (k := 0) (by decide +kernel) rfl) ?_
  refine bs_c (pc := 69) (s_getf hx hb hts in_7 hown hKN.1 (ci := 7) rfl (k := 9) (by decide) (hts _ lf_7_67) (by decide +kernel)) ?_
  refine bs_c (pc := 72) (s_getf hx hb hts in_0 hown hKN.1 (ci := 0) rfl (k := 11) (by decide) (hts _ lf_7_141) (by decide +kernel)) ?_
  refine bs_c (pc := 75) (s_iload_n hx hb (k := 1) (by decide +kernel) rfl) ?_
  refine bs_c (pc := 76) (s_ald0 hx hb hKN.1 (by decide +kernel)) ?_
  refine bs_c (pc := 77) (s_ireturn hx hb hr hlocks (pc' := 0) (by decide +kernel)) ?_
  exact bs_n
set_option maxRecDepth 20000 in
theorem b_66_5 (C : CX p l s m args meth c d E F 66) : BB p l e s m args below meth c d E F K0 66 78 rc_66_5 := by
  obtain ⟨hx, hb, hml, hown, hts, hr, hlocks, hnm, hKN, hb0, hF⟩ := C
  have hb : c.code = prog_1_method_8_code := hb
  have hown : s.vm.findClass "RudeCoupons" = some m.cls := hown
  have hr : meth.sig.returnType = some .int := hr
  refine bs_c (pc := 78) (s_aload_n hx hb (k := 0) (by decide +kernel) rfl) ?_
  refine bs_c (pc := 79) (s_getf hx hb hts in_7 hown hKN.1 (ci := 7) rfl (k := 2) (by decide) (hts _ lf_7_26) (by decide +kernel)) ?_
  refine bs_c (pc := 82) (s_iload_n hx hb (k := 1) (by decide +kernel) rfl) ?_
  refine bs_c (pc := 83) (s_call rfl rfl (rk_V hx hb hml (index := 144) (y := 14) (n := 1) hown hts wc_14 (k := 6) rfl rfl lm_7_144 wk_14 wv_14 wi_14 wp_14 (by decide +kernel) (by decide +kernel)) hKN hb0) ?_
  refine bs_c (pc := 86) (s_if_eq hx hb (by decide +kernel) hF) ?_
  refine bs_c (pc := 89) (s_iconst hx hb (z := 1) (by decide +kernel) (by decide +kernel)) ?_
  refine bs_c (pc := 90) (s_goto hx hb (pc' := 0) (by decide +kernel)) ?_
  exact bs_n
set_option maxRecDepth 20000 in
theorem b_66_6 (C : CX p l s m args meth c d E F 66) : BB p l e s m args below meth c d E F K0 66 93 rc_66_6 := by
  obtain ⟨hx, hb, hml, hown, hts, hr, hlocks, hnm, hKN, hb0, hF⟩ := C
  have hb : c.code = prog_1_method_8_code := hb
  have hown : s.vm.findClass "RudeCoupons" = some m.cls := hown
  have hr : meth.sig.returnType = some .int := hr
  refine bs_c (pc := 93) (s_iconst hx hb (z := 0) (by decide +kernel) (by decide +kernel)) ?_
  refine bs_c (pc := 94) (s_fall (pc' := 0) (by decide +kernel)) ?_
  exact bs_n
set_option maxRecDepth 20000 in
theorem b_66_7 (C : CX p l s m args meth c d E F 66) : BB p l e s m args below meth c d E F K0 66 94 rc_66_7 := by
  obtain ⟨hx, hb, hml, hown, hts, hr, hlocks, hnm, hKN, hb0, hF⟩ := C
  have hb : c.code = prog_1_method_8_code := hb
  have hown : s.vm.findClass "RudeCoupons" = some m.cls := hown
  have hr : meth.sig.returnType = some .int := hr
  refine bs_c (pc := 94) (s_ireturn hx hb hr hlocks (pc' := 0) (by decide +kernel)) ?_
  exact bs_n
set_option maxRecDepth 20000 in
theorem b_66_8 (C : CX p l s m args meth c d E F 66) : BB p l e s m args below meth c d E F K0 66 95 rc_66_8 := by
  obtain ⟨hx, hb, hml, hown, hts, hr, hlocks, hnm, hKN, hb0, hF⟩ := C
  have hb : c.code = prog_1_method_8_code := hb
  have hown : s.vm.findClass "RudeCoupons" = some m.cls := hown
  have hr : meth.sig.returnType = some .int := hr
  refine bs_c (pc := 95) (s_aload_n hx hb (k := 0) (by decide +kernel) rfl) ?_
  refine bs_c (pc := 96) (s_iload_n hx hb (k := 1) (by decide +kernel) rfl) ?_
  refine bs_c (pc := 97) (s_call rfl rfl (rk_V hx hb hml (index := 147) (y := 67) (n := 1) hown hts wc_67 (k := 7) rfl rfl lm_7_147 wk_67 wv_67 wi_67 wp_67 (by decide +kernel) (by decide +kernel)) hKN hb0) ?_
  refine bs_c (pc := 100) (s_if_lt hx hb (by decide +kernel) hF) ?_
  refine bs_c (pc := 103) (s_iconst hx hb (z := 1) (by decide +kernel) (by decide +kernel)) ?_
  refine bs_c (pc := 104) (s_goto hx hb (pc' := 0) (by decide +kernel)) ?_
  exact bs_n
set_option maxRecDepth 20000 in
theorem b_66_9 (C : CX p l s m args meth c d E F 66) : BB p l e s m args below meth c d E F K0 66 107 rc_66_9 := by
  obtain ⟨hx, hb, hml, hown, hts, hr, hlocks, hnm, hKN, hb0, hF⟩ := C
  have hb : c.code = prog_1_method_8_code := hb
  have hown : s.vm.findClass "RudeCoupons" = some m.cls := hown
  have hr : meth.sig.returnType = some .int := hr
  refine bs_c (pc := 107) (s_iconst hx hb (z := 0) (by decide +kernel) (by decide +kernel)) ?_
  refine bs_c (pc := 108) (s_fall (pc' := 0) (by decide +kernel)) ?_
  exact bs_n
set_option maxRecDepth 20000 in
theorem b_66_10 (C : CX p l s m args meth c d E F 66) : BB p l e s m args below meth c d E F K0 66 108 rc_66_10 := by
  obtain ⟨hx, hb, hml, hown, hts, hr, hlocks, hnm, hKN, hb0, hF⟩ := C
  have hb : c.code = prog_1_method_8_code := hb
  have hown : s.vm.findClass "RudeCoupons" = some m.cls := hown
  have hr : meth.sig.returnType = some .int := hr
  refine bs_c (pc := 108) (s_ireturn hx hb hr hlocks (pc' := 0) (by decide +kernel)) ?_
  exact bs_n
set_option maxRecDepth 20000 in
theorem b_66_11 (C : CX p l s m args meth c d E F 66) : BB p l e s m args below meth c d E F K0 66 109 rc_66_11 := by
  obtain ⟨hx, hb, hml, hown, hts, hr, hlocks, hnm, hKN, hb0, hF⟩ := C
  have hb : c.code = prog_1_method_8_code := hb
  have hown : s.vm.findClass "RudeCoupons" = some m.cls := hown
  have hr : meth.sig.returnType = some .int := hr
  refine bs_c (pc := 109) (s_iconst hx hb (z := -1) (by decide +kernel) (by decide +kernel)) ?_
  refine bs_c (pc := 110) (s_ireturn hx hb hr hlocks (pc' := 0) (by decide +kernel)) ?_
  exact bs_n
set_option maxRecDepth 20000 in
theorem b_67_0 (C : CX p l s m args meth c d E F 67) : BB p l e s m args below meth c d E F K0 67 0 rc_67_0 := by
  obtain ⟨hx, hb, hml, hown, hts, hr, hlocks, hnm, hKN, hb0, hF⟩ := C
  have hb : c.code = prog_1_method_31_code := hb
  have hown : s.vm.findClass "RudeCoupons" = some m.cls := hown
  have hr : meth.sig.returnType = some .int := hr
  refine bs_c (pc := 0) (s_aload_n hx hb (k := 0) (by decide +kernel) rfl) ?_
  refine bs_c (pc := 1) (s_getf hx hb hts in_7 hown hKN.1 (ci := 7) rfl (k := 2) (by decide) (hts _ lf_7_26) (by decide +kernel)) ?_
  refine bs_c (pc := 4) (s_iload_n hx hb (k := 1) (by decide +kernel) rfl) ?_
  refine bs_c (pc := 5) (s_call rfl rfl (rk_V hx hb hml (index := 144) (y := 14) (n := 1) hown hts wc_14 (k := 6) rfl rfl lm_7_144 wk_14 wv_14 wi_14 wp_14 (by decide +kernel) (by decide +kernel)) hKN hb0) ?_
  refine bs_c (pc := 8) (s_if_ne hx hb (by decide +kernel) hF) ?_
  refine bs_c (pc := 11) (s_aload_n hx hb (k := 0) (by decide +kernel) rfl) ?_
  refine bs_c (pc := 12) (s_getf hx hb hts in_7 hown hKN.1 (ci := 7) rfl (k := 9) (by decide) (hts _ lf_7_67) (by decide +kernel)) ?_
  refine bs_c (pc := 15) (s_getf hx hb hts in_0 hown hKN.1 (ci := 0) rfl (k := 9) (by decide) (hts _ lf_7_135) (by decide +kernel)) ?_
  refine bs_c (pc := 18) (s_iload_n hx hb (k := 1) (by decide +kernel) rfl) ?_
  refine bs_c (pc := 19) (s_ald0 hx hb hKN.1 (by decide +kernel)) ?_
  refine bs_c (pc := 20) (s_aload_n hx hb (k := 0) (by decide +kernel) rfl) ?_
  refine bs_c (pc := 21) (s_getf hx hb hts in_7 hown hKN.1 (ci := 7) rfl (k := 2) (by decide) (hts _ lf_7_26) (by decide +kernel)) ?_
  refine bs_c (pc := 24) (s_getf hx hb hts in_6 hown hKN.1 (ci := 6) rfl (k := 0) (by decide) (hts _ lf_7_168) (by decide +kernel)) ?_
  refine bs_c (pc := 27) (s_icmp_eq hx hb (by decide +kernel) hF) ?_
  refine bs_c (pc := 30) (s_fall (pc' := 0) (by decide +kernel)) ?_
  exact bs_n
set_option maxRecDepth 20000 in
theorem b_67_1 (C : CX p l s m args meth c d E F 67) : BB p l e s m args below meth c d E F K0 67 30 rc_67_1 := by
  obtain ⟨hx, hb, hml, hown, hts, hr, hlocks, hnm, hKN, hb0, hF⟩ := C
  have hb : c.code = prog_1_method_31_code := hb
  have hown : s.vm.findClass "RudeCoupons" = some m.cls := hown
  have hr : meth.sig.returnType = some .int := hr
  refine bs_c (pc := 30) (s_bipush hx hb (z := -2) (by decide +kernel) (by decide +kernel)) ?_
  refine bs_c (pc := 32) (s_ireturn hx hb hr hlocks (pc' := 0) (by decide +kernel)) ?_
  exact bs_n
set_option maxRecDepth 20000 in
theorem b_67_2 (C : CX p l s m args meth c d E F 67) : BB p l e s m args below meth c d E F K0 67 33 rc_67_2 := by
  obtain ⟨hx, hb, hml, hown, hts, hr, hlocks, hnm, hKN, hb0, hF⟩ := C
  have hb : c.code = prog_1_method_31_code := hb
  have hown : s.vm.findClass "RudeCoupons" = some m.cls := hown
  have hr : meth.sig.returnType = some .int := hr
  refine bs_c (pc := 33) (s_aload_n hx hb (k := 0) (by decide +kernel) rfl) ?_
  refine bs_c (pc := 34) (s_getf hx hb hts in_7 hown hKN.1 (ci := 7) rfl (k := 9) (by decide) (hts _ lf_7_67) (by decide +kernel)) ?_
  refine bs_c (pc := 37) (s_getf hx hb hts in_0 hown hKN.1 (ci := 0) rfl (k := 10) (by decide) (hts _ lf_7_138) (by decide +kernel)) ?_
  refine bs_c (pc := 40) (s_iload_n hx hb (k := 1) (by decide +kernel) rfl) ?_
  refine bs_c (pc := 41) (s_ald0 hx hb hKN.1 (by decide +kernel)) ?_
  refine bs_c (pc := 42) (s_istore_n hx hb (k := 2) (by decide +kernel) rfl (by decide +kernel)) ?_
  refine bs_c (pc := 43) (s_aload_n hx hb (k := 0) (by decide +kernel) rfl) ?_
  refine bs_c (pc := 44) (s_getf hx hb hts in_7 hown hKN.1 (ci := 7) rfl (k := 9) (by decide) (hts _ lf_7_67) (by decide +kernel)) ?_
  refine bs_c (pc := 47) (s_iload_n hx hb (k := 2) (by decide +kernel) rfl) ?_
  refine bs_c (pc := 48) (s_aload_n hx hb (k := 0) (by decide +kernel) rfl) ?_
  refine bs_c (pc := 49) (s_getf hx hb hts in_7 hown hKN.1 (ci := 7) rfl (k := 9) (by decide) (hts _ lf_7_67) (by decide +kernel)) ?_
  refine bs_c (pc := 52) (s_getf hx hb hts in_0 hown hKN.1 (ci := 0) rfl (k := 11) (by decide) (hts _ lf_7_141) (by decide +kernel)) ?_
  refine bs_c (pc := 55) (s_iload_n hx hb (k := 1) (by decide +kernel) rfl) ?_
  refine bs_c (pc := 56) (s_ald0 hx hb hKN.1 (by decide +kernel)) ?_
  refine bs_c (pc := 57) (s_aload_n hx hb (k := 0) (by decide +kernel) rfl) ?_
  refine bs_c (pc := 58) (s_getf hx hb hts in_7 hown hKN.1 (ci := 7) rfl (k := 2) (by decide) (hts _ lf_7_26) (by decide +kernel)) ?_
  refine bs_c (pc := 61) (s_getf hx hb hts in_6 hown hKN.1 (ci := 6) rfl (k := 0) (by decide) (hts _ lf_7_168) (by decide +kernel)) ?_
  refine bs_c (pc := 64) (s_aload_n hx hb (k := 0) (by decide +kernel) rfl) ?_
  refine bs_c (pc := 65) (s_getf hx hb hts in_7 hown hKN.1 (ci := 7) rfl (k := 2) (by decide) (hts _ lf_7_26) (by decide +kernel)) ?_
  refine bs_c (pc := 68) (s_getf hx hb hts in_6 hown hKN.1 (ci := 6) rfl (k := 2) (by decide) (hts _ lf_7_111) (by decide +kernel)) ?_
  refine bs_c (pc := 71) (s_iload_n hx hb (k := 2) (by decide +kernel) rfl) ?_
  refine bs_c (pc := 72) (s_ald0 hx hb hKN.1 (by decide +kernel)) ?_
  refine bs_c (pc := 73) (s_call rfl rfl (rk_V hx hb hml (index := 245) (y := 10) (n := 4) hown hts wc_10 (k := 0) rfl rfl lm_7_245 wk_10 wv_10 wi_10 wp_10 (by decide +kernel) (by decide +kernel)) hKN hb0) ?_
  refine bs_c (pc := 76) (s_ireturn hx hb hr hlocks (pc' := 0) (by decide +kernel)) ?_
  exact bs_n
set_option maxRecDepth 20000 in
theorem b_68_0 (C : CX p l s m args meth c d E F 68) : BB p l e s m args below meth c d E F K0 68 0 rc_68_0 := by
  obtain ⟨hx, hb, hml, hown, hts, hr, hlocks, hnm, hKN, hb0, hF⟩ := C
  have hb : c.code = prog_1_method_9_code := hb
  have hown : s.vm.findClass "RudeCoupons" = some m.cls := hown
  have hr : meth.sig.returnType = some .int := hr
  refine bs_c (pc := 0) (s_aload_n hx hb (k := 0) (by decide +kernel) rfl) ?_
  refine bs_c (pc := 1) (s_getf hx hb hts in_7 hown hKN.1 (ci := 7) rfl (k := 9) (by decide) (hts _ lf_7_67) (by decide +kernel)) ?_
  refine bs_c (pc := 4) (s_iload_n hx hb (k := 1) (by decide +kernel) rfl) ?_
  refine bs_c (pc := 5) (s_call rfl rfl (rk_V hx hb hml (index := 132) (y := 25) (n := 1) hown hts wc_25 (k := 0) rfl rfl lm_7_132 wk_25 wv_25 wi_25 wp_25 (by decide +kernel) (by decide +kernel)) hKN hb0) ?_
  refine bs_c (pc := 8) (s_if_ne hx hb (by decide +kernel) hF) ?_
  refine bs_c (pc := 11) (s_iconst hx hb (z := -1) (by decide +kernel) (by decide +kernel)) ?_
  refine bs_c (pc := 12) (s_ireturn hx hb hr hlocks (pc' := 0) (by decide +kernel)) ?_
  exact bs_n
set_option maxRecDepth 20000 in
theorem b_68_1 (C : CX p l s m args meth c d E F 68) : BB p l e s m args below meth c d E F K0 68 13 rc_68_1 := by
  obtain ⟨hx, hb, hml, hown, hts, hr, hlocks, hnm, hKN, hb0, hF⟩ := C
  have hb : c.code = prog_1_method_9_code := hb
  have hown : s.vm.findClass "RudeCoupons" = some m.cls := hown
  have hr : meth.sig.returnType = some .int := hr
  refine bs_c (pc := 13) (s_aload_n hx hb (k := 0) (by decide +kernel) rfl) ?_
  refine bs_c (pc := 14) (s_iload_n hx hb (k := 1) (by decide +kernel) rfl) ?_
  refine bs_c (pc := 15) (s_call rfl rfl (rk_V hx hb hml (index := 147) (y := 67) (n := 1) hown hts wc_67 (k := 7) rfl rfl lm_7_147 wk_67 wv_67 wi_67 wp_67 (by decide +kernel) (by decide +kernel)) hKN hb0) ?_
  refine bs_c (pc := 18) (s_istore_n hx hb (k := 2) (by decide +kernel) rfl (by decide +kernel)) ?_
  refine bs_c (pc := 19) (s_iload_n hx hb (k := 2) (by decide +kernel) rfl) ?_
  refine bs_c (pc := 20) (s_if_ge hx hb (by decide +kernel) hF) ?_
  refine bs_c (pc := 23) (s_bipush hx hb (z := -2) (by decide +kernel) (by decide +kernel)) ?_
  refine bs_c (pc := 25) (s_ireturn hx hb hr hlocks (pc' := 0) (by decide +kernel)) ?_
  exact bs_n
set_option maxRecDepth 20000 in
theorem b_68_2 (C : CX p l s m args meth c d E F 68) : BB p l e s m args below meth c d E F K0 68 26 rc_68_2 := by
  obtain ⟨hx, hb, hml, hown, hts, hr, hlocks, hnm, hKN, hb0, hF⟩ := C
  have hb : c.code = prog_1_method_9_code := hb
  have hown : s.vm.findClass "RudeCoupons" = some m.cls := hown
  have hr : meth.sig.returnType = some .int := hr
  refine bs_c (pc := 26) (s_aload_n hx hb (k := 0) (by decide +kernel) rfl) ?_
  refine bs_c (pc := 27) (s_getf hx hb hts in_7 hown hKN.1 (ci := 7) rfl (k := 3) (by decide) (hts _ lf_7_35) (by decide +kernel)) ?_
  refine bs_c (pc := 30) (s_aload_n hx hb (k := 0) (by decide +kernel) rfl) ?_
  refine bs_c (pc := 31) (s_getf hx hb hts in_7 hown hKN.1 (ci := 7) rfl (k := 2) (by decide) (hts _ lf_7_26) (by decide +kernel)) ?_
  refine bs_c (pc := 34) (s_call rfl rfl (rk_V hx hb hml (index := 151) (y := 46) (n := 1) hown hts wc_46 (k := 4) rfl rfl lm_7_151 wk_46 wv_46 wi_46 wp_46 (by decide +kernel) (by decide +kernel)) hKN hb0) ?_
  refine bs_c (pc := 37) (s_aload_n hx hb (k := 0) (by decide +kernel) rfl) ?_
  refine bs_c (pc := 38) (s_getf hx hb hts in_7 hown hKN.1 (ci := 7) rfl (k := 9) (by decide) (hts _ lf_7_67) (by decide +kernel)) ?_
  refine bs_c (pc := 41) (s_getf hx hb hts in_0 hown hKN.1 (ci := 0) rfl (k := 10) (by decide) (hts _ lf_7_138) (by decide +kernel)) ?_
  refine bs_c (pc := 44) (s_iload_n hx hb (k := 1) (by decide +kernel) rfl) ?_
  refine bs_c (pc := 45) (s_ald0 hx hb hKN.1 (by decide +kernel)) ?_
  refine bs_c (pc := 46) (s_istore_n hx hb (k := 3) (by decide +kernel) rfl (by decide +kernel)) ?_
  refine bs_c (pc := 47) (s_aload_n hx hb (k := 0) (by decide +kernel) rfl) ?_
  refine bs_c (pc := 48) (s_getf hx hb hts in_7 hown hKN.1 (ci := 7) rfl (k := 9) (by decide) (hts _ lf_7_67) (by decide +kernel)) ?_
  refine bs_c (pc := 51) (s_getf hx hb hts in_0 hown hKN.1 (ci := 0) rfl (k := 11) (by decide) (hts _ lf_7_141) (by decide +kernel)) ?_
  refine bs_c (pc := 54) (s_iload_n hx hb (k := 1) (by decide +kernel) rfl) ?_
  refine bs_c (pc := 55) (s_ald0 hx hb hKN.1 (by decide +kernel)) ?_
  refine bs_c (pc := 56) (s_istore hx hb (by decide +kernel) (by decide +kernel)) ?_
  refine bs_c (pc := 58) (s_aload_n hx hb (k := 0) (by decide +kernel) rfl) ?_
  refine bs_c (pc := 59) (s_getf hx hb hts in_7 hown hKN.1 (ci := 7) rfl (k := 2) (by decide) (hts _ lf_7_26) (by decide +kernel)) ?_
  refine bs_c (pc := 62) (s_dup hx hb (by decide +kernel)) ?_
  refine bs_c (pc := 63) (s_getf hx hb hts in_6 hown hKN.1 (ci := 6) rfl (k := 1) (by decide) (hts _ lf_7_155) (by decide +kernel)) ?_
  refine bs_c (pc := 66) (s_iconst hx hb (z := 1) (by decide +kernel) (by decide +kernel)) ?_
  refine bs_c (pc := 67) (s_iload_n hx hb (k := 1) (by decide +kernel) rfl) ?_
  refine bs_c (pc := 68) (s_ishl hx hb (by decide +kernel)) ?_
  refine bs_c (pc := 69) (s_ior hx hb (by decide +kernel)) ?_
  refine bs_c (pc := 70) (s_putI hx hb hts in_6 hown hKN.1 (ci := 6) rfl (k := 1) (by decide) (hts _ lf_7_155) tyX6 tyX6_ok nmX6 (tyX6_ok 1 (by decide)) rfl (by decide +kernel)) ?_
  refine bs_c (pc := 73) (s_aload_n hx hb (k := 0) (by decide +kernel) rfl) ?_
  refine bs_c (pc := 74) (s_getf hx hb hts in_7 hown hKN.1 (ci := 7) rfl (k := 2) (by decide) (hts _ lf_7_26) (by decide +kernel)) ?_
  refine bs_c (pc := 77) (s_getf hx hb hts in_6 hown hKN.1 (ci := 6) rfl (k := 2) (by decide) (hts _ lf_7_111) (by decide +kernel)) ?_
  refine bs_c (pc := 80) (s_iload_n hx hb (k := 3) (by decide +kernel) rfl) ?_
  refine bs_c (pc := 81) (s_iload_n hx hb (k := 2) (by decide +kernel) rfl) ?_
  refine bs_c (pc := 82) (s_ast0 hx hb hKN.1 (by decide +kernel)) ?_
  refine bs_c (pc := 83) (s_aload_n hx hb (k := 0) (by decide +kernel) rfl) ?_
  refine bs_c (pc := 84) (s_getf hx hb hts in_7 hown hKN.1 (ci := 7) rfl (k := 2) (by decide) (hts _ lf_7_26) (by decide +kernel)) ?_
  refine bs_c (pc := 87) (s_getf hx hb hts in_6 hown hKN.1 (ci := 6) rfl (k := 3) (by decide) (hts _ lf_7_117) (by decide +kernel)) ?_
  refine bs_c (pc := 90) (s_iload_n hx hb (k := 3) (by decide +kernel) rfl) ?_
  refine bs_c (pc := 91) (s_dup2 hx hb (by decide +kernel)) ?_
  refine bs_c (pc := 92) (s_ald0 hx hb hKN.1 (by decide +kernel)) ?_
  refine bs_c (pc := 93) (s_aload_n hx hb (k := 0) (by decide +kernel) rfl) ?_
  refine bs_c (pc := 94) (s_getf hx hb hts in_7 hown hKN.1 (ci := 7) rfl (k := 9) (by decide) (hts _ lf_7_67) (by decide +kernel)) ?_
  refine bs_c (pc := 97) (s_getf hx hb hts in_0 hown hKN.1 (ci := 0) rfl (k := 5) (by decide) (hts _ lf_7_123) (by decide +kernel)) ?_
  refine bs_c (pc := 100) (s_iload hx hb (by decide +kernel)) ?_
  refine bs_c (pc := 102) (s_ald0 hx hb hKN.1 (by decide +kernel)) ?_
  refine bs_c (pc := 103) (s_iadd hx hb (by decide +kernel)) ?_
  refine bs_c (pc := 104) (s_ast0 hx hb hKN.1 (by decide +kernel)) ?_
  refine bs_c (pc := 105) (s_iconst hx hb (z := 0) (by decide +kernel) (by decide +kernel)) ?_
  refine bs_c (pc := 106) (s_istore hx hb (by decide +kernel) (by decide +kernel)) ?_
  refine bs_c (pc := 108) (s_fall (pc' := 0) (by decide +kernel)) ?_
  exact bs_n
set_option maxRecDepth 20000 in
theorem b_68_3 (C : CX p l s m args meth c d E F 68) : BB p l e s m args below meth c d E F K0 68 108 rc_68_3 := by
  obtain ⟨hx, hb, hml, hown, hts, hr, hlocks, hnm, hKN, hb0, hF⟩ := C
  have hb : c.code = prog_1_method_9_code := hb
  have hown : s.vm.findClass "RudeCoupons" = some m.cls := hown
  have hr : meth.sig.returnType = some .int := hr
  refine bs_c (pc := 108) (s_iload hx hb (by decide +kernel)) ?_
  refine bs_c (pc := 110) (s_aload_n hx hb (k := 0) (by decide +kernel) rfl) ?_
  refine bs_c (pc := 111) (s_getf hx hb hts in_7 hown hKN.1 (ci := 7) rfl (k := 9) (by decide) (hts _ lf_7_67) (by decide +kernel)) ?_
  refine bs_c (pc := 114) (s_getf hx hb hts in_0 hown hKN.1 (ci := 0) rfl (k := 0) (by decide) (hts _ lf_7_158) (by decide +kernel)) ?_
  refine bs_c (pc := 117) (s_icmp_ge hx hb (by decide +kernel) hF) ?_
  refine bs_c (pc := 120) (s_aload_n hx hb (k := 0) (by decide +kernel) rfl) ?_
  refine bs_c (pc := 121) (s_getf hx hb hts in_7 hown hKN.1 (ci := 7) rfl (k := 2) (by decide) (hts _ lf_7_26) (by decide +kernel)) ?_
  refine bs_c (pc := 124) (s_getf hx hb hts in_6 hown hKN.1 (ci := 6) rfl (k := 4) (by decide) (hts _ lf_7_161) (by decide +kernel)) ?_
  refine bs_c (pc := 127) (s_iload hx hb (by decide +kernel)) ?_
  refine bs_c (pc := 129) (s_dup2 hx hb (by decide +kernel)) ?_
  refine bs_c (pc := 130) (s_ald0 hx hb hKN.1 (by decide +kernel)) ?_
  refine bs_c (pc := 131) (s_aload_n hx hb (k := 0) (by decide +kernel) rfl) ?_
  refine bs_c (pc := 132) (s_getf hx hb hts in_7 hown hKN.1 (ci := 7) rfl (k := 9) (by decide) (hts _ lf_7_67) (by decide +kernel)) ?_
  refine bs_c (pc := 135) (s_iload hx hb (by decide +kernel)) ?_
  refine bs_c (pc := 137) (s_iload_n hx hb (k := 3) (by decide +kernel) rfl) ?_
  refine bs_c (pc := 138) (s_iload hx hb (by decide +kernel)) ?_
  refine bs_c (pc := 140) (s_call rfl rfl (rk_V hx hb hml (index := 164) (y := 26) (n := 3) hown hts wc_26 (k := 0) rfl rfl lm_7_164 wk_26 wv_26 wi_26 wp_26 (by decide +kernel) (by decide +kernel)) hKN hb0) ?_
  refine bs_c (pc := 143) (s_iadd hx hb (by decide +kernel)) ?_
  refine bs_c (pc := 144) (s_ast0 hx hb hKN.1 (by decide +kernel)) ?_
  refine bs_c (pc := 145) (s_iinc hx hb (z := 1) (by decide +kernel) (by decide +kernel) (by decide +kernel)) ?_
  refine bs_c (pc := 148) (s_goto hx hb (pc' := 0) (by decide +kernel)) ?_
  exact bs_n
set_option maxRecDepth 20000 in
theorem b_68_4 (C : CX p l s m args meth c d E F 68) : BB p l e s m args below meth c d E F K0 68 151 rc_68_4 := by
  obtain ⟨hx, hb, hml, hown, hts, hr, hlocks, hnm, hKN, hb0, hF⟩ := C
  have hb : c.code = prog_1_method_9_code := hb
  have hown : s.vm.findClass "RudeCoupons" = some m.cls := hown
  have hr : meth.sig.returnType = some .int := hr
  refine bs_c (pc := 151) (s_iload_n hx hb (k := 2) (by decide +kernel) rfl) ?_
  refine bs_c (pc := 152) (s_ireturn hx hb hr hlocks (pc' := 0) (by decide +kernel)) ?_
  exact bs_n
set_option maxRecDepth 20000 in
theorem b_69_0 (C : CX p l s m args meth c d E F 69) : BB p l e s m args below meth c d E F K0 69 0 rc_69_0 := by
  obtain ⟨hx, hb, hml, hown, hts, hr, hlocks, hnm, hKN, hb0, hF⟩ := C
  have hb : c.code = prog_1_method_37_code := hb
  have hown : s.vm.findClass "RudeCoupons" = some m.cls := hown
  have hr : meth.sig.returnType = none := hr
  refine bs_c (pc := 0) (s_iconst hx hb (z := 0) (by decide +kernel) (by decide +kernel)) ?_
  refine bs_c (pc := 1) (s_istore_n hx hb (k := 2) (by decide +kernel) rfl (by decide +kernel)) ?_
  refine bs_c (pc := 2) (s_fall (pc' := 0) (by decide +kernel)) ?_
  exact bs_n
set_option maxRecDepth 20000 in
theorem b_69_1 (C : CX p l s m args meth c d E F 69) : BB p l e s m args below meth c d E F K0 69 2 rc_69_1 := by
  obtain ⟨hx, hb, hml, hown, hts, hr, hlocks, hnm, hKN, hb0, hF⟩ := C
  have hb : c.code = prog_1_method_37_code := hb
  have hown : s.vm.findClass "RudeCoupons" = some m.cls := hown
  have hr : meth.sig.returnType = none := hr
  refine bs_c (pc := 2) (s_iload_n hx hb (k := 2) (by decide +kernel) rfl) ?_
  refine bs_c (pc := 3) (s_aload_n hx hb (k := 0) (by decide +kernel) rfl) ?_
  refine bs_c (pc := 4) (s_alen hx hb hKN.1 (by decide +kernel)) ?_
  refine bs_c (pc := 5) (s_icmp_ge hx hb (by decide +kernel) hF) ?_
  refine bs_c (pc := 8) (s_iload_n hx hb (k := 2) (by decide +kernel) rfl) ?_
  refine bs_c (pc := 9) (s_aload_n hx hb (k := 1) (by decide +kernel) rfl) ?_
  refine bs_c (pc := 10) (s_alen hx hb hKN.1 (by decide +kernel)) ?_
  refine bs_c (pc := 11) (s_icmp_ge hx hb (by decide +kernel) hF) ?_
  refine bs_c (pc := 14) (s_aload_n hx hb (k := 1) (by decide +kernel) rfl) ?_
  refine bs_c (pc := 15) (s_iload_n hx hb (k := 2) (by decide +kernel) rfl) ?_
  refine bs_c (pc := 16) (s_aload_n hx hb (k := 0) (by decide +kernel) rfl) ?_
  refine bs_c (pc := 17) (s_iload_n hx hb (k := 2) (by decide +kernel) rfl) ?_
  refine bs_c (pc := 18) (s_ald0 hx hb hKN.1 (by decide +kernel)) ?_
  refine bs_c (pc := 19) (s_ast0 hx hb hKN.1 (by decide +kernel)) ?_
  refine bs_c (pc := 20) (s_iinc hx hb (z := 1) (by decide +kernel) (by decide +kernel) (by decide +kernel)) ?_
  refine bs_c (pc := 23) (s_goto hx hb (pc' := 0) (by decide +kernel)) ?_
  exact bs_n
set_option maxRecDepth 20000 in
theorem b_69_2 (C : CX p l s m args meth c d E F 69) : BB p l e s m args below meth c d E F K0 69 26 rc_69_2 := by
  obtain ⟨hx, hb, hml, hown, hts, hr, hlocks, hnm, hKN, hb0, hF⟩ := C
  have hb : c.code = prog_1_method_37_code := hb
  have hown : s.vm.findClass "RudeCoupons" = some m.cls := hown
  have hr : meth.sig.returnType = none := hr
  refine bs_c (pc := 26) (s_return hx hb hr hlocks (pc' := 0) (by decide +kernel)) ?_
  exact bs_n
set_option maxRecDepth 20000 in
theorem b_70_0 (C : CX p l s m args meth c d E F 70) : BB p l e s m args below meth c d E F K0 70 0 rc_70_0 := by
  obtain ⟨hx, hb, hml, hown, hts, hr, hlocks, hnm, hKN, hb0, hF⟩ := C
  have hb : c.code = prog_1_method_10_code := hb
  have hown : s.vm.findClass "RudeCoupons" = some m.cls := hown
  have hr : meth.sig.returnType = some .int := hr
  refine bs_c (pc := 0) (s_iload_n hx hb (k := 1) (by decide +kernel) rfl) ?_
  refine bs_c (pc := 1) (s_iconst hx hb (z := 1) (by decide +kernel) (by decide +kernel)) ?_
  refine bs_c (pc := 2) (s_bipush hx hb (z := 30) (by decide +kernel) (by decide +kernel)) ?_
  refine bs_c (pc := 4) (s_call rfl rfl (rk_S hx hb hml (index := 96) (y := 16) (n := 3) hown hts wc_16 lm_7_96 wk_16 wi_16 wp_16 (by decide +kernel) (by decide +kernel)) hKN hb0) ?_
  refine bs_c (pc := 7) (s_if_ne hx hb (by decide +kernel) hF) ?_
  refine bs_c (pc := 10) (s_iconst hx hb (z := -1) (by decide +kernel) (by decide +kernel)) ?_
  refine bs_c (pc := 11) (s_ireturn hx hb hr hlocks (pc' := 0) (by decide +kernel)) ?_
  exact bs_n
set_option maxRecDepth 20000 in
theorem b_70_1 (C : CX p l s m args meth c d E F 70) : BB p l e s m args below meth c d E F K0 70 12 rc_70_1 := by
  obtain ⟨hx, hb, hml, hown, hts, hr, hlocks, hnm, hKN, hb0, hF⟩ := C
  have hb : c.code = prog_1_method_10_code := hb
  have hown : s.vm.findClass "RudeCoupons" = some m.cls := hown
  have hr : meth.sig.returnType = some .int := hr
  refine bs_c (pc := 12) (s_aload_n hx hb (k := 0) (by decide +kernel) rfl) ?_
  refine bs_c (pc := 13) (s_getf hx hb hts in_7 hown hKN.1 (ci := 7) rfl (k := 2) (by decide) (hts _ lf_7_26) (by decide +kernel)) ?_
  refine bs_c (pc := 16) (s_getf hx hb hts in_6 hown hKN.1 (ci := 6) rfl (k := 0) (by decide) (hts _ lf_7_168) (by decide +kernel)) ?_
  refine bs_c (pc := 19) (s_iload_n hx hb (k := 1) (by decide +kernel) rfl) ?_
  refine bs_c (pc := 20) (s_iadd hx hb (by decide +kernel)) ?_
  refine bs_c (pc := 21) (s_bipush hx hb (z := 99) (by decide +kernel) (by decide +kernel)) ?_
  refine bs_c (pc := 23) (s_icmp_le hx hb (by decide +kernel) hF) ?_
  refine bs_c (pc := 26) (s_bipush hx hb (z := -2) (by decide +kernel) (by decide +kernel)) ?_
  refine bs_c (pc := 28) (s_ireturn hx hb hr hlocks (pc' := 0) (by decide +kernel)) ?_
  exact bs_n
set_option maxRecDepth 20000 in
theorem b_70_2 (C : CX p l s m args meth c d E F 70) : BB p l e s m args below meth c d E F K0 70 29 rc_70_2 := by
  obtain ⟨hx, hb, hml, hown, hts, hr, hlocks, hnm, hKN, hb0, hF⟩ := C
  have hb : c.code = prog_1_method_10_code := hb
  have hown : s.vm.findClass "RudeCoupons" = some m.cls := hown
  have hr : meth.sig.returnType = some .int := hr
  refine bs_c (pc := 29) (s_aload_n hx hb (k := 0) (by decide +kernel) rfl) ?_
  refine bs_c (pc := 30) (s_getf hx hb hts in_7 hown hKN.1 (ci := 7) rfl (k := 3) (by decide) (hts _ lf_7_35) (by decide +kernel)) ?_
  refine bs_c (pc := 33) (s_aload_n hx hb (k := 0) (by decide +kernel) rfl) ?_
  refine bs_c (pc := 34) (s_getf hx hb hts in_7 hown hKN.1 (ci := 7) rfl (k := 2) (by decide) (hts _ lf_7_26) (by decide +kernel)) ?_
  refine bs_c (pc := 37) (s_call rfl rfl (rk_V hx hb hml (index := 151) (y := 46) (n := 1) hown hts wc_46 (k := 4) rfl rfl lm_7_151 wk_46 wv_46 wi_46 wp_46 (by decide +kernel) (by decide +kernel)) hKN hb0) ?_
  refine bs_c (pc := 40) (s_aload_n hx hb (k := 0) (by decide +kernel) rfl) ?_
  refine bs_c (pc := 41) (s_getf hx hb hts in_7 hown hKN.1 (ci := 7) rfl (k := 2) (by decide) (hts _ lf_7_26) (by decide +kernel)) ?_
  refine bs_c (pc := 44) (s_dup hx hb (by decide +kernel)) ?_
  refine bs_c (pc := 45) (s_getf hx hb hts in_6 hown hKN.1 (ci := 6) rfl (k := 0) (by decide) (hts _ lf_7_168) (by decide +kernel)) ?_
  refine bs_c (pc := 48) (s_iload_n hx hb (k := 1) (by decide +kernel) rfl) ?_
  refine bs_c (pc := 49) (s_iadd hx hb (by decide +kernel)) ?_
  refine bs_c (pc := 50) (s_putI hx hb hts in_6 hown hKN.1 (ci := 6) rfl (k := 0) (by decide) (hts _ lf_7_168) tyX6 tyX6_ok nmX6 (tyX6_ok 0 (by decide)) rfl (by decide +kernel)) ?_
  refine bs_c (pc := 53) (s_aload_n hx hb (k := 0) (by decide +kernel) rfl) ?_
  refine bs_c (pc := 54) (s_getf hx hb hts in_7 hown hKN.1 (ci := 7) rfl (k := 2) (by decide) (hts _ lf_7_26) (by decide +kernel)) ?_
  refine bs_c (pc := 57) (s_getf hx hb hts in_6 hown hKN.1 (ci := 6) rfl (k := 0) (by decide) (hts _ lf_7_168) (by decide +kernel)) ?_
  refine bs_c (pc := 60) (s_ireturn hx hb hr hlocks (pc' := 0) (by decide +kernel)) ?_
  exact bs_n
set_option maxRecDepth 20000 in
theorem b_71_0 (C : CX p l s m args meth c d E F 71) : BB p l e s m args below meth c d E F K0 71 0 rc_71_0 := by
  obtain ⟨hx, hb, hml, hown, hts, hr, hlocks, hnm, hKN, hb0, hF⟩ := C
  have hb : c.code = prog_1_method_11_code := hb
  have hown : s.vm.findClass "RudeCoupons" = some m.cls := hown
  have hr : meth.sig.returnType = some .int := hr
  refine bs_c (pc := 0) (s_aload_n hx hb (k := 0) (by decide +kernel) rfl) ?_
  refine bs_c (pc := 1) (s_getf hx hb hts in_7 hown hKN.1 (ci := 7) rfl (k := 9) (by decide) (hts _ lf_7_67) (by decide +kernel)) ?_
  refine bs_c (pc := 4) (s_iload_n hx hb (k := 1) (by decide +kernel) rfl) ?_
  refine bs_c (pc := 5) (s_call rfl rfl (rk_V hx hb hml (index := 104) (y := 23) (n := 1) hown hts wc_23 (k := 0) rfl rfl lm_7_104 wk_23 wv_23 wi_23 wp_23 (by decide +kernel) (by decide +kernel)) hKN hb0) ?_
  refine bs_c (pc := 8) (s_if_eq hx hb (by decide +kernel) hF) ?_
  refine bs_c (pc := 11) (s_aload_n hx hb (k := 0) (by decide +kernel) rfl) ?_
  refine bs_c (pc := 12) (s_getf hx hb hts in_7 hown hKN.1 (ci := 7) rfl (k := 9) (by decide) (hts _ lf_7_67) (by decide +kernel)) ?_
  refine bs_c (pc := 15) (s_iload_n hx hb (k := 2) (by decide +kernel) rfl) ?_
  refine bs_c (pc := 16) (s_call rfl rfl (rk_V hx hb hml (index := 104) (y := 23) (n := 1) hown hts wc_23 (k := 0) rfl rfl lm_7_104 wk_23 wv_23 wi_23 wp_23 (by decide +kernel) (by decide +kernel)) hKN hb0) ?_
  refine bs_c (pc := 19) (s_if_eq hx hb (by decide +kernel) hF) ?_
  refine bs_c (pc := 22) (s_iload_n hx hb (k := 1) (by decide +kernel) rfl) ?_
  refine bs_c (pc := 23) (s_iload_n hx hb (k := 2) (by decide +kernel) rfl) ?_
  refine bs_c (pc := 24) (s_icmp_eq hx hb (by decide +kernel) hF) ?_
  refine bs_c (pc := 27) (s_iload_n hx hb (k := 3) (by decide +kernel) rfl) ?_
  refine bs_c (pc := 28) (s_iconst hx hb (z := 1) (by decide +kernel) (by decide +kernel)) ?_
  refine bs_c (pc := 29) (s_bipush hx hb (z := 15) (by decide +kernel) (by decide +kernel)) ?_
  refine bs_c (pc := 31) (s_call rfl rfl (rk_S hx hb hml (index := 96) (y := 16) (n := 3) hown hts wc_16 lm_7_96 wk_16 wi_16 wp_16 (by decide +kernel) (by decide +kernel)) hKN hb0) ?_
  refine bs_c (pc := 34) (s_if_ne hx hb (by decide +kernel) hF) ?_
  refine bs_c (pc := 37) (s_fall (pc' := 0) (by decide +kernel)) ?_
  exact bs_n
set_option maxRecDepth 20000 in
theorem b_71_1 (C : CX p l s m args meth c d E F 71) : BB p l e s m args below meth c d E F K0 71 37 rc_71_1 := by
  obtain ⟨hx, hb, hml, hown, hts, hr, hlocks, hnm, hKN, hb0, hF⟩ := C
  have hb : c.code = prog_1_method_11_code := hb
  have hown : s.vm.findClass "RudeCoupons" = some m.cls := hown
  have hr : meth.sig.returnType = some .int := hr
  refine bs_c (pc := 37) (s_iconst hx hb (z := -1) (by decide +kernel) (by decide +kernel)) ?_
  refine bs_c (pc := 38) (s_ireturn hx hb hr hlocks (pc' := 0) (by decide +kernel)) ?_
  exact bs_n
set_option maxRecDepth 20000 in
theorem b_71_2 (C : CX p l s m args meth c d E F 71) : BB p l e s m args below meth c d E F K0 71 39 rc_71_2 := by
  obtain ⟨hx, hb, hml, hown, hts, hr, hlocks, hnm, hKN, hb0, hF⟩ := C
  have hb : c.code = prog_1_method_11_code := hb
  have hown : s.vm.findClass "RudeCoupons" = some m.cls := hown
  have hr : meth.sig.returnType = some .int := hr
  refine bs_c (pc := 39) (s_aload_n hx hb (k := 0) (by decide +kernel) rfl) ?_
  refine bs_c (pc := 40) (s_getf hx hb hts in_7 hown hKN.1 (ci := 7) rfl (k := 2) (by decide) (hts _ lf_7_26) (by decide +kernel)) ?_
  refine bs_c (pc := 43) (s_getf hx hb hts in_6 hown hKN.1 (ci := 6) rfl (k := 2) (by decide) (hts _ lf_7_111) (by decide +kernel)) ?_
  refine bs_c (pc := 46) (s_iload_n hx hb (k := 1) (by decide +kernel) rfl) ?_
  refine bs_c (pc := 47) (s_ald0 hx hb hKN.1 (by decide +kernel)) ?_
  refine bs_c (pc := 48) (s_iload_n hx hb (k := 3) (by decide +kernel) rfl) ?_
  refine bs_c (pc := 49) (s_icmp_ge hx hb (by decide +kernel) hF) ?_
  refine bs_c (pc := 52) (s_bipush hx hb (z := -2) (by decide +kernel) (by decide +kernel)) ?_
  refine bs_c (pc := 54) (s_ireturn hx hb hr hlocks (pc' := 0) (by decide +kernel)) ?_
  exact bs_n
set_option maxRecDepth 20000 in
theorem b_71_3 (C : CX p l s m args meth c d E F 71) : BB p l e s m args below meth c d E F K0 71 55 rc_71_3 := by
  obtain ⟨hx, hb, hml, hown, hts, hr, hlocks, hnm, hKN, hb0, hF⟩ := C
  have hb : c.code = prog_1_method_11_code := hb
  have hown : s.vm.findClass "RudeCoupons" = some m.cls := hown
  have hr : meth.sig.returnType = some .int := hr
  refine bs_c (pc := 55) (s_aload_n hx hb (k := 0) (by decide +kernel) rfl) ?_
  refine bs_c (pc := 56) (s_getf hx hb hts in_7 hown hKN.1 (ci := 7) rfl (k := 2) (by decide) (hts _ lf_7_26) (by decide +kernel)) ?_
  refine bs_c (pc := 59) (s_getf hx hb hts in_6 hown hKN.1 (ci := 6) rfl (k := 2) (by decide) (hts _ lf_7_111) (by decide +kernel)) ?_
  refine bs_c (pc := 62) (s_iload_n hx hb (k := 2) (by decide +kernel) rfl) ?_
  refine bs_c (pc := 63) (s_ald0 hx hb hKN.1 (by decide +kernel)) ?_
  refine bs_c (pc := 64) (s_iload_n hx hb (k := 3) (by decide +kernel) rfl) ?_
  refine bs_c (pc := 65) (s_iadd hx hb (by decide +kernel)) ?_
  refine bs_c (pc := 66) (s_bipush hx hb (z := 15) (by decide +kernel) (by decide +kernel)) ?_
  refine bs_c (pc := 68) (s_icmp_le hx hb (by decide +kernel) hF) ?_
  refine bs_c (pc := 71) (s_bipush hx hb (z := -3) (by decide +kernel) (by decide +kernel)) ?_
  refine bs_c (pc := 73) (s_ireturn hx hb hr hlocks (pc' := 0) (by decide +kernel)) ?_
  exact bs_n
set_option maxRecDepth 20000 in
theorem b_71_4 (C : CX p l s m args meth c d E F 71) : BB p l e s m args below meth c d E F K0 71 74 rc_71_4 := by
  obtain ⟨hx, hb, hml, hown, hts, hr, hlocks, hnm, hKN, hb0, hF⟩ := C
  have hb : c.code = prog_1_method_11_code := hb
  have hown : s.vm.findClass "RudeCoupons" = some m.cls := hown
  have hr : meth.sig.returnType = some .int := hr
  refine bs_c (pc := 74) (s_aload_n hx hb (k := 0) (by decide +kernel) rfl) ?_
  refine bs_c (pc := 75) (s_getf hx hb hts in_7 hown hKN.1 (ci := 7) rfl (k := 3) (by decide) (hts _ lf_7_35) (by decide +kernel)) ?_
  refine bs_c (pc := 78) (s_aload_n hx hb (k := 0) (by decide +kernel) rfl) ?_
  refine bs_c (pc := 79) (s_getf hx hb hts in_7 hown hKN.1 (ci := 7) rfl (k := 2) (by decide) (hts _ lf_7_26) (by decide +kernel)) ?_
  refine bs_c (pc := 82) (s_call rfl rfl (rk_V hx hb hml (index := 151) (y := 46) (n := 1) hown hts wc_46 (k := 4) rfl rfl lm_7_151 wk_46 wv_46 wi_46 wp_46 (by decide +kernel) (by decide +kernel)) hKN hb0) ?_
  refine bs_c (pc := 85) (s_aload_n hx hb (k := 0) (by decide +kernel) rfl) ?_
  refine bs_c (pc := 86) (s_getf hx hb hts in_7 hown hKN.1 (ci := 7) rfl (k := 2) (by decide) (hts _ lf_7_26) (by decide +kernel)) ?_
  refine bs_c (pc := 89) (s_getf hx hb hts in_6 hown hKN.1 (ci := 6) rfl (k := 2) (by decide) (hts _ lf_7_111) (by decide +kernel)) ?_
  refine bs_c (pc := 92) (s_iload_n hx hb (k := 1) (by decide +kernel) rfl) ?_
  refine bs_c (pc := 93) (s_dup2 hx hb (by decide +kernel)) ?_
  refine bs_c (pc := 94) (s_ald0 hx hb hKN.1 (by decide +kernel)) ?_
  refine bs_c (pc := 95) (s_iload_n hx hb (k := 3) (by decide +kernel) rfl) ?_
  refine bs_c (pc := 96) (s_isub hx hb (by decide +kernel)) ?_
  refine bs_c (pc := 97) (s_ast0 hx hb hKN.1 (by decide +kernel)) ?_
  refine bs_c (pc := 98) (s_aload_n hx hb (k := 0) (by decide +kernel) rfl) ?_
  refine bs_c (pc := 99) (s_getf hx hb hts in_7 hown hKN.1 (ci := 7) rfl (k := 2) (by decide) (hts _ lf_7_26) (by decide +kernel)) ?_
  refine bs_c (pc := 102) (s_getf hx hb hts in_6 hown hKN.1 (ci := 6) rfl (k := 2) (by decide) (hts _ lf_7_111) (by decide +kernel)) ?_
  refine bs_c (pc := 105) (s_iload_n hx hb (k := 2) (by decide +kernel) rfl) ?_
  refine bs_c (pc := 106) (s_dup2 hx hb (by decide +kernel)) ?_
  refine bs_c (pc := 107) (s_ald0 hx hb hKN.1 (by decide +kernel)) ?_
  refine bs_c (pc := 108) (s_iload_n hx hb (k := 3) (by decide +kernel) rfl) ?_
  refine bs_c (pc := 109) (s_iadd hx hb (by decide +kernel)) ?_
  refine bs_c (pc := 110) (s_ast0 hx hb hKN.1 (by decide +kernel)) ?_
  refine bs_c (pc := 111) (s_aload_n hx hb (k := 0) (by decide +kernel) rfl) ?_
  refine bs_c (pc := 112) (s_getf hx hb hts in_7 hown hKN.1 (ci := 7) rfl (k := 2) (by decide) (hts _ lf_7_26) (by decide +kernel)) ?_
  refine bs_c (pc := 115) (s_getf hx hb hts in_6 hown hKN.1 (ci := 6) rfl (k := 5) (by decide) (hts _ lf_7_170) (by decide +kernel)) ?_
  refine bs_c (pc := 118) (s_iload_n hx hb (k := 1) (by decide +kernel) rfl) ?_
  refine bs_c (pc := 119) (s_dup2 hx hb (by decide +kernel)) ?_
  refine bs_c (pc := 120) (s_ald0 hx hb hKN.1 (by decide +kernel)) ?_
  refine bs_c (pc := 121) (s_iload_n hx hb (k := 3) (by decide +kernel) rfl) ?_
  refine bs_c (pc := 122) (s_isub hx hb (by decide +kernel)) ?_
  refine bs_c (pc := 123) (s_ast0 hx hb hKN.1 (by decide +kernel)) ?_
  refine bs_c (pc := 124) (s_aload_n hx hb (k := 0) (by decide +kernel) rfl) ?_
  refine bs_c (pc := 125) (s_getf hx hb hts in_7 hown hKN.1 (ci := 7) rfl (k := 2) (by decide) (hts _ lf_7_26) (by decide +kernel)) ?_
  refine bs_c (pc := 128) (s_getf hx hb hts in_6 hown hKN.1 (ci := 6) rfl (k := 5) (by decide) (hts _ lf_7_170) (by decide +kernel)) ?_
  refine bs_c (pc := 131) (s_iload_n hx hb (k := 2) (by decide +kernel) rfl) ?_
  refine bs_c (pc := 132) (s_dup2 hx hb (by decide +kernel)) ?_
  refine bs_c (pc := 133) (s_ald0 hx hb hKN.1 (by decide +kernel)) ?_
  refine bs_c (pc := 134) (s_iload_n hx hb (k := 3) (by decide +kernel) rfl) ?_
  refine bs_c (pc := 135) (s_iadd hx hb (by decide +kernel)) ?_
  refine bs_c (pc := 136) (s_ast0 hx hb hKN.1 (by decide +kernel)) ?_
  refine bs_c (pc := 137) (s_aload_n hx hb (k := 0) (by decide +kernel) rfl) ?_
  refine bs_c (pc := 138) (s_getf hx hb hts in_7 hown hKN.1 (ci := 7) rfl (k := 2) (by decide) (hts _ lf_7_26) (by decide +kernel)) ?_
  refine bs_c (pc := 141) (s_getf hx hb hts in_6 hown hKN.1 (ci := 6) rfl (k := 2) (by decide) (hts _ lf_7_111) (by decide +kernel)) ?_
  refine bs_c (pc := 144) (s_iload_n hx hb (k := 1) (by decide +kernel) rfl) ?_
  refine bs_c (pc := 145) (s_ald0 hx hb hKN.1 (by decide +kernel)) ?_
  refine bs_c (pc := 146) (s_ireturn hx hb hr hlocks (pc' := 0) (by decide +kernel)) ?_
  exact bs_n
set_option maxRecDepth 20000 in
theorem b_72_0 (C : CX p l s m args meth c d E F 72) : BB p l e s m args below meth c d E F K0 72 0 rc_72_0 := by
  obtain ⟨hx, hb, hml, hown, hts, hr, hlocks, hnm, hKN, hb0, hF⟩ := C
  have hb : c.code = prog_1_method_12_code := hb
  have hown : s.vm.findClass "RudeCoupons" = some m.cls := hown
  have hr : meth.sig.returnType = some .int := hr
  refine bs_c (pc := 0) (s_iload_n hx hb (k := 1) (by decide +kernel) rfl) ?_
  refine bs_c (pc := 1) (s_iconst hx hb (z := 0) (by decide +kernel) (by decide +kernel)) ?_
  refine bs_c (pc := 2) (s_bipush hx hb (z := 15) (by decide +kernel) (by decide +kernel)) ?_
  refine bs_c (pc := 4) (s_call rfl rfl (rk_S hx hb hml (index := 96) (y := 16) (n := 3) hown hts wc_16 lm_7_96 wk_16 wi_16 wp_16 (by decide +kernel) (by decide +kernel)) hKN hb0) ?_
  refine bs_c (pc := 7) (s_if_ne hx hb (by decide +kernel) hF) ?_
  refine bs_c (pc := 10) (s_iconst hx hb (z := -1) (by decide +kernel) (by decide +kernel)) ?_
  refine bs_c (pc := 11) (s_ireturn hx hb hr hlocks (pc' := 0) (by decide +kernel)) ?_
  exact bs_n
set_option maxRecDepth 20000 in
theorem b_72_1 (C : CX p l s m args meth c d E F 72) : BB p l e s m args below meth c d E F K0 72 12 rc_72_1 := by
  obtain ⟨hx, hb, hml, hown, hts, hr, hlocks, hnm, hKN, hb0, hF⟩ := C
  have hb : c.code = prog_1_method_12_code := hb
  have hown : s.vm.findClass "RudeCoupons" = some m.cls := hown
  have hr : meth.sig.returnType = some .int := hr
  refine bs_c (pc := 12) (s_aload_n hx hb (k := 0) (by decide +kernel) rfl) ?_
  refine bs_c (pc := 13) (s_getf hx hb hts in_7 hown hKN.1 (ci := 7) rfl (k := 3) (by decide) (hts _ lf_7_35) (by decide +kernel)) ?_
  refine bs_c (pc := 16) (s_aload_n hx hb (k := 0) (by decide +kernel) rfl) ?_
  refine bs_c (pc := 17) (s_getf hx hb hts in_7 hown hKN.1 (ci := 7) rfl (k := 2) (by decide) (hts _ lf_7_26) (by decide +kernel)) ?_
  refine bs_c (pc := 20) (s_call rfl rfl (rk_V hx hb hml (index := 151) (y := 46) (n := 1) hown hts wc_46 (k := 4) rfl rfl lm_7_151 wk_46 wv_46 wi_46 wp_46 (by decide +kernel) (by decide +kernel)) hKN hb0) ?_
  refine bs_c (pc := 23) (s_aload_n hx hb (k := 0) (by decide +kernel) rfl) ?_
  refine bs_c (pc := 24) (s_getf hx hb hts in_7 hown hKN.1 (ci := 7) rfl (k := 2) (by decide) (hts _ lf_7_26) (by decide +kernel)) ?_
  refine bs_c (pc := 27) (s_call rfl rfl (rk_V hx hb hml (index := 173) (y := 55) (n := 0) hown hts wc_55 (k := 6) rfl rfl lm_7_173 wk_55 wv_55 wi_55 wp_55 (by decide +kernel) (by decide +kernel)) hKN hb0) ?_
  refine bs_c (pc := 30) (s_istore_n hx hb (k := 2) (by decide +kernel) rfl (by decide +kernel)) ?_
  refine bs_c (pc := 31) (s_iconst hx hb (z := 0) (by decide +kernel) (by decide +kernel)) ?_
  refine bs_c (pc := 32) (s_istore_n hx hb (k := 3) (by decide +kernel) rfl (by decide +kernel)) ?_
  refine bs_c (pc := 33) (s_fall (pc' := 0) (by decide +kernel)) ?_
  exact bs_n
set_option maxRecDepth 20000 in
theorem b_72_2 (C : CX p l s m args meth c d E F 72) : BB p l e s m args below meth c d E F K0 72 33 rc_72_2 := by
  obtain ⟨hx, hb, hml, hown, hts, hr, hlocks, hnm, hKN, hb0, hF⟩ := C
  have hb : c.code = prog_1_method_12_code := hb
  have hown : s.vm.findClass "RudeCoupons" = some m.cls := hown
  have hr : meth.sig.returnType = some .int := hr
  refine bs_c (pc := 33) (s_iload_n hx hb (k := 3) (by decide +kernel) rfl) ?_
  refine bs_c (pc := 34) (s_aload_n hx hb (k := 0) (by decide +kernel) rfl) ?_
  refine bs_c (pc := 35) (s_getf hx hb hts in_7 hown hKN.1 (ci := 7) rfl (k := 9) (by decide) (hts _ lf_7_67) (by decide +kernel)) ?_
  refine bs_c (pc := 38) (s_getf hx hb hts in_0 hown hKN.1 (ci := 0) rfl (k := 0) (by decide) (hts _ lf_7_158) (by decide +kernel)) ?_
  refine bs_c (pc := 41) (s_icmp_ge hx hb (by decide +kernel) hF) ?_
  refine bs_c (pc := 44) (s_aload_n hx hb (k := 0) (by decide +kernel) rfl) ?_
  refine bs_c (pc := 45) (s_getf hx hb hts in_7 hown hKN.1 (ci := 7) rfl (k := 2) (by decide) (hts _ lf_7_26) (by decide +kernel)) ?_
  refine bs_c (pc := 48) (s_getf hx hb hts in_6 hown hKN.1 (ci := 6) rfl (k := 2) (by decide) (hts _ lf_7_111) (by decide +kernel)) ?_
  refine bs_c (pc := 51) (s_iload_n hx hb (k := 3) (by decide +kernel) rfl) ?_
  refine bs_c (pc := 52) (s_iload_n hx hb (k := 1) (by decide +kernel) rfl) ?_
  refine bs_c (pc := 53) (s_ast0 hx hb hKN.1 (by decide +kernel)) ?_
  refine bs_c (pc := 54) (s_iinc hx hb (z := 1) (by decide +kernel) (by decide +kernel) (by decide +kernel)) ?_
  refine bs_c (pc := 57) (s_goto hx hb (pc' := 0) (by decide +kernel)) ?_
  exact bs_n
set_option maxRecDepth 20000 in
theorem b_72_3 (C : CX p l s m args meth c d E F 72) : BB p l e s m args below meth c d E F K0 72 60 rc_72_3 := by
  obtain ⟨hx, hb, hml, hown, hts, hr, hlocks, hnm, hKN, hb0, hF⟩ := C
  have hb : c.code = prog_1_method_12_code := hb
  have hown : s.vm.findClass "RudeCoupons" = some m.cls := hown
  have hr : meth.sig.returnType = some .int := hr
  refine bs_c (pc := 60) (s_iload_n hx hb (k := 2) (by decide +kernel) rfl) ?_
  refine bs_c (pc := 61) (s_ireturn hx hb hr hlocks (pc' := 0) (by decide +kernel)) ?_
  exact bs_n
set_option maxRecDepth 20000 in
theorem b_73_0 (C : CX p l s m args meth c d E F 73) : BB p l e s m args below meth c d E F K0 73 0 rc_73_0 := by
  obtain ⟨hx, hb, hml, hown, hts, hr, hlocks, hnm, hKN, hb0, hF⟩ := C
  have hb : c.code = prog_1_method_36_code := hb
  have hown : s.vm.findClass "RudeCoupons" = some m.cls := hown
  have hr : meth.sig.returnType = some .int := hr
  refine bs_c (pc := 0) (s_iconst hx hb (z := 0) (by decide +kernel) (by decide +kernel)) ?_
  refine bs_c (pc := 1) (s_istore_n hx hb (k := 1) (by decide +kernel) rfl (by decide +kernel)) ?_
  refine bs_c (pc := 2) (s_iconst hx hb (z := 0) (by decide +kernel) (by decide +kernel)) ?_
  refine bs_c (pc := 3) (s_istore_n hx hb (k := 2) (by decide +kernel) rfl (by decide +kernel)) ?_
  refine bs_c (pc := 4) (s_fall (pc' := 0) (by decide +kernel)) ?_
  exact bs_n
set_option maxRecDepth 20000 in
theorem b_73_1 (C : CX p l s m args meth c d E F 73) : BB p l e s m args below meth c d E F K0 73 4 rc_73_1 := by
  obtain ⟨hx, hb, hml, hown, hts, hr, hlocks, hnm, hKN, hb0, hF⟩ := C
  have hb : c.code = prog_1_method_36_code := hb
  have hown : s.vm.findClass "RudeCoupons" = some m.cls := hown
  have hr : meth.sig.returnType = some .int := hr
  refine bs_c (pc := 4) (s_iload_n hx hb (k := 2) (by decide +kernel) rfl) ?_
  refine bs_c (pc := 5) (s_aload_n hx hb (k := 0) (by decide +kernel) rfl) ?_
  refine bs_c (pc := 6) (s_alen hx hb hKN.1 (by decide +kernel)) ?_
  refine bs_c (pc := 7) (s_icmp_ge hx hb (by decide +kernel) hF) ?_
  refine bs_c (pc := 10) (s_iload_n hx hb (k := 1) (by decide +kernel) rfl) ?_
  refine bs_c (pc := 11) (s_aload_n hx hb (k := 0) (by decide +kernel) rfl) ?_
  refine bs_c (pc := 12) (s_iload_n hx hb (k := 2) (by decide +kernel) rfl) ?_
  refine bs_c (pc := 13) (s_ald0 hx hb hKN.1 (by decide +kernel)) ?_
  refine bs_c (pc := 14) (s_iadd hx hb (by decide +kernel)) ?_
  refine bs_c (pc := 15) (s_istore_n hx hb (k := 1) (by decide +kernel) rfl (by decide +kernel)) ?_
  refine bs_c (pc := 16) (s_iinc hx hb (z := 1) (by decide +kernel) (by decide +kernel) (by decide +kernel)) ?_
  refine bs_c (pc := 19) (s_goto hx hb (pc' := 0) (by decide +kernel)) ?_
  exact bs_n
set_option maxRecDepth 20000 in
theorem b_73_2 (C : CX p l s m args meth c d E F 73) : BB p l e s m args below meth c d E F K0 73 22 rc_73_2 := by
  obtain ⟨hx, hb, hml, hown, hts, hr, hlocks, hnm, hKN, hb0, hF⟩ := C
  have hb : c.code = prog_1_method_36_code := hb
  have hown : s.vm.findClass "RudeCoupons" = some m.cls := hown
  have hr : meth.sig.returnType = some .int := hr
  refine bs_c (pc := 22) (s_iload_n hx hb (k := 1) (by decide +kernel) rfl) ?_
  refine bs_c (pc := 23) (s_ireturn hx hb hr hlocks (pc' := 0) (by decide +kernel)) ?_
  exact bs_n
set_option maxRecDepth 20000 in
theorem b_74_0 (C : CX p l s m args meth c d E F 74) : BB p l e s m args below meth c d E F K0 74 0 rc_74_0 := by
  obtain ⟨hx, hb, hml, hown, hts, hr, hlocks, hnm, hKN, hb0, hF⟩ := C
  have hb : c.code = prog_1_method_13_code := hb
  have hown : s.vm.findClass "RudeCoupons" = some m.cls := hown
  have hr : meth.sig.returnType = some .int := hr
  refine bs_c (pc := 0) (s_aload_n hx hb (k := 0) (by decide +kernel) rfl) ?_
  refine bs_c (pc := 1) (s_getf hx hb hts in_7 hown hKN.1 (ci := 7) rfl (k := 3) (by decide) (hts _ lf_7_35) (by decide +kernel)) ?_
  refine bs_c (pc := 4) (s_aload_n hx hb (k := 0) (by decide +kernel) rfl) ?_
  refine bs_c (pc := 5) (s_getf hx hb hts in_7 hown hKN.1 (ci := 7) rfl (k := 2) (by decide) (hts _ lf_7_26) (by decide +kernel)) ?_
  refine bs_c (pc := 8) (s_call rfl rfl (rk_V hx hb hml (index := 176) (y := 48) (n := 1) hown hts wc_48 (k := 4) rfl rfl lm_7_176 wk_48 wv_48 wi_48 wp_48 (by decide +kernel) (by decide +kernel)) hKN hb0) ?_
  refine bs_c (pc := 11) (s_if_eq hx hb (by decide +kernel) hF) ?_
  refine bs_c (pc := 14) (s_aload_n hx hb (k := 0) (by decide +kernel) rfl) ?_
  refine bs_c (pc := 15) (s_getf hx hb hts in_7 hown hKN.1 (ci := 7) rfl (k := 3) (by decide) (hts _ lf_7_35) (by decide +kernel)) ?_
  refine bs_c (pc := 18) (s_getf hx hb hts in_4 hown hKN.1 (ci := 4) rfl (k := 1) (by decide) (hts _ lf_7_180) (by decide +kernel)) ?_
  refine bs_c (pc := 21) (s_goto hx hb (pc' := 0) (by decide +kernel)) ?_
  exact bs_n
set_option maxRecDepth 20000 in
theorem b_74_1 (C : CX p l s m args meth c d E F 74) : BB p l e s m args below meth c d E F K0 74 24 rc_74_1 := by
  obtain ⟨hx, hb, hml, hown, hts, hr, hlocks, hnm, hKN, hb0, hF⟩ := C
  have hb : c.code = prog_1_method_13_code := hb
  have hown : s.vm.findClass "RudeCoupons" = some m.cls := hown
  have hr : meth.sig.returnType = some .int := hr
  refine bs_c (pc := 24) (s_bipush hx hb (z := -2) (by decide +kernel) (by decide +kernel)) ?_
  refine bs_c (pc := 26) (s_fall (pc' := 0) (by decide +kernel)) ?_
  exact bs_n
set_option maxRecDepth 20000 in
theorem b_74_2 (C : CX p l s m args meth c d E F 74) : BB p l e s m args below meth c d E F K0 74 26 rc_74_2 := by
  obtain ⟨hx, hb, hml, hown, hts, hr, hlocks, hnm, hKN, hb0, hF⟩ := C
  have hb : c.code = prog_1_method_13_code := hb
  have hown : s.vm.findClass "RudeCoupons" = some m.cls := hown
  have hr : meth.sig.returnType = some .int := hr
  refine bs_c (pc := 26) (s_ireturn hx hb hr hlocks (pc' := 0) (by decide +kernel)) ?_
  exact bs_n
set_option maxRecDepth 20000 in
theorem b_75_0 (C : CX p l s m args meth c d E F 75) : BB p l e s m args below meth c d E F K0 75 0 rc_75_0 := by
  obtain ⟨hx, hb, hml, hown, hts, hr, hlocks, hnm, hKN, hb0, hF⟩ := C
  have hb : c.code = prog_1_method_14_code := hb
  have hown : s.vm.findClass "RudeCoupons" = some m.cls := hown
  have hr : meth.sig.returnType = some .int := hr
  refine bs_c (pc := 0) (s_aload_n hx hb (k := 0) (by decide +kernel) rfl) ?_
  refine bs_c (pc := 1) (s_getf hx hb hts in_7 hown hKN.1 (ci := 7) rfl (k := 9) (by decide) (hts _ lf_7_67) (by decide +kernel)) ?_
  refine bs_c (pc := 4) (s_iload_n hx hb (k := 1) (by decide +kernel) rfl) ?_
  refine bs_c (pc := 5) (s_call rfl rfl (rk_V hx hb hml (index := 104) (y := 23) (n := 1) hown hts wc_23 (k := 0) rfl rfl lm_7_104 wk_23 wv_23 wi_23 wp_23 (by decide +kernel) (by decide +kernel)) hKN hb0) ?_
  refine bs_c (pc := 8) (s_if_eq hx hb (by decide +kernel) hF) ?_
  refine bs_c (pc := 11) (s_iload_n hx hb (k := 2) (by decide +kernel) rfl) ?_
  refine bs_c (pc := 12) (s_iconst hx hb (z := 0) (by decide +kernel) (by decide +kernel)) ?_
  refine bs_c (pc := 13) (s_iconst hx hb (z := 1) (by decide +kernel) (by decide +kernel)) ?_
  refine bs_c (pc := 14) (s_call rfl rfl (rk_S hx hb hml (index := 96) (y := 16) (n := 3) hown hts wc_16 lm_7_96 wk_16 wi_16 wp_16 (by decide +kernel) (by decide +kernel)) hKN hb0) ?_
  refine bs_c (pc := 17) (s_if_ne hx hb (by decide +kernel) hF) ?_
  refine bs_c (pc := 20) (s_fall (pc' := 0) (by decide +kernel)) ?_
  exact bs_n
set_option maxRecDepth 20000 in
theorem b_75_1 (C : CX p l s m args meth c d E F 75) : BB p l e s m args below meth c d E F K0 75 20 rc_75_1 := by
  obtain ⟨hx, hb, hml, hown, hts, hr, hlocks, hnm, hKN, hb0, hF⟩ := C
  have hb : c.code = prog_1_method_14_code := hb
  have hown : s.vm.findClass "RudeCoupons" = some m.cls := hown
  have hr : meth.sig.returnType = some .int := hr
  refine bs_c (pc := 20) (s_iconst hx hb (z := -1) (by decide +kernel) (by decide +kernel)) ?_
  refine bs_c (pc := 21) (s_ireturn hx hb hr hlocks (pc' := 0) (by decide +kernel)) ?_
  exact bs_n
set_option maxRecDepth 20000 in
theorem b_75_2 (C : CX p l s m args meth c d E F 75) : BB p l e s m args below meth c d E F K0 75 22 rc_75_2 := by
  obtain ⟨hx, hb, hml, hown, hts, hr, hlocks, hnm, hKN, hb0, hF⟩ := C
  have hb : c.code = prog_1_method_14_code := hb
  have hown : s.vm.findClass "RudeCoupons" = some m.cls := hown
  have hr : meth.sig.returnType = some .int := hr
  refine bs_c (pc := 22) (s_aload_n hx hb (k := 0) (by decide +kernel) rfl) ?_
  refine bs_c (pc := 23) (s_getf hx hb hts in_7 hown hKN.1 (ci := 7) rfl (k := 7) (by decide) (hts _ lf_7_56) (by decide +kernel)) ?_
  refine bs_c (pc := 26) (s_aload_n hx hb (k := 0) (by decide +kernel) rfl) ?_
  refine bs_c (pc := 27) (s_getf hx hb hts in_7 hown hKN.1 (ci := 7) rfl (k := 9) (by decide) (hts _ lf_7_67) (by decide +kernel)) ?_
  refine bs_c (pc := 30) (s_aload_n hx hb (k := 0) (by decide +kernel) rfl) ?_
  refine bs_c (pc := 31) (s_getf hx hb hts in_7 hown hKN.1 (ci := 7) rfl (k := 2) (by decide) (hts _ lf_7_26) (by decide +kernel)) ?_
  refine bs_c (pc := 34) (s_iload_n hx hb (k := 1) (by decide +kernel) rfl) ?_
  refine bs_c (pc := 35) (s_call rfl rfl (rk_V hx hb hml (index := 183) (y := 33) (n := 3) hown hts wc_33 (k := 2) rfl rfl lm_7_183 wk_33 wv_33 wi_33 wp_33 (by decide +kernel) (by decide +kernel)) hKN hb0) ?_
  refine bs_c (pc := 38) (s_aload_n hx hb (k := 0) (by decide +kernel) rfl) ?_
  refine bs_c (pc := 39) (s_getf hx hb hts in_7 hown hKN.1 (ci := 7) rfl (k := 2) (by decide) (hts _ lf_7_26) (by decide +kernel)) ?_
  refine bs_c (pc := 42) (s_getf hx hb hts in_6 hown hKN.1 (ci := 6) rfl (k := 2) (by decide) (hts _ lf_7_111) (by decide +kernel)) ?_
  refine bs_c (pc := 45) (s_iload_n hx hb (k := 1) (by decide +kernel) rfl) ?_
  refine bs_c (pc := 46) (s_ald0 hx hb hKN.1 (by decide +kernel)) ?_
  refine bs_c (pc := 47) (s_istore_n hx hb (k := 3) (by decide +kernel) rfl (by decide +kernel)) ?_
  refine bs_c (pc := 48) (s_iload_n hx hb (k := 2) (by decide +kernel) rfl) ?_
  refine bs_c (pc := 49) (s_if_ne hx hb (by decide +kernel) hF) ?_
  refine bs_c (pc := 52) (s_aload_n hx hb (k := 0) (by decide +kernel) rfl) ?_
  refine bs_c (pc := 53) (s_getf hx hb hts in_7 hown hKN.1 (ci := 7) rfl (k := 7) (by decide) (hts _ lf_7_56) (by decide +kernel)) ?_
  refine bs_c (pc := 56) (s_getf hx hb hts in_2 hown hKN.1 (ci := 2) rfl (k := 0) (by decide) (hts _ lf_7_187) (by decide +kernel)) ?_
  refine bs_c (pc := 59) (s_iload_n hx hb (k := 1) (by decide +kernel) rfl) ?_
  refine bs_c (pc := 60) (s_aald hx hb hKN.1 (by decide +kernel)) ?_
  refine bs_c (pc := 61) (s_iload_n hx hb (k := 3) (by decide +kernel) rfl) ?_
  refine bs_c (pc := 62) (s_ald0 hx hb hKN.1 (by decide +kernel)) ?_
  refine bs_c (pc := 63) (s_goto hx hb (pc' := 0) (by decide +kernel)) ?_
  exact bs_n
set_option maxRecDepth 20000 in
theorem b_75_3 (C : CX p l s m args meth c d E F 75) : BB p l e s m args below meth c d E F K0 75 66 rc_75_3 := by
  obtain ⟨hx, hb, hml, hown, hts, hr, hlocks, hnm, hKN, hb0, hF⟩ := C
  have hb : c.code = prog_1_method_14_code := hb
  have hown : s.vm.findClass "RudeCoupons" = some m.cls := hown
  have hr : meth.sig.returnType = some .int := hr
  refine bs_c (pc := 66) (s_aload_n hx hb (k := 0) (by decide +kernel) rfl) ?_
  refine bs_c (pc := 67) (s_getf hx hb hts in_7 hown hKN.1 (ci := 7) rfl (k := 7) (by decide) (hts _ lf_7_56) (by decide +kernel)) ?_
  refine bs_c (pc := 70) (s_getf hx hb hts in_2 hown hKN.1 (ci := 2) rfl (k := 1) (by decide) (hts _ lf_7_190) (by decide +kernel)) ?_
  refine bs_c (pc := 73) (s_iload_n hx hb (k := 1) (by decide +kernel) rfl) ?_
  refine bs_c (pc := 74) (s_aald hx hb hKN.1 (by decide +kernel)) ?_
  refine bs_c (pc := 75) (s_iload_n hx hb (k := 3) (by decide +kernel) rfl) ?_
  refine bs_c (pc := 76) (s_ald0 hx hb hKN.1 (by decide +kernel)) ?_
  refine bs_c (pc := 77) (s_fall (pc' := 0) (by decide +kernel)) ?_
  exact bs_n
set_option maxRecDepth 20000 in
theorem b_75_4 (C : CX p l s m args meth c d E F 75) : BB p l e s m args below meth c d E F K0 75 77 rc_75_4 := by
  obtain ⟨hx, hb, hml, hown, hts, hr, hlocks, hnm, hKN, hb0, hF⟩ := C
  have hb : c.code = prog_1_method_14_code := hb
  have hown : s.vm.findClass "RudeCoupons" = some m.cls := hown
  have hr : meth.sig.returnType = some .int := hr
  refine bs_c (pc := 77) (s_ireturn hx hb hr hlocks (pc' := 0) (by decide +kernel)) ?_
  exact bs_n
end MTH
