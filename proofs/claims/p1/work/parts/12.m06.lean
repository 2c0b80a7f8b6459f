/-! METHODS, block by block, by program: every instruction as its handler says -/
section MTH
variable {p : Program} {l : Launch} {e : Env} {s : State} {m : MethodId} {args : Array Value} {below : List Frame} {meth : Method} {c : Code} {d : mD} {E : mE} {F : mF} {K0 : mK}
set_option maxRecDepth 20000 in
theorem b_88_0 (C : CX p l s m args meth c d E F 88) : BB p l e s m args below meth c d E F K0 88 0 rc_88_0 := by
  obtain ⟨hx, hb, hml, hown, hts, hr, hlocks, hnm, hKN, hb0, hF⟩ := C
  have hb : c.code = prog_1_method_25_code := hb
  have hown : s.vm.findClass "RudeCoupons" = some m.cls := hown
  have hr : meth.sig.returnType = some .int := hr
  refine bs_c (pc := 0) (s_iload_n hx hb (k := 1) (by decide +kernel) rfl) ?_
  refine bs_c (pc := 1) (s_iconst hx hb (z := -1) (by decide +kernel) (by decide +kernel)) ?_
  refine bs_c (pc := 2) (s_icmp_ne hx hb (by decide +kernel) hF) ?_
  refine bs_c (pc := 5) (s_aload_n hx hb (k := 0) (by decide +kernel) rfl) ?_
  refine bs_c (pc := 6) (s_getf hx hb hts in_7 hown hKN.1 (ci := 7) rfl (k := 2) (by decide) (hts _ lf_7_26) (by decide +kernel)) ?_
  refine bs_c (pc := 9) (s_call rfl rfl (rk_V hx hb hml (index := 232) (y := 57) (n := 0) hown hts wc_57 (k := 6) rfl rfl lm_7_232 wk_57 wv_57 wi_57 wp_57 (by decide +kernel) (by decide +kernel)) hKN hb0) ?_
  refine bs_c (pc := 12) (s_ireturn hx hb hr hlocks (pc' := 0) (by decide +kernel)) ?_
  exact bs_n
set_option maxRecDepth 20000 in
theorem b_88_1 (C : CX p l s m args meth c d E F 88) : BB p l e s m args below meth c d E F K0 88 13 rc_88_1 := by
  obtain ⟨hx, hb, hml, hown, hts, hr, hlocks, hnm, hKN, hb0, hF⟩ := C
  have hb : c.code = prog_1_method_25_code := hb
  have hown : s.vm.findClass "RudeCoupons" = some m.cls := hown
  have hr : meth.sig.returnType = some .int := hr
  refine bs_c (pc := 13) (s_aload_n hx hb (k := 0) (by decide +kernel) rfl) ?_
  refine bs_c (pc := 14) (s_getf hx hb hts in_7 hown hKN.1 (ci := 7) rfl (k := 9) (by decide) (hts _ lf_7_67) (by decide +kernel)) ?_
  refine bs_c (pc := 17) (s_iload_n hx hb (k := 1) (by decide +kernel) rfl) ?_
  refine bs_c (pc := 18) (s_call rfl rfl (rk_V hx hb hml (index := 104) (y := 23) (n := 1) hown hts wc_23 (k := 0) rfl rfl lm_7_104 wk_23 wv_23 wi_23 wp_23 (by decide +kernel) (by decide +kernel)) hKN hb0) ?_
  refine bs_c (pc := 21) (s_if_eq hx hb (by decide +kernel) hF) ?_
  refine bs_c (pc := 24) (s_aload_n hx hb (k := 0) (by decide +kernel) rfl) ?_
  refine bs_c (pc := 25) (s_getf hx hb hts in_7 hown hKN.1 (ci := 7) rfl (k := 2) (by decide) (hts _ lf_7_26) (by decide +kernel)) ?_
  refine bs_c (pc := 28) (s_getf hx hb hts in_6 hown hKN.1 (ci := 6) rfl (k := 4) (by decide) (hts _ lf_7_161) (by decide +kernel)) ?_
  refine bs_c (pc := 31) (s_iload_n hx hb (k := 1) (by decide +kernel) rfl) ?_
  refine bs_c (pc := 32) (s_ald0 hx hb hKN.1 (by decide +kernel)) ?_
  refine bs_c (pc := 33) (s_goto hx hb (pc' := 0) (by decide +kernel)) ?_
  exact bs_n
set_option maxRecDepth 20000 in
theorem b_88_2 (C : CX p l s m args meth c d E F 88) : BB p l e s m args below meth c d E F K0 88 36 rc_88_2 := by
  obtain ⟨hx, hb, hml, hown, hts, hr, hlocks, hnm, hKN, hb0, hF⟩ := C
  have hb : c.code = prog_1_method_25_code := hb
  have hown : s.vm.findClass "RudeCoupons" = some m.cls := hown
  have hr : meth.sig.returnType = some .int := hr
  refine bs_c (pc := 36) (s_iconst hx hb (z := -1) (by decide +kernel) (by decide +kernel)) ?_
  refine bs_c (pc := 37) (s_fall (pc' := 0) (by decide +kernel)) ?_
  exact bs_n
set_option maxRecDepth 20000 in
theorem b_88_3 (C : CX p l s m args meth c d E F 88) : BB p l e s m args below meth c d E F K0 88 37 rc_88_3 := by
  obtain ⟨hx, hb, hml, hown, hts, hr, hlocks, hnm, hKN, hb0, hF⟩ := C
  have hb : c.code = prog_1_method_25_code := hb
  have hown : s.vm.findClass "RudeCoupons" = some m.cls := hown
  have hr : meth.sig.returnType = some .int := hr
  refine bs_c (pc := 37) (s_ireturn hx hb hr hlocks (pc' := 0) (by decide +kernel)) ?_
  exact bs_n
set_option maxRecDepth 20000 in
theorem b_89_0 (C : CX p l s m args meth c d E F 89) : BB p l e s m args below meth c d E F K0 89 0 rc_89_0 := by
  obtain ⟨hx, hb, hml, hown, hts, hr, hlocks, hnm, hKN, hb0, hF⟩ := C
  have hb : c.code = prog_1_method_26_code := hb
  have hown : s.vm.findClass "RudeCoupons" = some m.cls := hown
  have hr : meth.sig.returnType = some .int := hr
  refine bs_c (pc := 0) (s_iload_n hx hb (k := 1) (by decide +kernel) rfl) ?_
  refine bs_c (pc := 1) (s_iconst hx hb (z := 0) (by decide +kernel) (by decide +kernel)) ?_
  refine bs_c (pc := 2) (s_sipush hx hb (z := 9999) (by decide +kernel) (by decide +kernel)) ?_
  refine bs_c (pc := 5) (s_call rfl rfl (rk_S hx hb hml (index := 96) (y := 16) (n := 3) hown hts wc_16 lm_7_96 wk_16 wi_16 wp_16 (by decide +kernel) (by decide +kernel)) hKN hb0) ?_
  refine bs_c (pc := 8) (s_if_eq hx hb (by decide +kernel) hF) ?_
  refine bs_c (pc := 11) (s_iload_n hx hb (k := 2) (by decide +kernel) rfl) ?_
  refine bs_c (pc := 12) (s_iconst hx hb (z := 0) (by decide +kernel) (by decide +kernel)) ?_
  refine bs_c (pc := 13) (s_iconst hx hb (z := 1) (by decide +kernel) (by decide +kernel)) ?_
  refine bs_c (pc := 14) (s_call rfl rfl (rk_S hx hb hml (index := 96) (y := 16) (n := 3) hown hts wc_16 lm_7_96 wk_16 wi_16 wp_16 (by decide +kernel) (by decide +kernel)) hKN hb0) ?_
  refine bs_c (pc := 17) (s_if_ne hx hb (by decide +kernel) hF) ?_
  refine bs_c (pc := 20) (s_fall (pc' := 0) (by decide +kernel)) ?_
  exact bs_n
set_option maxRecDepth 20000 in
theorem b_89_1 (C : CX p l s m args meth c d E F 89) : BB p l e s m args below meth c d E F K0 89 20 rc_89_1 := by
  obtain ⟨hx, hb, hml, hown, hts, hr, hlocks, hnm, hKN, hb0, hF⟩ := C
  have hb : c.code = prog_1_method_26_code := hb
  have hown : s.vm.findClass "RudeCoupons" = some m.cls := hown
  have hr : meth.sig.returnType = some .int := hr
  refine bs_c (pc := 20) (s_iconst hx hb (z := -1) (by decide +kernel) (by decide +kernel)) ?_
  refine bs_c (pc := 21) (s_ireturn hx hb hr hlocks (pc' := 0) (by decide +kernel)) ?_
  exact bs_n
set_option maxRecDepth 20000 in
theorem b_89_2 (C : CX p l s m args meth c d E F 89) : BB p l e s m args below meth c d E F K0 89 22 rc_89_2 := by
  obtain ⟨hx, hb, hml, hown, hts, hr, hlocks, hnm, hKN, hb0, hF⟩ := C
  have hb : c.code = prog_1_method_26_code := hb
  have hown : s.vm.findClass "RudeCoupons" = some m.cls := hown
  have hr : meth.sig.returnType = some .int := hr
  refine bs_c (pc := 22) (s_aload_n hx hb (k := 0) (by decide +kernel) rfl) ?_
  refine bs_c (pc := 23) (s_getf hx hb hts in_7 hown hKN.1 (ci := 7) rfl (k := 2) (by decide) (hts _ lf_7_26) (by decide +kernel)) ?_
  refine bs_c (pc := 26) (s_getf hx hb hts in_6 hown hKN.1 (ci := 6) rfl (k := 2) (by decide) (hts _ lf_7_111) (by decide +kernel)) ?_
  refine bs_c (pc := 29) (s_aload_n hx hb (k := 0) (by decide +kernel) rfl) ?_
  refine bs_c (pc := 30) (s_getf hx hb hts in_7 hown hKN.1 (ci := 7) rfl (k := 8) (by decide) (hts _ lf_7_60) (by decide +kernel)) ?_
  refine bs_c (pc := 33) (s_call rfl rfl (rk_S hx hb hml (index := 235) (y := 69) (n := 2) hown hts wc_69 lm_7_235 wk_69 wi_69 wp_69 (by decide +kernel) (by decide +kernel)) hKN hb0) ?_
  refine bs_c (pc := 36) (s_iconst hx hb (z := 0) (by decide +kernel) (by decide +kernel)) ?_
  refine bs_c (pc := 37) (s_istore_n hx hb (k := 3) (by decide +kernel) rfl (by decide +kernel)) ?_
  refine bs_c (pc := 38) (s_iconst hx hb (z := 0) (by decide +kernel) (by decide +kernel)) ?_
  refine bs_c (pc := 39) (s_istore hx hb (by decide +kernel) (by decide +kernel)) ?_
  refine bs_c (pc := 41) (s_fall (pc' := 0) (by decide +kernel)) ?_
  exact bs_n
set_option maxRecDepth 20000 in
theorem b_89_3 (C : CX p l s m args meth c d E F 89) : BB p l e s m args below meth c d E F K0 89 41 rc_89_3 := by
  obtain ⟨hx, hb, hml, hown, hts, hr, hlocks, hnm, hKN, hb0, hF⟩ := C
  have hb : c.code = prog_1_method_26_code := hb
  have hown : s.vm.findClass "RudeCoupons" = some m.cls := hown
  have hr : meth.sig.returnType = some .int := hr
  refine bs_c (pc := 41) (s_iload hx hb (by decide +kernel)) ?_
  refine bs_c (pc := 43) (s_aload_n hx hb (k := 0) (by decide +kernel) rfl) ?_
  refine bs_c (pc := 44) (s_getf hx hb hts in_7 hown hKN.1 (ci := 7) rfl (k := 9) (by decide) (hts _ lf_7_67) (by decide +kernel)) ?_
  refine bs_c (pc := 47) (s_getf hx hb hts in_0 hown hKN.1 (ci := 0) rfl (k := 8) (by decide) (hts _ lf_7_239) (by decide +kernel)) ?_
  refine bs_c (pc := 50) (s_icmp_ge hx hb (by decide +kernel) hF) ?_
  refine bs_c (pc := 53) (s_aload_n hx hb (k := 0) (by decide +kernel) rfl) ?_
  refine bs_c (pc := 54) (s_getf hx hb hts in_7 hown hKN.1 (ci := 7) rfl (k := 9) (by decide) (hts _ lf_7_67) (by decide +kernel)) ?_
  refine bs_c (pc := 57) (s_getf hx hb hts in_0 hown hKN.1 (ci := 0) rfl (k := 12) (by decide) (hts _ lf_7_242) (by decide +kernel)) ?_
  refine bs_c (pc := 60) (s_iload hx hb (by decide +kernel)) ?_
  refine bs_c (pc := 62) (s_ald0 hx hb hKN.1 (by decide +kernel)) ?_
  refine bs_c (pc := 63) (s_istore hx hb (by decide +kernel) (by decide +kernel)) ?_
  refine bs_c (pc := 65) (s_aload_n hx hb (k := 0) (by decide +kernel) rfl) ?_
  refine bs_c (pc := 66) (s_getf hx hb hts in_7 hown hKN.1 (ci := 7) rfl (k := 9) (by decide) (hts _ lf_7_67) (by decide +kernel)) ?_
  refine bs_c (pc := 69) (s_getf hx hb hts in_0 hown hKN.1 (ci := 0) rfl (k := 10) (by decide) (hts _ lf_7_138) (by decide +kernel)) ?_
  refine bs_c (pc := 72) (s_iload hx hb (by decide +kernel)) ?_
  refine bs_c (pc := 74) (s_ald0 hx hb hKN.1 (by decide +kernel)) ?_
  refine bs_c (pc := 75) (s_istore hx hb (by decide +kernel) (by decide +kernel)) ?_
  refine bs_c (pc := 77) (s_aload_n hx hb (k := 0) (by decide +kernel) rfl) ?_
  refine bs_c (pc := 78) (s_getf hx hb hts in_7 hown hKN.1 (ci := 7) rfl (k := 9) (by decide) (hts _ lf_7_67) (by decide +kernel)) ?_
  refine bs_c (pc := 81) (s_iload hx hb (by decide +kernel)) ?_
  refine bs_c (pc := 83) (s_aload_n hx hb (k := 0) (by decide +kernel) rfl) ?_
  refine bs_c (pc := 84) (s_getf hx hb hts in_7 hown hKN.1 (ci := 7) rfl (k := 9) (by decide) (hts _ lf_7_67) (by decide +kernel)) ?_
  refine bs_c (pc := 87) (s_getf hx hb hts in_0 hown hKN.1 (ci := 0) rfl (k := 11) (by decide) (hts _ lf_7_141) (by decide +kernel)) ?_
  refine bs_c (pc := 90) (s_iload hx hb (by decide +kernel)) ?_
  refine bs_c (pc := 92) (s_ald0 hx hb hKN.1 (by decide +kernel)) ?_
  refine bs_c (pc := 93) (s_aload_n hx hb (k := 0) (by decide +kernel) rfl) ?_
  refine bs_c (pc := 94) (s_getf hx hb hts in_7 hown hKN.1 (ci := 7) rfl (k := 9) (by decide) (hts _ lf_7_67) (by decide +kernel)) ?_
  refine bs_c (pc := 97) (s_getf hx hb hts in_0 hown hKN.1 (ci := 0) rfl (k := 9) (by decide) (hts _ lf_7_135) (by decide +kernel)) ?_
  refine bs_c (pc := 100) (s_iload hx hb (by decide +kernel)) ?_
  refine bs_c (pc := 102) (s_ald0 hx hb hKN.1 (by decide +kernel)) ?_
  refine bs_c (pc := 103) (s_aload_n hx hb (k := 0) (by decide +kernel) rfl) ?_
  refine bs_c (pc := 104) (s_getf hx hb hts in_7 hown hKN.1 (ci := 7) rfl (k := 8) (by decide) (hts _ lf_7_60) (by decide +kernel)) ?_
  refine bs_c (pc := 107) (s_iload hx hb (by decide +kernel)) ?_
  refine bs_c (pc := 109) (s_ald0 hx hb hKN.1 (by decide +kernel)) ?_
  refine bs_c (pc := 110) (s_call rfl rfl (rk_V hx hb hml (index := 245) (y := 10) (n := 4) hown hts wc_10 (k := 0) rfl rfl lm_7_245 wk_10 wv_10 wi_10 wp_10 (by decide +kernel) (by decide +kernel)) hKN hb0) ?_
  refine bs_c (pc := 113) (s_istore hx hb (by decide +kernel) (by decide +kernel)) ?_
  refine bs_c (pc := 115) (s_iload hx hb (by decide +kernel)) ?_
  refine bs_c (pc := 117) (s_if_lt hx hb (by decide +kernel) hF) ?_
  refine bs_c (pc := 120) (s_aload_n hx hb (k := 0) (by decide +kernel) rfl) ?_
  refine bs_c (pc := 121) (s_getf hx hb hts in_7 hown hKN.1 (ci := 7) rfl (k := 2) (by decide) (hts _ lf_7_26) (by decide +kernel)) ?_
  refine bs_c (pc := 124) (s_aload_n hx hb (k := 0) (by decide +kernel) rfl) ?_
  refine bs_c (pc := 125) (s_getf hx hb hts in_7 hown hKN.1 (ci := 7) rfl (k := 9) (by decide) (hts _ lf_7_67) (by decide +kernel)) ?_
  refine bs_c (pc := 128) (s_iload hx hb (by decide +kernel)) ?_
  refine bs_c (pc := 130) (s_call rfl rfl (rk_V hx hb hml (index := 249) (y := 15) (n := 2) hown hts wc_15 (k := 6) rfl rfl lm_7_249 wk_15 wv_15 wi_15 wp_15 (by decide +kernel) (by decide +kernel)) hKN hb0) ?_
  refine bs_c (pc := 133) (s_if_eq hx hb (by decide +kernel) hF) ?_
  refine bs_c (pc := 136) (s_iload_n hx hb (k := 1) (by decide +kernel) rfl) ?_
  refine bs_c (pc := 137) (s_iload hx hb (by decide +kernel)) ?_
  refine bs_c (pc := 139) (s_call rfl rfl (rk_S hx hb hml (index := 252) (y := 90) (n := 2) hown hts wc_90 lm_7_252 wk_90 wi_90 wp_90 (by decide +kernel) (by decide +kernel)) hKN hb0) ?_
  refine bs_c (pc := 142) (s_if_eq hx hb (by decide +kernel) hF) ?_
  refine bs_c (pc := 145) (s_aload_n hx hb (k := 0) (by decide +kernel) rfl) ?_
  refine bs_c (pc := 146) (s_getf hx hb hts in_7 hown hKN.1 (ci := 7) rfl (k := 8) (by decide) (hts _ lf_7_60) (by decide +kernel)) ?_
  refine bs_c (pc := 149) (s_iload hx hb (by decide +kernel)) ?_
  refine bs_c (pc := 151) (s_iload hx hb (by decide +kernel)) ?_
  refine bs_c (pc := 153) (s_ast0 hx hb hKN.1 (by decide +kernel)) ?_
  refine bs_c (pc := 154) (s_iload_n hx hb (k := 3) (by decide +kernel) rfl) ?_
  refine bs_c (pc := 155) (s_aload_n hx hb (k := 0) (by decide +kernel) rfl) ?_
  refine bs_c (pc := 156) (s_getf hx hb hts in_7 hown hKN.1 (ci := 7) rfl (k := 9) (by decide) (hts _ lf_7_67) (by decide +kernel)) ?_
  refine bs_c (pc := 159) (s_getf hx hb hts in_0 hown hKN.1 (ci := 0) rfl (k := 5) (by decide) (hts _ lf_7_123) (by decide +kernel)) ?_
  refine bs_c (pc := 162) (s_aload_n hx hb (k := 0) (by decide +kernel) rfl) ?_
  refine bs_c (pc := 163) (s_getf hx hb hts in_7 hown hKN.1 (ci := 7) rfl (k := 9) (by decide) (hts _ lf_7_67) (by decide +kernel)) ?_
  refine bs_c (pc := 166) (s_getf hx hb hts in_0 hown hKN.1 (ci := 0) rfl (k := 11) (by decide) (hts _ lf_7_141) (by decide +kernel)) ?_
  refine bs_c (pc := 169) (s_iload hx hb (by decide +kernel)) ?_
  refine bs_c (pc := 171) (s_ald0 hx hb hKN.1 (by decide +kernel)) ?_
  refine bs_c (pc := 172) (s_ald0 hx hb hKN.1 (by decide +kernel)) ?_
  refine bs_c (pc := 173) (s_iadd hx hb (by decide +kernel)) ?_
  refine bs_c (pc := 174) (s_istore_n hx hb (k := 3) (by decide +kernel) rfl (by decide +kernel)) ?_
  refine bs_c (pc := 175) (s_fall (pc' := 0) (by decide +kernel)) ?_
  exact bs_n
set_option maxRecDepth 20000 in
theorem b_89_4 (C : CX p l s m args meth c d E F 89) : BB p l e s m args below meth c d E F K0 89 175 rc_89_4 := by
  obtain ⟨hx, hb, hml, hown, hts, hr, hlocks, hnm, hKN, hb0, hF⟩ := C
  have hb : c.code = prog_1_method_26_code := hb
  have hown : s.vm.findClass "RudeCoupons" = some m.cls := hown
  have hr : meth.sig.returnType = some .int := hr
  refine bs_c (pc := 175) (s_iinc hx hb (z := 1) (by decide +kernel) (by decide +kernel) (by decide +kernel)) ?_
  refine bs_c (pc := 178) (s_goto hx hb (pc' := 0) (by decide +kernel)) ?_
  exact bs_n
set_option maxRecDepth 20000 in
theorem b_89_5 (C : CX p l s m args meth c d E F 89) : BB p l e s m args below meth c d E F K0 89 181 rc_89_5 := by
  obtain ⟨hx, hb, hml, hown, hts, hr, hlocks, hnm, hKN, hb0, hF⟩ := C
  have hb : c.code = prog_1_method_26_code := hb
  have hown : s.vm.findClass "RudeCoupons" = some m.cls := hown
  have hr : meth.sig.returnType = some .int := hr
  refine bs_c (pc := 181) (s_iload_n hx hb (k := 2) (by decide +kernel) rfl) ?_
  refine bs_c (pc := 182) (s_if_ne hx hb (by decide +kernel) hF) ?_
  refine bs_c (pc := 185) (s_iload_n hx hb (k := 3) (by decide +kernel) rfl) ?_
  refine bs_c (pc := 186) (s_goto hx hb (pc' := 0) (by decide +kernel)) ?_
  exact bs_n
set_option maxRecDepth 20000 in
theorem b_89_6 (C : CX p l s m args meth c d E F 89) : BB p l e s m args below meth c d E F K0 89 189 rc_89_6 := by
  obtain ⟨hx, hb, hml, hown, hts, hr, hlocks, hnm, hKN, hb0, hF⟩ := C
  have hb : c.code = prog_1_method_26_code := hb
  have hown : s.vm.findClass "RudeCoupons" = some m.cls := hown
  have hr : meth.sig.returnType = some .int := hr
  refine bs_c (pc := 189) (s_aload_n hx hb (k := 0) (by decide +kernel) rfl) ?_
  refine bs_c (pc := 190) (s_getf hx hb hts in_7 hown hKN.1 (ci := 7) rfl (k := 8) (by decide) (hts _ lf_7_60) (by decide +kernel)) ?_
  refine bs_c (pc := 193) (s_call rfl rfl (rk_S hx hb hml (index := 256) (y := 73) (n := 1) hown hts wc_73 lm_7_256 wk_73 wi_73 wp_73 (by decide +kernel) (by decide +kernel)) hKN hb0) ?_
  refine bs_c (pc := 196) (s_fall (pc' := 0) (by decide +kernel)) ?_
  exact bs_n
set_option maxRecDepth 20000 in
theorem b_89_7 (C : CX p l s m args meth c d E F 89) : BB p l e s m args below meth c d E F K0 89 196 rc_89_7 := by
  obtain ⟨hx, hb, hml, hown, hts, hr, hlocks, hnm, hKN, hb0, hF⟩ := C
  have hb : c.code = prog_1_method_26_code := hb
  have hown : s.vm.findClass "RudeCoupons" = some m.cls := hown
  have hr : meth.sig.returnType = some .int := hr
  refine bs_c (pc := 196) (s_ireturn hx hb hr hlocks (pc' := 0) (by decide +kernel)) ?_
  exact bs_n
set_option maxRecDepth 20000 in
theorem b_90_0 (C : CX p l s m args meth c d E F 90) : BB p l e s m args below meth c d E F K0 90 0 rc_90_0 := by
  obtain ⟨hx, hb, hml, hown, hts, hr, hlocks, hnm, hKN, hb0, hF⟩ := C
  have hb : c.code = prog_1_method_34_code := hb
  have hown : s.vm.findClass "RudeCoupons" = some m.cls := hown
  have hr : meth.sig.returnType = some .boolean := hr
  refine bs_c (pc := 0) (s_ldc2 hx hb hown (hts _ ll_7_279) (by decide +kernel)) ?_
  refine bs_c (pc := 3) (s_iload_n hx hb (k := 0) (by decide +kernel) rfl) ?_
  refine bs_c (pc := 4) (s_i2l hx hb (by decide +kernel) hF) ?_
  refine bs_c (pc := 5) (s_lmul hx hb (by decide +kernel) hF) ?_
  refine bs_c (pc := 6) (s_ldc2 hx hb hown (hts _ ll_7_281) (by decide +kernel)) ?_
  refine bs_c (pc := 9) (s_iload_n hx hb (k := 1) (by decide +kernel) rfl) ?_
  refine bs_c (pc := 10) (s_i2l hx hb (by decide +kernel) hF) ?_
  refine bs_c (pc := 11) (s_lmul hx hb (by decide +kernel) hF) ?_
  refine bs_c (pc := 12) (s_ladd hx hb (by decide +kernel) hF) ?_
  refine bs_c (pc := 13) (s_lconst hx hb (z := 1) (by decide +kernel) (by decide +kernel)) ?_
  refine bs_c (pc := 14) (s_ladd hx hb (by decide +kernel) hF) ?_
  refine bs_c (pc := 15) (s_lstore_n hx hb (k := 2) (by decide +kernel) rfl (by decide +kernel)) ?_
  refine bs_c (pc := 16) (s_lload_n hx hb (k := 2) (by decide +kernel) rfl) ?_
  refine bs_c (pc := 17) (s_lload_n hx hb (k := 2) (by decide +kernel) rfl) ?_
  refine bs_c (pc := 18) (s_lmul hx hb (by decide +kernel) hF) ?_
  refine bs_c (pc := 19) (s_ldc2 hx hb hown (hts _ ll_7_283) (by decide +kernel)) ?_
  refine bs_c (pc := 22) (s_lrem hx hb (by decide +kernel) hF) ?_
  refine bs_c (pc := 23) (s_ldc2 hx hb hown (hts _ ll_7_285) (by decide +kernel)) ?_
  refine bs_c (pc := 26) (s_ldiv hx hb (by decide +kernel) hF) ?_
  refine bs_c (pc := 27) (s_lstore hx hb (by decide +kernel) (by decide +kernel)) ?_
  refine bs_c (pc := 29) (s_lload hx hb (by decide +kernel)) ?_
  refine bs_c (pc := 31) (s_ldc2 hx hb hown (hts _ ll_7_287) (by decide +kernel)) ?_
  refine bs_c (pc := 34) (s_lrem hx hb (by decide +kernel) hF) ?_
  refine bs_c (pc := 35) (s_lconst hx hb (z := 0) (by decide +kernel) (by decide +kernel)) ?_
  refine bs_c (pc := 36) (s_lcmp hx hb (by decide +kernel) hF) ?_
  refine bs_c (pc := 37) (s_if_eq hx hb (by decide +kernel) hF) ?_
  refine bs_c (pc := 40) (s_iconst hx hb (z := 1) (by decide +kernel) (by decide +kernel)) ?_
  refine bs_c (pc := 41) (s_goto hx hb (pc' := 0) (by decide +kernel)) ?_
  exact bs_n
set_option maxRecDepth 20000 in
theorem b_90_1 (C : CX p l s m args meth c d E F 90) : BB p l e s m args below meth c d E F K0 90 44 rc_90_1 := by
  obtain ⟨hx, hb, hml, hown, hts, hr, hlocks, hnm, hKN, hb0, hF⟩ := C
  have hb : c.code = prog_1_method_34_code := hb
  have hown : s.vm.findClass "RudeCoupons" = some m.cls := hown
  have hr : meth.sig.returnType = some .boolean := hr
  refine bs_c (pc := 44) (s_iconst hx hb (z := 0) (by decide +kernel) (by decide +kernel)) ?_
  refine bs_c (pc := 45) (s_fall (pc' := 0) (by decide +kernel)) ?_
  exact bs_n
set_option maxRecDepth 20000 in
theorem b_90_2 (C : CX p l s m args meth c d E F 90) : BB p l e s m args below meth c d E F K0 90 45 rc_90_2 := by
  obtain ⟨hx, hb, hml, hown, hts, hr, hlocks, hnm, hKN, hb0, hF⟩ := C
  have hb : c.code = prog_1_method_34_code := hb
  have hown : s.vm.findClass "RudeCoupons" = some m.cls := hown
  have hr : meth.sig.returnType = some .boolean := hr
  refine bs_c (pc := 45) (s_zreturn hx hb hr nar_z hlocks (pc' := 0) (by decide +kernel)) ?_
  exact bs_n
set_option maxRecDepth 20000 in
theorem b_91_0 (C : CX p l s m args meth c d E F 91) : BB p l e s m args below meth c d E F K0 91 0 rc_91_0 := by
  obtain ⟨hx, hb, hml, hown, hts, hr, hlocks, hnm, hKN, hb0, hF⟩ := C
  have hb : c.code = prog_1_method_27_code := hb
  have hown : s.vm.findClass "RudeCoupons" = some m.cls := hown
  have hr : meth.sig.returnType = some .int := hr
  refine bs_c (pc := 0) (s_aload_n hx hb (k := 0) (by decide +kernel) rfl) ?_
  refine bs_c (pc := 1) (s_getf hx hb hts in_7 hown hKN.1 (ci := 7) rfl (k := 4) (by decide) (hts _ lf_7_39) (by decide +kernel)) ?_
  refine bs_c (pc := 4) (s_getf hx hb hts in_4 hown hKN.1 (ci := 4) rfl (k := 1) (by decide) (hts _ lf_7_180) (by decide +kernel)) ?_
  refine bs_c (pc := 7) (s_istore_n hx hb (k := 1) (by decide +kernel) rfl (by decide +kernel)) ?_
  refine bs_c (pc := 8) (s_iload_n hx hb (k := 1) (by decide +kernel) rfl) ?_
  refine bs_c (pc := 9) (s_iconst hx hb (z := 2) (by decide +kernel) (by decide +kernel)) ?_
  refine bs_c (pc := 10) (s_icmp_lt hx hb (by decide +kernel) hF) ?_
  refine bs_c (pc := 13) (s_bipush hx hb (z := -3) (by decide +kernel) (by decide +kernel)) ?_
  refine bs_c (pc := 15) (s_ireturn hx hb hr hlocks (pc' := 0) (by decide +kernel)) ?_
  exact bs_n
set_option maxRecDepth 20000 in
theorem b_91_1 (C : CX p l s m args meth c d E F 91) : BB p l e s m args below meth c d E F K0 91 16 rc_91_1 := by
  obtain ⟨hx, hb, hml, hown, hts, hr, hlocks, hnm, hKN, hb0, hF⟩ := C
  have hb : c.code = prog_1_method_27_code := hb
  have hown : s.vm.findClass "RudeCoupons" = some m.cls := hown
  have hr : meth.sig.returnType = some .int := hr
  refine bs_c (pc := 16) (s_aload_n hx hb (k := 0) (by decide +kernel) rfl) ?_
  refine bs_c (pc := 17) (s_getf hx hb hts in_7 hown hKN.1 (ci := 7) rfl (k := 4) (by decide) (hts _ lf_7_39) (by decide +kernel)) ?_
  refine bs_c (pc := 20) (s_aload_n hx hb (k := 0) (by decide +kernel) rfl) ?_
  refine bs_c (pc := 21) (s_getf hx hb hts in_7 hown hKN.1 (ci := 7) rfl (k := 2) (by decide) (hts _ lf_7_26) (by decide +kernel)) ?_
  refine bs_c (pc := 24) (s_call rfl rfl (rk_V hx hb hml (index := 151) (y := 46) (n := 1) hown hts wc_46 (k := 4) rfl rfl lm_7_151 wk_46 wv_46 wi_46 wp_46 (by decide +kernel) (by decide +kernel)) hKN hb0) ?_
  refine bs_c (pc := 27) (s_aload_n hx hb (k := 0) (by decide +kernel) rfl) ?_
  refine bs_c (pc := 28) (s_getf hx hb hts in_7 hown hKN.1 (ci := 7) rfl (k := 5) (by decide) (hts _ lf_7_42) (by decide +kernel)) ?_
  refine bs_c (pc := 31) (s_iload_n hx hb (k := 1) (by decide +kernel) rfl) ?_
  refine bs_c (pc := 32) (s_aald hx hb hKN.1 (by decide +kernel)) ?_
  refine bs_c (pc := 33) (s_aload_n hx hb (k := 0) (by decide +kernel) rfl) ?_
  refine bs_c (pc := 34) (s_getf hx hb hts in_7 hown hKN.1 (ci := 7) rfl (k := 0) (by decide) (hts _ lf_7_10) (by decide +kernel)) ?_
  refine bs_c (pc := 37) (s_call rfl rfl (rk_V hx hb hml (index := 260) (y := 31) (n := 1) hown hts wc_31 (k := 1) rfl rfl lm_7_260 wk_31 wv_31 wi_31 wp_31 (by decide +kernel) (by decide +kernel)) hKN hb0) ?_
  refine bs_c (pc := 40) (s_aload_n hx hb (k := 0) (by decide +kernel) rfl) ?_
  refine bs_c (pc := 41) (s_getf hx hb hts in_7 hown hKN.1 (ci := 7) rfl (k := 4) (by decide) (hts _ lf_7_39) (by decide +kernel)) ?_
  refine bs_c (pc := 44) (s_getf hx hb hts in_4 hown hKN.1 (ci := 4) rfl (k := 1) (by decide) (hts _ lf_7_180) (by decide +kernel)) ?_
  refine bs_c (pc := 47) (s_ireturn hx hb hr hlocks (pc' := 0) (by decide +kernel)) ?_
  exact bs_n
set_option maxRecDepth 20000 in
theorem b_92_0 (C : CX p l s m args meth c d E F 92) : BB p l e s m args below meth c d E F K0 92 0 rc_92_0 := by
  obtain ⟨hx, hb, hml, hown, hts, hr, hlocks, hnm, hKN, hb0, hF⟩ := C
  have hb : c.code = prog_1_method_28_code := hb
  have hown : s.vm.findClass "RudeCoupons" = some m.cls := hown
  have hr : meth.sig.returnType = some .int := hr
  refine bs_c (pc := 0) (s_aload_n hx hb (k := 0) (by decide +kernel) rfl) ?_
  refine bs_c (pc := 1) (s_getf hx hb hts in_7 hown hKN.1 (ci := 7) rfl (k := 4) (by decide) (hts _ lf_7_39) (by decide +kernel)) ?_
  refine bs_c (pc := 4) (s_aload_n hx hb (k := 0) (by decide +kernel) rfl) ?_
  refine bs_c (pc := 5) (s_getf hx hb hts in_7 hown hKN.1 (ci := 7) rfl (k := 2) (by decide) (hts _ lf_7_26) (by decide +kernel)) ?_
  refine bs_c (pc := 8) (s_call rfl rfl (rk_V hx hb hml (index := 176) (y := 48) (n := 1) hown hts wc_48 (k := 4) rfl rfl lm_7_176 wk_48 wv_48 wi_48 wp_48 (by decide +kernel) (by decide +kernel)) hKN hb0) ?_
  refine bs_c (pc := 11) (s_if_ne hx hb (by decide +kernel) hF) ?_
  refine bs_c (pc := 14) (s_bipush hx hb (z := -2) (by decide +kernel) (by decide +kernel)) ?_
  refine bs_c (pc := 16) (s_ireturn hx hb hr hlocks (pc' := 0) (by decide +kernel)) ?_
  exact bs_n
set_option maxRecDepth 20000 in
theorem b_92_1 (C : CX p l s m args meth c d E F 92) : BB p l e s m args below meth c d E F K0 92 17 rc_92_1 := by
  obtain ⟨hx, hb, hml, hown, hts, hr, hlocks, hnm, hKN, hb0, hF⟩ := C
  have hb : c.code = prog_1_method_28_code := hb
  have hown : s.vm.findClass "RudeCoupons" = some m.cls := hown
  have hr : meth.sig.returnType = some .int := hr
  refine bs_c (pc := 17) (s_aload_n hx hb (k := 0) (by decide +kernel) rfl) ?_
  refine bs_c (pc := 18) (s_getf hx hb hts in_7 hown hKN.1 (ci := 7) rfl (k := 4) (by decide) (hts _ lf_7_39) (by decide +kernel)) ?_
  refine bs_c (pc := 21) (s_getf hx hb hts in_4 hown hKN.1 (ci := 4) rfl (k := 1) (by decide) (hts _ lf_7_180) (by decide +kernel)) ?_
  refine bs_c (pc := 24) (s_aload_n hx hb (k := 0) (by decide +kernel) rfl) ?_
  refine bs_c (pc := 25) (s_getf hx hb hts in_7 hown hKN.1 (ci := 7) rfl (k := 5) (by decide) (hts _ lf_7_42) (by decide +kernel)) ?_
  refine bs_c (pc := 28) (s_alen hx hb hKN.1 (by decide +kernel)) ?_
  refine bs_c (pc := 29) (s_icmp_ge hx hb (by decide +kernel) hF) ?_
  refine bs_c (pc := 32) (s_aload_n hx hb (k := 0) (by decide +kernel) rfl) ?_
  refine bs_c (pc := 33) (s_getf hx hb hts in_7 hown hKN.1 (ci := 7) rfl (k := 0) (by decide) (hts _ lf_7_10) (by decide +kernel)) ?_
  refine bs_c (pc := 36) (s_aload_n hx hb (k := 0) (by decide +kernel) rfl) ?_
  refine bs_c (pc := 37) (s_getf hx hb hts in_7 hown hKN.1 (ci := 7) rfl (k := 5) (by decide) (hts _ lf_7_42) (by decide +kernel)) ?_
  refine bs_c (pc := 40) (s_aload_n hx hb (k := 0) (by decide +kernel) rfl) ?_
  refine bs_c (pc := 41) (s_getf hx hb hts in_7 hown hKN.1 (ci := 7) rfl (k := 4) (by decide) (hts _ lf_7_39) (by decide +kernel)) ?_
  refine bs_c (pc := 44) (s_getf hx hb hts in_4 hown hKN.1 (ci := 4) rfl (k := 1) (by decide) (hts _ lf_7_180) (by decide +kernel)) ?_
  refine bs_c (pc := 47) (s_aald hx hb hKN.1 (by decide +kernel)) ?_
  refine bs_c (pc := 48) (s_call rfl rfl (rk_V hx hb hml (index := 260) (y := 31) (n := 1) hown hts wc_31 (k := 1) rfl rfl lm_7_260 wk_31 wv_31 wi_31 wp_31 (by decide +kernel) (by decide +kernel)) hKN hb0) ?_
  refine bs_c (pc := 51) (s_fall (pc' := 0) (by decide +kernel)) ?_
  exact bs_n
set_option maxRecDepth 20000 in
theorem b_92_2 (C : CX p l s m args meth c d E F 92) : BB p l e s m args below meth c d E F K0 92 51 rc_92_2 := by
  obtain ⟨hx, hb, hml, hown, hts, hr, hlocks, hnm, hKN, hb0, hF⟩ := C
  have hb : c.code = prog_1_method_28_code := hb
  have hown : s.vm.findClass "RudeCoupons" = some m.cls := hown
  have hr : meth.sig.returnType = some .int := hr
  refine bs_c (pc := 51) (s_aload_n hx hb (k := 0) (by decide +kernel) rfl) ?_
  refine bs_c (pc := 52) (s_getf hx hb hts in_7 hown hKN.1 (ci := 7) rfl (k := 3) (by decide) (hts _ lf_7_35) (by decide +kernel)) ?_
  refine bs_c (pc := 55) (s_iconst hx hb (z := 0) (by decide +kernel) (by decide +kernel)) ?_
  refine bs_c (pc := 56) (s_putI hx hb hts in_4 hown hKN.1 (ci := 4) rfl (k := 1) (by decide) (hts _ lf_7_180) tyX4 tyX4_ok nmX4 (tyX4_ok 1 (by decide)) rfl (by decide +kernel)) ?_
  refine bs_c (pc := 59) (s_aload_n hx hb (k := 0) (by decide +kernel) rfl) ?_
  refine bs_c (pc := 60) (s_getf hx hb hts in_7 hown hKN.1 (ci := 7) rfl (k := 4) (by decide) (hts _ lf_7_39) (by decide +kernel)) ?_
  refine bs_c (pc := 63) (s_getf hx hb hts in_4 hown hKN.1 (ci := 4) rfl (k := 1) (by decide) (hts _ lf_7_180) (by decide +kernel)) ?_
  refine bs_c (pc := 66) (s_ireturn hx hb hr hlocks (pc' := 0) (by decide +kernel)) ?_
  exact bs_n
set_option maxRecDepth 20000 in
theorem b_93_0 (C : CX p l s m args meth c d E F 93) : BB p l e s m args below meth c d E F K0 93 0 rc_93_0 := by
  obtain ⟨hx, hb, hml, hown, hts, hr, hlocks, hnm, hKN, hb0, hF⟩ := C
  have hb : c.code = prog_1_method_29_code := hb
  have hown : s.vm.findClass "RudeCoupons" = some m.cls := hown
  have hr : meth.sig.returnType = some .int := hr
  refine bs_c (pc := 0) (s_iload_n hx hb (k := 1) (by decide +kernel) rfl) ?_
  refine bs_c (pc := 1) (s_table hx hb (hi' := 9) (offs := #[55, 63, 71, 79, 87, 98, 106, 114, 122, 130]) (len := 55) (pc' := 0) (by decide +kernel) (by decide +kernel) (by decide +kernel) (by decide +kernel) (by decide +kernel) hF) ?_
  exact bs_n
set_option maxRecDepth 20000 in
theorem b_93_1 (C : CX p l s m args meth c d E F 93) : BB p l e s m args below meth c d E F K0 93 56 rc_93_1 := by
  obtain ⟨hx, hb, hml, hown, hts, hr, hlocks, hnm, hKN, hb0, hF⟩ := C
  have hb : c.code = prog_1_method_29_code := hb
  have hown : s.vm.findClass "RudeCoupons" = some m.cls := hown
  have hr : meth.sig.returnType = some .int := hr
  refine bs_c (pc := 56) (s_aload_n hx hb (k := 0) (by decide +kernel) rfl) ?_
  refine bs_c (pc := 57) (s_getf hx hb hts in_7 hown hKN.1 (ci := 7) rfl (k := 9) (by decide) (hts _ lf_7_67) (by decide +kernel)) ?_
  refine bs_c (pc := 60) (s_getf hx hb hts in_0 hown hKN.1 (ci := 0) rfl (k := 0) (by decide) (hts _ lf_7_158) (by decide +kernel)) ?_
  refine bs_c (pc := 63) (s_ireturn hx hb hr hlocks (pc' := 0) (by decide +kernel)) ?_
  exact bs_n
set_option maxRecDepth 20000 in
theorem b_93_2 (C : CX p l s m args meth c d E F 93) : BB p l e s m args below meth c d E F K0 93 64 rc_93_2 := by
  obtain ⟨hx, hb, hml, hown, hts, hr, hlocks, hnm, hKN, hb0, hF⟩ := C
  have hb : c.code = prog_1_method_29_code := hb
  have hown : s.vm.findClass "RudeCoupons" = some m.cls := hown
  have hr : meth.sig.returnType = some .int := hr
  refine bs_c (pc := 64) (s_aload_n hx hb (k := 0) (by decide +kernel) rfl) ?_
  refine bs_c (pc := 65) (s_getf hx hb hts in_7 hown hKN.1 (ci := 7) rfl (k := 9) (by decide) (hts _ lf_7_67) (by decide +kernel)) ?_
  refine bs_c (pc := 68) (s_getf hx hb hts in_0 hown hKN.1 (ci := 0) rfl (k := 4) (by decide) (hts _ lf_7_264) (by decide +kernel)) ?_
  refine bs_c (pc := 71) (s_ireturn hx hb hr hlocks (pc' := 0) (by decide +kernel)) ?_
  exact bs_n
set_option maxRecDepth 20000 in
theorem b_93_3 (C : CX p l s m args meth c d E F 93) : BB p l e s m args below meth c d E F K0 93 72 rc_93_3 := by
  obtain ⟨hx, hb, hml, hown, hts, hr, hlocks, hnm, hKN, hb0, hF⟩ := C
  have hb : c.code = prog_1_method_29_code := hb
  have hown : s.vm.findClass "RudeCoupons" = some m.cls := hown
  have hr : meth.sig.returnType = some .int := hr
  refine bs_c (pc := 72) (s_aload_n hx hb (k := 0) (by decide +kernel) rfl) ?_
  refine bs_c (pc := 73) (s_getf hx hb hts in_7 hown hKN.1 (ci := 7) rfl (k := 9) (by decide) (hts _ lf_7_67) (by decide +kernel)) ?_
  refine bs_c (pc := 76) (s_getf hx hb hts in_0 hown hKN.1 (ci := 0) rfl (k := 8) (by decide) (hts _ lf_7_239) (by decide +kernel)) ?_
  refine bs_c (pc := 79) (s_ireturn hx hb hr hlocks (pc' := 0) (by decide +kernel)) ?_
  exact bs_n
set_option maxRecDepth 20000 in
theorem b_93_4 (C : CX p l s m args meth c d E F 93) : BB p l e s m args below meth c d E F K0 93 80 rc_93_4 := by
  obtain ⟨hx, hb, hml, hown, hts, hr, hlocks, hnm, hKN, hb0, hF⟩ := C
  have hb : c.code = prog_1_method_29_code := hb
  have hown : s.vm.findClass "RudeCoupons" = some m.cls := hown
  have hr : meth.sig.returnType = some .int := hr
  refine bs_c (pc := 80) (s_aload_n hx hb (k := 0) (by decide +kernel) rfl) ?_
  refine bs_c (pc := 81) (s_getf hx hb hts in_7 hown hKN.1 (ci := 7) rfl (k := 2) (by decide) (hts _ lf_7_26) (by decide +kernel)) ?_
  refine bs_c (pc := 84) (s_getf hx hb hts in_6 hown hKN.1 (ci := 6) rfl (k := 0) (by decide) (hts _ lf_7_168) (by decide +kernel)) ?_
  refine bs_c (pc := 87) (s_ireturn hx hb hr hlocks (pc' := 0) (by decide +kernel)) ?_
  exact bs_n
set_option maxRecDepth 20000 in
theorem b_93_5 (C : CX p l s m args meth c d E F 93) : BB p l e s m args below meth c d E F K0 93 88 rc_93_5 := by
  obtain ⟨hx, hb, hml, hown, hts, hr, hlocks, hnm, hKN, hb0, hF⟩ := C
  have hb : c.code = prog_1_method_29_code := hb
  have hown : s.vm.findClass "RudeCoupons" = some m.cls := hown
  have hr : meth.sig.returnType = some .int := hr
  refine bs_c (pc := 88) (s_aload_n hx hb (k := 0) (by decide +kernel) rfl) ?_
  refine bs_c (pc := 89) (s_getf hx hb hts in_7 hown hKN.1 (ci := 7) rfl (k := 2) (by decide) (hts _ lf_7_26) (by decide +kernel)) ?_
  refine bs_c (pc := 92) (s_getf hx hb hts in_6 hown hKN.1 (ci := 6) rfl (k := 1) (by decide) (hts _ lf_7_155) (by decide +kernel)) ?_
  refine bs_c (pc := 95) (s_call rfl rfl (rk_S hx hb hml (index := 267) (y := 138) (n := 1) hown hts wc_138 lm_7_267 wk_138 wi_138 wp_138 (by decide +kernel) (by decide +kernel)) hKN hb0) ?_
  refine bs_c (pc := 98) (s_ireturn hx hb hr hlocks (pc' := 0) (by decide +kernel)) ?_
  exact bs_n
set_option maxRecDepth 20000 in
theorem b_93_6 (C : CX p l s m args meth c d E F 93) : BB p l e s m args below meth c d E F K0 93 99 rc_93_6 := by
  obtain ⟨hx, hb, hml, hown, hts, hr, hlocks, hnm, hKN, hb0, hF⟩ := C
  have hb : c.code = prog_1_method_29_code := hb
  have hown : s.vm.findClass "RudeCoupons" = some m.cls := hown
  have hr : meth.sig.returnType = some .int := hr
  refine bs_c (pc := 99) (s_aload_n hx hb (k := 0) (by decide +kernel) rfl) ?_
  refine bs_c (pc := 100) (s_getf hx hb hts in_7 hown hKN.1 (ci := 7) rfl (k := 2) (by decide) (hts _ lf_7_26) (by decide +kernel)) ?_
  refine bs_c (pc := 103) (s_call rfl rfl (rk_V hx hb hml (index := 173) (y := 55) (n := 0) hown hts wc_55 (k := 6) rfl rfl lm_7_173 wk_55 wv_55 wi_55 wp_55 (by decide +kernel) (by decide +kernel)) hKN hb0) ?_
  refine bs_c (pc := 106) (s_ireturn hx hb hr hlocks (pc' := 0) (by decide +kernel)) ?_
  exact bs_n
set_option maxRecDepth 20000 in
theorem b_93_7 (C : CX p l s m args meth c d E F 93) : BB p l e s m args below meth c d E F K0 93 107 rc_93_7 := by
  obtain ⟨hx, hb, hml, hown, hts, hr, hlocks, hnm, hKN, hb0, hF⟩ := C
  have hb : c.code = prog_1_method_29_code := hb
  have hown : s.vm.findClass "RudeCoupons" = some m.cls := hown
  have hr : meth.sig.returnType = some .int := hr
  refine bs_c (pc := 107) (s_aload_n hx hb (k := 0) (by decide +kernel) rfl) ?_
  refine bs_c (pc := 108) (s_getf hx hb hts in_7 hown hKN.1 (ci := 7) rfl (k := 6) (by decide) (hts _ lf_7_49) (by decide +kernel)) ?_
  refine bs_c (pc := 111) (s_getf hx hb hts in_5 hown hKN.1 (ci := 5) rfl (k := 3) (by decide) (hts _ lf_7_219) (by decide +kernel)) ?_
  refine bs_c (pc := 114) (s_ireturn hx hb hr hlocks (pc' := 0) (by decide +kernel)) ?_
  exact bs_n
set_option maxRecDepth 20000 in
theorem b_93_8 (C : CX p l s m args meth c d E F 93) : BB p l e s m args below meth c d E F K0 93 115 rc_93_8 := by
  obtain ⟨hx, hb, hml, hown, hts, hr, hlocks, hnm, hKN, hb0, hF⟩ := C
  have hb : c.code = prog_1_method_29_code := hb
  have hown : s.vm.findClass "RudeCoupons" = some m.cls := hown
  have hr : meth.sig.returnType = some .int := hr
  refine bs_c (pc := 115) (s_aload_n hx hb (k := 0) (by decide +kernel) rfl) ?_
  refine bs_c (pc := 116) (s_getf hx hb hts in_7 hown hKN.1 (ci := 7) rfl (k := 3) (by decide) (hts _ lf_7_35) (by decide +kernel)) ?_
  refine bs_c (pc := 119) (s_getf hx hb hts in_4 hown hKN.1 (ci := 4) rfl (k := 1) (by decide) (hts _ lf_7_180) (by decide +kernel)) ?_
  refine bs_c (pc := 122) (s_ireturn hx hb hr hlocks (pc' := 0) (by decide +kernel)) ?_
  exact bs_n
set_option maxRecDepth 20000 in
theorem b_93_9 (C : CX p l s m args meth c d E F 93) : BB p l e s m args below meth c d E F K0 93 123 rc_93_9 := by
  obtain ⟨hx, hb, hml, hown, hts, hr, hlocks, hnm, hKN, hb0, hF⟩ := C
  have hb : c.code = prog_1_method_29_code := hb
  have hown : s.vm.findClass "RudeCoupons" = some m.cls := hown
  have hr : meth.sig.returnType = some .int := hr
  refine bs_c (pc := 123) (s_aload_n hx hb (k := 0) (by decide +kernel) rfl) ?_
  refine bs_c (pc := 124) (s_getf hx hb hts in_7 hown hKN.1 (ci := 7) rfl (k := 4) (by decide) (hts _ lf_7_39) (by decide +kernel)) ?_
  refine bs_c (pc := 127) (s_getf hx hb hts in_4 hown hKN.1 (ci := 4) rfl (k := 1) (by decide) (hts _ lf_7_180) (by decide +kernel)) ?_
  refine bs_c (pc := 130) (s_ireturn hx hb hr hlocks (pc' := 0) (by decide +kernel)) ?_
  exact bs_n
set_option maxRecDepth 20000 in
theorem b_93_10 (C : CX p l s m args meth c d E F 93) : BB p l e s m args below meth c d E F K0 93 131 rc_93_10 := by
  obtain ⟨hx, hb, hml, hown, hts, hr, hlocks, hnm, hKN, hb0, hF⟩ := C
  have hb : c.code = prog_1_method_29_code := hb
  have hown : s.vm.findClass "RudeCoupons" = some m.cls := hown
  have hr : meth.sig.returnType = some .int := hr
  refine bs_c (pc := 131) (s_aload_n hx hb (k := 0) (by decide +kernel) rfl) ?_
  refine bs_c (pc := 132) (s_getf hx hb hts in_7 hown hKN.1 (ci := 7) rfl (k := 0) (by decide) (hts _ lf_7_10) (by decide +kernel)) ?_
  refine bs_c (pc := 135) (s_getf hx hb hts in_1 hown hKN.1 (ci := 1) rfl (k := 1) (by decide) (hts _ lf_7_93) (by decide +kernel)) ?_
  refine bs_c (pc := 138) (s_ireturn hx hb hr hlocks (pc' := 0) (by decide +kernel)) ?_
  exact bs_n
set_option maxRecDepth 20000 in
theorem b_93_11 (C : CX p l s m args meth c d E F 93) : BB p l e s m args below meth c d E F K0 93 139 rc_93_11 := by
  obtain ⟨hx, hb, hml, hown, hts, hr, hlocks, hnm, hKN, hb0, hF⟩ := C
  have hb : c.code = prog_1_method_29_code := hb
  have hown : s.vm.findClass "RudeCoupons" = some m.cls := hown
  have hr : meth.sig.returnType = some .int := hr
  refine bs_c (pc := 139) (s_iconst hx hb (z := -1) (by decide +kernel) (by decide +kernel)) ?_
  refine bs_c (pc := 140) (s_ireturn hx hb hr hlocks (pc' := 0) (by decide +kernel)) ?_
  exact bs_n
set_option maxRecDepth 20000 in
theorem b_94_0 (C : CX p l s m args meth c d E F 94) : BB p l e s m args below meth c d E F K0 94 0 rc_94_0 := by
  obtain ⟨hx, hb, hml, hown, hts, hr, hlocks, hnm, hKN, hb0, hF⟩ := C
  have hb : c.code = prog_10_method_1_code := hb
  have hown : s.vm.findClass "RudeCouponsModel" = some m.cls := hown
  have hr : meth.sig.returnType = none := hr
  have hnm : meth.name = "<init>" := hnm
  refine bs_c (pc := 0) (s_aload_n hx hb (k := 0) (by decide +kernel) rfl) ?_
  refine bs_c (pc := 1) (s_oinit hx hb hml hown (hts _ lo_8) (hts _ wo_1) (hts _ wo_2) (by decide +kernel) (by decide +kernel) (by decide +kernel)) ?_
  refine bs_c (pc := 4) (s_aload_n hx hb (k := 0) (by decide +kernel) rfl) ?_
  refine bs_c (pc := 5) (s_bipush hx hb (z := 18) (by decide +kernel) (by decide +kernel)) ?_
  refine bs_c (pc := 7) (s_newa0 hx hb (hts _ wa_0) hKN.1 hb0 (by decide +kernel)) ?_
  refine bs_c (pc := 9) (s_putRF hx hb hts in_8 hown hKN.1 (ci := 8) rfl (k := 1) (by decide) (hts _ lf_8_7) tyX8 tyX8_ok nmX8 (ty := .array .int) (tyX8_ok 1 (by decide)) (fun _ => ⟨rfl, rfl⟩) rfl hnm rfl (by decide +kernel)) ?_
  refine bs_c (pc := 12) (s_aload_n hx hb (k := 0) (by decide +kernel) rfl) ?_
  refine bs_c (pc := 13) (s_bipush hx hb (z := 18) (by decide +kernel) (by decide +kernel)) ?_
  refine bs_c (pc := 15) (s_newa0 hx hb (hts _ wa_0) hKN.1 hb0 (by decide +kernel)) ?_
  refine bs_c (pc := 17) (s_putRF hx hb hts in_8 hown hKN.1 (ci := 8) rfl (k := 3) (by decide) (hts _ lf_8_13) tyX8 tyX8_ok nmX8 (ty := .array .int) (tyX8_ok 3 (by decide)) (fun _ => ⟨rfl, rfl⟩) rfl hnm rfl (by decide +kernel)) ?_
  refine bs_c (pc := 20) (s_aload_n hx hb (k := 0) (by decide +kernel) rfl) ?_
  refine bs_c (pc := 21) (s_bipush hx hb (z := 30) (by decide +kernel) (by decide +kernel)) ?_
  refine bs_c (pc := 23) (s_newa0 hx hb (hts _ wa_0) hKN.1 hb0 (by decide +kernel)) ?_
  refine bs_c (pc := 25) (s_putRF hx hb hts in_8 hown hKN.1 (ci := 8) rfl (k := 5) (by decide) (hts _ lf_8_16) tyX8 tyX8_ok nmX8 (ty := .array .int) (tyX8_ok 5 (by decide)) (fun _ => ⟨rfl, rfl⟩) rfl hnm rfl (by decide +kernel)) ?_
  refine bs_c (pc := 28) (s_aload_n hx hb (k := 0) (by decide +kernel) rfl) ?_
  refine bs_c (pc := 29) (s_bipush hx hb (z := 10) (by decide +kernel) (by decide +kernel)) ?_
  refine bs_c (pc := 31) (s_newa0 hx hb (hts _ wa_0) hKN.1 hb0 (by decide +kernel)) ?_
  refine bs_c (pc := 33) (s_putRF hx hb hts in_8 hown hKN.1 (ci := 8) rfl (k := 6) (by decide) (hts _ lf_8_19) tyX8 tyX8_ok nmX8 (ty := .array .int) (tyX8_ok 6 (by decide)) (fun _ => ⟨rfl, rfl⟩) rfl hnm rfl (by decide +kernel)) ?_
  refine bs_c (pc := 36) (s_aload_n hx hb (k := 0) (by decide +kernel) rfl) ?_
  refine bs_c (pc := 37) (s_bipush hx hb (z := 26) (by decide +kernel) (by decide +kernel)) ?_
  refine bs_c (pc := 39) (s_newa0 hx hb (hts _ wa_0) hKN.1 hb0 (by decide +kernel)) ?_
  refine bs_c (pc := 41) (s_putRF hx hb hts in_8 hown hKN.1 (ci := 8) rfl (k := 7) (by decide) (hts _ lf_8_22) tyX8 tyX8_ok nmX8 (ty := .array .int) (tyX8_ok 7 (by decide)) (fun _ => ⟨rfl, rfl⟩) rfl hnm rfl (by decide +kernel)) ?_
  refine bs_c (pc := 44) (s_aload_n hx hb (k := 0) (by decide +kernel) rfl) ?_
  refine bs_c (pc := 45) (s_sipush hx hb (z := 208) (by decide +kernel) (by decide +kernel)) ?_
  refine bs_c (pc := 48) (s_newa0 hx hb (hts _ wa_0) hKN.1 hb0 (by decide +kernel)) ?_
  refine bs_c (pc := 50) (s_putRF hx hb hts in_8 hown hKN.1 (ci := 8) rfl (k := 9) (by decide) (hts _ lf_8_25) tyX8 tyX8_ok nmX8 (ty := .array .int) (tyX8_ok 9 (by decide)) (fun _ => ⟨rfl, rfl⟩) rfl hnm rfl (by decide +kernel)) ?_
  refine bs_c (pc := 53) (s_aload_n hx hb (k := 0) (by decide +kernel) rfl) ?_
  refine bs_c (pc := 54) (s_bipush hx hb (z := 52) (by decide +kernel) (by decide +kernel)) ?_
  refine bs_c (pc := 56) (s_newa0 hx hb (hts _ wa_0) hKN.1 hb0 (by decide +kernel)) ?_
  refine bs_c (pc := 58) (s_putRF hx hb hts in_8 hown hKN.1 (ci := 8) rfl (k := 11) (by decide) (hts _ lf_8_28) tyX8 tyX8_ok nmX8 (ty := .array .int) (tyX8_ok 11 (by decide)) (fun _ => ⟨rfl, rfl⟩) rfl hnm rfl (by decide +kernel)) ?_
  refine bs_c (pc := 61) (s_aload_n hx hb (k := 0) (by decide +kernel) rfl) ?_
  refine bs_c (pc := 62) (s_bipush hx hb (z := 24) (by decide +kernel) (by decide +kernel)) ?_
  refine bs_c (pc := 64) (s_newa0 hx hb (hts _ wa_0) hKN.1 hb0 (by decide +kernel)) ?_
  refine bs_c (pc := 66) (s_putRF hx hb hts in_8 hown hKN.1 (ci := 8) rfl (k := 13) (by decide) (hts _ lf_8_31) tyX8 tyX8_ok nmX8 (ty := .array .int) (tyX8_ok 13 (by decide)) (fun _ => ⟨rfl, rfl⟩) rfl hnm rfl (by decide +kernel)) ?_
  refine bs_c (pc := 69) (s_aload_n hx hb (k := 0) (by decide +kernel) rfl) ?_
  refine bs_c (pc := 70) (s_sipush hx hb (z := 200) (by decide +kernel) (by decide +kernel)) ?_
  refine bs_c (pc := 73) (s_newa0 hx hb (hts _ wa_0) hKN.1 hb0 (by decide +kernel)) ?_
  refine bs_c (pc := 75) (s_putRF hx hb hts in_8 hown hKN.1 (ci := 8) rfl (k := 14) (by decide) (hts _ lf_8_34) tyX8 tyX8_ok nmX8 (ty := .array .int) (tyX8_ok 14 (by decide)) (fun _ => ⟨rfl, rfl⟩) rfl hnm rfl (by decide +kernel)) ?_
  refine bs_c (pc := 78) (s_aload_n hx hb (k := 0) (by decide +kernel) rfl) ?_
  refine bs_c (pc := 79) (s_iconst hx hb (z := 3) (by decide +kernel) (by decide +kernel)) ?_
  refine bs_c (pc := 80) (s_newa0 hx hb (hts _ wa_0) hKN.1 hb0 (by decide +kernel)) ?_
  refine bs_c (pc := 82) (s_putRF hx hb hts in_8 hown hKN.1 (ci := 8) rfl (k := 17) (by decide) (hts _ lf_8_37) tyX8 tyX8_ok nmX8 (ty := .array .int) (tyX8_ok 17 (by decide)) (fun _ => ⟨rfl, rfl⟩) rfl hnm rfl (by decide +kernel)) ?_
  refine bs_c (pc := 85) (s_aload_n hx hb (k := 0) (by decide +kernel) rfl) ?_
  refine bs_c (pc := 86) (s_bipush hx hb (z := 18) (by decide +kernel) (by decide +kernel)) ?_
  refine bs_c (pc := 88) (s_newa0 hx hb (hts _ wa_0) hKN.1 hb0 (by decide +kernel)) ?_
  refine bs_c (pc := 90) (s_putRF hx hb hts in_8 hown hKN.1 (ci := 8) rfl (k := 19) (by decide) (hts _ lf_8_40) tyX8 tyX8_ok nmX8 (ty := .array .int) (tyX8_ok 19 (by decide)) (fun _ => ⟨rfl, rfl⟩) rfl hnm rfl (by decide +kernel)) ?_
  refine bs_c (pc := 93) (s_aload_n hx hb (k := 0) (by decide +kernel) rfl) ?_
  refine bs_c (pc := 94) (s_bipush hx hb (z := 18) (by decide +kernel) (by decide +kernel)) ?_
  refine bs_c (pc := 96) (s_newa0 hx hb (hts _ wa_0) hKN.1 hb0 (by decide +kernel)) ?_
  refine bs_c (pc := 98) (s_putRF hx hb hts in_8 hown hKN.1 (ci := 8) rfl (k := 21) (by decide) (hts _ lf_8_43) tyX8 tyX8_ok nmX8 (ty := .array .int) (tyX8_ok 21 (by decide)) (fun _ => ⟨rfl, rfl⟩) rfl hnm rfl (by decide +kernel)) ?_
  refine bs_c (pc := 101) (s_aload_n hx hb (k := 0) (by decide +kernel) rfl) ?_
  refine bs_c (pc := 102) (s_bipush hx hb (z := 30) (by decide +kernel) (by decide +kernel)) ?_
  refine bs_c (pc := 104) (s_newa0 hx hb (hts _ wa_0) hKN.1 hb0 (by decide +kernel)) ?_
  refine bs_c (pc := 106) (s_putRF hx hb hts in_8 hown hKN.1 (ci := 8) rfl (k := 23) (by decide) (hts _ lf_8_46) tyX8 tyX8_ok nmX8 (ty := .array .int) (tyX8_ok 23 (by decide)) (fun _ => ⟨rfl, rfl⟩) rfl hnm rfl (by decide +kernel)) ?_
  refine bs_c (pc := 109) (s_aload_n hx hb (k := 0) (by decide +kernel) rfl) ?_
  refine bs_c (pc := 110) (s_bipush hx hb (z := 96) (by decide +kernel) (by decide +kernel)) ?_
  refine bs_c (pc := 112) (s_newa0 hx hb (hts _ wa_0) hKN.1 hb0 (by decide +kernel)) ?_
  refine bs_c (pc := 114) (s_putRF hx hb hts in_8 hown hKN.1 (ci := 8) rfl (k := 25) (by decide) (hts _ lf_8_49) tyX8 tyX8_ok nmX8 (ty := .array .int) (tyX8_ok 25 (by decide)) (fun _ => ⟨rfl, rfl⟩) rfl hnm rfl (by decide +kernel)) ?_
  refine bs_c (pc := 117) (s_aload_n hx hb (k := 0) (by decide +kernel) rfl) ?_
  refine bs_c (pc := 118) (s_sipush hx hb (z := 637) (by decide +kernel) (by decide +kernel)) ?_
  refine bs_c (pc := 121) (s_newa0 hx hb (hts _ wa_0) hKN.1 hb0 (by decide +kernel)) ?_
  refine bs_c (pc := 123) (s_putRF hx hb hts in_8 hown hKN.1 (ci := 8) rfl (k := 26) (by decide) (hts _ lf_8_52) tyX8 tyX8_ok nmX8 (ty := .array .int) (tyX8_ok 26 (by decide)) (fun _ => ⟨rfl, rfl⟩) rfl hnm rfl (by decide +kernel)) ?_
  refine bs_c (pc := 126) (s_aload_n hx hb (k := 0) (by decide +kernel) rfl) ?_
  refine bs_c (pc := 127) (s_bipush hx hb (z := 6) (by decide +kernel) (by decide +kernel)) ?_
  refine bs_c (pc := 129) (s_newa0 hx hb (hts _ wa_0) hKN.1 hb0 (by decide +kernel)) ?_
  refine bs_c (pc := 131) (s_putRF hx hb hts in_8 hown hKN.1 (ci := 8) rfl (k := 27) (by decide) (hts _ lf_8_55) tyX8 tyX8_ok nmX8 (ty := .array .int) (tyX8_ok 27 (by decide)) (fun _ => ⟨rfl, rfl⟩) rfl hnm rfl (by decide +kernel)) ?_
  refine bs_c (pc := 134) (s_aload_n hx hb (k := 0) (by decide +kernel) rfl) ?_
  refine bs_c (pc := 135) (s_call rfl rfl (rk_V hx hb hml (index := 58) (y := 95) (n := 0) hown hts wc_95 (k := 8) rfl rfl lm_8_58 wk_95 wv_95 wi_95 wp_95 (by decide +kernel) (by decide +kernel)) hKN hb0) ?_
  refine bs_c (pc := 138) (s_aload_n hx hb (k := 0) (by decide +kernel) rfl) ?_
  refine bs_c (pc := 139) (s_iconst hx hb (z := 0) (by decide +kernel) (by decide +kernel)) ?_
  refine bs_c (pc := 140) (s_iconst hx hb (z := 4) (by decide +kernel) (by decide +kernel)) ?_
  refine bs_c (pc := 141) (s_iconst hx hb (z := 3) (by decide +kernel) (by decide +kernel)) ?_
  refine bs_c (pc := 142) (s_call rfl rfl (rk_V hx hb hml (index := 61) (y := 96) (n := 3) hown hts wc_96 (k := 8) rfl rfl lm_8_61 wk_96 wv_96 wi_96 wp_96 (by decide +kernel) (by decide +kernel)) hKN hb0) ?_
  refine bs_c (pc := 145) (s_aload_n hx hb (k := 0) (by decide +kernel) rfl) ?_
  refine bs_c (pc := 146) (s_iconst hx hb (z := 1) (by decide +kernel) (by decide +kernel)) ?_
  refine bs_c (pc := 147) (s_iconst hx hb (z := 5) (by decide +kernel) (by decide +kernel)) ?_
  refine bs_c (pc := 148) (s_iconst hx hb (z := 0) (by decide +kernel) (by decide +kernel)) ?_
  refine bs_c (pc := 149) (s_call rfl rfl (rk_V hx hb hml (index := 61) (y := 96) (n := 3) hown hts wc_96 (k := 8) rfl rfl lm_8_61 wk_96 wv_96 wi_96 wp_96 (by decide +kernel) (by decide +kernel)) hKN hb0) ?_
  refine bs_c (pc := 152) (s_aload_n hx hb (k := 0) (by decide +kernel) rfl) ?_
  refine bs_c (pc := 153) (s_iconst hx hb (z := 2) (by decide +kernel) (by decide +kernel)) ?_
  refine bs_c (pc := 154) (s_iconst hx hb (z := 1) (by decide +kernel) (by decide +kernel)) ?_
  refine bs_c (pc := 155) (s_iconst hx hb (z := 5) (by decide +kernel) (by decide +kernel)) ?_
  refine bs_c (pc := 156) (s_call rfl rfl (rk_V hx hb hml (index := 61) (y := 96) (n := 3) hown hts wc_96 (k := 8) rfl rfl lm_8_61 wk_96 wv_96 wi_96 wp_96 (by decide +kernel) (by decide +kernel)) hKN hb0) ?_
  refine bs_c (pc := 159) (s_aload_n hx hb (k := 0) (by decide +kernel) rfl) ?_
  refine bs_c (pc := 160) (s_iconst hx hb (z := 3) (by decide +kernel) (by decide +kernel)) ?_
  refine bs_c (pc := 161) (s_iconst hx hb (z := 3) (by decide +kernel) (by decide +kernel)) ?_
  refine bs_c (pc := 162) (s_iconst hx hb (z := 2) (by decide +kernel) (by decide +kernel)) ?_
  refine bs_c (pc := 163) (s_call rfl rfl (rk_V hx hb hml (index := 61) (y := 96) (n := 3) hown hts wc_96 (k := 8) rfl rfl lm_8_61 wk_96 wv_96 wi_96 wp_96 (by decide +kernel) (by decide +kernel)) hKN hb0) ?_
  refine bs_c (pc := 166) (s_aload_n hx hb (k := 0) (by decide +kernel) rfl) ?_
  refine bs_c (pc := 167) (s_bipush hx hb (z := 9) (by decide +kernel) (by decide +kernel)) ?_
  refine bs_c (pc := 169) (s_iconst hx hb (z := 2) (by decide +kernel) (by decide +kernel)) ?_
  refine bs_c (pc := 170) (s_iconst hx hb (z := 4) (by decide +kernel) (by decide +kernel)) ?_
  refine bs_c (pc := 171) (s_call rfl rfl (rk_V hx hb hml (index := 65) (y := 97) (n := 3) hown hts wc_97 (k := 8) rfl rfl lm_8_65 wk_97 wv_97 wi_97 wp_97 (by decide +kernel) (by decide +kernel)) hKN hb0) ?_
  refine bs_c (pc := 174) (s_aload_n hx hb (k := 0) (by decide +kernel) rfl) ?_
  refine bs_c (pc := 175) (s_iconst hx hb (z := 4) (by decide +kernel) (by decide +kernel)) ?_
  refine bs_c (pc := 176) (s_iconst hx hb (z := 1) (by decide +kernel) (by decide +kernel)) ?_
  refine bs_c (pc := 177) (s_iconst hx hb (z := 1) (by decide +kernel) (by decide +kernel)) ?_
  refine bs_c (pc := 178) (s_call rfl rfl (rk_V hx hb hml (index := 65) (y := 97) (n := 3) hown hts wc_97 (k := 8) rfl rfl lm_8_65 wk_97 wv_97 wi_97 wp_97 (by decide +kernel) (by decide +kernel)) hKN hb0) ?_
  refine bs_c (pc := 181) (s_aload_n hx hb (k := 0) (by decide +kernel) rfl) ?_
  refine bs_c (pc := 182) (s_bipush hx hb (z := 14) (by decide +kernel) (by decide +kernel)) ?_
  refine bs_c (pc := 184) (s_iconst hx hb (z := 3) (by decide +kernel) (by decide +kernel)) ?_
  refine bs_c (pc := 185) (s_bipush hx hb (z := 6) (by decide +kernel) (by decide +kernel)) ?_
  refine bs_c (pc := 187) (s_call rfl rfl (rk_V hx hb hml (index := 65) (y := 97) (n := 3) hown hts wc_97 (k := 8) rfl rfl lm_8_65 wk_97 wv_97 wi_97 wp_97 (by decide +kernel) (by decide +kernel)) hKN hb0) ?_
  refine bs_c (pc := 190) (s_aload_n hx hb (k := 0) (by decide +kernel) rfl) ?_
  refine bs_c (pc := 191) (s_iconst hx hb (z := 0) (by decide +kernel) (by decide +kernel)) ?_
  refine bs_c (pc := 192) (s_iconst hx hb (z := 0) (by decide +kernel) (by decide +kernel)) ?_
  refine bs_c (pc := 193) (s_iconst hx hb (z := 1) (by decide +kernel) (by decide +kernel)) ?_
  refine bs_c (pc := 194) (s_call rfl rfl (rk_V hx hb hml (index := 68) (y := 98) (n := 3) hown hts wc_98 (k := 8) rfl rfl lm_8_68 wk_98 wv_98 wi_98 wp_98 (by decide +kernel) (by decide +kernel)) hKN hb0) ?_
  refine bs_c (pc := 197) (s_aload_n hx hb (k := 0) (by decide +kernel) rfl) ?_
  refine bs_c (pc := 198) (s_iconst hx hb (z := 1) (by decide +kernel) (by decide +kernel)) ?_
  refine bs_c (pc := 199) (s_iconst hx hb (z := 0) (by decide +kernel) (by decide +kernel)) ?_
  refine bs_c (pc := 200) (s_iconst hx hb (z := 0) (by decide +kernel) (by decide +kernel)) ?_
  refine bs_c (pc := 201) (s_call rfl rfl (rk_V hx hb hml (index := 68) (y := 98) (n := 3) hown hts wc_98 (k := 8) rfl rfl lm_8_68 wk_98 wv_98 wi_98 wp_98 (by decide +kernel) (by decide +kernel)) hKN hb0) ?_
  refine bs_c (pc := 204) (s_aload_n hx hb (k := 0) (by decide +kernel) rfl) ?_
  refine bs_c (pc := 205) (s_iconst hx hb (z := 1) (by decide +kernel) (by decide +kernel)) ?_
  refine bs_c (pc := 206) (s_iconst hx hb (z := 1) (by decide +kernel) (by decide +kernel)) ?_
  refine bs_c (pc := 207) (s_iconst hx hb (z := 1) (by decide +kernel) (by decide +kernel)) ?_
  refine bs_c (pc := 208) (s_call rfl rfl (rk_V hx hb hml (index := 68) (y := 98) (n := 3) hown hts wc_98 (k := 8) rfl rfl lm_8_68 wk_98 wv_98 wi_98 wp_98 (by decide +kernel) (by decide +kernel)) hKN hb0) ?_
  refine bs_c (pc := 211) (s_aload_n hx hb (k := 0) (by decide +kernel) rfl) ?_
  refine bs_c (pc := 212) (s_iconst hx hb (z := 2) (by decide +kernel) (by decide +kernel)) ?_
  refine bs_c (pc := 213) (s_iconst hx hb (z := 2) (by decide +kernel) (by decide +kernel)) ?_
  refine bs_c (pc := 214) (s_iconst hx hb (z := 2) (by decide +kernel) (by decide +kernel)) ?_
  refine bs_c (pc := 215) (s_call rfl rfl (rk_V hx hb hml (index := 68) (y := 98) (n := 3) hown hts wc_98 (k := 8) rfl rfl lm_8_68 wk_98 wv_98 wi_98 wp_98 (by decide +kernel) (by decide +kernel)) hKN hb0) ?_
  refine bs_c (pc := 218) (s_aload_n hx hb (k := 0) (by decide +kernel) rfl) ?_
  refine bs_c (pc := 219) (s_iconst hx hb (z := 3) (by decide +kernel) (by decide +kernel)) ?_
  refine bs_c (pc := 220) (s_iconst hx hb (z := 3) (by decide +kernel) (by decide +kernel)) ?_
  refine bs_c (pc := 221) (s_iconst hx hb (z := 0) (by decide +kernel) (by decide +kernel)) ?_
  refine bs_c (pc := 222) (s_call rfl rfl (rk_V hx hb hml (index := 68) (y := 98) (n := 3) hown hts wc_98 (k := 8) rfl rfl lm_8_68 wk_98 wv_98 wi_98 wp_98 (by decide +kernel) (by decide +kernel)) hKN hb0) ?_
  refine bs_c (pc := 225) (s_aload_n hx hb (k := 0) (by decide +kernel) rfl) ?_
  refine bs_c (pc := 226) (s_iconst hx hb (z := 4) (by decide +kernel) (by decide +kernel)) ?_
  refine bs_c (pc := 227) (s_iconst hx hb (z := 0) (by decide +kernel) (by decide +kernel)) ?_
  refine bs_c (pc := 228) (s_iconst hx hb (z := 2) (by decide +kernel) (by decide +kernel)) ?_
  refine bs_c (pc := 229) (s_call rfl rfl (rk_V hx hb hml (index := 68) (y := 98) (n := 3) hown hts wc_98 (k := 8) rfl rfl lm_8_68 wk_98 wv_98 wi_98 wp_98 (by decide +kernel) (by decide +kernel)) hKN hb0) ?_
  refine bs_c (pc := 232) (s_aload_n hx hb (k := 0) (by decide +kernel) rfl) ?_
  refine bs_c (pc := 233) (s_iconst hx hb (z := 4) (by decide +kernel) (by decide +kernel)) ?_
  refine bs_c (pc := 234) (s_iconst hx hb (z := 1) (by decide +kernel) (by decide +kernel)) ?_
  refine bs_c (pc := 235) (s_iconst hx hb (z := 0) (by decide +kernel) (by decide +kernel)) ?_
  refine bs_c (pc := 236) (s_call rfl rfl (rk_V hx hb hml (index := 68) (y := 98) (n := 3) hown hts wc_98 (k := 8) rfl rfl lm_8_68 wk_98 wv_98 wi_98 wp_98 (by decide +kernel) (by decide +kernel)) hKN hb0) ?_
  refine bs_c (pc := 239) (s_aload_n hx hb (k := 0) (by decide +kernel) rfl) ?_
  refine bs_c (pc := 240) (s_bipush hx hb (z := 6) (by decide +kernel) (by decide +kernel)) ?_
  refine bs_c (pc := 242) (s_iconst hx hb (z := 3) (by decide +kernel) (by decide +kernel)) ?_
  refine bs_c (pc := 243) (s_iconst hx hb (z := 1) (by decide +kernel) (by decide +kernel)) ?_
  refine bs_c (pc := 244) (s_call rfl rfl (rk_V hx hb hml (index := 68) (y := 98) (n := 3) hown hts wc_98 (k := 8) rfl rfl lm_8_68 wk_98 wv_98 wi_98 wp_98 (by decide +kernel) (by decide +kernel)) hKN hb0) ?_
  refine bs_c (pc := 247) (s_aload_n hx hb (k := 0) (by decide +kernel) rfl) ?_
  refine bs_c (pc := 248) (s_bipush hx hb (z := 7) (by decide +kernel) (by decide +kernel)) ?_
  refine bs_c (pc := 250) (s_iconst hx hb (z := 0) (by decide +kernel) (by decide +kernel)) ?_
  refine bs_c (pc := 251) (s_iconst hx hb (z := 1) (by decide +kernel) (by decide +kernel)) ?_
  refine bs_c (pc := 252) (s_call rfl rfl (rk_V hx hb hml (index := 68) (y := 98) (n := 3) hown hts wc_98 (k := 8) rfl rfl lm_8_68 wk_98 wv_98 wi_98 wp_98 (by decide +kernel) (by decide +kernel)) hKN hb0) ?_
  refine bs_c (pc := 255) (s_aload_n hx hb (k := 0) (by decide +kernel) rfl) ?_
  refine bs_c (pc := 256) (s_call rfl rfl (rk_V hx hb hml (index := 71) (y := 99) (n := 0) hown hts wc_99 (k := 8) rfl rfl lm_8_71 wk_99 wv_99 wi_99 wp_99 (by decide +kernel) (by decide +kernel)) hKN hb0) ?_
  refine bs_c (pc := 259) (s_return hx hb hr hlocks (pc' := 0) (by decide +kernel)) ?_
  exact bs_n
set_option maxRecDepth 20000 in
theorem b_95_0 (C : CX p l s m args meth c d E F 95) : BB p l e s m args below meth c d E F K0 95 0 rc_95_0 := by
  obtain ⟨hx, hb, hml, hown, hts, hr, hlocks, hnm, hKN, hb0, hF⟩ := C
  have hb : c.code = prog_10_method_16_code := hb
  have hown : s.vm.findClass "RudeCouponsModel" = some m.cls := hown
  have hr : meth.sig.returnType = none := hr
  refine bs_c (pc := 0) (s_aload_n hx hb (k := 0) (by decide +kernel) rfl) ?_
  refine bs_c (pc := 1) (s_iconst hx hb (z := 0) (by decide +kernel) (by decide +kernel)) ?_
  refine bs_c (pc := 2) (s_putI hx hb hts in_8 hown hKN.1 (ci := 8) rfl (k := 18) (by decide) (hts _ lf_8_74) tyX8 tyX8_ok nmX8 (tyX8_ok 18 (by decide)) rfl (by decide +kernel)) ?_
  refine bs_c (pc := 5) (s_aload_n hx hb (k := 0) (by decide +kernel) rfl) ?_
  refine bs_c (pc := 6) (s_iconst hx hb (z := 0) (by decide +kernel) (by decide +kernel)) ?_
  refine bs_c (pc := 7) (s_putI hx hb hts in_8 hown hKN.1 (ci := 8) rfl (k := 20) (by decide) (hts _ lf_8_78) tyX8 tyX8_ok nmX8 (tyX8_ok 20 (by decide)) rfl (by decide +kernel)) ?_
  refine bs_c (pc := 10) (s_aload_n hx hb (k := 0) (by decide +kernel) rfl) ?_
  refine bs_c (pc := 11) (s_iconst hx hb (z := 0) (by decide +kernel) (by decide +kernel)) ?_
  refine bs_c (pc := 12) (s_putI hx hb hts in_8 hown hKN.1 (ci := 8) rfl (k := 22) (by decide) (hts _ lf_8_81) tyX8 tyX8_ok nmX8 (tyX8_ok 22 (by decide)) rfl (by decide +kernel)) ?_
  refine bs_c (pc := 15) (s_return hx hb hr hlocks (pc' := 0) (by decide +kernel)) ?_
  exact bs_n
end MTH
