/-! METHODS, block by block, by program: every instruction as its handler says -/
section MTH
variable {p : Program} {l : Launch} {e : Env} {s : State} {m : MethodId} {args : Array Value} {below : List Frame} {meth : Method} {c : Code} {d : mD} {E : mE} {F : mF} {K0 : mK}
set_option maxRecDepth 20000 in
theorem b_131_0 (C : CX p l s m args meth c d E F 131) : BB p l e s m args below meth c d E F K0 131 0 rc_131_0 := by
  obtain ⟨hx, hb, hml, hown, hts, hr, hlocks, hnm, hKN, hb0, hF⟩ := C
  have hb : c.code = prog_10_method_57_code := hb
  have hown : s.vm.findClass "RudeCouponsModel" = some m.cls := hown
  have hr : meth.sig.returnType = some .int := hr
  refine bs_c (pc := 0) (s_iload_n hx hb (k := 1) (by decide +kernel) rfl) ?_
  refine bs_c (pc := 1) (s_iconst hx hb (z := 0) (by decide +kernel) (by decide +kernel)) ?_
  refine bs_c (pc := 2) (s_sipush hx hb (z := 9999) (by decide +kernel) (by decide +kernel)) ?_
  refine bs_c (pc := 5) (s_call rfl rfl (rk_S hx hb hml (index := 87) (y := 7) (n := 3) hown hts wc_7 lm_8_87 wk_7 wi_7 wp_7 (by decide +kernel) (by decide +kernel)) hKN hb0) ?_
  refine bs_c (pc := 8) (s_if_eq hx hb (by decide +kernel) hF) ?_
  refine bs_c (pc := 11) (s_iload_n hx hb (k := 2) (by decide +kernel) rfl) ?_
  refine bs_c (pc := 12) (s_iconst hx hb (z := 0) (by decide +kernel) (by decide +kernel)) ?_
  refine bs_c (pc := 13) (s_iconst hx hb (z := 1) (by decide +kernel) (by decide +kernel)) ?_
  refine bs_c (pc := 14) (s_call rfl rfl (rk_S hx hb hml (index := 87) (y := 7) (n := 3) hown hts wc_7 lm_8_87 wk_7 wi_7 wp_7 (by decide +kernel) (by decide +kernel)) hKN hb0) ?_
  refine bs_c (pc := 17) (s_if_ne hx hb (by decide +kernel) hF) ?_
  refine bs_c (pc := 20) (s_fall (pc' := 0) (by decide +kernel)) ?_
  exact bs_n
set_option maxRecDepth 20000 in
theorem b_131_1 (C : CX p l s m args meth c d E F 131) : BB p l e s m args below meth c d E F K0 131 20 rc_131_1 := by
  obtain ⟨hx, hb, hml, hown, hts, hr, hlocks, hnm, hKN, hb0, hF⟩ := C
  have hb : c.code = prog_10_method_57_code := hb
  have hown : s.vm.findClass "RudeCouponsModel" = some m.cls := hown
  have hr : meth.sig.returnType = some .int := hr
  refine bs_c (pc := 20) (s_iconst hx hb (z := -1) (by decide +kernel) (by decide +kernel)) ?_
  refine bs_c (pc := 21) (s_ireturn hx hb hr hlocks (pc' := 0) (by decide +kernel)) ?_
  exact bs_n
set_option maxRecDepth 20000 in
theorem b_131_2 (C : CX p l s m args meth c d E F 131) : BB p l e s m args below meth c d E F K0 131 22 rc_131_2 := by
  obtain ⟨hx, hb, hml, hown, hts, hr, hlocks, hnm, hKN, hb0, hF⟩ := C
  have hb : c.code = prog_10_method_57_code := hb
  have hown : s.vm.findClass "RudeCouponsModel" = some m.cls := hown
  have hr : meth.sig.returnType = some .int := hr
  refine bs_c (pc := 22) (s_iconst hx hb (z := 0) (by decide +kernel) (by decide +kernel)) ?_
  refine bs_c (pc := 23) (s_istore_n hx hb (k := 3) (by decide +kernel) rfl (by decide +kernel)) ?_
  refine bs_c (pc := 24) (s_fall (pc' := 0) (by decide +kernel)) ?_
  exact bs_n
set_option maxRecDepth 20000 in
theorem b_131_3 (C : CX p l s m args meth c d E F 131) : BB p l e s m args below meth c d E F K0 131 24 rc_131_3 := by
  obtain ⟨hx, hb, hml, hown, hts, hr, hlocks, hnm, hKN, hb0, hF⟩ := C
  have hb : c.code = prog_10_method_57_code := hb
  have hown : s.vm.findClass "RudeCouponsModel" = some m.cls := hown
  have hr : meth.sig.returnType = some .int := hr
  refine bs_c (pc := 24) (s_iload_n hx hb (k := 3) (by decide +kernel) rfl) ?_
  refine bs_c (pc := 25) (s_aload_n hx hb (k := 0) (by decide +kernel) rfl) ?_
  refine bs_c (pc := 26) (s_getf hx hb hts in_8 hown hKN.1 (ci := 8) rfl (k := 0) (by decide) (hts _ lf_8_84) (by decide +kernel)) ?_
  refine bs_c (pc := 29) (s_icmp_ge hx hb (by decide +kernel) hF) ?_
  refine bs_c (pc := 32) (s_aload_n hx hb (k := 0) (by decide +kernel) rfl) ?_
  refine bs_c (pc := 33) (s_getf hx hb hts in_8 hown hKN.1 (ci := 8) rfl (k := 27) (by decide) (hts _ lf_8_55) (by decide +kernel)) ?_
  refine bs_c (pc := 36) (s_iload_n hx hb (k := 3) (by decide +kernel) rfl) ?_
  refine bs_c (pc := 37) (s_aload_n hx hb (k := 0) (by decide +kernel) rfl) ?_
  refine bs_c (pc := 38) (s_getf hx hb hts in_8 hown hKN.1 (ci := 8) rfl (k := 7) (by decide) (hts _ lf_8_22) (by decide +kernel)) ?_
  refine bs_c (pc := 41) (s_iconst hx hb (z := 2) (by decide +kernel) (by decide +kernel)) ?_
  refine bs_c (pc := 42) (s_iload_n hx hb (k := 3) (by decide +kernel) rfl) ?_
  refine bs_c (pc := 43) (s_iadd hx hb (by decide +kernel)) ?_
  refine bs_c (pc := 44) (s_ald0 hx hb hKN.1 (by decide +kernel)) ?_
  refine bs_c (pc := 45) (s_ast0 hx hb hKN.1 (by decide +kernel)) ?_
  refine bs_c (pc := 46) (s_iinc hx hb (z := 1) (by decide +kernel) (by decide +kernel) (by decide +kernel)) ?_
  refine bs_c (pc := 49) (s_goto hx hb (pc' := 0) (by decide +kernel)) ?_
  exact bs_n
set_option maxRecDepth 20000 in
theorem b_131_4 (C : CX p l s m args meth c d E F 131) : BB p l e s m args below meth c d E F K0 131 52 rc_131_4 := by
  obtain ⟨hx, hb, hml, hown, hts, hr, hlocks, hnm, hKN, hb0, hF⟩ := C
  have hb : c.code = prog_10_method_57_code := hb
  have hown : s.vm.findClass "RudeCouponsModel" = some m.cls := hown
  have hr : meth.sig.returnType = some .int := hr
  refine bs_c (pc := 52) (s_iconst hx hb (z := 0) (by decide +kernel) (by decide +kernel)) ?_
  refine bs_c (pc := 53) (s_istore_n hx hb (k := 3) (by decide +kernel) rfl (by decide +kernel)) ?_
  refine bs_c (pc := 54) (s_iconst hx hb (z := 0) (by decide +kernel) (by decide +kernel)) ?_
  refine bs_c (pc := 55) (s_istore hx hb (by decide +kernel) (by decide +kernel)) ?_
  refine bs_c (pc := 57) (s_fall (pc' := 0) (by decide +kernel)) ?_
  exact bs_n
set_option maxRecDepth 20000 in
theorem b_131_5 (C : CX p l s m args meth c d E F 131) : BB p l e s m args below meth c d E F K0 131 57 rc_131_5 := by
  obtain ⟨hx, hb, hml, hown, hts, hr, hlocks, hnm, hKN, hb0, hF⟩ := C
  have hb : c.code = prog_10_method_57_code := hb
  have hown : s.vm.findClass "RudeCouponsModel" = some m.cls := hown
  have hr : meth.sig.returnType = some .int := hr
  refine bs_c (pc := 57) (s_iload hx hb (by decide +kernel)) ?_
  refine bs_c (pc := 59) (s_aload_n hx hb (k := 0) (by decide +kernel) rfl) ?_
  refine bs_c (pc := 60) (s_getf hx hb hts in_8 hown hKN.1 (ci := 8) rfl (k := 4) (by decide) (hts _ lf_8_91) (by decide +kernel)) ?_
  refine bs_c (pc := 63) (s_icmp_ge hx hb (by decide +kernel) hF) ?_
  refine bs_c (pc := 66) (s_aload_n hx hb (k := 0) (by decide +kernel) rfl) ?_
  refine bs_c (pc := 67) (s_getf hx hb hts in_8 hown hKN.1 (ci := 8) rfl (k := 6) (by decide) (hts _ lf_8_19) (by decide +kernel)) ?_
  refine bs_c (pc := 70) (s_iload hx hb (by decide +kernel)) ?_
  refine bs_c (pc := 72) (s_ald0 hx hb hKN.1 (by decide +kernel)) ?_
  refine bs_c (pc := 73) (s_istore hx hb (by decide +kernel) (by decide +kernel)) ?_
  refine bs_c (pc := 75) (s_aload_n hx hb (k := 0) (by decide +kernel) rfl) ?_
  refine bs_c (pc := 76) (s_iload hx hb (by decide +kernel)) ?_
  refine bs_c (pc := 78) (s_call rfl rfl (rk_V hx hb hml (index := 147) (y := 1) (n := 1) hown hts wc_1 (k := 8) rfl rfl lm_8_147 wk_1 wv_1 wi_1 wp_1 (by decide +kernel) (by decide +kernel)) hKN hb0) ?_
  refine bs_c (pc := 81) (s_istore hx hb (by decide +kernel) (by decide +kernel)) ?_
  refine bs_c (pc := 83) (s_ldc2 hx hb hown (hts _ ll_8_198) (by decide +kernel)) ?_
  refine bs_c (pc := 86) (s_iload_n hx hb (k := 1) (by decide +kernel) rfl) ?_
  refine bs_c (pc := 87) (s_i2l hx hb (by decide +kernel) hF) ?_
  refine bs_c (pc := 88) (s_lmul hx hb (by decide +kernel) hF) ?_
  refine bs_c (pc := 89) (s_ldc2 hx hb hown (hts _ ll_8_200) (by decide +kernel)) ?_
  refine bs_c (pc := 92) (s_iload hx hb (by decide +kernel)) ?_
  refine bs_c (pc := 94) (s_i2l hx hb (by decide +kernel) hF) ?_
  refine bs_c (pc := 95) (s_lmul hx hb (by decide +kernel) hF) ?_
  refine bs_c (pc := 96) (s_ladd hx hb (by decide +kernel) hF) ?_
  refine bs_c (pc := 97) (s_lconst hx hb (z := 1) (by decide +kernel) (by decide +kernel)) ?_
  refine bs_c (pc := 98) (s_ladd hx hb (by decide +kernel) hF) ?_
  refine bs_c (pc := 99) (s_lstore hx hb (by decide +kernel) (by decide +kernel)) ?_
  refine bs_c (pc := 101) (s_lload hx hb (by decide +kernel)) ?_
  refine bs_c (pc := 103) (s_lload hx hb (by decide +kernel)) ?_
  refine bs_c (pc := 105) (s_lmul hx hb (by decide +kernel) hF) ?_
  refine bs_c (pc := 106) (s_ldc2 hx hb hown (hts _ ll_8_202) (by decide +kernel)) ?_
  refine bs_c (pc := 109) (s_lrem hx hb (by decide +kernel) hF) ?_
  refine bs_c (pc := 110) (s_ldc2 hx hb hown (hts _ ll_8_204) (by decide +kernel)) ?_
  refine bs_c (pc := 113) (s_ldiv hx hb (by decide +kernel) hF) ?_
  refine bs_c (pc := 114) (s_l2i hx hb (by decide +kernel) hF) ?_
  refine bs_c (pc := 115) (s_istore hx hb (by decide +kernel) (by decide +kernel)) ?_
  refine bs_c (pc := 117) (s_aload_n hx hb (k := 0) (by decide +kernel) rfl) ?_
  refine bs_c (pc := 118) (s_iload hx hb (by decide +kernel)) ?_
  refine bs_c (pc := 120) (s_aload_n hx hb (k := 0) (by decide +kernel) rfl) ?_
  refine bs_c (pc := 121) (s_getf hx hb hts in_8 hown hKN.1 (ci := 8) rfl (k := 27) (by decide) (hts _ lf_8_55) (by decide +kernel)) ?_
  refine bs_c (pc := 124) (s_iload hx hb (by decide +kernel)) ?_
  refine bs_c (pc := 126) (s_ald0 hx hb hKN.1 (by decide +kernel)) ?_
  refine bs_c (pc := 127) (s_call rfl rfl (rk_V hx hb hml (index := 158) (y := 3) (n := 2) hown hts wc_3 (k := 8) rfl rfl lm_8_158 wk_3 wv_3 wi_3 wp_3 (by decide +kernel) (by decide +kernel)) hKN hb0) ?_
  refine bs_c (pc := 130) (s_istore hx hb (by decide +kernel) (by decide +kernel)) ?_
  refine bs_c (pc := 132) (s_aload_n hx hb (k := 0) (by decide +kernel) rfl) ?_
  refine bs_c (pc := 133) (s_getf hx hb hts in_8 hown hKN.1 (ci := 8) rfl (k := 5) (by decide) (hts _ lf_8_16) (by decide +kernel)) ?_
  refine bs_c (pc := 136) (s_iconst hx hb (z := 3) (by decide +kernel) (by decide +kernel)) ?_
  refine bs_c (pc := 137) (s_iload hx hb (by decide +kernel)) ?_
  refine bs_c (pc := 139) (s_imul hx hb (by decide +kernel) hF) ?_
  refine bs_c (pc := 140) (s_ald0 hx hb hKN.1 (by decide +kernel)) ?_
  refine bs_c (pc := 141) (s_aload_n hx hb (k := 0) (by decide +kernel) rfl) ?_
  refine bs_c (pc := 142) (s_getf hx hb hts in_8 hown hKN.1 (ci := 8) rfl (k := 7) (by decide) (hts _ lf_8_22) (by decide +kernel)) ?_
  refine bs_c (pc := 145) (s_iconst hx hb (z := 0) (by decide +kernel) (by decide +kernel)) ?_
  refine bs_c (pc := 146) (s_ald0 hx hb hKN.1 (by decide +kernel)) ?_
  refine bs_c (pc := 147) (s_icmp_lt hx hb (by decide +kernel) hF) ?_
  refine bs_c (pc := 150) (s_aload_n hx hb (k := 0) (by decide +kernel) rfl) ?_
  refine bs_c (pc := 151) (s_getf hx hb hts in_8 hown hKN.1 (ci := 8) rfl (k := 7) (by decide) (hts _ lf_8_22) (by decide +kernel)) ?_
  refine bs_c (pc := 154) (s_iconst hx hb (z := 1) (by decide +kernel) (by decide +kernel)) ?_
  refine bs_c (pc := 155) (s_ald0 hx hb hKN.1 (by decide +kernel)) ?_
  refine bs_c (pc := 156) (s_iload hx hb (by decide +kernel)) ?_
  refine bs_c (pc := 158) (s_call rfl rfl (rk_S hx hb hml (index := 154) (y := 0) (n := 2) hown hts wc_0 lm_8_154 wk_0 wi_0 wp_0 (by decide +kernel) (by decide +kernel)) hKN hb0) ?_
  refine bs_c (pc := 161) (s_if_ne hx hb (by decide +kernel) hF) ?_
  refine bs_c (pc := 164) (s_iload hx hb (by decide +kernel)) ?_
  refine bs_c (pc := 166) (s_if_lt hx hb (by decide +kernel) hF) ?_
  refine bs_c (pc := 169) (s_iload hx hb (by decide +kernel)) ?_
  refine bs_c (pc := 171) (s_iconst hx hb (z := 4) (by decide +kernel) (by decide +kernel)) ?_
  refine bs_c (pc := 172) (s_irem hx hb (by decide +kernel) hF) ?_
  refine bs_c (pc := 173) (s_if_eq hx hb (by decide +kernel) hF) ?_
  refine bs_c (pc := 176) (s_iconst hx hb (z := 1) (by decide +kernel) (by decide +kernel)) ?_
  refine bs_c (pc := 177) (s_goto hx hb (pc' := 0) (by decide +kernel)) ?_
  exact bs_n
set_option maxRecDepth 20000 in
theorem b_131_6 (C : CX p l s m args meth c d E F 131) : BB p l e s m args below meth c d E F K0 131 180 rc_131_6 := by
  obtain ⟨hx, hb, hml, hown, hts, hr, hlocks, hnm, hKN, hb0, hF⟩ := C
  have hb : c.code = prog_10_method_57_code := hb
  have hown : s.vm.findClass "RudeCouponsModel" = some m.cls := hown
  have hr : meth.sig.returnType = some .int := hr
  refine bs_c (pc := 180) (s_iconst hx hb (z := 0) (by decide +kernel) (by decide +kernel)) ?_
  refine bs_c (pc := 181) (s_fall (pc' := 0) (by decide +kernel)) ?_
  exact bs_n
set_option maxRecDepth 20000 in
theorem b_131_7 (C : CX p l s m args meth c d E F 131) : BB p l e s m args below meth c d E F K0 131 181 rc_131_7 := by
  obtain ⟨hx, hb, hml, hown, hts, hr, hlocks, hnm, hKN, hb0, hF⟩ := C
  have hb : c.code = prog_10_method_57_code := hb
  have hown : s.vm.findClass "RudeCouponsModel" = some m.cls := hown
  have hr : meth.sig.returnType = some .int := hr
  refine bs_c (pc := 181) (s_istore hx hb (by decide +kernel) (by decide +kernel)) ?_
  refine bs_c (pc := 183) (s_iload_n hx hb (k := 3) (by decide +kernel) rfl) ?_
  refine bs_c (pc := 184) (s_iload hx hb (by decide +kernel)) ?_
  refine bs_c (pc := 186) (s_if_eq hx hb (by decide +kernel) hF) ?_
  refine bs_c (pc := 189) (s_aload_n hx hb (k := 0) (by decide +kernel) rfl) ?_
  refine bs_c (pc := 190) (s_iload hx hb (by decide +kernel)) ?_
  refine bs_c (pc := 192) (s_call rfl rfl (rk_V hx hb hml (index := 174) (y := 4) (n := 1) hown hts wc_4 (k := 8) rfl rfl lm_8_174 wk_4 wv_4 wi_4 wp_4 (by decide +kernel) (by decide +kernel)) hKN hb0) ?_
  refine bs_c (pc := 195) (s_goto hx hb (pc' := 0) (by decide +kernel)) ?_
  exact bs_n
set_option maxRecDepth 20000 in
theorem b_131_8 (C : CX p l s m args meth c d E F 131) : BB p l e s m args below meth c d E F K0 131 198 rc_131_8 := by
  obtain ⟨hx, hb, hml, hown, hts, hr, hlocks, hnm, hKN, hb0, hF⟩ := C
  have hb : c.code = prog_10_method_57_code := hb
  have hown : s.vm.findClass "RudeCouponsModel" = some m.cls := hown
  have hr : meth.sig.returnType = some .int := hr
  refine bs_c (pc := 198) (s_iconst hx hb (z := 0) (by decide +kernel) (by decide +kernel)) ?_
  refine bs_c (pc := 199) (s_fall (pc' := 0) (by decide +kernel)) ?_
  exact bs_n
set_option maxRecDepth 20000 in
theorem b_131_9 (C : CX p l s m args meth c d E F 131) : BB p l e s m args below meth c d E F K0 131 199 rc_131_9 := by
  obtain ⟨hx, hb, hml, hown, hts, hr, hlocks, hnm, hKN, hb0, hF⟩ := C
  have hb : c.code = prog_10_method_57_code := hb
  have hown : s.vm.findClass "RudeCouponsModel" = some m.cls := hown
  have hr : meth.sig.returnType = some .int := hr
  refine bs_c (pc := 199) (s_iadd hx hb (by decide +kernel)) ?_
  refine bs_c (pc := 200) (s_istore_n hx hb (k := 3) (by decide +kernel) rfl (by decide +kernel)) ?_
  refine bs_c (pc := 201) (s_aload_n hx hb (k := 0) (by decide +kernel) rfl) ?_
  refine bs_c (pc := 202) (s_getf hx hb hts in_8 hown hKN.1 (ci := 8) rfl (k := 27) (by decide) (hts _ lf_8_55) (by decide +kernel)) ?_
  refine bs_c (pc := 205) (s_iload hx hb (by decide +kernel)) ?_
  refine bs_c (pc := 207) (s_iload hx hb (by decide +kernel)) ?_
  refine bs_c (pc := 209) (s_if_eq hx hb (by decide +kernel) hF) ?_
  refine bs_c (pc := 212) (s_iload hx hb (by decide +kernel)) ?_
  refine bs_c (pc := 214) (s_goto hx hb (pc' := 0) (by decide +kernel)) ?_
  exact bs_n
set_option maxRecDepth 20000 in
theorem b_131_10 (C : CX p l s m args meth c d E F 131) : BB p l e s m args below meth c d E F K0 131 217 rc_131_10 := by
  obtain ⟨hx, hb, hml, hown, hts, hr, hlocks, hnm, hKN, hb0, hF⟩ := C
  have hb : c.code = prog_10_method_57_code := hb
  have hown : s.vm.findClass "RudeCouponsModel" = some m.cls := hown
  have hr : meth.sig.returnType = some .int := hr
  refine bs_c (pc := 217) (s_aload_n hx hb (k := 0) (by decide +kernel) rfl) ?_
  refine bs_c (pc := 218) (s_getf hx hb hts in_8 hown hKN.1 (ci := 8) rfl (k := 27) (by decide) (hts _ lf_8_55) (by decide +kernel)) ?_
  refine bs_c (pc := 221) (s_iload hx hb (by decide +kernel)) ?_
  refine bs_c (pc := 223) (s_ald0 hx hb hKN.1 (by decide +kernel)) ?_
  refine bs_c (pc := 224) (s_fall (pc' := 0) (by decide +kernel)) ?_
  exact bs_n
set_option maxRecDepth 20000 in
theorem b_131_11 (C : CX p l s m args meth c d E F 131) : BB p l e s m args below meth c d E F K0 131 224 rc_131_11 := by
  obtain ⟨hx, hb, hml, hown, hts, hr, hlocks, hnm, hKN, hb0, hF⟩ := C
  have hb : c.code = prog_10_method_57_code := hb
  have hown : s.vm.findClass "RudeCouponsModel" = some m.cls := hown
  have hr : meth.sig.returnType = some .int := hr
  refine bs_c (pc := 224) (s_ast0 hx hb hKN.1 (by decide +kernel)) ?_
  refine bs_c (pc := 225) (s_iinc hx hb (z := 1) (by decide +kernel) (by decide +kernel) (by decide +kernel)) ?_
  refine bs_c (pc := 228) (s_goto hx hb (pc' := 0) (by decide +kernel)) ?_
  exact bs_n
set_option maxRecDepth 20000 in
theorem b_131_12 (C : CX p l s m args meth c d E F 131) : BB p l e s m args below meth c d E F K0 131 231 rc_131_12 := by
  obtain ⟨hx, hb, hml, hown, hts, hr, hlocks, hnm, hKN, hb0, hF⟩ := C
  have hb : c.code = prog_10_method_57_code := hb
  have hown : s.vm.findClass "RudeCouponsModel" = some m.cls := hown
  have hr : meth.sig.returnType = some .int := hr
  refine bs_c (pc := 231) (s_iconst hx hb (z := 0) (by decide +kernel) (by decide +kernel)) ?_
  refine bs_c (pc := 232) (s_istore hx hb (by decide +kernel) (by decide +kernel)) ?_
  refine bs_c (pc := 234) (s_iconst hx hb (z := 0) (by decide +kernel) (by decide +kernel)) ?_
  refine bs_c (pc := 235) (s_istore hx hb (by decide +kernel) (by decide +kernel)) ?_
  refine bs_c (pc := 237) (s_fall (pc' := 0) (by decide +kernel)) ?_
  exact bs_n
set_option maxRecDepth 20000 in
theorem b_131_13 (C : CX p l s m args meth c d E F 131) : BB p l e s m args below meth c d E F K0 131 237 rc_131_13 := by
  obtain ⟨hx, hb, hml, hown, hts, hr, hlocks, hnm, hKN, hb0, hF⟩ := C
  have hb : c.code = prog_10_method_57_code := hb
  have hown : s.vm.findClass "RudeCouponsModel" = some m.cls := hown
  have hr : meth.sig.returnType = some .int := hr
  refine bs_c (pc := 237) (s_iload hx hb (by decide +kernel)) ?_
  refine bs_c (pc := 239) (s_aload_n hx hb (k := 0) (by decide +kernel) rfl) ?_
  refine bs_c (pc := 240) (s_getf hx hb hts in_8 hown hKN.1 (ci := 8) rfl (k := 0) (by decide) (hts _ lf_8_84) (by decide +kernel)) ?_
  refine bs_c (pc := 243) (s_icmp_ge hx hb (by decide +kernel) hF) ?_
  refine bs_c (pc := 246) (s_iload hx hb (by decide +kernel)) ?_
  refine bs_c (pc := 248) (s_aload_n hx hb (k := 0) (by decide +kernel) rfl) ?_
  refine bs_c (pc := 249) (s_getf hx hb hts in_8 hown hKN.1 (ci := 8) rfl (k := 27) (by decide) (hts _ lf_8_55) (by decide +kernel)) ?_
  refine bs_c (pc := 252) (s_iload hx hb (by decide +kernel)) ?_
  refine bs_c (pc := 254) (s_ald0 hx hb hKN.1 (by decide +kernel)) ?_
  refine bs_c (pc := 255) (s_iadd hx hb (by decide +kernel)) ?_
  refine bs_c (pc := 256) (s_istore hx hb (by decide +kernel) (by decide +kernel)) ?_
  refine bs_c (pc := 258) (s_iinc hx hb (z := 1) (by decide +kernel) (by decide +kernel) (by decide +kernel)) ?_
  refine bs_c (pc := 261) (s_goto hx hb (pc' := 0) (by decide +kernel)) ?_
  exact bs_n
set_option maxRecDepth 20000 in
theorem b_131_14 (C : CX p l s m args meth c d E F 131) : BB p l e s m args below meth c d E F K0 131 264 rc_131_14 := by
  obtain ⟨hx, hb, hml, hown, hts, hr, hlocks, hnm, hKN, hb0, hF⟩ := C
  have hb : c.code = prog_10_method_57_code := hb
  have hown : s.vm.findClass "RudeCouponsModel" = some m.cls := hown
  have hr : meth.sig.returnType = some .int := hr
  refine bs_c (pc := 264) (s_iload_n hx hb (k := 2) (by decide +kernel) rfl) ?_
  refine bs_c (pc := 265) (s_if_ne hx hb (by decide +kernel) hF) ?_
  refine bs_c (pc := 268) (s_iload_n hx hb (k := 3) (by decide +kernel) rfl) ?_
  refine bs_c (pc := 269) (s_goto hx hb (pc' := 0) (by decide +kernel)) ?_
  exact bs_n
set_option maxRecDepth 20000 in
theorem b_131_15 (C : CX p l s m args meth c d E F 131) : BB p l e s m args below meth c d E F K0 131 272 rc_131_15 := by
  obtain ⟨hx, hb, hml, hown, hts, hr, hlocks, hnm, hKN, hb0, hF⟩ := C
  have hb : c.code = prog_10_method_57_code := hb
  have hown : s.vm.findClass "RudeCouponsModel" = some m.cls := hown
  have hr : meth.sig.returnType = some .int := hr
  refine bs_c (pc := 272) (s_iload hx hb (by decide +kernel)) ?_
  refine bs_c (pc := 274) (s_fall (pc' := 0) (by decide +kernel)) ?_
  exact bs_n
set_option maxRecDepth 20000 in
theorem b_131_16 (C : CX p l s m args meth c d E F 131) : BB p l e s m args below meth c d E F K0 131 274 rc_131_16 := by
  obtain ⟨hx, hb, hml, hown, hts, hr, hlocks, hnm, hKN, hb0, hF⟩ := C
  have hb : c.code = prog_10_method_57_code := hb
  have hown : s.vm.findClass "RudeCouponsModel" = some m.cls := hown
  have hr : meth.sig.returnType = some .int := hr
  refine bs_c (pc := 274) (s_ireturn hx hb hr hlocks (pc' := 0) (by decide +kernel)) ?_
  exact bs_n
set_option maxRecDepth 20000 in
theorem b_132_0 (C : CX p l s m args meth c d E F 132) : BB p l e s m args below meth c d E F K0 132 0 rc_132_0 := by
  obtain ⟨hx, hb, hml, hown, hts, hr, hlocks, hnm, hKN, hb0, hF⟩ := C
  have hb : c.code = prog_10_method_58_code := hb
  have hown : s.vm.findClass "RudeCouponsModel" = some m.cls := hown
  have hr : meth.sig.returnType = some .int := hr
  refine bs_c (pc := 0) (s_aload_n hx hb (k := 0) (by decide +kernel) rfl) ?_
  refine bs_c (pc := 1) (s_getf hx hb hts in_8 hown hKN.1 (ci := 8) rfl (k := 10) (by decide) (hts _ lf_8_141) (by decide +kernel)) ?_
  refine bs_c (pc := 4) (s_iconst hx hb (z := 2) (by decide +kernel) (by decide +kernel)) ?_
  refine bs_c (pc := 5) (s_icmp_ne hx hb (by decide +kernel) hF) ?_
  refine bs_c (pc := 8) (s_bipush hx hb (z := -3) (by decide +kernel) (by decide +kernel)) ?_
  refine bs_c (pc := 10) (s_ireturn hx hb hr hlocks (pc' := 0) (by decide +kernel)) ?_
  exact bs_n
set_option maxRecDepth 20000 in
theorem b_132_1 (C : CX p l s m args meth c d E F 132) : BB p l e s m args below meth c d E F K0 132 11 rc_132_1 := by
  obtain ⟨hx, hb, hml, hown, hts, hr, hlocks, hnm, hKN, hb0, hF⟩ := C
  have hb : c.code = prog_10_method_58_code := hb
  have hown : s.vm.findClass "RudeCouponsModel" = some m.cls := hown
  have hr : meth.sig.returnType = some .int := hr
  refine bs_c (pc := 11) (s_aload_n hx hb (k := 0) (by decide +kernel) rfl) ?_
  refine bs_c (pc := 12) (s_getf hx hb hts in_8 hown hKN.1 (ci := 8) rfl (k := 11) (by decide) (hts _ lf_8_28) (by decide +kernel)) ?_
  refine bs_c (pc := 15) (s_bipush hx hb (z := 26) (by decide +kernel) (by decide +kernel)) ?_
  refine bs_c (pc := 17) (s_aload_n hx hb (k := 0) (by decide +kernel) rfl) ?_
  refine bs_c (pc := 18) (s_getf hx hb hts in_8 hown hKN.1 (ci := 8) rfl (k := 10) (by decide) (hts _ lf_8_141) (by decide +kernel)) ?_
  refine bs_c (pc := 21) (s_imul hx hb (by decide +kernel) hF) ?_
  refine bs_c (pc := 22) (s_aload_n hx hb (k := 0) (by decide +kernel) rfl) ?_
  refine bs_c (pc := 23) (s_getf hx hb hts in_8 hown hKN.1 (ci := 8) rfl (k := 7) (by decide) (hts _ lf_8_22) (by decide +kernel)) ?_
  refine bs_c (pc := 26) (s_iconst hx hb (z := 0) (by decide +kernel) (by decide +kernel)) ?_
  refine bs_c (pc := 27) (s_bipush hx hb (z := 26) (by decide +kernel) (by decide +kernel)) ?_
  refine bs_c (pc := 29) (s_call rfl rfl (rk_S hx hb hml (index := 134) (y := 100) (n := 5) hown hts wc_100 lm_8_134 wk_100 wi_100 wp_100 (by decide +kernel) (by decide +kernel)) hKN hb0) ?_
  refine bs_c (pc := 32) (s_aload_n hx hb (k := 0) (by decide +kernel) rfl) ?_
  refine bs_c (pc := 33) (s_dup hx hb (by decide +kernel)) ?_
  refine bs_c (pc := 34) (s_getf hx hb hts in_8 hown hKN.1 (ci := 8) rfl (k := 10) (by decide) (hts _ lf_8_141) (by decide +kernel)) ?_
  refine bs_c (pc := 37) (s_iconst hx hb (z := 1) (by decide +kernel) (by decide +kernel)) ?_
  refine bs_c (pc := 38) (s_iadd hx hb (by decide +kernel)) ?_
  refine bs_c (pc := 39) (s_putI hx hb hts in_8 hown hKN.1 (ci := 8) rfl (k := 10) (by decide) (hts _ lf_8_141) tyX8 tyX8_ok nmX8 (tyX8_ok 10 (by decide)) rfl (by decide +kernel)) ?_
  refine bs_c (pc := 42) (s_aload_n hx hb (k := 0) (by decide +kernel) rfl) ?_
  refine bs_c (pc := 43) (s_getf hx hb hts in_8 hown hKN.1 (ci := 8) rfl (k := 10) (by decide) (hts _ lf_8_141) (by decide +kernel)) ?_
  refine bs_c (pc := 46) (s_ireturn hx hb hr hlocks (pc' := 0) (by decide +kernel)) ?_
  exact bs_n
set_option maxRecDepth 20000 in
theorem b_133_0 (C : CX p l s m args meth c d E F 133) : BB p l e s m args below meth c d E F K0 133 0 rc_133_0 := by
  obtain ⟨hx, hb, hml, hown, hts, hr, hlocks, hnm, hKN, hb0, hF⟩ := C
  have hb : c.code = prog_10_method_59_code := hb
  have hown : s.vm.findClass "RudeCouponsModel" = some m.cls := hown
  have hr : meth.sig.returnType = some .int := hr
  refine bs_c (pc := 0) (s_aload_n hx hb (k := 0) (by decide +kernel) rfl) ?_
  refine bs_c (pc := 1) (s_getf hx hb hts in_8 hown hKN.1 (ci := 8) rfl (k := 10) (by decide) (hts _ lf_8_141) (by decide +kernel)) ?_
  refine bs_c (pc := 4) (s_if_ne hx hb (by decide +kernel) hF) ?_
  refine bs_c (pc := 7) (s_bipush hx hb (z := -2) (by decide +kernel) (by decide +kernel)) ?_
  refine bs_c (pc := 9) (s_ireturn hx hb hr hlocks (pc' := 0) (by decide +kernel)) ?_
  exact bs_n
set_option maxRecDepth 20000 in
theorem b_133_1 (C : CX p l s m args meth c d E F 133) : BB p l e s m args below meth c d E F K0 133 10 rc_133_1 := by
  obtain ⟨hx, hb, hml, hown, hts, hr, hlocks, hnm, hKN, hb0, hF⟩ := C
  have hb : c.code = prog_10_method_59_code := hb
  have hown : s.vm.findClass "RudeCouponsModel" = some m.cls := hown
  have hr : meth.sig.returnType = some .int := hr
  refine bs_c (pc := 10) (s_aload_n hx hb (k := 0) (by decide +kernel) rfl) ?_
  refine bs_c (pc := 11) (s_dup hx hb (by decide +kernel)) ?_
  refine bs_c (pc := 12) (s_getf hx hb hts in_8 hown hKN.1 (ci := 8) rfl (k := 10) (by decide) (hts _ lf_8_141) (by decide +kernel)) ?_
  refine bs_c (pc := 15) (s_iconst hx hb (z := 1) (by decide +kernel) (by decide +kernel)) ?_
  refine bs_c (pc := 16) (s_isub hx hb (by decide +kernel)) ?_
  refine bs_c (pc := 17) (s_putI hx hb hts in_8 hown hKN.1 (ci := 8) rfl (k := 10) (by decide) (hts _ lf_8_141) tyX8 tyX8_ok nmX8 (tyX8_ok 10 (by decide)) rfl (by decide +kernel)) ?_
  refine bs_c (pc := 20) (s_aload_n hx hb (k := 0) (by decide +kernel) rfl) ?_
  refine bs_c (pc := 21) (s_getf hx hb hts in_8 hown hKN.1 (ci := 8) rfl (k := 7) (by decide) (hts _ lf_8_22) (by decide +kernel)) ?_
  refine bs_c (pc := 24) (s_iconst hx hb (z := 0) (by decide +kernel) (by decide +kernel)) ?_
  refine bs_c (pc := 25) (s_aload_n hx hb (k := 0) (by decide +kernel) rfl) ?_
  refine bs_c (pc := 26) (s_getf hx hb hts in_8 hown hKN.1 (ci := 8) rfl (k := 11) (by decide) (hts _ lf_8_28) (by decide +kernel)) ?_
  refine bs_c (pc := 29) (s_bipush hx hb (z := 26) (by decide +kernel) (by decide +kernel)) ?_
  refine bs_c (pc := 31) (s_aload_n hx hb (k := 0) (by decide +kernel) rfl) ?_
  refine bs_c (pc := 32) (s_getf hx hb hts in_8 hown hKN.1 (ci := 8) rfl (k := 10) (by decide) (hts _ lf_8_141) (by decide +kernel)) ?_
  refine bs_c (pc := 35) (s_imul hx hb (by decide +kernel) hF) ?_
  refine bs_c (pc := 36) (s_bipush hx hb (z := 26) (by decide +kernel) (by decide +kernel)) ?_
  refine bs_c (pc := 38) (s_call rfl rfl (rk_S hx hb hml (index := 134) (y := 100) (n := 5) hown hts wc_100 lm_8_134 wk_100 wi_100 wp_100 (by decide +kernel) (by decide +kernel)) hKN hb0) ?_
  refine bs_c (pc := 41) (s_aload_n hx hb (k := 0) (by decide +kernel) rfl) ?_
  refine bs_c (pc := 42) (s_iconst hx hb (z := 0) (by decide +kernel) (by decide +kernel)) ?_
  refine bs_c (pc := 43) (s_putI hx hb hts in_8 hown hKN.1 (ci := 8) rfl (k := 8) (by decide) (hts _ lf_8_138) tyX8 tyX8_ok nmX8 (tyX8_ok 8 (by decide)) rfl (by decide +kernel)) ?_
  refine bs_c (pc := 46) (s_aload_n hx hb (k := 0) (by decide +kernel) rfl) ?_
  refine bs_c (pc := 47) (s_getf hx hb hts in_8 hown hKN.1 (ci := 8) rfl (k := 10) (by decide) (hts _ lf_8_141) (by decide +kernel)) ?_
  refine bs_c (pc := 50) (s_ireturn hx hb hr hlocks (pc' := 0) (by decide +kernel)) ?_
  exact bs_n
set_option maxRecDepth 20000 in
theorem b_134_0 (C : CX p l s m args meth c d E F 134) : BB p l e s m args below meth c d E F K0 134 0 rc_134_0 := by
  obtain ⟨hx, hb, hml, hown, hts, hr, hlocks, hnm, hKN, hb0, hF⟩ := C
  have hb : c.code = prog_10_method_61_code := hb
  have hown : s.vm.findClass "RudeCouponsModel" = some m.cls := hown
  have hr : meth.sig.returnType = some .int := hr
  refine bs_c (pc := 0) (s_iload_n hx hb (k := 1) (by decide +kernel) rfl) ?_
  refine bs_c (pc := 1) (s_table hx hb (hi' := 9) (offs := #[55, 60, 65, 70, 77, 82, 87, 92, 97, 102]) (len := 55) (pc' := 0) (by decide +kernel) (by decide +kernel) (by decide +kernel) (by decide +kernel) (by decide +kernel) hF) ?_
  exact bs_n
set_option maxRecDepth 20000 in
theorem b_134_1 (C : CX p l s m args meth c d E F 134) : BB p l e s m args below meth c d E F K0 134 56 rc_134_1 := by
  obtain ⟨hx, hb, hml, hown, hts, hr, hlocks, hnm, hKN, hb0, hF⟩ := C
  have hb : c.code = prog_10_method_61_code := hb
  have hown : s.vm.findClass "RudeCouponsModel" = some m.cls := hown
  have hr : meth.sig.returnType = some .int := hr
  refine bs_c (pc := 56) (s_aload_n hx hb (k := 0) (by decide +kernel) rfl) ?_
  refine bs_c (pc := 57) (s_getf hx hb hts in_8 hown hKN.1 (ci := 8) rfl (k := 0) (by decide) (hts _ lf_8_84) (by decide +kernel)) ?_
  refine bs_c (pc := 60) (s_ireturn hx hb hr hlocks (pc' := 0) (by decide +kernel)) ?_
  exact bs_n
set_option maxRecDepth 20000 in
theorem b_134_2 (C : CX p l s m args meth c d E F 134) : BB p l e s m args below meth c d E F K0 134 61 rc_134_2 := by
  obtain ⟨hx, hb, hml, hown, hts, hr, hlocks, hnm, hKN, hb0, hF⟩ := C
  have hb : c.code = prog_10_method_61_code := hb
  have hown : s.vm.findClass "RudeCouponsModel" = some m.cls := hown
  have hr : meth.sig.returnType = some .int := hr
  refine bs_c (pc := 61) (s_aload_n hx hb (k := 0) (by decide +kernel) rfl) ?_
  refine bs_c (pc := 62) (s_getf hx hb hts in_8 hown hKN.1 (ci := 8) rfl (k := 2) (by decide) (hts _ lf_8_131) (by decide +kernel)) ?_
  refine bs_c (pc := 65) (s_ireturn hx hb hr hlocks (pc' := 0) (by decide +kernel)) ?_
  exact bs_n
set_option maxRecDepth 20000 in
theorem b_134_3 (C : CX p l s m args meth c d E F 134) : BB p l e s m args below meth c d E F K0 134 66 rc_134_3 := by
  obtain ⟨hx, hb, hml, hown, hts, hr, hlocks, hnm, hKN, hb0, hF⟩ := C
  have hb : c.code = prog_10_method_61_code := hb
  have hown : s.vm.findClass "RudeCouponsModel" = some m.cls := hown
  have hr : meth.sig.returnType = some .int := hr
  refine bs_c (pc := 66) (s_aload_n hx hb (k := 0) (by decide +kernel) rfl) ?_
  refine bs_c (pc := 67) (s_getf hx hb hts in_8 hown hKN.1 (ci := 8) rfl (k := 4) (by decide) (hts _ lf_8_91) (by decide +kernel)) ?_
  refine bs_c (pc := 70) (s_ireturn hx hb hr hlocks (pc' := 0) (by decide +kernel)) ?_
  exact bs_n
set_option maxRecDepth 20000 in
theorem b_134_4 (C : CX p l s m args meth c d E F 134) : BB p l e s m args below meth c d E F K0 134 71 rc_134_4 := by
  obtain ⟨hx, hb, hml, hown, hts, hr, hlocks, hnm, hKN, hb0, hF⟩ := C
  have hb : c.code = prog_10_method_61_code := hb
  have hown : s.vm.findClass "RudeCouponsModel" = some m.cls := hown
  have hr : meth.sig.returnType = some .int := hr
  refine bs_c (pc := 71) (s_aload_n hx hb (k := 0) (by decide +kernel) rfl) ?_
  refine bs_c (pc := 72) (s_getf hx hb hts in_8 hown hKN.1 (ci := 8) rfl (k := 7) (by decide) (hts _ lf_8_22) (by decide +kernel)) ?_
  refine bs_c (pc := 75) (s_iconst hx hb (z := 0) (by decide +kernel) (by decide +kernel)) ?_
  refine bs_c (pc := 76) (s_ald0 hx hb hKN.1 (by decide +kernel)) ?_
  refine bs_c (pc := 77) (s_ireturn hx hb hr hlocks (pc' := 0) (by decide +kernel)) ?_
  exact bs_n
set_option maxRecDepth 20000 in
theorem b_134_5 (C : CX p l s m args meth c d E F 134) : BB p l e s m args below meth c d E F K0 134 78 rc_134_5 := by
  obtain ⟨hx, hb, hml, hown, hts, hr, hlocks, hnm, hKN, hb0, hF⟩ := C
  have hb : c.code = prog_10_method_61_code := hb
  have hown : s.vm.findClass "RudeCouponsModel" = some m.cls := hown
  have hr : meth.sig.returnType = some .int := hr
  refine bs_c (pc := 78) (s_aload_n hx hb (k := 0) (by decide +kernel) rfl) ?_
  refine bs_c (pc := 79) (s_call rfl rfl (rk_V hx hb hml (index := 206) (y := 135) (n := 0) hown hts wc_135 (k := 8) rfl rfl lm_8_206 wk_135 wv_135 wi_135 wp_135 (by decide +kernel) (by decide +kernel)) hKN hb0) ?_
  refine bs_c (pc := 82) (s_ireturn hx hb hr hlocks (pc' := 0) (by decide +kernel)) ?_
  exact bs_n
set_option maxRecDepth 20000 in
theorem b_134_6 (C : CX p l s m args meth c d E F 134) : BB p l e s m args below meth c d E F K0 134 83 rc_134_6 := by
  obtain ⟨hx, hb, hml, hown, hts, hr, hlocks, hnm, hKN, hb0, hF⟩ := C
  have hb : c.code = prog_10_method_61_code := hb
  have hown : s.vm.findClass "RudeCouponsModel" = some m.cls := hown
  have hr : meth.sig.returnType = some .int := hr
  refine bs_c (pc := 83) (s_aload_n hx hb (k := 0) (by decide +kernel) rfl) ?_
  refine bs_c (pc := 84) (s_call rfl rfl (rk_V hx hb hml (index := 180) (y := 115) (n := 0) hown hts wc_115 (k := 8) rfl rfl lm_8_180 wk_115 wv_115 wi_115 wp_115 (by decide +kernel) (by decide +kernel)) hKN hb0) ?_
  refine bs_c (pc := 87) (s_ireturn hx hb hr hlocks (pc' := 0) (by decide +kernel)) ?_
  exact bs_n
set_option maxRecDepth 20000 in
theorem b_134_7 (C : CX p l s m args meth c d E F 134) : BB p l e s m args below meth c d E F K0 134 88 rc_134_7 := by
  obtain ⟨hx, hb, hml, hown, hts, hr, hlocks, hnm, hKN, hb0, hF⟩ := C
  have hb : c.code = prog_10_method_61_code := hb
  have hown : s.vm.findClass "RudeCouponsModel" = some m.cls := hown
  have hr : meth.sig.returnType = some .int := hr
  refine bs_c (pc := 88) (s_aload_n hx hb (k := 0) (by decide +kernel) rfl) ?_
  refine bs_c (pc := 89) (s_getf hx hb hts in_8 hown hKN.1 (ci := 8) rfl (k := 12) (by decide) (hts _ lf_8_144) (by decide +kernel)) ?_
  refine bs_c (pc := 92) (s_ireturn hx hb hr hlocks (pc' := 0) (by decide +kernel)) ?_
  exact bs_n
set_option maxRecDepth 20000 in
theorem b_134_8 (C : CX p l s m args meth c d E F 134) : BB p l e s m args below meth c d E F K0 134 93 rc_134_8 := by
  obtain ⟨hx, hb, hml, hown, hts, hr, hlocks, hnm, hKN, hb0, hF⟩ := C
  have hb : c.code = prog_10_method_61_code := hb
  have hown : s.vm.findClass "RudeCouponsModel" = some m.cls := hown
  have hr : meth.sig.returnType = some .int := hr
  refine bs_c (pc := 93) (s_aload_n hx hb (k := 0) (by decide +kernel) rfl) ?_
  refine bs_c (pc := 94) (s_getf hx hb hts in_8 hown hKN.1 (ci := 8) rfl (k := 8) (by decide) (hts _ lf_8_138) (by decide +kernel)) ?_
  refine bs_c (pc := 97) (s_ireturn hx hb hr hlocks (pc' := 0) (by decide +kernel)) ?_
  exact bs_n
set_option maxRecDepth 20000 in
theorem b_134_9 (C : CX p l s m args meth c d E F 134) : BB p l e s m args below meth c d E F K0 134 98 rc_134_9 := by
  obtain ⟨hx, hb, hml, hown, hts, hr, hlocks, hnm, hKN, hb0, hF⟩ := C
  have hb : c.code = prog_10_method_61_code := hb
  have hown : s.vm.findClass "RudeCouponsModel" = some m.cls := hown
  have hr : meth.sig.returnType = some .int := hr
  refine bs_c (pc := 98) (s_aload_n hx hb (k := 0) (by decide +kernel) rfl) ?_
  refine bs_c (pc := 99) (s_getf hx hb hts in_8 hown hKN.1 (ci := 8) rfl (k := 10) (by decide) (hts _ lf_8_141) (by decide +kernel)) ?_
  refine bs_c (pc := 102) (s_ireturn hx hb hr hlocks (pc' := 0) (by decide +kernel)) ?_
  exact bs_n
set_option maxRecDepth 20000 in
theorem b_134_10 (C : CX p l s m args meth c d E F 134) : BB p l e s m args below meth c d E F K0 134 103 rc_134_10 := by
  obtain ⟨hx, hb, hml, hown, hts, hr, hlocks, hnm, hKN, hb0, hF⟩ := C
  have hb : c.code = prog_10_method_61_code := hb
  have hown : s.vm.findClass "RudeCouponsModel" = some m.cls := hown
  have hr : meth.sig.returnType = some .int := hr
  refine bs_c (pc := 103) (s_aload_n hx hb (k := 0) (by decide +kernel) rfl) ?_
  refine bs_c (pc := 104) (s_getf hx hb hts in_8 hown hKN.1 (ci := 8) rfl (k := 15) (by decide) (hts _ lf_8_94) (by decide +kernel)) ?_
  refine bs_c (pc := 107) (s_ireturn hx hb hr hlocks (pc' := 0) (by decide +kernel)) ?_
  exact bs_n
set_option maxRecDepth 20000 in
theorem b_134_11 (C : CX p l s m args meth c d E F 134) : BB p l e s m args below meth c d E F K0 134 108 rc_134_11 := by
  obtain ⟨hx, hb, hml, hown, hts, hr, hlocks, hnm, hKN, hb0, hF⟩ := C
  have hb : c.code = prog_10_method_61_code := hb
  have hown : s.vm.findClass "RudeCouponsModel" = some m.cls := hown
  have hr : meth.sig.returnType = some .int := hr
  refine bs_c (pc := 108) (s_iconst hx hb (z := -1) (by decide +kernel) (by decide +kernel)) ?_
  refine bs_c (pc := 109) (s_ireturn hx hb hr hlocks (pc' := 0) (by decide +kernel)) ?_
  exact bs_n
set_option maxRecDepth 20000 in
theorem b_135_0 (C : CX p l s m args meth c d E F 135) : BB p l e s m args below meth c d E F K0 135 0 rc_135_0 := by
  obtain ⟨hx, hb, hml, hown, hts, hr, hlocks, hnm, hKN, hb0, hF⟩ := C
  have hb : c.code = prog_10_method_60_code := hb
  have hown : s.vm.findClass "RudeCouponsModel" = some m.cls := hown
  have hr : meth.sig.returnType = some .int := hr
  refine bs_c (pc := 0) (s_iconst hx hb (z := 0) (by decide +kernel) (by decide +kernel)) ?_
  refine bs_c (pc := 1) (s_istore_n hx hb (k := 1) (by decide +kernel) rfl (by decide +kernel)) ?_
  refine bs_c (pc := 2) (s_iconst hx hb (z := 0) (by decide +kernel) (by decide +kernel)) ?_
  refine bs_c (pc := 3) (s_istore_n hx hb (k := 2) (by decide +kernel) rfl (by decide +kernel)) ?_
  refine bs_c (pc := 4) (s_fall (pc' := 0) (by decide +kernel)) ?_
  exact bs_n
set_option maxRecDepth 20000 in
theorem b_135_1 (C : CX p l s m args meth c d E F 135) : BB p l e s m args below meth c d E F K0 135 4 rc_135_1 := by
  obtain ⟨hx, hb, hml, hown, hts, hr, hlocks, hnm, hKN, hb0, hF⟩ := C
  have hb : c.code = prog_10_method_60_code := hb
  have hown : s.vm.findClass "RudeCouponsModel" = some m.cls := hown
  have hr : meth.sig.returnType = some .int := hr
  refine bs_c (pc := 4) (s_iload_n hx hb (k := 2) (by decide +kernel) rfl) ?_
  refine bs_c (pc := 5) (s_aload_n hx hb (k := 0) (by decide +kernel) rfl) ?_
  refine bs_c (pc := 6) (s_getf hx hb hts in_8 hown hKN.1 (ci := 8) rfl (k := 4) (by decide) (hts _ lf_8_91) (by decide +kernel)) ?_
  refine bs_c (pc := 9) (s_icmp_ge hx hb (by decide +kernel) hF) ?_
  refine bs_c (pc := 12) (s_iload_n hx hb (k := 1) (by decide +kernel) rfl) ?_
  refine bs_c (pc := 13) (s_aload_n hx hb (k := 0) (by decide +kernel) rfl) ?_
  refine bs_c (pc := 14) (s_getf hx hb hts in_8 hown hKN.1 (ci := 8) rfl (k := 7) (by decide) (hts _ lf_8_22) (by decide +kernel)) ?_
  refine bs_c (pc := 17) (s_iconst hx hb (z := 1) (by decide +kernel) (by decide +kernel)) ?_
  refine bs_c (pc := 18) (s_ald0 hx hb hKN.1 (by decide +kernel)) ?_
  refine bs_c (pc := 19) (s_iload_n hx hb (k := 2) (by decide +kernel) rfl) ?_
  refine bs_c (pc := 20) (s_ishr hx hb (by decide +kernel)) ?_
  refine bs_c (pc := 21) (s_iconst hx hb (z := 1) (by decide +kernel) (by decide +kernel)) ?_
  refine bs_c (pc := 22) (s_iand hx hb (by decide +kernel)) ?_
  refine bs_c (pc := 23) (s_iadd hx hb (by decide +kernel)) ?_
  refine bs_c (pc := 24) (s_istore_n hx hb (k := 1) (by decide +kernel) rfl (by decide +kernel)) ?_
  refine bs_c (pc := 25) (s_iinc hx hb (z := 1) (by decide +kernel) (by decide +kernel) (by decide +kernel)) ?_
  refine bs_c (pc := 28) (s_goto hx hb (pc' := 0) (by decide +kernel)) ?_
  exact bs_n
set_option maxRecDepth 20000 in
theorem b_135_2 (C : CX p l s m args meth c d E F 135) : BB p l e s m args below meth c d E F K0 135 31 rc_135_2 := by
  obtain ⟨hx, hb, hml, hown, hts, hr, hlocks, hnm, hKN, hb0, hF⟩ := C
  have hb : c.code = prog_10_method_60_code := hb
  have hown : s.vm.findClass "RudeCouponsModel" = some m.cls := hown
  have hr : meth.sig.returnType = some .int := hr
  refine bs_c (pc := 31) (s_iload_n hx hb (k := 1) (by decide +kernel) rfl) ?_
  refine bs_c (pc := 32) (s_ireturn hx hb hr hlocks (pc' := 0) (by decide +kernel)) ?_
  exact bs_n
set_option maxRecDepth 20000 in
theorem b_138_0 (C : CX p l s m args meth c d E F 138) : BB p l e s m args below meth c d E F K0 138 0 rc_138_0 := by
  obtain ⟨hx, hb, hml, hown, hts, hr, hlocks, hnm, hKN, hb0, hF⟩ := C
  have hb : c.code = prog_11_method_49_code := hb
  have hown : s.vm.findClass "java/lang/Integer" = some m.cls := hown
  have hr : meth.sig.returnType = some .int := hr
  refine bs_c (pc := 0) (s_iload_n hx hb (k := 0) (by decide +kernel) rfl) ?_
  refine bs_c (pc := 1) (s_iload_n hx hb (k := 0) (by decide +kernel) rfl) ?_
  refine bs_c (pc := 2) (s_iconst hx hb (z := 1) (by decide +kernel) (by decide +kernel)) ?_
  refine bs_c (pc := 3) (s_iushr hx hb (by decide +kernel)) ?_
  refine bs_c (pc := 4) (s_ldcw hx hb hown (hts _ li_11_265) (by decide +kernel)) ?_
  refine bs_c (pc := 7) (s_iand hx hb (by decide +kernel)) ?_
  refine bs_c (pc := 8) (s_isub hx hb (by decide +kernel)) ?_
  refine bs_c (pc := 9) (s_istore_n hx hb (k := 0) (by decide +kernel) rfl (by decide +kernel)) ?_
  refine bs_c (pc := 10) (s_iload_n hx hb (k := 0) (by decide +kernel) rfl) ?_
  refine bs_c (pc := 11) (s_ldcw hx hb hown (hts _ li_11_266) (by decide +kernel)) ?_
  refine bs_c (pc := 14) (s_iand hx hb (by decide +kernel)) ?_
  refine bs_c (pc := 15) (s_iload_n hx hb (k := 0) (by decide +kernel) rfl) ?_
  refine bs_c (pc := 16) (s_iconst hx hb (z := 2) (by decide +kernel) (by decide +kernel)) ?_
  refine bs_c (pc := 17) (s_iushr hx hb (by decide +kernel)) ?_
  refine bs_c (pc := 18) (s_ldcw hx hb hown (hts _ li_11_266) (by decide +kernel)) ?_
  refine bs_c (pc := 21) (s_iand hx hb (by decide +kernel)) ?_
  refine bs_c (pc := 22) (s_iadd hx hb (by decide +kernel)) ?_
  refine bs_c (pc := 23) (s_istore_n hx hb (k := 0) (by decide +kernel) rfl (by decide +kernel)) ?_
  refine bs_c (pc := 24) (s_iload_n hx hb (k := 0) (by decide +kernel) rfl) ?_
  refine bs_c (pc := 25) (s_iload_n hx hb (k := 0) (by decide +kernel) rfl) ?_
  refine bs_c (pc := 26) (s_iconst hx hb (z := 4) (by decide +kernel) (by decide +kernel)) ?_
  refine bs_c (pc := 27) (s_iushr hx hb (by decide +kernel)) ?_
  refine bs_c (pc := 28) (s_iadd hx hb (by decide +kernel)) ?_
  refine bs_c (pc := 29) (s_ldcw hx hb hown (hts _ li_11_267) (by decide +kernel)) ?_
  refine bs_c (pc := 32) (s_iand hx hb (by decide +kernel)) ?_
  refine bs_c (pc := 33) (s_istore_n hx hb (k := 0) (by decide +kernel) rfl (by decide +kernel)) ?_
  refine bs_c (pc := 34) (s_iload_n hx hb (k := 0) (by decide +kernel) rfl) ?_
  refine bs_c (pc := 35) (s_iload_n hx hb (k := 0) (by decide +kernel) rfl) ?_
  refine bs_c (pc := 36) (s_bipush hx hb (z := 8) (by decide +kernel) (by decide +kernel)) ?_
  refine bs_c (pc := 38) (s_iushr hx hb (by decide +kernel)) ?_
  refine bs_c (pc := 39) (s_iadd hx hb (by decide +kernel)) ?_
  refine bs_c (pc := 40) (s_istore_n hx hb (k := 0) (by decide +kernel) rfl (by decide +kernel)) ?_
  refine bs_c (pc := 41) (s_iload_n hx hb (k := 0) (by decide +kernel) rfl) ?_
  refine bs_c (pc := 42) (s_iload_n hx hb (k := 0) (by decide +kernel) rfl) ?_
  refine bs_c (pc := 43) (s_bipush hx hb (z := 16) (by decide +kernel) (by decide +kernel)) ?_
  refine bs_c (pc := 45) (s_iushr hx hb (by decide +kernel)) ?_
  refine bs_c (pc := 46) (s_iadd hx hb (by decide +kernel)) ?_
  refine bs_c (pc := 47) (s_istore_n hx hb (k := 0) (by decide +kernel) rfl (by decide +kernel)) ?_
  refine bs_c (pc := 48) (s_iload_n hx hb (k := 0) (by decide +kernel) rfl) ?_
  refine bs_c (pc := 49) (s_bipush hx hb (z := 63) (by decide +kernel) (by decide +kernel)) ?_
  refine bs_c (pc := 51) (s_iand hx hb (by decide +kernel)) ?_
  refine bs_c (pc := 52) (s_ireturn hx hb hr hlocks (pc' := 0) (by decide +kernel)) ?_
  exact bs_n
set_option maxRecDepth 20000 in
theorem b_139_0 (C : CX p l s m args meth c d E F 139) : BB p l e s m args below meth c d E F K0 139 0 rc_139_0 := by
  obtain ⟨hx, hb, hml, hown, hts, hr, hlocks, hnm, hKN, hb0, hF⟩ := C
  have hb : c.code = prog_6_method_1_code := hb
  have hown : s.vm.findClass "RudeCoupons$Shelf" = some m.cls := hown
  have hr : meth.sig.returnType = none := hr
  have hnm : meth.name = "<init>" := hnm
  refine bs_c (pc := 0) (s_aload_n hx hb (k := 0) (by decide +kernel) rfl) ?_
  refine bs_c (pc := 1) (s_oinit hx hb hml hown (hts _ lo_4) (hts _ wo_1) (hts _ wo_2) (by decide +kernel) (by decide +kernel) (by decide +kernel)) ?_
  refine bs_c (pc := 4) (s_aload_n hx hb (k := 0) (by decide +kernel) rfl) ?_
  refine bs_c (pc := 5) (s_iconst hx hb (z := 1) (by decide +kernel) (by decide +kernel)) ?_
  refine bs_c (pc := 6) (s_iload_n hx hb (k := 1) (by decide +kernel) rfl) ?_
  refine bs_c (pc := 7) (s_max hx hb hml hown (hts _ lM_4_7) (hts _ wM_max) (hts _ wM_i) (hts _ wN_max) (by decide +kernel) (by decide +kernel) (by decide +kernel)) ?_
  refine bs_c (pc := 10) (s_newq hx hb hown (hts _ lc_4_13) hKN.2.2.1 (by decide) rfl hKN.1 hb0 (by decide +kernel)) ?_
  refine bs_c (pc := 13) (s_putRF hx hb hts in_4 hown hKN.1 (ci := 4) rfl (k := 0) (by decide) (hts _ lf_4_15) tyX4 tyX4_ok nmX4 (ty := .array (.object "RudeCoupons$Standing")) (tyX4_ok 0 (by decide)) (fun _ => ⟨rfl, rfl⟩) rfl hnm rfl (by decide +kernel)) ?_
  refine bs_c (pc := 16) (s_iconst hx hb (z := 0) (by decide +kernel) (by decide +kernel)) ?_
  refine bs_c (pc := 17) (s_istore_n hx hb (k := 2) (by decide +kernel) rfl (by decide +kernel)) ?_
  refine bs_c (pc := 18) (s_fall (pc' := 0) (by decide +kernel)) ?_
  exact bs_n
set_option maxRecDepth 20000 in
theorem b_139_1 (C : CX p l s m args meth c d E F 139) : BB p l e s m args below meth c d E F K0 139 18 rc_139_1 := by
  obtain ⟨hx, hb, hml, hown, hts, hr, hlocks, hnm, hKN, hb0, hF⟩ := C
  have hb : c.code = prog_6_method_1_code := hb
  have hown : s.vm.findClass "RudeCoupons$Shelf" = some m.cls := hown
  have hr : meth.sig.returnType = none := hr
  have hnm : meth.name = "<init>" := hnm
  refine bs_c (pc := 18) (s_iload_n hx hb (k := 2) (by decide +kernel) rfl) ?_
  refine bs_c (pc := 19) (s_aload_n hx hb (k := 0) (by decide +kernel) rfl) ?_
  refine bs_c (pc := 20) (s_getf hx hb hts in_4 hown hKN.1 (ci := 4) rfl (k := 0) (by decide) (hts _ lf_4_15) (by decide +kernel)) ?_
  refine bs_c (pc := 23) (s_alen hx hb hKN.1 (by decide +kernel)) ?_
  refine bs_c (pc := 24) (s_icmp_ge hx hb (by decide +kernel) hF) ?_
  refine bs_c (pc := 27) (s_aload_n hx hb (k := 0) (by decide +kernel) rfl) ?_
  refine bs_c (pc := 28) (s_getf hx hb hts in_4 hown hKN.1 (ci := 4) rfl (k := 0) (by decide) (hts _ lf_4_15) (by decide +kernel)) ?_
  refine bs_c (pc := 31) (s_iload_n hx hb (k := 2) (by decide +kernel) rfl) ?_
  refine bs_c (pc := 32) (s_new hx hb hts in_6 tyX6 tyX6_ok hown (hts _ lc_4_13) (hts _ wn_6) (hts _ wz_6) hKN.1 rfl hb0 rfl df_6 (by decide +kernel)) ?_
  refine bs_c (pc := 35) (s_dup hx hb (by decide +kernel)) ?_
  refine bs_c (pc := 36) (s_call rfl rfl (rk_IN hx hb hml (index := 21) (y := 52) (n := 0) hown hts wc_52 rfl rfl (hKN.2.1 _ ln_4_21) wk_52 wi_52 wp_52 (by decide +kernel) (by decide +kernel)) hKN hb0) ?_
  refine bs_c (pc := 39) (s_aast hx hb hKN.1 (by decide) rfl rfl (by decide +kernel)) ?_
  refine bs_c (pc := 40) (s_iinc hx hb (z := 1) (by decide +kernel) (by decide +kernel) (by decide +kernel)) ?_
  refine bs_c (pc := 43) (s_goto hx hb (pc' := 0) (by decide +kernel)) ?_
  exact bs_n
set_option maxRecDepth 20000 in
theorem b_139_2 (C : CX p l s m args meth c d E F 139) : BB p l e s m args below meth c d E F K0 139 46 rc_139_2 := by
  obtain ⟨hx, hb, hml, hown, hts, hr, hlocks, hnm, hKN, hb0, hF⟩ := C
  have hb : c.code = prog_6_method_1_code := hb
  have hown : s.vm.findClass "RudeCoupons$Shelf" = some m.cls := hown
  have hr : meth.sig.returnType = none := hr
  have hnm : meth.name = "<init>" := hnm
  refine bs_c (pc := 46) (s_return hx hb hr hlocks (pc' := 0) (by decide +kernel)) ?_
  exact bs_n
end MTH
