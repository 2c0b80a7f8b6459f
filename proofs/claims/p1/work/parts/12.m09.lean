/-! METHODS, block by block, by program: every instruction as its handler says -/
section MTH
variable {p : Program} {l : Launch} {e : Env} {s : State} {m : MethodId} {args : Array Value} {below : List Frame} {meth : Method} {c : Code} {d : mD} {E : mE} {F : mF} {K0 : mK}
set_option maxRecDepth 20000 in
theorem b_117_0 (C : CX p l s m args meth c d E F 117) : BB p l e s m args below meth c d E F K0 117 0 rc_117_0 := by
  obtain ⟨hx, hb, hml, hown, hts, hr, hlocks, hnm, hKN, hb0, hF⟩ := C
  have hb : c.code = prog_10_method_43_code := hb
  have hown : s.vm.findClass "RudeCouponsModel" = some m.cls := hown
  have hr : meth.sig.returnType = some .int := hr
  refine bs_c (pc := 0) (s_aload_n hx hb (k := 0) (by decide +kernel) rfl) ?_
  refine bs_c (pc := 1) (s_iload_n hx hb (k := 1) (by decide +kernel) rfl) ?_
  refine bs_c (pc := 2) (s_call rfl rfl (rk_V hx hb hml (index := 162) (y := 9) (n := 1) hown hts wc_9 (k := 8) rfl rfl lm_8_162 wk_9 wv_9 wi_9 wp_9 (by decide +kernel) (by decide +kernel)) hKN hb0) ?_
  refine bs_c (pc := 5) (s_if_eq hx hb (by decide +kernel) hF) ?_
  refine bs_c (pc := 8) (s_iload_n hx hb (k := 2) (by decide +kernel) rfl) ?_
  refine bs_c (pc := 9) (s_iconst hx hb (z := 0) (by decide +kernel) (by decide +kernel)) ?_
  refine bs_c (pc := 10) (s_iconst hx hb (z := 1) (by decide +kernel) (by decide +kernel)) ?_
  refine bs_c (pc := 11) (s_call rfl rfl (rk_S hx hb hml (index := 87) (y := 7) (n := 3) hown hts wc_7 lm_8_87 wk_7 wi_7 wp_7 (by decide +kernel) (by decide +kernel)) hKN hb0) ?_
  refine bs_c (pc := 14) (s_if_ne hx hb (by decide +kernel) hF) ?_
  refine bs_c (pc := 17) (s_fall (pc' := 0) (by decide +kernel)) ?_
  exact bs_n
set_option maxRecDepth 20000 in
theorem b_117_1 (C : CX p l s m args meth c d E F 117) : BB p l e s m args below meth c d E F K0 117 17 rc_117_1 := by
  obtain ⟨hx, hb, hml, hown, hts, hr, hlocks, hnm, hKN, hb0, hF⟩ := C
  have hb : c.code = prog_10_method_43_code := hb
  have hown : s.vm.findClass "RudeCouponsModel" = some m.cls := hown
  have hr : meth.sig.returnType = some .int := hr
  refine bs_c (pc := 17) (s_iconst hx hb (z := -1) (by decide +kernel) (by decide +kernel)) ?_
  refine bs_c (pc := 18) (s_ireturn hx hb hr hlocks (pc' := 0) (by decide +kernel)) ?_
  exact bs_n
set_option maxRecDepth 20000 in
theorem b_117_2 (C : CX p l s m args meth c d E F 117) : BB p l e s m args below meth c d E F K0 117 19 rc_117_2 := by
  obtain ⟨hx, hb, hml, hown, hts, hr, hlocks, hnm, hKN, hb0, hF⟩ := C
  have hb : c.code = prog_10_method_43_code := hb
  have hown : s.vm.findClass "RudeCouponsModel" = some m.cls := hown
  have hr : meth.sig.returnType = some .int := hr
  refine bs_c (pc := 19) (s_aload_n hx hb (k := 0) (by decide +kernel) rfl) ?_
  refine bs_c (pc := 20) (s_iload_n hx hb (k := 1) (by decide +kernel) rfl) ?_
  refine bs_c (pc := 21) (s_aload_n hx hb (k := 0) (by decide +kernel) rfl) ?_
  refine bs_c (pc := 22) (s_getf hx hb hts in_8 hown hKN.1 (ci := 8) rfl (k := 7) (by decide) (hts _ lf_8_22) (by decide +kernel)) ?_
  refine bs_c (pc := 25) (s_iconst hx hb (z := 2) (by decide +kernel) (by decide +kernel)) ?_
  refine bs_c (pc := 26) (s_iload_n hx hb (k := 1) (by decide +kernel) rfl) ?_
  refine bs_c (pc := 27) (s_iadd hx hb (by decide +kernel)) ?_
  refine bs_c (pc := 28) (s_ald0 hx hb hKN.1 (by decide +kernel)) ?_
  refine bs_c (pc := 29) (s_call rfl rfl (rk_V hx hb hml (index := 189) (y := 6) (n := 2) hown hts wc_6 (k := 8) rfl rfl lm_8_189 wk_6 wv_6 wi_6 wp_6 (by decide +kernel) (by decide +kernel)) hKN hb0) ?_
  refine bs_c (pc := 32) (s_istore_n hx hb (k := 3) (by decide +kernel) rfl (by decide +kernel)) ?_
  refine bs_c (pc := 33) (s_iload_n hx hb (k := 2) (by decide +kernel) rfl) ?_
  refine bs_c (pc := 34) (s_if_ne hx hb (by decide +kernel) hF) ?_
  refine bs_c (pc := 37) (s_iload_n hx hb (k := 3) (by decide +kernel) rfl) ?_
  refine bs_c (pc := 38) (s_goto hx hb (pc' := 0) (by decide +kernel)) ?_
  exact bs_n
set_option maxRecDepth 20000 in
theorem b_117_3 (C : CX p l s m args meth c d E F 117) : BB p l e s m args below meth c d E F K0 117 41 rc_117_3 := by
  obtain ⟨hx, hb, hml, hown, hts, hr, hlocks, hnm, hKN, hb0, hF⟩ := C
  have hb : c.code = prog_10_method_43_code := hb
  have hown : s.vm.findClass "RudeCouponsModel" = some m.cls := hown
  have hr : meth.sig.returnType = some .int := hr
  refine bs_c (pc := 41) (s_aload_n hx hb (k := 0) (by decide +kernel) rfl) ?_
  refine bs_c (pc := 42) (s_getf hx hb hts in_8 hown hKN.1 (ci := 8) rfl (k := 24) (by decide) (hts _ lf_8_186) (by decide +kernel)) ?_
  refine bs_c (pc := 45) (s_fall (pc' := 0) (by decide +kernel)) ?_
  exact bs_n
set_option maxRecDepth 20000 in
theorem b_117_4 (C : CX p l s m args meth c d E F 117) : BB p l e s m args below meth c d E F K0 117 45 rc_117_4 := by
  obtain ⟨hx, hb, hml, hown, hts, hr, hlocks, hnm, hKN, hb0, hF⟩ := C
  have hb : c.code = prog_10_method_43_code := hb
  have hown : s.vm.findClass "RudeCouponsModel" = some m.cls := hown
  have hr : meth.sig.returnType = some .int := hr
  refine bs_c (pc := 45) (s_ireturn hx hb hr hlocks (pc' := 0) (by decide +kernel)) ?_
  exact bs_n
set_option maxRecDepth 20000 in
theorem b_118_0 (C : CX p l s m args meth c d E F 118) : BB p l e s m args below meth c d E F K0 118 0 rc_118_0 := by
  obtain ⟨hx, hb, hml, hown, hts, hr, hlocks, hnm, hKN, hb0, hF⟩ := C
  have hb : c.code = prog_10_method_44_code := hb
  have hown : s.vm.findClass "RudeCouponsModel" = some m.cls := hown
  have hr : meth.sig.returnType = some .int := hr
  refine bs_c (pc := 0) (s_aload_n hx hb (k := 0) (by decide +kernel) rfl) ?_
  refine bs_c (pc := 1) (s_iload_n hx hb (k := 1) (by decide +kernel) rfl) ?_
  refine bs_c (pc := 2) (s_call rfl rfl (rk_V hx hb hml (index := 162) (y := 9) (n := 1) hown hts wc_9 (k := 8) rfl rfl lm_8_162 wk_9 wv_9 wi_9 wp_9 (by decide +kernel) (by decide +kernel)) hKN hb0) ?_
  refine bs_c (pc := 5) (s_if_ne hx hb (by decide +kernel) hF) ?_
  refine bs_c (pc := 8) (s_iconst hx hb (z := -1) (by decide +kernel) (by decide +kernel)) ?_
  refine bs_c (pc := 9) (s_ireturn hx hb hr hlocks (pc' := 0) (by decide +kernel)) ?_
  exact bs_n
set_option maxRecDepth 20000 in
theorem b_118_1 (C : CX p l s m args meth c d E F 118) : BB p l e s m args below meth c d E F K0 118 10 rc_118_1 := by
  obtain ⟨hx, hb, hml, hown, hts, hr, hlocks, hnm, hKN, hb0, hF⟩ := C
  have hb : c.code = prog_10_method_44_code := hb
  have hown : s.vm.findClass "RudeCouponsModel" = some m.cls := hown
  have hr : meth.sig.returnType = some .int := hr
  refine bs_c (pc := 10) (s_aload_n hx hb (k := 0) (by decide +kernel) rfl) ?_
  refine bs_c (pc := 11) (s_getf hx hb hts in_8 hown hKN.1 (ci := 8) rfl (k := 7) (by decide) (hts _ lf_8_22) (by decide +kernel)) ?_
  refine bs_c (pc := 14) (s_iconst hx hb (z := 2) (by decide +kernel) (by decide +kernel)) ?_
  refine bs_c (pc := 15) (s_iload_n hx hb (k := 1) (by decide +kernel) rfl) ?_
  refine bs_c (pc := 16) (s_iadd hx hb (by decide +kernel)) ?_
  refine bs_c (pc := 17) (s_ald0 hx hb hKN.1 (by decide +kernel)) ?_
  refine bs_c (pc := 18) (s_istore_n hx hb (k := 2) (by decide +kernel) rfl (by decide +kernel)) ?_
  refine bs_c (pc := 19) (s_iload_n hx hb (k := 2) (by decide +kernel) rfl) ?_
  refine bs_c (pc := 20) (s_bipush hx hb (z := 15) (by decide +kernel) (by decide +kernel)) ?_
  refine bs_c (pc := 22) (s_icmp_ne hx hb (by decide +kernel) hF) ?_
  refine bs_c (pc := 25) (s_iconst hx hb (z := 0) (by decide +kernel) (by decide +kernel)) ?_
  refine bs_c (pc := 26) (s_goto hx hb (pc' := 0) (by decide +kernel)) ?_
  exact bs_n
set_option maxRecDepth 20000 in
theorem b_118_2 (C : CX p l s m args meth c d E F 118) : BB p l e s m args below meth c d E F K0 118 29 rc_118_2 := by
  obtain ⟨hx, hb, hml, hown, hts, hr, hlocks, hnm, hKN, hb0, hF⟩ := C
  have hb : c.code = prog_10_method_44_code := hb
  have hown : s.vm.findClass "RudeCouponsModel" = some m.cls := hown
  have hr : meth.sig.returnType = some .int := hr
  refine bs_c (pc := 29) (s_aload_n hx hb (k := 0) (by decide +kernel) rfl) ?_
  refine bs_c (pc := 30) (s_iload_n hx hb (k := 1) (by decide +kernel) rfl) ?_
  refine bs_c (pc := 31) (s_iload_n hx hb (k := 2) (by decide +kernel) rfl) ?_
  refine bs_c (pc := 32) (s_iconst hx hb (z := 1) (by decide +kernel) (by decide +kernel)) ?_
  refine bs_c (pc := 33) (s_iadd hx hb (by decide +kernel)) ?_
  refine bs_c (pc := 34) (s_call rfl rfl (rk_V hx hb hml (index := 189) (y := 6) (n := 2) hown hts wc_6 (k := 8) rfl rfl lm_8_189 wk_6 wv_6 wi_6 wp_6 (by decide +kernel) (by decide +kernel)) hKN hb0) ?_
  refine bs_c (pc := 37) (s_aload_n hx hb (k := 0) (by decide +kernel) rfl) ?_
  refine bs_c (pc := 38) (s_iload_n hx hb (k := 1) (by decide +kernel) rfl) ?_
  refine bs_c (pc := 39) (s_iload_n hx hb (k := 2) (by decide +kernel) rfl) ?_
  refine bs_c (pc := 40) (s_call rfl rfl (rk_V hx hb hml (index := 189) (y := 6) (n := 2) hown hts wc_6 (k := 8) rfl rfl lm_8_189 wk_6 wv_6 wi_6 wp_6 (by decide +kernel) (by decide +kernel)) hKN hb0) ?_
  refine bs_c (pc := 43) (s_isub hx hb (by decide +kernel)) ?_
  refine bs_c (pc := 44) (s_fall (pc' := 0) (by decide +kernel)) ?_
  exact bs_n
set_option maxRecDepth 20000 in
theorem b_118_3 (C : CX p l s m args meth c d E F 118) : BB p l e s m args below meth c d E F K0 118 44 rc_118_3 := by
  obtain ⟨hx, hb, hml, hown, hts, hr, hlocks, hnm, hKN, hb0, hF⟩ := C
  have hb : c.code = prog_10_method_44_code := hb
  have hown : s.vm.findClass "RudeCouponsModel" = some m.cls := hown
  have hr : meth.sig.returnType = some .int := hr
  refine bs_c (pc := 44) (s_ireturn hx hb hr hlocks (pc' := 0) (by decide +kernel)) ?_
  exact bs_n
set_option maxRecDepth 20000 in
theorem b_119_0 (C : CX p l s m args meth c d E F 119) : BB p l e s m args below meth c d E F K0 119 0 rc_119_0 := by
  obtain ⟨hx, hb, hml, hown, hts, hr, hlocks, hnm, hKN, hb0, hF⟩ := C
  have hb : c.code = prog_10_method_45_code := hb
  have hown : s.vm.findClass "RudeCouponsModel" = some m.cls := hown
  have hr : meth.sig.returnType = some .int := hr
  refine bs_c (pc := 0) (s_iload_n hx hb (k := 1) (by decide +kernel) rfl) ?_
  refine bs_c (pc := 1) (s_iconst hx hb (z := 0) (by decide +kernel) (by decide +kernel)) ?_
  refine bs_c (pc := 2) (s_iconst hx hb (z := 1) (by decide +kernel) (by decide +kernel)) ?_
  refine bs_c (pc := 3) (s_call rfl rfl (rk_S hx hb hml (index := 87) (y := 7) (n := 3) hown hts wc_7 lm_8_87 wk_7 wi_7 wp_7 (by decide +kernel) (by decide +kernel)) hKN hb0) ?_
  refine bs_c (pc := 6) (s_if_ne hx hb (by decide +kernel) hF) ?_
  refine bs_c (pc := 9) (s_iconst hx hb (z := -1) (by decide +kernel) (by decide +kernel)) ?_
  refine bs_c (pc := 10) (s_ireturn hx hb hr hlocks (pc' := 0) (by decide +kernel)) ?_
  exact bs_n
set_option maxRecDepth 20000 in
theorem b_119_1 (C : CX p l s m args meth c d E F 119) : BB p l e s m args below meth c d E F K0 119 11 rc_119_1 := by
  obtain ⟨hx, hb, hml, hown, hts, hr, hlocks, hnm, hKN, hb0, hF⟩ := C
  have hb : c.code = prog_10_method_45_code := hb
  have hown : s.vm.findClass "RudeCouponsModel" = some m.cls := hown
  have hr : meth.sig.returnType = some .int := hr
  refine bs_c (pc := 11) (s_bipush hx hb (z := -4) (by decide +kernel) (by decide +kernel)) ?_
  refine bs_c (pc := 13) (s_istore_n hx hb (k := 2) (by decide +kernel) rfl (by decide +kernel)) ?_
  refine bs_c (pc := 14) (s_bipush hx hb (z := -4) (by decide +kernel) (by decide +kernel)) ?_
  refine bs_c (pc := 16) (s_istore_n hx hb (k := 3) (by decide +kernel) rfl (by decide +kernel)) ?_
  refine bs_c (pc := 17) (s_iconst hx hb (z := 0) (by decide +kernel) (by decide +kernel)) ?_
  refine bs_c (pc := 18) (s_istore hx hb (by decide +kernel) (by decide +kernel)) ?_
  refine bs_c (pc := 20) (s_fall (pc' := 0) (by decide +kernel)) ?_
  exact bs_n
set_option maxRecDepth 20000 in
theorem b_119_2 (C : CX p l s m args meth c d E F 119) : BB p l e s m args below meth c d E F K0 119 20 rc_119_2 := by
  obtain ⟨hx, hb, hml, hown, hts, hr, hlocks, hnm, hKN, hb0, hF⟩ := C
  have hb : c.code = prog_10_method_45_code := hb
  have hown : s.vm.findClass "RudeCouponsModel" = some m.cls := hown
  have hr : meth.sig.returnType = some .int := hr
  refine bs_c (pc := 20) (s_iload hx hb (by decide +kernel)) ?_
  refine bs_c (pc := 22) (s_aload_n hx hb (k := 0) (by decide +kernel) rfl) ?_
  refine bs_c (pc := 23) (s_getf hx hb hts in_8 hown hKN.1 (ci := 8) rfl (k := 0) (by decide) (hts _ lf_8_84) (by decide +kernel)) ?_
  refine bs_c (pc := 26) (s_icmp_ge hx hb (by decide +kernel) hF) ?_
  refine bs_c (pc := 29) (s_iconst hx hb (z := 0) (by decide +kernel) (by decide +kernel)) ?_
  refine bs_c (pc := 30) (s_istore hx hb (by decide +kernel) (by decide +kernel)) ?_
  refine bs_c (pc := 32) (s_fall (pc' := 0) (by decide +kernel)) ?_
  exact bs_n
set_option maxRecDepth 20000 in
theorem b_119_3 (C : CX p l s m args meth c d E F 119) : BB p l e s m args below meth c d E F K0 119 32 rc_119_3 := by
  obtain ⟨hx, hb, hml, hown, hts, hr, hlocks, hnm, hKN, hb0, hF⟩ := C
  have hb : c.code = prog_10_method_45_code := hb
  have hown : s.vm.findClass "RudeCouponsModel" = some m.cls := hown
  have hr : meth.sig.returnType = some .int := hr
  refine bs_c (pc := 32) (s_iload hx hb (by decide +kernel)) ?_
  refine bs_c (pc := 34) (s_aload_n hx hb (k := 0) (by decide +kernel) rfl) ?_
  refine bs_c (pc := 35) (s_getf hx hb hts in_8 hown hKN.1 (ci := 8) rfl (k := 0) (by decide) (hts _ lf_8_84) (by decide +kernel)) ?_
  refine bs_c (pc := 38) (s_icmp_ge hx hb (by decide +kernel) hF) ?_
  refine bs_c (pc := 41) (s_iload hx hb (by decide +kernel)) ?_
  refine bs_c (pc := 43) (s_iload hx hb (by decide +kernel)) ?_
  refine bs_c (pc := 45) (s_icmp_eq hx hb (by decide +kernel) hF) ?_
  refine bs_c (pc := 48) (s_aload_n hx hb (k := 0) (by decide +kernel) rfl) ?_
  refine bs_c (pc := 49) (s_getf hx hb hts in_8 hown hKN.1 (ci := 8) rfl (k := 7) (by decide) (hts _ lf_8_22) (by decide +kernel)) ?_
  refine bs_c (pc := 52) (s_iconst hx hb (z := 2) (by decide +kernel) (by decide +kernel)) ?_
  refine bs_c (pc := 53) (s_iload hx hb (by decide +kernel)) ?_
  refine bs_c (pc := 55) (s_iadd hx hb (by decide +kernel)) ?_
  refine bs_c (pc := 56) (s_ald0 hx hb hKN.1 (by decide +kernel)) ?_
  refine bs_c (pc := 57) (s_if_le hx hb (by decide +kernel) hF) ?_
  refine bs_c (pc := 60) (s_aload_n hx hb (k := 0) (by decide +kernel) rfl) ?_
  refine bs_c (pc := 61) (s_getf hx hb hts in_8 hown hKN.1 (ci := 8) rfl (k := 7) (by decide) (hts _ lf_8_22) (by decide +kernel)) ?_
  refine bs_c (pc := 64) (s_iconst hx hb (z := 2) (by decide +kernel) (by decide +kernel)) ?_
  refine bs_c (pc := 65) (s_iload hx hb (by decide +kernel)) ?_
  refine bs_c (pc := 67) (s_iadd hx hb (by decide +kernel)) ?_
  refine bs_c (pc := 68) (s_ald0 hx hb hKN.1 (by decide +kernel)) ?_
  refine bs_c (pc := 69) (s_bipush hx hb (z := 15) (by decide +kernel) (by decide +kernel)) ?_
  refine bs_c (pc := 71) (s_icmp_ge hx hb (by decide +kernel) hF) ?_
  refine bs_c (pc := 74) (s_aload_n hx hb (k := 0) (by decide +kernel) rfl) ?_
  refine bs_c (pc := 75) (s_iload hx hb (by decide +kernel)) ?_
  refine bs_c (pc := 77) (s_aload_n hx hb (k := 0) (by decide +kernel) rfl) ?_
  refine bs_c (pc := 78) (s_getf hx hb hts in_8 hown hKN.1 (ci := 8) rfl (k := 7) (by decide) (hts _ lf_8_22) (by decide +kernel)) ?_
  refine bs_c (pc := 81) (s_iconst hx hb (z := 2) (by decide +kernel) (by decide +kernel)) ?_
  refine bs_c (pc := 82) (s_iload hx hb (by decide +kernel)) ?_
  refine bs_c (pc := 84) (s_iadd hx hb (by decide +kernel)) ?_
  refine bs_c (pc := 85) (s_ald0 hx hb hKN.1 (by decide +kernel)) ?_
  refine bs_c (pc := 86) (s_call rfl rfl (rk_V hx hb hml (index := 189) (y := 6) (n := 2) hown hts wc_6 (k := 8) rfl rfl lm_8_189 wk_6 wv_6 wi_6 wp_6 (by decide +kernel) (by decide +kernel)) hKN hb0) ?_
  refine bs_c (pc := 89) (s_aload_n hx hb (k := 0) (by decide +kernel) rfl) ?_
  refine bs_c (pc := 90) (s_iload hx hb (by decide +kernel)) ?_
  refine bs_c (pc := 92) (s_aload_n hx hb (k := 0) (by decide +kernel) rfl) ?_
  refine bs_c (pc := 93) (s_getf hx hb hts in_8 hown hKN.1 (ci := 8) rfl (k := 7) (by decide) (hts _ lf_8_22) (by decide +kernel)) ?_
  refine bs_c (pc := 96) (s_iconst hx hb (z := 2) (by decide +kernel) (by decide +kernel)) ?_
  refine bs_c (pc := 97) (s_iload hx hb (by decide +kernel)) ?_
  refine bs_c (pc := 99) (s_iadd hx hb (by decide +kernel)) ?_
  refine bs_c (pc := 100) (s_ald0 hx hb hKN.1 (by decide +kernel)) ?_
  refine bs_c (pc := 101) (s_call rfl rfl (rk_V hx hb hml (index := 189) (y := 6) (n := 2) hown hts wc_6 (k := 8) rfl rfl lm_8_189 wk_6 wv_6 wi_6 wp_6 (by decide +kernel) (by decide +kernel)) hKN hb0) ?_
  refine bs_c (pc := 104) (s_iadd hx hb (by decide +kernel)) ?_
  refine bs_c (pc := 105) (s_istore hx hb (by decide +kernel) (by decide +kernel)) ?_
  refine bs_c (pc := 107) (s_aload_n hx hb (k := 0) (by decide +kernel) rfl) ?_
  refine bs_c (pc := 108) (s_iload hx hb (by decide +kernel)) ?_
  refine bs_c (pc := 110) (s_aload_n hx hb (k := 0) (by decide +kernel) rfl) ?_
  refine bs_c (pc := 111) (s_getf hx hb hts in_8 hown hKN.1 (ci := 8) rfl (k := 7) (by decide) (hts _ lf_8_22) (by decide +kernel)) ?_
  refine bs_c (pc := 114) (s_iconst hx hb (z := 2) (by decide +kernel) (by decide +kernel)) ?_
  refine bs_c (pc := 115) (s_iload hx hb (by decide +kernel)) ?_
  refine bs_c (pc := 117) (s_iadd hx hb (by decide +kernel)) ?_
  refine bs_c (pc := 118) (s_ald0 hx hb hKN.1 (by decide +kernel)) ?_
  refine bs_c (pc := 119) (s_iconst hx hb (z := 1) (by decide +kernel) (by decide +kernel)) ?_
  refine bs_c (pc := 120) (s_isub hx hb (by decide +kernel)) ?_
  refine bs_c (pc := 121) (s_call rfl rfl (rk_V hx hb hml (index := 189) (y := 6) (n := 2) hown hts wc_6 (k := 8) rfl rfl lm_8_189 wk_6 wv_6 wi_6 wp_6 (by decide +kernel) (by decide +kernel)) hKN hb0) ?_
  refine bs_c (pc := 124) (s_aload_n hx hb (k := 0) (by decide +kernel) rfl) ?_
  refine bs_c (pc := 125) (s_iload hx hb (by decide +kernel)) ?_
  refine bs_c (pc := 127) (s_aload_n hx hb (k := 0) (by decide +kernel) rfl) ?_
  refine bs_c (pc := 128) (s_getf hx hb hts in_8 hown hKN.1 (ci := 8) rfl (k := 7) (by decide) (hts _ lf_8_22) (by decide +kernel)) ?_
  refine bs_c (pc := 131) (s_iconst hx hb (z := 2) (by decide +kernel) (by decide +kernel)) ?_
  refine bs_c (pc := 132) (s_iload hx hb (by decide +kernel)) ?_
  refine bs_c (pc := 134) (s_iadd hx hb (by decide +kernel)) ?_
  refine bs_c (pc := 135) (s_ald0 hx hb hKN.1 (by decide +kernel)) ?_
  refine bs_c (pc := 136) (s_iconst hx hb (z := 1) (by decide +kernel) (by decide +kernel)) ?_
  refine bs_c (pc := 137) (s_iadd hx hb (by decide +kernel)) ?_
  refine bs_c (pc := 138) (s_call rfl rfl (rk_V hx hb hml (index := 189) (y := 6) (n := 2) hown hts wc_6 (k := 8) rfl rfl lm_8_189 wk_6 wv_6 wi_6 wp_6 (by decide +kernel) (by decide +kernel)) hKN hb0) ?_
  refine bs_c (pc := 141) (s_iadd hx hb (by decide +kernel)) ?_
  refine bs_c (pc := 142) (s_istore hx hb (by decide +kernel) (by decide +kernel)) ?_
  refine bs_c (pc := 144) (s_iload hx hb (by decide +kernel)) ?_
  refine bs_c (pc := 146) (s_iload hx hb (by decide +kernel)) ?_
  refine bs_c (pc := 148) (s_icmp_le hx hb (by decide +kernel) hF) ?_
  refine bs_c (pc := 151) (s_iload hx hb (by decide +kernel)) ?_
  refine bs_c (pc := 153) (s_iload hx hb (by decide +kernel)) ?_
  refine bs_c (pc := 155) (s_isub hx hb (by decide +kernel)) ?_
  refine bs_c (pc := 156) (s_iload_n hx hb (k := 3) (by decide +kernel) rfl) ?_
  refine bs_c (pc := 157) (s_icmp_le hx hb (by decide +kernel) hF) ?_
  refine bs_c (pc := 160) (s_iconst hx hb (z := 1) (by decide +kernel) (by decide +kernel)) ?_
  refine bs_c (pc := 161) (s_goto hx hb (pc' := 0) (by decide +kernel)) ?_
  exact bs_n
set_option maxRecDepth 20000 in
theorem b_119_4 (C : CX p l s m args meth c d E F 119) : BB p l e s m args below meth c d E F K0 119 164 rc_119_4 := by
  obtain ⟨hx, hb, hml, hown, hts, hr, hlocks, hnm, hKN, hb0, hF⟩ := C
  have hb : c.code = prog_10_method_45_code := hb
  have hown : s.vm.findClass "RudeCouponsModel" = some m.cls := hown
  have hr : meth.sig.returnType = some .int := hr
  refine bs_c (pc := 164) (s_iconst hx hb (z := 0) (by decide +kernel) (by decide +kernel)) ?_
  refine bs_c (pc := 165) (s_fall (pc' := 0) (by decide +kernel)) ?_
  exact bs_n
set_option maxRecDepth 20000 in
theorem b_119_5 (C : CX p l s m args meth c d E F 119) : BB p l e s m args below meth c d E F K0 119 165 rc_119_5 := by
  obtain ⟨hx, hb, hml, hown, hts, hr, hlocks, hnm, hKN, hb0, hF⟩ := C
  have hb : c.code = prog_10_method_45_code := hb
  have hown : s.vm.findClass "RudeCouponsModel" = some m.cls := hown
  have hr : meth.sig.returnType = some .int := hr
  refine bs_c (pc := 165) (s_istore hx hb (by decide +kernel) (by decide +kernel)) ?_
  refine bs_c (pc := 167) (s_iload hx hb (by decide +kernel)) ?_
  refine bs_c (pc := 169) (s_if_eq hx hb (by decide +kernel) hF) ?_
  refine bs_c (pc := 172) (s_bipush hx hb (z := 8) (by decide +kernel) (by decide +kernel)) ?_
  refine bs_c (pc := 174) (s_iload hx hb (by decide +kernel)) ?_
  refine bs_c (pc := 176) (s_imul hx hb (by decide +kernel) hF) ?_
  refine bs_c (pc := 177) (s_iload hx hb (by decide +kernel)) ?_
  refine bs_c (pc := 179) (s_iadd hx hb (by decide +kernel)) ?_
  refine bs_c (pc := 180) (s_goto hx hb (pc' := 0) (by decide +kernel)) ?_
  exact bs_n
set_option maxRecDepth 20000 in
theorem b_119_6 (C : CX p l s m args meth c d E F 119) : BB p l e s m args below meth c d E F K0 119 183 rc_119_6 := by
  obtain ⟨hx, hb, hml, hown, hts, hr, hlocks, hnm, hKN, hb0, hF⟩ := C
  have hb : c.code = prog_10_method_45_code := hb
  have hown : s.vm.findClass "RudeCouponsModel" = some m.cls := hown
  have hr : meth.sig.returnType = some .int := hr
  refine bs_c (pc := 183) (s_iload_n hx hb (k := 2) (by decide +kernel) rfl) ?_
  refine bs_c (pc := 184) (s_fall (pc' := 0) (by decide +kernel)) ?_
  exact bs_n
set_option maxRecDepth 20000 in
theorem b_119_7 (C : CX p l s m args meth c d E F 119) : BB p l e s m args below meth c d E F K0 119 184 rc_119_7 := by
  obtain ⟨hx, hb, hml, hown, hts, hr, hlocks, hnm, hKN, hb0, hF⟩ := C
  have hb : c.code = prog_10_method_45_code := hb
  have hown : s.vm.findClass "RudeCouponsModel" = some m.cls := hown
  have hr : meth.sig.returnType = some .int := hr
  refine bs_c (pc := 184) (s_istore_n hx hb (k := 2) (by decide +kernel) rfl (by decide +kernel)) ?_
  refine bs_c (pc := 185) (s_iload hx hb (by decide +kernel)) ?_
  refine bs_c (pc := 187) (s_if_eq hx hb (by decide +kernel) hF) ?_
  refine bs_c (pc := 190) (s_iload hx hb (by decide +kernel)) ?_
  refine bs_c (pc := 192) (s_iload hx hb (by decide +kernel)) ?_
  refine bs_c (pc := 194) (s_isub hx hb (by decide +kernel)) ?_
  refine bs_c (pc := 195) (s_goto hx hb (pc' := 0) (by decide +kernel)) ?_
  exact bs_n
set_option maxRecDepth 20000 in
theorem b_119_8 (C : CX p l s m args meth c d E F 119) : BB p l e s m args below meth c d E F K0 119 198 rc_119_8 := by
  obtain ⟨hx, hb, hml, hown, hts, hr, hlocks, hnm, hKN, hb0, hF⟩ := C
  have hb : c.code = prog_10_method_45_code := hb
  have hown : s.vm.findClass "RudeCouponsModel" = some m.cls := hown
  have hr : meth.sig.returnType = some .int := hr
  refine bs_c (pc := 198) (s_iload_n hx hb (k := 3) (by decide +kernel) rfl) ?_
  refine bs_c (pc := 199) (s_fall (pc' := 0) (by decide +kernel)) ?_
  exact bs_n
set_option maxRecDepth 20000 in
theorem b_119_9 (C : CX p l s m args meth c d E F 119) : BB p l e s m args below meth c d E F K0 119 199 rc_119_9 := by
  obtain ⟨hx, hb, hml, hown, hts, hr, hlocks, hnm, hKN, hb0, hF⟩ := C
  have hb : c.code = prog_10_method_45_code := hb
  have hown : s.vm.findClass "RudeCouponsModel" = some m.cls := hown
  have hr : meth.sig.returnType = some .int := hr
  refine bs_c (pc := 199) (s_istore_n hx hb (k := 3) (by decide +kernel) rfl (by decide +kernel)) ?_
  refine bs_c (pc := 200) (s_fall (pc' := 0) (by decide +kernel)) ?_
  exact bs_n
set_option maxRecDepth 20000 in
theorem b_119_10 (C : CX p l s m args meth c d E F 119) : BB p l e s m args below meth c d E F K0 119 200 rc_119_10 := by
  obtain ⟨hx, hb, hml, hown, hts, hr, hlocks, hnm, hKN, hb0, hF⟩ := C
  have hb : c.code = prog_10_method_45_code := hb
  have hown : s.vm.findClass "RudeCouponsModel" = some m.cls := hown
  have hr : meth.sig.returnType = some .int := hr
  refine bs_c (pc := 200) (s_iinc hx hb (z := 1) (by decide +kernel) (by decide +kernel) (by decide +kernel)) ?_
  refine bs_c (pc := 203) (s_goto hx hb (pc' := 0) (by decide +kernel)) ?_
  exact bs_n
set_option maxRecDepth 20000 in
theorem b_119_11 (C : CX p l s m args meth c d E F 119) : BB p l e s m args below meth c d E F K0 119 206 rc_119_11 := by
  obtain ⟨hx, hb, hml, hown, hts, hr, hlocks, hnm, hKN, hb0, hF⟩ := C
  have hb : c.code = prog_10_method_45_code := hb
  have hown : s.vm.findClass "RudeCouponsModel" = some m.cls := hown
  have hr : meth.sig.returnType = some .int := hr
  refine bs_c (pc := 206) (s_iinc hx hb (z := 1) (by decide +kernel) (by decide +kernel) (by decide +kernel)) ?_
  refine bs_c (pc := 209) (s_goto hx hb (pc' := 0) (by decide +kernel)) ?_
  exact bs_n
set_option maxRecDepth 20000 in
theorem b_119_12 (C : CX p l s m args meth c d E F 119) : BB p l e s m args below meth c d E F K0 119 212 rc_119_12 := by
  obtain ⟨hx, hb, hml, hown, hts, hr, hlocks, hnm, hKN, hb0, hF⟩ := C
  have hb : c.code = prog_10_method_45_code := hb
  have hown : s.vm.findClass "RudeCouponsModel" = some m.cls := hown
  have hr : meth.sig.returnType = some .int := hr
  refine bs_c (pc := 212) (s_iload_n hx hb (k := 1) (by decide +kernel) rfl) ?_
  refine bs_c (pc := 213) (s_if_ne hx hb (by decide +kernel) hF) ?_
  refine bs_c (pc := 216) (s_iload_n hx hb (k := 2) (by decide +kernel) rfl) ?_
  refine bs_c (pc := 217) (s_goto hx hb (pc' := 0) (by decide +kernel)) ?_
  exact bs_n
set_option maxRecDepth 20000 in
theorem b_119_13 (C : CX p l s m args meth c d E F 119) : BB p l e s m args below meth c d E F K0 119 220 rc_119_13 := by
  obtain ⟨hx, hb, hml, hown, hts, hr, hlocks, hnm, hKN, hb0, hF⟩ := C
  have hb : c.code = prog_10_method_45_code := hb
  have hown : s.vm.findClass "RudeCouponsModel" = some m.cls := hown
  have hr : meth.sig.returnType = some .int := hr
  refine bs_c (pc := 220) (s_iload_n hx hb (k := 3) (by decide +kernel) rfl) ?_
  refine bs_c (pc := 221) (s_fall (pc' := 0) (by decide +kernel)) ?_
  exact bs_n
set_option maxRecDepth 20000 in
theorem b_119_14 (C : CX p l s m args meth c d E F 119) : BB p l e s m args below meth c d E F K0 119 221 rc_119_14 := by
  obtain ⟨hx, hb, hml, hown, hts, hr, hlocks, hnm, hKN, hb0, hF⟩ := C
  have hb : c.code = prog_10_method_45_code := hb
  have hown : s.vm.findClass "RudeCouponsModel" = some m.cls := hown
  have hr : meth.sig.returnType = some .int := hr
  refine bs_c (pc := 221) (s_ireturn hx hb hr hlocks (pc' := 0) (by decide +kernel)) ?_
  exact bs_n
set_option maxRecDepth 20000 in
theorem b_120_0 (C : CX p l s m args meth c d E F 120) : BB p l e s m args below meth c d E F K0 120 0 rc_120_0 := by
  obtain ⟨hx, hb, hml, hown, hts, hr, hlocks, hnm, hKN, hb0, hF⟩ := C
  have hb : c.code = prog_10_method_47_code := hb
  have hown : s.vm.findClass "RudeCouponsModel" = some m.cls := hown
  have hr : meth.sig.returnType = some .int := hr
  refine bs_c (pc := 0) (s_iload_n hx hb (k := 1) (by decide +kernel) rfl) ?_
  refine bs_c (pc := 1) (s_iconst hx hb (z := -1) (by decide +kernel) (by decide +kernel)) ?_
  refine bs_c (pc := 2) (s_aload_n hx hb (k := 0) (by decide +kernel) rfl) ?_
  refine bs_c (pc := 3) (s_getf hx hb hts in_8 hown hKN.1 (ci := 8) rfl (k := 0) (by decide) (hts _ lf_8_84) (by decide +kernel)) ?_
  refine bs_c (pc := 6) (s_iconst hx hb (z := 1) (by decide +kernel) (by decide +kernel)) ?_
  refine bs_c (pc := 7) (s_isub hx hb (by decide +kernel)) ?_
  refine bs_c (pc := 8) (s_call rfl rfl (rk_S hx hb hml (index := 87) (y := 7) (n := 3) hown hts wc_7 lm_8_87 wk_7 wi_7 wp_7 (by decide +kernel) (by decide +kernel)) hKN hb0) ?_
  refine bs_c (pc := 11) (s_if_ne hx hb (by decide +kernel) hF) ?_
  refine bs_c (pc := 14) (s_iconst hx hb (z := -1) (by decide +kernel) (by decide +kernel)) ?_
  refine bs_c (pc := 15) (s_ireturn hx hb hr hlocks (pc' := 0) (by decide +kernel)) ?_
  exact bs_n
set_option maxRecDepth 20000 in
theorem b_120_1 (C : CX p l s m args meth c d E F 120) : BB p l e s m args below meth c d E F K0 120 16 rc_120_1 := by
  obtain ⟨hx, hb, hml, hown, hts, hr, hlocks, hnm, hKN, hb0, hF⟩ := C
  have hb : c.code = prog_10_method_47_code := hb
  have hown : s.vm.findClass "RudeCouponsModel" = some m.cls := hown
  have hr : meth.sig.returnType = some .int := hr
  refine bs_c (pc := 16) (s_aload_n hx hb (k := 0) (by decide +kernel) rfl) ?_
  refine bs_c (pc := 17) (s_call rfl rfl (rk_V hx hb hml (index := 192) (y := 121) (n := 0) hown hts wc_121 (k := 8) rfl rfl lm_8_192 wk_121 wv_121 wi_121 wp_121 (by decide +kernel) (by decide +kernel)) hKN hb0) ?_
  refine bs_c (pc := 20) (s_aload_n hx hb (k := 0) (by decide +kernel) rfl) ?_
  refine bs_c (pc := 21) (s_call rfl rfl (rk_V hx hb hml (index := 180) (y := 115) (n := 0) hown hts wc_115 (k := 8) rfl rfl lm_8_180 wk_115 wv_115 wi_115 wp_115 (by decide +kernel) (by decide +kernel)) hKN hb0) ?_
  refine bs_c (pc := 24) (s_istore_n hx hb (k := 2) (by decide +kernel) rfl (by decide +kernel)) ?_
  refine bs_c (pc := 25) (s_iload_n hx hb (k := 1) (by decide +kernel) rfl) ?_
  refine bs_c (pc := 26) (s_if_ge hx hb (by decide +kernel) hF) ?_
  refine bs_c (pc := 29) (s_aload_n hx hb (k := 0) (by decide +kernel) rfl) ?_
  refine bs_c (pc := 30) (s_getf hx hb hts in_8 hown hKN.1 (ci := 8) rfl (k := 26) (by decide) (hts _ lf_8_52) (by decide +kernel)) ?_
  refine bs_c (pc := 33) (s_iload_n hx hb (k := 2) (by decide +kernel) rfl) ?_
  refine bs_c (pc := 34) (s_ald0 hx hb hKN.1 (by decide +kernel)) ?_
  refine bs_c (pc := 35) (s_ireturn hx hb hr hlocks (pc' := 0) (by decide +kernel)) ?_
  exact bs_n
set_option maxRecDepth 20000 in
theorem b_120_2 (C : CX p l s m args meth c d E F 120) : BB p l e s m args below meth c d E F K0 120 36 rc_120_2 := by
  obtain ⟨hx, hb, hml, hown, hts, hr, hlocks, hnm, hKN, hb0, hF⟩ := C
  have hb : c.code = prog_10_method_47_code := hb
  have hown : s.vm.findClass "RudeCouponsModel" = some m.cls := hown
  have hr : meth.sig.returnType = some .int := hr
  refine bs_c (pc := 36) (s_iconst hx hb (z := 0) (by decide +kernel) (by decide +kernel)) ?_
  refine bs_c (pc := 37) (s_istore_n hx hb (k := 3) (by decide +kernel) rfl (by decide +kernel)) ?_
  refine bs_c (pc := 38) (s_iconst hx hb (z := 0) (by decide +kernel) (by decide +kernel)) ?_
  refine bs_c (pc := 39) (s_istore hx hb (by decide +kernel) (by decide +kernel)) ?_
  refine bs_c (pc := 41) (s_fall (pc' := 0) (by decide +kernel)) ?_
  exact bs_n
set_option maxRecDepth 20000 in
theorem b_120_3 (C : CX p l s m args meth c d E F 120) : BB p l e s m args below meth c d E F K0 120 41 rc_120_3 := by
  obtain ⟨hx, hb, hml, hown, hts, hr, hlocks, hnm, hKN, hb0, hF⟩ := C
  have hb : c.code = prog_10_method_47_code := hb
  have hown : s.vm.findClass "RudeCouponsModel" = some m.cls := hown
  have hr : meth.sig.returnType = some .int := hr
  refine bs_c (pc := 41) (s_iload hx hb (by decide +kernel)) ?_
  refine bs_c (pc := 43) (s_iload_n hx hb (k := 1) (by decide +kernel) rfl) ?_
  refine bs_c (pc := 44) (s_icmp_gt hx hb (by decide +kernel) hF) ?_
  refine bs_c (pc := 47) (s_iload_n hx hb (k := 2) (by decide +kernel) rfl) ?_
  refine bs_c (pc := 48) (s_bipush hx hb (z := 15) (by decide +kernel) (by decide +kernel)) ?_
  refine bs_c (pc := 50) (s_icmp_ge hx hb (by decide +kernel) hF) ?_
  refine bs_c (pc := 53) (s_iload_n hx hb (k := 2) (by decide +kernel) rfl) ?_
  refine bs_c (pc := 54) (s_goto hx hb (pc' := 0) (by decide +kernel)) ?_
  exact bs_n
set_option maxRecDepth 20000 in
theorem b_120_4 (C : CX p l s m args meth c d E F 120) : BB p l e s m args below meth c d E F K0 120 57 rc_120_4 := by
  obtain ⟨hx, hb, hml, hown, hts, hr, hlocks, hnm, hKN, hb0, hF⟩ := C
  have hb : c.code = prog_10_method_47_code := hb
  have hown : s.vm.findClass "RudeCouponsModel" = some m.cls := hown
  have hr : meth.sig.returnType = some .int := hr
  refine bs_c (pc := 57) (s_bipush hx hb (z := 15) (by decide +kernel) (by decide +kernel)) ?_
  refine bs_c (pc := 59) (s_fall (pc' := 0) (by decide +kernel)) ?_
  exact bs_n
set_option maxRecDepth 20000 in
theorem b_120_5 (C : CX p l s m args meth c d E F 120) : BB p l e s m args below meth c d E F K0 120 59 rc_120_5 := by
  obtain ⟨hx, hb, hml, hown, hts, hr, hlocks, hnm, hKN, hb0, hF⟩ := C
  have hb : c.code = prog_10_method_47_code := hb
  have hown : s.vm.findClass "RudeCouponsModel" = some m.cls := hown
  have hr : meth.sig.returnType = some .int := hr
  refine bs_c (pc := 59) (s_istore_n hx hb (k := 3) (by decide +kernel) rfl (by decide +kernel)) ?_
  refine bs_c (pc := 60) (s_fall (pc' := 0) (by decide +kernel)) ?_
  exact bs_n
set_option maxRecDepth 20000 in
theorem b_120_6 (C : CX p l s m args meth c d E F 120) : BB p l e s m args below meth c d E F K0 120 60 rc_120_6 := by
  obtain ⟨hx, hb, hml, hown, hts, hr, hlocks, hnm, hKN, hb0, hF⟩ := C
  have hb : c.code = prog_10_method_47_code := hb
  have hown : s.vm.findClass "RudeCouponsModel" = some m.cls := hown
  have hr : meth.sig.returnType = some .int := hr
  refine bs_c (pc := 60) (s_aload_n hx hb (k := 0) (by decide +kernel) rfl) ?_
  refine bs_c (pc := 61) (s_getf hx hb hts in_8 hown hKN.1 (ci := 8) rfl (k := 26) (by decide) (hts _ lf_8_52) (by decide +kernel)) ?_
  refine bs_c (pc := 64) (s_bipush hx hb (z := 91) (by decide +kernel) (by decide +kernel)) ?_
  refine bs_c (pc := 66) (s_iload hx hb (by decide +kernel)) ?_
  refine bs_c (pc := 68) (s_iconst hx hb (z := 1) (by decide +kernel) (by decide +kernel)) ?_
  refine bs_c (pc := 69) (s_iadd hx hb (by decide +kernel)) ?_
  refine bs_c (pc := 70) (s_imul hx hb (by decide +kernel) hF) ?_
  refine bs_c (pc := 71) (s_iload_n hx hb (k := 2) (by decide +kernel) rfl) ?_
  refine bs_c (pc := 72) (s_iadd hx hb (by decide +kernel)) ?_
  refine bs_c (pc := 73) (s_iload_n hx hb (k := 3) (by decide +kernel) rfl) ?_
  refine bs_c (pc := 74) (s_isub hx hb (by decide +kernel)) ?_
  refine bs_c (pc := 75) (s_ald0 hx hb hKN.1 (by decide +kernel)) ?_
  refine bs_c (pc := 76) (s_if_lt hx hb (by decide +kernel) hF) ?_
  refine bs_c (pc := 79) (s_aload_n hx hb (k := 0) (by decide +kernel) rfl) ?_
  refine bs_c (pc := 80) (s_getf hx hb hts in_8 hown hKN.1 (ci := 8) rfl (k := 25) (by decide) (hts _ lf_8_49) (by decide +kernel)) ?_
  refine bs_c (pc := 83) (s_bipush hx hb (z := 16) (by decide +kernel) (by decide +kernel)) ?_
  refine bs_c (pc := 85) (s_iload hx hb (by decide +kernel)) ?_
  refine bs_c (pc := 87) (s_imul hx hb (by decide +kernel) hF) ?_
  refine bs_c (pc := 88) (s_iload_n hx hb (k := 3) (by decide +kernel) rfl) ?_
  refine bs_c (pc := 89) (s_iadd hx hb (by decide +kernel)) ?_
  refine bs_c (pc := 90) (s_ald0 hx hb hKN.1 (by decide +kernel)) ?_
  refine bs_c (pc := 91) (s_aload_n hx hb (k := 0) (by decide +kernel) rfl) ?_
  refine bs_c (pc := 92) (s_getf hx hb hts in_8 hown hKN.1 (ci := 8) rfl (k := 26) (by decide) (hts _ lf_8_52) (by decide +kernel)) ?_
  refine bs_c (pc := 95) (s_bipush hx hb (z := 91) (by decide +kernel) (by decide +kernel)) ?_
  refine bs_c (pc := 97) (s_iload hx hb (by decide +kernel)) ?_
  refine bs_c (pc := 99) (s_iconst hx hb (z := 1) (by decide +kernel) (by decide +kernel)) ?_
  refine bs_c (pc := 100) (s_iadd hx hb (by decide +kernel)) ?_
  refine bs_c (pc := 101) (s_imul hx hb (by decide +kernel) hF) ?_
  refine bs_c (pc := 102) (s_iload_n hx hb (k := 2) (by decide +kernel) rfl) ?_
  refine bs_c (pc := 103) (s_iadd hx hb (by decide +kernel)) ?_
  refine bs_c (pc := 104) (s_iload_n hx hb (k := 3) (by decide +kernel) rfl) ?_
  refine bs_c (pc := 105) (s_isub hx hb (by decide +kernel)) ?_
  refine bs_c (pc := 106) (s_ald0 hx hb hKN.1 (by decide +kernel)) ?_
  refine bs_c (pc := 107) (s_iadd hx hb (by decide +kernel)) ?_
  refine bs_c (pc := 108) (s_aload_n hx hb (k := 0) (by decide +kernel) rfl) ?_
  refine bs_c (pc := 109) (s_getf hx hb hts in_8 hown hKN.1 (ci := 8) rfl (k := 26) (by decide) (hts _ lf_8_52) (by decide +kernel)) ?_
  refine bs_c (pc := 112) (s_bipush hx hb (z := 91) (by decide +kernel) (by decide +kernel)) ?_
  refine bs_c (pc := 114) (s_iload hx hb (by decide +kernel)) ?_
  refine bs_c (pc := 116) (s_imul hx hb (by decide +kernel) hF) ?_
  refine bs_c (pc := 117) (s_iload_n hx hb (k := 2) (by decide +kernel) rfl) ?_
  refine bs_c (pc := 118) (s_iadd hx hb (by decide +kernel)) ?_
  refine bs_c (pc := 119) (s_ald0 hx hb hKN.1 (by decide +kernel)) ?_
  refine bs_c (pc := 120) (s_icmp_eq hx hb (by decide +kernel) hF) ?_
  refine bs_c (pc := 123) (s_fall (pc' := 0) (by decide +kernel)) ?_
  exact bs_n
set_option maxRecDepth 20000 in
theorem b_120_7 (C : CX p l s m args meth c d E F 120) : BB p l e s m args below meth c d E F K0 120 123 rc_120_7 := by
  obtain ⟨hx, hb, hml, hown, hts, hr, hlocks, hnm, hKN, hb0, hF⟩ := C
  have hb : c.code = prog_10_method_47_code := hb
  have hown : s.vm.findClass "RudeCouponsModel" = some m.cls := hown
  have hr : meth.sig.returnType = some .int := hr
  refine bs_c (pc := 123) (s_iinc hx hb (z := -1) (by decide +kernel) (by decide +kernel) (by decide +kernel)) ?_
  refine bs_c (pc := 126) (s_goto hx hb (pc' := 0) (by decide +kernel)) ?_
  exact bs_n
set_option maxRecDepth 20000 in
theorem b_120_8 (C : CX p l s m args meth c d E F 120) : BB p l e s m args below meth c d E F K0 120 129 rc_120_8 := by
  obtain ⟨hx, hb, hml, hown, hts, hr, hlocks, hnm, hKN, hb0, hF⟩ := C
  have hb : c.code = prog_10_method_47_code := hb
  have hown : s.vm.findClass "RudeCouponsModel" = some m.cls := hown
  have hr : meth.sig.returnType = some .int := hr
  refine bs_c (pc := 129) (s_iload_n hx hb (k := 2) (by decide +kernel) rfl) ?_
  refine bs_c (pc := 130) (s_iload_n hx hb (k := 3) (by decide +kernel) rfl) ?_
  refine bs_c (pc := 131) (s_isub hx hb (by decide +kernel)) ?_
  refine bs_c (pc := 132) (s_istore_n hx hb (k := 2) (by decide +kernel) rfl (by decide +kernel)) ?_
  refine bs_c (pc := 133) (s_iinc hx hb (z := 1) (by decide +kernel) (by decide +kernel) (by decide +kernel)) ?_
  refine bs_c (pc := 136) (s_goto hx hb (pc' := 0) (by decide +kernel)) ?_
  exact bs_n
set_option maxRecDepth 20000 in
theorem b_120_9 (C : CX p l s m args meth c d E F 120) : BB p l e s m args below meth c d E F K0 120 139 rc_120_9 := by
  obtain ⟨hx, hb, hml, hown, hts, hr, hlocks, hnm, hKN, hb0, hF⟩ := C
  have hb : c.code = prog_10_method_47_code := hb
  have hown : s.vm.findClass "RudeCouponsModel" = some m.cls := hown
  have hr : meth.sig.returnType = some .int := hr
  refine bs_c (pc := 139) (s_iload_n hx hb (k := 3) (by decide +kernel) rfl) ?_
  refine bs_c (pc := 140) (s_ireturn hx hb hr hlocks (pc' := 0) (by decide +kernel)) ?_
  exact bs_n
set_option maxRecDepth 20000 in
theorem b_121_0 (C : CX p l s m args meth c d E F 121) : BB p l e s m args below meth c d E F K0 121 0 rc_121_0 := by
  obtain ⟨hx, hb, hml, hown, hts, hr, hlocks, hnm, hKN, hb0, hF⟩ := C
  have hb : c.code = prog_10_method_46_code := hb
  have hown : s.vm.findClass "RudeCouponsModel" = some m.cls := hown
  have hr : meth.sig.returnType = none := hr
  refine bs_c (pc := 0) (s_iconst hx hb (z := 0) (by decide +kernel) (by decide +kernel)) ?_
  refine bs_c (pc := 1) (s_istore_n hx hb (k := 1) (by decide +kernel) rfl (by decide +kernel)) ?_
  refine bs_c (pc := 2) (s_fall (pc' := 0) (by decide +kernel)) ?_
  exact bs_n
set_option maxRecDepth 20000 in
theorem b_121_1 (C : CX p l s m args meth c d E F 121) : BB p l e s m args below meth c d E F K0 121 2 rc_121_1 := by
  obtain ⟨hx, hb, hml, hown, hts, hr, hlocks, hnm, hKN, hb0, hF⟩ := C
  have hb : c.code = prog_10_method_46_code := hb
  have hown : s.vm.findClass "RudeCouponsModel" = some m.cls := hown
  have hr : meth.sig.returnType = none := hr
  refine bs_c (pc := 2) (s_iload_n hx hb (k := 1) (by decide +kernel) rfl) ?_
  refine bs_c (pc := 3) (s_aload_n hx hb (k := 0) (by decide +kernel) rfl) ?_
  refine bs_c (pc := 4) (s_getf hx hb hts in_8 hown hKN.1 (ci := 8) rfl (k := 0) (by decide) (hts _ lf_8_84) (by decide +kernel)) ?_
  refine bs_c (pc := 7) (s_icmp_ge hx hb (by decide +kernel) hF) ?_
  refine bs_c (pc := 10) (s_iconst hx hb (z := 0) (by decide +kernel) (by decide +kernel)) ?_
  refine bs_c (pc := 11) (s_istore_n hx hb (k := 2) (by decide +kernel) rfl (by decide +kernel)) ?_
  refine bs_c (pc := 12) (s_fall (pc' := 0) (by decide +kernel)) ?_
  exact bs_n
set_option maxRecDepth 20000 in
theorem b_121_2 (C : CX p l s m args meth c d E F 121) : BB p l e s m args below meth c d E F K0 121 12 rc_121_2 := by
  obtain ⟨hx, hb, hml, hown, hts, hr, hlocks, hnm, hKN, hb0, hF⟩ := C
  have hb : c.code = prog_10_method_46_code := hb
  have hown : s.vm.findClass "RudeCouponsModel" = some m.cls := hown
  have hr : meth.sig.returnType = none := hr
  refine bs_c (pc := 12) (s_iload_n hx hb (k := 2) (by decide +kernel) rfl) ?_
  refine bs_c (pc := 13) (s_bipush hx hb (z := 15) (by decide +kernel) (by decide +kernel)) ?_
  refine bs_c (pc := 15) (s_icmp_gt hx hb (by decide +kernel) hF) ?_
  refine bs_c (pc := 18) (s_aload_n hx hb (k := 0) (by decide +kernel) rfl) ?_
  refine bs_c (pc := 19) (s_getf hx hb hts in_8 hown hKN.1 (ci := 8) rfl (k := 25) (by decide) (hts _ lf_8_49) (by decide +kernel)) ?_
  refine bs_c (pc := 22) (s_bipush hx hb (z := 16) (by decide +kernel) (by decide +kernel)) ?_
  refine bs_c (pc := 24) (s_iload_n hx hb (k := 1) (by decide +kernel) rfl) ?_
  refine bs_c (pc := 25) (s_imul hx hb (by decide +kernel) hF) ?_
  refine bs_c (pc := 26) (s_iload_n hx hb (k := 2) (by decide +kernel) rfl) ?_
  refine bs_c (pc := 27) (s_iadd hx hb (by decide +kernel)) ?_
  refine bs_c (pc := 28) (s_aload_n hx hb (k := 0) (by decide +kernel) rfl) ?_
  refine bs_c (pc := 29) (s_iload_n hx hb (k := 1) (by decide +kernel) rfl) ?_
  refine bs_c (pc := 30) (s_iload_n hx hb (k := 2) (by decide +kernel) rfl) ?_
  refine bs_c (pc := 31) (s_call rfl rfl (rk_V hx hb hml (index := 189) (y := 6) (n := 2) hown hts wc_6 (k := 8) rfl rfl lm_8_189 wk_6 wv_6 wi_6 wp_6 (by decide +kernel) (by decide +kernel)) hKN hb0) ?_
  refine bs_c (pc := 34) (s_ast0 hx hb hKN.1 (by decide +kernel)) ?_
  refine bs_c (pc := 35) (s_iinc hx hb (z := 1) (by decide +kernel) (by decide +kernel) (by decide +kernel)) ?_
  refine bs_c (pc := 38) (s_goto hx hb (pc' := 0) (by decide +kernel)) ?_
  exact bs_n
set_option maxRecDepth 20000 in
theorem b_121_3 (C : CX p l s m args meth c d E F 121) : BB p l e s m args below meth c d E F K0 121 41 rc_121_3 := by
  obtain ⟨hx, hb, hml, hown, hts, hr, hlocks, hnm, hKN, hb0, hF⟩ := C
  have hb : c.code = prog_10_method_46_code := hb
  have hown : s.vm.findClass "RudeCouponsModel" = some m.cls := hown
  have hr : meth.sig.returnType = none := hr
  refine bs_c (pc := 41) (s_iinc hx hb (z := 1) (by decide +kernel) (by decide +kernel) (by decide +kernel)) ?_
  refine bs_c (pc := 44) (s_goto hx hb (pc' := 0) (by decide +kernel)) ?_
  exact bs_n
set_option maxRecDepth 20000 in
theorem b_121_4 (C : CX p l s m args meth c d E F 121) : BB p l e s m args below meth c d E F K0 121 47 rc_121_4 := by
  obtain ⟨hx, hb, hml, hown, hts, hr, hlocks, hnm, hKN, hb0, hF⟩ := C
  have hb : c.code = prog_10_method_46_code := hb
  have hown : s.vm.findClass "RudeCouponsModel" = some m.cls := hown
  have hr : meth.sig.returnType = none := hr
  refine bs_c (pc := 47) (s_aload_n hx hb (k := 0) (by decide +kernel) rfl) ?_
  refine bs_c (pc := 48) (s_getf hx hb hts in_8 hown hKN.1 (ci := 8) rfl (k := 0) (by decide) (hts _ lf_8_84) (by decide +kernel)) ?_
  refine bs_c (pc := 51) (s_istore_n hx hb (k := 1) (by decide +kernel) rfl (by decide +kernel)) ?_
  refine bs_c (pc := 52) (s_fall (pc' := 0) (by decide +kernel)) ?_
  exact bs_n
set_option maxRecDepth 20000 in
theorem b_121_5 (C : CX p l s m args meth c d E F 121) : BB p l e s m args below meth c d E F K0 121 52 rc_121_5 := by
  obtain ⟨hx, hb, hml, hown, hts, hr, hlocks, hnm, hKN, hb0, hF⟩ := C
  have hb : c.code = prog_10_method_46_code := hb
  have hown : s.vm.findClass "RudeCouponsModel" = some m.cls := hown
  have hr : meth.sig.returnType = none := hr
  refine bs_c (pc := 52) (s_iload_n hx hb (k := 1) (by decide +kernel) rfl) ?_
  refine bs_c (pc := 53) (s_if_lt hx hb (by decide +kernel) hF) ?_
  refine bs_c (pc := 56) (s_iconst hx hb (z := 0) (by decide +kernel) (by decide +kernel)) ?_
  refine bs_c (pc := 57) (s_istore_n hx hb (k := 2) (by decide +kernel) rfl (by decide +kernel)) ?_
  refine bs_c (pc := 58) (s_fall (pc' := 0) (by decide +kernel)) ?_
  exact bs_n
set_option maxRecDepth 20000 in
theorem b_121_6 (C : CX p l s m args meth c d E F 121) : BB p l e s m args below meth c d E F K0 121 58 rc_121_6 := by
  obtain ⟨hx, hb, hml, hown, hts, hr, hlocks, hnm, hKN, hb0, hF⟩ := C
  have hb : c.code = prog_10_method_46_code := hb
  have hown : s.vm.findClass "RudeCouponsModel" = some m.cls := hown
  have hr : meth.sig.returnType = none := hr
  refine bs_c (pc := 58) (s_iload_n hx hb (k := 2) (by decide +kernel) rfl) ?_
  refine bs_c (pc := 59) (s_bipush hx hb (z := 90) (by decide +kernel) (by decide +kernel)) ?_
  refine bs_c (pc := 61) (s_icmp_gt hx hb (by decide +kernel) hF) ?_
  refine bs_c (pc := 64) (s_iload_n hx hb (k := 1) (by decide +kernel) rfl) ?_
  refine bs_c (pc := 65) (s_aload_n hx hb (k := 0) (by decide +kernel) rfl) ?_
  refine bs_c (pc := 66) (s_getf hx hb hts in_8 hown hKN.1 (ci := 8) rfl (k := 0) (by decide) (hts _ lf_8_84) (by decide +kernel)) ?_
  refine bs_c (pc := 69) (s_icmp_ne hx hb (by decide +kernel) hF) ?_
  refine bs_c (pc := 72) (s_iload_n hx hb (k := 2) (by decide +kernel) rfl) ?_
  refine bs_c (pc := 73) (s_if_ne hx hb (by decide +kernel) hF) ?_
  refine bs_c (pc := 76) (s_iconst hx hb (z := 0) (by decide +kernel) (by decide +kernel)) ?_
  refine bs_c (pc := 77) (s_goto hx hb (pc' := 0) (by decide +kernel)) ?_
  exact bs_n
set_option maxRecDepth 20000 in
theorem b_121_7 (C : CX p l s m args meth c d E F 121) : BB p l e s m args below meth c d E F K0 121 80 rc_121_7 := by
  obtain ⟨hx, hb, hml, hown, hts, hr, hlocks, hnm, hKN, hb0, hF⟩ := C
  have hb : c.code = prog_10_method_46_code := hb
  have hown : s.vm.findClass "RudeCouponsModel" = some m.cls := hown
  have hr : meth.sig.returnType = none := hr
  refine bs_c (pc := 80) (s_iconst hx hb (z := -1) (by decide +kernel) (by decide +kernel)) ?_
  refine bs_c (pc := 81) (s_fall (pc' := 0) (by decide +kernel)) ?_
  exact bs_n
set_option maxRecDepth 20000 in
theorem b_121_8 (C : CX p l s m args meth c d E F 121) : BB p l e s m args below meth c d E F K0 121 81 rc_121_8 := by
  obtain ⟨hx, hb, hml, hown, hts, hr, hlocks, hnm, hKN, hb0, hF⟩ := C
  have hb : c.code = prog_10_method_46_code := hb
  have hown : s.vm.findClass "RudeCouponsModel" = some m.cls := hown
  have hr : meth.sig.returnType = none := hr
  refine bs_c (pc := 81) (s_istore_n hx hb (k := 3) (by decide +kernel) rfl (by decide +kernel)) ?_
  refine bs_c (pc := 82) (s_iconst hx hb (z := 0) (by decide +kernel) (by decide +kernel)) ?_
  refine bs_c (pc := 83) (s_istore hx hb (by decide +kernel) (by decide +kernel)) ?_
  refine bs_c (pc := 85) (s_fall (pc' := 0) (by decide +kernel)) ?_
  exact bs_n
set_option maxRecDepth 20000 in
theorem b_121_9 (C : CX p l s m args meth c d E F 121) : BB p l e s m args below meth c d E F K0 121 85 rc_121_9 := by
  obtain ⟨hx, hb, hml, hown, hts, hr, hlocks, hnm, hKN, hb0, hF⟩ := C
  have hb : c.code = prog_10_method_46_code := hb
  have hown : s.vm.findClass "RudeCouponsModel" = some m.cls := hown
  have hr : meth.sig.returnType = none := hr
  refine bs_c (pc := 85) (s_iload hx hb (by decide +kernel)) ?_
  refine bs_c (pc := 87) (s_bipush hx hb (z := 15) (by decide +kernel) (by decide +kernel)) ?_
  refine bs_c (pc := 89) (s_icmp_gt hx hb (by decide +kernel) hF) ?_
  refine bs_c (pc := 92) (s_iload hx hb (by decide +kernel)) ?_
  refine bs_c (pc := 94) (s_iload_n hx hb (k := 2) (by decide +kernel) rfl) ?_
  refine bs_c (pc := 95) (s_icmp_gt hx hb (by decide +kernel) hF) ?_
  refine bs_c (pc := 98) (s_iload_n hx hb (k := 1) (by decide +kernel) rfl) ?_
  refine bs_c (pc := 99) (s_aload_n hx hb (k := 0) (by decide +kernel) rfl) ?_
  refine bs_c (pc := 100) (s_getf hx hb hts in_8 hown hKN.1 (ci := 8) rfl (k := 0) (by decide) (hts _ lf_8_84) (by decide +kernel)) ?_
  refine bs_c (pc := 103) (s_icmp_ge hx hb (by decide +kernel) hF) ?_
  refine bs_c (pc := 106) (s_aload_n hx hb (k := 0) (by decide +kernel) rfl) ?_
  refine bs_c (pc := 107) (s_getf hx hb hts in_8 hown hKN.1 (ci := 8) rfl (k := 26) (by decide) (hts _ lf_8_52) (by decide +kernel)) ?_
  refine bs_c (pc := 110) (s_bipush hx hb (z := 91) (by decide +kernel) (by decide +kernel)) ?_
  refine bs_c (pc := 112) (s_iload_n hx hb (k := 1) (by decide +kernel) rfl) ?_
  refine bs_c (pc := 113) (s_iconst hx hb (z := 1) (by decide +kernel) (by decide +kernel)) ?_
  refine bs_c (pc := 114) (s_iadd hx hb (by decide +kernel)) ?_
  refine bs_c (pc := 115) (s_imul hx hb (by decide +kernel) hF) ?_
  refine bs_c (pc := 116) (s_iload_n hx hb (k := 2) (by decide +kernel) rfl) ?_
  refine bs_c (pc := 117) (s_iadd hx hb (by decide +kernel)) ?_
  refine bs_c (pc := 118) (s_iload hx hb (by decide +kernel)) ?_
  refine bs_c (pc := 120) (s_isub hx hb (by decide +kernel)) ?_
  refine bs_c (pc := 121) (s_ald0 hx hb hKN.1 (by decide +kernel)) ?_
  refine bs_c (pc := 122) (s_istore hx hb (by decide +kernel) (by decide +kernel)) ?_
  refine bs_c (pc := 124) (s_iload hx hb (by decide +kernel)) ?_
  refine bs_c (pc := 126) (s_if_lt hx hb (by decide +kernel) hF) ?_
  refine bs_c (pc := 129) (s_aload_n hx hb (k := 0) (by decide +kernel) rfl) ?_
  refine bs_c (pc := 130) (s_getf hx hb hts in_8 hown hKN.1 (ci := 8) rfl (k := 25) (by decide) (hts _ lf_8_49) (by decide +kernel)) ?_
  refine bs_c (pc := 133) (s_bipush hx hb (z := 16) (by decide +kernel) (by decide +kernel)) ?_
  refine bs_c (pc := 135) (s_iload_n hx hb (k := 1) (by decide +kernel) rfl) ?_
  refine bs_c (pc := 136) (s_imul hx hb (by decide +kernel) hF) ?_
  refine bs_c (pc := 137) (s_iload hx hb (by decide +kernel)) ?_
  refine bs_c (pc := 139) (s_iadd hx hb (by decide +kernel)) ?_
  refine bs_c (pc := 140) (s_ald0 hx hb hKN.1 (by decide +kernel)) ?_
  refine bs_c (pc := 141) (s_iload hx hb (by decide +kernel)) ?_
  refine bs_c (pc := 143) (s_iadd hx hb (by decide +kernel)) ?_
  refine bs_c (pc := 144) (s_iload_n hx hb (k := 3) (by decide +kernel) rfl) ?_
  refine bs_c (pc := 145) (s_icmp_le hx hb (by decide +kernel) hF) ?_
  refine bs_c (pc := 148) (s_aload_n hx hb (k := 0) (by decide +kernel) rfl) ?_
  refine bs_c (pc := 149) (s_getf hx hb hts in_8 hown hKN.1 (ci := 8) rfl (k := 25) (by decide) (hts _ lf_8_49) (by decide +kernel)) ?_
  refine bs_c (pc := 152) (s_bipush hx hb (z := 16) (by decide +kernel) (by decide +kernel)) ?_
  refine bs_c (pc := 154) (s_iload_n hx hb (k := 1) (by decide +kernel) rfl) ?_
  refine bs_c (pc := 155) (s_imul hx hb (by decide +kernel) hF) ?_
  refine bs_c (pc := 156) (s_iload hx hb (by decide +kernel)) ?_
  refine bs_c (pc := 158) (s_iadd hx hb (by decide +kernel)) ?_
  refine bs_c (pc := 159) (s_ald0 hx hb hKN.1 (by decide +kernel)) ?_
  refine bs_c (pc := 160) (s_iload hx hb (by decide +kernel)) ?_
  refine bs_c (pc := 162) (s_iadd hx hb (by decide +kernel)) ?_
  refine bs_c (pc := 163) (s_goto hx hb (pc' := 0) (by decide +kernel)) ?_
  exact bs_n
set_option maxRecDepth 20000 in
theorem b_121_10 (C : CX p l s m args meth c d E F 121) : BB p l e s m args below meth c d E F K0 121 166 rc_121_10 := by
  obtain ⟨hx, hb, hml, hown, hts, hr, hlocks, hnm, hKN, hb0, hF⟩ := C
  have hb : c.code = prog_10_method_46_code := hb
  have hown : s.vm.findClass "RudeCouponsModel" = some m.cls := hown
  have hr : meth.sig.returnType = none := hr
  refine bs_c (pc := 166) (s_iload_n hx hb (k := 3) (by decide +kernel) rfl) ?_
  refine bs_c (pc := 167) (s_fall (pc' := 0) (by decide +kernel)) ?_
  exact bs_n
set_option maxRecDepth 20000 in
theorem b_121_11 (C : CX p l s m args meth c d E F 121) : BB p l e s m args below meth c d E F K0 121 167 rc_121_11 := by
  obtain ⟨hx, hb, hml, hown, hts, hr, hlocks, hnm, hKN, hb0, hF⟩ := C
  have hb : c.code = prog_10_method_46_code := hb
  have hown : s.vm.findClass "RudeCouponsModel" = some m.cls := hown
  have hr : meth.sig.returnType = none := hr
  refine bs_c (pc := 167) (s_istore_n hx hb (k := 3) (by decide +kernel) rfl (by decide +kernel)) ?_
  refine bs_c (pc := 168) (s_iinc hx hb (z := 1) (by decide +kernel) (by decide +kernel) (by decide +kernel)) ?_
  refine bs_c (pc := 171) (s_goto hx hb (pc' := 0) (by decide +kernel)) ?_
  exact bs_n
set_option maxRecDepth 20000 in
theorem b_121_12 (C : CX p l s m args meth c d E F 121) : BB p l e s m args below meth c d E F K0 121 174 rc_121_12 := by
  obtain ⟨hx, hb, hml, hown, hts, hr, hlocks, hnm, hKN, hb0, hF⟩ := C
  have hb : c.code = prog_10_method_46_code := hb
  have hown : s.vm.findClass "RudeCouponsModel" = some m.cls := hown
  have hr : meth.sig.returnType = none := hr
  refine bs_c (pc := 174) (s_aload_n hx hb (k := 0) (by decide +kernel) rfl) ?_
  refine bs_c (pc := 175) (s_getf hx hb hts in_8 hown hKN.1 (ci := 8) rfl (k := 26) (by decide) (hts _ lf_8_52) (by decide +kernel)) ?_
  refine bs_c (pc := 178) (s_bipush hx hb (z := 91) (by decide +kernel) (by decide +kernel)) ?_
  refine bs_c (pc := 180) (s_iload_n hx hb (k := 1) (by decide +kernel) rfl) ?_
  refine bs_c (pc := 181) (s_imul hx hb (by decide +kernel) hF) ?_
  refine bs_c (pc := 182) (s_iload_n hx hb (k := 2) (by decide +kernel) rfl) ?_
  refine bs_c (pc := 183) (s_iadd hx hb (by decide +kernel)) ?_
  refine bs_c (pc := 184) (s_iload_n hx hb (k := 3) (by decide +kernel) rfl) ?_
  refine bs_c (pc := 185) (s_ast0 hx hb hKN.1 (by decide +kernel)) ?_
  refine bs_c (pc := 186) (s_iinc hx hb (z := 1) (by decide +kernel) (by decide +kernel) (by decide +kernel)) ?_
  refine bs_c (pc := 189) (s_goto hx hb (pc' := 0) (by decide +kernel)) ?_
  exact bs_n
set_option maxRecDepth 20000 in
theorem b_121_13 (C : CX p l s m args meth c d E F 121) : BB p l e s m args below meth c d E F K0 121 192 rc_121_13 := by
  obtain ⟨hx, hb, hml, hown, hts, hr, hlocks, hnm, hKN, hb0, hF⟩ := C
  have hb : c.code = prog_10_method_46_code := hb
  have hown : s.vm.findClass "RudeCouponsModel" = some m.cls := hown
  have hr : meth.sig.returnType = none := hr
  refine bs_c (pc := 192) (s_iinc hx hb (z := -1) (by decide +kernel) (by decide +kernel) (by decide +kernel)) ?_
  refine bs_c (pc := 195) (s_goto hx hb (pc' := 0) (by decide +kernel)) ?_
  exact bs_n
set_option maxRecDepth 20000 in
theorem b_121_14 (C : CX p l s m args meth c d E F 121) : BB p l e s m args below meth c d E F K0 121 198 rc_121_14 := by
  obtain ⟨hx, hb, hml, hown, hts, hr, hlocks, hnm, hKN, hb0, hF⟩ := C
  have hb : c.code = prog_10_method_46_code := hb
  have hown : s.vm.findClass "RudeCouponsModel" = some m.cls := hown
  have hr : meth.sig.returnType = none := hr
  refine bs_c (pc := 198) (s_return hx hb hr hlocks (pc' := 0) (by decide +kernel)) ?_
  exact bs_n
set_option maxRecDepth 20000 in
theorem b_122_0 (C : CX p l s m args meth c d E F 122) : BB p l e s m args below meth c d E F K0 122 0 rc_122_0 := by
  obtain ⟨hx, hb, hml, hown, hts, hr, hlocks, hnm, hKN, hb0, hF⟩ := C
  have hb : c.code = prog_10_method_49_code := hb
  have hown : s.vm.findClass "RudeCouponsModel" = some m.cls := hown
  have hr : meth.sig.returnType = some .int := hr
  refine bs_c (pc := 0) (s_iload_n hx hb (k := 1) (by decide +kernel) rfl) ?_
  refine bs_c (pc := 1) (s_iconst hx hb (z := 0) (by decide +kernel) (by decide +kernel)) ?_
  refine bs_c (pc := 2) (s_sipush hx hb (z := 999) (by decide +kernel) (by decide +kernel)) ?_
  refine bs_c (pc := 5) (s_call rfl rfl (rk_S hx hb hml (index := 87) (y := 7) (n := 3) hown hts wc_7 lm_8_87 wk_7 wi_7 wp_7 (by decide +kernel) (by decide +kernel)) hKN hb0) ?_
  refine bs_c (pc := 8) (s_if_ne hx hb (by decide +kernel) hF) ?_
  refine bs_c (pc := 11) (s_iconst hx hb (z := -1) (by decide +kernel) (by decide +kernel)) ?_
  refine bs_c (pc := 12) (s_ireturn hx hb hr hlocks (pc' := 0) (by decide +kernel)) ?_
  exact bs_n
set_option maxRecDepth 20000 in
theorem b_122_1 (C : CX p l s m args meth c d E F 122) : BB p l e s m args below meth c d E F K0 122 13 rc_122_1 := by
  obtain ⟨hx, hb, hml, hown, hts, hr, hlocks, hnm, hKN, hb0, hF⟩ := C
  have hb : c.code = prog_10_method_49_code := hb
  have hown : s.vm.findClass "RudeCouponsModel" = some m.cls := hown
  have hr : meth.sig.returnType = some .int := hr
  refine bs_c (pc := 13) (s_bipush hx hb (z := 15) (by decide +kernel) (by decide +kernel)) ?_
  refine bs_c (pc := 15) (s_istore_n hx hb (k := 2) (by decide +kernel) rfl (by decide +kernel)) ?_
  refine bs_c (pc := 16) (s_fall (pc' := 0) (by decide +kernel)) ?_
  exact bs_n
set_option maxRecDepth 20000 in
theorem b_122_2 (C : CX p l s m args meth c d E F 122) : BB p l e s m args below meth c d E F K0 122 16 rc_122_2 := by
  obtain ⟨hx, hb, hml, hown, hts, hr, hlocks, hnm, hKN, hb0, hF⟩ := C
  have hb : c.code = prog_10_method_49_code := hb
  have hown : s.vm.findClass "RudeCouponsModel" = some m.cls := hown
  have hr : meth.sig.returnType = some .int := hr
  refine bs_c (pc := 16) (s_iload_n hx hb (k := 2) (by decide +kernel) rfl) ?_
  refine bs_c (pc := 17) (s_if_le hx hb (by decide +kernel) hF) ?_
  refine bs_c (pc := 20) (s_aload_n hx hb (k := 0) (by decide +kernel) rfl) ?_
  refine bs_c (pc := 21) (s_iload_n hx hb (k := 2) (by decide +kernel) rfl) ?_
  refine bs_c (pc := 22) (s_call rfl rfl (rk_V hx hb hml (index := 195) (y := 123) (n := 1) hown hts wc_123 (k := 8) rfl rfl lm_8_195 wk_123 wv_123 wi_123 wp_123 (by decide +kernel) (by decide +kernel)) hKN hb0) ?_
  refine bs_c (pc := 25) (s_iload_n hx hb (k := 1) (by decide +kernel) rfl) ?_
  refine bs_c (pc := 26) (s_icmp_gt hx hb (by decide +kernel) hF) ?_
  refine bs_c (pc := 29) (s_iload_n hx hb (k := 2) (by decide +kernel) rfl) ?_
  refine bs_c (pc := 30) (s_ireturn hx hb hr hlocks (pc' := 0) (by decide +kernel)) ?_
  exact bs_n
set_option maxRecDepth 20000 in
theorem b_122_3 (C : CX p l s m args meth c d E F 122) : BB p l e s m args below meth c d E F K0 122 31 rc_122_3 := by
  obtain ⟨hx, hb, hml, hown, hts, hr, hlocks, hnm, hKN, hb0, hF⟩ := C
  have hb : c.code = prog_10_method_49_code := hb
  have hown : s.vm.findClass "RudeCouponsModel" = some m.cls := hown
  have hr : meth.sig.returnType = some .int := hr
  refine bs_c (pc := 31) (s_iinc hx hb (z := -1) (by decide +kernel) (by decide +kernel) (by decide +kernel)) ?_
  refine bs_c (pc := 34) (s_goto hx hb (pc' := 0) (by decide +kernel)) ?_
  exact bs_n
set_option maxRecDepth 20000 in
theorem b_122_4 (C : CX p l s m args meth c d E F 122) : BB p l e s m args below meth c d E F K0 122 37 rc_122_4 := by
  obtain ⟨hx, hb, hml, hown, hts, hr, hlocks, hnm, hKN, hb0, hF⟩ := C
  have hb : c.code = prog_10_method_49_code := hb
  have hown : s.vm.findClass "RudeCouponsModel" = some m.cls := hown
  have hr : meth.sig.returnType = some .int := hr
  refine bs_c (pc := 37) (s_iconst hx hb (z := 0) (by decide +kernel) (by decide +kernel)) ?_
  refine bs_c (pc := 38) (s_ireturn hx hb hr hlocks (pc' := 0) (by decide +kernel)) ?_
  exact bs_n
end MTH
