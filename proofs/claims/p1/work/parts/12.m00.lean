/-! METHODS, block by block, by program: every instruction as its handler says -/
section MTH
variable {p : Program} {l : Launch} {e : Env} {s : State} {m : MethodId} {args : Array Value} {below : List Frame} {meth : Method} {c : Code} {d : mD} {E : mE} {F : mF} {K0 : mK}
set_option maxRecDepth 20000 in
theorem b_0_0 (C : CX p l s m args meth c d E F 0) : BB p l e s m args below meth c d E F K0 0 0 rc_0_0 := by
  obtain ⟨hx, hb, hml, hown, hts, hr, hlocks, hnm, hKN, hb0, hF⟩ := C
  have hb : c.code = prog_10_method_7_code := hb
  have hown : s.vm.findClass "RudeCouponsModel" = some m.cls := hown
  have hr : meth.sig.returnType = some .boolean := hr
  refine bs_c (pc := 0) (s_iload_n hx hb (k := 0) (by decide +kernel) rfl) ?_
  refine bs_c (pc := 1) (s_iload_n hx hb (k := 1) (by decide +kernel) rfl) ?_
  refine bs_c (pc := 2) (s_ishr hx hb (by decide +kernel)) ?_
  refine bs_c (pc := 3) (s_iconst hx hb (z := 1) (by decide +kernel) (by decide +kernel)) ?_
  refine bs_c (pc := 4) (s_iand hx hb (by decide +kernel)) ?_
  refine bs_c (pc := 5) (s_iconst hx hb (z := 1) (by decide +kernel) (by decide +kernel)) ?_
  refine bs_c (pc := 6) (s_icmp_ne hx hb (by decide +kernel) hF) ?_
  refine bs_c (pc := 9) (s_iconst hx hb (z := 1) (by decide +kernel) (by decide +kernel)) ?_
  refine bs_c (pc := 10) (s_goto hx hb (pc' := 0) (by decide +kernel)) ?_
  exact bs_n
set_option maxRecDepth 20000 in
theorem b_0_1 (C : CX p l s m args meth c d E F 0) : BB p l e s m args below meth c d E F K0 0 13 rc_0_1 := by
  obtain ⟨hx, hb, hml, hown, hts, hr, hlocks, hnm, hKN, hb0, hF⟩ := C
  have hb : c.code = prog_10_method_7_code := hb
  have hown : s.vm.findClass "RudeCouponsModel" = some m.cls := hown
  have hr : meth.sig.returnType = some .boolean := hr
  refine bs_c (pc := 13) (s_iconst hx hb (z := 0) (by decide +kernel) (by decide +kernel)) ?_
  refine bs_c (pc := 14) (s_fall (pc' := 0) (by decide +kernel)) ?_
  exact bs_n
set_option maxRecDepth 20000 in
theorem b_0_2 (C : CX p l s m args meth c d E F 0) : BB p l e s m args below meth c d E F K0 0 14 rc_0_2 := by
  obtain ⟨hx, hb, hml, hown, hts, hr, hlocks, hnm, hKN, hb0, hF⟩ := C
  have hb : c.code = prog_10_method_7_code := hb
  have hown : s.vm.findClass "RudeCouponsModel" = some m.cls := hown
  have hr : meth.sig.returnType = some .boolean := hr
  refine bs_c (pc := 14) (s_zreturn hx hb hr nar_z hlocks (pc' := 0) (by decide +kernel)) ?_
  exact bs_n
set_option maxRecDepth 20000 in
theorem b_1_0 (C : CX p l s m args meth c d E F 1) : BB p l e s m args below meth c d E F K0 1 0 rc_1_0 := by
  obtain ⟨hx, hb, hml, hown, hts, hr, hlocks, hnm, hKN, hb0, hF⟩ := C
  have hb : c.code = prog_10_method_27_code := hb
  have hown : s.vm.findClass "RudeCouponsModel" = some m.cls := hown
  have hr : meth.sig.returnType = some .int := hr
  refine bs_c (pc := 0) (s_aload_n hx hb (k := 0) (by decide +kernel) rfl) ?_
  refine bs_c (pc := 1) (s_getf hx hb hts in_8 hown hKN.1 (ci := 8) rfl (k := 5) (by decide) (hts _ lf_8_16) (by decide +kernel)) ?_
  refine bs_c (pc := 4) (s_iconst hx hb (z := 3) (by decide +kernel) (by decide +kernel)) ?_
  refine bs_c (pc := 5) (s_iload_n hx hb (k := 1) (by decide +kernel) rfl) ?_
  refine bs_c (pc := 6) (s_imul hx hb (by decide +kernel) hF) ?_
  refine bs_c (pc := 7) (s_iconst hx hb (z := 1) (by decide +kernel) (by decide +kernel)) ?_
  refine bs_c (pc := 8) (s_iadd hx hb (by decide +kernel)) ?_
  refine bs_c (pc := 9) (s_ald0 hx hb hKN.1 (by decide +kernel)) ?_
  refine bs_c (pc := 10) (s_ireturn hx hb hr hlocks (pc' := 0) (by decide +kernel)) ?_
  exact bs_n
set_option maxRecDepth 20000 in
theorem b_2_0 (C : CX p l s m args meth c d E F 2) : BB p l e s m args below meth c d E F K0 2 0 rc_2_0 := by
  obtain ⟨hx, hb, hml, hown, hts, hr, hlocks, hnm, hKN, hb0, hF⟩ := C
  have hb : c.code = prog_10_method_25_code := hb
  have hown : s.vm.findClass "RudeCouponsModel" = some m.cls := hown
  have hr : meth.sig.returnType = some .int := hr
  refine bs_c (pc := 0) (s_aload_n hx hb (k := 0) (by decide +kernel) rfl) ?_
  refine bs_c (pc := 1) (s_getf hx hb hts in_8 hown hKN.1 (ci := 8) rfl (k := 3) (by decide) (hts _ lf_8_13) (by decide +kernel)) ?_
  refine bs_c (pc := 4) (s_iconst hx hb (z := 3) (by decide +kernel) (by decide +kernel)) ?_
  refine bs_c (pc := 5) (s_iload_n hx hb (k := 3) (by decide +kernel) rfl) ?_
  refine bs_c (pc := 6) (s_imul hx hb (by decide +kernel) hF) ?_
  refine bs_c (pc := 7) (s_iconst hx hb (z := 1) (by decide +kernel) (by decide +kernel)) ?_
  refine bs_c (pc := 8) (s_iadd hx hb (by decide +kernel)) ?_
  refine bs_c (pc := 9) (s_ald0 hx hb hKN.1 (by decide +kernel)) ?_
  refine bs_c (pc := 10) (s_istore hx hb (by decide +kernel) (by decide +kernel)) ?_
  refine bs_c (pc := 12) (s_aload_n hx hb (k := 0) (by decide +kernel) rfl) ?_
  refine bs_c (pc := 13) (s_getf hx hb hts in_8 hown hKN.1 (ci := 8) rfl (k := 1) (by decide) (hts _ lf_8_7) (by decide +kernel)) ?_
  refine bs_c (pc := 16) (s_iconst hx hb (z := 3) (by decide +kernel) (by decide +kernel)) ?_
  refine bs_c (pc := 17) (s_iload_n hx hb (k := 1) (by decide +kernel) rfl) ?_
  refine bs_c (pc := 18) (s_imul hx hb (by decide +kernel) hF) ?_
  refine bs_c (pc := 19) (s_ald0 hx hb hKN.1 (by decide +kernel)) ?_
  refine bs_c (pc := 20) (s_table hx hb (hi' := 3) (offs := #[28, 35, 50]) (len := 28) (pc' := 0) (by decide +kernel) (by decide +kernel) (by decide +kernel) (by decide +kernel) (by decide +kernel) hF) ?_
  exact bs_n
set_option maxRecDepth 20000 in
theorem b_2_1 (C : CX p l s m args meth c d E F 2) : BB p l e s m args below meth c d E F K0 2 48 rc_2_1 := by
  obtain ⟨hx, hb, hml, hown, hts, hr, hlocks, hnm, hKN, hb0, hF⟩ := C
  have hb : c.code = prog_10_method_25_code := hb
  have hown : s.vm.findClass "RudeCouponsModel" = some m.cls := hown
  have hr : meth.sig.returnType = some .int := hr
  refine bs_c (pc := 48) (s_iload_n hx hb (k := 2) (by decide +kernel) rfl) ?_
  refine bs_c (pc := 49) (s_iconst hx hb (z := 2) (by decide +kernel) (by decide +kernel)) ?_
  refine bs_c (pc := 50) (s_iload hx hb (by decide +kernel)) ?_
  refine bs_c (pc := 52) (s_imul hx hb (by decide +kernel) hF) ?_
  refine bs_c (pc := 53) (s_isub hx hb (by decide +kernel)) ?_
  refine bs_c (pc := 54) (s_ireturn hx hb hr hlocks (pc' := 0) (by decide +kernel)) ?_
  exact bs_n
set_option maxRecDepth 20000 in
theorem b_2_2 (C : CX p l s m args meth c d E F 2) : BB p l e s m args below meth c d E F K0 2 55 rc_2_2 := by
  obtain ⟨hx, hb, hml, hown, hts, hr, hlocks, hnm, hKN, hb0, hF⟩ := C
  have hb : c.code = prog_10_method_25_code := hb
  have hown : s.vm.findClass "RudeCouponsModel" = some m.cls := hown
  have hr : meth.sig.returnType = some .int := hr
  refine bs_c (pc := 55) (s_iload hx hb (by decide +kernel)) ?_
  refine bs_c (pc := 57) (s_iconst hx hb (z := 2) (by decide +kernel) (by decide +kernel)) ?_
  refine bs_c (pc := 58) (s_irem hx hb (by decide +kernel) hF) ?_
  refine bs_c (pc := 59) (s_if_ne hx hb (by decide +kernel) hF) ?_
  refine bs_c (pc := 62) (s_iload_n hx hb (k := 2) (by decide +kernel) rfl) ?_
  refine bs_c (pc := 63) (s_iconst hx hb (z := 1) (by decide +kernel) (by decide +kernel)) ?_
  refine bs_c (pc := 64) (s_isub hx hb (by decide +kernel)) ?_
  refine bs_c (pc := 65) (s_goto hx hb (pc' := 0) (by decide +kernel)) ?_
  exact bs_n
set_option maxRecDepth 20000 in
theorem b_2_3 (C : CX p l s m args meth c d E F 2) : BB p l e s m args below meth c d E F K0 2 68 rc_2_3 := by
  obtain ⟨hx, hb, hml, hown, hts, hr, hlocks, hnm, hKN, hb0, hF⟩ := C
  have hb : c.code = prog_10_method_25_code := hb
  have hown : s.vm.findClass "RudeCouponsModel" = some m.cls := hown
  have hr : meth.sig.returnType = some .int := hr
  refine bs_c (pc := 68) (s_iconst hx hb (z := -1) (by decide +kernel) (by decide +kernel)) ?_
  refine bs_c (pc := 69) (s_fall (pc' := 0) (by decide +kernel)) ?_
  exact bs_n
set_option maxRecDepth 20000 in
theorem b_2_4 (C : CX p l s m args meth c d E F 2) : BB p l e s m args below meth c d E F K0 2 69 rc_2_4 := by
  obtain ⟨hx, hb, hml, hown, hts, hr, hlocks, hnm, hKN, hb0, hF⟩ := C
  have hb : c.code = prog_10_method_25_code := hb
  have hown : s.vm.findClass "RudeCouponsModel" = some m.cls := hown
  have hr : meth.sig.returnType = some .int := hr
  refine bs_c (pc := 69) (s_ireturn hx hb hr hlocks (pc' := 0) (by decide +kernel)) ?_
  exact bs_n
set_option maxRecDepth 20000 in
theorem b_2_5 (C : CX p l s m args meth c d E F 2) : BB p l e s m args below meth c d E F K0 2 70 rc_2_5 := by
  obtain ⟨hx, hb, hml, hown, hts, hr, hlocks, hnm, hKN, hb0, hF⟩ := C
  have hb : c.code = prog_10_method_25_code := hb
  have hown : s.vm.findClass "RudeCouponsModel" = some m.cls := hown
  have hr : meth.sig.returnType = some .int := hr
  refine bs_c (pc := 70) (s_iload_n hx hb (k := 2) (by decide +kernel) rfl) ?_
  refine bs_c (pc := 71) (s_iload hx hb (by decide +kernel)) ?_
  refine bs_c (pc := 73) (s_isub hx hb (by decide +kernel)) ?_
  refine bs_c (pc := 74) (s_if_le hx hb (by decide +kernel) hF) ?_
  refine bs_c (pc := 77) (s_iload_n hx hb (k := 2) (by decide +kernel) rfl) ?_
  refine bs_c (pc := 78) (s_iload hx hb (by decide +kernel)) ?_
  refine bs_c (pc := 80) (s_isub hx hb (by decide +kernel)) ?_
  refine bs_c (pc := 81) (s_goto hx hb (pc' := 0) (by decide +kernel)) ?_
  exact bs_n
set_option maxRecDepth 20000 in
theorem b_2_6 (C : CX p l s m args meth c d E F 2) : BB p l e s m args below meth c d E F K0 2 84 rc_2_6 := by
  obtain ⟨hx, hb, hml, hown, hts, hr, hlocks, hnm, hKN, hb0, hF⟩ := C
  have hb : c.code = prog_10_method_25_code := hb
  have hown : s.vm.findClass "RudeCouponsModel" = some m.cls := hown
  have hr : meth.sig.returnType = some .int := hr
  refine bs_c (pc := 84) (s_iconst hx hb (z := -1) (by decide +kernel) (by decide +kernel)) ?_
  refine bs_c (pc := 85) (s_fall (pc' := 0) (by decide +kernel)) ?_
  exact bs_n
set_option maxRecDepth 20000 in
theorem b_2_7 (C : CX p l s m args meth c d E F 2) : BB p l e s m args below meth c d E F K0 2 85 rc_2_7 := by
  obtain ⟨hx, hb, hml, hown, hts, hr, hlocks, hnm, hKN, hb0, hF⟩ := C
  have hb : c.code = prog_10_method_25_code := hb
  have hown : s.vm.findClass "RudeCouponsModel" = some m.cls := hown
  have hr : meth.sig.returnType = some .int := hr
  refine bs_c (pc := 85) (s_ireturn hx hb hr hlocks (pc' := 0) (by decide +kernel)) ?_
  exact bs_n
set_option maxRecDepth 20000 in
theorem b_2_8 (C : CX p l s m args meth c d E F 2) : BB p l e s m args below meth c d E F K0 2 86 rc_2_8 := by
  obtain ⟨hx, hb, hml, hown, hts, hr, hlocks, hnm, hKN, hb0, hF⟩ := C
  have hb : c.code = prog_10_method_25_code := hb
  have hown : s.vm.findClass "RudeCouponsModel" = some m.cls := hown
  have hr : meth.sig.returnType = some .int := hr
  refine bs_c (pc := 86) (s_iload_n hx hb (k := 2) (by decide +kernel) rfl) ?_
  refine bs_c (pc := 87) (s_iload hx hb (by decide +kernel)) ?_
  refine bs_c (pc := 89) (s_isub hx hb (by decide +kernel)) ?_
  refine bs_c (pc := 90) (s_ireturn hx hb hr hlocks (pc' := 0) (by decide +kernel)) ?_
  exact bs_n
set_option maxRecDepth 20000 in
theorem b_3_0 (C : CX p l s m args meth c d E F 3) : BB p l e s m args below meth c d E F K0 3 0 rc_3_0 := by
  obtain ⟨hx, hb, hml, hown, hts, hr, hlocks, hnm, hKN, hb0, hF⟩ := C
  have hb : c.code = prog_10_method_28_code := hb
  have hown : s.vm.findClass "RudeCouponsModel" = some m.cls := hown
  have hr : meth.sig.returnType = some .int := hr
  refine bs_c (pc := 0) (s_aload_n hx hb (k := 0) (by decide +kernel) rfl) ?_
  refine bs_c (pc := 1) (s_aload_n hx hb (k := 0) (by decide +kernel) rfl) ?_
  refine bs_c (pc := 2) (s_iload_n hx hb (k := 1) (by decide +kernel) rfl) ?_
  refine bs_c (pc := 3) (s_call rfl rfl (rk_V hx hb hml (index := 147) (y := 1) (n := 1) hown hts wc_1 (k := 8) rfl rfl lm_8_147 wk_1 wv_1 wi_1 wp_1 (by decide +kernel) (by decide +kernel)) hKN hb0) ?_
  refine bs_c (pc := 6) (s_iload_n hx hb (k := 2) (by decide +kernel) rfl) ?_
  refine bs_c (pc := 7) (s_aload_n hx hb (k := 0) (by decide +kernel) rfl) ?_
  refine bs_c (pc := 8) (s_getf hx hb hts in_8 hown hKN.1 (ci := 8) rfl (k := 5) (by decide) (hts _ lf_8_16) (by decide +kernel)) ?_
  refine bs_c (pc := 11) (s_iconst hx hb (z := 3) (by decide +kernel) (by decide +kernel)) ?_
  refine bs_c (pc := 12) (s_iload_n hx hb (k := 1) (by decide +kernel) rfl) ?_
  refine bs_c (pc := 13) (s_imul hx hb (by decide +kernel) hF) ?_
  refine bs_c (pc := 14) (s_iconst hx hb (z := 2) (by decide +kernel) (by decide +kernel)) ?_
  refine bs_c (pc := 15) (s_iadd hx hb (by decide +kernel)) ?_
  refine bs_c (pc := 16) (s_ald0 hx hb hKN.1 (by decide +kernel)) ?_
  refine bs_c (pc := 17) (s_aload_n hx hb (k := 0) (by decide +kernel) rfl) ?_
  refine bs_c (pc := 18) (s_getf hx hb hts in_8 hown hKN.1 (ci := 8) rfl (k := 5) (by decide) (hts _ lf_8_16) (by decide +kernel)) ?_
  refine bs_c (pc := 21) (s_iconst hx hb (z := 3) (by decide +kernel) (by decide +kernel)) ?_
  refine bs_c (pc := 22) (s_iload_n hx hb (k := 1) (by decide +kernel) rfl) ?_
  refine bs_c (pc := 23) (s_imul hx hb (by decide +kernel) hF) ?_
  refine bs_c (pc := 24) (s_ald0 hx hb hKN.1 (by decide +kernel)) ?_
  refine bs_c (pc := 25) (s_call rfl rfl (rk_V hx hb hml (index := 150) (y := 2) (n := 4) hown hts wc_2 (k := 8) rfl rfl lm_8_150 wk_2 wv_2 wi_2 wp_2 (by decide +kernel) (by decide +kernel)) hKN hb0) ?_
  refine bs_c (pc := 28) (s_ireturn hx hb hr hlocks (pc' := 0) (by decide +kernel)) ?_
  exact bs_n
set_option maxRecDepth 20000 in
theorem b_4_0 (C : CX p l s m args meth c d E F 4) : BB p l e s m args below meth c d E F K0 4 0 rc_4_0 := by
  obtain ⟨hx, hb, hml, hown, hts, hr, hlocks, hnm, hKN, hb0, hF⟩ := C
  have hb : c.code = prog_10_method_26_code := hb
  have hown : s.vm.findClass "RudeCouponsModel" = some m.cls := hown
  have hr : meth.sig.returnType = some .int := hr
  refine bs_c (pc := 0) (s_aload_n hx hb (k := 0) (by decide +kernel) rfl) ?_
  refine bs_c (pc := 1) (s_getf hx hb hts in_8 hown hKN.1 (ci := 8) rfl (k := 3) (by decide) (hts _ lf_8_13) (by decide +kernel)) ?_
  refine bs_c (pc := 4) (s_iconst hx hb (z := 3) (by decide +kernel) (by decide +kernel)) ?_
  refine bs_c (pc := 5) (s_aload_n hx hb (k := 0) (by decide +kernel) rfl) ?_
  refine bs_c (pc := 6) (s_getf hx hb hts in_8 hown hKN.1 (ci := 8) rfl (k := 5) (by decide) (hts _ lf_8_16) (by decide +kernel)) ?_
  refine bs_c (pc := 9) (s_iconst hx hb (z := 3) (by decide +kernel) (by decide +kernel)) ?_
  refine bs_c (pc := 10) (s_iload_n hx hb (k := 1) (by decide +kernel) rfl) ?_
  refine bs_c (pc := 11) (s_imul hx hb (by decide +kernel) hF) ?_
  refine bs_c (pc := 12) (s_iconst hx hb (z := 2) (by decide +kernel) (by decide +kernel)) ?_
  refine bs_c (pc := 13) (s_iadd hx hb (by decide +kernel)) ?_
  refine bs_c (pc := 14) (s_ald0 hx hb hKN.1 (by decide +kernel)) ?_
  refine bs_c (pc := 15) (s_imul hx hb (by decide +kernel) hF) ?_
  refine bs_c (pc := 16) (s_ald0 hx hb hKN.1 (by decide +kernel)) ?_
  refine bs_c (pc := 17) (s_ireturn hx hb hr hlocks (pc' := 0) (by decide +kernel)) ?_
  exact bs_n
set_option maxRecDepth 20000 in
theorem b_5_0 (C : CX p l s m args meth c d E F 5) : BB p l e s m args below meth c d E F K0 5 0 rc_5_0 := by
  obtain ⟨hx, hb, hml, hown, hts, hr, hlocks, hnm, hKN, hb0, hF⟩ := C
  have hb : c.code = prog_10_method_41_code := hb
  have hown : s.vm.findClass "RudeCouponsModel" = some m.cls := hown
  have hr : meth.sig.returnType = some .int := hr
  refine bs_c (pc := 0) (s_iload_n hx hb (k := 2) (by decide +kernel) rfl) ?_
  refine bs_c (pc := 1) (s_istore_n hx hb (k := 3) (by decide +kernel) rfl (by decide +kernel)) ?_
  refine bs_c (pc := 2) (s_iconst hx hb (z := 0) (by decide +kernel) (by decide +kernel)) ?_
  refine bs_c (pc := 3) (s_istore hx hb (by decide +kernel) (by decide +kernel)) ?_
  refine bs_c (pc := 5) (s_iconst hx hb (z := 0) (by decide +kernel) (by decide +kernel)) ?_
  refine bs_c (pc := 6) (s_istore hx hb (by decide +kernel) (by decide +kernel)) ?_
  refine bs_c (pc := 8) (s_fall (pc' := 0) (by decide +kernel)) ?_
  exact bs_n
set_option maxRecDepth 20000 in
theorem b_5_1 (C : CX p l s m args meth c d E F 5) : BB p l e s m args below meth c d E F K0 5 8 rc_5_1 := by
  obtain ⟨hx, hb, hml, hown, hts, hr, hlocks, hnm, hKN, hb0, hF⟩ := C
  have hb : c.code = prog_10_method_41_code := hb
  have hown : s.vm.findClass "RudeCouponsModel" = some m.cls := hown
  have hr : meth.sig.returnType = some .int := hr
  refine bs_c (pc := 8) (s_iload hx hb (by decide +kernel)) ?_
  refine bs_c (pc := 10) (s_aload_n hx hb (k := 0) (by decide +kernel) rfl) ?_
  refine bs_c (pc := 11) (s_getf hx hb hts in_8 hown hKN.1 (ci := 8) rfl (k := 4) (by decide) (hts _ lf_8_91) (by decide +kernel)) ?_
  refine bs_c (pc := 14) (s_icmp_ge hx hb (by decide +kernel) hF) ?_
  refine bs_c (pc := 17) (s_aload_n hx hb (k := 0) (by decide +kernel) rfl) ?_
  refine bs_c (pc := 18) (s_getf hx hb hts in_8 hown hKN.1 (ci := 8) rfl (k := 6) (by decide) (hts _ lf_8_19) (by decide +kernel)) ?_
  refine bs_c (pc := 21) (s_iload hx hb (by decide +kernel)) ?_
  refine bs_c (pc := 23) (s_ald0 hx hb hKN.1 (by decide +kernel)) ?_
  refine bs_c (pc := 24) (s_istore hx hb (by decide +kernel) (by decide +kernel)) ?_
  refine bs_c (pc := 26) (s_iload_n hx hb (k := 1) (by decide +kernel) rfl) ?_
  refine bs_c (pc := 27) (s_iload hx hb (by decide +kernel)) ?_
  refine bs_c (pc := 29) (s_call rfl rfl (rk_S hx hb hml (index := 154) (y := 0) (n := 2) hown hts wc_0 lm_8_154 wk_0 wi_0 wp_0 (by decide +kernel) (by decide +kernel)) hKN hb0) ?_
  refine bs_c (pc := 32) (s_if_eq hx hb (by decide +kernel) hF) ?_
  refine bs_c (pc := 35) (s_iload_n hx hb (k := 3) (by decide +kernel) rfl) ?_
  refine bs_c (pc := 36) (s_if_ge hx hb (by decide +kernel) hF) ?_
  refine bs_c (pc := 39) (s_iconst hx hb (z := -1) (by decide +kernel) (by decide +kernel)) ?_
  refine bs_c (pc := 40) (s_goto hx hb (pc' := 0) (by decide +kernel)) ?_
  exact bs_n
set_option maxRecDepth 20000 in
theorem b_5_2 (C : CX p l s m args meth c d E F 5) : BB p l e s m args below meth c d E F K0 5 43 rc_5_2 := by
  obtain ⟨hx, hb, hml, hown, hts, hr, hlocks, hnm, hKN, hb0, hF⟩ := C
  have hb : c.code = prog_10_method_41_code := hb
  have hown : s.vm.findClass "RudeCouponsModel" = some m.cls := hown
  have hr : meth.sig.returnType = some .int := hr
  refine bs_c (pc := 43) (s_aload_n hx hb (k := 0) (by decide +kernel) rfl) ?_
  refine bs_c (pc := 44) (s_iload hx hb (by decide +kernel)) ?_
  refine bs_c (pc := 46) (s_iload_n hx hb (k := 3) (by decide +kernel) rfl) ?_
  refine bs_c (pc := 47) (s_call rfl rfl (rk_V hx hb hml (index := 158) (y := 3) (n := 2) hown hts wc_3 (k := 8) rfl rfl lm_8_158 wk_3 wv_3 wi_3 wp_3 (by decide +kernel) (by decide +kernel)) hKN hb0) ?_
  refine bs_c (pc := 50) (s_fall (pc' := 0) (by decide +kernel)) ?_
  exact bs_n
set_option maxRecDepth 20000 in
theorem b_5_3 (C : CX p l s m args meth c d E F 5) : BB p l e s m args below meth c d E F K0 5 50 rc_5_3 := by
  obtain ⟨hx, hb, hml, hown, hts, hr, hlocks, hnm, hKN, hb0, hF⟩ := C
  have hb : c.code = prog_10_method_41_code := hb
  have hown : s.vm.findClass "RudeCouponsModel" = some m.cls := hown
  have hr : meth.sig.returnType = some .int := hr
  refine bs_c (pc := 50) (s_istore_n hx hb (k := 3) (by decide +kernel) rfl (by decide +kernel)) ?_
  refine bs_c (pc := 51) (s_iload hx hb (by decide +kernel)) ?_
  refine bs_c (pc := 53) (s_aload_n hx hb (k := 0) (by decide +kernel) rfl) ?_
  refine bs_c (pc := 54) (s_iload hx hb (by decide +kernel)) ?_
  refine bs_c (pc := 56) (s_call rfl rfl (rk_V hx hb hml (index := 174) (y := 4) (n := 1) hown hts wc_4 (k := 8) rfl rfl lm_8_174 wk_4 wv_4 wi_4 wp_4 (by decide +kernel) (by decide +kernel)) hKN hb0) ?_
  refine bs_c (pc := 59) (s_iadd hx hb (by decide +kernel)) ?_
  refine bs_c (pc := 60) (s_istore hx hb (by decide +kernel) (by decide +kernel)) ?_
  refine bs_c (pc := 62) (s_fall (pc' := 0) (by decide +kernel)) ?_
  exact bs_n
set_option maxRecDepth 20000 in
theorem b_5_4 (C : CX p l s m args meth c d E F 5) : BB p l e s m args below meth c d E F K0 5 62 rc_5_4 := by
  obtain ⟨hx, hb, hml, hown, hts, hr, hlocks, hnm, hKN, hb0, hF⟩ := C
  have hb : c.code = prog_10_method_41_code := hb
  have hown : s.vm.findClass "RudeCouponsModel" = some m.cls := hown
  have hr : meth.sig.returnType = some .int := hr
  refine bs_c (pc := 62) (s_iinc hx hb (z := 1) (by decide +kernel) (by decide +kernel) (by decide +kernel)) ?_
  refine bs_c (pc := 65) (s_goto hx hb (pc' := 0) (by decide +kernel)) ?_
  exact bs_n
set_option maxRecDepth 20000 in
theorem b_5_5 (C : CX p l s m args meth c d E F 5) : BB p l e s m args below meth c d E F K0 5 68 rc_5_5 := by
  obtain ⟨hx, hb, hml, hown, hts, hr, hlocks, hnm, hKN, hb0, hF⟩ := C
  have hb : c.code = prog_10_method_41_code := hb
  have hown : s.vm.findClass "RudeCouponsModel" = some m.cls := hown
  have hr : meth.sig.returnType = some .int := hr
  refine bs_c (pc := 68) (s_iload_n hx hb (k := 3) (by decide +kernel) rfl) ?_
  refine bs_c (pc := 69) (s_if_ge hx hb (by decide +kernel) hF) ?_
  refine bs_c (pc := 72) (s_iconst hx hb (z := -1) (by decide +kernel) (by decide +kernel)) ?_
  refine bs_c (pc := 73) (s_goto hx hb (pc' := 0) (by decide +kernel)) ?_
  exact bs_n
set_option maxRecDepth 20000 in
theorem b_5_6 (C : CX p l s m args meth c d E F 5) : BB p l e s m args below meth c d E F K0 5 76 rc_5_6 := by
  obtain ⟨hx, hb, hml, hown, hts, hr, hlocks, hnm, hKN, hb0, hF⟩ := C
  have hb : c.code = prog_10_method_41_code := hb
  have hown : s.vm.findClass "RudeCouponsModel" = some m.cls := hown
  have hr : meth.sig.returnType = some .int := hr
  refine bs_c (pc := 76) (s_iload hx hb (by decide +kernel)) ?_
  refine bs_c (pc := 78) (s_fall (pc' := 0) (by decide +kernel)) ?_
  exact bs_n
set_option maxRecDepth 20000 in
theorem b_5_7 (C : CX p l s m args meth c d E F 5) : BB p l e s m args below meth c d E F K0 5 78 rc_5_7 := by
  obtain ⟨hx, hb, hml, hown, hts, hr, hlocks, hnm, hKN, hb0, hF⟩ := C
  have hb : c.code = prog_10_method_41_code := hb
  have hown : s.vm.findClass "RudeCouponsModel" = some m.cls := hown
  have hr : meth.sig.returnType = some .int := hr
  refine bs_c (pc := 78) (s_ireturn hx hb hr hlocks (pc' := 0) (by decide +kernel)) ?_
  exact bs_n
set_option maxRecDepth 20000 in
theorem b_6_0 (C : CX p l s m args meth c d E F 6) : BB p l e s m args below meth c d E F K0 6 0 rc_6_0 := by
  obtain ⟨hx, hb, hml, hown, hts, hr, hlocks, hnm, hKN, hb0, hF⟩ := C
  have hb : c.code = prog_10_method_42_code := hb
  have hown : s.vm.findClass "RudeCouponsModel" = some m.cls := hown
  have hr : meth.sig.returnType = some .int := hr
  refine bs_c (pc := 0) (s_iconst hx hb (z := 0) (by decide +kernel) (by decide +kernel)) ?_
  refine bs_c (pc := 1) (s_istore_n hx hb (k := 3) (by decide +kernel) rfl (by decide +kernel)) ?_
  refine bs_c (pc := 2) (s_iconst hx hb (z := 0) (by decide +kernel) (by decide +kernel)) ?_
  refine bs_c (pc := 3) (s_istore hx hb (by decide +kernel) (by decide +kernel)) ?_
  refine bs_c (pc := 5) (s_fall (pc' := 0) (by decide +kernel)) ?_
  exact bs_n
set_option maxRecDepth 20000 in
theorem b_6_1 (C : CX p l s m args meth c d E F 6) : BB p l e s m args below meth c d E F K0 6 5 rc_6_1 := by
  obtain ⟨hx, hb, hml, hown, hts, hr, hlocks, hnm, hKN, hb0, hF⟩ := C
  have hb : c.code = prog_10_method_42_code := hb
  have hown : s.vm.findClass "RudeCouponsModel" = some m.cls := hown
  have hr : meth.sig.returnType = some .int := hr
  refine bs_c (pc := 5) (s_iload hx hb (by decide +kernel)) ?_
  refine bs_c (pc := 7) (s_aload_n hx hb (k := 0) (by decide +kernel) rfl) ?_
  refine bs_c (pc := 8) (s_getf hx hb hts in_8 hown hKN.1 (ci := 8) rfl (k := 4) (by decide) (hts _ lf_8_91) (by decide +kernel)) ?_
  refine bs_c (pc := 11) (s_icmp_ge hx hb (by decide +kernel) hF) ?_
  refine bs_c (pc := 14) (s_iload_n hx hb (k := 3) (by decide +kernel) rfl) ?_
  refine bs_c (pc := 15) (s_aload_n hx hb (k := 0) (by decide +kernel) rfl) ?_
  refine bs_c (pc := 16) (s_iload hx hb (by decide +kernel)) ?_
  refine bs_c (pc := 18) (s_call rfl rfl (rk_V hx hb hml (index := 147) (y := 1) (n := 1) hown hts wc_1 (k := 8) rfl rfl lm_8_147 wk_1 wv_1 wi_1 wp_1 (by decide +kernel) (by decide +kernel)) hKN hb0) ?_
  refine bs_c (pc := 21) (s_iload_n hx hb (k := 1) (by decide +kernel) rfl) ?_
  refine bs_c (pc := 22) (s_icmp_ne hx hb (by decide +kernel) hF) ?_
  refine bs_c (pc := 25) (s_aload_n hx hb (k := 0) (by decide +kernel) rfl) ?_
  refine bs_c (pc := 26) (s_getf hx hb hts in_8 hown hKN.1 (ci := 8) rfl (k := 5) (by decide) (hts _ lf_8_16) (by decide +kernel)) ?_
  refine bs_c (pc := 29) (s_iconst hx hb (z := 3) (by decide +kernel) (by decide +kernel)) ?_
  refine bs_c (pc := 30) (s_iload hx hb (by decide +kernel)) ?_
  refine bs_c (pc := 32) (s_imul hx hb (by decide +kernel) hF) ?_
  refine bs_c (pc := 33) (s_ald0 hx hb hKN.1 (by decide +kernel)) ?_
  refine bs_c (pc := 34) (s_aload_n hx hb (k := 0) (by decide +kernel) rfl) ?_
  refine bs_c (pc := 35) (s_getf hx hb hts in_8 hown hKN.1 (ci := 8) rfl (k := 7) (by decide) (hts _ lf_8_22) (by decide +kernel)) ?_
  refine bs_c (pc := 38) (s_iconst hx hb (z := 0) (by decide +kernel) (by decide +kernel)) ?_
  refine bs_c (pc := 39) (s_ald0 hx hb hKN.1 (by decide +kernel)) ?_
  refine bs_c (pc := 40) (s_icmp_lt hx hb (by decide +kernel) hF) ?_
  refine bs_c (pc := 43) (s_aload_n hx hb (k := 0) (by decide +kernel) rfl) ?_
  refine bs_c (pc := 44) (s_getf hx hb hts in_8 hown hKN.1 (ci := 8) rfl (k := 7) (by decide) (hts _ lf_8_22) (by decide +kernel)) ?_
  refine bs_c (pc := 47) (s_iconst hx hb (z := 1) (by decide +kernel) (by decide +kernel)) ?_
  refine bs_c (pc := 48) (s_ald0 hx hb hKN.1 (by decide +kernel)) ?_
  refine bs_c (pc := 49) (s_iload hx hb (by decide +kernel)) ?_
  refine bs_c (pc := 51) (s_call rfl rfl (rk_S hx hb hml (index := 154) (y := 0) (n := 2) hown hts wc_0 lm_8_154 wk_0 wi_0 wp_0 (by decide +kernel) (by decide +kernel)) hKN hb0) ?_
  refine bs_c (pc := 54) (s_if_ne hx hb (by decide +kernel) hF) ?_
  refine bs_c (pc := 57) (s_iconst hx hb (z := 1) (by decide +kernel) (by decide +kernel)) ?_
  refine bs_c (pc := 58) (s_iload hx hb (by decide +kernel)) ?_
  refine bs_c (pc := 60) (s_ishl hx hb (by decide +kernel)) ?_
  refine bs_c (pc := 61) (s_goto hx hb (pc' := 0) (by decide +kernel)) ?_
  exact bs_n
set_option maxRecDepth 20000 in
theorem b_6_2 (C : CX p l s m args meth c d E F 6) : BB p l e s m args below meth c d E F K0 6 64 rc_6_2 := by
  obtain ⟨hx, hb, hml, hown, hts, hr, hlocks, hnm, hKN, hb0, hF⟩ := C
  have hb : c.code = prog_10_method_42_code := hb
  have hown : s.vm.findClass "RudeCouponsModel" = some m.cls := hown
  have hr : meth.sig.returnType = some .int := hr
  refine bs_c (pc := 64) (s_iconst hx hb (z := 0) (by decide +kernel) (by decide +kernel)) ?_
  refine bs_c (pc := 65) (s_fall (pc' := 0) (by decide +kernel)) ?_
  exact bs_n
set_option maxRecDepth 20000 in
theorem b_6_3 (C : CX p l s m args meth c d E F 6) : BB p l e s m args below meth c d E F K0 6 65 rc_6_3 := by
  obtain ⟨hx, hb, hml, hown, hts, hr, hlocks, hnm, hKN, hb0, hF⟩ := C
  have hb : c.code = prog_10_method_42_code := hb
  have hown : s.vm.findClass "RudeCouponsModel" = some m.cls := hown
  have hr : meth.sig.returnType = some .int := hr
  refine bs_c (pc := 65) (s_ior hx hb (by decide +kernel)) ?_
  refine bs_c (pc := 66) (s_istore_n hx hb (k := 3) (by decide +kernel) rfl (by decide +kernel)) ?_
  refine bs_c (pc := 67) (s_iinc hx hb (z := 1) (by decide +kernel) (by decide +kernel) (by decide +kernel)) ?_
  refine bs_c (pc := 70) (s_goto hx hb (pc' := 0) (by decide +kernel)) ?_
  exact bs_n
set_option maxRecDepth 20000 in
theorem b_6_4 (C : CX p l s m args meth c d E F 6) : BB p l e s m args below meth c d E F K0 6 73 rc_6_4 := by
  obtain ⟨hx, hb, hml, hown, hts, hr, hlocks, hnm, hKN, hb0, hF⟩ := C
  have hb : c.code = prog_10_method_42_code := hb
  have hown : s.vm.findClass "RudeCouponsModel" = some m.cls := hown
  have hr : meth.sig.returnType = some .int := hr
  refine bs_c (pc := 73) (s_iconst hx hb (z := -1) (by decide +kernel) (by decide +kernel)) ?_
  refine bs_c (pc := 74) (s_istore hx hb (by decide +kernel) (by decide +kernel)) ?_
  refine bs_c (pc := 76) (s_iconst hx hb (z := 0) (by decide +kernel) (by decide +kernel)) ?_
  refine bs_c (pc := 77) (s_istore hx hb (by decide +kernel) (by decide +kernel)) ?_
  refine bs_c (pc := 79) (s_fall (pc' := 0) (by decide +kernel)) ?_
  exact bs_n
set_option maxRecDepth 20000 in
theorem b_6_5 (C : CX p l s m args meth c d E F 6) : BB p l e s m args below meth c d E F K0 6 79 rc_6_5 := by
  obtain ⟨hx, hb, hml, hown, hts, hr, hlocks, hnm, hKN, hb0, hF⟩ := C
  have hb : c.code = prog_10_method_42_code := hb
  have hown : s.vm.findClass "RudeCouponsModel" = some m.cls := hown
  have hr : meth.sig.returnType = some .int := hr
  refine bs_c (pc := 79) (s_iload hx hb (by decide +kernel)) ?_
  refine bs_c (pc := 81) (s_iload_n hx hb (k := 3) (by decide +kernel) rfl) ?_
  refine bs_c (pc := 82) (s_icmp_gt hx hb (by decide +kernel) hF) ?_
  refine bs_c (pc := 85) (s_iload hx hb (by decide +kernel)) ?_
  refine bs_c (pc := 87) (s_iload_n hx hb (k := 3) (by decide +kernel) rfl) ?_
  refine bs_c (pc := 88) (s_iconst hx hb (z := -1) (by decide +kernel) (by decide +kernel)) ?_
  refine bs_c (pc := 89) (s_ixor hx hb (by decide +kernel)) ?_
  refine bs_c (pc := 90) (s_iand hx hb (by decide +kernel)) ?_
  refine bs_c (pc := 91) (s_if_ne hx hb (by decide +kernel) hF) ?_
  refine bs_c (pc := 94) (s_aload_n hx hb (k := 0) (by decide +kernel) rfl) ?_
  refine bs_c (pc := 95) (s_iload hx hb (by decide +kernel)) ?_
  refine bs_c (pc := 97) (s_iload_n hx hb (k := 2) (by decide +kernel) rfl) ?_
  refine bs_c (pc := 98) (s_call rfl rfl (rk_V hx hb hml (index := 183) (y := 5) (n := 2) hown hts wc_5 (k := 8) rfl rfl lm_8_183 wk_5 wv_5 wi_5 wp_5 (by decide +kernel) (by decide +kernel)) hKN hb0) ?_
  refine bs_c (pc := 101) (s_goto hx hb (pc' := 0) (by decide +kernel)) ?_
  exact bs_n
set_option maxRecDepth 20000 in
theorem b_6_6 (C : CX p l s m args meth c d E F 6) : BB p l e s m args below meth c d E F K0 6 104 rc_6_6 := by
  obtain ⟨hx, hb, hml, hown, hts, hr, hlocks, hnm, hKN, hb0, hF⟩ := C
  have hb : c.code = prog_10_method_42_code := hb
  have hown : s.vm.findClass "RudeCouponsModel" = some m.cls := hown
  have hr : meth.sig.returnType = some .int := hr
  refine bs_c (pc := 104) (s_iconst hx hb (z := -1) (by decide +kernel) (by decide +kernel)) ?_
  refine bs_c (pc := 105) (s_fall (pc' := 0) (by decide +kernel)) ?_
  exact bs_n
set_option maxRecDepth 20000 in
theorem b_6_7 (C : CX p l s m args meth c d E F 6) : BB p l e s m args below meth c d E F K0 6 105 rc_6_7 := by
  obtain ⟨hx, hb, hml, hown, hts, hr, hlocks, hnm, hKN, hb0, hF⟩ := C
  have hb : c.code = prog_10_method_42_code := hb
  have hown : s.vm.findClass "RudeCouponsModel" = some m.cls := hown
  have hr : meth.sig.returnType = some .int := hr
  refine bs_c (pc := 105) (s_istore hx hb (by decide +kernel) (by decide +kernel)) ?_
  refine bs_c (pc := 107) (s_aload_n hx hb (k := 0) (by decide +kernel) rfl) ?_
  refine bs_c (pc := 108) (s_iload hx hb (by decide +kernel)) ?_
  refine bs_c (pc := 110) (s_iload hx hb (by decide +kernel)) ?_
  refine bs_c (pc := 112) (s_icmp_le hx hb (by decide +kernel) hF) ?_
  refine bs_c (pc := 115) (s_iload hx hb (by decide +kernel)) ?_
  refine bs_c (pc := 117) (s_goto hx hb (pc' := 0) (by decide +kernel)) ?_
  exact bs_n
set_option maxRecDepth 20000 in
theorem b_6_8 (C : CX p l s m args meth c d E F 6) : BB p l e s m args below meth c d E F K0 6 120 rc_6_8 := by
  obtain ⟨hx, hb, hml, hown, hts, hr, hlocks, hnm, hKN, hb0, hF⟩ := C
  have hb : c.code = prog_10_method_42_code := hb
  have hown : s.vm.findClass "RudeCouponsModel" = some m.cls := hown
  have hr : meth.sig.returnType = some .int := hr
  refine bs_c (pc := 120) (s_aload_n hx hb (k := 0) (by decide +kernel) rfl) ?_
  refine bs_c (pc := 121) (s_getf hx hb hts in_8 hown hKN.1 (ci := 8) rfl (k := 24) (by decide) (hts _ lf_8_186) (by decide +kernel)) ?_
  refine bs_c (pc := 124) (s_fall (pc' := 0) (by decide +kernel)) ?_
  exact bs_n
set_option maxRecDepth 20000 in
theorem b_6_9 (C : CX p l s m args meth c d E F 6) : BB p l e s m args below meth c d E F K0 6 124 rc_6_9 := by
  obtain ⟨hx, hb, hml, hown, hts, hr, hlocks, hnm, hKN, hb0, hF⟩ := C
  have hb : c.code = prog_10_method_42_code := hb
  have hown : s.vm.findClass "RudeCouponsModel" = some m.cls := hown
  have hr : meth.sig.returnType = some .int := hr
  refine bs_c (pc := 124) (s_putI hx hb hts in_8 hown hKN.1 (ci := 8) rfl (k := 24) (by decide) (hts _ lf_8_186) tyX8 tyX8_ok nmX8 (tyX8_ok 24 (by decide)) rfl (by decide +kernel)) ?_
  refine bs_c (pc := 127) (s_iload hx hb (by decide +kernel)) ?_
  refine bs_c (pc := 129) (s_iload hx hb (by decide +kernel)) ?_
  refine bs_c (pc := 131) (s_icmp_le hx hb (by decide +kernel) hF) ?_
  refine bs_c (pc := 134) (s_iload hx hb (by decide +kernel)) ?_
  refine bs_c (pc := 136) (s_goto hx hb (pc' := 0) (by decide +kernel)) ?_
  exact bs_n
set_option maxRecDepth 20000 in
theorem b_6_10 (C : CX p l s m args meth c d E F 6) : BB p l e s m args below meth c d E F K0 6 139 rc_6_10 := by
  obtain ⟨hx, hb, hml, hown, hts, hr, hlocks, hnm, hKN, hb0, hF⟩ := C
  have hb : c.code = prog_10_method_42_code := hb
  have hown : s.vm.findClass "RudeCouponsModel" = some m.cls := hown
  have hr : meth.sig.returnType = some .int := hr
  refine bs_c (pc := 139) (s_iload hx hb (by decide +kernel)) ?_
  refine bs_c (pc := 141) (s_fall (pc' := 0) (by decide +kernel)) ?_
  exact bs_n
set_option maxRecDepth 20000 in
theorem b_6_11 (C : CX p l s m args meth c d E F 6) : BB p l e s m args below meth c d E F K0 6 141 rc_6_11 := by
  obtain ⟨hx, hb, hml, hown, hts, hr, hlocks, hnm, hKN, hb0, hF⟩ := C
  have hb : c.code = prog_10_method_42_code := hb
  have hown : s.vm.findClass "RudeCouponsModel" = some m.cls := hown
  have hr : meth.sig.returnType = some .int := hr
  refine bs_c (pc := 141) (s_istore hx hb (by decide +kernel) (by decide +kernel)) ?_
  refine bs_c (pc := 143) (s_iinc hx hb (z := 1) (by decide +kernel) (by decide +kernel) (by decide +kernel)) ?_
  refine bs_c (pc := 146) (s_goto hx hb (pc' := 0) (by decide +kernel)) ?_
  exact bs_n
set_option maxRecDepth 20000 in
theorem b_6_12 (C : CX p l s m args meth c d E F 6) : BB p l e s m args below meth c d E F K0 6 149 rc_6_12 := by
  obtain ⟨hx, hb, hml, hown, hts, hr, hlocks, hnm, hKN, hb0, hF⟩ := C
  have hb : c.code = prog_10_method_42_code := hb
  have hown : s.vm.findClass "RudeCouponsModel" = some m.cls := hown
  have hr : meth.sig.returnType = some .int := hr
  refine bs_c (pc := 149) (s_iload hx hb (by decide +kernel)) ?_
  refine bs_c (pc := 151) (s_ireturn hx hb hr hlocks (pc' := 0) (by decide +kernel)) ?_
  exact bs_n
set_option maxRecDepth 20000 in
theorem b_7_0 (C : CX p l s m args meth c d E F 7) : BB p l e s m args below meth c d E F K0 7 0 rc_7_0 := by
  obtain ⟨hx, hb, hml, hown, hts, hr, hlocks, hnm, hKN, hb0, hF⟩ := C
  have hb : c.code = prog_10_method_6_code := hb
  have hown : s.vm.findClass "RudeCouponsModel" = some m.cls := hown
  have hr : meth.sig.returnType = some .boolean := hr
  refine bs_c (pc := 0) (s_iload_n hx hb (k := 0) (by decide +kernel) rfl) ?_
  refine bs_c (pc := 1) (s_iload_n hx hb (k := 1) (by decide +kernel) rfl) ?_
  refine bs_c (pc := 2) (s_icmp_lt hx hb (by decide +kernel) hF) ?_
  refine bs_c (pc := 5) (s_iload_n hx hb (k := 0) (by decide +kernel) rfl) ?_
  refine bs_c (pc := 6) (s_iload_n hx hb (k := 2) (by decide +kernel) rfl) ?_
  refine bs_c (pc := 7) (s_icmp_gt hx hb (by decide +kernel) hF) ?_
  refine bs_c (pc := 10) (s_iconst hx hb (z := 1) (by decide +kernel) (by decide +kernel)) ?_
  refine bs_c (pc := 11) (s_goto hx hb (pc' := 0) (by decide +kernel)) ?_
  exact bs_n
set_option maxRecDepth 20000 in
theorem b_7_1 (C : CX p l s m args meth c d E F 7) : BB p l e s m args below meth c d E F K0 7 14 rc_7_1 := by
  obtain ⟨hx, hb, hml, hown, hts, hr, hlocks, hnm, hKN, hb0, hF⟩ := C
  have hb : c.code = prog_10_method_6_code := hb
  have hown : s.vm.findClass "RudeCouponsModel" = some m.cls := hown
  have hr : meth.sig.returnType = some .boolean := hr
  refine bs_c (pc := 14) (s_iconst hx hb (z := 0) (by decide +kernel) (by decide +kernel)) ?_
  refine bs_c (pc := 15) (s_fall (pc' := 0) (by decide +kernel)) ?_
  exact bs_n
set_option maxRecDepth 20000 in
theorem b_7_2 (C : CX p l s m args meth c d E F 7) : BB p l e s m args below meth c d E F K0 7 15 rc_7_2 := by
  obtain ⟨hx, hb, hml, hown, hts, hr, hlocks, hnm, hKN, hb0, hF⟩ := C
  have hb : c.code = prog_10_method_6_code := hb
  have hown : s.vm.findClass "RudeCouponsModel" = some m.cls := hown
  have hr : meth.sig.returnType = some .boolean := hr
  refine bs_c (pc := 15) (s_zreturn hx hb hr nar_z hlocks (pc' := 0) (by decide +kernel)) ?_
  exact bs_n
set_option maxRecDepth 20000 in
theorem b_8_0 (C : CX p l s m args meth c d E F 8) : BB p l e s m args below meth c d E F K0 8 0 rc_8_0 := by
  obtain ⟨hx, hb, hml, hown, hts, hr, hlocks, hnm, hKN, hb0, hF⟩ := C
  have hb : c.code = prog_10_method_29_code := hb
  have hown : s.vm.findClass "RudeCouponsModel" = some m.cls := hown
  have hr : meth.sig.returnType = some .int := hr
  refine bs_c (pc := 0) (s_aload_n hx hb (k := 0) (by decide +kernel) rfl) ?_
  refine bs_c (pc := 1) (s_getf hx hb hts in_8 hown hKN.1 (ci := 8) rfl (k := 3) (by decide) (hts _ lf_8_13) (by decide +kernel)) ?_
  refine bs_c (pc := 4) (s_iconst hx hb (z := 3) (by decide +kernel) (by decide +kernel)) ?_
  refine bs_c (pc := 5) (s_iload_n hx hb (k := 2) (by decide +kernel) rfl) ?_
  refine bs_c (pc := 6) (s_imul hx hb (by decide +kernel) hF) ?_
  refine bs_c (pc := 7) (s_iconst hx hb (z := 2) (by decide +kernel) (by decide +kernel)) ?_
  refine bs_c (pc := 8) (s_iadd hx hb (by decide +kernel)) ?_
  refine bs_c (pc := 9) (s_ald0 hx hb hKN.1 (by decide +kernel)) ?_
  refine bs_c (pc := 10) (s_aload_n hx hb (k := 0) (by decide +kernel) rfl) ?_
  refine bs_c (pc := 11) (s_getf hx hb hts in_8 hown hKN.1 (ci := 8) rfl (k := 1) (by decide) (hts _ lf_8_7) (by decide +kernel)) ?_
  refine bs_c (pc := 14) (s_iconst hx hb (z := 3) (by decide +kernel) (by decide +kernel)) ?_
  refine bs_c (pc := 15) (s_iload_n hx hb (k := 1) (by decide +kernel) rfl) ?_
  refine bs_c (pc := 16) (s_imul hx hb (by decide +kernel) hF) ?_
  refine bs_c (pc := 17) (s_iconst hx hb (z := 2) (by decide +kernel) (by decide +kernel)) ?_
  refine bs_c (pc := 18) (s_iadd hx hb (by decide +kernel)) ?_
  refine bs_c (pc := 19) (s_ald0 hx hb hKN.1 (by decide +kernel)) ?_
  refine bs_c (pc := 20) (s_isub hx hb (by decide +kernel)) ?_
  refine bs_c (pc := 21) (s_istore_n hx hb (k := 3) (by decide +kernel) rfl (by decide +kernel)) ?_
  refine bs_c (pc := 22) (s_iload_n hx hb (k := 3) (by decide +kernel) rfl) ?_
  refine bs_c (pc := 23) (s_if_ge hx hb (by decide +kernel) hF) ?_
  refine bs_c (pc := 26) (s_iconst hx hb (z := 0) (by decide +kernel) (by decide +kernel)) ?_
  refine bs_c (pc := 27) (s_goto hx hb (pc' := 0) (by decide +kernel)) ?_
  exact bs_n
set_option maxRecDepth 20000 in
theorem b_8_1 (C : CX p l s m args meth c d E F 8) : BB p l e s m args below meth c d E F K0 8 30 rc_8_1 := by
  obtain ⟨hx, hb, hml, hown, hts, hr, hlocks, hnm, hKN, hb0, hF⟩ := C
  have hb : c.code = prog_10_method_29_code := hb
  have hown : s.vm.findClass "RudeCouponsModel" = some m.cls := hown
  have hr : meth.sig.returnType = some .int := hr
  refine bs_c (pc := 30) (s_iload_n hx hb (k := 3) (by decide +kernel) rfl) ?_
  refine bs_c (pc := 31) (s_fall (pc' := 0) (by decide +kernel)) ?_
  exact bs_n
set_option maxRecDepth 20000 in
theorem b_8_2 (C : CX p l s m args meth c d E F 8) : BB p l e s m args below meth c d E F K0 8 31 rc_8_2 := by
  obtain ⟨hx, hb, hml, hown, hts, hr, hlocks, hnm, hKN, hb0, hF⟩ := C
  have hb : c.code = prog_10_method_29_code := hb
  have hown : s.vm.findClass "RudeCouponsModel" = some m.cls := hown
  have hr : meth.sig.returnType = some .int := hr
  refine bs_c (pc := 31) (s_ireturn hx hb hr hlocks (pc' := 0) (by decide +kernel)) ?_
  exact bs_n
set_option maxRecDepth 20000 in
theorem b_9_0 (C : CX p l s m args meth c d E F 9) : BB p l e s m args below meth c d E F K0 9 0 rc_9_0 := by
  obtain ⟨hx, hb, hml, hown, hts, hr, hlocks, hnm, hKN, hb0, hF⟩ := C
  have hb : c.code = prog_10_method_8_code := hb
  have hown : s.vm.findClass "RudeCouponsModel" = some m.cls := hown
  have hr : meth.sig.returnType = some .boolean := hr
  refine bs_c (pc := 0) (s_iload_n hx hb (k := 1) (by decide +kernel) rfl) ?_
  refine bs_c (pc := 1) (s_iconst hx hb (z := 0) (by decide +kernel) (by decide +kernel)) ?_
  refine bs_c (pc := 2) (s_aload_n hx hb (k := 0) (by decide +kernel) rfl) ?_
  refine bs_c (pc := 3) (s_getf hx hb hts in_8 hown hKN.1 (ci := 8) rfl (k := 0) (by decide) (hts _ lf_8_84) (by decide +kernel)) ?_
  refine bs_c (pc := 6) (s_iconst hx hb (z := 1) (by decide +kernel) (by decide +kernel)) ?_
  refine bs_c (pc := 7) (s_isub hx hb (by decide +kernel)) ?_
  refine bs_c (pc := 8) (s_call rfl rfl (rk_S hx hb hml (index := 87) (y := 7) (n := 3) hown hts wc_7 lm_8_87 wk_7 wi_7 wp_7 (by decide +kernel) (by decide +kernel)) hKN hb0) ?_
  refine bs_c (pc := 11) (s_zreturn hx hb hr nar_z hlocks (pc' := 0) (by decide +kernel)) ?_
  exact bs_n
set_option maxRecDepth 20000 in
theorem b_10_0 (C : CX p l s m args meth c d E F 10) : BB p l e s m args below meth c d E F K0 10 0 rc_10_0 := by
  obtain ⟨hx, hb, hml, hown, hts, hr, hlocks, hnm, hKN, hb0, hF⟩ := C
  have hb : c.code = prog_2_method_10_code := hb
  have hown : s.vm.findClass "RudeCoupons$Book" = some m.cls := hown
  have hr : meth.sig.returnType = some .int := hr
  refine bs_c (pc := 0) (s_aload_n hx hb (k := 0) (by decide +kernel) rfl) ?_
  refine bs_c (pc := 1) (s_getf hx hb hts in_0 hown hKN.1 (ci := 0) rfl (k := 6) (by decide) (hts _ lf_0_24) (by decide +kernel)) ?_
  refine bs_c (pc := 4) (s_iload_n hx hb (k := 2) (by decide +kernel) rfl) ?_
  refine bs_c (pc := 5) (s_ald0 hx hb hKN.1 (by decide +kernel)) ?_
  refine bs_c (pc := 6) (s_istore hx hb (by decide +kernel) (by decide +kernel)) ?_
  refine bs_c (pc := 8) (s_aload_n hx hb (k := 0) (by decide +kernel) rfl) ?_
  refine bs_c (pc := 9) (s_getf hx hb hts in_0 hown hKN.1 (ci := 0) rfl (k := 1) (by decide) (hts _ lf_0_9) (by decide +kernel)) ?_
  refine bs_c (pc := 12) (s_iload_n hx hb (k := 1) (by decide +kernel) rfl) ?_
  refine bs_c (pc := 13) (s_ald0 hx hb hKN.1 (by decide +kernel)) ?_
  refine bs_c (pc := 14) (s_iconst hx hb (z := 1) (by decide +kernel) (by decide +kernel)) ?_
  refine bs_c (pc := 15) (s_icmp_ne hx hb (by decide +kernel) hF) ?_
  refine bs_c (pc := 18) (s_iload hx hb (by decide +kernel)) ?_
  refine bs_c (pc := 20) (s_iconst hx hb (z := 2) (by decide +kernel) (by decide +kernel)) ?_
  refine bs_c (pc := 21) (s_imul hx hb (by decide +kernel) hF) ?_
  refine bs_c (pc := 22) (s_istore hx hb (by decide +kernel) (by decide +kernel)) ?_
  refine bs_c (pc := 24) (s_goto hx hb (pc' := 0) (by decide +kernel)) ?_
  exact bs_n
set_option maxRecDepth 20000 in
theorem b_10_1 (C : CX p l s m args meth c d E F 10) : BB p l e s m args below meth c d E F K0 10 27 rc_10_1 := by
  obtain ⟨hx, hb, hml, hown, hts, hr, hlocks, hnm, hKN, hb0, hF⟩ := C
  have hb : c.code = prog_2_method_10_code := hb
  have hown : s.vm.findClass "RudeCoupons$Book" = some m.cls := hown
  have hr : meth.sig.returnType = some .int := hr
  refine bs_c (pc := 27) (s_aload_n hx hb (k := 0) (by decide +kernel) rfl) ?_
  refine bs_c (pc := 28) (s_getf hx hb hts in_0 hown hKN.1 (ci := 0) rfl (k := 1) (by decide) (hts _ lf_0_9) (by decide +kernel)) ?_
  refine bs_c (pc := 31) (s_iload_n hx hb (k := 1) (by decide +kernel) rfl) ?_
  refine bs_c (pc := 32) (s_ald0 hx hb hKN.1 (by decide +kernel)) ?_
  refine bs_c (pc := 33) (s_iconst hx hb (z := 2) (by decide +kernel) (by decide +kernel)) ?_
  refine bs_c (pc := 34) (s_icmp_ne hx hb (by decide +kernel) hF) ?_
  refine bs_c (pc := 37) (s_iconst hx hb (z := 1) (by decide +kernel) (by decide +kernel)) ?_
  refine bs_c (pc := 38) (s_istore hx hb (by decide +kernel) (by decide +kernel)) ?_
  refine bs_c (pc := 40) (s_iload_n hx hb (k := 3) (by decide +kernel) rfl) ?_
  refine bs_c (pc := 41) (s_iconst hx hb (z := 2) (by decide +kernel) (by decide +kernel)) ?_
  refine bs_c (pc := 42) (s_irem hx hb (by decide +kernel) hF) ?_
  refine bs_c (pc := 43) (s_if_eq hx hb (by decide +kernel) hF) ?_
  refine bs_c (pc := 46) (s_bipush hx hb (z := -2) (by decide +kernel) (by decide +kernel)) ?_
  refine bs_c (pc := 48) (s_ireturn hx hb hr hlocks (pc' := 0) (by decide +kernel)) ?_
  exact bs_n
set_option maxRecDepth 20000 in
theorem b_10_2 (C : CX p l s m args meth c d E F 10) : BB p l e s m args below meth c d E F K0 10 49 rc_10_2 := by
  obtain ⟨hx, hb, hml, hown, hts, hr, hlocks, hnm, hKN, hb0, hF⟩ := C
  have hb : c.code = prog_2_method_10_code := hb
  have hown : s.vm.findClass "RudeCoupons$Book" = some m.cls := hown
  have hr : meth.sig.returnType = some .int := hr
  refine bs_c (pc := 49) (s_iload hx hb (by decide +kernel)) ?_
  refine bs_c (pc := 51) (s_iload hx hb (by decide +kernel)) ?_
  refine bs_c (pc := 53) (s_isub hx hb (by decide +kernel)) ?_
  refine bs_c (pc := 54) (s_istore hx hb (by decide +kernel) (by decide +kernel)) ?_
  refine bs_c (pc := 56) (s_iload hx hb (by decide +kernel)) ?_
  refine bs_c (pc := 58) (s_aload_n hx hb (k := 0) (by decide +kernel) rfl) ?_
  refine bs_c (pc := 59) (s_getf hx hb hts in_0 hown hKN.1 (ci := 0) rfl (k := 1) (by decide) (hts _ lf_0_9) (by decide +kernel)) ?_
  refine bs_c (pc := 62) (s_iload_n hx hb (k := 1) (by decide +kernel) rfl) ?_
  refine bs_c (pc := 63) (s_ald0 hx hb hKN.1 (by decide +kernel)) ?_
  refine bs_c (pc := 64) (s_iconst hx hb (z := 3) (by decide +kernel) (by decide +kernel)) ?_
  refine bs_c (pc := 65) (s_icmp_ne hx hb (by decide +kernel) hF) ?_
  refine bs_c (pc := 68) (s_iconst hx hb (z := 1) (by decide +kernel) (by decide +kernel)) ?_
  refine bs_c (pc := 69) (s_goto hx hb (pc' := 0) (by decide +kernel)) ?_
  exact bs_n
set_option maxRecDepth 20000 in
theorem b_10_3 (C : CX p l s m args meth c d E F 10) : BB p l e s m args below meth c d E F K0 10 72 rc_10_3 := by
  obtain ⟨hx, hb, hml, hown, hts, hr, hlocks, hnm, hKN, hb0, hF⟩ := C
  have hb : c.code = prog_2_method_10_code := hb
  have hown : s.vm.findClass "RudeCoupons$Book" = some m.cls := hown
  have hr : meth.sig.returnType = some .int := hr
  refine bs_c (pc := 72) (s_iconst hx hb (z := 0) (by decide +kernel) (by decide +kernel)) ?_
  refine bs_c (pc := 73) (s_fall (pc' := 0) (by decide +kernel)) ?_
  exact bs_n
set_option maxRecDepth 20000 in
theorem b_10_4 (C : CX p l s m args meth c d E F 10) : BB p l e s m args below meth c d E F K0 10 73 rc_10_4 := by
  obtain ⟨hx, hb, hml, hown, hts, hr, hlocks, hnm, hKN, hb0, hF⟩ := C
  have hb : c.code = prog_2_method_10_code := hb
  have hown : s.vm.findClass "RudeCoupons$Book" = some m.cls := hown
  have hr : meth.sig.returnType = some .int := hr
  refine bs_c (pc := 73) (s_icmp_lt hx hb (by decide +kernel) hF) ?_
  refine bs_c (pc := 76) (s_iload hx hb (by decide +kernel)) ?_
  refine bs_c (pc := 78) (s_goto hx hb (pc' := 0) (by decide +kernel)) ?_
  exact bs_n
set_option maxRecDepth 20000 in
theorem b_10_5 (C : CX p l s m args meth c d E F 10) : BB p l e s m args below meth c d E F K0 10 81 rc_10_5 := by
  obtain ⟨hx, hb, hml, hown, hts, hr, hlocks, hnm, hKN, hb0, hF⟩ := C
  have hb : c.code = prog_2_method_10_code := hb
  have hown : s.vm.findClass "RudeCoupons$Book" = some m.cls := hown
  have hr : meth.sig.returnType = some .int := hr
  refine bs_c (pc := 81) (s_bipush hx hb (z := -2) (by decide +kernel) (by decide +kernel)) ?_
  refine bs_c (pc := 83) (s_fall (pc' := 0) (by decide +kernel)) ?_
  exact bs_n
set_option maxRecDepth 20000 in
theorem b_10_6 (C : CX p l s m args meth c d E F 10) : BB p l e s m args below meth c d E F K0 10 83 rc_10_6 := by
  obtain ⟨hx, hb, hml, hown, hts, hr, hlocks, hnm, hKN, hb0, hF⟩ := C
  have hb : c.code = prog_2_method_10_code := hb
  have hown : s.vm.findClass "RudeCoupons$Book" = some m.cls := hown
  have hr : meth.sig.returnType = some .int := hr
  refine bs_c (pc := 83) (s_ireturn hx hb hr hlocks (pc' := 0) (by decide +kernel)) ?_
  exact bs_n
set_option maxRecDepth 20000 in
theorem b_11_0 (C : CX p l s m args meth c d E F 11) : BB p l e s m args below meth c d E F K0 11 0 rc_11_0 := by
  obtain ⟨hx, hb, hml, hown, hts, hr, hlocks, hnm, hKN, hb0, hF⟩ := C
  have hb : c.code = prog_4_method_3_code := hb
  have hown : s.vm.findClass "RudeCoupons$Plans" = some m.cls := hown
  have hr : meth.sig.returnType = none := hr
  refine bs_c (pc := 0) (s_aload_n hx hb (k := 1) (by decide +kernel) rfl) ?_
  refine bs_c (pc := 1) (s_getf hx hb hts in_0 hown hKN.1 (ci := 0) rfl (k := 11) (by decide) (hts _ lf_2_42) (by decide +kernel)) ?_
  refine bs_c (pc := 4) (s_iload_n hx hb (k := 3) (by decide +kernel) rfl) ?_
  refine bs_c (pc := 5) (s_ald0 hx hb hKN.1 (by decide +kernel)) ?_
  refine bs_c (pc := 6) (s_istore hx hb (by decide +kernel) (by decide +kernel)) ?_
  refine bs_c (pc := 8) (s_bipush hx hb (z := 15) (by decide +kernel) (by decide +kernel)) ?_
  refine bs_c (pc := 10) (s_istore hx hb (by decide +kernel) (by decide +kernel)) ?_
  refine bs_c (pc := 12) (s_fall (pc' := 0) (by decide +kernel)) ?_
  exact bs_n
set_option maxRecDepth 20000 in
theorem b_11_1 (C : CX p l s m args meth c d E F 11) : BB p l e s m args below meth c d E F K0 11 12 rc_11_1 := by
  obtain ⟨hx, hb, hml, hown, hts, hr, hlocks, hnm, hKN, hb0, hF⟩ := C
  have hb : c.code = prog_4_method_3_code := hb
  have hown : s.vm.findClass "RudeCoupons$Plans" = some m.cls := hown
  have hr : meth.sig.returnType = none := hr
  refine bs_c (pc := 12) (s_iload hx hb (by decide +kernel)) ?_
  refine bs_c (pc := 14) (s_if_lt hx hb (by decide +kernel) hF) ?_
  refine bs_c (pc := 17) (s_aload_n hx hb (k := 1) (by decide +kernel) rfl) ?_
  refine bs_c (pc := 18) (s_iload_n hx hb (k := 2) (by decide +kernel) rfl) ?_
  refine bs_c (pc := 19) (s_iload hx hb (by decide +kernel)) ?_
  refine bs_c (pc := 21) (s_aload_n hx hb (k := 1) (by decide +kernel) rfl) ?_
  refine bs_c (pc := 22) (s_getf hx hb hts in_0 hown hKN.1 (ci := 0) rfl (k := 9) (by decide) (hts _ lf_2_45) (by decide +kernel)) ?_
  refine bs_c (pc := 25) (s_iload_n hx hb (k := 3) (by decide +kernel) rfl) ?_
  refine bs_c (pc := 26) (s_ald0 hx hb hKN.1 (by decide +kernel)) ?_
  refine bs_c (pc := 27) (s_iload hx hb (by decide +kernel)) ?_
  refine bs_c (pc := 29) (s_call rfl rfl (rk_V hx hb hml (index := 48) (y := 10) (n := 4) hown hts wc_10 (k := 0) rfl rfl lm_2_48 wk_10 wv_10 wi_10 wp_10 (by decide +kernel) (by decide +kernel)) hKN hb0) ?_
  refine bs_c (pc := 32) (s_istore hx hb (by decide +kernel) (by decide +kernel)) ?_
  refine bs_c (pc := 34) (s_iload hx hb (by decide +kernel)) ?_
  refine bs_c (pc := 36) (s_if_lt hx hb (by decide +kernel) hF) ?_
  refine bs_c (pc := 39) (s_aload_n hx hb (k := 0) (by decide +kernel) rfl) ?_
  refine bs_c (pc := 40) (s_getf hx hb hts in_2 hown hKN.1 (ci := 2) rfl (k := 0) (by decide) (hts _ lf_2_11) (by decide +kernel)) ?_
  refine bs_c (pc := 43) (s_iload_n hx hb (k := 2) (by decide +kernel) rfl) ?_
  refine bs_c (pc := 44) (s_aald hx hb hKN.1 (by decide +kernel)) ?_
  refine bs_c (pc := 45) (s_iload hx hb (by decide +kernel)) ?_
  refine bs_c (pc := 47) (s_ald0 hx hb hKN.1 (by decide +kernel)) ?_
  refine bs_c (pc := 48) (s_aload_n hx hb (k := 1) (by decide +kernel) rfl) ?_
  refine bs_c (pc := 49) (s_getf hx hb hts in_0 hown hKN.1 (ci := 0) rfl (k := 5) (by decide) (hts _ lf_2_52) (by decide +kernel)) ?_
  refine bs_c (pc := 52) (s_iload hx hb (by decide +kernel)) ?_
  refine bs_c (pc := 54) (s_ald0 hx hb hKN.1 (by decide +kernel)) ?_
  refine bs_c (pc := 55) (s_iadd hx hb (by decide +kernel)) ?_
  refine bs_c (pc := 56) (s_aload_n hx hb (k := 0) (by decide +kernel) rfl) ?_
  refine bs_c (pc := 57) (s_getf hx hb hts in_2 hown hKN.1 (ci := 2) rfl (k := 0) (by decide) (hts _ lf_2_11) (by decide +kernel)) ?_
  refine bs_c (pc := 60) (s_iload_n hx hb (k := 2) (by decide +kernel) rfl) ?_
  refine bs_c (pc := 61) (s_aald hx hb hKN.1 (by decide +kernel)) ?_
  refine bs_c (pc := 62) (s_iload hx hb (by decide +kernel)) ?_
  refine bs_c (pc := 64) (s_ald0 hx hb hKN.1 (by decide +kernel)) ?_
  refine bs_c (pc := 65) (s_icmp_le hx hb (by decide +kernel) hF) ?_
  refine bs_c (pc := 68) (s_aload_n hx hb (k := 0) (by decide +kernel) rfl) ?_
  refine bs_c (pc := 69) (s_getf hx hb hts in_2 hown hKN.1 (ci := 2) rfl (k := 0) (by decide) (hts _ lf_2_11) (by decide +kernel)) ?_
  refine bs_c (pc := 72) (s_iload_n hx hb (k := 2) (by decide +kernel) rfl) ?_
  refine bs_c (pc := 73) (s_aald hx hb hKN.1 (by decide +kernel)) ?_
  refine bs_c (pc := 74) (s_iload hx hb (by decide +kernel)) ?_
  refine bs_c (pc := 76) (s_aload_n hx hb (k := 0) (by decide +kernel) rfl) ?_
  refine bs_c (pc := 77) (s_getf hx hb hts in_2 hown hKN.1 (ci := 2) rfl (k := 0) (by decide) (hts _ lf_2_11) (by decide +kernel)) ?_
  refine bs_c (pc := 80) (s_iload_n hx hb (k := 2) (by decide +kernel) rfl) ?_
  refine bs_c (pc := 81) (s_aald hx hb hKN.1 (by decide +kernel)) ?_
  refine bs_c (pc := 82) (s_iload hx hb (by decide +kernel)) ?_
  refine bs_c (pc := 84) (s_ald0 hx hb hKN.1 (by decide +kernel)) ?_
  refine bs_c (pc := 85) (s_aload_n hx hb (k := 1) (by decide +kernel) rfl) ?_
  refine bs_c (pc := 86) (s_getf hx hb hts in_0 hown hKN.1 (ci := 0) rfl (k := 5) (by decide) (hts _ lf_2_52) (by decide +kernel)) ?_
  refine bs_c (pc := 89) (s_iload hx hb (by decide +kernel)) ?_
  refine bs_c (pc := 91) (s_ald0 hx hb hKN.1 (by decide +kernel)) ?_
  refine bs_c (pc := 92) (s_iadd hx hb (by decide +kernel)) ?_
  refine bs_c (pc := 93) (s_ast0 hx hb hKN.1 (by decide +kernel)) ?_
  refine bs_c (pc := 94) (s_aload_n hx hb (k := 0) (by decide +kernel) rfl) ?_
  refine bs_c (pc := 95) (s_getf hx hb hts in_2 hown hKN.1 (ci := 2) rfl (k := 1) (by decide) (hts _ lf_2_16) (by decide +kernel)) ?_
  refine bs_c (pc := 98) (s_iload_n hx hb (k := 2) (by decide +kernel) rfl) ?_
  refine bs_c (pc := 99) (s_aald hx hb hKN.1 (by decide +kernel)) ?_
  refine bs_c (pc := 100) (s_iload hx hb (by decide +kernel)) ?_
  refine bs_c (pc := 102) (s_aload_n hx hb (k := 0) (by decide +kernel) rfl) ?_
  refine bs_c (pc := 103) (s_getf hx hb hts in_2 hown hKN.1 (ci := 2) rfl (k := 1) (by decide) (hts _ lf_2_16) (by decide +kernel)) ?_
  refine bs_c (pc := 106) (s_iload_n hx hb (k := 2) (by decide +kernel) rfl) ?_
  refine bs_c (pc := 107) (s_aald hx hb hKN.1 (by decide +kernel)) ?_
  refine bs_c (pc := 108) (s_iload hx hb (by decide +kernel)) ?_
  refine bs_c (pc := 110) (s_ald0 hx hb hKN.1 (by decide +kernel)) ?_
  refine bs_c (pc := 111) (s_iconst hx hb (z := 1) (by decide +kernel) (by decide +kernel)) ?_
  refine bs_c (pc := 112) (s_iload_n hx hb (k := 3) (by decide +kernel) rfl) ?_
  refine bs_c (pc := 113) (s_ishl hx hb (by decide +kernel)) ?_
  refine bs_c (pc := 114) (s_ior hx hb (by decide +kernel)) ?_
  refine bs_c (pc := 115) (s_ast0 hx hb hKN.1 (by decide +kernel)) ?_
  refine bs_c (pc := 116) (s_fall (pc' := 0) (by decide +kernel)) ?_
  exact bs_n
set_option maxRecDepth 20000 in
theorem b_11_2 (C : CX p l s m args meth c d E F 11) : BB p l e s m args below meth c d E F K0 11 116 rc_11_2 := by
  obtain ⟨hx, hb, hml, hown, hts, hr, hlocks, hnm, hKN, hb0, hF⟩ := C
  have hb : c.code = prog_4_method_3_code := hb
  have hown : s.vm.findClass "RudeCoupons$Plans" = some m.cls := hown
  have hr : meth.sig.returnType = none := hr
  refine bs_c (pc := 116) (s_iinc hx hb (z := -1) (by decide +kernel) (by decide +kernel) (by decide +kernel)) ?_
  refine bs_c (pc := 119) (s_goto hx hb (pc' := 0) (by decide +kernel)) ?_
  exact bs_n
set_option maxRecDepth 20000 in
theorem b_11_3 (C : CX p l s m args meth c d E F 11) : BB p l e s m args below meth c d E F K0 11 122 rc_11_3 := by
  obtain ⟨hx, hb, hml, hown, hts, hr, hlocks, hnm, hKN, hb0, hF⟩ := C
  have hb : c.code = prog_4_method_3_code := hb
  have hown : s.vm.findClass "RudeCoupons$Plans" = some m.cls := hown
  have hr : meth.sig.returnType = none := hr
  refine bs_c (pc := 122) (s_return hx hb hr hlocks (pc' := 0) (by decide +kernel)) ?_
  exact bs_n
set_option maxRecDepth 20000 in
theorem b_12_0 (C : CX p l s m args meth c d E F 12) : BB p l e s m args below meth c d E F K0 12 0 rc_12_0 := by
  obtain ⟨hx, hb, hml, hown, hts, hr, hlocks, hnm, hKN, hb0, hF⟩ := C
  have hb : c.code = prog_4_method_8_code := hb
  have hown : s.vm.findClass "RudeCoupons$Plans" = some m.cls := hown
  have hr : meth.sig.returnType = some .int := hr
  refine bs_c (pc := 0) (s_aload_n hx hb (k := 0) (by decide +kernel) rfl) ?_
  refine bs_c (pc := 1) (s_getf hx hb hts in_2 hown hKN.1 (ci := 2) rfl (k := 2) (by decide) (hts _ lf_2_19) (by decide +kernel)) ?_
  refine bs_c (pc := 4) (s_iload_n hx hb (k := 1) (by decide +kernel) rfl) ?_
  refine bs_c (pc := 5) (s_iconst hx hb (z := 1) (by decide +kernel) (by decide +kernel)) ?_
  refine bs_c (pc := 6) (s_iadd hx hb (by decide +kernel)) ?_
  refine bs_c (pc := 7) (s_aald hx hb hKN.1 (by decide +kernel)) ?_
  refine bs_c (pc := 8) (s_iload_n hx hb (k := 3) (by decide +kernel) rfl) ?_
  refine bs_c (pc := 9) (s_iload_n hx hb (k := 2) (by decide +kernel) rfl) ?_
  refine bs_c (pc := 10) (s_isub hx hb (by decide +kernel)) ?_
  refine bs_c (pc := 11) (s_ald0 hx hb hKN.1 (by decide +kernel)) ?_
  refine bs_c (pc := 12) (s_istore hx hb (by decide +kernel) (by decide +kernel)) ?_
  refine bs_c (pc := 14) (s_iload hx hb (by decide +kernel)) ?_
  refine bs_c (pc := 16) (s_if_ge hx hb (by decide +kernel) hF) ?_
  refine bs_c (pc := 19) (s_bipush hx hb (z := -4) (by decide +kernel) (by decide +kernel)) ?_
  refine bs_c (pc := 21) (s_goto hx hb (pc' := 0) (by decide +kernel)) ?_
  exact bs_n
set_option maxRecDepth 20000 in
theorem b_12_1 (C : CX p l s m args meth c d E F 12) : BB p l e s m args below meth c d E F K0 12 24 rc_12_1 := by
  obtain ⟨hx, hb, hml, hown, hts, hr, hlocks, hnm, hKN, hb0, hF⟩ := C
  have hb : c.code = prog_4_method_8_code := hb
  have hown : s.vm.findClass "RudeCoupons$Plans" = some m.cls := hown
  have hr : meth.sig.returnType = some .int := hr
  refine bs_c (pc := 24) (s_iload hx hb (by decide +kernel)) ?_
  refine bs_c (pc := 26) (s_aload_n hx hb (k := 0) (by decide +kernel) rfl) ?_
  refine bs_c (pc := 27) (s_getf hx hb hts in_2 hown hKN.1 (ci := 2) rfl (k := 0) (by decide) (hts _ lf_2_11) (by decide +kernel)) ?_
  refine bs_c (pc := 30) (s_iload_n hx hb (k := 1) (by decide +kernel) rfl) ?_
  refine bs_c (pc := 31) (s_aald hx hb hKN.1 (by decide +kernel)) ?_
  refine bs_c (pc := 32) (s_iload_n hx hb (k := 2) (by decide +kernel) rfl) ?_
  refine bs_c (pc := 33) (s_ald0 hx hb hKN.1 (by decide +kernel)) ?_
  refine bs_c (pc := 34) (s_iadd hx hb (by decide +kernel)) ?_
  refine bs_c (pc := 35) (s_fall (pc' := 0) (by decide +kernel)) ?_
  exact bs_n
set_option maxRecDepth 20000 in
theorem b_12_2 (C : CX p l s m args meth c d E F 12) : BB p l e s m args below meth c d E F K0 12 35 rc_12_2 := by
  obtain ⟨hx, hb, hml, hown, hts, hr, hlocks, hnm, hKN, hb0, hF⟩ := C
  have hb : c.code = prog_4_method_8_code := hb
  have hown : s.vm.findClass "RudeCoupons$Plans" = some m.cls := hown
  have hr : meth.sig.returnType = some .int := hr
  refine bs_c (pc := 35) (s_ireturn hx hb hr hlocks (pc' := 0) (by decide +kernel)) ?_
  exact bs_n
end MTH
