/-! METHODS, block by block, by program: every instruction as its handler says -/
section MTH
variable {p : Program} {l : Launch} {e : Env} {s : State} {m : MethodId} {args : Array Value} {below : List Frame} {meth : Method} {c : Code} {d : mD} {E : mE} {F : mF} {K0 : mK}
set_option maxRecDepth 20000 in
theorem b_13_0 (C : CX p l s m args meth c d E F 13) : BB p l e s m args below meth c d E F K0 13 0 rc_13_0 := by
  obtain ⟨hx, hb, hml, hown, hts, hr, hlocks, hnm, hKN, hb0, hF⟩ := C
  have hb : c.code = prog_4_method_7_code := hb
  have hown : s.vm.findClass "RudeCoupons$Plans" = some m.cls := hown
  have hr : meth.sig.returnType = some .int := hr
  refine bs_c (pc := 0) (s_bipush hx hb (z := -4) (by decide +kernel) (by decide +kernel)) ?_
  refine bs_c (pc := 2) (s_istore_n hx hb (k := 3) (by decide +kernel) rfl (by decide +kernel)) ?_
  refine bs_c (pc := 3) (s_iconst hx hb (z := 0) (by decide +kernel) (by decide +kernel)) ?_
  refine bs_c (pc := 4) (s_istore hx hb (by decide +kernel) (by decide +kernel)) ?_
  refine bs_c (pc := 6) (s_fall (pc' := 0) (by decide +kernel)) ?_
  exact bs_n
set_option maxRecDepth 20000 in
theorem b_13_1 (C : CX p l s m args meth c d E F 13) : BB p l e s m args below meth c d E F K0 13 6 rc_13_1 := by
  obtain ⟨hx, hb, hml, hown, hts, hr, hlocks, hnm, hKN, hb0, hF⟩ := C
  have hb : c.code = prog_4_method_7_code := hb
  have hown : s.vm.findClass "RudeCoupons$Plans" = some m.cls := hown
  have hr : meth.sig.returnType = some .int := hr
  refine bs_c (pc := 6) (s_iload hx hb (by decide +kernel)) ?_
  refine bs_c (pc := 8) (s_bipush hx hb (z := 15) (by decide +kernel) (by decide +kernel)) ?_
  refine bs_c (pc := 10) (s_icmp_gt hx hb (by decide +kernel) hF) ?_
  refine bs_c (pc := 13) (s_iload hx hb (by decide +kernel)) ?_
  refine bs_c (pc := 15) (s_iload_n hx hb (k := 2) (by decide +kernel) rfl) ?_
  refine bs_c (pc := 16) (s_icmp_gt hx hb (by decide +kernel) hF) ?_
  refine bs_c (pc := 19) (s_iload_n hx hb (k := 3) (by decide +kernel) rfl) ?_
  refine bs_c (pc := 20) (s_aload_n hx hb (k := 0) (by decide +kernel) rfl) ?_
  refine bs_c (pc := 21) (s_iload_n hx hb (k := 1) (by decide +kernel) rfl) ?_
  refine bs_c (pc := 22) (s_iload hx hb (by decide +kernel)) ?_
  refine bs_c (pc := 24) (s_iload_n hx hb (k := 2) (by decide +kernel) rfl) ?_
  refine bs_c (pc := 25) (s_call rfl rfl (rk_V hx hb hml (index := 65) (y := 12) (n := 3) hown hts wc_12 (k := 2) rfl rfl lm_2_65 wk_12 wv_12 wi_12 wp_12 (by decide +kernel) (by decide +kernel)) hKN hb0) ?_
  refine bs_c (pc := 28) (s_max hx hb hml hown (hts _ lM_2_69) (hts _ wM_max) (hts _ wM_i) (hts _ wN_max) (by decide +kernel) (by decide +kernel) (by decide +kernel)) ?_
  refine bs_c (pc := 31) (s_istore_n hx hb (k := 3) (by decide +kernel) rfl (by decide +kernel)) ?_
  refine bs_c (pc := 32) (s_iinc hx hb (z := 1) (by decide +kernel) (by decide +kernel) (by decide +kernel)) ?_
  refine bs_c (pc := 35) (s_goto hx hb (pc' := 0) (by decide +kernel)) ?_
  exact bs_n
set_option maxRecDepth 20000 in
theorem b_13_2 (C : CX p l s m args meth c d E F 13) : BB p l e s m args below meth c d E F K0 13 38 rc_13_2 := by
  obtain ⟨hx, hb, hml, hown, hts, hr, hlocks, hnm, hKN, hb0, hF⟩ := C
  have hb : c.code = prog_4_method_7_code := hb
  have hown : s.vm.findClass "RudeCoupons$Plans" = some m.cls := hown
  have hr : meth.sig.returnType = some .int := hr
  refine bs_c (pc := 38) (s_iload_n hx hb (k := 3) (by decide +kernel) rfl) ?_
  refine bs_c (pc := 39) (s_ireturn hx hb hr hlocks (pc' := 0) (by decide +kernel)) ?_
  exact bs_n
set_option maxRecDepth 20000 in
theorem b_14_0 (C : CX p l s m args meth c d E F 14) : BB p l e s m args below meth c d E F K0 14 0 rc_14_0 := by
  obtain ⟨hx, hb, hml, hown, hts, hr, hlocks, hnm, hKN, hb0, hF⟩ := C
  have hb : c.code = prog_8_method_4_code := hb
  have hown : s.vm.findClass "RudeCoupons$Standing" = some m.cls := hown
  have hr : meth.sig.returnType = some .boolean := hr
  refine bs_c (pc := 0) (s_aload_n hx hb (k := 0) (by decide +kernel) rfl) ?_
  refine bs_c (pc := 1) (s_getf hx hb hts in_6 hown hKN.1 (ci := 6) rfl (k := 1) (by decide) (hts _ lf_6_28) (by decide +kernel)) ?_
  refine bs_c (pc := 4) (s_iload_n hx hb (k := 1) (by decide +kernel) rfl) ?_
  refine bs_c (pc := 5) (s_ishr hx hb (by decide +kernel)) ?_
  refine bs_c (pc := 6) (s_iconst hx hb (z := 1) (by decide +kernel) (by decide +kernel)) ?_
  refine bs_c (pc := 7) (s_iand hx hb (by decide +kernel)) ?_
  refine bs_c (pc := 8) (s_iconst hx hb (z := 1) (by decide +kernel) (by decide +kernel)) ?_
  refine bs_c (pc := 9) (s_icmp_ne hx hb (by decide +kernel) hF) ?_
  refine bs_c (pc := 12) (s_iconst hx hb (z := 1) (by decide +kernel) (by decide +kernel)) ?_
  refine bs_c (pc := 13) (s_goto hx hb (pc' := 0) (by decide +kernel)) ?_
  exact bs_n
set_option maxRecDepth 20000 in
theorem b_14_1 (C : CX p l s m args meth c d E F 14) : BB p l e s m args below meth c d E F K0 14 16 rc_14_1 := by
  obtain ⟨hx, hb, hml, hown, hts, hr, hlocks, hnm, hKN, hb0, hF⟩ := C
  have hb : c.code = prog_8_method_4_code := hb
  have hown : s.vm.findClass "RudeCoupons$Standing" = some m.cls := hown
  have hr : meth.sig.returnType = some .boolean := hr
  refine bs_c (pc := 16) (s_iconst hx hb (z := 0) (by decide +kernel) (by decide +kernel)) ?_
  refine bs_c (pc := 17) (s_fall (pc' := 0) (by decide +kernel)) ?_
  exact bs_n
set_option maxRecDepth 20000 in
theorem b_14_2 (C : CX p l s m args meth c d E F 14) : BB p l e s m args below meth c d E F K0 14 17 rc_14_2 := by
  obtain ⟨hx, hb, hml, hown, hts, hr, hlocks, hnm, hKN, hb0, hF⟩ := C
  have hb : c.code = prog_8_method_4_code := hb
  have hown : s.vm.findClass "RudeCoupons$Standing" = some m.cls := hown
  have hr : meth.sig.returnType = some .boolean := hr
  refine bs_c (pc := 17) (s_zreturn hx hb hr nar_z hlocks (pc' := 0) (by decide +kernel)) ?_
  exact bs_n
set_option maxRecDepth 20000 in
theorem b_15_0 (C : CX p l s m args meth c d E F 15) : BB p l e s m args below meth c d E F K0 15 0 rc_15_0 := by
  obtain ⟨hx, hb, hml, hown, hts, hr, hlocks, hnm, hKN, hb0, hF⟩ := C
  have hb : c.code = prog_8_method_5_code := hb
  have hown : s.vm.findClass "RudeCoupons$Standing" = some m.cls := hown
  have hr : meth.sig.returnType = some .boolean := hr
  refine bs_c (pc := 0) (s_aload_n hx hb (k := 1) (by decide +kernel) rfl) ?_
  refine bs_c (pc := 1) (s_getf hx hb hts in_0 hown hKN.1 (ci := 0) rfl (k := 9) (by decide) (hts _ lf_6_43) (by decide +kernel)) ?_
  refine bs_c (pc := 4) (s_iload_n hx hb (k := 2) (by decide +kernel) rfl) ?_
  refine bs_c (pc := 5) (s_ald0 hx hb hKN.1 (by decide +kernel)) ?_
  refine bs_c (pc := 6) (s_aload_n hx hb (k := 0) (by decide +kernel) rfl) ?_
  refine bs_c (pc := 7) (s_getf hx hb hts in_6 hown hKN.1 (ci := 6) rfl (k := 0) (by decide) (hts _ lf_6_24) (by decide +kernel)) ?_
  refine bs_c (pc := 10) (s_icmp_lt hx hb (by decide +kernel) hF) ?_
  refine bs_c (pc := 13) (s_aload_n hx hb (k := 0) (by decide +kernel) rfl) ?_
  refine bs_c (pc := 14) (s_iload_n hx hb (k := 2) (by decide +kernel) rfl) ?_
  refine bs_c (pc := 15) (s_call rfl rfl (rk_V hx hb hml (index := 45) (y := 14) (n := 1) hown hts wc_14 (k := 6) rfl rfl lm_6_45 wk_14 wv_14 wi_14 wp_14 (by decide +kernel) (by decide +kernel)) hKN hb0) ?_
  refine bs_c (pc := 18) (s_if_ne hx hb (by decide +kernel) hF) ?_
  refine bs_c (pc := 21) (s_iconst hx hb (z := 1) (by decide +kernel) (by decide +kernel)) ?_
  refine bs_c (pc := 22) (s_goto hx hb (pc' := 0) (by decide +kernel)) ?_
  exact bs_n
set_option maxRecDepth 20000 in
theorem b_15_1 (C : CX p l s m args meth c d E F 15) : BB p l e s m args below meth c d E F K0 15 25 rc_15_1 := by
  obtain ⟨hx, hb, hml, hown, hts, hr, hlocks, hnm, hKN, hb0, hF⟩ := C
  have hb : c.code = prog_8_method_5_code := hb
  have hown : s.vm.findClass "RudeCoupons$Standing" = some m.cls := hown
  have hr : meth.sig.returnType = some .boolean := hr
  refine bs_c (pc := 25) (s_iconst hx hb (z := 0) (by decide +kernel) (by decide +kernel)) ?_
  refine bs_c (pc := 26) (s_fall (pc' := 0) (by decide +kernel)) ?_
  exact bs_n
set_option maxRecDepth 20000 in
theorem b_15_2 (C : CX p l s m args meth c d E F 15) : BB p l e s m args below meth c d E F K0 15 26 rc_15_2 := by
  obtain ⟨hx, hb, hml, hown, hts, hr, hlocks, hnm, hKN, hb0, hF⟩ := C
  have hb : c.code = prog_8_method_5_code := hb
  have hown : s.vm.findClass "RudeCoupons$Standing" = some m.cls := hown
  have hr : meth.sig.returnType = some .boolean := hr
  refine bs_c (pc := 26) (s_zreturn hx hb hr nar_z hlocks (pc' := 0) (by decide +kernel)) ?_
  exact bs_n
set_option maxRecDepth 20000 in
theorem b_16_0 (C : CX p l s m args meth c d E F 16) : BB p l e s m args below meth c d E F K0 16 0 rc_16_0 := by
  obtain ⟨hx, hb, hml, hown, hts, hr, hlocks, hnm, hKN, hb0, hF⟩ := C
  have hb : c.code = prog_1_method_35_code := hb
  have hown : s.vm.findClass "RudeCoupons" = some m.cls := hown
  have hr : meth.sig.returnType = some .boolean := hr
  refine bs_c (pc := 0) (s_iload_n hx hb (k := 0) (by decide +kernel) rfl) ?_
  refine bs_c (pc := 1) (s_iload_n hx hb (k := 1) (by decide +kernel) rfl) ?_
  refine bs_c (pc := 2) (s_icmp_lt hx hb (by decide +kernel) hF) ?_
  refine bs_c (pc := 5) (s_iload_n hx hb (k := 0) (by decide +kernel) rfl) ?_
  refine bs_c (pc := 6) (s_iload_n hx hb (k := 2) (by decide +kernel) rfl) ?_
  refine bs_c (pc := 7) (s_icmp_gt hx hb (by decide +kernel) hF) ?_
  refine bs_c (pc := 10) (s_iconst hx hb (z := 1) (by decide +kernel) (by decide +kernel)) ?_
  refine bs_c (pc := 11) (s_goto hx hb (pc' := 0) (by decide +kernel)) ?_
  exact bs_n
set_option maxRecDepth 20000 in
theorem b_16_1 (C : CX p l s m args meth c d E F 16) : BB p l e s m args below meth c d E F K0 16 14 rc_16_1 := by
  obtain ⟨hx, hb, hml, hown, hts, hr, hlocks, hnm, hKN, hb0, hF⟩ := C
  have hb : c.code = prog_1_method_35_code := hb
  have hown : s.vm.findClass "RudeCoupons" = some m.cls := hown
  have hr : meth.sig.returnType = some .boolean := hr
  refine bs_c (pc := 14) (s_iconst hx hb (z := 0) (by decide +kernel) (by decide +kernel)) ?_
  refine bs_c (pc := 15) (s_fall (pc' := 0) (by decide +kernel)) ?_
  exact bs_n
set_option maxRecDepth 20000 in
theorem b_16_2 (C : CX p l s m args meth c d E F 16) : BB p l e s m args below meth c d E F K0 16 15 rc_16_2 := by
  obtain ⟨hx, hb, hml, hown, hts, hr, hlocks, hnm, hKN, hb0, hF⟩ := C
  have hb : c.code = prog_1_method_35_code := hb
  have hown : s.vm.findClass "RudeCoupons" = some m.cls := hown
  have hr : meth.sig.returnType = some .boolean := hr
  refine bs_c (pc := 15) (s_zreturn hx hb hr nar_z hlocks (pc' := 0) (by decide +kernel)) ?_
  exact bs_n
set_option maxRecDepth 20000 in
theorem b_17_0 (C : CX p l s m args meth c d E F 17) : BB p l e s m args below meth c d E F K0 17 0 rc_17_0 := by
  obtain ⟨hx, hb, hml, hown, hts, hr, hlocks, hnm, hKN, hb0, hF⟩ := C
  have hb : c.code = prog_2_method_1_code := hb
  have hown : s.vm.findClass "RudeCoupons$Book" = some m.cls := hown
  have hr : meth.sig.returnType = none := hr
  have hnm : meth.name = "<init>" := hnm
  refine bs_c (pc := 0) (s_aload_n hx hb (k := 0) (by decide +kernel) rfl) ?_
  refine bs_c (pc := 1) (s_oinit hx hb hml hown (hts _ lo_0) (hts _ wo_1) (hts _ wo_2) (by decide +kernel) (by decide +kernel) (by decide +kernel)) ?_
  refine bs_c (pc := 4) (s_aload_n hx hb (k := 0) (by decide +kernel) rfl) ?_
  refine bs_c (pc := 5) (s_bipush hx hb (z := 6) (by decide +kernel) (by decide +kernel)) ?_
  refine bs_c (pc := 7) (s_newa0 hx hb (hts _ wa_0) hKN.1 hb0 (by decide +kernel)) ?_
  refine bs_c (pc := 9) (s_putRF hx hb hts in_0 hown hKN.1 (ci := 0) rfl (k := 1) (by decide) (hts _ lf_0_9) tyX0 tyX0_ok nmX0 (ty := .array .int) (tyX0_ok 1 (by decide)) (fun _ => ⟨rfl, rfl⟩) rfl hnm rfl (by decide +kernel)) ?_
  refine bs_c (pc := 12) (s_aload_n hx hb (k := 0) (by decide +kernel) rfl) ?_
  refine bs_c (pc := 13) (s_bipush hx hb (z := 6) (by decide +kernel) (by decide +kernel)) ?_
  refine bs_c (pc := 15) (s_newa0 hx hb (hts _ wa_0) hKN.1 hb0 (by decide +kernel)) ?_
  refine bs_c (pc := 17) (s_putRF hx hb hts in_0 hown hKN.1 (ci := 0) rfl (k := 2) (by decide) (hts _ lf_0_15) tyX0 tyX0_ok nmX0 (ty := .array .int) (tyX0_ok 2 (by decide)) (fun _ => ⟨rfl, rfl⟩) rfl hnm rfl (by decide +kernel)) ?_
  refine bs_c (pc := 20) (s_aload_n hx hb (k := 0) (by decide +kernel) rfl) ?_
  refine bs_c (pc := 21) (s_bipush hx hb (z := 6) (by decide +kernel) (by decide +kernel)) ?_
  refine bs_c (pc := 23) (s_newa0 hx hb (hts _ wa_0) hKN.1 hb0 (by decide +kernel)) ?_
  refine bs_c (pc := 25) (s_putRF hx hb hts in_0 hown hKN.1 (ci := 0) rfl (k := 3) (by decide) (hts _ lf_0_18) tyX0 tyX0_ok nmX0 (ty := .array .int) (tyX0_ok 3 (by decide)) (fun _ => ⟨rfl, rfl⟩) rfl hnm rfl (by decide +kernel)) ?_
  refine bs_c (pc := 28) (s_aload_n hx hb (k := 0) (by decide +kernel) rfl) ?_
  refine bs_c (pc := 29) (s_bipush hx hb (z := 6) (by decide +kernel) (by decide +kernel)) ?_
  refine bs_c (pc := 31) (s_newa0 hx hb (hts _ wa_0) hKN.1 hb0 (by decide +kernel)) ?_
  refine bs_c (pc := 33) (s_putRF hx hb hts in_0 hown hKN.1 (ci := 0) rfl (k := 5) (by decide) (hts _ lf_0_21) tyX0 tyX0_ok nmX0 (ty := .array .int) (tyX0_ok 5 (by decide)) (fun _ => ⟨rfl, rfl⟩) rfl hnm rfl (by decide +kernel)) ?_
  refine bs_c (pc := 36) (s_aload_n hx hb (k := 0) (by decide +kernel) rfl) ?_
  refine bs_c (pc := 37) (s_bipush hx hb (z := 6) (by decide +kernel) (by decide +kernel)) ?_
  refine bs_c (pc := 39) (s_newa0 hx hb (hts _ wa_0) hKN.1 hb0 (by decide +kernel)) ?_
  refine bs_c (pc := 41) (s_putRF hx hb hts in_0 hown hKN.1 (ci := 0) rfl (k := 6) (by decide) (hts _ lf_0_24) tyX0 tyX0_ok nmX0 (ty := .array .int) (tyX0_ok 6 (by decide)) (fun _ => ⟨rfl, rfl⟩) rfl hnm rfl (by decide +kernel)) ?_
  refine bs_c (pc := 44) (s_aload_n hx hb (k := 0) (by decide +kernel) rfl) ?_
  refine bs_c (pc := 45) (s_bipush hx hb (z := 6) (by decide +kernel) (by decide +kernel)) ?_
  refine bs_c (pc := 47) (s_newa0 hx hb (hts _ wa_0) hKN.1 hb0 (by decide +kernel)) ?_
  refine bs_c (pc := 49) (s_putRF hx hb hts in_0 hown hKN.1 (ci := 0) rfl (k := 7) (by decide) (hts _ lf_0_27) tyX0 tyX0_ok nmX0 (ty := .array .int) (tyX0_ok 7 (by decide)) (fun _ => ⟨rfl, rfl⟩) rfl hnm rfl (by decide +kernel)) ?_
  refine bs_c (pc := 52) (s_aload_n hx hb (k := 0) (by decide +kernel) rfl) ?_
  refine bs_c (pc := 53) (s_bipush hx hb (z := 10) (by decide +kernel) (by decide +kernel)) ?_
  refine bs_c (pc := 55) (s_newa0 hx hb (hts _ wa_0) hKN.1 hb0 (by decide +kernel)) ?_
  refine bs_c (pc := 57) (s_putRF hx hb hts in_0 hown hKN.1 (ci := 0) rfl (k := 9) (by decide) (hts _ lf_0_30) tyX0 tyX0_ok nmX0 (ty := .array .int) (tyX0_ok 9 (by decide)) (fun _ => ⟨rfl, rfl⟩) rfl hnm rfl (by decide +kernel)) ?_
  refine bs_c (pc := 60) (s_aload_n hx hb (k := 0) (by decide +kernel) rfl) ?_
  refine bs_c (pc := 61) (s_bipush hx hb (z := 10) (by decide +kernel) (by decide +kernel)) ?_
  refine bs_c (pc := 63) (s_newa0 hx hb (hts _ wa_0) hKN.1 hb0 (by decide +kernel)) ?_
  refine bs_c (pc := 65) (s_putRF hx hb hts in_0 hown hKN.1 (ci := 0) rfl (k := 10) (by decide) (hts _ lf_0_33) tyX0 tyX0_ok nmX0 (ty := .array .int) (tyX0_ok 10 (by decide)) (fun _ => ⟨rfl, rfl⟩) rfl hnm rfl (by decide +kernel)) ?_
  refine bs_c (pc := 68) (s_aload_n hx hb (k := 0) (by decide +kernel) rfl) ?_
  refine bs_c (pc := 69) (s_bipush hx hb (z := 10) (by decide +kernel) (by decide +kernel)) ?_
  refine bs_c (pc := 71) (s_newa0 hx hb (hts _ wa_0) hKN.1 hb0 (by decide +kernel)) ?_
  refine bs_c (pc := 73) (s_putRF hx hb hts in_0 hown hKN.1 (ci := 0) rfl (k := 11) (by decide) (hts _ lf_0_36) tyX0 tyX0_ok nmX0 (ty := .array .int) (tyX0_ok 11 (by decide)) (fun _ => ⟨rfl, rfl⟩) rfl hnm rfl (by decide +kernel)) ?_
  refine bs_c (pc := 76) (s_aload_n hx hb (k := 0) (by decide +kernel) rfl) ?_
  refine bs_c (pc := 77) (s_bipush hx hb (z := 10) (by decide +kernel) (by decide +kernel)) ?_
  refine bs_c (pc := 79) (s_newa0 hx hb (hts _ wa_0) hKN.1 hb0 (by decide +kernel)) ?_
  refine bs_c (pc := 81) (s_putRF hx hb hts in_0 hown hKN.1 (ci := 0) rfl (k := 12) (by decide) (hts _ lf_0_39) tyX0 tyX0_ok nmX0 (ty := .array .int) (tyX0_ok 12 (by decide)) (fun _ => ⟨rfl, rfl⟩) rfl hnm rfl (by decide +kernel)) ?_
  refine bs_c (pc := 84) (s_return hx hb hr hlocks (pc' := 0) (by decide +kernel)) ?_
  exact bs_n
set_option maxRecDepth 20000 in
theorem b_18_0 (C : CX p l s m args meth c d E F 18) : BB p l e s m args below meth c d E F K0 18 0 rc_18_0 := by
  obtain ⟨hx, hb, hml, hown, hts, hr, hlocks, hnm, hKN, hb0, hF⟩ := C
  have hb : c.code = prog_2_method_2_code := hb
  have hown : s.vm.findClass "RudeCoupons$Book" = some m.cls := hown
  have hr : meth.sig.returnType = none := hr
  refine bs_c (pc := 0) (s_aload_n hx hb (k := 0) (by decide +kernel) rfl) ?_
  refine bs_c (pc := 1) (s_iconst hx hb (z := 0) (by decide +kernel) (by decide +kernel)) ?_
  refine bs_c (pc := 2) (s_putI hx hb hts in_0 hown hKN.1 (ci := 0) rfl (k := 0) (by decide) (hts _ lf_0_42) tyX0 tyX0_ok nmX0 (tyX0_ok 0 (by decide)) rfl (by decide +kernel)) ?_
  refine bs_c (pc := 5) (s_aload_n hx hb (k := 0) (by decide +kernel) rfl) ?_
  refine bs_c (pc := 6) (s_iconst hx hb (z := 0) (by decide +kernel) (by decide +kernel)) ?_
  refine bs_c (pc := 7) (s_putI hx hb hts in_0 hown hKN.1 (ci := 0) rfl (k := 4) (by decide) (hts _ lf_0_46) tyX0 tyX0_ok nmX0 (tyX0_ok 4 (by decide)) rfl (by decide +kernel)) ?_
  refine bs_c (pc := 10) (s_aload_n hx hb (k := 0) (by decide +kernel) rfl) ?_
  refine bs_c (pc := 11) (s_iconst hx hb (z := 0) (by decide +kernel) (by decide +kernel)) ?_
  refine bs_c (pc := 12) (s_putI hx hb hts in_0 hown hKN.1 (ci := 0) rfl (k := 8) (by decide) (hts _ lf_0_49) tyX0 tyX0_ok nmX0 (tyX0_ok 8 (by decide)) rfl (by decide +kernel)) ?_
  refine bs_c (pc := 15) (s_return hx hb hr hlocks (pc' := 0) (by decide +kernel)) ?_
  exact bs_n
set_option maxRecDepth 20000 in
theorem b_19_0 (C : CX p l s m args meth c d E F 19) : BB p l e s m args below meth c d E F K0 19 0 rc_19_0 := by
  obtain ⟨hx, hb, hml, hown, hts, hr, hlocks, hnm, hKN, hb0, hF⟩ := C
  have hb : c.code = prog_2_method_6_code := hb
  have hown : s.vm.findClass "RudeCoupons$Book" = some m.cls := hown
  have hr : meth.sig.returnType = some .boolean := hr
  refine bs_c (pc := 0) (s_iload_n hx hb (k := 1) (by decide +kernel) rfl) ?_
  refine bs_c (pc := 1) (s_bipush hx hb (z := 112) (by decide +kernel) (by decide +kernel)) ?_
  refine bs_c (pc := 3) (s_icmp_ne hx hb (by decide +kernel) hF) ?_
  refine bs_c (pc := 6) (s_aload_n hx hb (k := 0) (by decide +kernel) rfl) ?_
  refine bs_c (pc := 7) (s_iload_n hx hb (k := 2) (by decide +kernel) rfl) ?_
  refine bs_c (pc := 8) (s_iload_n hx hb (k := 3) (by decide +kernel) rfl) ?_
  refine bs_c (pc := 9) (s_iload hx hb (by decide +kernel)) ?_
  refine bs_c (pc := 11) (s_call rfl rfl (rk_V hx hb hml (index := 52) (y := 20) (n := 3) hown hts wc_20 (k := 0) rfl rfl lm_0_52 wk_20 wv_20 wi_20 wp_20 (by decide +kernel) (by decide +kernel)) hKN hb0) ?_
  refine bs_c (pc := 14) (s_zreturn hx hb hr nar_z hlocks (pc' := 0) (by decide +kernel)) ?_
  exact bs_n
set_option maxRecDepth 20000 in
theorem b_19_1 (C : CX p l s m args meth c d E F 19) : BB p l e s m args below meth c d E F K0 19 15 rc_19_1 := by
  obtain ⟨hx, hb, hml, hown, hts, hr, hlocks, hnm, hKN, hb0, hF⟩ := C
  have hb : c.code = prog_2_method_6_code := hb
  have hown : s.vm.findClass "RudeCoupons$Book" = some m.cls := hown
  have hr : meth.sig.returnType = some .boolean := hr
  refine bs_c (pc := 15) (s_iload_n hx hb (k := 1) (by decide +kernel) rfl) ?_
  refine bs_c (pc := 16) (s_bipush hx hb (z := 100) (by decide +kernel) (by decide +kernel)) ?_
  refine bs_c (pc := 18) (s_icmp_ne hx hb (by decide +kernel) hF) ?_
  refine bs_c (pc := 21) (s_aload_n hx hb (k := 0) (by decide +kernel) rfl) ?_
  refine bs_c (pc := 22) (s_iload_n hx hb (k := 2) (by decide +kernel) rfl) ?_
  refine bs_c (pc := 23) (s_iload_n hx hb (k := 3) (by decide +kernel) rfl) ?_
  refine bs_c (pc := 24) (s_iload hx hb (by decide +kernel)) ?_
  refine bs_c (pc := 26) (s_call rfl rfl (rk_V hx hb hml (index := 56) (y := 21) (n := 3) hown hts wc_21 (k := 0) rfl rfl lm_0_56 wk_21 wv_21 wi_21 wp_21 (by decide +kernel) (by decide +kernel)) hKN hb0) ?_
  refine bs_c (pc := 29) (s_zreturn hx hb hr nar_z hlocks (pc' := 0) (by decide +kernel)) ?_
  exact bs_n
set_option maxRecDepth 20000 in
theorem b_19_2 (C : CX p l s m args meth c d E F 19) : BB p l e s m args below meth c d E F K0 19 30 rc_19_2 := by
  obtain ⟨hx, hb, hml, hown, hts, hr, hlocks, hnm, hKN, hb0, hF⟩ := C
  have hb : c.code = prog_2_method_6_code := hb
  have hown : s.vm.findClass "RudeCoupons$Book" = some m.cls := hown
  have hr : meth.sig.returnType = some .boolean := hr
  refine bs_c (pc := 30) (s_iload_n hx hb (k := 1) (by decide +kernel) rfl) ?_
  refine bs_c (pc := 31) (s_bipush hx hb (z := 111) (by decide +kernel) (by decide +kernel)) ?_
  refine bs_c (pc := 33) (s_icmp_ne hx hb (by decide +kernel) hF) ?_
  refine bs_c (pc := 36) (s_aload_n hx hb (k := 0) (by decide +kernel) rfl) ?_
  refine bs_c (pc := 37) (s_iload_n hx hb (k := 2) (by decide +kernel) rfl) ?_
  refine bs_c (pc := 38) (s_iload_n hx hb (k := 3) (by decide +kernel) rfl) ?_
  refine bs_c (pc := 39) (s_iload hx hb (by decide +kernel)) ?_
  refine bs_c (pc := 41) (s_call rfl rfl (rk_V hx hb hml (index := 59) (y := 22) (n := 3) hown hts wc_22 (k := 0) rfl rfl lm_0_59 wk_22 wv_22 wi_22 wp_22 (by decide +kernel) (by decide +kernel)) hKN hb0) ?_
  refine bs_c (pc := 44) (s_if_eq hx hb (by decide +kernel) hF) ?_
  refine bs_c (pc := 47) (s_iconst hx hb (z := 1) (by decide +kernel) (by decide +kernel)) ?_
  refine bs_c (pc := 48) (s_goto hx hb (pc' := 0) (by decide +kernel)) ?_
  exact bs_n
set_option maxRecDepth 20000 in
theorem b_19_3 (C : CX p l s m args meth c d E F 19) : BB p l e s m args below meth c d E F K0 19 51 rc_19_3 := by
  obtain ⟨hx, hb, hml, hown, hts, hr, hlocks, hnm, hKN, hb0, hF⟩ := C
  have hb : c.code = prog_2_method_6_code := hb
  have hown : s.vm.findClass "RudeCoupons$Book" = some m.cls := hown
  have hr : meth.sig.returnType = some .boolean := hr
  refine bs_c (pc := 51) (s_iconst hx hb (z := 0) (by decide +kernel) (by decide +kernel)) ?_
  refine bs_c (pc := 52) (s_fall (pc' := 0) (by decide +kernel)) ?_
  exact bs_n
set_option maxRecDepth 20000 in
theorem b_19_4 (C : CX p l s m args meth c d E F 19) : BB p l e s m args below meth c d E F K0 19 52 rc_19_4 := by
  obtain ⟨hx, hb, hml, hown, hts, hr, hlocks, hnm, hKN, hb0, hF⟩ := C
  have hb : c.code = prog_2_method_6_code := hb
  have hown : s.vm.findClass "RudeCoupons$Book" = some m.cls := hown
  have hr : meth.sig.returnType = some .boolean := hr
  refine bs_c (pc := 52) (s_zreturn hx hb hr nar_z hlocks (pc' := 0) (by decide +kernel)) ?_
  exact bs_n
set_option maxRecDepth 20000 in
theorem b_20_0 (C : CX p l s m args meth c d E F 20) : BB p l e s m args below meth c d E F K0 20 0 rc_20_0 := by
  obtain ⟨hx, hb, hml, hown, hts, hr, hlocks, hnm, hKN, hb0, hF⟩ := C
  have hb : c.code = prog_2_method_7_code := hb
  have hown : s.vm.findClass "RudeCoupons$Book" = some m.cls := hown
  have hr : meth.sig.returnType = some .boolean := hr
  refine bs_c (pc := 0) (s_aload_n hx hb (k := 0) (by decide +kernel) rfl) ?_
  refine bs_c (pc := 1) (s_getf hx hb hts in_0 hown hKN.1 (ci := 0) rfl (k := 0) (by decide) (hts _ lf_0_42) (by decide +kernel)) ?_
  refine bs_c (pc := 4) (s_bipush hx hb (z := 6) (by decide +kernel) (by decide +kernel)) ?_
  refine bs_c (pc := 6) (s_icmp_ge hx hb (by decide +kernel) hF) ?_
  refine bs_c (pc := 9) (s_iload_n hx hb (k := 1) (by decide +kernel) rfl) ?_
  refine bs_c (pc := 10) (s_iconst hx hb (z := 0) (by decide +kernel) (by decide +kernel)) ?_
  refine bs_c (pc := 11) (s_iconst hx hb (z := 3) (by decide +kernel) (by decide +kernel)) ?_
  refine bs_c (pc := 12) (s_call rfl rfl (rk_SN hx hb hml (index := 62) (y := 16) (n := 3) hown hts wc_16 (hKN.2.1 _ ln_0_62) wk_16 wi_16 wp_16 (by decide +kernel) (by decide +kernel)) hKN hb0) ?_
  refine bs_c (pc := 15) (s_if_eq hx hb (by decide +kernel) hF) ?_
  refine bs_c (pc := 18) (s_iload_n hx hb (k := 2) (by decide +kernel) rfl) ?_
  refine bs_c (pc := 19) (s_iconst hx hb (z := 0) (by decide +kernel) (by decide +kernel)) ?_
  refine bs_c (pc := 20) (s_bipush hx hb (z := 15) (by decide +kernel) (by decide +kernel)) ?_
  refine bs_c (pc := 22) (s_call rfl rfl (rk_SN hx hb hml (index := 62) (y := 16) (n := 3) hown hts wc_16 (hKN.2.1 _ ln_0_62) wk_16 wi_16 wp_16 (by decide +kernel) (by decide +kernel)) hKN hb0) ?_
  refine bs_c (pc := 25) (s_if_eq hx hb (by decide +kernel) hF) ?_
  refine bs_c (pc := 28) (s_iload_n hx hb (k := 3) (by decide +kernel) rfl) ?_
  refine bs_c (pc := 29) (s_iconst hx hb (z := 0) (by decide +kernel) (by decide +kernel)) ?_
  refine bs_c (pc := 30) (s_bipush hx hb (z := 9) (by decide +kernel) (by decide +kernel)) ?_
  refine bs_c (pc := 32) (s_call rfl rfl (rk_SN hx hb hml (index := 62) (y := 16) (n := 3) hown hts wc_16 (hKN.2.1 _ ln_0_62) wk_16 wi_16 wp_16 (by decide +kernel) (by decide +kernel)) hKN hb0) ?_
  refine bs_c (pc := 35) (s_if_ne hx hb (by decide +kernel) hF) ?_
  refine bs_c (pc := 38) (s_fall (pc' := 0) (by decide +kernel)) ?_
  exact bs_n
set_option maxRecDepth 20000 in
theorem b_20_1 (C : CX p l s m args meth c d E F 20) : BB p l e s m args below meth c d E F K0 20 38 rc_20_1 := by
  obtain ⟨hx, hb, hml, hown, hts, hr, hlocks, hnm, hKN, hb0, hF⟩ := C
  have hb : c.code = prog_2_method_7_code := hb
  have hown : s.vm.findClass "RudeCoupons$Book" = some m.cls := hown
  have hr : meth.sig.returnType = some .boolean := hr
  refine bs_c (pc := 38) (s_iconst hx hb (z := 0) (by decide +kernel) (by decide +kernel)) ?_
  refine bs_c (pc := 39) (s_zreturn hx hb hr nar_z hlocks (pc' := 0) (by decide +kernel)) ?_
  exact bs_n
set_option maxRecDepth 20000 in
theorem b_20_2 (C : CX p l s m args meth c d E F 20) : BB p l e s m args below meth c d E F K0 20 40 rc_20_2 := by
  obtain ⟨hx, hb, hml, hown, hts, hr, hlocks, hnm, hKN, hb0, hF⟩ := C
  have hb : c.code = prog_2_method_7_code := hb
  have hown : s.vm.findClass "RudeCoupons$Book" = some m.cls := hown
  have hr : meth.sig.returnType = some .boolean := hr
  refine bs_c (pc := 40) (s_aload_n hx hb (k := 0) (by decide +kernel) rfl) ?_
  refine bs_c (pc := 41) (s_getf hx hb hts in_0 hown hKN.1 (ci := 0) rfl (k := 1) (by decide) (hts _ lf_0_9) (by decide +kernel)) ?_
  refine bs_c (pc := 44) (s_aload_n hx hb (k := 0) (by decide +kernel) rfl) ?_
  refine bs_c (pc := 45) (s_getf hx hb hts in_0 hown hKN.1 (ci := 0) rfl (k := 0) (by decide) (hts _ lf_0_42) (by decide +kernel)) ?_
  refine bs_c (pc := 48) (s_iload_n hx hb (k := 1) (by decide +kernel) rfl) ?_
  refine bs_c (pc := 49) (s_ast0 hx hb hKN.1 (by decide +kernel)) ?_
  refine bs_c (pc := 50) (s_aload_n hx hb (k := 0) (by decide +kernel) rfl) ?_
  refine bs_c (pc := 51) (s_getf hx hb hts in_0 hown hKN.1 (ci := 0) rfl (k := 2) (by decide) (hts _ lf_0_15) (by decide +kernel)) ?_
  refine bs_c (pc := 54) (s_aload_n hx hb (k := 0) (by decide +kernel) rfl) ?_
  refine bs_c (pc := 55) (s_getf hx hb hts in_0 hown hKN.1 (ci := 0) rfl (k := 0) (by decide) (hts _ lf_0_42) (by decide +kernel)) ?_
  refine bs_c (pc := 58) (s_iload_n hx hb (k := 2) (by decide +kernel) rfl) ?_
  refine bs_c (pc := 59) (s_ast0 hx hb hKN.1 (by decide +kernel)) ?_
  refine bs_c (pc := 60) (s_aload_n hx hb (k := 0) (by decide +kernel) rfl) ?_
  refine bs_c (pc := 61) (s_getf hx hb hts in_0 hown hKN.1 (ci := 0) rfl (k := 3) (by decide) (hts _ lf_0_18) (by decide +kernel)) ?_
  refine bs_c (pc := 64) (s_aload_n hx hb (k := 0) (by decide +kernel) rfl) ?_
  refine bs_c (pc := 65) (s_getf hx hb hts in_0 hown hKN.1 (ci := 0) rfl (k := 0) (by decide) (hts _ lf_0_42) (by decide +kernel)) ?_
  refine bs_c (pc := 68) (s_iload_n hx hb (k := 3) (by decide +kernel) rfl) ?_
  refine bs_c (pc := 69) (s_ast0 hx hb hKN.1 (by decide +kernel)) ?_
  refine bs_c (pc := 70) (s_aload_n hx hb (k := 0) (by decide +kernel) rfl) ?_
  refine bs_c (pc := 71) (s_dup hx hb (by decide +kernel)) ?_
  refine bs_c (pc := 72) (s_getf hx hb hts in_0 hown hKN.1 (ci := 0) rfl (k := 0) (by decide) (hts _ lf_0_42) (by decide +kernel)) ?_
  refine bs_c (pc := 75) (s_iconst hx hb (z := 1) (by decide +kernel) (by decide +kernel)) ?_
  refine bs_c (pc := 76) (s_iadd hx hb (by decide +kernel)) ?_
  refine bs_c (pc := 77) (s_putI hx hb hts in_0 hown hKN.1 (ci := 0) rfl (k := 0) (by decide) (hts _ lf_0_42) tyX0 tyX0_ok nmX0 (tyX0_ok 0 (by decide)) rfl (by decide +kernel)) ?_
  refine bs_c (pc := 80) (s_iconst hx hb (z := 1) (by decide +kernel) (by decide +kernel)) ?_
  refine bs_c (pc := 81) (s_zreturn hx hb hr nar_z hlocks (pc' := 0) (by decide +kernel)) ?_
  exact bs_n
set_option maxRecDepth 20000 in
theorem b_21_0 (C : CX p l s m args meth c d E F 21) : BB p l e s m args below meth c d E F K0 21 0 rc_21_0 := by
  obtain ⟨hx, hb, hml, hown, hts, hr, hlocks, hnm, hKN, hb0, hF⟩ := C
  have hb : c.code = prog_2_method_8_code := hb
  have hown : s.vm.findClass "RudeCoupons$Book" = some m.cls := hown
  have hr : meth.sig.returnType = some .boolean := hr
  refine bs_c (pc := 0) (s_aload_n hx hb (k := 0) (by decide +kernel) rfl) ?_
  refine bs_c (pc := 1) (s_getf hx hb hts in_0 hown hKN.1 (ci := 0) rfl (k := 4) (by decide) (hts _ lf_0_46) (by decide +kernel)) ?_
  refine bs_c (pc := 4) (s_bipush hx hb (z := 6) (by decide +kernel) (by decide +kernel)) ?_
  refine bs_c (pc := 6) (s_icmp_ge hx hb (by decide +kernel) hF) ?_
  refine bs_c (pc := 9) (s_iload_n hx hb (k := 1) (by decide +kernel) rfl) ?_
  refine bs_c (pc := 10) (s_iconst hx hb (z := 0) (by decide +kernel) (by decide +kernel)) ?_
  refine bs_c (pc := 11) (s_bipush hx hb (z := 30) (by decide +kernel) (by decide +kernel)) ?_
  refine bs_c (pc := 13) (s_call rfl rfl (rk_SN hx hb hml (index := 62) (y := 16) (n := 3) hown hts wc_16 (hKN.2.1 _ ln_0_62) wk_16 wi_16 wp_16 (by decide +kernel) (by decide +kernel)) hKN hb0) ?_
  refine bs_c (pc := 16) (s_if_eq hx hb (by decide +kernel) hF) ?_
  refine bs_c (pc := 19) (s_iload_n hx hb (k := 2) (by decide +kernel) rfl) ?_
  refine bs_c (pc := 20) (s_iconst hx hb (z := 1) (by decide +kernel) (by decide +kernel)) ?_
  refine bs_c (pc := 21) (s_iconst hx hb (z := 3) (by decide +kernel) (by decide +kernel)) ?_
  refine bs_c (pc := 22) (s_call rfl rfl (rk_SN hx hb hml (index := 62) (y := 16) (n := 3) hown hts wc_16 (hKN.2.1 _ ln_0_62) wk_16 wi_16 wp_16 (by decide +kernel) (by decide +kernel)) hKN hb0) ?_
  refine bs_c (pc := 25) (s_if_eq hx hb (by decide +kernel) hF) ?_
  refine bs_c (pc := 28) (s_iload_n hx hb (k := 3) (by decide +kernel) rfl) ?_
  refine bs_c (pc := 29) (s_iconst hx hb (z := 0) (by decide +kernel) (by decide +kernel)) ?_
  refine bs_c (pc := 30) (s_bipush hx hb (z := 9) (by decide +kernel) (by decide +kernel)) ?_
  refine bs_c (pc := 32) (s_call rfl rfl (rk_SN hx hb hml (index := 62) (y := 16) (n := 3) hown hts wc_16 (hKN.2.1 _ ln_0_62) wk_16 wi_16 wp_16 (by decide +kernel) (by decide +kernel)) hKN hb0) ?_
  refine bs_c (pc := 35) (s_if_ne hx hb (by decide +kernel) hF) ?_
  refine bs_c (pc := 38) (s_fall (pc' := 0) (by decide +kernel)) ?_
  exact bs_n
set_option maxRecDepth 20000 in
theorem b_21_1 (C : CX p l s m args meth c d E F 21) : BB p l e s m args below meth c d E F K0 21 38 rc_21_1 := by
  obtain ⟨hx, hb, hml, hown, hts, hr, hlocks, hnm, hKN, hb0, hF⟩ := C
  have hb : c.code = prog_2_method_8_code := hb
  have hown : s.vm.findClass "RudeCoupons$Book" = some m.cls := hown
  have hr : meth.sig.returnType = some .boolean := hr
  refine bs_c (pc := 38) (s_iconst hx hb (z := 0) (by decide +kernel) (by decide +kernel)) ?_
  refine bs_c (pc := 39) (s_zreturn hx hb hr nar_z hlocks (pc' := 0) (by decide +kernel)) ?_
  exact bs_n
set_option maxRecDepth 20000 in
theorem b_21_2 (C : CX p l s m args meth c d E F 21) : BB p l e s m args below meth c d E F K0 21 40 rc_21_2 := by
  obtain ⟨hx, hb, hml, hown, hts, hr, hlocks, hnm, hKN, hb0, hF⟩ := C
  have hb : c.code = prog_2_method_8_code := hb
  have hown : s.vm.findClass "RudeCoupons$Book" = some m.cls := hown
  have hr : meth.sig.returnType = some .boolean := hr
  refine bs_c (pc := 40) (s_aload_n hx hb (k := 0) (by decide +kernel) rfl) ?_
  refine bs_c (pc := 41) (s_getf hx hb hts in_0 hown hKN.1 (ci := 0) rfl (k := 5) (by decide) (hts _ lf_0_21) (by decide +kernel)) ?_
  refine bs_c (pc := 44) (s_aload_n hx hb (k := 0) (by decide +kernel) rfl) ?_
  refine bs_c (pc := 45) (s_getf hx hb hts in_0 hown hKN.1 (ci := 0) rfl (k := 4) (by decide) (hts _ lf_0_46) (by decide +kernel)) ?_
  refine bs_c (pc := 48) (s_iload_n hx hb (k := 1) (by decide +kernel) rfl) ?_
  refine bs_c (pc := 49) (s_ast0 hx hb hKN.1 (by decide +kernel)) ?_
  refine bs_c (pc := 50) (s_aload_n hx hb (k := 0) (by decide +kernel) rfl) ?_
  refine bs_c (pc := 51) (s_getf hx hb hts in_0 hown hKN.1 (ci := 0) rfl (k := 6) (by decide) (hts _ lf_0_24) (by decide +kernel)) ?_
  refine bs_c (pc := 54) (s_aload_n hx hb (k := 0) (by decide +kernel) rfl) ?_
  refine bs_c (pc := 55) (s_getf hx hb hts in_0 hown hKN.1 (ci := 0) rfl (k := 4) (by decide) (hts _ lf_0_46) (by decide +kernel)) ?_
  refine bs_c (pc := 58) (s_iload_n hx hb (k := 2) (by decide +kernel) rfl) ?_
  refine bs_c (pc := 59) (s_ast0 hx hb hKN.1 (by decide +kernel)) ?_
  refine bs_c (pc := 60) (s_aload_n hx hb (k := 0) (by decide +kernel) rfl) ?_
  refine bs_c (pc := 61) (s_getf hx hb hts in_0 hown hKN.1 (ci := 0) rfl (k := 7) (by decide) (hts _ lf_0_27) (by decide +kernel)) ?_
  refine bs_c (pc := 64) (s_aload_n hx hb (k := 0) (by decide +kernel) rfl) ?_
  refine bs_c (pc := 65) (s_getf hx hb hts in_0 hown hKN.1 (ci := 0) rfl (k := 4) (by decide) (hts _ lf_0_46) (by decide +kernel)) ?_
  refine bs_c (pc := 68) (s_iload_n hx hb (k := 3) (by decide +kernel) rfl) ?_
  refine bs_c (pc := 69) (s_ast0 hx hb hKN.1 (by decide +kernel)) ?_
  refine bs_c (pc := 70) (s_aload_n hx hb (k := 0) (by decide +kernel) rfl) ?_
  refine bs_c (pc := 71) (s_dup hx hb (by decide +kernel)) ?_
  refine bs_c (pc := 72) (s_getf hx hb hts in_0 hown hKN.1 (ci := 0) rfl (k := 4) (by decide) (hts _ lf_0_46) (by decide +kernel)) ?_
  refine bs_c (pc := 75) (s_iconst hx hb (z := 1) (by decide +kernel) (by decide +kernel)) ?_
  refine bs_c (pc := 76) (s_iadd hx hb (by decide +kernel)) ?_
  refine bs_c (pc := 77) (s_putI hx hb hts in_0 hown hKN.1 (ci := 0) rfl (k := 4) (by decide) (hts _ lf_0_46) tyX0 tyX0_ok nmX0 (tyX0_ok 4 (by decide)) rfl (by decide +kernel)) ?_
  refine bs_c (pc := 80) (s_iconst hx hb (z := 1) (by decide +kernel) (by decide +kernel)) ?_
  refine bs_c (pc := 81) (s_zreturn hx hb hr nar_z hlocks (pc' := 0) (by decide +kernel)) ?_
  exact bs_n
set_option maxRecDepth 20000 in
theorem b_22_0 (C : CX p l s m args meth c d E F 22) : BB p l e s m args below meth c d E F K0 22 0 rc_22_0 := by
  obtain ⟨hx, hb, hml, hown, hts, hr, hlocks, hnm, hKN, hb0, hF⟩ := C
  have hb : c.code = prog_2_method_9_code := hb
  have hown : s.vm.findClass "RudeCoupons$Book" = some m.cls := hown
  have hr : meth.sig.returnType = some .boolean := hr
  refine bs_c (pc := 0) (s_aload_n hx hb (k := 0) (by decide +kernel) rfl) ?_
  refine bs_c (pc := 1) (s_getf hx hb hts in_0 hown hKN.1 (ci := 0) rfl (k := 8) (by decide) (hts _ lf_0_49) (by decide +kernel)) ?_
  refine bs_c (pc := 4) (s_bipush hx hb (z := 10) (by decide +kernel) (by decide +kernel)) ?_
  refine bs_c (pc := 6) (s_icmp_ge hx hb (by decide +kernel) hF) ?_
  refine bs_c (pc := 9) (s_iload_n hx hb (k := 1) (by decide +kernel) rfl) ?_
  refine bs_c (pc := 10) (s_iconst hx hb (z := 0) (by decide +kernel) (by decide +kernel)) ?_
  refine bs_c (pc := 11) (s_bipush hx hb (z := 60) (by decide +kernel) (by decide +kernel)) ?_
  refine bs_c (pc := 13) (s_call rfl rfl (rk_SN hx hb hml (index := 62) (y := 16) (n := 3) hown hts wc_16 (hKN.2.1 _ ln_0_62) wk_16 wi_16 wp_16 (by decide +kernel) (by decide +kernel)) hKN hb0) ?_
  refine bs_c (pc := 16) (s_if_eq hx hb (by decide +kernel) hF) ?_
  refine bs_c (pc := 19) (s_aload_n hx hb (k := 0) (by decide +kernel) rfl) ?_
  refine bs_c (pc := 20) (s_iload_n hx hb (k := 2) (by decide +kernel) rfl) ?_
  refine bs_c (pc := 21) (s_call rfl rfl (rk_V hx hb hml (index := 65) (y := 23) (n := 1) hown hts wc_23 (k := 0) rfl rfl lm_0_65 wk_23 wv_23 wi_23 wp_23 (by decide +kernel) (by decide +kernel)) hKN hb0) ?_
  refine bs_c (pc := 24) (s_if_eq hx hb (by decide +kernel) hF) ?_
  refine bs_c (pc := 27) (s_aload_n hx hb (k := 0) (by decide +kernel) rfl) ?_
  refine bs_c (pc := 28) (s_iload_n hx hb (k := 3) (by decide +kernel) rfl) ?_
  refine bs_c (pc := 29) (s_call rfl rfl (rk_V hx hb hml (index := 69) (y := 24) (n := 1) hown hts wc_24 (k := 0) rfl rfl lm_0_69 wk_24 wv_24 wi_24 wp_24 (by decide +kernel) (by decide +kernel)) hKN hb0) ?_
  refine bs_c (pc := 32) (s_if_ne hx hb (by decide +kernel) hF) ?_
  refine bs_c (pc := 35) (s_fall (pc' := 0) (by decide +kernel)) ?_
  exact bs_n
set_option maxRecDepth 20000 in
theorem b_22_1 (C : CX p l s m args meth c d E F 22) : BB p l e s m args below meth c d E F K0 22 35 rc_22_1 := by
  obtain ⟨hx, hb, hml, hown, hts, hr, hlocks, hnm, hKN, hb0, hF⟩ := C
  have hb : c.code = prog_2_method_9_code := hb
  have hown : s.vm.findClass "RudeCoupons$Book" = some m.cls := hown
  have hr : meth.sig.returnType = some .boolean := hr
  refine bs_c (pc := 35) (s_iconst hx hb (z := 0) (by decide +kernel) (by decide +kernel)) ?_
  refine bs_c (pc := 36) (s_zreturn hx hb hr nar_z hlocks (pc' := 0) (by decide +kernel)) ?_
  exact bs_n
set_option maxRecDepth 20000 in
theorem b_22_2 (C : CX p l s m args meth c d E F 22) : BB p l e s m args below meth c d E F K0 22 37 rc_22_2 := by
  obtain ⟨hx, hb, hml, hown, hts, hr, hlocks, hnm, hKN, hb0, hF⟩ := C
  have hb : c.code = prog_2_method_9_code := hb
  have hown : s.vm.findClass "RudeCoupons$Book" = some m.cls := hown
  have hr : meth.sig.returnType = some .boolean := hr
  refine bs_c (pc := 37) (s_aload_n hx hb (k := 0) (by decide +kernel) rfl) ?_
  refine bs_c (pc := 38) (s_getf hx hb hts in_0 hown hKN.1 (ci := 0) rfl (k := 9) (by decide) (hts _ lf_0_30) (by decide +kernel)) ?_
  refine bs_c (pc := 41) (s_aload_n hx hb (k := 0) (by decide +kernel) rfl) ?_
  refine bs_c (pc := 42) (s_getf hx hb hts in_0 hown hKN.1 (ci := 0) rfl (k := 8) (by decide) (hts _ lf_0_49) (by decide +kernel)) ?_
  refine bs_c (pc := 45) (s_iload_n hx hb (k := 1) (by decide +kernel) rfl) ?_
  refine bs_c (pc := 46) (s_ast0 hx hb hKN.1 (by decide +kernel)) ?_
  refine bs_c (pc := 47) (s_aload_n hx hb (k := 0) (by decide +kernel) rfl) ?_
  refine bs_c (pc := 48) (s_getf hx hb hts in_0 hown hKN.1 (ci := 0) rfl (k := 10) (by decide) (hts _ lf_0_33) (by decide +kernel)) ?_
  refine bs_c (pc := 51) (s_aload_n hx hb (k := 0) (by decide +kernel) rfl) ?_
  refine bs_c (pc := 52) (s_getf hx hb hts in_0 hown hKN.1 (ci := 0) rfl (k := 8) (by decide) (hts _ lf_0_49) (by decide +kernel)) ?_
  refine bs_c (pc := 55) (s_iload_n hx hb (k := 2) (by decide +kernel) rfl) ?_
  refine bs_c (pc := 56) (s_ast0 hx hb hKN.1 (by decide +kernel)) ?_
  refine bs_c (pc := 57) (s_aload_n hx hb (k := 0) (by decide +kernel) rfl) ?_
  refine bs_c (pc := 58) (s_getf hx hb hts in_0 hown hKN.1 (ci := 0) rfl (k := 11) (by decide) (hts _ lf_0_36) (by decide +kernel)) ?_
  refine bs_c (pc := 61) (s_aload_n hx hb (k := 0) (by decide +kernel) rfl) ?_
  refine bs_c (pc := 62) (s_getf hx hb hts in_0 hown hKN.1 (ci := 0) rfl (k := 8) (by decide) (hts _ lf_0_49) (by decide +kernel)) ?_
  refine bs_c (pc := 65) (s_iload_n hx hb (k := 3) (by decide +kernel) rfl) ?_
  refine bs_c (pc := 66) (s_ast0 hx hb hKN.1 (by decide +kernel)) ?_
  refine bs_c (pc := 67) (s_aload_n hx hb (k := 0) (by decide +kernel) rfl) ?_
  refine bs_c (pc := 68) (s_getf hx hb hts in_0 hown hKN.1 (ci := 0) rfl (k := 8) (by decide) (hts _ lf_0_49) (by decide +kernel)) ?_
  refine bs_c (pc := 71) (s_istore hx hb (by decide +kernel) (by decide +kernel)) ?_
  refine bs_c (pc := 73) (s_fall (pc' := 0) (by decide +kernel)) ?_
  exact bs_n
set_option maxRecDepth 20000 in
theorem b_22_3 (C : CX p l s m args meth c d E F 22) : BB p l e s m args below meth c d E F K0 22 73 rc_22_3 := by
  obtain ⟨hx, hb, hml, hown, hts, hr, hlocks, hnm, hKN, hb0, hF⟩ := C
  have hb : c.code = prog_2_method_9_code := hb
  have hown : s.vm.findClass "RudeCoupons$Book" = some m.cls := hown
  have hr : meth.sig.returnType = some .boolean := hr
  refine bs_c (pc := 73) (s_iload hx hb (by decide +kernel)) ?_
  refine bs_c (pc := 75) (s_if_le hx hb (by decide +kernel) hF) ?_
  refine bs_c (pc := 78) (s_aload_n hx hb (k := 0) (by decide +kernel) rfl) ?_
  refine bs_c (pc := 79) (s_getf hx hb hts in_0 hown hKN.1 (ci := 0) rfl (k := 9) (by decide) (hts _ lf_0_30) (by decide +kernel)) ?_
  refine bs_c (pc := 82) (s_aload_n hx hb (k := 0) (by decide +kernel) rfl) ?_
  refine bs_c (pc := 83) (s_getf hx hb hts in_0 hown hKN.1 (ci := 0) rfl (k := 12) (by decide) (hts _ lf_0_39) (by decide +kernel)) ?_
  refine bs_c (pc := 86) (s_iload hx hb (by decide +kernel)) ?_
  refine bs_c (pc := 88) (s_iconst hx hb (z := 1) (by decide +kernel) (by decide +kernel)) ?_
  refine bs_c (pc := 89) (s_isub hx hb (by decide +kernel)) ?_
  refine bs_c (pc := 90) (s_ald0 hx hb hKN.1 (by decide +kernel)) ?_
  refine bs_c (pc := 91) (s_ald0 hx hb hKN.1 (by decide +kernel)) ?_
  refine bs_c (pc := 92) (s_iload_n hx hb (k := 1) (by decide +kernel) rfl) ?_
  refine bs_c (pc := 93) (s_icmp_le hx hb (by decide +kernel) hF) ?_
  refine bs_c (pc := 96) (s_aload_n hx hb (k := 0) (by decide +kernel) rfl) ?_
  refine bs_c (pc := 97) (s_getf hx hb hts in_0 hown hKN.1 (ci := 0) rfl (k := 12) (by decide) (hts _ lf_0_39) (by decide +kernel)) ?_
  refine bs_c (pc := 100) (s_iload hx hb (by decide +kernel)) ?_
  refine bs_c (pc := 102) (s_aload_n hx hb (k := 0) (by decide +kernel) rfl) ?_
  refine bs_c (pc := 103) (s_getf hx hb hts in_0 hown hKN.1 (ci := 0) rfl (k := 12) (by decide) (hts _ lf_0_39) (by decide +kernel)) ?_
  refine bs_c (pc := 106) (s_iload hx hb (by decide +kernel)) ?_
  refine bs_c (pc := 108) (s_iconst hx hb (z := 1) (by decide +kernel) (by decide +kernel)) ?_
  refine bs_c (pc := 109) (s_isub hx hb (by decide +kernel)) ?_
  refine bs_c (pc := 110) (s_ald0 hx hb hKN.1 (by decide +kernel)) ?_
  refine bs_c (pc := 111) (s_ast0 hx hb hKN.1 (by decide +kernel)) ?_
  refine bs_c (pc := 112) (s_iinc hx hb (z := -1) (by decide +kernel) (by decide +kernel) (by decide +kernel)) ?_
  refine bs_c (pc := 115) (s_goto hx hb (pc' := 0) (by decide +kernel)) ?_
  exact bs_n
set_option maxRecDepth 20000 in
theorem b_22_4 (C : CX p l s m args meth c d E F 22) : BB p l e s m args below meth c d E F K0 22 118 rc_22_4 := by
  obtain ⟨hx, hb, hml, hown, hts, hr, hlocks, hnm, hKN, hb0, hF⟩ := C
  have hb : c.code = prog_2_method_9_code := hb
  have hown : s.vm.findClass "RudeCoupons$Book" = some m.cls := hown
  have hr : meth.sig.returnType = some .boolean := hr
  refine bs_c (pc := 118) (s_aload_n hx hb (k := 0) (by decide +kernel) rfl) ?_
  refine bs_c (pc := 119) (s_getf hx hb hts in_0 hown hKN.1 (ci := 0) rfl (k := 12) (by decide) (hts _ lf_0_39) (by decide +kernel)) ?_
  refine bs_c (pc := 122) (s_iload hx hb (by decide +kernel)) ?_
  refine bs_c (pc := 124) (s_aload_n hx hb (k := 0) (by decide +kernel) rfl) ?_
  refine bs_c (pc := 125) (s_getf hx hb hts in_0 hown hKN.1 (ci := 0) rfl (k := 8) (by decide) (hts _ lf_0_49) (by decide +kernel)) ?_
  refine bs_c (pc := 128) (s_ast0 hx hb hKN.1 (by decide +kernel)) ?_
  refine bs_c (pc := 129) (s_aload_n hx hb (k := 0) (by decide +kernel) rfl) ?_
  refine bs_c (pc := 130) (s_dup hx hb (by decide +kernel)) ?_
  refine bs_c (pc := 131) (s_getf hx hb hts in_0 hown hKN.1 (ci := 0) rfl (k := 8) (by decide) (hts _ lf_0_49) (by decide +kernel)) ?_
  refine bs_c (pc := 134) (s_iconst hx hb (z := 1) (by decide +kernel) (by decide +kernel)) ?_
  refine bs_c (pc := 135) (s_iadd hx hb (by decide +kernel)) ?_
  refine bs_c (pc := 136) (s_putI hx hb hts in_0 hown hKN.1 (ci := 0) rfl (k := 8) (by decide) (hts _ lf_0_49) tyX0 tyX0_ok nmX0 (tyX0_ok 8 (by decide)) rfl (by decide +kernel)) ?_
  refine bs_c (pc := 139) (s_iconst hx hb (z := 1) (by decide +kernel) (by decide +kernel)) ?_
  refine bs_c (pc := 140) (s_zreturn hx hb hr nar_z hlocks (pc' := 0) (by decide +kernel)) ?_
  exact bs_n
set_option maxRecDepth 20000 in
theorem b_23_0 (C : CX p l s m args meth c d E F 23) : BB p l e s m args below meth c d E F K0 23 0 rc_23_0 := by
  obtain ⟨hx, hb, hml, hown, hts, hr, hlocks, hnm, hKN, hb0, hF⟩ := C
  have hb : c.code = prog_2_method_3_code := hb
  have hown : s.vm.findClass "RudeCoupons$Book" = some m.cls := hown
  have hr : meth.sig.returnType = some .boolean := hr
  refine bs_c (pc := 0) (s_iload_n hx hb (k := 1) (by decide +kernel) rfl) ?_
  refine bs_c (pc := 1) (s_if_lt hx hb (by decide +kernel) hF) ?_
  refine bs_c (pc := 4) (s_iload_n hx hb (k := 1) (by decide +kernel) rfl) ?_
  refine bs_c (pc := 5) (s_aload_n hx hb (k := 0) (by decide +kernel) rfl) ?_
  refine bs_c (pc := 6) (s_getf hx hb hts in_0 hown hKN.1 (ci := 0) rfl (k := 0) (by decide) (hts _ lf_0_42) (by decide +kernel)) ?_
  refine bs_c (pc := 9) (s_icmp_ge hx hb (by decide +kernel) hF) ?_
  refine bs_c (pc := 12) (s_iconst hx hb (z := 1) (by decide +kernel) (by decide +kernel)) ?_
  refine bs_c (pc := 13) (s_goto hx hb (pc' := 0) (by decide +kernel)) ?_
  exact bs_n
set_option maxRecDepth 20000 in
theorem b_23_1 (C : CX p l s m args meth c d E F 23) : BB p l e s m args below meth c d E F K0 23 16 rc_23_1 := by
  obtain ⟨hx, hb, hml, hown, hts, hr, hlocks, hnm, hKN, hb0, hF⟩ := C
  have hb : c.code = prog_2_method_3_code := hb
  have hown : s.vm.findClass "RudeCoupons$Book" = some m.cls := hown
  have hr : meth.sig.returnType = some .boolean := hr
  refine bs_c (pc := 16) (s_iconst hx hb (z := 0) (by decide +kernel) (by decide +kernel)) ?_
  refine bs_c (pc := 17) (s_fall (pc' := 0) (by decide +kernel)) ?_
  exact bs_n
set_option maxRecDepth 20000 in
theorem b_23_2 (C : CX p l s m args meth c d E F 23) : BB p l e s m args below meth c d E F K0 23 17 rc_23_2 := by
  obtain ⟨hx, hb, hml, hown, hts, hr, hlocks, hnm, hKN, hb0, hF⟩ := C
  have hb : c.code = prog_2_method_3_code := hb
  have hown : s.vm.findClass "RudeCoupons$Book" = some m.cls := hown
  have hr : meth.sig.returnType = some .boolean := hr
  refine bs_c (pc := 17) (s_zreturn hx hb hr nar_z hlocks (pc' := 0) (by decide +kernel)) ?_
  exact bs_n
set_option maxRecDepth 20000 in
theorem b_24_0 (C : CX p l s m args meth c d E F 24) : BB p l e s m args below meth c d E F K0 24 0 rc_24_0 := by
  obtain ⟨hx, hb, hml, hown, hts, hr, hlocks, hnm, hKN, hb0, hF⟩ := C
  have hb : c.code = prog_2_method_4_code := hb
  have hown : s.vm.findClass "RudeCoupons$Book" = some m.cls := hown
  have hr : meth.sig.returnType = some .boolean := hr
  refine bs_c (pc := 0) (s_iload_n hx hb (k := 1) (by decide +kernel) rfl) ?_
  refine bs_c (pc := 1) (s_if_lt hx hb (by decide +kernel) hF) ?_
  refine bs_c (pc := 4) (s_iload_n hx hb (k := 1) (by decide +kernel) rfl) ?_
  refine bs_c (pc := 5) (s_aload_n hx hb (k := 0) (by decide +kernel) rfl) ?_
  refine bs_c (pc := 6) (s_getf hx hb hts in_0 hown hKN.1 (ci := 0) rfl (k := 4) (by decide) (hts _ lf_0_46) (by decide +kernel)) ?_
  refine bs_c (pc := 9) (s_icmp_ge hx hb (by decide +kernel) hF) ?_
  refine bs_c (pc := 12) (s_iconst hx hb (z := 1) (by decide +kernel) (by decide +kernel)) ?_
  refine bs_c (pc := 13) (s_goto hx hb (pc' := 0) (by decide +kernel)) ?_
  exact bs_n
set_option maxRecDepth 20000 in
theorem b_24_1 (C : CX p l s m args meth c d E F 24) : BB p l e s m args below meth c d E F K0 24 16 rc_24_1 := by
  obtain ⟨hx, hb, hml, hown, hts, hr, hlocks, hnm, hKN, hb0, hF⟩ := C
  have hb : c.code = prog_2_method_4_code := hb
  have hown : s.vm.findClass "RudeCoupons$Book" = some m.cls := hown
  have hr : meth.sig.returnType = some .boolean := hr
  refine bs_c (pc := 16) (s_iconst hx hb (z := 0) (by decide +kernel) (by decide +kernel)) ?_
  refine bs_c (pc := 17) (s_fall (pc' := 0) (by decide +kernel)) ?_
  exact bs_n
set_option maxRecDepth 20000 in
theorem b_24_2 (C : CX p l s m args meth c d E F 24) : BB p l e s m args below meth c d E F K0 24 17 rc_24_2 := by
  obtain ⟨hx, hb, hml, hown, hts, hr, hlocks, hnm, hKN, hb0, hF⟩ := C
  have hb : c.code = prog_2_method_4_code := hb
  have hown : s.vm.findClass "RudeCoupons$Book" = some m.cls := hown
  have hr : meth.sig.returnType = some .boolean := hr
  refine bs_c (pc := 17) (s_zreturn hx hb hr nar_z hlocks (pc' := 0) (by decide +kernel)) ?_
  exact bs_n
set_option maxRecDepth 20000 in
theorem b_25_0 (C : CX p l s m args meth c d E F 25) : BB p l e s m args below meth c d E F K0 25 0 rc_25_0 := by
  obtain ⟨hx, hb, hml, hown, hts, hr, hlocks, hnm, hKN, hb0, hF⟩ := C
  have hb : c.code = prog_2_method_5_code := hb
  have hown : s.vm.findClass "RudeCoupons$Book" = some m.cls := hown
  have hr : meth.sig.returnType = some .boolean := hr
  refine bs_c (pc := 0) (s_iload_n hx hb (k := 1) (by decide +kernel) rfl) ?_
  refine bs_c (pc := 1) (s_if_lt hx hb (by decide +kernel) hF) ?_
  refine bs_c (pc := 4) (s_iload_n hx hb (k := 1) (by decide +kernel) rfl) ?_
  refine bs_c (pc := 5) (s_aload_n hx hb (k := 0) (by decide +kernel) rfl) ?_
  refine bs_c (pc := 6) (s_getf hx hb hts in_0 hown hKN.1 (ci := 0) rfl (k := 8) (by decide) (hts _ lf_0_49) (by decide +kernel)) ?_
  refine bs_c (pc := 9) (s_icmp_ge hx hb (by decide +kernel) hF) ?_
  refine bs_c (pc := 12) (s_iconst hx hb (z := 1) (by decide +kernel) (by decide +kernel)) ?_
  refine bs_c (pc := 13) (s_goto hx hb (pc' := 0) (by decide +kernel)) ?_
  exact bs_n
set_option maxRecDepth 20000 in
theorem b_25_1 (C : CX p l s m args meth c d E F 25) : BB p l e s m args below meth c d E F K0 25 16 rc_25_1 := by
  obtain ⟨hx, hb, hml, hown, hts, hr, hlocks, hnm, hKN, hb0, hF⟩ := C
  have hb : c.code = prog_2_method_5_code := hb
  have hown : s.vm.findClass "RudeCoupons$Book" = some m.cls := hown
  have hr : meth.sig.returnType = some .boolean := hr
  refine bs_c (pc := 16) (s_iconst hx hb (z := 0) (by decide +kernel) (by decide +kernel)) ?_
  refine bs_c (pc := 17) (s_fall (pc' := 0) (by decide +kernel)) ?_
  exact bs_n
set_option maxRecDepth 20000 in
theorem b_25_2 (C : CX p l s m args meth c d E F 25) : BB p l e s m args below meth c d E F K0 25 17 rc_25_2 := by
  obtain ⟨hx, hb, hml, hown, hts, hr, hlocks, hnm, hKN, hb0, hF⟩ := C
  have hb : c.code = prog_2_method_5_code := hb
  have hown : s.vm.findClass "RudeCoupons$Book" = some m.cls := hown
  have hr : meth.sig.returnType = some .boolean := hr
  refine bs_c (pc := 17) (s_zreturn hx hb hr nar_z hlocks (pc' := 0) (by decide +kernel)) ?_
  exact bs_n
set_option maxRecDepth 20000 in
theorem b_26_0 (C : CX p l s m args meth c d E F 26) : BB p l e s m args below meth c d E F K0 26 0 rc_26_0 := by
  obtain ⟨hx, hb, hml, hown, hts, hr, hlocks, hnm, hKN, hb0, hF⟩ := C
  have hb : c.code = prog_2_method_11_code := hb
  have hown : s.vm.findClass "RudeCoupons$Book" = some m.cls := hown
  have hr : meth.sig.returnType = some .int := hr
  refine bs_c (pc := 0) (s_iload_n hx hb (k := 1) (by decide +kernel) rfl) ?_
  refine bs_c (pc := 1) (s_iload_n hx hb (k := 2) (by decide +kernel) rfl) ?_
  refine bs_c (pc := 2) (s_icmp_ne hx hb (by decide +kernel) hF) ?_
  refine bs_c (pc := 5) (s_iconst hx hb (z := 0) (by decide +kernel) (by decide +kernel)) ?_
  refine bs_c (pc := 6) (s_goto hx hb (pc' := 0) (by decide +kernel)) ?_
  exact bs_n
set_option maxRecDepth 20000 in
theorem b_26_1 (C : CX p l s m args meth c d E F 26) : BB p l e s m args below meth c d E F K0 26 9 rc_26_1 := by
  obtain ⟨hx, hb, hml, hown, hts, hr, hlocks, hnm, hKN, hb0, hF⟩ := C
  have hb : c.code = prog_2_method_11_code := hb
  have hown : s.vm.findClass "RudeCoupons$Book" = some m.cls := hown
  have hr : meth.sig.returnType = some .int := hr
  refine bs_c (pc := 9) (s_iconst hx hb (z := 0) (by decide +kernel) (by decide +kernel)) ?_
  refine bs_c (pc := 10) (s_aload_n hx hb (k := 0) (by decide +kernel) rfl) ?_
  refine bs_c (pc := 11) (s_getf hx hb hts in_0 hown hKN.1 (ci := 0) rfl (k := 7) (by decide) (hts _ lf_0_27) (by decide +kernel)) ?_
  refine bs_c (pc := 14) (s_iload_n hx hb (k := 3) (by decide +kernel) rfl) ?_
  refine bs_c (pc := 15) (s_ald0 hx hb hKN.1 (by decide +kernel)) ?_
  refine bs_c (pc := 16) (s_aload_n hx hb (k := 0) (by decide +kernel) rfl) ?_
  refine bs_c (pc := 17) (s_getf hx hb hts in_0 hown hKN.1 (ci := 0) rfl (k := 3) (by decide) (hts _ lf_0_18) (by decide +kernel)) ?_
  refine bs_c (pc := 20) (s_iload_n hx hb (k := 1) (by decide +kernel) rfl) ?_
  refine bs_c (pc := 21) (s_ald0 hx hb hKN.1 (by decide +kernel)) ?_
  refine bs_c (pc := 22) (s_isub hx hb (by decide +kernel)) ?_
  refine bs_c (pc := 23) (s_max hx hb hml hown (hts _ lM_0_72) (hts _ wM_max) (hts _ wM_i) (hts _ wN_max) (by decide +kernel) (by decide +kernel) (by decide +kernel)) ?_
  refine bs_c (pc := 26) (s_fall (pc' := 0) (by decide +kernel)) ?_
  exact bs_n
set_option maxRecDepth 20000 in
theorem b_26_2 (C : CX p l s m args meth c d E F 26) : BB p l e s m args below meth c d E F K0 26 26 rc_26_2 := by
  obtain ⟨hx, hb, hml, hown, hts, hr, hlocks, hnm, hKN, hb0, hF⟩ := C
  have hb : c.code = prog_2_method_11_code := hb
  have hown : s.vm.findClass "RudeCoupons$Book" = some m.cls := hown
  have hr : meth.sig.returnType = some .int := hr
  refine bs_c (pc := 26) (s_ireturn hx hb hr hlocks (pc' := 0) (by decide +kernel)) ?_
  exact bs_n
set_option maxRecDepth 20000 in
theorem b_27_0 (C : CX p l s m args meth c d E F 27) : BB p l e s m args below meth c d E F K0 27 0 rc_27_0 := by
  obtain ⟨hx, hb, hml, hown, hts, hr, hlocks, hnm, hKN, hb0, hF⟩ := C
  have hb : c.code = prog_2_method_12_code := hb
  have hown : s.vm.findClass "RudeCoupons$Book" = some m.cls := hown
  have hr : meth.sig.returnType = some .int := hr
  refine bs_c (pc := 0) (s_iconst hx hb (z := 0) (by decide +kernel) (by decide +kernel)) ?_
  refine bs_c (pc := 1) (s_istore_n hx hb (k := 3) (by decide +kernel) rfl (by decide +kernel)) ?_
  refine bs_c (pc := 2) (s_iconst hx hb (z := 0) (by decide +kernel) (by decide +kernel)) ?_
  refine bs_c (pc := 3) (s_istore hx hb (by decide +kernel) (by decide +kernel)) ?_
  refine bs_c (pc := 5) (s_fall (pc' := 0) (by decide +kernel)) ?_
  exact bs_n
set_option maxRecDepth 20000 in
theorem b_27_1 (C : CX p l s m args meth c d E F 27) : BB p l e s m args below meth c d E F K0 27 5 rc_27_1 := by
  obtain ⟨hx, hb, hml, hown, hts, hr, hlocks, hnm, hKN, hb0, hF⟩ := C
  have hb : c.code = prog_2_method_12_code := hb
  have hown : s.vm.findClass "RudeCoupons$Book" = some m.cls := hown
  have hr : meth.sig.returnType = some .int := hr
  refine bs_c (pc := 5) (s_iload hx hb (by decide +kernel)) ?_
  refine bs_c (pc := 7) (s_aload_n hx hb (k := 0) (by decide +kernel) rfl) ?_
  refine bs_c (pc := 8) (s_getf hx hb hts in_0 hown hKN.1 (ci := 0) rfl (k := 0) (by decide) (hts _ lf_0_42) (by decide +kernel)) ?_
  refine bs_c (pc := 11) (s_icmp_ge hx hb (by decide +kernel) hF) ?_
  refine bs_c (pc := 14) (s_iload_n hx hb (k := 3) (by decide +kernel) rfl) ?_
  refine bs_c (pc := 15) (s_aload_n hx hb (k := 0) (by decide +kernel) rfl) ?_
  refine bs_c (pc := 16) (s_iload hx hb (by decide +kernel)) ?_
  refine bs_c (pc := 18) (s_iload_n hx hb (k := 1) (by decide +kernel) rfl) ?_
  refine bs_c (pc := 19) (s_iload_n hx hb (k := 2) (by decide +kernel) rfl) ?_
  refine bs_c (pc := 20) (s_call rfl rfl (rk_V hx hb hml (index := 78) (y := 26) (n := 3) hown hts wc_26 (k := 0) rfl rfl lm_0_78 wk_26 wv_26 wi_26 wp_26 (by decide +kernel) (by decide +kernel)) hKN hb0) ?_
  refine bs_c (pc := 23) (s_iadd hx hb (by decide +kernel)) ?_
  refine bs_c (pc := 24) (s_istore_n hx hb (k := 3) (by decide +kernel) rfl (by decide +kernel)) ?_
  refine bs_c (pc := 25) (s_iinc hx hb (z := 1) (by decide +kernel) (by decide +kernel) (by decide +kernel)) ?_
  refine bs_c (pc := 28) (s_goto hx hb (pc' := 0) (by decide +kernel)) ?_
  exact bs_n
set_option maxRecDepth 20000 in
theorem b_27_2 (C : CX p l s m args meth c d E F 27) : BB p l e s m args below meth c d E F K0 27 31 rc_27_2 := by
  obtain ⟨hx, hb, hml, hown, hts, hr, hlocks, hnm, hKN, hb0, hF⟩ := C
  have hb : c.code = prog_2_method_12_code := hb
  have hown : s.vm.findClass "RudeCoupons$Book" = some m.cls := hown
  have hr : meth.sig.returnType = some .int := hr
  refine bs_c (pc := 31) (s_iload_n hx hb (k := 3) (by decide +kernel) rfl) ?_
  refine bs_c (pc := 32) (s_ireturn hx hb hr hlocks (pc' := 0) (by decide +kernel)) ?_
  exact bs_n
set_option maxRecDepth 20000 in
theorem b_28_0 (C : CX p l s m args meth c d E F 28) : BB p l e s m args below meth c d E F K0 28 0 rc_28_0 := by
  obtain ⟨hx, hb, hml, hown, hts, hr, hlocks, hnm, hKN, hb0, hF⟩ := C
  have hb : c.code = prog_3_method_1_code := hb
  have hown : s.vm.findClass "RudeCoupons$Letters" = some m.cls := hown
  have hr : meth.sig.returnType = none := hr
  have hnm : meth.name = "<init>" := hnm
  refine bs_c (pc := 0) (s_aload_n hx hb (k := 0) (by decide +kernel) rfl) ?_
  refine bs_c (pc := 1) (s_oinit hx hb hml hown (hts _ lo_1) (hts _ wo_1) (hts _ wo_2) (by decide +kernel) (by decide +kernel) (by decide +kernel)) ?_
  refine bs_c (pc := 4) (s_aload_n hx hb (k := 0) (by decide +kernel) rfl) ?_
  refine bs_c (pc := 5) (s_sipush hx hb (z := 200) (by decide +kernel) (by decide +kernel)) ?_
  refine bs_c (pc := 8) (s_newa1 hx hb (hts _ wa_1) hKN.1 hb0 (by decide +kernel)) ?_
  refine bs_c (pc := 10) (s_putRF hx hb hts in_1 hown hKN.1 (ci := 1) rfl (k := 0) (by decide) (hts _ lf_1_9) tyX1 tyX1_ok nmX1 (ty := .array .char) (tyX1_ok 0 (by decide)) (fun _ => ⟨rfl, rfl⟩) rfl hnm rfl (by decide +kernel)) ?_
  refine bs_c (pc := 13) (s_return hx hb hr hlocks (pc' := 0) (by decide +kernel)) ?_
  exact bs_n
set_option maxRecDepth 20000 in
theorem b_29_0 (C : CX p l s m args meth c d E F 29) : BB p l e s m args below meth c d E F K0 29 0 rc_29_0 := by
  obtain ⟨hx, hb, hml, hown, hts, hr, hlocks, hnm, hKN, hb0, hF⟩ := C
  have hb : c.code = prog_3_method_2_code := hb
  have hown : s.vm.findClass "RudeCoupons$Letters" = some m.cls := hown
  have hr : meth.sig.returnType = some .boolean := hr
  refine bs_c (pc := 0) (s_aload_n hx hb (k := 0) (by decide +kernel) rfl) ?_
  refine bs_c (pc := 1) (s_getf hx hb hts in_1 hown hKN.1 (ci := 1) rfl (k := 1) (by decide) (hts _ lf_1_15) (by decide +kernel)) ?_
  refine bs_c (pc := 4) (s_aload_n hx hb (k := 0) (by decide +kernel) rfl) ?_
  refine bs_c (pc := 5) (s_getf hx hb hts in_1 hown hKN.1 (ci := 1) rfl (k := 0) (by decide) (hts _ lf_1_9) (by decide +kernel)) ?_
  refine bs_c (pc := 8) (s_alen hx hb hKN.1 (by decide +kernel)) ?_
  refine bs_c (pc := 9) (s_icmp_lt hx hb (by decide +kernel) hF) ?_
  refine bs_c (pc := 12) (s_iconst hx hb (z := 0) (by decide +kernel) (by decide +kernel)) ?_
  refine bs_c (pc := 13) (s_zreturn hx hb hr nar_z hlocks (pc' := 0) (by decide +kernel)) ?_
  exact bs_n
set_option maxRecDepth 20000 in
theorem b_29_1 (C : CX p l s m args meth c d E F 29) : BB p l e s m args below meth c d E F K0 29 14 rc_29_1 := by
  obtain ⟨hx, hb, hml, hown, hts, hr, hlocks, hnm, hKN, hb0, hF⟩ := C
  have hb : c.code = prog_3_method_2_code := hb
  have hown : s.vm.findClass "RudeCoupons$Letters" = some m.cls := hown
  have hr : meth.sig.returnType = some .boolean := hr
  refine bs_c (pc := 14) (s_aload_n hx hb (k := 0) (by decide +kernel) rfl) ?_
  refine bs_c (pc := 15) (s_getf hx hb hts in_1 hown hKN.1 (ci := 1) rfl (k := 0) (by decide) (hts _ lf_1_9) (by decide +kernel)) ?_
  refine bs_c (pc := 18) (s_aload_n hx hb (k := 0) (by decide +kernel) rfl) ?_
  refine bs_c (pc := 19) (s_getf hx hb hts in_1 hown hKN.1 (ci := 1) rfl (k := 1) (by decide) (hts _ lf_1_15) (by decide +kernel)) ?_
  refine bs_c (pc := 22) (s_iload_n hx hb (k := 1) (by decide +kernel) rfl) ?_
  refine bs_c (pc := 23) (s_ast1 hx hb hKN.1 (by decide +kernel)) ?_
  refine bs_c (pc := 24) (s_aload_n hx hb (k := 0) (by decide +kernel) rfl) ?_
  refine bs_c (pc := 25) (s_dup hx hb (by decide +kernel)) ?_
  refine bs_c (pc := 26) (s_getf hx hb hts in_1 hown hKN.1 (ci := 1) rfl (k := 1) (by decide) (hts _ lf_1_15) (by decide +kernel)) ?_
  refine bs_c (pc := 29) (s_iconst hx hb (z := 1) (by decide +kernel) (by decide +kernel)) ?_
  refine bs_c (pc := 30) (s_iadd hx hb (by decide +kernel)) ?_
  refine bs_c (pc := 31) (s_putI hx hb hts in_1 hown hKN.1 (ci := 1) rfl (k := 1) (by decide) (hts _ lf_1_15) tyX1 tyX1_ok nmX1 (tyX1_ok 1 (by decide)) rfl (by decide +kernel)) ?_
  refine bs_c (pc := 34) (s_iconst hx hb (z := 1) (by decide +kernel) (by decide +kernel)) ?_
  refine bs_c (pc := 35) (s_zreturn hx hb hr nar_z hlocks (pc' := 0) (by decide +kernel)) ?_
  exact bs_n
set_option maxRecDepth 20000 in
theorem b_30_0 (C : CX p l s m args meth c d E F 30) : BB p l e s m args below meth c d E F K0 30 0 rc_30_0 := by
  obtain ⟨hx, hb, hml, hown, hts, hr, hlocks, hnm, hKN, hb0, hF⟩ := C
  have hb : c.code = prog_3_method_3_code := hb
  have hown : s.vm.findClass "RudeCoupons$Letters" = some m.cls := hown
  have hr : meth.sig.returnType = some .char := hr
  refine bs_c (pc := 0) (s_iload_n hx hb (k := 1) (by decide +kernel) rfl) ?_
  refine bs_c (pc := 1) (s_if_lt hx hb (by decide +kernel) hF) ?_
  refine bs_c (pc := 4) (s_iload_n hx hb (k := 1) (by decide +kernel) rfl) ?_
  refine bs_c (pc := 5) (s_aload_n hx hb (k := 0) (by decide +kernel) rfl) ?_
  refine bs_c (pc := 6) (s_getf hx hb hts in_1 hown hKN.1 (ci := 1) rfl (k := 1) (by decide) (hts _ lf_1_15) (by decide +kernel)) ?_
  refine bs_c (pc := 9) (s_icmp_ge hx hb (by decide +kernel) hF) ?_
  refine bs_c (pc := 12) (s_aload_n hx hb (k := 0) (by decide +kernel) rfl) ?_
  refine bs_c (pc := 13) (s_getf hx hb hts in_1 hown hKN.1 (ci := 1) rfl (k := 0) (by decide) (hts _ lf_1_9) (by decide +kernel)) ?_
  refine bs_c (pc := 16) (s_iload_n hx hb (k := 1) (by decide +kernel) rfl) ?_
  refine bs_c (pc := 17) (s_ald1 hx hb hKN.1 (by decide +kernel)) ?_
  refine bs_c (pc := 18) (s_goto hx hb (pc' := 0) (by decide +kernel)) ?_
  exact bs_n
set_option maxRecDepth 20000 in
theorem b_30_1 (C : CX p l s m args meth c d E F 30) : BB p l e s m args below meth c d E F K0 30 21 rc_30_1 := by
  obtain ⟨hx, hb, hml, hown, hts, hr, hlocks, hnm, hKN, hb0, hF⟩ := C
  have hb : c.code = prog_3_method_3_code := hb
  have hown : s.vm.findClass "RudeCoupons$Letters" = some m.cls := hown
  have hr : meth.sig.returnType = some .char := hr
  refine bs_c (pc := 21) (s_iconst hx hb (z := 0) (by decide +kernel) (by decide +kernel)) ?_
  refine bs_c (pc := 22) (s_fall (pc' := 0) (by decide +kernel)) ?_
  exact bs_n
set_option maxRecDepth 20000 in
theorem b_30_2 (C : CX p l s m args meth c d E F 30) : BB p l e s m args below meth c d E F K0 30 22 rc_30_2 := by
  obtain ⟨hx, hb, hml, hown, hts, hr, hlocks, hnm, hKN, hb0, hF⟩ := C
  have hb : c.code = prog_3_method_3_code := hb
  have hown : s.vm.findClass "RudeCoupons$Letters" = some m.cls := hown
  have hr : meth.sig.returnType = some .char := hr
  refine bs_c (pc := 22) (s_zreturn hx hb hr nar_c2 hlocks (pc' := 0) (by decide +kernel)) ?_
  exact bs_n
end MTH
