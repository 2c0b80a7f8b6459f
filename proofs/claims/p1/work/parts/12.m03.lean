/-! METHODS, block by block, by program: every instruction as its handler says -/
section MTH
variable {p : Program} {l : Launch} {e : Env} {s : State} {m : MethodId} {args : Array Value} {below : List Frame} {meth : Method} {c : Code} {d : mD} {E : mE} {F : mF} {K0 : mK}
set_option maxRecDepth 20000 in
theorem b_47_0 (C : CX p l s m args meth c d E F 47) : BB p l e s m args below meth c d E F K0 47 0 rc_47_0 := by
  obtain ⟨hx, hb, hml, hown, hts, hr, hlocks, hnm, hKN, hb0, hF⟩ := C
  have hb : c.code = prog_6_method_3_code := hb
  have hown : s.vm.findClass "RudeCoupons$Shelf" = some m.cls := hown
  have hr : meth.sig.returnType = none := hr
  refine bs_c (pc := 0) (s_aload_n hx hb (k := 0) (by decide +kernel) rfl) ?_
  refine bs_c (pc := 1) (s_getf hx hb hts in_4 hown hKN.1 (ci := 4) rfl (k := 0) (by decide) (hts _ lf_4_15) (by decide +kernel)) ?_
  refine bs_c (pc := 4) (s_iconst hx hb (z := 0) (by decide +kernel) (by decide +kernel)) ?_
  refine bs_c (pc := 5) (s_aald hx hb hKN.1 (by decide +kernel)) ?_
  refine bs_c (pc := 6) (s_astore_n hx hb (k := 1) (by decide +kernel) rfl (by decide +kernel)) ?_
  refine bs_c (pc := 7) (s_iconst hx hb (z := 1) (by decide +kernel) (by decide +kernel)) ?_
  refine bs_c (pc := 8) (s_istore_n hx hb (k := 2) (by decide +kernel) rfl (by decide +kernel)) ?_
  refine bs_c (pc := 9) (s_fall (pc' := 0) (by decide +kernel)) ?_
  exact bs_n
set_option maxRecDepth 20000 in
theorem b_47_1 (C : CX p l s m args meth c d E F 47) : BB p l e s m args below meth c d E F K0 47 9 rc_47_1 := by
  obtain ⟨hx, hb, hml, hown, hts, hr, hlocks, hnm, hKN, hb0, hF⟩ := C
  have hb : c.code = prog_6_method_3_code := hb
  have hown : s.vm.findClass "RudeCoupons$Shelf" = some m.cls := hown
  have hr : meth.sig.returnType = none := hr
  refine bs_c (pc := 9) (s_iload_n hx hb (k := 2) (by decide +kernel) rfl) ?_
  refine bs_c (pc := 10) (s_aload_n hx hb (k := 0) (by decide +kernel) rfl) ?_
  refine bs_c (pc := 11) (s_getf hx hb hts in_4 hown hKN.1 (ci := 4) rfl (k := 0) (by decide) (hts _ lf_4_15) (by decide +kernel)) ?_
  refine bs_c (pc := 14) (s_alen hx hb hKN.1 (by decide +kernel)) ?_
  refine bs_c (pc := 15) (s_icmp_ge hx hb (by decide +kernel) hF) ?_
  refine bs_c (pc := 18) (s_aload_n hx hb (k := 0) (by decide +kernel) rfl) ?_
  refine bs_c (pc := 19) (s_getf hx hb hts in_4 hown hKN.1 (ci := 4) rfl (k := 0) (by decide) (hts _ lf_4_15) (by decide +kernel)) ?_
  refine bs_c (pc := 22) (s_iload_n hx hb (k := 2) (by decide +kernel) rfl) ?_
  refine bs_c (pc := 23) (s_iconst hx hb (z := 1) (by decide +kernel) (by decide +kernel)) ?_
  refine bs_c (pc := 24) (s_isub hx hb (by decide +kernel)) ?_
  refine bs_c (pc := 25) (s_aload_n hx hb (k := 0) (by decide +kernel) rfl) ?_
  refine bs_c (pc := 26) (s_getf hx hb hts in_4 hown hKN.1 (ci := 4) rfl (k := 0) (by decide) (hts _ lf_4_15) (by decide +kernel)) ?_
  refine bs_c (pc := 29) (s_iload_n hx hb (k := 2) (by decide +kernel) rfl) ?_
  refine bs_c (pc := 30) (s_aald hx hb hKN.1 (by decide +kernel)) ?_
  refine bs_c (pc := 31) (s_aast hx hb hKN.1 (by decide) rfl rfl (by decide +kernel)) ?_
  refine bs_c (pc := 32) (s_iinc hx hb (z := 1) (by decide +kernel) (by decide +kernel) (by decide +kernel)) ?_
  refine bs_c (pc := 35) (s_goto hx hb (pc' := 0) (by decide +kernel)) ?_
  exact bs_n
set_option maxRecDepth 20000 in
theorem b_47_2 (C : CX p l s m args meth c d E F 47) : BB p l e s m args below meth c d E F K0 47 38 rc_47_2 := by
  obtain ⟨hx, hb, hml, hown, hts, hr, hlocks, hnm, hKN, hb0, hF⟩ := C
  have hb : c.code = prog_6_method_3_code := hb
  have hown : s.vm.findClass "RudeCoupons$Shelf" = some m.cls := hown
  have hr : meth.sig.returnType = none := hr
  refine bs_c (pc := 38) (s_aload_n hx hb (k := 0) (by decide +kernel) rfl) ?_
  refine bs_c (pc := 39) (s_aload_n hx hb (k := 0) (by decide +kernel) rfl) ?_
  refine bs_c (pc := 40) (s_getf hx hb hts in_4 hown hKN.1 (ci := 4) rfl (k := 0) (by decide) (hts _ lf_4_15) (by decide +kernel)) ?_
  refine bs_c (pc := 43) (s_alen hx hb hKN.1 (by decide +kernel)) ?_
  refine bs_c (pc := 44) (s_iconst hx hb (z := 1) (by decide +kernel) (by decide +kernel)) ?_
  refine bs_c (pc := 45) (s_isub hx hb (by decide +kernel)) ?_
  refine bs_c (pc := 46) (s_putI hx hb hts in_4 hown hKN.1 (ci := 4) rfl (k := 1) (by decide) (hts _ lf_4_22) tyX4 tyX4_ok nmX4 (tyX4_ok 1 (by decide)) rfl (by decide +kernel)) ?_
  refine bs_c (pc := 49) (s_aload_n hx hb (k := 0) (by decide +kernel) rfl) ?_
  refine bs_c (pc := 50) (s_getf hx hb hts in_4 hown hKN.1 (ci := 4) rfl (k := 0) (by decide) (hts _ lf_4_15) (by decide +kernel)) ?_
  refine bs_c (pc := 53) (s_aload_n hx hb (k := 0) (by decide +kernel) rfl) ?_
  refine bs_c (pc := 54) (s_getf hx hb hts in_4 hown hKN.1 (ci := 4) rfl (k := 1) (by decide) (hts _ lf_4_22) (by decide +kernel)) ?_
  refine bs_c (pc := 57) (s_aload_n hx hb (k := 1) (by decide +kernel) rfl) ?_
  refine bs_c (pc := 58) (s_aast hx hb hKN.1 (by decide) rfl rfl (by decide +kernel)) ?_
  refine bs_c (pc := 59) (s_return hx hb hr hlocks (pc' := 0) (by decide +kernel)) ?_
  exact bs_n
set_option maxRecDepth 20000 in
theorem b_48_0 (C : CX p l s m args meth c d E F 48) : BB p l e s m args below meth c d E F K0 48 0 rc_48_0 := by
  obtain ⟨hx, hb, hml, hown, hts, hr, hlocks, hnm, hKN, hb0, hF⟩ := C
  have hb : c.code = prog_6_method_4_code := hb
  have hown : s.vm.findClass "RudeCoupons$Shelf" = some m.cls := hown
  have hr : meth.sig.returnType = some .boolean := hr
  refine bs_c (pc := 0) (s_aload_n hx hb (k := 0) (by decide +kernel) rfl) ?_
  refine bs_c (pc := 1) (s_getf hx hb hts in_4 hown hKN.1 (ci := 4) rfl (k := 1) (by decide) (hts _ lf_4_22) (by decide +kernel)) ?_
  refine bs_c (pc := 4) (s_iconst hx hb (z := 1) (by decide +kernel) (by decide +kernel)) ?_
  refine bs_c (pc := 5) (s_icmp_ge hx hb (by decide +kernel) hF) ?_
  refine bs_c (pc := 8) (s_iconst hx hb (z := 0) (by decide +kernel) (by decide +kernel)) ?_
  refine bs_c (pc := 9) (s_zreturn hx hb hr nar_z hlocks (pc' := 0) (by decide +kernel)) ?_
  exact bs_n
set_option maxRecDepth 20000 in
theorem b_48_1 (C : CX p l s m args meth c d E F 48) : BB p l e s m args below meth c d E F K0 48 10 rc_48_1 := by
  obtain ⟨hx, hb, hml, hown, hts, hr, hlocks, hnm, hKN, hb0, hF⟩ := C
  have hb : c.code = prog_6_method_4_code := hb
  have hown : s.vm.findClass "RudeCoupons$Shelf" = some m.cls := hown
  have hr : meth.sig.returnType = some .boolean := hr
  refine bs_c (pc := 10) (s_aload_n hx hb (k := 0) (by decide +kernel) rfl) ?_
  refine bs_c (pc := 11) (s_dup hx hb (by decide +kernel)) ?_
  refine bs_c (pc := 12) (s_getf hx hb hts in_4 hown hKN.1 (ci := 4) rfl (k := 1) (by decide) (hts _ lf_4_22) (by decide +kernel)) ?_
  refine bs_c (pc := 15) (s_iconst hx hb (z := 1) (by decide +kernel) (by decide +kernel)) ?_
  refine bs_c (pc := 16) (s_isub hx hb (by decide +kernel)) ?_
  refine bs_c (pc := 17) (s_putI hx hb hts in_4 hown hKN.1 (ci := 4) rfl (k := 1) (by decide) (hts _ lf_4_22) tyX4 tyX4_ok nmX4 (tyX4_ok 1 (by decide)) rfl (by decide +kernel)) ?_
  refine bs_c (pc := 20) (s_aload_n hx hb (k := 1) (by decide +kernel) rfl) ?_
  refine bs_c (pc := 21) (s_aload_n hx hb (k := 0) (by decide +kernel) rfl) ?_
  refine bs_c (pc := 22) (s_getf hx hb hts in_4 hown hKN.1 (ci := 4) rfl (k := 0) (by decide) (hts _ lf_4_15) (by decide +kernel)) ?_
  refine bs_c (pc := 25) (s_aload_n hx hb (k := 0) (by decide +kernel) rfl) ?_
  refine bs_c (pc := 26) (s_getf hx hb hts in_4 hown hKN.1 (ci := 4) rfl (k := 1) (by decide) (hts _ lf_4_22) (by decide +kernel)) ?_
  refine bs_c (pc := 29) (s_aald hx hb hKN.1 (by decide +kernel)) ?_
  refine bs_c (pc := 30) (s_call rfl rfl (rk_V hx hb hml (index := 29) (y := 54) (n := 1) hown hts wc_54 (k := 6) rfl rfl lm_4_29 wk_54 wv_54 wi_54 wp_54 (by decide +kernel) (by decide +kernel)) hKN hb0) ?_
  refine bs_c (pc := 33) (s_iconst hx hb (z := 1) (by decide +kernel) (by decide +kernel)) ?_
  refine bs_c (pc := 34) (s_zreturn hx hb hr nar_z hlocks (pc' := 0) (by decide +kernel)) ?_
  exact bs_n
set_option maxRecDepth 20000 in
theorem b_49_0 (C : CX p l s m args meth c d E F 49) : BB p l e s m args below meth c d E F K0 49 0 rc_49_0 := by
  obtain ⟨hx, hb, hml, hown, hts, hr, hlocks, hnm, hKN, hb0, hF⟩ := C
  have hb : c.code = prog_7_method_1_code := hb
  have hown : s.vm.findClass "RudeCoupons$Sightings" = some m.cls := hown
  have hr : meth.sig.returnType = none := hr
  have hnm : meth.name = "<init>" := hnm
  refine bs_c (pc := 0) (s_aload_n hx hb (k := 0) (by decide +kernel) rfl) ?_
  refine bs_c (pc := 1) (s_oinit hx hb hml hown (hts _ lo_5) (hts _ wo_1) (hts _ wo_2) (by decide +kernel) (by decide +kernel) (by decide +kernel)) ?_
  refine bs_c (pc := 4) (s_aload_n hx hb (k := 0) (by decide +kernel) rfl) ?_
  refine bs_c (pc := 5) (s_bipush hx hb (z := 8) (by decide +kernel) (by decide +kernel)) ?_
  refine bs_c (pc := 7) (s_newa0 hx hb (hts _ wa_0) hKN.1 hb0 (by decide +kernel)) ?_
  refine bs_c (pc := 9) (s_putRF hx hb hts in_5 hown hKN.1 (ci := 5) rfl (k := 0) (by decide) (hts _ lf_5_9) tyX5 tyX5_ok nmX5 (ty := .array .int) (tyX5_ok 0 (by decide)) (fun _ => ⟨rfl, rfl⟩) rfl hnm rfl (by decide +kernel)) ?_
  refine bs_c (pc := 12) (s_aload_n hx hb (k := 0) (by decide +kernel) rfl) ?_
  refine bs_c (pc := 13) (s_bipush hx hb (z := 8) (by decide +kernel) (by decide +kernel)) ?_
  refine bs_c (pc := 15) (s_newa0 hx hb (hts _ wa_0) hKN.1 hb0 (by decide +kernel)) ?_
  refine bs_c (pc := 17) (s_putRF hx hb hts in_5 hown hKN.1 (ci := 5) rfl (k := 1) (by decide) (hts _ lf_5_15) tyX5 tyX5_ok nmX5 (ty := .array .int) (tyX5_ok 1 (by decide)) (fun _ => ⟨rfl, rfl⟩) rfl hnm rfl (by decide +kernel)) ?_
  refine bs_c (pc := 20) (s_aload_n hx hb (k := 0) (by decide +kernel) rfl) ?_
  refine bs_c (pc := 21) (s_bipush hx hb (z := 8) (by decide +kernel) (by decide +kernel)) ?_
  refine bs_c (pc := 23) (s_newa0 hx hb (hts _ wa_0) hKN.1 hb0 (by decide +kernel)) ?_
  refine bs_c (pc := 25) (s_putRF hx hb hts in_5 hown hKN.1 (ci := 5) rfl (k := 2) (by decide) (hts _ lf_5_18) tyX5 tyX5_ok nmX5 (ty := .array .int) (tyX5_ok 2 (by decide)) (fun _ => ⟨rfl, rfl⟩) rfl hnm rfl (by decide +kernel)) ?_
  refine bs_c (pc := 28) (s_return hx hb hr hlocks (pc' := 0) (by decide +kernel)) ?_
  exact bs_n
set_option maxRecDepth 20000 in
theorem b_50_0 (C : CX p l s m args meth c d E F 50) : BB p l e s m args below meth c d E F K0 50 0 rc_50_0 := by
  obtain ⟨hx, hb, hml, hown, hts, hr, hlocks, hnm, hKN, hb0, hF⟩ := C
  have hb : c.code = prog_7_method_2_code := hb
  have hown : s.vm.findClass "RudeCoupons$Sightings" = some m.cls := hown
  have hr : meth.sig.returnType = some .boolean := hr
  refine bs_c (pc := 0) (s_aload_n hx hb (k := 0) (by decide +kernel) rfl) ?_
  refine bs_c (pc := 1) (s_getf hx hb hts in_5 hown hKN.1 (ci := 5) rfl (k := 3) (by decide) (hts _ lf_5_21) (by decide +kernel)) ?_
  refine bs_c (pc := 4) (s_bipush hx hb (z := 8) (by decide +kernel) (by decide +kernel)) ?_
  refine bs_c (pc := 6) (s_icmp_lt hx hb (by decide +kernel) hF) ?_
  refine bs_c (pc := 9) (s_iconst hx hb (z := 0) (by decide +kernel) (by decide +kernel)) ?_
  refine bs_c (pc := 10) (s_zreturn hx hb hr nar_z hlocks (pc' := 0) (by decide +kernel)) ?_
  exact bs_n
set_option maxRecDepth 20000 in
theorem b_50_1 (C : CX p l s m args meth c d E F 50) : BB p l e s m args below meth c d E F K0 50 11 rc_50_1 := by
  obtain ⟨hx, hb, hml, hown, hts, hr, hlocks, hnm, hKN, hb0, hF⟩ := C
  have hb : c.code = prog_7_method_2_code := hb
  have hown : s.vm.findClass "RudeCoupons$Sightings" = some m.cls := hown
  have hr : meth.sig.returnType = some .boolean := hr
  refine bs_c (pc := 11) (s_aload_n hx hb (k := 0) (by decide +kernel) rfl) ?_
  refine bs_c (pc := 12) (s_getf hx hb hts in_5 hown hKN.1 (ci := 5) rfl (k := 0) (by decide) (hts _ lf_5_9) (by decide +kernel)) ?_
  refine bs_c (pc := 15) (s_aload_n hx hb (k := 0) (by decide +kernel) rfl) ?_
  refine bs_c (pc := 16) (s_getf hx hb hts in_5 hown hKN.1 (ci := 5) rfl (k := 3) (by decide) (hts _ lf_5_21) (by decide +kernel)) ?_
  refine bs_c (pc := 19) (s_iload_n hx hb (k := 1) (by decide +kernel) rfl) ?_
  refine bs_c (pc := 20) (s_ast0 hx hb hKN.1 (by decide +kernel)) ?_
  refine bs_c (pc := 21) (s_aload_n hx hb (k := 0) (by decide +kernel) rfl) ?_
  refine bs_c (pc := 22) (s_getf hx hb hts in_5 hown hKN.1 (ci := 5) rfl (k := 1) (by decide) (hts _ lf_5_15) (by decide +kernel)) ?_
  refine bs_c (pc := 25) (s_aload_n hx hb (k := 0) (by decide +kernel) rfl) ?_
  refine bs_c (pc := 26) (s_getf hx hb hts in_5 hown hKN.1 (ci := 5) rfl (k := 3) (by decide) (hts _ lf_5_21) (by decide +kernel)) ?_
  refine bs_c (pc := 29) (s_iload_n hx hb (k := 2) (by decide +kernel) rfl) ?_
  refine bs_c (pc := 30) (s_ast0 hx hb hKN.1 (by decide +kernel)) ?_
  refine bs_c (pc := 31) (s_aload_n hx hb (k := 0) (by decide +kernel) rfl) ?_
  refine bs_c (pc := 32) (s_getf hx hb hts in_5 hown hKN.1 (ci := 5) rfl (k := 2) (by decide) (hts _ lf_5_18) (by decide +kernel)) ?_
  refine bs_c (pc := 35) (s_aload_n hx hb (k := 0) (by decide +kernel) rfl) ?_
  refine bs_c (pc := 36) (s_getf hx hb hts in_5 hown hKN.1 (ci := 5) rfl (k := 3) (by decide) (hts _ lf_5_21) (by decide +kernel)) ?_
  refine bs_c (pc := 39) (s_iload_n hx hb (k := 3) (by decide +kernel) rfl) ?_
  refine bs_c (pc := 40) (s_ast0 hx hb hKN.1 (by decide +kernel)) ?_
  refine bs_c (pc := 41) (s_aload_n hx hb (k := 0) (by decide +kernel) rfl) ?_
  refine bs_c (pc := 42) (s_dup hx hb (by decide +kernel)) ?_
  refine bs_c (pc := 43) (s_getf hx hb hts in_5 hown hKN.1 (ci := 5) rfl (k := 3) (by decide) (hts _ lf_5_21) (by decide +kernel)) ?_
  refine bs_c (pc := 46) (s_iconst hx hb (z := 1) (by decide +kernel) (by decide +kernel)) ?_
  refine bs_c (pc := 47) (s_iadd hx hb (by decide +kernel)) ?_
  refine bs_c (pc := 48) (s_putI hx hb hts in_5 hown hKN.1 (ci := 5) rfl (k := 3) (by decide) (hts _ lf_5_21) tyX5 tyX5_ok nmX5 (tyX5_ok 3 (by decide)) rfl (by decide +kernel)) ?_
  refine bs_c (pc := 51) (s_iconst hx hb (z := 1) (by decide +kernel) (by decide +kernel)) ?_
  refine bs_c (pc := 52) (s_zreturn hx hb hr nar_z hlocks (pc' := 0) (by decide +kernel)) ?_
  exact bs_n
set_option maxRecDepth 20000 in
theorem b_51_0 (C : CX p l s m args meth c d E F 51) : BB p l e s m args below meth c d E F K0 51 0 rc_51_0 := by
  obtain ⟨hx, hb, hml, hown, hts, hr, hlocks, hnm, hKN, hb0, hF⟩ := C
  have hb : c.code = prog_7_method_3_code := hb
  have hown : s.vm.findClass "RudeCoupons$Sightings" = some m.cls := hown
  have hr : meth.sig.returnType = some .boolean := hr
  refine bs_c (pc := 0) (s_aload_n hx hb (k := 1) (by decide +kernel) rfl) ?_
  refine bs_c (pc := 1) (s_getf hx hb hts in_0 hown hKN.1 (ci := 0) rfl (k := 2) (by decide) (hts _ lf_5_25) (by decide +kernel)) ?_
  refine bs_c (pc := 4) (s_iload_n hx hb (k := 2) (by decide +kernel) rfl) ?_
  refine bs_c (pc := 5) (s_ald0 hx hb hKN.1 (by decide +kernel)) ?_
  refine bs_c (pc := 6) (s_istore_n hx hb (k := 3) (by decide +kernel) rfl (by decide +kernel)) ?_
  refine bs_c (pc := 7) (s_iconst hx hb (z := 0) (by decide +kernel) (by decide +kernel)) ?_
  refine bs_c (pc := 8) (s_istore hx hb (by decide +kernel) (by decide +kernel)) ?_
  refine bs_c (pc := 10) (s_fall (pc' := 0) (by decide +kernel)) ?_
  exact bs_n
set_option maxRecDepth 20000 in
theorem b_51_1 (C : CX p l s m args meth c d E F 51) : BB p l e s m args below meth c d E F K0 51 10 rc_51_1 := by
  obtain ⟨hx, hb, hml, hown, hts, hr, hlocks, hnm, hKN, hb0, hF⟩ := C
  have hb : c.code = prog_7_method_3_code := hb
  have hown : s.vm.findClass "RudeCoupons$Sightings" = some m.cls := hown
  have hr : meth.sig.returnType = some .boolean := hr
  refine bs_c (pc := 10) (s_iload hx hb (by decide +kernel)) ?_
  refine bs_c (pc := 12) (s_aload_n hx hb (k := 0) (by decide +kernel) rfl) ?_
  refine bs_c (pc := 13) (s_getf hx hb hts in_5 hown hKN.1 (ci := 5) rfl (k := 3) (by decide) (hts _ lf_5_21) (by decide +kernel)) ?_
  refine bs_c (pc := 16) (s_icmp_ge hx hb (by decide +kernel) hF) ?_
  refine bs_c (pc := 19) (s_aload_n hx hb (k := 0) (by decide +kernel) rfl) ?_
  refine bs_c (pc := 20) (s_getf hx hb hts in_5 hown hKN.1 (ci := 5) rfl (k := 0) (by decide) (hts _ lf_5_9) (by decide +kernel)) ?_
  refine bs_c (pc := 23) (s_iload hx hb (by decide +kernel)) ?_
  refine bs_c (pc := 25) (s_ald0 hx hb hKN.1 (by decide +kernel)) ?_
  refine bs_c (pc := 26) (s_iload_n hx hb (k := 2) (by decide +kernel) rfl) ?_
  refine bs_c (pc := 27) (s_icmp_ne hx hb (by decide +kernel) hF) ?_
  refine bs_c (pc := 30) (s_aload_n hx hb (k := 1) (by decide +kernel) rfl) ?_
  refine bs_c (pc := 31) (s_iload_n hx hb (k := 2) (by decide +kernel) rfl) ?_
  refine bs_c (pc := 32) (s_aload_n hx hb (k := 0) (by decide +kernel) rfl) ?_
  refine bs_c (pc := 33) (s_getf hx hb hts in_5 hown hKN.1 (ci := 5) rfl (k := 1) (by decide) (hts _ lf_5_15) (by decide +kernel)) ?_
  refine bs_c (pc := 36) (s_iload hx hb (by decide +kernel)) ?_
  refine bs_c (pc := 38) (s_ald0 hx hb hKN.1 (by decide +kernel)) ?_
  refine bs_c (pc := 39) (s_aload_n hx hb (k := 0) (by decide +kernel) rfl) ?_
  refine bs_c (pc := 40) (s_getf hx hb hts in_5 hown hKN.1 (ci := 5) rfl (k := 2) (by decide) (hts _ lf_5_18) (by decide +kernel)) ?_
  refine bs_c (pc := 43) (s_iload hx hb (by decide +kernel)) ?_
  refine bs_c (pc := 45) (s_ald0 hx hb hKN.1 (by decide +kernel)) ?_
  refine bs_c (pc := 46) (s_iload_n hx hb (k := 3) (by decide +kernel) rfl) ?_
  refine bs_c (pc := 47) (s_call rfl rfl (rk_V hx hb hml (index := 30) (y := 10) (n := 4) hown hts wc_10 (k := 0) rfl rfl lm_5_30 wk_10 wv_10 wi_10 wp_10 (by decide +kernel) (by decide +kernel)) hKN hb0) ?_
  refine bs_c (pc := 50) (s_istore_n hx hb (k := 3) (by decide +kernel) rfl (by decide +kernel)) ?_
  refine bs_c (pc := 51) (s_iload_n hx hb (k := 3) (by decide +kernel) rfl) ?_
  refine bs_c (pc := 52) (s_if_ge hx hb (by decide +kernel) hF) ?_
  refine bs_c (pc := 55) (s_iconst hx hb (z := 0) (by decide +kernel) (by decide +kernel)) ?_
  refine bs_c (pc := 56) (s_zreturn hx hb hr nar_z hlocks (pc' := 0) (by decide +kernel)) ?_
  exact bs_n
set_option maxRecDepth 20000 in
theorem b_51_2 (C : CX p l s m args meth c d E F 51) : BB p l e s m args below meth c d E F K0 51 57 rc_51_2 := by
  obtain ⟨hx, hb, hml, hown, hts, hr, hlocks, hnm, hKN, hb0, hF⟩ := C
  have hb : c.code = prog_7_method_3_code := hb
  have hown : s.vm.findClass "RudeCoupons$Sightings" = some m.cls := hown
  have hr : meth.sig.returnType = some .boolean := hr
  refine bs_c (pc := 57) (s_iinc hx hb (z := 1) (by decide +kernel) (by decide +kernel) (by decide +kernel)) ?_
  refine bs_c (pc := 60) (s_goto hx hb (pc' := 0) (by decide +kernel)) ?_
  exact bs_n
set_option maxRecDepth 20000 in
theorem b_51_3 (C : CX p l s m args meth c d E F 51) : BB p l e s m args below meth c d E F K0 51 63 rc_51_3 := by
  obtain ⟨hx, hb, hml, hown, hts, hr, hlocks, hnm, hKN, hb0, hF⟩ := C
  have hb : c.code = prog_7_method_3_code := hb
  have hown : s.vm.findClass "RudeCoupons$Sightings" = some m.cls := hown
  have hr : meth.sig.returnType = some .boolean := hr
  refine bs_c (pc := 63) (s_iconst hx hb (z := 1) (by decide +kernel) (by decide +kernel)) ?_
  refine bs_c (pc := 64) (s_zreturn hx hb hr nar_z hlocks (pc' := 0) (by decide +kernel)) ?_
  exact bs_n
set_option maxRecDepth 20000 in
theorem b_52_0 (C : CX p l s m args meth c d E F 52) : BB p l e s m args below meth c d E F K0 52 0 rc_52_0 := by
  obtain ⟨hx, hb, hml, hown, hts, hr, hlocks, hnm, hKN, hb0, hF⟩ := C
  have hb : c.code = prog_8_method_1_code := hb
  have hown : s.vm.findClass "RudeCoupons$Standing" = some m.cls := hown
  have hr : meth.sig.returnType = none := hr
  have hnm : meth.name = "<init>" := hnm
  refine bs_c (pc := 0) (s_aload_n hx hb (k := 0) (by decide +kernel) rfl) ?_
  refine bs_c (pc := 1) (s_oinit hx hb hml hown (hts _ lo_6) (hts _ wo_1) (hts _ wo_2) (by decide +kernel) (by decide +kernel) (by decide +kernel)) ?_
  refine bs_c (pc := 4) (s_aload_n hx hb (k := 0) (by decide +kernel) rfl) ?_
  refine bs_c (pc := 5) (s_bipush hx hb (z := 6) (by decide +kernel) (by decide +kernel)) ?_
  refine bs_c (pc := 7) (s_newa0 hx hb (hts _ wa_0) hKN.1 hb0 (by decide +kernel)) ?_
  refine bs_c (pc := 9) (s_putRF hx hb hts in_6 hown hKN.1 (ci := 6) rfl (k := 2) (by decide) (hts _ lf_6_9) tyX6 tyX6_ok nmX6 (ty := .array .int) (tyX6_ok 2 (by decide)) (fun _ => ⟨rfl, rfl⟩) rfl hnm rfl (by decide +kernel)) ?_
  refine bs_c (pc := 12) (s_aload_n hx hb (k := 0) (by decide +kernel) rfl) ?_
  refine bs_c (pc := 13) (s_bipush hx hb (z := 6) (by decide +kernel) (by decide +kernel)) ?_
  refine bs_c (pc := 15) (s_newa0 hx hb (hts _ wa_0) hKN.1 hb0 (by decide +kernel)) ?_
  refine bs_c (pc := 17) (s_putRF hx hb hts in_6 hown hKN.1 (ci := 6) rfl (k := 3) (by decide) (hts _ lf_6_15) tyX6 tyX6_ok nmX6 (ty := .array .int) (tyX6_ok 3 (by decide)) (fun _ => ⟨rfl, rfl⟩) rfl hnm rfl (by decide +kernel)) ?_
  refine bs_c (pc := 20) (s_aload_n hx hb (k := 0) (by decide +kernel) rfl) ?_
  refine bs_c (pc := 21) (s_bipush hx hb (z := 6) (by decide +kernel) (by decide +kernel)) ?_
  refine bs_c (pc := 23) (s_newa0 hx hb (hts _ wa_0) hKN.1 hb0 (by decide +kernel)) ?_
  refine bs_c (pc := 25) (s_putRF hx hb hts in_6 hown hKN.1 (ci := 6) rfl (k := 4) (by decide) (hts _ lf_6_18) tyX6 tyX6_ok nmX6 (ty := .array .int) (tyX6_ok 4 (by decide)) (fun _ => ⟨rfl, rfl⟩) rfl hnm rfl (by decide +kernel)) ?_
  refine bs_c (pc := 28) (s_aload_n hx hb (k := 0) (by decide +kernel) rfl) ?_
  refine bs_c (pc := 29) (s_bipush hx hb (z := 6) (by decide +kernel) (by decide +kernel)) ?_
  refine bs_c (pc := 31) (s_newa0 hx hb (hts _ wa_0) hKN.1 hb0 (by decide +kernel)) ?_
  refine bs_c (pc := 33) (s_putRF hx hb hts in_6 hown hKN.1 (ci := 6) rfl (k := 5) (by decide) (hts _ lf_6_21) tyX6 tyX6_ok nmX6 (ty := .array .int) (tyX6_ok 5 (by decide)) (fun _ => ⟨rfl, rfl⟩) rfl hnm rfl (by decide +kernel)) ?_
  refine bs_c (pc := 36) (s_return hx hb hr hlocks (pc' := 0) (by decide +kernel)) ?_
  exact bs_n
set_option maxRecDepth 20000 in
theorem b_53_0 (C : CX p l s m args meth c d E F 53) : BB p l e s m args below meth c d E F K0 53 0 rc_53_0 := by
  obtain ⟨hx, hb, hml, hown, hts, hr, hlocks, hnm, hKN, hb0, hF⟩ := C
  have hb : c.code = prog_8_method_2_code := hb
  have hown : s.vm.findClass "RudeCoupons$Standing" = some m.cls := hown
  have hr : meth.sig.returnType = none := hr
  refine bs_c (pc := 0) (s_aload_n hx hb (k := 0) (by decide +kernel) rfl) ?_
  refine bs_c (pc := 1) (s_iconst hx hb (z := 0) (by decide +kernel) (by decide +kernel)) ?_
  refine bs_c (pc := 2) (s_putI hx hb hts in_6 hown hKN.1 (ci := 6) rfl (k := 0) (by decide) (hts _ lf_6_24) tyX6 tyX6_ok nmX6 (tyX6_ok 0 (by decide)) rfl (by decide +kernel)) ?_
  refine bs_c (pc := 5) (s_aload_n hx hb (k := 0) (by decide +kernel) rfl) ?_
  refine bs_c (pc := 6) (s_iconst hx hb (z := 0) (by decide +kernel) (by decide +kernel)) ?_
  refine bs_c (pc := 7) (s_putI hx hb hts in_6 hown hKN.1 (ci := 6) rfl (k := 1) (by decide) (hts _ lf_6_28) tyX6 tyX6_ok nmX6 (tyX6_ok 1 (by decide)) rfl (by decide +kernel)) ?_
  refine bs_c (pc := 10) (s_iconst hx hb (z := 0) (by decide +kernel) (by decide +kernel)) ?_
  refine bs_c (pc := 11) (s_istore_n hx hb (k := 2) (by decide +kernel) rfl (by decide +kernel)) ?_
  refine bs_c (pc := 12) (s_fall (pc' := 0) (by decide +kernel)) ?_
  exact bs_n
set_option maxRecDepth 20000 in
theorem b_53_1 (C : CX p l s m args meth c d E F 53) : BB p l e s m args below meth c d E F K0 53 12 rc_53_1 := by
  obtain ⟨hx, hb, hml, hown, hts, hr, hlocks, hnm, hKN, hb0, hF⟩ := C
  have hb : c.code = prog_8_method_2_code := hb
  have hown : s.vm.findClass "RudeCoupons$Standing" = some m.cls := hown
  have hr : meth.sig.returnType = none := hr
  refine bs_c (pc := 12) (s_iload_n hx hb (k := 2) (by decide +kernel) rfl) ?_
  refine bs_c (pc := 13) (s_bipush hx hb (z := 6) (by decide +kernel) (by decide +kernel)) ?_
  refine bs_c (pc := 15) (s_icmp_ge hx hb (by decide +kernel) hF) ?_
  refine bs_c (pc := 18) (s_aload_n hx hb (k := 0) (by decide +kernel) rfl) ?_
  refine bs_c (pc := 19) (s_getf hx hb hts in_6 hown hKN.1 (ci := 6) rfl (k := 2) (by decide) (hts _ lf_6_9) (by decide +kernel)) ?_
  refine bs_c (pc := 22) (s_iload_n hx hb (k := 2) (by decide +kernel) rfl) ?_
  refine bs_c (pc := 23) (s_iload_n hx hb (k := 2) (by decide +kernel) rfl) ?_
  refine bs_c (pc := 24) (s_aload_n hx hb (k := 1) (by decide +kernel) rfl) ?_
  refine bs_c (pc := 25) (s_getf hx hb hts in_0 hown hKN.1 (ci := 0) rfl (k := 0) (by decide) (hts _ lf_6_31) (by decide +kernel)) ?_
  refine bs_c (pc := 28) (s_icmp_ge hx hb (by decide +kernel) hF) ?_
  refine bs_c (pc := 31) (s_aload_n hx hb (k := 1) (by decide +kernel) rfl) ?_
  refine bs_c (pc := 32) (s_getf hx hb hts in_0 hown hKN.1 (ci := 0) rfl (k := 2) (by decide) (hts _ lf_6_36) (by decide +kernel)) ?_
  refine bs_c (pc := 35) (s_iload_n hx hb (k := 2) (by decide +kernel) rfl) ?_
  refine bs_c (pc := 36) (s_ald0 hx hb hKN.1 (by decide +kernel)) ?_
  refine bs_c (pc := 37) (s_goto hx hb (pc' := 0) (by decide +kernel)) ?_
  exact bs_n
set_option maxRecDepth 20000 in
theorem b_53_2 (C : CX p l s m args meth c d E F 53) : BB p l e s m args below meth c d E F K0 53 40 rc_53_2 := by
  obtain ⟨hx, hb, hml, hown, hts, hr, hlocks, hnm, hKN, hb0, hF⟩ := C
  have hb : c.code = prog_8_method_2_code := hb
  have hown : s.vm.findClass "RudeCoupons$Standing" = some m.cls := hown
  have hr : meth.sig.returnType = none := hr
  refine bs_c (pc := 40) (s_iconst hx hb (z := 0) (by decide +kernel) (by decide +kernel)) ?_
  refine bs_c (pc := 41) (s_fall (pc' := 0) (by decide +kernel)) ?_
  exact bs_n
set_option maxRecDepth 20000 in
theorem b_53_3 (C : CX p l s m args meth c d E F 53) : BB p l e s m args below meth c d E F K0 53 41 rc_53_3 := by
  obtain ⟨hx, hb, hml, hown, hts, hr, hlocks, hnm, hKN, hb0, hF⟩ := C
  have hb : c.code = prog_8_method_2_code := hb
  have hown : s.vm.findClass "RudeCoupons$Standing" = some m.cls := hown
  have hr : meth.sig.returnType = none := hr
  refine bs_c (pc := 41) (s_ast0 hx hb hKN.1 (by decide +kernel)) ?_
  refine bs_c (pc := 42) (s_aload_n hx hb (k := 0) (by decide +kernel) rfl) ?_
  refine bs_c (pc := 43) (s_getf hx hb hts in_6 hown hKN.1 (ci := 6) rfl (k := 3) (by decide) (hts _ lf_6_15) (by decide +kernel)) ?_
  refine bs_c (pc := 46) (s_iload_n hx hb (k := 2) (by decide +kernel) rfl) ?_
  refine bs_c (pc := 47) (s_iconst hx hb (z := 0) (by decide +kernel) (by decide +kernel)) ?_
  refine bs_c (pc := 48) (s_ast0 hx hb hKN.1 (by decide +kernel)) ?_
  refine bs_c (pc := 49) (s_aload_n hx hb (k := 0) (by decide +kernel) rfl) ?_
  refine bs_c (pc := 50) (s_getf hx hb hts in_6 hown hKN.1 (ci := 6) rfl (k := 4) (by decide) (hts _ lf_6_18) (by decide +kernel)) ?_
  refine bs_c (pc := 53) (s_iload_n hx hb (k := 2) (by decide +kernel) rfl) ?_
  refine bs_c (pc := 54) (s_iconst hx hb (z := 0) (by decide +kernel) (by decide +kernel)) ?_
  refine bs_c (pc := 55) (s_ast0 hx hb hKN.1 (by decide +kernel)) ?_
  refine bs_c (pc := 56) (s_aload_n hx hb (k := 0) (by decide +kernel) rfl) ?_
  refine bs_c (pc := 57) (s_getf hx hb hts in_6 hown hKN.1 (ci := 6) rfl (k := 5) (by decide) (hts _ lf_6_21) (by decide +kernel)) ?_
  refine bs_c (pc := 60) (s_iload_n hx hb (k := 2) (by decide +kernel) rfl) ?_
  refine bs_c (pc := 61) (s_iconst hx hb (z := 0) (by decide +kernel) (by decide +kernel)) ?_
  refine bs_c (pc := 62) (s_ast0 hx hb hKN.1 (by decide +kernel)) ?_
  refine bs_c (pc := 63) (s_iinc hx hb (z := 1) (by decide +kernel) (by decide +kernel) (by decide +kernel)) ?_
  refine bs_c (pc := 66) (s_goto hx hb (pc' := 0) (by decide +kernel)) ?_
  exact bs_n
set_option maxRecDepth 20000 in
theorem b_53_4 (C : CX p l s m args meth c d E F 53) : BB p l e s m args below meth c d E F K0 53 69 rc_53_4 := by
  obtain ⟨hx, hb, hml, hown, hts, hr, hlocks, hnm, hKN, hb0, hF⟩ := C
  have hb : c.code = prog_8_method_2_code := hb
  have hown : s.vm.findClass "RudeCoupons$Standing" = some m.cls := hown
  have hr : meth.sig.returnType = none := hr
  refine bs_c (pc := 69) (s_return hx hb hr hlocks (pc' := 0) (by decide +kernel)) ?_
  exact bs_n
set_option maxRecDepth 20000 in
theorem b_54_0 (C : CX p l s m args meth c d E F 54) : BB p l e s m args below meth c d E F K0 54 0 rc_54_0 := by
  obtain ⟨hx, hb, hml, hown, hts, hr, hlocks, hnm, hKN, hb0, hF⟩ := C
  have hb : c.code = prog_8_method_3_code := hb
  have hown : s.vm.findClass "RudeCoupons$Standing" = some m.cls := hown
  have hr : meth.sig.returnType = none := hr
  refine bs_c (pc := 0) (s_aload_n hx hb (k := 0) (by decide +kernel) rfl) ?_
  refine bs_c (pc := 1) (s_aload_n hx hb (k := 1) (by decide +kernel) rfl) ?_
  refine bs_c (pc := 2) (s_getf hx hb hts in_6 hown hKN.1 (ci := 6) rfl (k := 0) (by decide) (hts _ lf_6_24) (by decide +kernel)) ?_
  refine bs_c (pc := 5) (s_putI hx hb hts in_6 hown hKN.1 (ci := 6) rfl (k := 0) (by decide) (hts _ lf_6_24) tyX6 tyX6_ok nmX6 (tyX6_ok 0 (by decide)) rfl (by decide +kernel)) ?_
  refine bs_c (pc := 8) (s_aload_n hx hb (k := 0) (by decide +kernel) rfl) ?_
  refine bs_c (pc := 9) (s_aload_n hx hb (k := 1) (by decide +kernel) rfl) ?_
  refine bs_c (pc := 10) (s_getf hx hb hts in_6 hown hKN.1 (ci := 6) rfl (k := 1) (by decide) (hts _ lf_6_28) (by decide +kernel)) ?_
  refine bs_c (pc := 13) (s_putI hx hb hts in_6 hown hKN.1 (ci := 6) rfl (k := 1) (by decide) (hts _ lf_6_28) tyX6 tyX6_ok nmX6 (tyX6_ok 1 (by decide)) rfl (by decide +kernel)) ?_
  refine bs_c (pc := 16) (s_aload_n hx hb (k := 1) (by decide +kernel) rfl) ?_
  refine bs_c (pc := 17) (s_getf hx hb hts in_6 hown hKN.1 (ci := 6) rfl (k := 2) (by decide) (hts _ lf_6_9) (by decide +kernel)) ?_
  refine bs_c (pc := 20) (s_aload_n hx hb (k := 0) (by decide +kernel) rfl) ?_
  refine bs_c (pc := 21) (s_getf hx hb hts in_6 hown hKN.1 (ci := 6) rfl (k := 2) (by decide) (hts _ lf_6_9) (by decide +kernel)) ?_
  refine bs_c (pc := 24) (s_call rfl rfl (rk_SN hx hb hml (index := 39) (y := 69) (n := 2) hown hts wc_69 (hKN.2.1 _ ln_6_39) wk_69 wi_69 wp_69 (by decide +kernel) (by decide +kernel)) hKN hb0) ?_
  refine bs_c (pc := 27) (s_aload_n hx hb (k := 1) (by decide +kernel) rfl) ?_
  refine bs_c (pc := 28) (s_getf hx hb hts in_6 hown hKN.1 (ci := 6) rfl (k := 3) (by decide) (hts _ lf_6_15) (by decide +kernel)) ?_
  refine bs_c (pc := 31) (s_aload_n hx hb (k := 0) (by decide +kernel) rfl) ?_
  refine bs_c (pc := 32) (s_getf hx hb hts in_6 hown hKN.1 (ci := 6) rfl (k := 3) (by decide) (hts _ lf_6_15) (by decide +kernel)) ?_
  refine bs_c (pc := 35) (s_call rfl rfl (rk_SN hx hb hml (index := 39) (y := 69) (n := 2) hown hts wc_69 (hKN.2.1 _ ln_6_39) wk_69 wi_69 wp_69 (by decide +kernel) (by decide +kernel)) hKN hb0) ?_
  refine bs_c (pc := 38) (s_aload_n hx hb (k := 1) (by decide +kernel) rfl) ?_
  refine bs_c (pc := 39) (s_getf hx hb hts in_6 hown hKN.1 (ci := 6) rfl (k := 4) (by decide) (hts _ lf_6_18) (by decide +kernel)) ?_
  refine bs_c (pc := 42) (s_aload_n hx hb (k := 0) (by decide +kernel) rfl) ?_
  refine bs_c (pc := 43) (s_getf hx hb hts in_6 hown hKN.1 (ci := 6) rfl (k := 4) (by decide) (hts _ lf_6_18) (by decide +kernel)) ?_
  refine bs_c (pc := 46) (s_call rfl rfl (rk_SN hx hb hml (index := 39) (y := 69) (n := 2) hown hts wc_69 (hKN.2.1 _ ln_6_39) wk_69 wi_69 wp_69 (by decide +kernel) (by decide +kernel)) hKN hb0) ?_
  refine bs_c (pc := 49) (s_aload_n hx hb (k := 1) (by decide +kernel) rfl) ?_
  refine bs_c (pc := 50) (s_getf hx hb hts in_6 hown hKN.1 (ci := 6) rfl (k := 5) (by decide) (hts _ lf_6_21) (by decide +kernel)) ?_
  refine bs_c (pc := 53) (s_aload_n hx hb (k := 0) (by decide +kernel) rfl) ?_
  refine bs_c (pc := 54) (s_getf hx hb hts in_6 hown hKN.1 (ci := 6) rfl (k := 5) (by decide) (hts _ lf_6_21) (by decide +kernel)) ?_
  refine bs_c (pc := 57) (s_call rfl rfl (rk_SN hx hb hml (index := 39) (y := 69) (n := 2) hown hts wc_69 (hKN.2.1 _ ln_6_39) wk_69 wi_69 wp_69 (by decide +kernel) (by decide +kernel)) hKN hb0) ?_
  refine bs_c (pc := 60) (s_return hx hb hr hlocks (pc' := 0) (by decide +kernel)) ?_
  exact bs_n
set_option maxRecDepth 20000 in
theorem b_55_0 (C : CX p l s m args meth c d E F 55) : BB p l e s m args below meth c d E F K0 55 0 rc_55_0 := by
  obtain ⟨hx, hb, hml, hown, hts, hr, hlocks, hnm, hKN, hb0, hF⟩ := C
  have hb : c.code = prog_8_method_6_code := hb
  have hown : s.vm.findClass "RudeCoupons$Standing" = some m.cls := hown
  have hr : meth.sig.returnType = some .int := hr
  refine bs_c (pc := 0) (s_aload_n hx hb (k := 0) (by decide +kernel) rfl) ?_
  refine bs_c (pc := 1) (s_getf hx hb hts in_6 hown hKN.1 (ci := 6) rfl (k := 2) (by decide) (hts _ lf_6_9) (by decide +kernel)) ?_
  refine bs_c (pc := 4) (s_call rfl rfl (rk_SN hx hb hml (index := 49) (y := 73) (n := 1) hown hts wc_73 (hKN.2.1 _ ln_6_49) wk_73 wi_73 wp_73 (by decide +kernel) (by decide +kernel)) hKN hb0) ?_
  refine bs_c (pc := 7) (s_ireturn hx hb hr hlocks (pc' := 0) (by decide +kernel)) ?_
  exact bs_n
set_option maxRecDepth 20000 in
theorem b_56_0 (C : CX p l s m args meth c d E F 56) : BB p l e s m args below meth c d E F K0 56 0 rc_56_0 := by
  obtain ⟨hx, hb, hml, hown, hts, hr, hlocks, hnm, hKN, hb0, hF⟩ := C
  have hb : c.code = prog_8_method_8_code := hb
  have hown : s.vm.findClass "RudeCoupons$Standing" = some m.cls := hown
  have hr : meth.sig.returnType = some .int := hr
  refine bs_c (pc := 0) (s_iconst hx hb (z := 0) (by decide +kernel) (by decide +kernel)) ?_
  refine bs_c (pc := 1) (s_istore_n hx hb (k := 1) (by decide +kernel) rfl (by decide +kernel)) ?_
  refine bs_c (pc := 2) (s_iconst hx hb (z := 0) (by decide +kernel) (by decide +kernel)) ?_
  refine bs_c (pc := 3) (s_istore_n hx hb (k := 2) (by decide +kernel) rfl (by decide +kernel)) ?_
  refine bs_c (pc := 4) (s_fall (pc' := 0) (by decide +kernel)) ?_
  exact bs_n
set_option maxRecDepth 20000 in
theorem b_56_1 (C : CX p l s m args meth c d E F 56) : BB p l e s m args below meth c d E F K0 56 4 rc_56_1 := by
  obtain ⟨hx, hb, hml, hown, hts, hr, hlocks, hnm, hKN, hb0, hF⟩ := C
  have hb : c.code = prog_8_method_8_code := hb
  have hown : s.vm.findClass "RudeCoupons$Standing" = some m.cls := hown
  have hr : meth.sig.returnType = some .int := hr
  refine bs_c (pc := 4) (s_iload_n hx hb (k := 2) (by decide +kernel) rfl) ?_
  refine bs_c (pc := 5) (s_aload_n hx hb (k := 0) (by decide +kernel) rfl) ?_
  refine bs_c (pc := 6) (s_getf hx hb hts in_6 hown hKN.1 (ci := 6) rfl (k := 2) (by decide) (hts _ lf_6_9) (by decide +kernel)) ?_
  refine bs_c (pc := 9) (s_alen hx hb hKN.1 (by decide +kernel)) ?_
  refine bs_c (pc := 10) (s_icmp_ge hx hb (by decide +kernel) hF) ?_
  refine bs_c (pc := 13) (s_iload_n hx hb (k := 1) (by decide +kernel) rfl) ?_
  refine bs_c (pc := 14) (s_aload_n hx hb (k := 0) (by decide +kernel) rfl) ?_
  refine bs_c (pc := 15) (s_getf hx hb hts in_6 hown hKN.1 (ci := 6) rfl (k := 2) (by decide) (hts _ lf_6_9) (by decide +kernel)) ?_
  refine bs_c (pc := 18) (s_iload_n hx hb (k := 2) (by decide +kernel) rfl) ?_
  refine bs_c (pc := 19) (s_ald0 hx hb hKN.1 (by decide +kernel)) ?_
  refine bs_c (pc := 20) (s_max hx hb hml hown (hts _ lM_6_53) (hts _ wM_max) (hts _ wM_i) (hts _ wN_max) (by decide +kernel) (by decide +kernel) (by decide +kernel)) ?_
  refine bs_c (pc := 23) (s_istore_n hx hb (k := 1) (by decide +kernel) rfl (by decide +kernel)) ?_
  refine bs_c (pc := 24) (s_iinc hx hb (z := 1) (by decide +kernel) (by decide +kernel) (by decide +kernel)) ?_
  refine bs_c (pc := 27) (s_goto hx hb (pc' := 0) (by decide +kernel)) ?_
  exact bs_n
set_option maxRecDepth 20000 in
theorem b_56_2 (C : CX p l s m args meth c d E F 56) : BB p l e s m args below meth c d E F K0 56 30 rc_56_2 := by
  obtain ⟨hx, hb, hml, hown, hts, hr, hlocks, hnm, hKN, hb0, hF⟩ := C
  have hb : c.code = prog_8_method_8_code := hb
  have hown : s.vm.findClass "RudeCoupons$Standing" = some m.cls := hown
  have hr : meth.sig.returnType = some .int := hr
  refine bs_c (pc := 30) (s_iload_n hx hb (k := 1) (by decide +kernel) rfl) ?_
  refine bs_c (pc := 31) (s_ireturn hx hb hr hlocks (pc' := 0) (by decide +kernel)) ?_
  exact bs_n
set_option maxRecDepth 20000 in
theorem b_57_0 (C : CX p l s m args meth c d E F 57) : BB p l e s m args below meth c d E F K0 57 0 rc_57_0 := by
  obtain ⟨hx, hb, hml, hown, hts, hr, hlocks, hnm, hKN, hb0, hF⟩ := C
  have hb : c.code = prog_8_method_7_code := hb
  have hown : s.vm.findClass "RudeCoupons$Standing" = some m.cls := hown
  have hr : meth.sig.returnType = some .int := hr
  refine bs_c (pc := 0) (s_aload_n hx hb (k := 0) (by decide +kernel) rfl) ?_
  refine bs_c (pc := 1) (s_getf hx hb hts in_6 hown hKN.1 (ci := 6) rfl (k := 4) (by decide) (hts _ lf_6_18) (by decide +kernel)) ?_
  refine bs_c (pc := 4) (s_call rfl rfl (rk_SN hx hb hml (index := 49) (y := 73) (n := 1) hown hts wc_73 (hKN.2.1 _ ln_6_49) wk_73 wi_73 wp_73 (by decide +kernel) (by decide +kernel)) hKN hb0) ?_
  refine bs_c (pc := 7) (s_ireturn hx hb hr hlocks (pc' := 0) (by decide +kernel)) ?_
  exact bs_n
set_option maxRecDepth 20000 in
theorem b_59_0 (C : CX p l s m args meth c d E F 59) : BB p l e s m args below meth c d E F K0 59 0 rc_59_0 := by
  obtain ⟨hx, hb, hml, hown, hts, hr, hlocks, hnm, hKN, hb0, hF⟩ := C
  have hb : c.code = prog_1_method_30_code := hb
  have hown : s.vm.findClass "RudeCoupons" = some m.cls := hown
  have hr : meth.sig.returnType = some .int := hr
  refine bs_c (pc := 0) (s_aload_n hx hb (k := 0) (by decide +kernel) rfl) ?_
  refine bs_c (pc := 1) (s_getf hx hb hts in_7 hown hKN.1 (ci := 7) rfl (k := 1) (by decide) (hts _ lf_7_19) (by decide +kernel)) ?_
  refine bs_c (pc := 4) (s_aload_n hx hb (k := 0) (by decide +kernel) rfl) ?_
  refine bs_c (pc := 5) (s_getf hx hb hts in_7 hown hKN.1 (ci := 7) rfl (k := 10) (by decide) (hts _ lf_7_71) (by decide +kernel)) ?_
  refine bs_c (pc := 8) (s_aload_n hx hb (k := 0) (by decide +kernel) rfl) ?_
  refine bs_c (pc := 9) (s_getf hx hb hts in_7 hown hKN.1 (ci := 7) rfl (k := 0) (by decide) (hts _ lf_7_10) (by decide +kernel)) ?_
  refine bs_c (pc := 12) (s_call rfl rfl (rk_V hx hb hml (index := 100) (y := 40) (n := 2) hown hts wc_40 (k := 3) rfl rfl lm_7_100 wk_40 wv_40 wi_40 wp_40 (by decide +kernel) (by decide +kernel)) hKN hb0) ?_
  refine bs_c (pc := 15) (s_bipush hx hb (z := -4) (by decide +kernel) (by decide +kernel)) ?_
  refine bs_c (pc := 17) (s_icmp_ne hx hb (by decide +kernel) hF) ?_
  refine bs_c (pc := 20) (s_aload_n hx hb (k := 0) (by decide +kernel) rfl) ?_
  refine bs_c (pc := 21) (s_getf hx hb hts in_7 hown hKN.1 (ci := 7) rfl (k := 10) (by decide) (hts _ lf_7_71) (by decide +kernel)) ?_
  refine bs_c (pc := 24) (s_getf hx hb hts in_0 hown hKN.1 (ci := 0) rfl (k := 0) (by decide) (hts _ lf_7_158) (by decide +kernel)) ?_
  refine bs_c (pc := 27) (s_if_ne hx hb (by decide +kernel) hF) ?_
  refine bs_c (pc := 30) (s_fall (pc' := 0) (by decide +kernel)) ?_
  exact bs_n
set_option maxRecDepth 20000 in
theorem b_59_1 (C : CX p l s m args meth c d E F 59) : BB p l e s m args below meth c d E F K0 59 30 rc_59_1 := by
  obtain ⟨hx, hb, hml, hown, hts, hr, hlocks, hnm, hKN, hb0, hF⟩ := C
  have hb : c.code = prog_1_method_30_code := hb
  have hown : s.vm.findClass "RudeCoupons" = some m.cls := hown
  have hr : meth.sig.returnType = some .int := hr
  refine bs_c (pc := 30) (s_bipush hx hb (z := -2) (by decide +kernel) (by decide +kernel)) ?_
  refine bs_c (pc := 32) (s_ireturn hx hb hr hlocks (pc' := 0) (by decide +kernel)) ?_
  exact bs_n
set_option maxRecDepth 20000 in
theorem b_59_2 (C : CX p l s m args meth c d E F 59) : BB p l e s m args below meth c d E F K0 59 33 rc_59_2 := by
  obtain ⟨hx, hb, hml, hown, hts, hr, hlocks, hnm, hKN, hb0, hF⟩ := C
  have hb : c.code = prog_1_method_30_code := hb
  have hown : s.vm.findClass "RudeCoupons" = some m.cls := hown
  have hr : meth.sig.returnType = some .int := hr
  refine bs_c (pc := 33) (s_aload_n hx hb (k := 0) (by decide +kernel) rfl) ?_
  refine bs_c (pc := 34) (s_getf hx hb hts in_7 hown hKN.1 (ci := 7) rfl (k := 10) (by decide) (hts _ lf_7_71) (by decide +kernel)) ?_
  refine bs_c (pc := 37) (s_astore_n hx hb (k := 1) (by decide +kernel) rfl (by decide +kernel)) ?_
  refine bs_c (pc := 38) (s_aload_n hx hb (k := 0) (by decide +kernel) rfl) ?_
  refine bs_c (pc := 39) (s_aload_n hx hb (k := 0) (by decide +kernel) rfl) ?_
  refine bs_c (pc := 40) (s_getf hx hb hts in_7 hown hKN.1 (ci := 7) rfl (k := 9) (by decide) (hts _ lf_7_67) (by decide +kernel)) ?_
  refine bs_c (pc := 43) (s_putR hx hb hts in_7 hown hKN.1 (ci := 7) rfl (k := 10) (by decide) (hts _ lf_7_71) tyX7 tyX7_ok nmX7 (ty := .object "RudeCoupons$Book") (tyX7_ok 10 (by decide)) (fun _ => ⟨rfl, rfl⟩) rfl (by decide +kernel)) ?_
  refine bs_c (pc := 46) (s_aload_n hx hb (k := 0) (by decide +kernel) rfl) ?_
  refine bs_c (pc := 47) (s_aload_n hx hb (k := 1) (by decide +kernel) rfl) ?_
  refine bs_c (pc := 48) (s_putR hx hb hts in_7 hown hKN.1 (ci := 7) rfl (k := 9) (by decide) (hts _ lf_7_67) tyX7 tyX7_ok nmX7 (ty := .object "RudeCoupons$Book") (tyX7_ok 9 (by decide)) (fun _ => ⟨rfl, rfl⟩) rfl (by decide +kernel)) ?_
  refine bs_c (pc := 51) (s_aload_n hx hb (k := 0) (by decide +kernel) rfl) ?_
  refine bs_c (pc := 52) (s_getf hx hb hts in_7 hown hKN.1 (ci := 7) rfl (k := 2) (by decide) (hts _ lf_7_26) (by decide +kernel)) ?_
  refine bs_c (pc := 55) (s_aload_n hx hb (k := 0) (by decide +kernel) rfl) ?_
  refine bs_c (pc := 56) (s_getf hx hb hts in_7 hown hKN.1 (ci := 7) rfl (k := 9) (by decide) (hts _ lf_7_67) (by decide +kernel)) ?_
  refine bs_c (pc := 59) (s_call rfl rfl (rk_V hx hb hml (index := 272) (y := 53) (n := 1) hown hts wc_53 (k := 6) rfl rfl lm_7_272 wk_53 wv_53 wi_53 wp_53 (by decide +kernel) (by decide +kernel)) hKN hb0) ?_
  refine bs_c (pc := 62) (s_aload_n hx hb (k := 0) (by decide +kernel) rfl) ?_
  refine bs_c (pc := 63) (s_getf hx hb hts in_7 hown hKN.1 (ci := 7) rfl (k := 3) (by decide) (hts _ lf_7_35) (by decide +kernel)) ?_
  refine bs_c (pc := 66) (s_iconst hx hb (z := 0) (by decide +kernel) (by decide +kernel)) ?_
  refine bs_c (pc := 67) (s_putI hx hb hts in_4 hown hKN.1 (ci := 4) rfl (k := 1) (by decide) (hts _ lf_7_180) tyX4 tyX4_ok nmX4 (tyX4_ok 1 (by decide)) rfl (by decide +kernel)) ?_
  refine bs_c (pc := 70) (s_aload_n hx hb (k := 0) (by decide +kernel) rfl) ?_
  refine bs_c (pc := 71) (s_getf hx hb hts in_7 hown hKN.1 (ci := 7) rfl (k := 4) (by decide) (hts _ lf_7_39) (by decide +kernel)) ?_
  refine bs_c (pc := 74) (s_iconst hx hb (z := 0) (by decide +kernel) (by decide +kernel)) ?_
  refine bs_c (pc := 75) (s_putI hx hb hts in_4 hown hKN.1 (ci := 4) rfl (k := 1) (by decide) (hts _ lf_7_180) tyX4 tyX4_ok nmX4 (tyX4_ok 1 (by decide)) rfl (by decide +kernel)) ?_
  refine bs_c (pc := 78) (s_aload_n hx hb (k := 0) (by decide +kernel) rfl) ?_
  refine bs_c (pc := 79) (s_getf hx hb hts in_7 hown hKN.1 (ci := 7) rfl (k := 6) (by decide) (hts _ lf_7_49) (by decide +kernel)) ?_
  refine bs_c (pc := 82) (s_iconst hx hb (z := 0) (by decide +kernel) (by decide +kernel)) ?_
  refine bs_c (pc := 83) (s_putI hx hb hts in_5 hown hKN.1 (ci := 5) rfl (k := 3) (by decide) (hts _ lf_7_219) tyX5 tyX5_ok nmX5 (tyX5_ok 3 (by decide)) rfl (by decide +kernel)) ?_
  refine bs_c (pc := 86) (s_aload_n hx hb (k := 0) (by decide +kernel) rfl) ?_
  refine bs_c (pc := 87) (s_getf hx hb hts in_7 hown hKN.1 (ci := 7) rfl (k := 9) (by decide) (hts _ lf_7_67) (by decide +kernel)) ?_
  refine bs_c (pc := 90) (s_getf hx hb hts in_0 hown hKN.1 (ci := 0) rfl (k := 0) (by decide) (hts _ lf_7_158) (by decide +kernel)) ?_
  refine bs_c (pc := 93) (s_ireturn hx hb hr hlocks (pc' := 0) (by decide +kernel)) ?_
  exact bs_n
set_option maxRecDepth 20000 in
theorem b_60_0 (C : CX p l s m args meth c d E F 60) : BB p l e s m args below meth c d E F K0 60 0 rc_60_0 := by
  obtain ⟨hx, hb, hml, hown, hts, hr, hlocks, hnm, hKN, hb0, hF⟩ := C
  have hb : c.code = prog_1_method_2_code := hb
  have hown : s.vm.findClass "RudeCoupons" = some m.cls := hown
  have hr : meth.sig.returnType = some .int := hr
  refine bs_c (pc := 0) (s_iload_n hx hb (k := 1) (by decide +kernel) rfl) ?_
  refine bs_c (pc := 1) (s_bipush hx hb (z := 32) (by decide +kernel) (by decide +kernel)) ?_
  refine bs_c (pc := 3) (s_bipush hx hb (z := 126) (by decide +kernel) (by decide +kernel)) ?_
  refine bs_c (pc := 5) (s_call rfl rfl (rk_S hx hb hml (index := 96) (y := 16) (n := 3) hown hts wc_16 lm_7_96 wk_16 wi_16 wp_16 (by decide +kernel) (by decide +kernel)) hKN hb0) ?_
  refine bs_c (pc := 8) (s_if_ne hx hb (by decide +kernel) hF) ?_
  refine bs_c (pc := 11) (s_iconst hx hb (z := -1) (by decide +kernel) (by decide +kernel)) ?_
  refine bs_c (pc := 12) (s_ireturn hx hb hr hlocks (pc' := 0) (by decide +kernel)) ?_
  exact bs_n
set_option maxRecDepth 20000 in
theorem b_60_1 (C : CX p l s m args meth c d E F 60) : BB p l e s m args below meth c d E F K0 60 13 rc_60_1 := by
  obtain ⟨hx, hb, hml, hown, hts, hr, hlocks, hnm, hKN, hb0, hF⟩ := C
  have hb : c.code = prog_1_method_2_code := hb
  have hown : s.vm.findClass "RudeCoupons" = some m.cls := hown
  have hr : meth.sig.returnType = some .int := hr
  refine bs_c (pc := 13) (s_aload_n hx hb (k := 0) (by decide +kernel) rfl) ?_
  refine bs_c (pc := 14) (s_getf hx hb hts in_7 hown hKN.1 (ci := 7) rfl (k := 0) (by decide) (hts _ lf_7_10) (by decide +kernel)) ?_
  refine bs_c (pc := 17) (s_iload_n hx hb (k := 1) (by decide +kernel) rfl) ?_
  refine bs_c (pc := 18) (s_i2c hx hb (by decide +kernel)) ?_
  refine bs_c (pc := 19) (s_call rfl rfl (rk_V hx hb hml (index := 86) (y := 29) (n := 1) hown hts wc_29 (k := 1) rfl rfl lm_7_86 wk_29 wv_29 wi_29 wp_29 (by decide +kernel) (by decide +kernel)) hKN hb0) ?_
  refine bs_c (pc := 22) (s_if_eq hx hb (by decide +kernel) hF) ?_
  refine bs_c (pc := 25) (s_aload_n hx hb (k := 0) (by decide +kernel) rfl) ?_
  refine bs_c (pc := 26) (s_getf hx hb hts in_7 hown hKN.1 (ci := 7) rfl (k := 0) (by decide) (hts _ lf_7_10) (by decide +kernel)) ?_
  refine bs_c (pc := 29) (s_getf hx hb hts in_1 hown hKN.1 (ci := 1) rfl (k := 1) (by decide) (hts _ lf_7_93) (by decide +kernel)) ?_
  refine bs_c (pc := 32) (s_goto hx hb (pc' := 0) (by decide +kernel)) ?_
  exact bs_n
set_option maxRecDepth 20000 in
theorem b_60_2 (C : CX p l s m args meth c d E F 60) : BB p l e s m args below meth c d E F K0 60 35 rc_60_2 := by
  obtain ⟨hx, hb, hml, hown, hts, hr, hlocks, hnm, hKN, hb0, hF⟩ := C
  have hb : c.code = prog_1_method_2_code := hb
  have hown : s.vm.findClass "RudeCoupons" = some m.cls := hown
  have hr : meth.sig.returnType = some .int := hr
  refine bs_c (pc := 35) (s_bipush hx hb (z := -3) (by decide +kernel) (by decide +kernel)) ?_
  refine bs_c (pc := 37) (s_fall (pc' := 0) (by decide +kernel)) ?_
  exact bs_n
set_option maxRecDepth 20000 in
theorem b_60_3 (C : CX p l s m args meth c d E F 60) : BB p l e s m args below meth c d E F K0 60 37 rc_60_3 := by
  obtain ⟨hx, hb, hml, hown, hts, hr, hlocks, hnm, hKN, hb0, hF⟩ := C
  have hb : c.code = prog_1_method_2_code := hb
  have hown : s.vm.findClass "RudeCoupons" = some m.cls := hown
  have hr : meth.sig.returnType = some .int := hr
  refine bs_c (pc := 37) (s_ireturn hx hb hr hlocks (pc' := 0) (by decide +kernel)) ?_
  exact bs_n
set_option maxRecDepth 20000 in
theorem b_61_0 (C : CX p l s m args meth c d E F 61) : BB p l e s m args below meth c d E F K0 61 0 rc_61_0 := by
  obtain ⟨hx, hb, hml, hown, hts, hr, hlocks, hnm, hKN, hb0, hF⟩ := C
  have hb : c.code = prog_1_method_3_code := hb
  have hown : s.vm.findClass "RudeCoupons" = some m.cls := hown
  have hr : meth.sig.returnType = some .int := hr
  refine bs_c (pc := 0) (s_aload_n hx hb (k := 0) (by decide +kernel) rfl) ?_
  refine bs_c (pc := 1) (s_getf hx hb hts in_7 hown hKN.1 (ci := 7) rfl (k := 0) (by decide) (hts _ lf_7_10) (by decide +kernel)) ?_
  refine bs_c (pc := 4) (s_getf hx hb hts in_1 hown hKN.1 (ci := 1) rfl (k := 1) (by decide) (hts _ lf_7_93) (by decide +kernel)) ?_
  refine bs_c (pc := 7) (s_istore_n hx hb (k := 1) (by decide +kernel) rfl (by decide +kernel)) ?_
  refine bs_c (pc := 8) (s_aload_n hx hb (k := 0) (by decide +kernel) rfl) ?_
  refine bs_c (pc := 9) (s_getf hx hb hts in_7 hown hKN.1 (ci := 7) rfl (k := 0) (by decide) (hts _ lf_7_10) (by decide +kernel)) ?_
  refine bs_c (pc := 12) (s_iconst hx hb (z := 0) (by decide +kernel) (by decide +kernel)) ?_
  refine bs_c (pc := 13) (s_putI hx hb hts in_1 hown hKN.1 (ci := 1) rfl (k := 1) (by decide) (hts _ lf_7_93) tyX1 tyX1_ok nmX1 (tyX1_ok 1 (by decide)) rfl (by decide +kernel)) ?_
  refine bs_c (pc := 16) (s_iload_n hx hb (k := 1) (by decide +kernel) rfl) ?_
  refine bs_c (pc := 17) (s_ireturn hx hb hr hlocks (pc' := 0) (by decide +kernel)) ?_
  exact bs_n
set_option maxRecDepth 20000 in
theorem b_62_0 (C : CX p l s m args meth c d E F 62) : BB p l e s m args below meth c d E F K0 62 0 rc_62_0 := by
  obtain ⟨hx, hb, hml, hown, hts, hr, hlocks, hnm, hKN, hb0, hF⟩ := C
  have hb : c.code = prog_1_method_4_code := hb
  have hown : s.vm.findClass "RudeCoupons" = some m.cls := hown
  have hr : meth.sig.returnType = some .int := hr
  refine bs_c (pc := 0) (s_aload_n hx hb (k := 0) (by decide +kernel) rfl) ?_
  refine bs_c (pc := 1) (s_getf hx hb hts in_7 hown hKN.1 (ci := 7) rfl (k := 1) (by decide) (hts _ lf_7_19) (by decide +kernel)) ?_
  refine bs_c (pc := 4) (s_aload_n hx hb (k := 0) (by decide +kernel) rfl) ?_
  refine bs_c (pc := 5) (s_getf hx hb hts in_7 hown hKN.1 (ci := 7) rfl (k := 10) (by decide) (hts _ lf_7_71) (by decide +kernel)) ?_
  refine bs_c (pc := 8) (s_aload_n hx hb (k := 0) (by decide +kernel) rfl) ?_
  refine bs_c (pc := 9) (s_getf hx hb hts in_7 hown hKN.1 (ci := 7) rfl (k := 0) (by decide) (hts _ lf_7_10) (by decide +kernel)) ?_
  refine bs_c (pc := 12) (s_call rfl rfl (rk_V hx hb hml (index := 100) (y := 40) (n := 2) hown hts wc_40 (k := 3) rfl rfl lm_7_100 wk_40 wv_40 wi_40 wp_40 (by decide +kernel) (by decide +kernel)) hKN hb0) ?_
  refine bs_c (pc := 15) (s_ireturn hx hb hr hlocks (pc' := 0) (by decide +kernel)) ?_
  exact bs_n
set_option maxRecDepth 20000 in
theorem b_63_0 (C : CX p l s m args meth c d E F 63) : BB p l e s m args below meth c d E F K0 63 0 rc_63_0 := by
  obtain ⟨hx, hb, hml, hown, hts, hr, hlocks, hnm, hKN, hb0, hF⟩ := C
  have hb : c.code = prog_1_method_5_code := hb
  have hown : s.vm.findClass "RudeCoupons" = some m.cls := hown
  have hr : meth.sig.returnType = some .int := hr
  refine bs_c (pc := 0) (s_aload_n hx hb (k := 0) (by decide +kernel) rfl) ?_
  refine bs_c (pc := 1) (s_call rfl rfl (rk_V hx hb hml (index := 90) (y := 59) (n := 0) hown hts wc_59 (k := 7) rfl rfl lm_7_90 wk_59 wv_59 wi_59 wp_59 (by decide +kernel) (by decide +kernel)) hKN hb0) ?_
  refine bs_c (pc := 4) (s_ireturn hx hb hr hlocks (pc' := 0) (by decide +kernel)) ?_
  exact bs_n
set_option maxRecDepth 20000 in
theorem b_64_0 (C : CX p l s m args meth c d E F 64) : BB p l e s m args below meth c d E F K0 64 0 rc_64_0 := by
  obtain ⟨hx, hb, hml, hown, hts, hr, hlocks, hnm, hKN, hb0, hF⟩ := C
  have hb : c.code = prog_1_method_6_code := hb
  have hown : s.vm.findClass "RudeCoupons" = some m.cls := hown
  have hr : meth.sig.returnType = some .int := hr
  refine bs_c (pc := 0) (s_aload_n hx hb (k := 0) (by decide +kernel) rfl) ?_
  refine bs_c (pc := 1) (s_getf hx hb hts in_7 hown hKN.1 (ci := 7) rfl (k := 9) (by decide) (hts _ lf_7_67) (by decide +kernel)) ?_
  refine bs_c (pc := 4) (s_iload_n hx hb (k := 1) (by decide +kernel) rfl) ?_
  refine bs_c (pc := 5) (s_call rfl rfl (rk_V hx hb hml (index := 104) (y := 23) (n := 1) hown hts wc_23 (k := 0) rfl rfl lm_7_104 wk_23 wv_23 wi_23 wp_23 (by decide +kernel) (by decide +kernel)) hKN hb0) ?_
  refine bs_c (pc := 8) (s_if_ne hx hb (by decide +kernel) hF) ?_
  refine bs_c (pc := 11) (s_iconst hx hb (z := -1) (by decide +kernel) (by decide +kernel)) ?_
  refine bs_c (pc := 12) (s_ireturn hx hb hr hlocks (pc' := 0) (by decide +kernel)) ?_
  exact bs_n
set_option maxRecDepth 20000 in
theorem b_64_1 (C : CX p l s m args meth c d E F 64) : BB p l e s m args below meth c d E F K0 64 13 rc_64_1 := by
  obtain ⟨hx, hb, hml, hown, hts, hr, hlocks, hnm, hKN, hb0, hF⟩ := C
  have hb : c.code = prog_1_method_6_code := hb
  have hown : s.vm.findClass "RudeCoupons" = some m.cls := hown
  have hr : meth.sig.returnType = some .int := hr
  refine bs_c (pc := 13) (s_iload_n hx hb (k := 2) (by decide +kernel) rfl) ?_
  refine bs_c (pc := 14) (s_table hx hb (hi' := 3) (offs := #[30, 40, 50, 60]) (len := 30) (pc' := 0) (by decide +kernel) (by decide +kernel) (by decide +kernel) (by decide +kernel) (by decide +kernel) hF) ?_
  exact bs_n
set_option maxRecDepth 20000 in
theorem b_64_2 (C : CX p l s m args meth c d E F 64) : BB p l e s m args below meth c d E F K0 64 44 rc_64_2 := by
  obtain ⟨hx, hb, hml, hown, hts, hr, hlocks, hnm, hKN, hb0, hF⟩ := C
  have hb : c.code = prog_1_method_6_code := hb
  have hown : s.vm.findClass "RudeCoupons" = some m.cls := hown
  have hr : meth.sig.returnType = some .int := hr
  refine bs_c (pc := 44) (s_aload_n hx hb (k := 0) (by decide +kernel) rfl) ?_
  refine bs_c (pc := 45) (s_getf hx hb hts in_7 hown hKN.1 (ci := 7) rfl (k := 9) (by decide) (hts _ lf_7_67) (by decide +kernel)) ?_
  refine bs_c (pc := 48) (s_getf hx hb hts in_0 hown hKN.1 (ci := 0) rfl (k := 1) (by decide) (hts _ lf_7_108) (by decide +kernel)) ?_
  refine bs_c (pc := 51) (s_iload_n hx hb (k := 1) (by decide +kernel) rfl) ?_
  refine bs_c (pc := 52) (s_ald0 hx hb hKN.1 (by decide +kernel)) ?_
  refine bs_c (pc := 53) (s_ireturn hx hb hr hlocks (pc' := 0) (by decide +kernel)) ?_
  exact bs_n
set_option maxRecDepth 20000 in
theorem b_64_3 (C : CX p l s m args meth c d E F 64) : BB p l e s m args below meth c d E F K0 64 54 rc_64_3 := by
  obtain ⟨hx, hb, hml, hown, hts, hr, hlocks, hnm, hKN, hb0, hF⟩ := C
  have hb : c.code = prog_1_method_6_code := hb
  have hown : s.vm.findClass "RudeCoupons" = some m.cls := hown
  have hr : meth.sig.returnType = some .int := hr
  refine bs_c (pc := 54) (s_aload_n hx hb (k := 0) (by decide +kernel) rfl) ?_
  refine bs_c (pc := 55) (s_getf hx hb hts in_7 hown hKN.1 (ci := 7) rfl (k := 2) (by decide) (hts _ lf_7_26) (by decide +kernel)) ?_
  refine bs_c (pc := 58) (s_getf hx hb hts in_6 hown hKN.1 (ci := 6) rfl (k := 2) (by decide) (hts _ lf_7_111) (by decide +kernel)) ?_
  refine bs_c (pc := 61) (s_iload_n hx hb (k := 1) (by decide +kernel) rfl) ?_
  refine bs_c (pc := 62) (s_ald0 hx hb hKN.1 (by decide +kernel)) ?_
  refine bs_c (pc := 63) (s_ireturn hx hb hr hlocks (pc' := 0) (by decide +kernel)) ?_
  exact bs_n
set_option maxRecDepth 20000 in
theorem b_64_4 (C : CX p l s m args meth c d E F 64) : BB p l e s m args below meth c d E F K0 64 64 rc_64_4 := by
  obtain ⟨hx, hb, hml, hown, hts, hr, hlocks, hnm, hKN, hb0, hF⟩ := C
  have hb : c.code = prog_1_method_6_code := hb
  have hown : s.vm.findClass "RudeCoupons" = some m.cls := hown
  have hr : meth.sig.returnType = some .int := hr
  refine bs_c (pc := 64) (s_aload_n hx hb (k := 0) (by decide +kernel) rfl) ?_
  refine bs_c (pc := 65) (s_getf hx hb hts in_7 hown hKN.1 (ci := 7) rfl (k := 9) (by decide) (hts _ lf_7_67) (by decide +kernel)) ?_
  refine bs_c (pc := 68) (s_getf hx hb hts in_0 hown hKN.1 (ci := 0) rfl (k := 3) (by decide) (hts _ lf_7_114) (by decide +kernel)) ?_
  refine bs_c (pc := 71) (s_iload_n hx hb (k := 1) (by decide +kernel) rfl) ?_
  refine bs_c (pc := 72) (s_ald0 hx hb hKN.1 (by decide +kernel)) ?_
  refine bs_c (pc := 73) (s_ireturn hx hb hr hlocks (pc' := 0) (by decide +kernel)) ?_
  exact bs_n
set_option maxRecDepth 20000 in
theorem b_64_5 (C : CX p l s m args meth c d E F 64) : BB p l e s m args below meth c d E F K0 64 74 rc_64_5 := by
  obtain ⟨hx, hb, hml, hown, hts, hr, hlocks, hnm, hKN, hb0, hF⟩ := C
  have hb : c.code = prog_1_method_6_code := hb
  have hown : s.vm.findClass "RudeCoupons" = some m.cls := hown
  have hr : meth.sig.returnType = some .int := hr
  refine bs_c (pc := 74) (s_aload_n hx hb (k := 0) (by decide +kernel) rfl) ?_
  refine bs_c (pc := 75) (s_getf hx hb hts in_7 hown hKN.1 (ci := 7) rfl (k := 2) (by decide) (hts _ lf_7_26) (by decide +kernel)) ?_
  refine bs_c (pc := 78) (s_getf hx hb hts in_6 hown hKN.1 (ci := 6) rfl (k := 3) (by decide) (hts _ lf_7_117) (by decide +kernel)) ?_
  refine bs_c (pc := 81) (s_iload_n hx hb (k := 1) (by decide +kernel) rfl) ?_
  refine bs_c (pc := 82) (s_ald0 hx hb hKN.1 (by decide +kernel)) ?_
  refine bs_c (pc := 83) (s_ireturn hx hb hr hlocks (pc' := 0) (by decide +kernel)) ?_
  exact bs_n
set_option maxRecDepth 20000 in
theorem b_64_6 (C : CX p l s m args meth c d E F 64) : BB p l e s m args below meth c d E F K0 64 84 rc_64_6 := by
  obtain ⟨hx, hb, hml, hown, hts, hr, hlocks, hnm, hKN, hb0, hF⟩ := C
  have hb : c.code = prog_1_method_6_code := hb
  have hown : s.vm.findClass "RudeCoupons" = some m.cls := hown
  have hr : meth.sig.returnType = some .int := hr
  refine bs_c (pc := 84) (s_iconst hx hb (z := -1) (by decide +kernel) (by decide +kernel)) ?_
  refine bs_c (pc := 85) (s_ireturn hx hb hr hlocks (pc' := 0) (by decide +kernel)) ?_
  exact bs_n
set_option maxRecDepth 20000 in
theorem b_65_0 (C : CX p l s m args meth c d E F 65) : BB p l e s m args below meth c d E F K0 65 0 rc_65_0 := by
  obtain ⟨hx, hb, hml, hown, hts, hr, hlocks, hnm, hKN, hb0, hF⟩ := C
  have hb : c.code = prog_1_method_7_code := hb
  have hown : s.vm.findClass "RudeCoupons" = some m.cls := hown
  have hr : meth.sig.returnType = some .int := hr
  refine bs_c (pc := 0) (s_aload_n hx hb (k := 0) (by decide +kernel) rfl) ?_
  refine bs_c (pc := 1) (s_getf hx hb hts in_7 hown hKN.1 (ci := 7) rfl (k := 9) (by decide) (hts _ lf_7_67) (by decide +kernel)) ?_
  refine bs_c (pc := 4) (s_iload_n hx hb (k := 1) (by decide +kernel) rfl) ?_
  refine bs_c (pc := 5) (s_call rfl rfl (rk_V hx hb hml (index := 120) (y := 24) (n := 1) hown hts wc_24 (k := 0) rfl rfl lm_7_120 wk_24 wv_24 wi_24 wp_24 (by decide +kernel) (by decide +kernel)) hKN hb0) ?_
  refine bs_c (pc := 8) (s_if_ne hx hb (by decide +kernel) hF) ?_
  refine bs_c (pc := 11) (s_iconst hx hb (z := -1) (by decide +kernel) (by decide +kernel)) ?_
  refine bs_c (pc := 12) (s_ireturn hx hb hr hlocks (pc' := 0) (by decide +kernel)) ?_
  exact bs_n
set_option maxRecDepth 20000 in
theorem b_65_1 (C : CX p l s m args meth c d E F 65) : BB p l e s m args below meth c d E F K0 65 13 rc_65_1 := by
  obtain ⟨hx, hb, hml, hown, hts, hr, hlocks, hnm, hKN, hb0, hF⟩ := C
  have hb : c.code = prog_1_method_7_code := hb
  have hown : s.vm.findClass "RudeCoupons" = some m.cls := hown
  have hr : meth.sig.returnType = some .int := hr
  refine bs_c (pc := 13) (s_iload_n hx hb (k := 2) (by decide +kernel) rfl) ?_
  refine bs_c (pc := 14) (s_table hx hb (hi' := 2) (offs := #[26, 36, 46]) (len := 26) (pc' := 0) (by decide +kernel) (by decide +kernel) (by decide +kernel) (by decide +kernel) (by decide +kernel) hF) ?_
  exact bs_n
set_option maxRecDepth 20000 in
theorem b_65_2 (C : CX p l s m args meth c d E F 65) : BB p l e s m args below meth c d E F K0 65 40 rc_65_2 := by
  obtain ⟨hx, hb, hml, hown, hts, hr, hlocks, hnm, hKN, hb0, hF⟩ := C
  have hb : c.code = prog_1_method_7_code := hb
  have hown : s.vm.findClass "RudeCoupons" = some m.cls := hown
  have hr : meth.sig.returnType = some .int := hr
  refine bs_c (pc := 40) (s_aload_n hx hb (k := 0) (by decide +kernel) rfl) ?_
  refine bs_c (pc := 41) (s_getf hx hb hts in_7 hown hKN.1 (ci := 7) rfl (k := 9) (by decide) (hts _ lf_7_67) (by decide +kernel)) ?_
  refine bs_c (pc := 44) (s_getf hx hb hts in_0 hown hKN.1 (ci := 0) rfl (k := 5) (by decide) (hts _ lf_7_123) (by decide +kernel)) ?_
  refine bs_c (pc := 47) (s_iload_n hx hb (k := 1) (by decide +kernel) rfl) ?_
  refine bs_c (pc := 48) (s_ald0 hx hb hKN.1 (by decide +kernel)) ?_
  refine bs_c (pc := 49) (s_ireturn hx hb hr hlocks (pc' := 0) (by decide +kernel)) ?_
  exact bs_n
set_option maxRecDepth 20000 in
theorem b_65_3 (C : CX p l s m args meth c d E F 65) : BB p l e s m args below meth c d E F K0 65 50 rc_65_3 := by
  obtain ⟨hx, hb, hml, hown, hts, hr, hlocks, hnm, hKN, hb0, hF⟩ := C
  have hb : c.code = prog_1_method_7_code := hb
  have hown : s.vm.findClass "RudeCoupons" = some m.cls := hown
  have hr : meth.sig.returnType = some .int := hr
  refine bs_c (pc := 50) (s_aload_n hx hb (k := 0) (by decide +kernel) rfl) ?_
  refine bs_c (pc := 51) (s_getf hx hb hts in_7 hown hKN.1 (ci := 7) rfl (k := 9) (by decide) (hts _ lf_7_67) (by decide +kernel)) ?_
  refine bs_c (pc := 54) (s_getf hx hb hts in_0 hown hKN.1 (ci := 0) rfl (k := 6) (by decide) (hts _ lf_7_126) (by decide +kernel)) ?_
  refine bs_c (pc := 57) (s_iload_n hx hb (k := 1) (by decide +kernel) rfl) ?_
  refine bs_c (pc := 58) (s_ald0 hx hb hKN.1 (by decide +kernel)) ?_
  refine bs_c (pc := 59) (s_ireturn hx hb hr hlocks (pc' := 0) (by decide +kernel)) ?_
  exact bs_n
set_option maxRecDepth 20000 in
theorem b_65_4 (C : CX p l s m args meth c d E F 65) : BB p l e s m args below meth c d E F K0 65 60 rc_65_4 := by
  obtain ⟨hx, hb, hml, hown, hts, hr, hlocks, hnm, hKN, hb0, hF⟩ := C
  have hb : c.code = prog_1_method_7_code := hb
  have hown : s.vm.findClass "RudeCoupons" = some m.cls := hown
  have hr : meth.sig.returnType = some .int := hr
  refine bs_c (pc := 60) (s_aload_n hx hb (k := 0) (by decide +kernel) rfl) ?_
  refine bs_c (pc := 61) (s_getf hx hb hts in_7 hown hKN.1 (ci := 7) rfl (k := 9) (by decide) (hts _ lf_7_67) (by decide +kernel)) ?_
  refine bs_c (pc := 64) (s_getf hx hb hts in_0 hown hKN.1 (ci := 0) rfl (k := 7) (by decide) (hts _ lf_7_129) (by decide +kernel)) ?_
  refine bs_c (pc := 67) (s_iload_n hx hb (k := 1) (by decide +kernel) rfl) ?_
  refine bs_c (pc := 68) (s_ald0 hx hb hKN.1 (by decide +kernel)) ?_
  refine bs_c (pc := 69) (s_ireturn hx hb hr hlocks (pc' := 0) (by decide +kernel)) ?_
  exact bs_n
set_option maxRecDepth 20000 in
theorem b_65_5 (C : CX p l s m args meth c d E F 65) : BB p l e s m args below meth c d E F K0 65 70 rc_65_5 := by
  obtain ⟨hx, hb, hml, hown, hts, hr, hlocks, hnm, hKN, hb0, hF⟩ := C
  have hb : c.code = prog_1_method_7_code := hb
  have hown : s.vm.findClass "RudeCoupons" = some m.cls := hown
  have hr : meth.sig.returnType = some .int := hr
  refine bs_c (pc := 70) (s_iconst hx hb (z := -1) (by decide +kernel) (by decide +kernel)) ?_
  refine bs_c (pc := 71) (s_ireturn hx hb hr hlocks (pc' := 0) (by decide +kernel)) ?_
  exact bs_n
end MTH
