/-! METHODS, block by block, by program: every instruction as its handler says -/
section MTH
variable {p : Program} {l : Launch} {e : Env} {s : State} {m : MethodId} {args : Array Value} {below : List Frame} {meth : Method} {c : Code} {d : mD} {E : mE} {F : mF} {K0 : mK}
set_option maxRecDepth 20000 in
theorem b_31_0 (C : CX p l s m args meth c d E F 31) : BB p l e s m args below meth c d E F K0 31 0 rc_31_0 := by
  obtain ⟨hx, hb, hml, hown, hts, hr, hlocks, hnm, hKN, hb0, hF⟩ := C
  have hb : c.code = prog_3_method_4_code := hb
  have hown : s.vm.findClass "RudeCoupons$Letters" = some m.cls := hown
  have hr : meth.sig.returnType = none := hr
  refine bs_c (pc := 0) (s_iconst hx hb (z := 0) (by decide +kernel) (by decide +kernel)) ?_
  refine bs_c (pc := 1) (s_istore_n hx hb (k := 2) (by decide +kernel) rfl (by decide +kernel)) ?_
  refine bs_c (pc := 2) (s_fall (pc' := 0) (by decide +kernel)) ?_
  exact bs_n
set_option maxRecDepth 20000 in
theorem b_31_1 (C : CX p l s m args meth c d E F 31) : BB p l e s m args below meth c d E F K0 31 2 rc_31_1 := by
  obtain ⟨hx, hb, hml, hown, hts, hr, hlocks, hnm, hKN, hb0, hF⟩ := C
  have hb : c.code = prog_3_method_4_code := hb
  have hown : s.vm.findClass "RudeCoupons$Letters" = some m.cls := hown
  have hr : meth.sig.returnType = none := hr
  refine bs_c (pc := 2) (s_iload_n hx hb (k := 2) (by decide +kernel) rfl) ?_
  refine bs_c (pc := 3) (s_aload_n hx hb (k := 1) (by decide +kernel) rfl) ?_
  refine bs_c (pc := 4) (s_getf hx hb hts in_1 hown hKN.1 (ci := 1) rfl (k := 1) (by decide) (hts _ lf_1_15) (by decide +kernel)) ?_
  refine bs_c (pc := 7) (s_icmp_ge hx hb (by decide +kernel) hF) ?_
  refine bs_c (pc := 10) (s_aload_n hx hb (k := 0) (by decide +kernel) rfl) ?_
  refine bs_c (pc := 11) (s_getf hx hb hts in_1 hown hKN.1 (ci := 1) rfl (k := 0) (by decide) (hts _ lf_1_9) (by decide +kernel)) ?_
  refine bs_c (pc := 14) (s_iload_n hx hb (k := 2) (by decide +kernel) rfl) ?_
  refine bs_c (pc := 15) (s_aload_n hx hb (k := 1) (by decide +kernel) rfl) ?_
  refine bs_c (pc := 16) (s_getf hx hb hts in_1 hown hKN.1 (ci := 1) rfl (k := 0) (by decide) (hts _ lf_1_9) (by decide +kernel)) ?_
  refine bs_c (pc := 19) (s_iload_n hx hb (k := 2) (by decide +kernel) rfl) ?_
  refine bs_c (pc := 20) (s_ald1 hx hb hKN.1 (by decide +kernel)) ?_
  refine bs_c (pc := 21) (s_ast1 hx hb hKN.1 (by decide +kernel)) ?_
  refine bs_c (pc := 22) (s_iinc hx hb (z := 1) (by decide +kernel) (by decide +kernel) (by decide +kernel)) ?_
  refine bs_c (pc := 25) (s_goto hx hb (pc' := 0) (by decide +kernel)) ?_
  exact bs_n
set_option maxRecDepth 20000 in
theorem b_31_2 (C : CX p l s m args meth c d E F 31) : BB p l e s m args below meth c d E F K0 31 28 rc_31_2 := by
  obtain ⟨hx, hb, hml, hown, hts, hr, hlocks, hnm, hKN, hb0, hF⟩ := C
  have hb : c.code = prog_3_method_4_code := hb
  have hown : s.vm.findClass "RudeCoupons$Letters" = some m.cls := hown
  have hr : meth.sig.returnType = none := hr
  refine bs_c (pc := 28) (s_aload_n hx hb (k := 0) (by decide +kernel) rfl) ?_
  refine bs_c (pc := 29) (s_aload_n hx hb (k := 1) (by decide +kernel) rfl) ?_
  refine bs_c (pc := 30) (s_getf hx hb hts in_1 hown hKN.1 (ci := 1) rfl (k := 1) (by decide) (hts _ lf_1_15) (by decide +kernel)) ?_
  refine bs_c (pc := 33) (s_putI hx hb hts in_1 hown hKN.1 (ci := 1) rfl (k := 1) (by decide) (hts _ lf_1_15) tyX1 tyX1_ok nmX1 (tyX1_ok 1 (by decide)) rfl (by decide +kernel)) ?_
  refine bs_c (pc := 36) (s_return hx hb hr hlocks (pc' := 0) (by decide +kernel)) ?_
  exact bs_n
set_option maxRecDepth 20000 in
theorem b_33_0 (C : CX p l s m args meth c d E F 33) : BB p l e s m args below meth c d E F K0 33 0 rc_33_0 := by
  obtain ⟨hx, hb, hml, hown, hts, hr, hlocks, hnm, hKN, hb0, hF⟩ := C
  have hb : c.code = prog_4_method_2_code := hb
  have hown : s.vm.findClass "RudeCoupons$Plans" = some m.cls := hown
  have hr : meth.sig.returnType = none := hr
  refine bs_c (pc := 0) (s_iconst hx hb (z := 0) (by decide +kernel) (by decide +kernel)) ?_
  refine bs_c (pc := 1) (s_istore hx hb (by decide +kernel) (by decide +kernel)) ?_
  refine bs_c (pc := 3) (s_fall (pc' := 0) (by decide +kernel)) ?_
  exact bs_n
set_option maxRecDepth 20000 in
theorem b_33_1 (C : CX p l s m args meth c d E F 33) : BB p l e s m args below meth c d E F K0 33 3 rc_33_1 := by
  obtain ⟨hx, hb, hml, hown, hts, hr, hlocks, hnm, hKN, hb0, hF⟩ := C
  have hb : c.code = prog_4_method_2_code := hb
  have hown : s.vm.findClass "RudeCoupons$Plans" = some m.cls := hown
  have hr : meth.sig.returnType = none := hr
  refine bs_c (pc := 3) (s_iload hx hb (by decide +kernel)) ?_
  refine bs_c (pc := 5) (s_bipush hx hb (z := 15) (by decide +kernel) (by decide +kernel)) ?_
  refine bs_c (pc := 7) (s_icmp_gt hx hb (by decide +kernel) hF) ?_
  refine bs_c (pc := 10) (s_aload_n hx hb (k := 0) (by decide +kernel) rfl) ?_
  refine bs_c (pc := 11) (s_getf hx hb hts in_2 hown hKN.1 (ci := 2) rfl (k := 0) (by decide) (hts _ lf_2_11) (by decide +kernel)) ?_
  refine bs_c (pc := 14) (s_iload_n hx hb (k := 3) (by decide +kernel) rfl) ?_
  refine bs_c (pc := 15) (s_aald hx hb hKN.1 (by decide +kernel)) ?_
  refine bs_c (pc := 16) (s_iload hx hb (by decide +kernel)) ?_
  refine bs_c (pc := 18) (s_iconst hx hb (z := 0) (by decide +kernel) (by decide +kernel)) ?_
  refine bs_c (pc := 19) (s_ast0 hx hb hKN.1 (by decide +kernel)) ?_
  refine bs_c (pc := 20) (s_aload_n hx hb (k := 0) (by decide +kernel) rfl) ?_
  refine bs_c (pc := 21) (s_getf hx hb hts in_2 hown hKN.1 (ci := 2) rfl (k := 1) (by decide) (hts _ lf_2_16) (by decide +kernel)) ?_
  refine bs_c (pc := 24) (s_iload_n hx hb (k := 3) (by decide +kernel) rfl) ?_
  refine bs_c (pc := 25) (s_aald hx hb hKN.1 (by decide +kernel)) ?_
  refine bs_c (pc := 26) (s_iload hx hb (by decide +kernel)) ?_
  refine bs_c (pc := 28) (s_iconst hx hb (z := 0) (by decide +kernel) (by decide +kernel)) ?_
  refine bs_c (pc := 29) (s_ast0 hx hb hKN.1 (by decide +kernel)) ?_
  refine bs_c (pc := 30) (s_iinc hx hb (z := 1) (by decide +kernel) (by decide +kernel) (by decide +kernel)) ?_
  refine bs_c (pc := 33) (s_goto hx hb (pc' := 0) (by decide +kernel)) ?_
  exact bs_n
set_option maxRecDepth 20000 in
theorem b_33_2 (C : CX p l s m args meth c d E F 33) : BB p l e s m args below meth c d E F K0 33 36 rc_33_2 := by
  obtain ⟨hx, hb, hml, hown, hts, hr, hlocks, hnm, hKN, hb0, hF⟩ := C
  have hb : c.code = prog_4_method_2_code := hb
  have hown : s.vm.findClass "RudeCoupons$Plans" = some m.cls := hown
  have hr : meth.sig.returnType = none := hr
  refine bs_c (pc := 36) (s_iconst hx hb (z := 0) (by decide +kernel) (by decide +kernel)) ?_
  refine bs_c (pc := 37) (s_istore hx hb (by decide +kernel) (by decide +kernel)) ?_
  refine bs_c (pc := 39) (s_fall (pc' := 0) (by decide +kernel)) ?_
  exact bs_n
set_option maxRecDepth 20000 in
theorem b_33_3 (C : CX p l s m args meth c d E F 33) : BB p l e s m args below meth c d E F K0 33 39 rc_33_3 := by
  obtain ⟨hx, hb, hml, hown, hts, hr, hlocks, hnm, hKN, hb0, hF⟩ := C
  have hb : c.code = prog_4_method_2_code := hb
  have hown : s.vm.findClass "RudeCoupons$Plans" = some m.cls := hown
  have hr : meth.sig.returnType = none := hr
  refine bs_c (pc := 39) (s_iload hx hb (by decide +kernel)) ?_
  refine bs_c (pc := 41) (s_aload_n hx hb (k := 1) (by decide +kernel) rfl) ?_
  refine bs_c (pc := 42) (s_getf hx hb hts in_0 hown hKN.1 (ci := 0) rfl (k := 8) (by decide) (hts _ lf_2_22) (by decide +kernel)) ?_
  refine bs_c (pc := 45) (s_icmp_ge hx hb (by decide +kernel) hF) ?_
  refine bs_c (pc := 48) (s_aload_n hx hb (k := 1) (by decide +kernel) rfl) ?_
  refine bs_c (pc := 49) (s_getf hx hb hts in_0 hown hKN.1 (ci := 0) rfl (k := 10) (by decide) (hts _ lf_2_28) (by decide +kernel)) ?_
  refine bs_c (pc := 52) (s_iload hx hb (by decide +kernel)) ?_
  refine bs_c (pc := 54) (s_ald0 hx hb hKN.1 (by decide +kernel)) ?_
  refine bs_c (pc := 55) (s_iload_n hx hb (k := 3) (by decide +kernel) rfl) ?_
  refine bs_c (pc := 56) (s_icmp_ne hx hb (by decide +kernel) hF) ?_
  refine bs_c (pc := 59) (s_aload_n hx hb (k := 2) (by decide +kernel) rfl) ?_
  refine bs_c (pc := 60) (s_aload_n hx hb (k := 1) (by decide +kernel) rfl) ?_
  refine bs_c (pc := 61) (s_iload hx hb (by decide +kernel)) ?_
  refine bs_c (pc := 63) (s_call rfl rfl (rk_V hx hb hml (index := 32) (y := 15) (n := 2) hown hts wc_15 (k := 6) rfl rfl lm_2_32 wk_15 wv_15 wi_15 wp_15 (by decide +kernel) (by decide +kernel)) hKN hb0) ?_
  refine bs_c (pc := 66) (s_if_eq hx hb (by decide +kernel) hF) ?_
  refine bs_c (pc := 69) (s_aload_n hx hb (k := 0) (by decide +kernel) rfl) ?_
  refine bs_c (pc := 70) (s_aload_n hx hb (k := 1) (by decide +kernel) rfl) ?_
  refine bs_c (pc := 71) (s_iload_n hx hb (k := 3) (by decide +kernel) rfl) ?_
  refine bs_c (pc := 72) (s_iload hx hb (by decide +kernel)) ?_
  refine bs_c (pc := 74) (s_call rfl rfl (rk_V hx hb hml (index := 38) (y := 11) (n := 3) hown hts wc_11 (k := 2) rfl rfl lm_2_38 wk_11 wv_11 wi_11 wp_11 (by decide +kernel) (by decide +kernel)) hKN hb0) ?_
  refine bs_c (pc := 77) (s_fall (pc' := 0) (by decide +kernel)) ?_
  exact bs_n
set_option maxRecDepth 20000 in
theorem b_33_4 (C : CX p l s m args meth c d E F 33) : BB p l e s m args below meth c d E F K0 33 77 rc_33_4 := by
  obtain ⟨hx, hb, hml, hown, hts, hr, hlocks, hnm, hKN, hb0, hF⟩ := C
  have hb : c.code = prog_4_method_2_code := hb
  have hown : s.vm.findClass "RudeCoupons$Plans" = some m.cls := hown
  have hr : meth.sig.returnType = none := hr
  refine bs_c (pc := 77) (s_iinc hx hb (z := 1) (by decide +kernel) (by decide +kernel) (by decide +kernel)) ?_
  refine bs_c (pc := 80) (s_goto hx hb (pc' := 0) (by decide +kernel)) ?_
  exact bs_n
set_option maxRecDepth 20000 in
theorem b_33_5 (C : CX p l s m args meth c d E F 33) : BB p l e s m args below meth c d E F K0 33 83 rc_33_5 := by
  obtain ⟨hx, hb, hml, hown, hts, hr, hlocks, hnm, hKN, hb0, hF⟩ := C
  have hb : c.code = prog_4_method_2_code := hb
  have hown : s.vm.findClass "RudeCoupons$Plans" = some m.cls := hown
  have hr : meth.sig.returnType = none := hr
  refine bs_c (pc := 83) (s_return hx hb hr hlocks (pc' := 0) (by decide +kernel)) ?_
  exact bs_n
set_option maxRecDepth 20000 in
theorem b_34_0 (C : CX p l s m args meth c d E F 34) : BB p l e s m args below meth c d E F K0 34 0 rc_34_0 := by
  obtain ⟨hx, hb, hml, hown, hts, hr, hlocks, hnm, hKN, hb0, hF⟩ := C
  have hb : c.code = prog_4_method_5_code := hb
  have hown : s.vm.findClass "RudeCoupons$Plans" = some m.cls := hown
  have hr : meth.sig.returnType = some .int := hr
  refine bs_c (pc := 0) (s_iload_n hx hb (k := 2) (by decide +kernel) rfl) ?_
  refine bs_c (pc := 1) (s_if_lt hx hb (by decide +kernel) hF) ?_
  refine bs_c (pc := 4) (s_iload_n hx hb (k := 2) (by decide +kernel) rfl) ?_
  refine bs_c (pc := 5) (s_bipush hx hb (z := 15) (by decide +kernel) (by decide +kernel)) ?_
  refine bs_c (pc := 7) (s_icmp_ge hx hb (by decide +kernel) hF) ?_
  refine bs_c (pc := 10) (s_aload_n hx hb (k := 0) (by decide +kernel) rfl) ?_
  refine bs_c (pc := 11) (s_getf hx hb hts in_2 hown hKN.1 (ci := 2) rfl (k := 0) (by decide) (hts _ lf_2_11) (by decide +kernel)) ?_
  refine bs_c (pc := 14) (s_iload_n hx hb (k := 1) (by decide +kernel) rfl) ?_
  refine bs_c (pc := 15) (s_aald hx hb hKN.1 (by decide +kernel)) ?_
  refine bs_c (pc := 16) (s_iload_n hx hb (k := 2) (by decide +kernel) rfl) ?_
  refine bs_c (pc := 17) (s_iconst hx hb (z := 1) (by decide +kernel) (by decide +kernel)) ?_
  refine bs_c (pc := 18) (s_iadd hx hb (by decide +kernel)) ?_
  refine bs_c (pc := 19) (s_ald0 hx hb hKN.1 (by decide +kernel)) ?_
  refine bs_c (pc := 20) (s_aload_n hx hb (k := 0) (by decide +kernel) rfl) ?_
  refine bs_c (pc := 21) (s_getf hx hb hts in_2 hown hKN.1 (ci := 2) rfl (k := 0) (by decide) (hts _ lf_2_11) (by decide +kernel)) ?_
  refine bs_c (pc := 24) (s_iload_n hx hb (k := 1) (by decide +kernel) rfl) ?_
  refine bs_c (pc := 25) (s_aald hx hb hKN.1 (by decide +kernel)) ?_
  refine bs_c (pc := 26) (s_iload_n hx hb (k := 2) (by decide +kernel) rfl) ?_
  refine bs_c (pc := 27) (s_ald0 hx hb hKN.1 (by decide +kernel)) ?_
  refine bs_c (pc := 28) (s_isub hx hb (by decide +kernel)) ?_
  refine bs_c (pc := 29) (s_goto hx hb (pc' := 0) (by decide +kernel)) ?_
  exact bs_n
set_option maxRecDepth 20000 in
theorem b_34_1 (C : CX p l s m args meth c d E F 34) : BB p l e s m args below meth c d E F K0 34 32 rc_34_1 := by
  obtain ⟨hx, hb, hml, hown, hts, hr, hlocks, hnm, hKN, hb0, hF⟩ := C
  have hb : c.code = prog_4_method_5_code := hb
  have hown : s.vm.findClass "RudeCoupons$Plans" = some m.cls := hown
  have hr : meth.sig.returnType = some .int := hr
  refine bs_c (pc := 32) (s_iconst hx hb (z := 0) (by decide +kernel) (by decide +kernel)) ?_
  refine bs_c (pc := 33) (s_fall (pc' := 0) (by decide +kernel)) ?_
  exact bs_n
set_option maxRecDepth 20000 in
theorem b_34_2 (C : CX p l s m args meth c d E F 34) : BB p l e s m args below meth c d E F K0 34 33 rc_34_2 := by
  obtain ⟨hx, hb, hml, hown, hts, hr, hlocks, hnm, hKN, hb0, hF⟩ := C
  have hb : c.code = prog_4_method_5_code := hb
  have hown : s.vm.findClass "RudeCoupons$Plans" = some m.cls := hown
  have hr : meth.sig.returnType = some .int := hr
  refine bs_c (pc := 33) (s_ireturn hx hb hr hlocks (pc' := 0) (by decide +kernel)) ?_
  exact bs_n
set_option maxRecDepth 20000 in
theorem b_35_0 (C : CX p l s m args meth c d E F 35) : BB p l e s m args below meth c d E F K0 35 0 rc_35_0 := by
  obtain ⟨hx, hb, hml, hown, hts, hr, hlocks, hnm, hKN, hb0, hF⟩ := C
  have hb : c.code = prog_4_method_4_code := hb
  have hown : s.vm.findClass "RudeCoupons$Plans" = some m.cls := hown
  have hr : meth.sig.returnType = none := hr
  refine bs_c (pc := 0) (s_iconst hx hb (z := 0) (by decide +kernel) (by decide +kernel)) ?_
  refine bs_c (pc := 1) (s_istore_n hx hb (k := 3) (by decide +kernel) rfl (by decide +kernel)) ?_
  refine bs_c (pc := 2) (s_fall (pc' := 0) (by decide +kernel)) ?_
  exact bs_n
set_option maxRecDepth 20000 in
theorem b_35_1 (C : CX p l s m args meth c d E F 35) : BB p l e s m args below meth c d E F K0 35 2 rc_35_1 := by
  obtain ⟨hx, hb, hml, hown, hts, hr, hlocks, hnm, hKN, hb0, hF⟩ := C
  have hb : c.code = prog_4_method_4_code := hb
  have hown : s.vm.findClass "RudeCoupons$Plans" = some m.cls := hown
  have hr : meth.sig.returnType = none := hr
  refine bs_c (pc := 2) (s_iload_n hx hb (k := 3) (by decide +kernel) rfl) ?_
  refine bs_c (pc := 3) (s_aload_n hx hb (k := 1) (by decide +kernel) rfl) ?_
  refine bs_c (pc := 4) (s_getf hx hb hts in_0 hown hKN.1 (ci := 0) rfl (k := 0) (by decide) (hts _ lf_2_54) (by decide +kernel)) ?_
  refine bs_c (pc := 7) (s_icmp_ge hx hb (by decide +kernel) hF) ?_
  refine bs_c (pc := 10) (s_aload_n hx hb (k := 0) (by decide +kernel) rfl) ?_
  refine bs_c (pc := 11) (s_aload_n hx hb (k := 1) (by decide +kernel) rfl) ?_
  refine bs_c (pc := 12) (s_aload_n hx hb (k := 2) (by decide +kernel) rfl) ?_
  refine bs_c (pc := 13) (s_iload_n hx hb (k := 3) (by decide +kernel) rfl) ?_
  refine bs_c (pc := 14) (s_call rfl rfl (rk_V hx hb hml (index := 57) (y := 33) (n := 3) hown hts wc_33 (k := 2) rfl rfl lm_2_57 wk_33 wv_33 wi_33 wp_33 (by decide +kernel) (by decide +kernel)) hKN hb0) ?_
  refine bs_c (pc := 17) (s_iinc hx hb (z := 1) (by decide +kernel) (by decide +kernel) (by decide +kernel)) ?_
  refine bs_c (pc := 20) (s_goto hx hb (pc' := 0) (by decide +kernel)) ?_
  exact bs_n
set_option maxRecDepth 20000 in
theorem b_35_2 (C : CX p l s m args meth c d E F 35) : BB p l e s m args below meth c d E F K0 35 23 rc_35_2 := by
  obtain ⟨hx, hb, hml, hown, hts, hr, hlocks, hnm, hKN, hb0, hF⟩ := C
  have hb : c.code = prog_4_method_4_code := hb
  have hown : s.vm.findClass "RudeCoupons$Plans" = some m.cls := hown
  have hr : meth.sig.returnType = none := hr
  refine bs_c (pc := 23) (s_return hx hb hr hlocks (pc' := 0) (by decide +kernel)) ?_
  exact bs_n
set_option maxRecDepth 20000 in
theorem b_36_0 (C : CX p l s m args meth c d E F 36) : BB p l e s m args below meth c d E F K0 36 0 rc_36_0 := by
  obtain ⟨hx, hb, hml, hown, hts, hr, hlocks, hnm, hKN, hb0, hF⟩ := C
  have hb : c.code = prog_4_method_6_code := hb
  have hown : s.vm.findClass "RudeCoupons$Plans" = some m.cls := hown
  have hr : meth.sig.returnType = none := hr
  refine bs_c (pc := 0) (s_iconst hx hb (z := 0) (by decide +kernel) (by decide +kernel)) ?_
  refine bs_c (pc := 1) (s_istore_n hx hb (k := 3) (by decide +kernel) rfl (by decide +kernel)) ?_
  refine bs_c (pc := 2) (s_fall (pc' := 0) (by decide +kernel)) ?_
  exact bs_n
set_option maxRecDepth 20000 in
theorem b_36_1 (C : CX p l s m args meth c d E F 36) : BB p l e s m args below meth c d E F K0 36 2 rc_36_1 := by
  obtain ⟨hx, hb, hml, hown, hts, hr, hlocks, hnm, hKN, hb0, hF⟩ := C
  have hb : c.code = prog_4_method_6_code := hb
  have hown : s.vm.findClass "RudeCoupons$Plans" = some m.cls := hown
  have hr : meth.sig.returnType = none := hr
  refine bs_c (pc := 2) (s_iload_n hx hb (k := 3) (by decide +kernel) rfl) ?_
  refine bs_c (pc := 3) (s_iload_n hx hb (k := 2) (by decide +kernel) rfl) ?_
  refine bs_c (pc := 4) (s_icmp_gt hx hb (by decide +kernel) hF) ?_
  refine bs_c (pc := 7) (s_aload_n hx hb (k := 0) (by decide +kernel) rfl) ?_
  refine bs_c (pc := 8) (s_getf hx hb hts in_2 hown hKN.1 (ci := 2) rfl (k := 2) (by decide) (hts _ lf_2_19) (by decide +kernel)) ?_
  refine bs_c (pc := 11) (s_iload_n hx hb (k := 1) (by decide +kernel) rfl) ?_
  refine bs_c (pc := 12) (s_aald hx hb hKN.1 (by decide +kernel)) ?_
  refine bs_c (pc := 13) (s_iload_n hx hb (k := 3) (by decide +kernel) rfl) ?_
  refine bs_c (pc := 14) (s_iload_n hx hb (k := 3) (by decide +kernel) rfl) ?_
  refine bs_c (pc := 15) (s_if_ne hx hb (by decide +kernel) hF) ?_
  refine bs_c (pc := 18) (s_iconst hx hb (z := 0) (by decide +kernel) (by decide +kernel)) ?_
  refine bs_c (pc := 19) (s_goto hx hb (pc' := 0) (by decide +kernel)) ?_
  exact bs_n
set_option maxRecDepth 20000 in
theorem b_36_2 (C : CX p l s m args meth c d E F 36) : BB p l e s m args below meth c d E F K0 36 22 rc_36_2 := by
  obtain ⟨hx, hb, hml, hown, hts, hr, hlocks, hnm, hKN, hb0, hF⟩ := C
  have hb : c.code = prog_4_method_6_code := hb
  have hown : s.vm.findClass "RudeCoupons$Plans" = some m.cls := hown
  have hr : meth.sig.returnType = none := hr
  refine bs_c (pc := 22) (s_bipush hx hb (z := -4) (by decide +kernel) (by decide +kernel)) ?_
  refine bs_c (pc := 24) (s_fall (pc' := 0) (by decide +kernel)) ?_
  exact bs_n
set_option maxRecDepth 20000 in
theorem b_36_3 (C : CX p l s m args meth c d E F 36) : BB p l e s m args below meth c d E F K0 36 24 rc_36_3 := by
  obtain ⟨hx, hb, hml, hown, hts, hr, hlocks, hnm, hKN, hb0, hF⟩ := C
  have hb : c.code = prog_4_method_6_code := hb
  have hown : s.vm.findClass "RudeCoupons$Plans" = some m.cls := hown
  have hr : meth.sig.returnType = none := hr
  refine bs_c (pc := 24) (s_ast0 hx hb hKN.1 (by decide +kernel)) ?_
  refine bs_c (pc := 25) (s_iinc hx hb (z := 1) (by decide +kernel) (by decide +kernel) (by decide +kernel)) ?_
  refine bs_c (pc := 28) (s_goto hx hb (pc' := 0) (by decide +kernel)) ?_
  exact bs_n
set_option maxRecDepth 20000 in
theorem b_36_4 (C : CX p l s m args meth c d E F 36) : BB p l e s m args below meth c d E F K0 36 31 rc_36_4 := by
  obtain ⟨hx, hb, hml, hown, hts, hr, hlocks, hnm, hKN, hb0, hF⟩ := C
  have hb : c.code = prog_4_method_6_code := hb
  have hown : s.vm.findClass "RudeCoupons$Plans" = some m.cls := hown
  have hr : meth.sig.returnType = none := hr
  refine bs_c (pc := 31) (s_iload_n hx hb (k := 1) (by decide +kernel) rfl) ?_
  refine bs_c (pc := 32) (s_iconst hx hb (z := 1) (by decide +kernel) (by decide +kernel)) ?_
  refine bs_c (pc := 33) (s_isub hx hb (by decide +kernel)) ?_
  refine bs_c (pc := 34) (s_istore_n hx hb (k := 3) (by decide +kernel) rfl (by decide +kernel)) ?_
  refine bs_c (pc := 35) (s_fall (pc' := 0) (by decide +kernel)) ?_
  exact bs_n
set_option maxRecDepth 20000 in
theorem b_36_5 (C : CX p l s m args meth c d E F 36) : BB p l e s m args below meth c d E F K0 36 35 rc_36_5 := by
  obtain ⟨hx, hb, hml, hown, hts, hr, hlocks, hnm, hKN, hb0, hF⟩ := C
  have hb : c.code = prog_4_method_6_code := hb
  have hown : s.vm.findClass "RudeCoupons$Plans" = some m.cls := hown
  have hr : meth.sig.returnType = none := hr
  refine bs_c (pc := 35) (s_iload_n hx hb (k := 3) (by decide +kernel) rfl) ?_
  refine bs_c (pc := 36) (s_if_lt hx hb (by decide +kernel) hF) ?_
  refine bs_c (pc := 39) (s_iconst hx hb (z := 0) (by decide +kernel) (by decide +kernel)) ?_
  refine bs_c (pc := 40) (s_istore hx hb (by decide +kernel) (by decide +kernel)) ?_
  refine bs_c (pc := 42) (s_fall (pc' := 0) (by decide +kernel)) ?_
  exact bs_n
set_option maxRecDepth 20000 in
theorem b_36_6 (C : CX p l s m args meth c d E F 36) : BB p l e s m args below meth c d E F K0 36 42 rc_36_6 := by
  obtain ⟨hx, hb, hml, hown, hts, hr, hlocks, hnm, hKN, hb0, hF⟩ := C
  have hb : c.code = prog_4_method_6_code := hb
  have hown : s.vm.findClass "RudeCoupons$Plans" = some m.cls := hown
  have hr : meth.sig.returnType = none := hr
  refine bs_c (pc := 42) (s_iload hx hb (by decide +kernel)) ?_
  refine bs_c (pc := 44) (s_iload_n hx hb (k := 2) (by decide +kernel) rfl) ?_
  refine bs_c (pc := 45) (s_icmp_gt hx hb (by decide +kernel) hF) ?_
  refine bs_c (pc := 48) (s_aload_n hx hb (k := 0) (by decide +kernel) rfl) ?_
  refine bs_c (pc := 49) (s_getf hx hb hts in_2 hown hKN.1 (ci := 2) rfl (k := 2) (by decide) (hts _ lf_2_19) (by decide +kernel)) ?_
  refine bs_c (pc := 52) (s_iload_n hx hb (k := 3) (by decide +kernel) rfl) ?_
  refine bs_c (pc := 53) (s_aald hx hb hKN.1 (by decide +kernel)) ?_
  refine bs_c (pc := 54) (s_iload hx hb (by decide +kernel)) ?_
  refine bs_c (pc := 56) (s_aload_n hx hb (k := 0) (by decide +kernel) rfl) ?_
  refine bs_c (pc := 57) (s_iload_n hx hb (k := 3) (by decide +kernel) rfl) ?_
  refine bs_c (pc := 58) (s_iload hx hb (by decide +kernel)) ?_
  refine bs_c (pc := 60) (s_call rfl rfl (rk_V hx hb hml (index := 61) (y := 13) (n := 2) hown hts wc_13 (k := 2) rfl rfl lm_2_61 wk_13 wv_13 wi_13 wp_13 (by decide +kernel) (by decide +kernel)) hKN hb0) ?_
  refine bs_c (pc := 63) (s_ast0 hx hb hKN.1 (by decide +kernel)) ?_
  refine bs_c (pc := 64) (s_iinc hx hb (z := 1) (by decide +kernel) (by decide +kernel) (by decide +kernel)) ?_
  refine bs_c (pc := 67) (s_goto hx hb (pc' := 0) (by decide +kernel)) ?_
  exact bs_n
set_option maxRecDepth 20000 in
theorem b_36_7 (C : CX p l s m args meth c d E F 36) : BB p l e s m args below meth c d E F K0 36 70 rc_36_7 := by
  obtain ⟨hx, hb, hml, hown, hts, hr, hlocks, hnm, hKN, hb0, hF⟩ := C
  have hb : c.code = prog_4_method_6_code := hb
  have hown : s.vm.findClass "RudeCoupons$Plans" = some m.cls := hown
  have hr : meth.sig.returnType = none := hr
  refine bs_c (pc := 70) (s_iinc hx hb (z := -1) (by decide +kernel) (by decide +kernel) (by decide +kernel)) ?_
  refine bs_c (pc := 73) (s_goto hx hb (pc' := 0) (by decide +kernel)) ?_
  exact bs_n
set_option maxRecDepth 20000 in
theorem b_36_8 (C : CX p l s m args meth c d E F 36) : BB p l e s m args below meth c d E F K0 36 76 rc_36_8 := by
  obtain ⟨hx, hb, hml, hown, hts, hr, hlocks, hnm, hKN, hb0, hF⟩ := C
  have hb : c.code = prog_4_method_6_code := hb
  have hown : s.vm.findClass "RudeCoupons$Plans" = some m.cls := hown
  have hr : meth.sig.returnType = none := hr
  refine bs_c (pc := 76) (s_return hx hb hr hlocks (pc' := 0) (by decide +kernel)) ?_
  exact bs_n
set_option maxRecDepth 20000 in
theorem b_37_0 (C : CX p l s m args meth c d E F 37) : BB p l e s m args below meth c d E F K0 37 0 rc_37_0 := by
  obtain ⟨hx, hb, hml, hown, hts, hr, hlocks, hnm, hKN, hb0, hF⟩ := C
  have hb : c.code = prog_4_method_9_code := hb
  have hown : s.vm.findClass "RudeCoupons$Plans" = some m.cls := hown
  have hr : meth.sig.returnType = some .int := hr
  refine bs_c (pc := 0) (s_iload_n hx hb (k := 2) (by decide +kernel) rfl) ?_
  refine bs_c (pc := 1) (s_istore_n hx hb (k := 3) (by decide +kernel) rfl (by decide +kernel)) ?_
  refine bs_c (pc := 2) (s_iconst hx hb (z := 0) (by decide +kernel) (by decide +kernel)) ?_
  refine bs_c (pc := 3) (s_istore hx hb (by decide +kernel) (by decide +kernel)) ?_
  refine bs_c (pc := 5) (s_fall (pc' := 0) (by decide +kernel)) ?_
  exact bs_n
set_option maxRecDepth 20000 in
theorem b_37_1 (C : CX p l s m args meth c d E F 37) : BB p l e s m args below meth c d E F K0 37 5 rc_37_1 := by
  obtain ⟨hx, hb, hml, hown, hts, hr, hlocks, hnm, hKN, hb0, hF⟩ := C
  have hb : c.code = prog_4_method_9_code := hb
  have hown : s.vm.findClass "RudeCoupons$Plans" = some m.cls := hown
  have hr : meth.sig.returnType = some .int := hr
  refine bs_c (pc := 5) (s_iload hx hb (by decide +kernel)) ?_
  refine bs_c (pc := 7) (s_iload_n hx hb (k := 1) (by decide +kernel) rfl) ?_
  refine bs_c (pc := 8) (s_icmp_ge hx hb (by decide +kernel) hF) ?_
  refine bs_c (pc := 11) (s_iload_n hx hb (k := 3) (by decide +kernel) rfl) ?_
  refine bs_c (pc := 12) (s_aload_n hx hb (k := 0) (by decide +kernel) rfl) ?_
  refine bs_c (pc := 13) (s_iload hx hb (by decide +kernel)) ?_
  refine bs_c (pc := 15) (s_iload_n hx hb (k := 3) (by decide +kernel) rfl) ?_
  refine bs_c (pc := 16) (s_call rfl rfl (rk_V hx hb hml (index := 74) (y := 38) (n := 2) hown hts wc_38 (k := 2) rfl rfl lm_2_74 wk_38 wv_38 wi_38 wp_38 (by decide +kernel) (by decide +kernel)) hKN hb0) ?_
  refine bs_c (pc := 19) (s_isub hx hb (by decide +kernel)) ?_
  refine bs_c (pc := 20) (s_istore_n hx hb (k := 3) (by decide +kernel) rfl (by decide +kernel)) ?_
  refine bs_c (pc := 21) (s_iinc hx hb (z := 1) (by decide +kernel) (by decide +kernel) (by decide +kernel)) ?_
  refine bs_c (pc := 24) (s_goto hx hb (pc' := 0) (by decide +kernel)) ?_
  exact bs_n
set_option maxRecDepth 20000 in
theorem b_37_2 (C : CX p l s m args meth c d E F 37) : BB p l e s m args below meth c d E F K0 37 27 rc_37_2 := by
  obtain ⟨hx, hb, hml, hown, hts, hr, hlocks, hnm, hKN, hb0, hF⟩ := C
  have hb : c.code = prog_4_method_9_code := hb
  have hown : s.vm.findClass "RudeCoupons$Plans" = some m.cls := hown
  have hr : meth.sig.returnType = some .int := hr
  refine bs_c (pc := 27) (s_aload_n hx hb (k := 0) (by decide +kernel) rfl) ?_
  refine bs_c (pc := 28) (s_iload_n hx hb (k := 1) (by decide +kernel) rfl) ?_
  refine bs_c (pc := 29) (s_iload_n hx hb (k := 3) (by decide +kernel) rfl) ?_
  refine bs_c (pc := 30) (s_call rfl rfl (rk_V hx hb hml (index := 74) (y := 38) (n := 2) hown hts wc_38 (k := 2) rfl rfl lm_2_74 wk_38 wv_38 wi_38 wp_38 (by decide +kernel) (by decide +kernel)) hKN hb0) ?_
  refine bs_c (pc := 33) (s_ireturn hx hb hr hlocks (pc' := 0) (by decide +kernel)) ?_
  exact bs_n
set_option maxRecDepth 20000 in
theorem b_38_0 (C : CX p l s m args meth c d E F 38) : BB p l e s m args below meth c d E F K0 38 0 rc_38_0 := by
  obtain ⟨hx, hb, hml, hown, hts, hr, hlocks, hnm, hKN, hb0, hF⟩ := C
  have hb : c.code = prog_4_method_10_code := hb
  have hown : s.vm.findClass "RudeCoupons$Plans" = some m.cls := hown
  have hr : meth.sig.returnType = some .int := hr
  refine bs_c (pc := 0) (s_bipush hx hb (z := 15) (by decide +kernel) (by decide +kernel)) ?_
  refine bs_c (pc := 2) (s_iload_n hx hb (k := 2) (by decide +kernel) rfl) ?_
  refine bs_c (pc := 3) (s_min hx hb hml hown (hts _ lM_2_77) (hts _ wM_min) (hts _ wM_i) (hts _ wN_min) (by decide +kernel) (by decide +kernel) (by decide +kernel)) ?_
  refine bs_c (pc := 6) (s_istore_n hx hb (k := 3) (by decide +kernel) rfl (by decide +kernel)) ?_
  refine bs_c (pc := 7) (s_fall (pc' := 0) (by decide +kernel)) ?_
  exact bs_n
set_option maxRecDepth 20000 in
theorem b_38_1 (C : CX p l s m args meth c d E F 38) : BB p l e s m args below meth c d E F K0 38 7 rc_38_1 := by
  obtain ⟨hx, hb, hml, hown, hts, hr, hlocks, hnm, hKN, hb0, hF⟩ := C
  have hb : c.code = prog_4_method_10_code := hb
  have hown : s.vm.findClass "RudeCoupons$Plans" = some m.cls := hown
  have hr : meth.sig.returnType = some .int := hr
  refine bs_c (pc := 7) (s_iload_n hx hb (k := 3) (by decide +kernel) rfl) ?_
  refine bs_c (pc := 8) (s_if_le hx hb (by decide +kernel) hF) ?_
  refine bs_c (pc := 11) (s_aload_n hx hb (k := 0) (by decide +kernel) rfl) ?_
  refine bs_c (pc := 12) (s_iload_n hx hb (k := 1) (by decide +kernel) rfl) ?_
  refine bs_c (pc := 13) (s_iload_n hx hb (k := 3) (by decide +kernel) rfl) ?_
  refine bs_c (pc := 14) (s_iload_n hx hb (k := 2) (by decide +kernel) rfl) ?_
  refine bs_c (pc := 15) (s_call rfl rfl (rk_V hx hb hml (index := 65) (y := 12) (n := 3) hown hts wc_12 (k := 2) rfl rfl lm_2_65 wk_12 wv_12 wi_12 wp_12 (by decide +kernel) (by decide +kernel)) hKN hb0) ?_
  refine bs_c (pc := 18) (s_aload_n hx hb (k := 0) (by decide +kernel) rfl) ?_
  refine bs_c (pc := 19) (s_getf hx hb hts in_2 hown hKN.1 (ci := 2) rfl (k := 2) (by decide) (hts _ lf_2_19) (by decide +kernel)) ?_
  refine bs_c (pc := 22) (s_iload_n hx hb (k := 1) (by decide +kernel) rfl) ?_
  refine bs_c (pc := 23) (s_aald hx hb hKN.1 (by decide +kernel)) ?_
  refine bs_c (pc := 24) (s_iload_n hx hb (k := 2) (by decide +kernel) rfl) ?_
  refine bs_c (pc := 25) (s_ald0 hx hb hKN.1 (by decide +kernel)) ?_
  refine bs_c (pc := 26) (s_icmp_ne hx hb (by decide +kernel) hF) ?_
  refine bs_c (pc := 29) (s_iload_n hx hb (k := 3) (by decide +kernel) rfl) ?_
  refine bs_c (pc := 30) (s_ireturn hx hb hr hlocks (pc' := 0) (by decide +kernel)) ?_
  exact bs_n
set_option maxRecDepth 20000 in
theorem b_38_2 (C : CX p l s m args meth c d E F 38) : BB p l e s m args below meth c d E F K0 38 31 rc_38_2 := by
  obtain ⟨hx, hb, hml, hown, hts, hr, hlocks, hnm, hKN, hb0, hF⟩ := C
  have hb : c.code = prog_4_method_10_code := hb
  have hown : s.vm.findClass "RudeCoupons$Plans" = some m.cls := hown
  have hr : meth.sig.returnType = some .int := hr
  refine bs_c (pc := 31) (s_iinc hx hb (z := -1) (by decide +kernel) (by decide +kernel) (by decide +kernel)) ?_
  refine bs_c (pc := 34) (s_goto hx hb (pc' := 0) (by decide +kernel)) ?_
  exact bs_n
set_option maxRecDepth 20000 in
theorem b_38_3 (C : CX p l s m args meth c d E F 38) : BB p l e s m args below meth c d E F K0 38 37 rc_38_3 := by
  obtain ⟨hx, hb, hml, hown, hts, hr, hlocks, hnm, hKN, hb0, hF⟩ := C
  have hb : c.code = prog_4_method_10_code := hb
  have hown : s.vm.findClass "RudeCoupons$Plans" = some m.cls := hown
  have hr : meth.sig.returnType = some .int := hr
  refine bs_c (pc := 37) (s_iconst hx hb (z := 0) (by decide +kernel) (by decide +kernel)) ?_
  refine bs_c (pc := 38) (s_ireturn hx hb hr hlocks (pc' := 0) (by decide +kernel)) ?_
  exact bs_n
set_option maxRecDepth 20000 in
theorem b_39_0 (C : CX p l s m args meth c d E F 39) : BB p l e s m args below meth c d E F K0 39 0 rc_39_0 := by
  obtain ⟨hx, hb, hml, hown, hts, hr, hlocks, hnm, hKN, hb0, hF⟩ := C
  have hb : c.code = prog_5_method_1_code := hb
  have hown : s.vm.findClass "RudeCoupons$Reader" = some m.cls := hown
  have hr : meth.sig.returnType = none := hr
  have hnm : meth.name = "<init>" := hnm
  refine bs_c (pc := 0) (s_aload_n hx hb (k := 0) (by decide +kernel) rfl) ?_
  refine bs_c (pc := 1) (s_oinit hx hb hml hown (hts _ lo_3) (hts _ wo_1) (hts _ wo_2) (by decide +kernel) (by decide +kernel) (by decide +kernel)) ?_
  refine bs_c (pc := 4) (s_aload_n hx hb (k := 0) (by decide +kernel) rfl) ?_
  refine bs_c (pc := 5) (s_iconst hx hb (z := 3) (by decide +kernel) (by decide +kernel)) ?_
  refine bs_c (pc := 6) (s_newa0 hx hb (hts _ wa_0) hKN.1 hb0 (by decide +kernel)) ?_
  refine bs_c (pc := 8) (s_putRF hx hb hts in_3 hown hKN.1 (ci := 3) rfl (k := 0) (by decide) (hts _ lf_3_9) tyX3 tyX3_ok nmX3 (ty := .array .int) (tyX3_ok 0 (by decide)) (fun _ => ⟨rfl, rfl⟩) rfl hnm rfl (by decide +kernel)) ?_
  refine bs_c (pc := 11) (s_return hx hb hr hlocks (pc' := 0) (by decide +kernel)) ?_
  exact bs_n
set_option maxRecDepth 20000 in
theorem b_40_0 (C : CX p l s m args meth c d E F 40) : BB p l e s m args below meth c d E F K0 40 0 rc_40_0 := by
  obtain ⟨hx, hb, hml, hown, hts, hr, hlocks, hnm, hKN, hb0, hF⟩ := C
  have hb : c.code = prog_5_method_2_code := hb
  have hown : s.vm.findClass "RudeCoupons$Reader" = some m.cls := hown
  have hr : meth.sig.returnType = some .int := hr
  refine bs_c (pc := 0) (s_aload_n hx hb (k := 1) (by decide +kernel) rfl) ?_
  refine bs_c (pc := 1) (s_call rfl rfl (rk_V hx hb hml (index := 15) (y := 18) (n := 0) hown hts wc_18 (k := 0) rfl rfl lm_3_15 wk_18 wv_18 wi_18 wp_18 (by decide +kernel) (by decide +kernel)) hKN hb0) ?_
  refine bs_c (pc := 4) (s_iconst hx hb (z := 0) (by decide +kernel) (by decide +kernel)) ?_
  refine bs_c (pc := 5) (s_istore_n hx hb (k := 3) (by decide +kernel) rfl (by decide +kernel)) ?_
  refine bs_c (pc := 6) (s_iconst hx hb (z := 0) (by decide +kernel) (by decide +kernel)) ?_
  refine bs_c (pc := 7) (s_istore hx hb (by decide +kernel) (by decide +kernel)) ?_
  refine bs_c (pc := 9) (s_fall (pc' := 0) (by decide +kernel)) ?_
  exact bs_n
set_option maxRecDepth 20000 in
theorem b_40_1 (C : CX p l s m args meth c d E F 40) : BB p l e s m args below meth c d E F K0 40 9 rc_40_1 := by
  obtain ⟨hx, hb, hml, hown, hts, hr, hlocks, hnm, hKN, hb0, hF⟩ := C
  have hb : c.code = prog_5_method_2_code := hb
  have hown : s.vm.findClass "RudeCoupons$Reader" = some m.cls := hown
  have hr : meth.sig.returnType = some .int := hr
  refine bs_c (pc := 9) (s_iload hx hb (by decide +kernel)) ?_
  refine bs_c (pc := 11) (s_sipush hx hb (z := 200) (by decide +kernel) (by decide +kernel)) ?_
  refine bs_c (pc := 14) (s_icmp_ge hx hb (by decide +kernel) hF) ?_
  refine bs_c (pc := 17) (s_iload_n hx hb (k := 3) (by decide +kernel) rfl) ?_
  refine bs_c (pc := 18) (s_aload_n hx hb (k := 2) (by decide +kernel) rfl) ?_
  refine bs_c (pc := 19) (s_getf hx hb hts in_1 hown hKN.1 (ci := 1) rfl (k := 1) (by decide) (hts _ lf_3_20) (by decide +kernel)) ?_
  refine bs_c (pc := 22) (s_icmp_ge hx hb (by decide +kernel) hF) ?_
  refine bs_c (pc := 25) (s_aload_n hx hb (k := 0) (by decide +kernel) rfl) ?_
  refine bs_c (pc := 26) (s_aload_n hx hb (k := 1) (by decide +kernel) rfl) ?_
  refine bs_c (pc := 27) (s_aload_n hx hb (k := 2) (by decide +kernel) rfl) ?_
  refine bs_c (pc := 28) (s_iload_n hx hb (k := 3) (by decide +kernel) rfl) ?_
  refine bs_c (pc := 29) (s_call rfl rfl (rk_V hx hb hml (index := 26) (y := 41) (n := 3) hown hts wc_41 (k := 3) rfl rfl lm_3_26 wk_41 wv_41 wi_41 wp_41 (by decide +kernel) (by decide +kernel)) hKN hb0) ?_
  refine bs_c (pc := 32) (s_istore hx hb (by decide +kernel) (by decide +kernel)) ?_
  refine bs_c (pc := 34) (s_iload hx hb (by decide +kernel)) ?_
  refine bs_c (pc := 36) (s_if_ge hx hb (by decide +kernel) hF) ?_
  refine bs_c (pc := 39) (s_iload_n hx hb (k := 3) (by decide +kernel) rfl) ?_
  refine bs_c (pc := 40) (s_ireturn hx hb hr hlocks (pc' := 0) (by decide +kernel)) ?_
  exact bs_n
set_option maxRecDepth 20000 in
theorem b_40_2 (C : CX p l s m args meth c d E F 40) : BB p l e s m args below meth c d E F K0 40 41 rc_40_2 := by
  obtain ⟨hx, hb, hml, hown, hts, hr, hlocks, hnm, hKN, hb0, hF⟩ := C
  have hb : c.code = prog_5_method_2_code := hb
  have hown : s.vm.findClass "RudeCoupons$Reader" = some m.cls := hown
  have hr : meth.sig.returnType = some .int := hr
  refine bs_c (pc := 41) (s_iload hx hb (by decide +kernel)) ?_
  refine bs_c (pc := 43) (s_istore_n hx hb (k := 3) (by decide +kernel) rfl (by decide +kernel)) ?_
  refine bs_c (pc := 44) (s_iinc hx hb (z := 1) (by decide +kernel) (by decide +kernel) (by decide +kernel)) ?_
  refine bs_c (pc := 47) (s_goto hx hb (pc' := 0) (by decide +kernel)) ?_
  exact bs_n
set_option maxRecDepth 20000 in
theorem b_40_3 (C : CX p l s m args meth c d E F 40) : BB p l e s m args below meth c d E F K0 40 50 rc_40_3 := by
  obtain ⟨hx, hb, hml, hown, hts, hr, hlocks, hnm, hKN, hb0, hF⟩ := C
  have hb : c.code = prog_5_method_2_code := hb
  have hown : s.vm.findClass "RudeCoupons$Reader" = some m.cls := hown
  have hr : meth.sig.returnType = some .int := hr
  refine bs_c (pc := 50) (s_bipush hx hb (z := -4) (by decide +kernel) (by decide +kernel)) ?_
  refine bs_c (pc := 52) (s_ireturn hx hb hr hlocks (pc' := 0) (by decide +kernel)) ?_
  exact bs_n
set_option maxRecDepth 20000 in
theorem b_41_0 (C : CX p l s m args meth c d E F 41) : BB p l e s m args below meth c d E F K0 41 0 rc_41_0 := by
  obtain ⟨hx, hb, hml, hown, hts, hr, hlocks, hnm, hKN, hb0, hF⟩ := C
  have hb : c.code = prog_5_method_3_code := hb
  have hown : s.vm.findClass "RudeCoupons$Reader" = some m.cls := hown
  have hr : meth.sig.returnType = some .int := hr
  refine bs_c (pc := 0) (s_iload_n hx hb (k := 3) (by decide +kernel) rfl) ?_
  refine bs_c (pc := 1) (s_iconst hx hb (z := 1) (by decide +kernel) (by decide +kernel)) ?_
  refine bs_c (pc := 2) (s_iadd hx hb (by decide +kernel)) ?_
  refine bs_c (pc := 3) (s_istore hx hb (by decide +kernel) (by decide +kernel)) ?_
  refine bs_c (pc := 5) (s_iconst hx hb (z := 0) (by decide +kernel) (by decide +kernel)) ?_
  refine bs_c (pc := 6) (s_istore hx hb (by decide +kernel) (by decide +kernel)) ?_
  refine bs_c (pc := 8) (s_fall (pc' := 0) (by decide +kernel)) ?_
  exact bs_n
set_option maxRecDepth 20000 in
theorem b_41_1 (C : CX p l s m args meth c d E F 41) : BB p l e s m args below meth c d E F K0 41 8 rc_41_1 := by
  obtain ⟨hx, hb, hml, hown, hts, hr, hlocks, hnm, hKN, hb0, hF⟩ := C
  have hb : c.code = prog_5_method_3_code := hb
  have hown : s.vm.findClass "RudeCoupons$Reader" = some m.cls := hown
  have hr : meth.sig.returnType = some .int := hr
  refine bs_c (pc := 8) (s_iload hx hb (by decide +kernel)) ?_
  refine bs_c (pc := 10) (s_aload_n hx hb (k := 0) (by decide +kernel) rfl) ?_
  refine bs_c (pc := 11) (s_getf hx hb hts in_3 hown hKN.1 (ci := 3) rfl (k := 0) (by decide) (hts _ lf_3_9) (by decide +kernel)) ?_
  refine bs_c (pc := 14) (s_alen hx hb hKN.1 (by decide +kernel)) ?_
  refine bs_c (pc := 15) (s_icmp_ge hx hb (by decide +kernel) hF) ?_
  refine bs_c (pc := 18) (s_aload_n hx hb (k := 2) (by decide +kernel) rfl) ?_
  refine bs_c (pc := 19) (s_iload hx hb (by decide +kernel)) ?_
  refine bs_c (pc := 21) (s_call rfl rfl (rk_S hx hb hml (index := 30) (y := 42) (n := 2) hown hts wc_42 lm_3_30 wk_42 wi_42 wp_42 (by decide +kernel) (by decide +kernel)) hKN hb0) ?_
  refine bs_c (pc := 24) (s_istore hx hb (by decide +kernel) (by decide +kernel)) ?_
  refine bs_c (pc := 26) (s_iload hx hb (by decide +kernel)) ?_
  refine bs_c (pc := 28) (s_if_ne hx hb (by decide +kernel) hF) ?_
  refine bs_c (pc := 31) (s_bipush hx hb (z := -4) (by decide +kernel) (by decide +kernel)) ?_
  refine bs_c (pc := 33) (s_ireturn hx hb hr hlocks (pc' := 0) (by decide +kernel)) ?_
  exact bs_n
set_option maxRecDepth 20000 in
theorem b_41_2 (C : CX p l s m args meth c d E F 41) : BB p l e s m args below meth c d E F K0 41 34 rc_41_2 := by
  obtain ⟨hx, hb, hml, hown, hts, hr, hlocks, hnm, hKN, hb0, hF⟩ := C
  have hb : c.code = prog_5_method_3_code := hb
  have hown : s.vm.findClass "RudeCoupons$Reader" = some m.cls := hown
  have hr : meth.sig.returnType = some .int := hr
  refine bs_c (pc := 34) (s_aload_n hx hb (k := 0) (by decide +kernel) rfl) ?_
  refine bs_c (pc := 35) (s_getf hx hb hts in_3 hown hKN.1 (ci := 3) rfl (k := 0) (by decide) (hts _ lf_3_9) (by decide +kernel)) ?_
  refine bs_c (pc := 38) (s_iload hx hb (by decide +kernel)) ?_
  refine bs_c (pc := 40) (s_aload_n hx hb (k := 2) (by decide +kernel) rfl) ?_
  refine bs_c (pc := 41) (s_iload hx hb (by decide +kernel)) ?_
  refine bs_c (pc := 43) (s_iload hx hb (by decide +kernel)) ?_
  refine bs_c (pc := 45) (s_call rfl rfl (rk_S hx hb hml (index := 34) (y := 44) (n := 3) hown hts wc_44 lm_3_34 wk_44 wi_44 wp_44 (by decide +kernel) (by decide +kernel)) hKN hb0) ?_
  refine bs_c (pc := 48) (s_ast0 hx hb hKN.1 (by decide +kernel)) ?_
  refine bs_c (pc := 49) (s_iload hx hb (by decide +kernel)) ?_
  refine bs_c (pc := 51) (s_iload hx hb (by decide +kernel)) ?_
  refine bs_c (pc := 53) (s_iadd hx hb (by decide +kernel)) ?_
  refine bs_c (pc := 54) (s_istore hx hb (by decide +kernel) (by decide +kernel)) ?_
  refine bs_c (pc := 56) (s_iload hx hb (by decide +kernel)) ?_
  refine bs_c (pc := 58) (s_aload_n hx hb (k := 0) (by decide +kernel) rfl) ?_
  refine bs_c (pc := 59) (s_getf hx hb hts in_3 hown hKN.1 (ci := 3) rfl (k := 0) (by decide) (hts _ lf_3_9) (by decide +kernel)) ?_
  refine bs_c (pc := 62) (s_alen hx hb hKN.1 (by decide +kernel)) ?_
  refine bs_c (pc := 63) (s_iconst hx hb (z := 1) (by decide +kernel) (by decide +kernel)) ?_
  refine bs_c (pc := 64) (s_isub hx hb (by decide +kernel)) ?_
  refine bs_c (pc := 65) (s_icmp_ne hx hb (by decide +kernel) hF) ?_
  refine bs_c (pc := 68) (s_iconst hx hb (z := 1) (by decide +kernel) (by decide +kernel)) ?_
  refine bs_c (pc := 69) (s_goto hx hb (pc' := 0) (by decide +kernel)) ?_
  exact bs_n
set_option maxRecDepth 20000 in
theorem b_41_3 (C : CX p l s m args meth c d E F 41) : BB p l e s m args below meth c d E F K0 41 72 rc_41_3 := by
  obtain ⟨hx, hb, hml, hown, hts, hr, hlocks, hnm, hKN, hb0, hF⟩ := C
  have hb : c.code = prog_5_method_3_code := hb
  have hown : s.vm.findClass "RudeCoupons$Reader" = some m.cls := hown
  have hr : meth.sig.returnType = some .int := hr
  refine bs_c (pc := 72) (s_iconst hx hb (z := 0) (by decide +kernel) (by decide +kernel)) ?_
  refine bs_c (pc := 73) (s_fall (pc' := 0) (by decide +kernel)) ?_
  exact bs_n
set_option maxRecDepth 20000 in
theorem b_41_4 (C : CX p l s m args meth c d E F 41) : BB p l e s m args below meth c d E F K0 41 73 rc_41_4 := by
  obtain ⟨hx, hb, hml, hown, hts, hr, hlocks, hnm, hKN, hb0, hF⟩ := C
  have hb : c.code = prog_5_method_3_code := hb
  have hown : s.vm.findClass "RudeCoupons$Reader" = some m.cls := hown
  have hr : meth.sig.returnType = some .int := hr
  refine bs_c (pc := 73) (s_istore hx hb (by decide +kernel) (by decide +kernel)) ?_
  refine bs_c (pc := 75) (s_aload_n hx hb (k := 2) (by decide +kernel) rfl) ?_
  refine bs_c (pc := 76) (s_iload hx hb (by decide +kernel)) ?_
  refine bs_c (pc := 78) (s_call rfl rfl (rk_V hx hb hml (index := 38) (y := 30) (n := 1) hown hts wc_30 (k := 1) rfl rfl lm_3_38 wk_30 wv_30 wi_30 wp_30 (by decide +kernel) (by decide +kernel)) hKN hb0) ?_
  refine bs_c (pc := 81) (s_iload hx hb (by decide +kernel)) ?_
  refine bs_c (pc := 83) (s_if_eq hx hb (by decide +kernel) hF) ?_
  refine bs_c (pc := 86) (s_bipush hx hb (z := 59) (by decide +kernel) (by decide +kernel)) ?_
  refine bs_c (pc := 88) (s_goto hx hb (pc' := 0) (by decide +kernel)) ?_
  exact bs_n
set_option maxRecDepth 20000 in
theorem b_41_5 (C : CX p l s m args meth c d E F 41) : BB p l e s m args below meth c d E F K0 41 91 rc_41_5 := by
  obtain ⟨hx, hb, hml, hown, hts, hr, hlocks, hnm, hKN, hb0, hF⟩ := C
  have hb : c.code = prog_5_method_3_code := hb
  have hown : s.vm.findClass "RudeCoupons$Reader" = some m.cls := hown
  have hr : meth.sig.returnType = some .int := hr
  refine bs_c (pc := 91) (s_bipush hx hb (z := 44) (by decide +kernel) (by decide +kernel)) ?_
  refine bs_c (pc := 93) (s_fall (pc' := 0) (by decide +kernel)) ?_
  exact bs_n
set_option maxRecDepth 20000 in
theorem b_41_6 (C : CX p l s m args meth c d E F 41) : BB p l e s m args below meth c d E F K0 41 93 rc_41_6 := by
  obtain ⟨hx, hb, hml, hown, hts, hr, hlocks, hnm, hKN, hb0, hF⟩ := C
  have hb : c.code = prog_5_method_3_code := hb
  have hown : s.vm.findClass "RudeCoupons$Reader" = some m.cls := hown
  have hr : meth.sig.returnType = some .int := hr
  refine bs_c (pc := 93) (s_icmp_eq hx hb (by decide +kernel) hF) ?_
  refine bs_c (pc := 96) (s_bipush hx hb (z := -4) (by decide +kernel) (by decide +kernel)) ?_
  refine bs_c (pc := 98) (s_ireturn hx hb hr hlocks (pc' := 0) (by decide +kernel)) ?_
  exact bs_n
set_option maxRecDepth 20000 in
theorem b_41_7 (C : CX p l s m args meth c d E F 41) : BB p l e s m args below meth c d E F K0 41 99 rc_41_7 := by
  obtain ⟨hx, hb, hml, hown, hts, hr, hlocks, hnm, hKN, hb0, hF⟩ := C
  have hb : c.code = prog_5_method_3_code := hb
  have hown : s.vm.findClass "RudeCoupons$Reader" = some m.cls := hown
  have hr : meth.sig.returnType = some .int := hr
  refine bs_c (pc := 99) (s_iinc hx hb (z := 1) (by decide +kernel) (by decide +kernel) (by decide +kernel)) ?_
  refine bs_c (pc := 102) (s_iinc hx hb (z := 1) (by decide +kernel) (by decide +kernel) (by decide +kernel)) ?_
  refine bs_c (pc := 105) (s_goto hx hb (pc' := 0) (by decide +kernel)) ?_
  exact bs_n
set_option maxRecDepth 20000 in
theorem b_41_8 (C : CX p l s m args meth c d E F 41) : BB p l e s m args below meth c d E F K0 41 108 rc_41_8 := by
  obtain ⟨hx, hb, hml, hown, hts, hr, hlocks, hnm, hKN, hb0, hF⟩ := C
  have hb : c.code = prog_5_method_3_code := hb
  have hown : s.vm.findClass "RudeCoupons$Reader" = some m.cls := hown
  have hr : meth.sig.returnType = some .int := hr
  refine bs_c (pc := 108) (s_aload_n hx hb (k := 1) (by decide +kernel) rfl) ?_
  refine bs_c (pc := 109) (s_aload_n hx hb (k := 2) (by decide +kernel) rfl) ?_
  refine bs_c (pc := 110) (s_iload_n hx hb (k := 3) (by decide +kernel) rfl) ?_
  refine bs_c (pc := 111) (s_call rfl rfl (rk_V hx hb hml (index := 38) (y := 30) (n := 1) hown hts wc_30 (k := 1) rfl rfl lm_3_38 wk_30 wv_30 wi_30 wp_30 (by decide +kernel) (by decide +kernel)) hKN hb0) ?_
  refine bs_c (pc := 114) (s_aload_n hx hb (k := 0) (by decide +kernel) rfl) ?_
  refine bs_c (pc := 115) (s_getf hx hb hts in_3 hown hKN.1 (ci := 3) rfl (k := 0) (by decide) (hts _ lf_3_9) (by decide +kernel)) ?_
  refine bs_c (pc := 118) (s_iconst hx hb (z := 0) (by decide +kernel) (by decide +kernel)) ?_
  refine bs_c (pc := 119) (s_ald0 hx hb hKN.1 (by decide +kernel)) ?_
  refine bs_c (pc := 120) (s_aload_n hx hb (k := 0) (by decide +kernel) rfl) ?_
  refine bs_c (pc := 121) (s_getf hx hb hts in_3 hown hKN.1 (ci := 3) rfl (k := 0) (by decide) (hts _ lf_3_9) (by decide +kernel)) ?_
  refine bs_c (pc := 124) (s_iconst hx hb (z := 1) (by decide +kernel) (by decide +kernel)) ?_
  refine bs_c (pc := 125) (s_ald0 hx hb hKN.1 (by decide +kernel)) ?_
  refine bs_c (pc := 126) (s_aload_n hx hb (k := 0) (by decide +kernel) rfl) ?_
  refine bs_c (pc := 127) (s_getf hx hb hts in_3 hown hKN.1 (ci := 3) rfl (k := 0) (by decide) (hts _ lf_3_9) (by decide +kernel)) ?_
  refine bs_c (pc := 130) (s_iconst hx hb (z := 2) (by decide +kernel) (by decide +kernel)) ?_
  refine bs_c (pc := 131) (s_ald0 hx hb hKN.1 (by decide +kernel)) ?_
  refine bs_c (pc := 132) (s_call rfl rfl (rk_V hx hb hml (index := 42) (y := 19) (n := 4) hown hts wc_19 (k := 0) rfl rfl lm_3_42 wk_19 wv_19 wi_19 wp_19 (by decide +kernel) (by decide +kernel)) hKN hb0) ?_
  refine bs_c (pc := 135) (s_if_eq hx hb (by decide +kernel) hF) ?_
  refine bs_c (pc := 138) (s_iload hx hb (by decide +kernel)) ?_
  refine bs_c (pc := 140) (s_goto hx hb (pc' := 0) (by decide +kernel)) ?_
  exact bs_n
set_option maxRecDepth 20000 in
theorem b_41_9 (C : CX p l s m args meth c d E F 41) : BB p l e s m args below meth c d E F K0 41 143 rc_41_9 := by
  obtain ⟨hx, hb, hml, hown, hts, hr, hlocks, hnm, hKN, hb0, hF⟩ := C
  have hb : c.code = prog_5_method_3_code := hb
  have hown : s.vm.findClass "RudeCoupons$Reader" = some m.cls := hown
  have hr : meth.sig.returnType = some .int := hr
  refine bs_c (pc := 143) (s_bipush hx hb (z := -4) (by decide +kernel) (by decide +kernel)) ?_
  refine bs_c (pc := 145) (s_fall (pc' := 0) (by decide +kernel)) ?_
  exact bs_n
set_option maxRecDepth 20000 in
theorem b_41_10 (C : CX p l s m args meth c d E F 41) : BB p l e s m args below meth c d E F K0 41 145 rc_41_10 := by
  obtain ⟨hx, hb, hml, hown, hts, hr, hlocks, hnm, hKN, hb0, hF⟩ := C
  have hb : c.code = prog_5_method_3_code := hb
  have hown : s.vm.findClass "RudeCoupons$Reader" = some m.cls := hown
  have hr : meth.sig.returnType = some .int := hr
  refine bs_c (pc := 145) (s_ireturn hx hb hr hlocks (pc' := 0) (by decide +kernel)) ?_
  exact bs_n
set_option maxRecDepth 20000 in
theorem b_42_0 (C : CX p l s m args meth c d E F 42) : BB p l e s m args below meth c d E F K0 42 0 rc_42_0 := by
  obtain ⟨hx, hb, hml, hown, hts, hr, hlocks, hnm, hKN, hb0, hF⟩ := C
  have hb : c.code = prog_5_method_4_code := hb
  have hown : s.vm.findClass "RudeCoupons$Reader" = some m.cls := hown
  have hr : meth.sig.returnType = some .int := hr
  refine bs_c (pc := 0) (s_aload_n hx hb (k := 0) (by decide +kernel) rfl) ?_
  refine bs_c (pc := 1) (s_iload_n hx hb (k := 1) (by decide +kernel) rfl) ?_
  refine bs_c (pc := 2) (s_call rfl rfl (rk_V hx hb hml (index := 38) (y := 30) (n := 1) hown hts wc_30 (k := 1) rfl rfl lm_3_38 wk_30 wv_30 wi_30 wp_30 (by decide +kernel) (by decide +kernel)) hKN hb0) ?_
  refine bs_c (pc := 5) (s_call rfl rfl (rk_S hx hb hml (index := 46) (y := 43) (n := 1) hown hts wc_43 lm_3_46 wk_43 wi_43 wp_43 (by decide +kernel) (by decide +kernel)) hKN hb0) ?_
  refine bs_c (pc := 8) (s_if_ne hx hb (by decide +kernel) hF) ?_
  refine bs_c (pc := 11) (s_iconst hx hb (z := 0) (by decide +kernel) (by decide +kernel)) ?_
  refine bs_c (pc := 12) (s_ireturn hx hb hr hlocks (pc' := 0) (by decide +kernel)) ?_
  exact bs_n
set_option maxRecDepth 20000 in
theorem b_42_1 (C : CX p l s m args meth c d E F 42) : BB p l e s m args below meth c d E F K0 42 13 rc_42_1 := by
  obtain ⟨hx, hb, hml, hown, hts, hr, hlocks, hnm, hKN, hb0, hF⟩ := C
  have hb : c.code = prog_5_method_4_code := hb
  have hown : s.vm.findClass "RudeCoupons$Reader" = some m.cls := hown
  have hr : meth.sig.returnType = some .int := hr
  refine bs_c (pc := 13) (s_aload_n hx hb (k := 0) (by decide +kernel) rfl) ?_
  refine bs_c (pc := 14) (s_iload_n hx hb (k := 1) (by decide +kernel) rfl) ?_
  refine bs_c (pc := 15) (s_iconst hx hb (z := 1) (by decide +kernel) (by decide +kernel)) ?_
  refine bs_c (pc := 16) (s_iadd hx hb (by decide +kernel)) ?_
  refine bs_c (pc := 17) (s_call rfl rfl (rk_V hx hb hml (index := 38) (y := 30) (n := 1) hown hts wc_30 (k := 1) rfl rfl lm_3_38 wk_30 wv_30 wi_30 wp_30 (by decide +kernel) (by decide +kernel)) hKN hb0) ?_
  refine bs_c (pc := 20) (s_call rfl rfl (rk_S hx hb hml (index := 46) (y := 43) (n := 1) hown hts wc_43 lm_3_46 wk_43 wi_43 wp_43 (by decide +kernel) (by decide +kernel)) hKN hb0) ?_
  refine bs_c (pc := 23) (s_if_eq hx hb (by decide +kernel) hF) ?_
  refine bs_c (pc := 26) (s_iconst hx hb (z := 2) (by decide +kernel) (by decide +kernel)) ?_
  refine bs_c (pc := 27) (s_goto hx hb (pc' := 0) (by decide +kernel)) ?_
  exact bs_n
set_option maxRecDepth 20000 in
theorem b_42_2 (C : CX p l s m args meth c d E F 42) : BB p l e s m args below meth c d E F K0 42 30 rc_42_2 := by
  obtain ⟨hx, hb, hml, hown, hts, hr, hlocks, hnm, hKN, hb0, hF⟩ := C
  have hb : c.code = prog_5_method_4_code := hb
  have hown : s.vm.findClass "RudeCoupons$Reader" = some m.cls := hown
  have hr : meth.sig.returnType = some .int := hr
  refine bs_c (pc := 30) (s_iconst hx hb (z := 1) (by decide +kernel) (by decide +kernel)) ?_
  refine bs_c (pc := 31) (s_fall (pc' := 0) (by decide +kernel)) ?_
  exact bs_n
set_option maxRecDepth 20000 in
theorem b_42_3 (C : CX p l s m args meth c d E F 42) : BB p l e s m args below meth c d E F K0 42 31 rc_42_3 := by
  obtain ⟨hx, hb, hml, hown, hts, hr, hlocks, hnm, hKN, hb0, hF⟩ := C
  have hb : c.code = prog_5_method_4_code := hb
  have hown : s.vm.findClass "RudeCoupons$Reader" = some m.cls := hown
  have hr : meth.sig.returnType = some .int := hr
  refine bs_c (pc := 31) (s_ireturn hx hb hr hlocks (pc' := 0) (by decide +kernel)) ?_
  exact bs_n
set_option maxRecDepth 20000 in
theorem b_43_0 (C : CX p l s m args meth c d E F 43) : BB p l e s m args below meth c d E F K0 43 0 rc_43_0 := by
  obtain ⟨hx, hb, hml, hown, hts, hr, hlocks, hnm, hKN, hb0, hF⟩ := C
  have hb : c.code = prog_5_method_6_code := hb
  have hown : s.vm.findClass "RudeCoupons$Reader" = some m.cls := hown
  have hr : meth.sig.returnType = some .boolean := hr
  refine bs_c (pc := 0) (s_iload_n hx hb (k := 0) (by decide +kernel) rfl) ?_
  refine bs_c (pc := 1) (s_bipush hx hb (z := 48) (by decide +kernel) (by decide +kernel)) ?_
  refine bs_c (pc := 3) (s_icmp_lt hx hb (by decide +kernel) hF) ?_
  refine bs_c (pc := 6) (s_iload_n hx hb (k := 0) (by decide +kernel) rfl) ?_
  refine bs_c (pc := 7) (s_bipush hx hb (z := 57) (by decide +kernel) (by decide +kernel)) ?_
  refine bs_c (pc := 9) (s_icmp_gt hx hb (by decide +kernel) hF) ?_
  refine bs_c (pc := 12) (s_iconst hx hb (z := 1) (by decide +kernel) (by decide +kernel)) ?_
  refine bs_c (pc := 13) (s_goto hx hb (pc' := 0) (by decide +kernel)) ?_
  exact bs_n
set_option maxRecDepth 20000 in
theorem b_43_1 (C : CX p l s m args meth c d E F 43) : BB p l e s m args below meth c d E F K0 43 16 rc_43_1 := by
  obtain ⟨hx, hb, hml, hown, hts, hr, hlocks, hnm, hKN, hb0, hF⟩ := C
  have hb : c.code = prog_5_method_6_code := hb
  have hown : s.vm.findClass "RudeCoupons$Reader" = some m.cls := hown
  have hr : meth.sig.returnType = some .boolean := hr
  refine bs_c (pc := 16) (s_iconst hx hb (z := 0) (by decide +kernel) (by decide +kernel)) ?_
  refine bs_c (pc := 17) (s_fall (pc' := 0) (by decide +kernel)) ?_
  exact bs_n
set_option maxRecDepth 20000 in
theorem b_43_2 (C : CX p l s m args meth c d E F 43) : BB p l e s m args below meth c d E F K0 43 17 rc_43_2 := by
  obtain ⟨hx, hb, hml, hown, hts, hr, hlocks, hnm, hKN, hb0, hF⟩ := C
  have hb : c.code = prog_5_method_6_code := hb
  have hown : s.vm.findClass "RudeCoupons$Reader" = some m.cls := hown
  have hr : meth.sig.returnType = some .boolean := hr
  refine bs_c (pc := 17) (s_zreturn hx hb hr nar_z hlocks (pc' := 0) (by decide +kernel)) ?_
  exact bs_n
set_option maxRecDepth 20000 in
theorem b_44_0 (C : CX p l s m args meth c d E F 44) : BB p l e s m args below meth c d E F K0 44 0 rc_44_0 := by
  obtain ⟨hx, hb, hml, hown, hts, hr, hlocks, hnm, hKN, hb0, hF⟩ := C
  have hb : c.code = prog_5_method_5_code := hb
  have hown : s.vm.findClass "RudeCoupons$Reader" = some m.cls := hown
  have hr : meth.sig.returnType = some .int := hr
  refine bs_c (pc := 0) (s_aload_n hx hb (k := 0) (by decide +kernel) rfl) ?_
  refine bs_c (pc := 1) (s_iload_n hx hb (k := 1) (by decide +kernel) rfl) ?_
  refine bs_c (pc := 2) (s_call rfl rfl (rk_V hx hb hml (index := 38) (y := 30) (n := 1) hown hts wc_30 (k := 1) rfl rfl lm_3_38 wk_30 wv_30 wi_30 wp_30 (by decide +kernel) (by decide +kernel)) hKN hb0) ?_
  refine bs_c (pc := 5) (s_bipush hx hb (z := 48) (by decide +kernel) (by decide +kernel)) ?_
  refine bs_c (pc := 7) (s_isub hx hb (by decide +kernel)) ?_
  refine bs_c (pc := 8) (s_istore_n hx hb (k := 3) (by decide +kernel) rfl (by decide +kernel)) ?_
  refine bs_c (pc := 9) (s_iload_n hx hb (k := 2) (by decide +kernel) rfl) ?_
  refine bs_c (pc := 10) (s_iconst hx hb (z := 1) (by decide +kernel) (by decide +kernel)) ?_
  refine bs_c (pc := 11) (s_icmp_ne hx hb (by decide +kernel) hF) ?_
  refine bs_c (pc := 14) (s_iload_n hx hb (k := 3) (by decide +kernel) rfl) ?_
  refine bs_c (pc := 15) (s_goto hx hb (pc' := 0) (by decide +kernel)) ?_
  exact bs_n
set_option maxRecDepth 20000 in
theorem b_44_1 (C : CX p l s m args meth c d E F 44) : BB p l e s m args below meth c d E F K0 44 18 rc_44_1 := by
  obtain ⟨hx, hb, hml, hown, hts, hr, hlocks, hnm, hKN, hb0, hF⟩ := C
  have hb : c.code = prog_5_method_5_code := hb
  have hown : s.vm.findClass "RudeCoupons$Reader" = some m.cls := hown
  have hr : meth.sig.returnType = some .int := hr
  refine bs_c (pc := 18) (s_bipush hx hb (z := 10) (by decide +kernel) (by decide +kernel)) ?_
  refine bs_c (pc := 20) (s_iload_n hx hb (k := 3) (by decide +kernel) rfl) ?_
  refine bs_c (pc := 21) (s_imul hx hb (by decide +kernel) hF) ?_
  refine bs_c (pc := 22) (s_aload_n hx hb (k := 0) (by decide +kernel) rfl) ?_
  refine bs_c (pc := 23) (s_iload_n hx hb (k := 1) (by decide +kernel) rfl) ?_
  refine bs_c (pc := 24) (s_iconst hx hb (z := 1) (by decide +kernel) (by decide +kernel)) ?_
  refine bs_c (pc := 25) (s_iadd hx hb (by decide +kernel)) ?_
  refine bs_c (pc := 26) (s_call rfl rfl (rk_V hx hb hml (index := 38) (y := 30) (n := 1) hown hts wc_30 (k := 1) rfl rfl lm_3_38 wk_30 wv_30 wi_30 wp_30 (by decide +kernel) (by decide +kernel)) hKN hb0) ?_
  refine bs_c (pc := 29) (s_iadd hx hb (by decide +kernel)) ?_
  refine bs_c (pc := 30) (s_bipush hx hb (z := 48) (by decide +kernel) (by decide +kernel)) ?_
  refine bs_c (pc := 32) (s_isub hx hb (by decide +kernel)) ?_
  refine bs_c (pc := 33) (s_fall (pc' := 0) (by decide +kernel)) ?_
  exact bs_n
set_option maxRecDepth 20000 in
theorem b_44_2 (C : CX p l s m args meth c d E F 44) : BB p l e s m args below meth c d E F K0 44 33 rc_44_2 := by
  obtain ⟨hx, hb, hml, hown, hts, hr, hlocks, hnm, hKN, hb0, hF⟩ := C
  have hb : c.code = prog_5_method_5_code := hb
  have hown : s.vm.findClass "RudeCoupons$Reader" = some m.cls := hown
  have hr : meth.sig.returnType = some .int := hr
  refine bs_c (pc := 33) (s_ireturn hx hb hr hlocks (pc' := 0) (by decide +kernel)) ?_
  exact bs_n
set_option maxRecDepth 20000 in
theorem b_45_0 (C : CX p l s m args meth c d E F 45) : BB p l e s m args below meth c d E F K0 45 0 rc_45_0 := by
  obtain ⟨hx, hb, hml, hown, hts, hr, hlocks, hnm, hKN, hb0, hF⟩ := C
  have hb : c.code = prog_6_method_1_code := hb
  have hown : s.vm.findClass "RudeCoupons$Shelf" = some m.cls := hown
  have hr : meth.sig.returnType = none := hr
  have hnm : meth.name = "<init>" := hnm
  refine bs_c (pc := 0) (s_aload_n hx hb (k := 0) (by decide +kernel) rfl) ?_
  refine bs_c (pc := 1) (s_oinit hx hb hml hown (hts _ lo_4) (hts _ wo_1) (hts _ wo_2) (by decide +kernel) (by decide +kernel) (by decide +kernel)) ?_
  refine bs_c (pc := 4) (s_aload_n hx hb (k := 0) (by decide +kernel) rfl) ?_
  refine bs_c (pc := 5) (s_iconst hx hb (z := 1) (by decide +kernel) (by decide +kernel)) ?_
  refine bs_c (pc := 6) (s_iload_n hx hb (k := 1) (by decide +kernel) rfl) ?_
  refine bs_c (pc := 7) (s_max hx hb hml hown (hts _ lM_4_7) (hts _ wM_max) (hts _ wM_i) (hts _ wN_max) (by decide +kernel) (by decide +kernel) (by decide +kernel)) ?_
  refine bs_c (pc := 10) (s_newq hx hb hown (hts _ lc_4_13) hKN.2.2.1 (by decide) rfl hKN.1 hb0 (by decide +kernel)) ?_
  refine bs_c (pc := 13) (s_putRF hx hb hts in_4 hown hKN.1 (ci := 4) rfl (k := 0) (by decide) (hts _ lf_4_15) tyX4 tyX4_ok nmX4 (ty := .array (.object "RudeCoupons$Standing")) (tyX4_ok 0 (by decide)) (fun _ => ⟨rfl, rfl⟩) rfl hnm rfl (by decide +kernel)) ?_
  refine bs_c (pc := 16) (s_iconst hx hb (z := 0) (by decide +kernel) (by decide +kernel)) ?_
  refine bs_c (pc := 17) (s_istore_n hx hb (k := 2) (by decide +kernel) rfl (by decide +kernel)) ?_
  refine bs_c (pc := 18) (s_fall (pc' := 0) (by decide +kernel)) ?_
  exact bs_n
set_option maxRecDepth 20000 in
theorem b_45_1 (C : CX p l s m args meth c d E F 45) : BB p l e s m args below meth c d E F K0 45 18 rc_45_1 := by
  obtain ⟨hx, hb, hml, hown, hts, hr, hlocks, hnm, hKN, hb0, hF⟩ := C
  have hb : c.code = prog_6_method_1_code := hb
  have hown : s.vm.findClass "RudeCoupons$Shelf" = some m.cls := hown
  have hr : meth.sig.returnType = none := hr
  have hnm : meth.name = "<init>" := hnm
  refine bs_c (pc := 18) (s_iload_n hx hb (k := 2) (by decide +kernel) rfl) ?_
  refine bs_c (pc := 19) (s_aload_n hx hb (k := 0) (by decide +kernel) rfl) ?_
  refine bs_c (pc := 20) (s_getf hx hb hts in_4 hown hKN.1 (ci := 4) rfl (k := 0) (by decide) (hts _ lf_4_15) (by decide +kernel)) ?_
  refine bs_c (pc := 23) (s_alen hx hb hKN.1 (by decide +kernel)) ?_
  refine bs_c (pc := 24) (s_icmp_ge hx hb (by decide +kernel) hF) ?_
  refine bs_c (pc := 27) (s_aload_n hx hb (k := 0) (by decide +kernel) rfl) ?_
  refine bs_c (pc := 28) (s_getf hx hb hts in_4 hown hKN.1 (ci := 4) rfl (k := 0) (by decide) (hts _ lf_4_15) (by decide +kernel)) ?_
  refine bs_c (pc := 31) (s_iload_n hx hb (k := 2) (by decide +kernel) rfl) ?_
  refine bs_c (pc := 32) (s_new hx hb hts in_6 tyX6 tyX6_ok hown (hts _ lc_4_13) (hts _ wn_6) (hts _ wz_6) hKN.1 rfl hb0 rfl df_6 (by decide +kernel)) ?_
  refine bs_c (pc := 35) (s_dup hx hb (by decide +kernel)) ?_
  refine bs_c (pc := 36) (s_call rfl rfl (rk_IN hx hb hml (index := 21) (y := 52) (n := 0) hown hts wc_52 rfl rfl (hKN.2.1 _ ln_4_21) wk_52 wi_52 wp_52 (by decide +kernel) (by decide +kernel)) hKN hb0) ?_
  refine bs_c (pc := 39) (s_aast hx hb hKN.1 (by decide) rfl rfl (by decide +kernel)) ?_
  refine bs_c (pc := 40) (s_iinc hx hb (z := 1) (by decide +kernel) (by decide +kernel) (by decide +kernel)) ?_
  refine bs_c (pc := 43) (s_goto hx hb (pc' := 0) (by decide +kernel)) ?_
  exact bs_n
set_option maxRecDepth 20000 in
theorem b_45_2 (C : CX p l s m args meth c d E F 45) : BB p l e s m args below meth c d E F K0 45 46 rc_45_2 := by
  obtain ⟨hx, hb, hml, hown, hts, hr, hlocks, hnm, hKN, hb0, hF⟩ := C
  have hb : c.code = prog_6_method_1_code := hb
  have hown : s.vm.findClass "RudeCoupons$Shelf" = some m.cls := hown
  have hr : meth.sig.returnType = none := hr
  have hnm : meth.name = "<init>" := hnm
  refine bs_c (pc := 46) (s_return hx hb hr hlocks (pc' := 0) (by decide +kernel)) ?_
  exact bs_n
set_option maxRecDepth 20000 in
theorem b_46_0 (C : CX p l s m args meth c d E F 46) : BB p l e s m args below meth c d E F K0 46 0 rc_46_0 := by
  obtain ⟨hx, hb, hml, hown, hts, hr, hlocks, hnm, hKN, hb0, hF⟩ := C
  have hb : c.code = prog_6_method_2_code := hb
  have hown : s.vm.findClass "RudeCoupons$Shelf" = some m.cls := hown
  have hr : meth.sig.returnType = none := hr
  refine bs_c (pc := 0) (s_aload_n hx hb (k := 0) (by decide +kernel) rfl) ?_
  refine bs_c (pc := 1) (s_getf hx hb hts in_4 hown hKN.1 (ci := 4) rfl (k := 1) (by decide) (hts _ lf_4_22) (by decide +kernel)) ?_
  refine bs_c (pc := 4) (s_aload_n hx hb (k := 0) (by decide +kernel) rfl) ?_
  refine bs_c (pc := 5) (s_getf hx hb hts in_4 hown hKN.1 (ci := 4) rfl (k := 0) (by decide) (hts _ lf_4_15) (by decide +kernel)) ?_
  refine bs_c (pc := 8) (s_alen hx hb hKN.1 (by decide +kernel)) ?_
  refine bs_c (pc := 9) (s_icmp_lt hx hb (by decide +kernel) hF) ?_
  refine bs_c (pc := 12) (s_aload_n hx hb (k := 0) (by decide +kernel) rfl) ?_
  refine bs_c (pc := 13) (s_call rfl rfl (rk_V hx hb hml (index := 26) (y := 47) (n := 0) hown hts wc_47 (k := 4) rfl rfl lm_4_26 wk_47 wv_47 wi_47 wp_47 (by decide +kernel) (by decide +kernel)) hKN hb0) ?_
  refine bs_c (pc := 16) (s_fall (pc' := 0) (by decide +kernel)) ?_
  exact bs_n
set_option maxRecDepth 20000 in
theorem b_46_1 (C : CX p l s m args meth c d E F 46) : BB p l e s m args below meth c d E F K0 46 16 rc_46_1 := by
  obtain ⟨hx, hb, hml, hown, hts, hr, hlocks, hnm, hKN, hb0, hF⟩ := C
  have hb : c.code = prog_6_method_2_code := hb
  have hown : s.vm.findClass "RudeCoupons$Shelf" = some m.cls := hown
  have hr : meth.sig.returnType = none := hr
  refine bs_c (pc := 16) (s_aload_n hx hb (k := 0) (by decide +kernel) rfl) ?_
  refine bs_c (pc := 17) (s_getf hx hb hts in_4 hown hKN.1 (ci := 4) rfl (k := 0) (by decide) (hts _ lf_4_15) (by decide +kernel)) ?_
  refine bs_c (pc := 20) (s_aload_n hx hb (k := 0) (by decide +kernel) rfl) ?_
  refine bs_c (pc := 21) (s_getf hx hb hts in_4 hown hKN.1 (ci := 4) rfl (k := 1) (by decide) (hts _ lf_4_22) (by decide +kernel)) ?_
  refine bs_c (pc := 24) (s_aald hx hb hKN.1 (by decide +kernel)) ?_
  refine bs_c (pc := 25) (s_aload_n hx hb (k := 1) (by decide +kernel) rfl) ?_
  refine bs_c (pc := 26) (s_call rfl rfl (rk_V hx hb hml (index := 29) (y := 54) (n := 1) hown hts wc_54 (k := 6) rfl rfl lm_4_29 wk_54 wv_54 wi_54 wp_54 (by decide +kernel) (by decide +kernel)) hKN hb0) ?_
  refine bs_c (pc := 29) (s_aload_n hx hb (k := 0) (by decide +kernel) rfl) ?_
  refine bs_c (pc := 30) (s_dup hx hb (by decide +kernel)) ?_
  refine bs_c (pc := 31) (s_getf hx hb hts in_4 hown hKN.1 (ci := 4) rfl (k := 1) (by decide) (hts _ lf_4_22) (by decide +kernel)) ?_
  refine bs_c (pc := 34) (s_iconst hx hb (z := 1) (by decide +kernel) (by decide +kernel)) ?_
  refine bs_c (pc := 35) (s_iadd hx hb (by decide +kernel)) ?_
  refine bs_c (pc := 36) (s_putI hx hb hts in_4 hown hKN.1 (ci := 4) rfl (k := 1) (by decide) (hts _ lf_4_22) tyX4 tyX4_ok nmX4 (tyX4_ok 1 (by decide)) rfl (by decide +kernel)) ?_
  refine bs_c (pc := 39) (s_return hx hb hr hlocks (pc' := 0) (by decide +kernel)) ?_
  exact bs_n
end MTH
