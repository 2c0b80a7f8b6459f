/-! METHODS, block by block, by program: every instruction as its handler says -/
section MTH
variable {p : Program} {l : Launch} {e : Env} {s : State} {m : MethodId} {args : Array Value} {below : List Frame} {meth : Method} {c : Code} {d : mD} {E : mE} {F : mF} {K0 : mK}
set_option maxRecDepth 20000 in
theorem b_96_0 (C : CX p l s m args meth c d E F 96) : BB p l e s m args below meth c d E F K0 96 0 rc_96_0 := by
  obtain ⟨hx, hb, hml, hown, hts, hr, hlocks, hnm, hKN, hb0, hF⟩ := C
  have hb : c.code = prog_10_method_3_code := hb
  have hown : s.vm.findClass "RudeCouponsModel" = some m.cls := hown
  have hr : meth.sig.returnType = none := hr
  refine bs_c (pc := 0) (s_aload_n hx hb (k := 0) (by decide +kernel) rfl) ?_
  refine bs_c (pc := 1) (s_getf hx hb hts in_8 hown hKN.1 (ci := 8) rfl (k := 19) (by decide) (hts _ lf_8_40) (by decide +kernel)) ?_
  refine bs_c (pc := 4) (s_iconst hx hb (z := 3) (by decide +kernel) (by decide +kernel)) ?_
  refine bs_c (pc := 5) (s_aload_n hx hb (k := 0) (by decide +kernel) rfl) ?_
  refine bs_c (pc := 6) (s_getf hx hb hts in_8 hown hKN.1 (ci := 8) rfl (k := 18) (by decide) (hts _ lf_8_74) (by decide +kernel)) ?_
  refine bs_c (pc := 9) (s_imul hx hb (by decide +kernel) hF) ?_
  refine bs_c (pc := 10) (s_iload_n hx hb (k := 1) (by decide +kernel) rfl) ?_
  refine bs_c (pc := 11) (s_ast0 hx hb hKN.1 (by decide +kernel)) ?_
  refine bs_c (pc := 12) (s_aload_n hx hb (k := 0) (by decide +kernel) rfl) ?_
  refine bs_c (pc := 13) (s_getf hx hb hts in_8 hown hKN.1 (ci := 8) rfl (k := 19) (by decide) (hts _ lf_8_40) (by decide +kernel)) ?_
  refine bs_c (pc := 16) (s_iconst hx hb (z := 3) (by decide +kernel) (by decide +kernel)) ?_
  refine bs_c (pc := 17) (s_aload_n hx hb (k := 0) (by decide +kernel) rfl) ?_
  refine bs_c (pc := 18) (s_getf hx hb hts in_8 hown hKN.1 (ci := 8) rfl (k := 18) (by decide) (hts _ lf_8_74) (by decide +kernel)) ?_
  refine bs_c (pc := 21) (s_imul hx hb (by decide +kernel) hF) ?_
  refine bs_c (pc := 22) (s_iconst hx hb (z := 1) (by decide +kernel) (by decide +kernel)) ?_
  refine bs_c (pc := 23) (s_iadd hx hb (by decide +kernel)) ?_
  refine bs_c (pc := 24) (s_iload_n hx hb (k := 2) (by decide +kernel) rfl) ?_
  refine bs_c (pc := 25) (s_ast0 hx hb hKN.1 (by decide +kernel)) ?_
  refine bs_c (pc := 26) (s_aload_n hx hb (k := 0) (by decide +kernel) rfl) ?_
  refine bs_c (pc := 27) (s_getf hx hb hts in_8 hown hKN.1 (ci := 8) rfl (k := 19) (by decide) (hts _ lf_8_40) (by decide +kernel)) ?_
  refine bs_c (pc := 30) (s_iconst hx hb (z := 3) (by decide +kernel) (by decide +kernel)) ?_
  refine bs_c (pc := 31) (s_aload_n hx hb (k := 0) (by decide +kernel) rfl) ?_
  refine bs_c (pc := 32) (s_getf hx hb hts in_8 hown hKN.1 (ci := 8) rfl (k := 18) (by decide) (hts _ lf_8_74) (by decide +kernel)) ?_
  refine bs_c (pc := 35) (s_imul hx hb (by decide +kernel) hF) ?_
  refine bs_c (pc := 36) (s_iconst hx hb (z := 2) (by decide +kernel) (by decide +kernel)) ?_
  refine bs_c (pc := 37) (s_iadd hx hb (by decide +kernel)) ?_
  refine bs_c (pc := 38) (s_iload_n hx hb (k := 3) (by decide +kernel) rfl) ?_
  refine bs_c (pc := 39) (s_ast0 hx hb hKN.1 (by decide +kernel)) ?_
  refine bs_c (pc := 40) (s_aload_n hx hb (k := 0) (by decide +kernel) rfl) ?_
  refine bs_c (pc := 41) (s_dup hx hb (by decide +kernel)) ?_
  refine bs_c (pc := 42) (s_getf hx hb hts in_8 hown hKN.1 (ci := 8) rfl (k := 18) (by decide) (hts _ lf_8_74) (by decide +kernel)) ?_
  refine bs_c (pc := 45) (s_iconst hx hb (z := 1) (by decide +kernel) (by decide +kernel)) ?_
  refine bs_c (pc := 46) (s_iadd hx hb (by decide +kernel)) ?_
  refine bs_c (pc := 47) (s_putI hx hb hts in_8 hown hKN.1 (ci := 8) rfl (k := 18) (by decide) (hts _ lf_8_74) tyX8 tyX8_ok nmX8 (tyX8_ok 18 (by decide)) rfl (by decide +kernel)) ?_
  refine bs_c (pc := 50) (s_return hx hb hr hlocks (pc' := 0) (by decide +kernel)) ?_
  exact bs_n
set_option maxRecDepth 20000 in
theorem b_97_0 (C : CX p l s m args meth c d E F 97) : BB p l e s m args below meth c d E F K0 97 0 rc_97_0 := by
  obtain ⟨hx, hb, hml, hown, hts, hr, hlocks, hnm, hKN, hb0, hF⟩ := C
  have hb : c.code = prog_10_method_4_code := hb
  have hown : s.vm.findClass "RudeCouponsModel" = some m.cls := hown
  have hr : meth.sig.returnType = none := hr
  refine bs_c (pc := 0) (s_aload_n hx hb (k := 0) (by decide +kernel) rfl) ?_
  refine bs_c (pc := 1) (s_getf hx hb hts in_8 hown hKN.1 (ci := 8) rfl (k := 21) (by decide) (hts _ lf_8_43) (by decide +kernel)) ?_
  refine bs_c (pc := 4) (s_iconst hx hb (z := 3) (by decide +kernel) (by decide +kernel)) ?_
  refine bs_c (pc := 5) (s_aload_n hx hb (k := 0) (by decide +kernel) rfl) ?_
  refine bs_c (pc := 6) (s_getf hx hb hts in_8 hown hKN.1 (ci := 8) rfl (k := 20) (by decide) (hts _ lf_8_78) (by decide +kernel)) ?_
  refine bs_c (pc := 9) (s_imul hx hb (by decide +kernel) hF) ?_
  refine bs_c (pc := 10) (s_iload_n hx hb (k := 1) (by decide +kernel) rfl) ?_
  refine bs_c (pc := 11) (s_ast0 hx hb hKN.1 (by decide +kernel)) ?_
  refine bs_c (pc := 12) (s_aload_n hx hb (k := 0) (by decide +kernel) rfl) ?_
  refine bs_c (pc := 13) (s_getf hx hb hts in_8 hown hKN.1 (ci := 8) rfl (k := 21) (by decide) (hts _ lf_8_43) (by decide +kernel)) ?_
  refine bs_c (pc := 16) (s_iconst hx hb (z := 3) (by decide +kernel) (by decide +kernel)) ?_
  refine bs_c (pc := 17) (s_aload_n hx hb (k := 0) (by decide +kernel) rfl) ?_
  refine bs_c (pc := 18) (s_getf hx hb hts in_8 hown hKN.1 (ci := 8) rfl (k := 20) (by decide) (hts _ lf_8_78) (by decide +kernel)) ?_
  refine bs_c (pc := 21) (s_imul hx hb (by decide +kernel) hF) ?_
  refine bs_c (pc := 22) (s_iconst hx hb (z := 1) (by decide +kernel) (by decide +kernel)) ?_
  refine bs_c (pc := 23) (s_iadd hx hb (by decide +kernel)) ?_
  refine bs_c (pc := 24) (s_iload_n hx hb (k := 2) (by decide +kernel) rfl) ?_
  refine bs_c (pc := 25) (s_ast0 hx hb hKN.1 (by decide +kernel)) ?_
  refine bs_c (pc := 26) (s_aload_n hx hb (k := 0) (by decide +kernel) rfl) ?_
  refine bs_c (pc := 27) (s_getf hx hb hts in_8 hown hKN.1 (ci := 8) rfl (k := 21) (by decide) (hts _ lf_8_43) (by decide +kernel)) ?_
  refine bs_c (pc := 30) (s_iconst hx hb (z := 3) (by decide +kernel) (by decide +kernel)) ?_
  refine bs_c (pc := 31) (s_aload_n hx hb (k := 0) (by decide +kernel) rfl) ?_
  refine bs_c (pc := 32) (s_getf hx hb hts in_8 hown hKN.1 (ci := 8) rfl (k := 20) (by decide) (hts _ lf_8_78) (by decide +kernel)) ?_
  refine bs_c (pc := 35) (s_imul hx hb (by decide +kernel) hF) ?_
  refine bs_c (pc := 36) (s_iconst hx hb (z := 2) (by decide +kernel) (by decide +kernel)) ?_
  refine bs_c (pc := 37) (s_iadd hx hb (by decide +kernel)) ?_
  refine bs_c (pc := 38) (s_iload_n hx hb (k := 3) (by decide +kernel) rfl) ?_
  refine bs_c (pc := 39) (s_ast0 hx hb hKN.1 (by decide +kernel)) ?_
  refine bs_c (pc := 40) (s_aload_n hx hb (k := 0) (by decide +kernel) rfl) ?_
  refine bs_c (pc := 41) (s_dup hx hb (by decide +kernel)) ?_
  refine bs_c (pc := 42) (s_getf hx hb hts in_8 hown hKN.1 (ci := 8) rfl (k := 20) (by decide) (hts _ lf_8_78) (by decide +kernel)) ?_
  refine bs_c (pc := 45) (s_iconst hx hb (z := 1) (by decide +kernel) (by decide +kernel)) ?_
  refine bs_c (pc := 46) (s_iadd hx hb (by decide +kernel)) ?_
  refine bs_c (pc := 47) (s_putI hx hb hts in_8 hown hKN.1 (ci := 8) rfl (k := 20) (by decide) (hts _ lf_8_78) tyX8 tyX8_ok nmX8 (tyX8_ok 20 (by decide)) rfl (by decide +kernel)) ?_
  refine bs_c (pc := 50) (s_return hx hb hr hlocks (pc' := 0) (by decide +kernel)) ?_
  exact bs_n
set_option maxRecDepth 20000 in
theorem b_98_0 (C : CX p l s m args meth c d E F 98) : BB p l e s m args below meth c d E F K0 98 0 rc_98_0 := by
  obtain ⟨hx, hb, hml, hown, hts, hr, hlocks, hnm, hKN, hb0, hF⟩ := C
  have hb : c.code = prog_10_method_5_code := hb
  have hown : s.vm.findClass "RudeCouponsModel" = some m.cls := hown
  have hr : meth.sig.returnType = none := hr
  refine bs_c (pc := 0) (s_aload_n hx hb (k := 0) (by decide +kernel) rfl) ?_
  refine bs_c (pc := 1) (s_getf hx hb hts in_8 hown hKN.1 (ci := 8) rfl (k := 23) (by decide) (hts _ lf_8_46) (by decide +kernel)) ?_
  refine bs_c (pc := 4) (s_iconst hx hb (z := 3) (by decide +kernel) (by decide +kernel)) ?_
  refine bs_c (pc := 5) (s_aload_n hx hb (k := 0) (by decide +kernel) rfl) ?_
  refine bs_c (pc := 6) (s_getf hx hb hts in_8 hown hKN.1 (ci := 8) rfl (k := 22) (by decide) (hts _ lf_8_81) (by decide +kernel)) ?_
  refine bs_c (pc := 9) (s_imul hx hb (by decide +kernel) hF) ?_
  refine bs_c (pc := 10) (s_iload_n hx hb (k := 1) (by decide +kernel) rfl) ?_
  refine bs_c (pc := 11) (s_ast0 hx hb hKN.1 (by decide +kernel)) ?_
  refine bs_c (pc := 12) (s_aload_n hx hb (k := 0) (by decide +kernel) rfl) ?_
  refine bs_c (pc := 13) (s_getf hx hb hts in_8 hown hKN.1 (ci := 8) rfl (k := 23) (by decide) (hts _ lf_8_46) (by decide +kernel)) ?_
  refine bs_c (pc := 16) (s_iconst hx hb (z := 3) (by decide +kernel) (by decide +kernel)) ?_
  refine bs_c (pc := 17) (s_aload_n hx hb (k := 0) (by decide +kernel) rfl) ?_
  refine bs_c (pc := 18) (s_getf hx hb hts in_8 hown hKN.1 (ci := 8) rfl (k := 22) (by decide) (hts _ lf_8_81) (by decide +kernel)) ?_
  refine bs_c (pc := 21) (s_imul hx hb (by decide +kernel) hF) ?_
  refine bs_c (pc := 22) (s_iconst hx hb (z := 1) (by decide +kernel) (by decide +kernel)) ?_
  refine bs_c (pc := 23) (s_iadd hx hb (by decide +kernel)) ?_
  refine bs_c (pc := 24) (s_iload_n hx hb (k := 2) (by decide +kernel) rfl) ?_
  refine bs_c (pc := 25) (s_ast0 hx hb hKN.1 (by decide +kernel)) ?_
  refine bs_c (pc := 26) (s_aload_n hx hb (k := 0) (by decide +kernel) rfl) ?_
  refine bs_c (pc := 27) (s_getf hx hb hts in_8 hown hKN.1 (ci := 8) rfl (k := 23) (by decide) (hts _ lf_8_46) (by decide +kernel)) ?_
  refine bs_c (pc := 30) (s_iconst hx hb (z := 3) (by decide +kernel) (by decide +kernel)) ?_
  refine bs_c (pc := 31) (s_aload_n hx hb (k := 0) (by decide +kernel) rfl) ?_
  refine bs_c (pc := 32) (s_getf hx hb hts in_8 hown hKN.1 (ci := 8) rfl (k := 22) (by decide) (hts _ lf_8_81) (by decide +kernel)) ?_
  refine bs_c (pc := 35) (s_imul hx hb (by decide +kernel) hF) ?_
  refine bs_c (pc := 36) (s_iconst hx hb (z := 2) (by decide +kernel) (by decide +kernel)) ?_
  refine bs_c (pc := 37) (s_iadd hx hb (by decide +kernel)) ?_
  refine bs_c (pc := 38) (s_iload_n hx hb (k := 3) (by decide +kernel) rfl) ?_
  refine bs_c (pc := 39) (s_ast0 hx hb hKN.1 (by decide +kernel)) ?_
  refine bs_c (pc := 40) (s_aload_n hx hb (k := 0) (by decide +kernel) rfl) ?_
  refine bs_c (pc := 41) (s_dup hx hb (by decide +kernel)) ?_
  refine bs_c (pc := 42) (s_getf hx hb hts in_8 hown hKN.1 (ci := 8) rfl (k := 22) (by decide) (hts _ lf_8_81) (by decide +kernel)) ?_
  refine bs_c (pc := 45) (s_iconst hx hb (z := 1) (by decide +kernel) (by decide +kernel)) ?_
  refine bs_c (pc := 46) (s_iadd hx hb (by decide +kernel)) ?_
  refine bs_c (pc := 47) (s_putI hx hb hts in_8 hown hKN.1 (ci := 8) rfl (k := 22) (by decide) (hts _ lf_8_81) tyX8 tyX8_ok nmX8 (tyX8_ok 22 (by decide)) rfl (by decide +kernel)) ?_
  refine bs_c (pc := 50) (s_return hx hb hr hlocks (pc' := 0) (by decide +kernel)) ?_
  exact bs_n
set_option maxRecDepth 20000 in
theorem b_99_0 (C : CX p l s m args meth c d E F 99) : BB p l e s m args below meth c d E F K0 99 0 rc_99_0 := by
  obtain ⟨hx, hb, hml, hown, hts, hr, hlocks, hnm, hKN, hb0, hF⟩ := C
  have hb : c.code = prog_10_method_24_code := hb
  have hown : s.vm.findClass "RudeCouponsModel" = some m.cls := hown
  have hr : meth.sig.returnType = none := hr
  refine bs_c (pc := 0) (s_aload_n hx hb (k := 0) (by decide +kernel) rfl) ?_
  refine bs_c (pc := 1) (s_aload_n hx hb (k := 0) (by decide +kernel) rfl) ?_
  refine bs_c (pc := 2) (s_getf hx hb hts in_8 hown hKN.1 (ci := 8) rfl (k := 18) (by decide) (hts _ lf_8_74) (by decide +kernel)) ?_
  refine bs_c (pc := 5) (s_putI hx hb hts in_8 hown hKN.1 (ci := 8) rfl (k := 0) (by decide) (hts _ lf_8_84) tyX8 tyX8_ok nmX8 (tyX8_ok 0 (by decide)) rfl (by decide +kernel)) ?_
  refine bs_c (pc := 8) (s_aload_n hx hb (k := 0) (by decide +kernel) rfl) ?_
  refine bs_c (pc := 9) (s_aload_n hx hb (k := 0) (by decide +kernel) rfl) ?_
  refine bs_c (pc := 10) (s_getf hx hb hts in_8 hown hKN.1 (ci := 8) rfl (k := 20) (by decide) (hts _ lf_8_78) (by decide +kernel)) ?_
  refine bs_c (pc := 13) (s_putI hx hb hts in_8 hown hKN.1 (ci := 8) rfl (k := 2) (by decide) (hts _ lf_8_131) tyX8 tyX8_ok nmX8 (tyX8_ok 2 (by decide)) rfl (by decide +kernel)) ?_
  refine bs_c (pc := 16) (s_aload_n hx hb (k := 0) (by decide +kernel) rfl) ?_
  refine bs_c (pc := 17) (s_aload_n hx hb (k := 0) (by decide +kernel) rfl) ?_
  refine bs_c (pc := 18) (s_getf hx hb hts in_8 hown hKN.1 (ci := 8) rfl (k := 22) (by decide) (hts _ lf_8_81) (by decide +kernel)) ?_
  refine bs_c (pc := 21) (s_putI hx hb hts in_8 hown hKN.1 (ci := 8) rfl (k := 4) (by decide) (hts _ lf_8_91) tyX8 tyX8_ok nmX8 (tyX8_ok 4 (by decide)) rfl (by decide +kernel)) ?_
  refine bs_c (pc := 24) (s_aload_n hx hb (k := 0) (by decide +kernel) rfl) ?_
  refine bs_c (pc := 25) (s_getf hx hb hts in_8 hown hKN.1 (ci := 8) rfl (k := 1) (by decide) (hts _ lf_8_7) (by decide +kernel)) ?_
  refine bs_c (pc := 28) (s_iconst hx hb (z := 0) (by decide +kernel) (by decide +kernel)) ?_
  refine bs_c (pc := 29) (s_aload_n hx hb (k := 0) (by decide +kernel) rfl) ?_
  refine bs_c (pc := 30) (s_getf hx hb hts in_8 hown hKN.1 (ci := 8) rfl (k := 19) (by decide) (hts _ lf_8_40) (by decide +kernel)) ?_
  refine bs_c (pc := 33) (s_iconst hx hb (z := 0) (by decide +kernel) (by decide +kernel)) ?_
  refine bs_c (pc := 34) (s_bipush hx hb (z := 18) (by decide +kernel) (by decide +kernel)) ?_
  refine bs_c (pc := 36) (s_call rfl rfl (rk_S hx hb hml (index := 134) (y := 100) (n := 5) hown hts wc_100 lm_8_134 wk_100 wi_100 wp_100 (by decide +kernel) (by decide +kernel)) hKN hb0) ?_
  refine bs_c (pc := 39) (s_aload_n hx hb (k := 0) (by decide +kernel) rfl) ?_
  refine bs_c (pc := 40) (s_getf hx hb hts in_8 hown hKN.1 (ci := 8) rfl (k := 3) (by decide) (hts _ lf_8_13) (by decide +kernel)) ?_
  refine bs_c (pc := 43) (s_iconst hx hb (z := 0) (by decide +kernel) (by decide +kernel)) ?_
  refine bs_c (pc := 44) (s_aload_n hx hb (k := 0) (by decide +kernel) rfl) ?_
  refine bs_c (pc := 45) (s_getf hx hb hts in_8 hown hKN.1 (ci := 8) rfl (k := 21) (by decide) (hts _ lf_8_43) (by decide +kernel)) ?_
  refine bs_c (pc := 48) (s_iconst hx hb (z := 0) (by decide +kernel) (by decide +kernel)) ?_
  refine bs_c (pc := 49) (s_bipush hx hb (z := 18) (by decide +kernel) (by decide +kernel)) ?_
  refine bs_c (pc := 51) (s_call rfl rfl (rk_S hx hb hml (index := 134) (y := 100) (n := 5) hown hts wc_100 lm_8_134 wk_100 wi_100 wp_100 (by decide +kernel) (by decide +kernel)) hKN hb0) ?_
  refine bs_c (pc := 54) (s_aload_n hx hb (k := 0) (by decide +kernel) rfl) ?_
  refine bs_c (pc := 55) (s_getf hx hb hts in_8 hown hKN.1 (ci := 8) rfl (k := 5) (by decide) (hts _ lf_8_16) (by decide +kernel)) ?_
  refine bs_c (pc := 58) (s_iconst hx hb (z := 0) (by decide +kernel) (by decide +kernel)) ?_
  refine bs_c (pc := 59) (s_aload_n hx hb (k := 0) (by decide +kernel) rfl) ?_
  refine bs_c (pc := 60) (s_getf hx hb hts in_8 hown hKN.1 (ci := 8) rfl (k := 23) (by decide) (hts _ lf_8_46) (by decide +kernel)) ?_
  refine bs_c (pc := 63) (s_iconst hx hb (z := 0) (by decide +kernel) (by decide +kernel)) ?_
  refine bs_c (pc := 64) (s_bipush hx hb (z := 30) (by decide +kernel) (by decide +kernel)) ?_
  refine bs_c (pc := 66) (s_call rfl rfl (rk_S hx hb hml (index := 134) (y := 100) (n := 5) hown hts wc_100 lm_8_134 wk_100 wi_100 wp_100 (by decide +kernel) (by decide +kernel)) hKN hb0) ?_
  refine bs_c (pc := 69) (s_iconst hx hb (z := 0) (by decide +kernel) (by decide +kernel)) ?_
  refine bs_c (pc := 70) (s_istore_n hx hb (k := 1) (by decide +kernel) rfl (by decide +kernel)) ?_
  refine bs_c (pc := 71) (s_fall (pc' := 0) (by decide +kernel)) ?_
  exact bs_n
set_option maxRecDepth 20000 in
theorem b_99_1 (C : CX p l s m args meth c d E F 99) : BB p l e s m args below meth c d E F K0 99 71 rc_99_1 := by
  obtain ⟨hx, hb, hml, hown, hts, hr, hlocks, hnm, hKN, hb0, hF⟩ := C
  have hb : c.code = prog_10_method_24_code := hb
  have hown : s.vm.findClass "RudeCouponsModel" = some m.cls := hown
  have hr : meth.sig.returnType = none := hr
  refine bs_c (pc := 71) (s_iload_n hx hb (k := 1) (by decide +kernel) rfl) ?_
  refine bs_c (pc := 72) (s_aload_n hx hb (k := 0) (by decide +kernel) rfl) ?_
  refine bs_c (pc := 73) (s_getf hx hb hts in_8 hown hKN.1 (ci := 8) rfl (k := 4) (by decide) (hts _ lf_8_91) (by decide +kernel)) ?_
  refine bs_c (pc := 76) (s_icmp_ge hx hb (by decide +kernel) hF) ?_
  refine bs_c (pc := 79) (s_iconst hx hb (z := 0) (by decide +kernel) (by decide +kernel)) ?_
  refine bs_c (pc := 80) (s_istore_n hx hb (k := 2) (by decide +kernel) rfl (by decide +kernel)) ?_
  refine bs_c (pc := 81) (s_iconst hx hb (z := 0) (by decide +kernel) (by decide +kernel)) ?_
  refine bs_c (pc := 82) (s_istore_n hx hb (k := 3) (by decide +kernel) rfl (by decide +kernel)) ?_
  refine bs_c (pc := 83) (s_fall (pc' := 0) (by decide +kernel)) ?_
  exact bs_n
set_option maxRecDepth 20000 in
theorem b_99_2 (C : CX p l s m args meth c d E F 99) : BB p l e s m args below meth c d E F K0 99 83 rc_99_2 := by
  obtain ⟨hx, hb, hml, hown, hts, hr, hlocks, hnm, hKN, hb0, hF⟩ := C
  have hb : c.code = prog_10_method_24_code := hb
  have hown : s.vm.findClass "RudeCouponsModel" = some m.cls := hown
  have hr : meth.sig.returnType = none := hr
  refine bs_c (pc := 83) (s_iload_n hx hb (k := 3) (by decide +kernel) rfl) ?_
  refine bs_c (pc := 84) (s_aload_n hx hb (k := 0) (by decide +kernel) rfl) ?_
  refine bs_c (pc := 85) (s_getf hx hb hts in_8 hown hKN.1 (ci := 8) rfl (k := 4) (by decide) (hts _ lf_8_91) (by decide +kernel)) ?_
  refine bs_c (pc := 88) (s_icmp_ge hx hb (by decide +kernel) hF) ?_
  refine bs_c (pc := 91) (s_iload_n hx hb (k := 2) (by decide +kernel) rfl) ?_
  refine bs_c (pc := 92) (s_aload_n hx hb (k := 0) (by decide +kernel) rfl) ?_
  refine bs_c (pc := 93) (s_getf hx hb hts in_8 hown hKN.1 (ci := 8) rfl (k := 5) (by decide) (hts _ lf_8_16) (by decide +kernel)) ?_
  refine bs_c (pc := 96) (s_iconst hx hb (z := 3) (by decide +kernel) (by decide +kernel)) ?_
  refine bs_c (pc := 97) (s_iload_n hx hb (k := 3) (by decide +kernel) rfl) ?_
  refine bs_c (pc := 98) (s_imul hx hb (by decide +kernel) hF) ?_
  refine bs_c (pc := 99) (s_ald0 hx hb hKN.1 (by decide +kernel)) ?_
  refine bs_c (pc := 100) (s_aload_n hx hb (k := 0) (by decide +kernel) rfl) ?_
  refine bs_c (pc := 101) (s_getf hx hb hts in_8 hown hKN.1 (ci := 8) rfl (k := 5) (by decide) (hts _ lf_8_16) (by decide +kernel)) ?_
  refine bs_c (pc := 104) (s_iconst hx hb (z := 3) (by decide +kernel) (by decide +kernel)) ?_
  refine bs_c (pc := 105) (s_iload_n hx hb (k := 1) (by decide +kernel) rfl) ?_
  refine bs_c (pc := 106) (s_imul hx hb (by decide +kernel) hF) ?_
  refine bs_c (pc := 107) (s_ald0 hx hb hKN.1 (by decide +kernel)) ?_
  refine bs_c (pc := 108) (s_icmp_lt hx hb (by decide +kernel) hF) ?_
  refine bs_c (pc := 111) (s_aload_n hx hb (k := 0) (by decide +kernel) rfl) ?_
  refine bs_c (pc := 112) (s_getf hx hb hts in_8 hown hKN.1 (ci := 8) rfl (k := 5) (by decide) (hts _ lf_8_16) (by decide +kernel)) ?_
  refine bs_c (pc := 115) (s_iconst hx hb (z := 3) (by decide +kernel) (by decide +kernel)) ?_
  refine bs_c (pc := 116) (s_iload_n hx hb (k := 3) (by decide +kernel) rfl) ?_
  refine bs_c (pc := 117) (s_imul hx hb (by decide +kernel) hF) ?_
  refine bs_c (pc := 118) (s_ald0 hx hb hKN.1 (by decide +kernel)) ?_
  refine bs_c (pc := 119) (s_aload_n hx hb (k := 0) (by decide +kernel) rfl) ?_
  refine bs_c (pc := 120) (s_getf hx hb hts in_8 hown hKN.1 (ci := 8) rfl (k := 5) (by decide) (hts _ lf_8_16) (by decide +kernel)) ?_
  refine bs_c (pc := 123) (s_iconst hx hb (z := 3) (by decide +kernel) (by decide +kernel)) ?_
  refine bs_c (pc := 124) (s_iload_n hx hb (k := 1) (by decide +kernel) rfl) ?_
  refine bs_c (pc := 125) (s_imul hx hb (by decide +kernel) hF) ?_
  refine bs_c (pc := 126) (s_ald0 hx hb hKN.1 (by decide +kernel)) ?_
  refine bs_c (pc := 127) (s_icmp_ne hx hb (by decide +kernel) hF) ?_
  refine bs_c (pc := 130) (s_iload_n hx hb (k := 3) (by decide +kernel) rfl) ?_
  refine bs_c (pc := 131) (s_iload_n hx hb (k := 1) (by decide +kernel) rfl) ?_
  refine bs_c (pc := 132) (s_icmp_ge hx hb (by decide +kernel) hF) ?_
  refine bs_c (pc := 135) (s_fall (pc' := 0) (by decide +kernel)) ?_
  exact bs_n
set_option maxRecDepth 20000 in
theorem b_99_3 (C : CX p l s m args meth c d E F 99) : BB p l e s m args below meth c d E F K0 99 135 rc_99_3 := by
  obtain ⟨hx, hb, hml, hown, hts, hr, hlocks, hnm, hKN, hb0, hF⟩ := C
  have hb : c.code = prog_10_method_24_code := hb
  have hown : s.vm.findClass "RudeCouponsModel" = some m.cls := hown
  have hr : meth.sig.returnType = none := hr
  refine bs_c (pc := 135) (s_iconst hx hb (z := 1) (by decide +kernel) (by decide +kernel)) ?_
  refine bs_c (pc := 136) (s_goto hx hb (pc' := 0) (by decide +kernel)) ?_
  exact bs_n
set_option maxRecDepth 20000 in
theorem b_99_4 (C : CX p l s m args meth c d E F 99) : BB p l e s m args below meth c d E F K0 99 139 rc_99_4 := by
  obtain ⟨hx, hb, hml, hown, hts, hr, hlocks, hnm, hKN, hb0, hF⟩ := C
  have hb : c.code = prog_10_method_24_code := hb
  have hown : s.vm.findClass "RudeCouponsModel" = some m.cls := hown
  have hr : meth.sig.returnType = none := hr
  refine bs_c (pc := 139) (s_iconst hx hb (z := 0) (by decide +kernel) (by decide +kernel)) ?_
  refine bs_c (pc := 140) (s_fall (pc' := 0) (by decide +kernel)) ?_
  exact bs_n
set_option maxRecDepth 20000 in
theorem b_99_5 (C : CX p l s m args meth c d E F 99) : BB p l e s m args below meth c d E F K0 99 140 rc_99_5 := by
  obtain ⟨hx, hb, hml, hown, hts, hr, hlocks, hnm, hKN, hb0, hF⟩ := C
  have hb : c.code = prog_10_method_24_code := hb
  have hown : s.vm.findClass "RudeCouponsModel" = some m.cls := hown
  have hr : meth.sig.returnType = none := hr
  refine bs_c (pc := 140) (s_iadd hx hb (by decide +kernel)) ?_
  refine bs_c (pc := 141) (s_istore_n hx hb (k := 2) (by decide +kernel) rfl (by decide +kernel)) ?_
  refine bs_c (pc := 142) (s_iinc hx hb (z := 1) (by decide +kernel) (by decide +kernel) (by decide +kernel)) ?_
  refine bs_c (pc := 145) (s_goto hx hb (pc' := 0) (by decide +kernel)) ?_
  exact bs_n
set_option maxRecDepth 20000 in
theorem b_99_6 (C : CX p l s m args meth c d E F 99) : BB p l e s m args below meth c d E F K0 99 148 rc_99_6 := by
  obtain ⟨hx, hb, hml, hown, hts, hr, hlocks, hnm, hKN, hb0, hF⟩ := C
  have hb : c.code = prog_10_method_24_code := hb
  have hown : s.vm.findClass "RudeCouponsModel" = some m.cls := hown
  have hr : meth.sig.returnType = none := hr
  refine bs_c (pc := 148) (s_aload_n hx hb (k := 0) (by decide +kernel) rfl) ?_
  refine bs_c (pc := 149) (s_getf hx hb hts in_8 hown hKN.1 (ci := 8) rfl (k := 6) (by decide) (hts _ lf_8_19) (by decide +kernel)) ?_
  refine bs_c (pc := 152) (s_iload_n hx hb (k := 2) (by decide +kernel) rfl) ?_
  refine bs_c (pc := 153) (s_iload_n hx hb (k := 1) (by decide +kernel) rfl) ?_
  refine bs_c (pc := 154) (s_ast0 hx hb hKN.1 (by decide +kernel)) ?_
  refine bs_c (pc := 155) (s_iinc hx hb (z := 1) (by decide +kernel) (by decide +kernel) (by decide +kernel)) ?_
  refine bs_c (pc := 158) (s_goto hx hb (pc' := 0) (by decide +kernel)) ?_
  exact bs_n
set_option maxRecDepth 20000 in
theorem b_99_7 (C : CX p l s m args meth c d E F 99) : BB p l e s m args below meth c d E F K0 99 161 rc_99_7 := by
  obtain ⟨hx, hb, hml, hown, hts, hr, hlocks, hnm, hKN, hb0, hF⟩ := C
  have hb : c.code = prog_10_method_24_code := hb
  have hown : s.vm.findClass "RudeCouponsModel" = some m.cls := hown
  have hr : meth.sig.returnType = none := hr
  refine bs_c (pc := 161) (s_iconst hx hb (z := 0) (by decide +kernel) (by decide +kernel)) ?_
  refine bs_c (pc := 162) (s_istore_n hx hb (k := 1) (by decide +kernel) rfl (by decide +kernel)) ?_
  refine bs_c (pc := 163) (s_fall (pc' := 0) (by decide +kernel)) ?_
  exact bs_n
set_option maxRecDepth 20000 in
theorem b_99_8 (C : CX p l s m args meth c d E F 99) : BB p l e s m args below meth c d E F K0 99 163 rc_99_8 := by
  obtain ⟨hx, hb, hml, hown, hts, hr, hlocks, hnm, hKN, hb0, hF⟩ := C
  have hb : c.code = prog_10_method_24_code := hb
  have hown : s.vm.findClass "RudeCouponsModel" = some m.cls := hown
  have hr : meth.sig.returnType = none := hr
  refine bs_c (pc := 163) (s_iload_n hx hb (k := 1) (by decide +kernel) rfl) ?_
  refine bs_c (pc := 164) (s_bipush hx hb (z := 26) (by decide +kernel) (by decide +kernel)) ?_
  refine bs_c (pc := 166) (s_icmp_ge hx hb (by decide +kernel) hF) ?_
  refine bs_c (pc := 169) (s_aload_n hx hb (k := 0) (by decide +kernel) rfl) ?_
  refine bs_c (pc := 170) (s_getf hx hb hts in_8 hown hKN.1 (ci := 8) rfl (k := 7) (by decide) (hts _ lf_8_22) (by decide +kernel)) ?_
  refine bs_c (pc := 173) (s_iload_n hx hb (k := 1) (by decide +kernel) rfl) ?_
  refine bs_c (pc := 174) (s_iconst hx hb (z := 0) (by decide +kernel) (by decide +kernel)) ?_
  refine bs_c (pc := 175) (s_ast0 hx hb hKN.1 (by decide +kernel)) ?_
  refine bs_c (pc := 176) (s_iinc hx hb (z := 1) (by decide +kernel) (by decide +kernel) (by decide +kernel)) ?_
  refine bs_c (pc := 179) (s_goto hx hb (pc' := 0) (by decide +kernel)) ?_
  exact bs_n
set_option maxRecDepth 20000 in
theorem b_99_9 (C : CX p l s m args meth c d E F 99) : BB p l e s m args below meth c d E F K0 99 182 rc_99_9 := by
  obtain ⟨hx, hb, hml, hown, hts, hr, hlocks, hnm, hKN, hb0, hF⟩ := C
  have hb : c.code = prog_10_method_24_code := hb
  have hown : s.vm.findClass "RudeCouponsModel" = some m.cls := hown
  have hr : meth.sig.returnType = none := hr
  refine bs_c (pc := 182) (s_iconst hx hb (z := 0) (by decide +kernel) (by decide +kernel)) ?_
  refine bs_c (pc := 183) (s_istore_n hx hb (k := 1) (by decide +kernel) rfl (by decide +kernel)) ?_
  refine bs_c (pc := 184) (s_fall (pc' := 0) (by decide +kernel)) ?_
  exact bs_n
set_option maxRecDepth 20000 in
theorem b_99_10 (C : CX p l s m args meth c d E F 99) : BB p l e s m args below meth c d E F K0 99 184 rc_99_10 := by
  obtain ⟨hx, hb, hml, hown, hts, hr, hlocks, hnm, hKN, hb0, hF⟩ := C
  have hb : c.code = prog_10_method_24_code := hb
  have hown : s.vm.findClass "RudeCouponsModel" = some m.cls := hown
  have hr : meth.sig.returnType = none := hr
  refine bs_c (pc := 184) (s_iload_n hx hb (k := 1) (by decide +kernel) rfl) ?_
  refine bs_c (pc := 185) (s_aload_n hx hb (k := 0) (by decide +kernel) rfl) ?_
  refine bs_c (pc := 186) (s_getf hx hb hts in_8 hown hKN.1 (ci := 8) rfl (k := 0) (by decide) (hts _ lf_8_84) (by decide +kernel)) ?_
  refine bs_c (pc := 189) (s_icmp_ge hx hb (by decide +kernel) hF) ?_
  refine bs_c (pc := 192) (s_aload_n hx hb (k := 0) (by decide +kernel) rfl) ?_
  refine bs_c (pc := 193) (s_getf hx hb hts in_8 hown hKN.1 (ci := 8) rfl (k := 7) (by decide) (hts _ lf_8_22) (by decide +kernel)) ?_
  refine bs_c (pc := 196) (s_iconst hx hb (z := 2) (by decide +kernel) (by decide +kernel)) ?_
  refine bs_c (pc := 197) (s_iload_n hx hb (k := 1) (by decide +kernel) rfl) ?_
  refine bs_c (pc := 198) (s_iadd hx hb (by decide +kernel)) ?_
  refine bs_c (pc := 199) (s_aload_n hx hb (k := 0) (by decide +kernel) rfl) ?_
  refine bs_c (pc := 200) (s_getf hx hb hts in_8 hown hKN.1 (ci := 8) rfl (k := 1) (by decide) (hts _ lf_8_7) (by decide +kernel)) ?_
  refine bs_c (pc := 203) (s_iconst hx hb (z := 3) (by decide +kernel) (by decide +kernel)) ?_
  refine bs_c (pc := 204) (s_iload_n hx hb (k := 1) (by decide +kernel) rfl) ?_
  refine bs_c (pc := 205) (s_imul hx hb (by decide +kernel) hF) ?_
  refine bs_c (pc := 206) (s_iconst hx hb (z := 1) (by decide +kernel) (by decide +kernel)) ?_
  refine bs_c (pc := 207) (s_iadd hx hb (by decide +kernel)) ?_
  refine bs_c (pc := 208) (s_ald0 hx hb hKN.1 (by decide +kernel)) ?_
  refine bs_c (pc := 209) (s_ast0 hx hb hKN.1 (by decide +kernel)) ?_
  refine bs_c (pc := 210) (s_aload_n hx hb (k := 0) (by decide +kernel) rfl) ?_
  refine bs_c (pc := 211) (s_getf hx hb hts in_8 hown hKN.1 (ci := 8) rfl (k := 7) (by decide) (hts _ lf_8_22) (by decide +kernel)) ?_
  refine bs_c (pc := 214) (s_bipush hx hb (z := 20) (by decide +kernel) (by decide +kernel)) ?_
  refine bs_c (pc := 216) (s_iload_n hx hb (k := 1) (by decide +kernel) rfl) ?_
  refine bs_c (pc := 217) (s_iadd hx hb (by decide +kernel)) ?_
  refine bs_c (pc := 218) (s_sipush hx hb (z := 10000) (by decide +kernel) (by decide +kernel)) ?_
  refine bs_c (pc := 221) (s_ast0 hx hb hKN.1 (by decide +kernel)) ?_
  refine bs_c (pc := 222) (s_iinc hx hb (z := 1) (by decide +kernel) (by decide +kernel) (by decide +kernel)) ?_
  refine bs_c (pc := 225) (s_goto hx hb (pc' := 0) (by decide +kernel)) ?_
  exact bs_n
set_option maxRecDepth 20000 in
theorem b_99_11 (C : CX p l s m args meth c d E F 99) : BB p l e s m args below meth c d E F K0 99 228 rc_99_11 := by
  obtain ⟨hx, hb, hml, hown, hts, hr, hlocks, hnm, hKN, hb0, hF⟩ := C
  have hb : c.code = prog_10_method_24_code := hb
  have hown : s.vm.findClass "RudeCouponsModel" = some m.cls := hown
  have hr : meth.sig.returnType = none := hr
  refine bs_c (pc := 228) (s_aload_n hx hb (k := 0) (by decide +kernel) rfl) ?_
  refine bs_c (pc := 229) (s_iconst hx hb (z := 0) (by decide +kernel) (by decide +kernel)) ?_
  refine bs_c (pc := 230) (s_putI hx hb hts in_8 hown hKN.1 (ci := 8) rfl (k := 8) (by decide) (hts _ lf_8_138) tyX8 tyX8_ok nmX8 (tyX8_ok 8 (by decide)) rfl (by decide +kernel)) ?_
  refine bs_c (pc := 233) (s_aload_n hx hb (k := 0) (by decide +kernel) rfl) ?_
  refine bs_c (pc := 234) (s_iconst hx hb (z := 0) (by decide +kernel) (by decide +kernel)) ?_
  refine bs_c (pc := 235) (s_putI hx hb hts in_8 hown hKN.1 (ci := 8) rfl (k := 10) (by decide) (hts _ lf_8_141) tyX8 tyX8_ok nmX8 (tyX8_ok 10 (by decide)) rfl (by decide +kernel)) ?_
  refine bs_c (pc := 238) (s_aload_n hx hb (k := 0) (by decide +kernel) rfl) ?_
  refine bs_c (pc := 239) (s_iconst hx hb (z := 0) (by decide +kernel) (by decide +kernel)) ?_
  refine bs_c (pc := 240) (s_putI hx hb hts in_8 hown hKN.1 (ci := 8) rfl (k := 12) (by decide) (hts _ lf_8_144) tyX8 tyX8_ok nmX8 (tyX8_ok 12 (by decide)) rfl (by decide +kernel)) ?_
  refine bs_c (pc := 243) (s_return hx hb hr hlocks (pc' := 0) (by decide +kernel)) ?_
  exact bs_n
set_option maxRecDepth 20000 in
theorem b_100_0 (C : CX p l s m args meth c d E F 100) : BB p l e s m args below meth c d E F K0 100 0 rc_100_0 := by
  obtain ⟨hx, hb, hml, hown, hts, hr, hlocks, hnm, hKN, hb0, hF⟩ := C
  have hb : c.code = prog_10_method_23_code := hb
  have hown : s.vm.findClass "RudeCouponsModel" = some m.cls := hown
  have hr : meth.sig.returnType = none := hr
  refine bs_c (pc := 0) (s_iconst hx hb (z := 0) (by decide +kernel) (by decide +kernel)) ?_
  refine bs_c (pc := 1) (s_istore hx hb (by decide +kernel) (by decide +kernel)) ?_
  refine bs_c (pc := 3) (s_fall (pc' := 0) (by decide +kernel)) ?_
  exact bs_n
set_option maxRecDepth 20000 in
theorem b_100_1 (C : CX p l s m args meth c d E F 100) : BB p l e s m args below meth c d E F K0 100 3 rc_100_1 := by
  obtain ⟨hx, hb, hml, hown, hts, hr, hlocks, hnm, hKN, hb0, hF⟩ := C
  have hb : c.code = prog_10_method_23_code := hb
  have hown : s.vm.findClass "RudeCouponsModel" = some m.cls := hown
  have hr : meth.sig.returnType = none := hr
  refine bs_c (pc := 3) (s_iload hx hb (by decide +kernel)) ?_
  refine bs_c (pc := 5) (s_iload hx hb (by decide +kernel)) ?_
  refine bs_c (pc := 7) (s_icmp_ge hx hb (by decide +kernel) hF) ?_
  refine bs_c (pc := 10) (s_aload_n hx hb (k := 0) (by decide +kernel) rfl) ?_
  refine bs_c (pc := 11) (s_iload_n hx hb (k := 1) (by decide +kernel) rfl) ?_
  refine bs_c (pc := 12) (s_iload hx hb (by decide +kernel)) ?_
  refine bs_c (pc := 14) (s_iadd hx hb (by decide +kernel)) ?_
  refine bs_c (pc := 15) (s_aload_n hx hb (k := 2) (by decide +kernel) rfl) ?_
  refine bs_c (pc := 16) (s_iload_n hx hb (k := 3) (by decide +kernel) rfl) ?_
  refine bs_c (pc := 17) (s_iload hx hb (by decide +kernel)) ?_
  refine bs_c (pc := 19) (s_iadd hx hb (by decide +kernel)) ?_
  refine bs_c (pc := 20) (s_ald0 hx hb hKN.1 (by decide +kernel)) ?_
  refine bs_c (pc := 21) (s_ast0 hx hb hKN.1 (by decide +kernel)) ?_
  refine bs_c (pc := 22) (s_iinc hx hb (z := 1) (by decide +kernel) (by decide +kernel) (by decide +kernel)) ?_
  refine bs_c (pc := 25) (s_goto hx hb (pc' := 0) (by decide +kernel)) ?_
  exact bs_n
set_option maxRecDepth 20000 in
theorem b_100_2 (C : CX p l s m args meth c d E F 100) : BB p l e s m args below meth c d E F K0 100 28 rc_100_2 := by
  obtain ⟨hx, hb, hml, hown, hts, hr, hlocks, hnm, hKN, hb0, hF⟩ := C
  have hb : c.code = prog_10_method_23_code := hb
  have hown : s.vm.findClass "RudeCouponsModel" = some m.cls := hown
  have hr : meth.sig.returnType = none := hr
  refine bs_c (pc := 28) (s_return hx hb hr hlocks (pc' := 0) (by decide +kernel)) ?_
  exact bs_n
set_option maxRecDepth 20000 in
theorem b_101_0 (C : CX p l s m args meth c d E F 101) : BB p l e s m args below meth c d E F K0 101 0 rc_101_0 := by
  obtain ⟨hx, hb, hml, hown, hts, hr, hlocks, hnm, hKN, hb0, hF⟩ := C
  have hb : c.code = prog_10_method_10_code := hb
  have hown : s.vm.findClass "RudeCouponsModel" = some m.cls := hown
  have hr : meth.sig.returnType = some .int := hr
  refine bs_c (pc := 0) (s_iload_n hx hb (k := 1) (by decide +kernel) rfl) ?_
  refine bs_c (pc := 1) (s_bipush hx hb (z := 32) (by decide +kernel) (by decide +kernel)) ?_
  refine bs_c (pc := 3) (s_bipush hx hb (z := 126) (by decide +kernel) (by decide +kernel)) ?_
  refine bs_c (pc := 5) (s_call rfl rfl (rk_S hx hb hml (index := 87) (y := 7) (n := 3) hown hts wc_7 lm_8_87 wk_7 wi_7 wp_7 (by decide +kernel) (by decide +kernel)) hKN hb0) ?_
  refine bs_c (pc := 8) (s_if_ne hx hb (by decide +kernel) hF) ?_
  refine bs_c (pc := 11) (s_iconst hx hb (z := -1) (by decide +kernel) (by decide +kernel)) ?_
  refine bs_c (pc := 12) (s_ireturn hx hb hr hlocks (pc' := 0) (by decide +kernel)) ?_
  exact bs_n
set_option maxRecDepth 20000 in
theorem b_101_1 (C : CX p l s m args meth c d E F 101) : BB p l e s m args below meth c d E F K0 101 13 rc_101_1 := by
  obtain ⟨hx, hb, hml, hown, hts, hr, hlocks, hnm, hKN, hb0, hF⟩ := C
  have hb : c.code = prog_10_method_10_code := hb
  have hown : s.vm.findClass "RudeCouponsModel" = some m.cls := hown
  have hr : meth.sig.returnType = some .int := hr
  refine bs_c (pc := 13) (s_aload_n hx hb (k := 0) (by decide +kernel) rfl) ?_
  refine bs_c (pc := 14) (s_getf hx hb hts in_8 hown hKN.1 (ci := 8) rfl (k := 15) (by decide) (hts _ lf_8_94) (by decide +kernel)) ?_
  refine bs_c (pc := 17) (s_sipush hx hb (z := 200) (by decide +kernel) (by decide +kernel)) ?_
  refine bs_c (pc := 20) (s_icmp_ne hx hb (by decide +kernel) hF) ?_
  refine bs_c (pc := 23) (s_bipush hx hb (z := -3) (by decide +kernel) (by decide +kernel)) ?_
  refine bs_c (pc := 25) (s_ireturn hx hb hr hlocks (pc' := 0) (by decide +kernel)) ?_
  exact bs_n
set_option maxRecDepth 20000 in
theorem b_101_2 (C : CX p l s m args meth c d E F 101) : BB p l e s m args below meth c d E F K0 101 26 rc_101_2 := by
  obtain ⟨hx, hb, hml, hown, hts, hr, hlocks, hnm, hKN, hb0, hF⟩ := C
  have hb : c.code = prog_10_method_10_code := hb
  have hown : s.vm.findClass "RudeCouponsModel" = some m.cls := hown
  have hr : meth.sig.returnType = some .int := hr
  refine bs_c (pc := 26) (s_aload_n hx hb (k := 0) (by decide +kernel) rfl) ?_
  refine bs_c (pc := 27) (s_getf hx hb hts in_8 hown hKN.1 (ci := 8) rfl (k := 14) (by decide) (hts _ lf_8_34) (by decide +kernel)) ?_
  refine bs_c (pc := 30) (s_aload_n hx hb (k := 0) (by decide +kernel) rfl) ?_
  refine bs_c (pc := 31) (s_getf hx hb hts in_8 hown hKN.1 (ci := 8) rfl (k := 15) (by decide) (hts _ lf_8_94) (by decide +kernel)) ?_
  refine bs_c (pc := 34) (s_iload_n hx hb (k := 1) (by decide +kernel) rfl) ?_
  refine bs_c (pc := 35) (s_ast0 hx hb hKN.1 (by decide +kernel)) ?_
  refine bs_c (pc := 36) (s_aload_n hx hb (k := 0) (by decide +kernel) rfl) ?_
  refine bs_c (pc := 37) (s_dup hx hb (by decide +kernel)) ?_
  refine bs_c (pc := 38) (s_getf hx hb hts in_8 hown hKN.1 (ci := 8) rfl (k := 15) (by decide) (hts _ lf_8_94) (by decide +kernel)) ?_
  refine bs_c (pc := 41) (s_iconst hx hb (z := 1) (by decide +kernel) (by decide +kernel)) ?_
  refine bs_c (pc := 42) (s_iadd hx hb (by decide +kernel)) ?_
  refine bs_c (pc := 43) (s_putI hx hb hts in_8 hown hKN.1 (ci := 8) rfl (k := 15) (by decide) (hts _ lf_8_94) tyX8 tyX8_ok nmX8 (tyX8_ok 15 (by decide)) rfl (by decide +kernel)) ?_
  refine bs_c (pc := 46) (s_aload_n hx hb (k := 0) (by decide +kernel) rfl) ?_
  refine bs_c (pc := 47) (s_getf hx hb hts in_8 hown hKN.1 (ci := 8) rfl (k := 15) (by decide) (hts _ lf_8_94) (by decide +kernel)) ?_
  refine bs_c (pc := 50) (s_ireturn hx hb hr hlocks (pc' := 0) (by decide +kernel)) ?_
  exact bs_n
set_option maxRecDepth 20000 in
theorem b_102_0 (C : CX p l s m args meth c d E F 102) : BB p l e s m args below meth c d E F K0 102 0 rc_102_0 := by
  obtain ⟨hx, hb, hml, hown, hts, hr, hlocks, hnm, hKN, hb0, hF⟩ := C
  have hb : c.code = prog_10_method_11_code := hb
  have hown : s.vm.findClass "RudeCouponsModel" = some m.cls := hown
  have hr : meth.sig.returnType = some .int := hr
  refine bs_c (pc := 0) (s_aload_n hx hb (k := 0) (by decide +kernel) rfl) ?_
  refine bs_c (pc := 1) (s_getf hx hb hts in_8 hown hKN.1 (ci := 8) rfl (k := 15) (by decide) (hts _ lf_8_94) (by decide +kernel)) ?_
  refine bs_c (pc := 4) (s_istore_n hx hb (k := 1) (by decide +kernel) rfl (by decide +kernel)) ?_
  refine bs_c (pc := 5) (s_aload_n hx hb (k := 0) (by decide +kernel) rfl) ?_
  refine bs_c (pc := 6) (s_iconst hx hb (z := 0) (by decide +kernel) (by decide +kernel)) ?_
  refine bs_c (pc := 7) (s_putI hx hb hts in_8 hown hKN.1 (ci := 8) rfl (k := 15) (by decide) (hts _ lf_8_94) tyX8 tyX8_ok nmX8 (tyX8_ok 15 (by decide)) rfl (by decide +kernel)) ?_
  refine bs_c (pc := 10) (s_iload_n hx hb (k := 1) (by decide +kernel) rfl) ?_
  refine bs_c (pc := 11) (s_ireturn hx hb hr hlocks (pc' := 0) (by decide +kernel)) ?_
  exact bs_n
set_option maxRecDepth 20000 in
theorem b_103_0 (C : CX p l s m args meth c d E F 103) : BB p l e s m args below meth c d E F K0 103 0 rc_103_0 := by
  obtain ⟨hx, hb, hml, hown, hts, hr, hlocks, hnm, hKN, hb0, hF⟩ := C
  have hb : c.code = prog_10_method_21_code := hb
  have hown : s.vm.findClass "RudeCouponsModel" = some m.cls := hown
  have hr : meth.sig.returnType = some .int := hr
  refine bs_c (pc := 0) (s_aload_n hx hb (k := 0) (by decide +kernel) rfl) ?_
  refine bs_c (pc := 1) (s_iconst hx hb (z := 0) (by decide +kernel) (by decide +kernel)) ?_
  refine bs_c (pc := 2) (s_putI hx hb hts in_8 hown hKN.1 (ci := 8) rfl (k := 16) (by decide) (hts _ lf_8_97) tyX8 tyX8_ok nmX8 (tyX8_ok 16 (by decide)) rfl (by decide +kernel)) ?_
  refine bs_c (pc := 5) (s_aload_n hx hb (k := 0) (by decide +kernel) rfl) ?_
  refine bs_c (pc := 6) (s_call rfl rfl (rk_V hx hb hml (index := 58) (y := 95) (n := 0) hown hts wc_95 (k := 8) rfl rfl lm_8_58 wk_95 wv_95 wi_95 wp_95 (by decide +kernel) (by decide +kernel)) hKN hb0) ?_
  refine bs_c (pc := 9) (s_fall (pc' := 0) (by decide +kernel)) ?_
  exact bs_n
set_option maxRecDepth 20000 in
theorem b_103_1 (C : CX p l s m args meth c d E F 103) : BB p l e s m args below meth c d E F K0 103 9 rc_103_1 := by
  obtain ⟨hx, hb, hml, hown, hts, hr, hlocks, hnm, hKN, hb0, hF⟩ := C
  have hb : c.code = prog_10_method_21_code := hb
  have hown : s.vm.findClass "RudeCouponsModel" = some m.cls := hown
  have hr : meth.sig.returnType = some .int := hr
  refine bs_c (pc := 9) (s_aload_n hx hb (k := 0) (by decide +kernel) rfl) ?_
  refine bs_c (pc := 10) (s_getf hx hb hts in_8 hown hKN.1 (ci := 8) rfl (k := 16) (by decide) (hts _ lf_8_97) (by decide +kernel)) ?_
  refine bs_c (pc := 13) (s_aload_n hx hb (k := 0) (by decide +kernel) rfl) ?_
  refine bs_c (pc := 14) (s_getf hx hb hts in_8 hown hKN.1 (ci := 8) rfl (k := 15) (by decide) (hts _ lf_8_94) (by decide +kernel)) ?_
  refine bs_c (pc := 17) (s_icmp_ge hx hb (by decide +kernel) hF) ?_
  refine bs_c (pc := 20) (s_aload_n hx hb (k := 0) (by decide +kernel) rfl) ?_
  refine bs_c (pc := 21) (s_getf hx hb hts in_8 hown hKN.1 (ci := 8) rfl (k := 16) (by decide) (hts _ lf_8_97) (by decide +kernel)) ?_
  refine bs_c (pc := 24) (s_istore_n hx hb (k := 1) (by decide +kernel) rfl (by decide +kernel)) ?_
  refine bs_c (pc := 25) (s_aload_n hx hb (k := 0) (by decide +kernel) rfl) ?_
  refine bs_c (pc := 26) (s_bad (pc' := 29)) ?_
  refine bs_c (pc := 29) (s_if_ne hx hb (by decide +kernel) hF) ?_
  refine bs_c (pc := 32) (s_iload_n hx hb (k := 1) (by decide +kernel) rfl) ?_
  refine bs_c (pc := 33) (s_ireturn hx hb hr hlocks (pc' := 0) (by decide +kernel)) ?_
  exact bs_n
set_option maxRecDepth 20000 in
theorem b_103_2 (C : CX p l s m args meth c d E F 103) : BB p l e s m args below meth c d E F K0 103 34 rc_103_2 := by
  obtain ⟨hx, hb, hml, hown, hts, hr, hlocks, hnm, hKN, hb0, hF⟩ := C
  have hb : c.code = prog_10_method_21_code := hb
  have hown : s.vm.findClass "RudeCouponsModel" = some m.cls := hown
  have hr : meth.sig.returnType = some .int := hr
  refine bs_c (pc := 34) (s_goto hx hb (pc' := 0) (by decide +kernel)) ?_
  exact bs_n
set_option maxRecDepth 20000 in
theorem b_103_3 (C : CX p l s m args meth c d E F 103) : BB p l e s m args below meth c d E F K0 103 37 rc_103_3 := by
  obtain ⟨hx, hb, hml, hown, hts, hr, hlocks, hnm, hKN, hb0, hF⟩ := C
  have hb : c.code = prog_10_method_21_code := hb
  have hown : s.vm.findClass "RudeCouponsModel" = some m.cls := hown
  have hr : meth.sig.returnType = some .int := hr
  refine bs_c (pc := 37) (s_bipush hx hb (z := -4) (by decide +kernel) (by decide +kernel)) ?_
  refine bs_c (pc := 39) (s_ireturn hx hb hr hlocks (pc' := 0) (by decide +kernel)) ?_
  exact bs_n
set_option maxRecDepth 20000 in
theorem b_104_0 (C : CX p l s m args meth c d E F 104) : BB p l e s m args below meth c d E F K0 104 0 rc_104_0 := by
  obtain ⟨hx, hb, hml, hown, hts, hr, hlocks, hnm, hKN, hb0, hF⟩ := C
  have hb : c.code = prog_10_method_22_code := hb
  have hown : s.vm.findClass "RudeCouponsModel" = some m.cls := hown
  have hr : meth.sig.returnType = some .int := hr
  refine bs_c (pc := 0) (s_aload_n hx hb (k := 0) (by decide +kernel) rfl) ?_
  refine bs_c (pc := 1) (s_call rfl rfl (rk_V hx hb hml (index := 127) (y := 103) (n := 0) hown hts wc_103 (k := 8) rfl rfl lm_8_127 wk_103 wv_103 wi_103 wp_103 (by decide +kernel) (by decide +kernel)) hKN hb0) ?_
  refine bs_c (pc := 4) (s_bipush hx hb (z := -4) (by decide +kernel) (by decide +kernel)) ?_
  refine bs_c (pc := 6) (s_icmp_ne hx hb (by decide +kernel) hF) ?_
  refine bs_c (pc := 9) (s_aload_n hx hb (k := 0) (by decide +kernel) rfl) ?_
  refine bs_c (pc := 10) (s_getf hx hb hts in_8 hown hKN.1 (ci := 8) rfl (k := 18) (by decide) (hts _ lf_8_74) (by decide +kernel)) ?_
  refine bs_c (pc := 13) (s_if_ne hx hb (by decide +kernel) hF) ?_
  refine bs_c (pc := 16) (s_fall (pc' := 0) (by decide +kernel)) ?_
  exact bs_n
set_option maxRecDepth 20000 in
theorem b_104_1 (C : CX p l s m args meth c d E F 104) : BB p l e s m args below meth c d E F K0 104 16 rc_104_1 := by
  obtain ⟨hx, hb, hml, hown, hts, hr, hlocks, hnm, hKN, hb0, hF⟩ := C
  have hb : c.code = prog_10_method_22_code := hb
  have hown : s.vm.findClass "RudeCouponsModel" = some m.cls := hown
  have hr : meth.sig.returnType = some .int := hr
  refine bs_c (pc := 16) (s_bipush hx hb (z := -2) (by decide +kernel) (by decide +kernel)) ?_
  refine bs_c (pc := 18) (s_ireturn hx hb hr hlocks (pc' := 0) (by decide +kernel)) ?_
  exact bs_n
set_option maxRecDepth 20000 in
theorem b_104_2 (C : CX p l s m args meth c d E F 104) : BB p l e s m args below meth c d E F K0 104 19 rc_104_2 := by
  obtain ⟨hx, hb, hml, hown, hts, hr, hlocks, hnm, hKN, hb0, hF⟩ := C
  have hb : c.code = prog_10_method_22_code := hb
  have hown : s.vm.findClass "RudeCouponsModel" = some m.cls := hown
  have hr : meth.sig.returnType = some .int := hr
  refine bs_c (pc := 19) (s_aload_n hx hb (k := 0) (by decide +kernel) rfl) ?_
  refine bs_c (pc := 20) (s_call rfl rfl (rk_V hx hb hml (index := 71) (y := 99) (n := 0) hown hts wc_99 (k := 8) rfl rfl lm_8_71 wk_99 wv_99 wi_99 wp_99 (by decide +kernel) (by decide +kernel)) hKN hb0) ?_
  refine bs_c (pc := 23) (s_aload_n hx hb (k := 0) (by decide +kernel) rfl) ?_
  refine bs_c (pc := 24) (s_getf hx hb hts in_8 hown hKN.1 (ci := 8) rfl (k := 0) (by decide) (hts _ lf_8_84) (by decide +kernel)) ?_
  refine bs_c (pc := 27) (s_ireturn hx hb hr hlocks (pc' := 0) (by decide +kernel)) ?_
  exact bs_n
set_option maxRecDepth 20000 in
theorem b_105_0 (C : CX p l s m args meth c d E F 105) : BB p l e s m args below meth c d E F K0 105 0 rc_105_0 := by
  obtain ⟨hx, hb, hml, hown, hts, hr, hlocks, hnm, hKN, hb0, hF⟩ := C
  have hb : c.code = prog_10_method_31_code := hb
  have hown : s.vm.findClass "RudeCouponsModel" = some m.cls := hown
  have hr : meth.sig.returnType = some .int := hr
  refine bs_c (pc := 0) (s_aload_n hx hb (k := 0) (by decide +kernel) rfl) ?_
  refine bs_c (pc := 1) (s_iload_n hx hb (k := 1) (by decide +kernel) rfl) ?_
  refine bs_c (pc := 2) (s_call rfl rfl (rk_V hx hb hml (index := 162) (y := 9) (n := 1) hown hts wc_9 (k := 8) rfl rfl lm_8_162 wk_9 wv_9 wi_9 wp_9 (by decide +kernel) (by decide +kernel)) hKN hb0) ?_
  refine bs_c (pc := 5) (s_if_ne hx hb (by decide +kernel) hF) ?_
  refine bs_c (pc := 8) (s_iconst hx hb (z := -1) (by decide +kernel) (by decide +kernel)) ?_
  refine bs_c (pc := 9) (s_ireturn hx hb hr hlocks (pc' := 0) (by decide +kernel)) ?_
  exact bs_n
set_option maxRecDepth 20000 in
theorem b_105_1 (C : CX p l s m args meth c d E F 105) : BB p l e s m args below meth c d E F K0 105 10 rc_105_1 := by
  obtain ⟨hx, hb, hml, hown, hts, hr, hlocks, hnm, hKN, hb0, hF⟩ := C
  have hb : c.code = prog_10_method_31_code := hb
  have hown : s.vm.findClass "RudeCouponsModel" = some m.cls := hown
  have hr : meth.sig.returnType = some .int := hr
  refine bs_c (pc := 10) (s_iload_n hx hb (k := 2) (by decide +kernel) rfl) ?_
  refine bs_c (pc := 11) (s_table hx hb (hi' := 3) (offs := #[29, 38, 47, 58]) (len := 29) (pc' := 0) (by decide +kernel) (by decide +kernel) (by decide +kernel) (by decide +kernel) (by decide +kernel) hF) ?_
  exact bs_n
set_option maxRecDepth 20000 in
theorem b_105_2 (C : CX p l s m args meth c d E F 105) : BB p l e s m args below meth c d E F K0 105 40 rc_105_2 := by
  obtain ⟨hx, hb, hml, hown, hts, hr, hlocks, hnm, hKN, hb0, hF⟩ := C
  have hb : c.code = prog_10_method_31_code := hb
  have hown : s.vm.findClass "RudeCouponsModel" = some m.cls := hown
  have hr : meth.sig.returnType = some .int := hr
  refine bs_c (pc := 40) (s_aload_n hx hb (k := 0) (by decide +kernel) rfl) ?_
  refine bs_c (pc := 41) (s_getf hx hb hts in_8 hown hKN.1 (ci := 8) rfl (k := 1) (by decide) (hts _ lf_8_7) (by decide +kernel)) ?_
  refine bs_c (pc := 44) (s_iconst hx hb (z := 3) (by decide +kernel) (by decide +kernel)) ?_
  refine bs_c (pc := 45) (s_iload_n hx hb (k := 1) (by decide +kernel) rfl) ?_
  refine bs_c (pc := 46) (s_imul hx hb (by decide +kernel) hF) ?_
  refine bs_c (pc := 47) (s_ald0 hx hb hKN.1 (by decide +kernel)) ?_
  refine bs_c (pc := 48) (s_ireturn hx hb hr hlocks (pc' := 0) (by decide +kernel)) ?_
  exact bs_n
set_option maxRecDepth 20000 in
theorem b_105_3 (C : CX p l s m args meth c d E F 105) : BB p l e s m args below meth c d E F K0 105 49 rc_105_3 := by
  obtain ⟨hx, hb, hml, hown, hts, hr, hlocks, hnm, hKN, hb0, hF⟩ := C
  have hb : c.code = prog_10_method_31_code := hb
  have hown : s.vm.findClass "RudeCouponsModel" = some m.cls := hown
  have hr : meth.sig.returnType = some .int := hr
  refine bs_c (pc := 49) (s_aload_n hx hb (k := 0) (by decide +kernel) rfl) ?_
  refine bs_c (pc := 50) (s_getf hx hb hts in_8 hown hKN.1 (ci := 8) rfl (k := 7) (by decide) (hts _ lf_8_22) (by decide +kernel)) ?_
  refine bs_c (pc := 53) (s_iconst hx hb (z := 2) (by decide +kernel) (by decide +kernel)) ?_
  refine bs_c (pc := 54) (s_iload_n hx hb (k := 1) (by decide +kernel) rfl) ?_
  refine bs_c (pc := 55) (s_iadd hx hb (by decide +kernel)) ?_
  refine bs_c (pc := 56) (s_ald0 hx hb hKN.1 (by decide +kernel)) ?_
  refine bs_c (pc := 57) (s_ireturn hx hb hr hlocks (pc' := 0) (by decide +kernel)) ?_
  exact bs_n
set_option maxRecDepth 20000 in
theorem b_105_4 (C : CX p l s m args meth c d E F 105) : BB p l e s m args below meth c d E F K0 105 58 rc_105_4 := by
  obtain ⟨hx, hb, hml, hown, hts, hr, hlocks, hnm, hKN, hb0, hF⟩ := C
  have hb : c.code = prog_10_method_31_code := hb
  have hown : s.vm.findClass "RudeCouponsModel" = some m.cls := hown
  have hr : meth.sig.returnType = some .int := hr
  refine bs_c (pc := 58) (s_aload_n hx hb (k := 0) (by decide +kernel) rfl) ?_
  refine bs_c (pc := 59) (s_getf hx hb hts in_8 hown hKN.1 (ci := 8) rfl (k := 1) (by decide) (hts _ lf_8_7) (by decide +kernel)) ?_
  refine bs_c (pc := 62) (s_iconst hx hb (z := 3) (by decide +kernel) (by decide +kernel)) ?_
  refine bs_c (pc := 63) (s_iload_n hx hb (k := 1) (by decide +kernel) rfl) ?_
  refine bs_c (pc := 64) (s_imul hx hb (by decide +kernel) hF) ?_
  refine bs_c (pc := 65) (s_iconst hx hb (z := 2) (by decide +kernel) (by decide +kernel)) ?_
  refine bs_c (pc := 66) (s_iadd hx hb (by decide +kernel)) ?_
  refine bs_c (pc := 67) (s_ald0 hx hb hKN.1 (by decide +kernel)) ?_
  refine bs_c (pc := 68) (s_ireturn hx hb hr hlocks (pc' := 0) (by decide +kernel)) ?_
  exact bs_n
set_option maxRecDepth 20000 in
theorem b_105_5 (C : CX p l s m args meth c d E F 105) : BB p l e s m args below meth c d E F K0 105 69 rc_105_5 := by
  obtain ⟨hx, hb, hml, hown, hts, hr, hlocks, hnm, hKN, hb0, hF⟩ := C
  have hb : c.code = prog_10_method_31_code := hb
  have hown : s.vm.findClass "RudeCouponsModel" = some m.cls := hown
  have hr : meth.sig.returnType = some .int := hr
  refine bs_c (pc := 69) (s_aload_n hx hb (k := 0) (by decide +kernel) rfl) ?_
  refine bs_c (pc := 70) (s_getf hx hb hts in_8 hown hKN.1 (ci := 8) rfl (k := 7) (by decide) (hts _ lf_8_22) (by decide +kernel)) ?_
  refine bs_c (pc := 73) (s_bipush hx hb (z := 8) (by decide +kernel) (by decide +kernel)) ?_
  refine bs_c (pc := 75) (s_iload_n hx hb (k := 1) (by decide +kernel) rfl) ?_
  refine bs_c (pc := 76) (s_iadd hx hb (by decide +kernel)) ?_
  refine bs_c (pc := 77) (s_ald0 hx hb hKN.1 (by decide +kernel)) ?_
  refine bs_c (pc := 78) (s_ireturn hx hb hr hlocks (pc' := 0) (by decide +kernel)) ?_
  exact bs_n
set_option maxRecDepth 20000 in
theorem b_105_6 (C : CX p l s m args meth c d E F 105) : BB p l e s m args below meth c d E F K0 105 79 rc_105_6 := by
  obtain ⟨hx, hb, hml, hown, hts, hr, hlocks, hnm, hKN, hb0, hF⟩ := C
  have hb : c.code = prog_10_method_31_code := hb
  have hown : s.vm.findClass "RudeCouponsModel" = some m.cls := hown
  have hr : meth.sig.returnType = some .int := hr
  refine bs_c (pc := 79) (s_iconst hx hb (z := -1) (by decide +kernel) (by decide +kernel)) ?_
  refine bs_c (pc := 80) (s_ireturn hx hb hr hlocks (pc' := 0) (by decide +kernel)) ?_
  exact bs_n
set_option maxRecDepth 20000 in
theorem b_106_0 (C : CX p l s m args meth c d E F 106) : BB p l e s m args below meth c d E F K0 106 0 rc_106_0 := by
  obtain ⟨hx, hb, hml, hown, hts, hr, hlocks, hnm, hKN, hb0, hF⟩ := C
  have hb : c.code = prog_10_method_32_code := hb
  have hown : s.vm.findClass "RudeCouponsModel" = some m.cls := hown
  have hr : meth.sig.returnType = some .int := hr
  refine bs_c (pc := 0) (s_iload_n hx hb (k := 1) (by decide +kernel) rfl) ?_
  refine bs_c (pc := 1) (s_iconst hx hb (z := 0) (by decide +kernel) (by decide +kernel)) ?_
  refine bs_c (pc := 2) (s_aload_n hx hb (k := 0) (by decide +kernel) rfl) ?_
  refine bs_c (pc := 3) (s_getf hx hb hts in_8 hown hKN.1 (ci := 8) rfl (k := 2) (by decide) (hts _ lf_8_131) (by decide +kernel)) ?_
  refine bs_c (pc := 6) (s_iconst hx hb (z := 1) (by decide +kernel) (by decide +kernel)) ?_
  refine bs_c (pc := 7) (s_isub hx hb (by decide +kernel)) ?_
  refine bs_c (pc := 8) (s_call rfl rfl (rk_S hx hb hml (index := 87) (y := 7) (n := 3) hown hts wc_7 lm_8_87 wk_7 wi_7 wp_7 (by decide +kernel) (by decide +kernel)) hKN hb0) ?_
  refine bs_c (pc := 11) (s_if_eq hx hb (by decide +kernel) hF) ?_
  refine bs_c (pc := 14) (s_iload_n hx hb (k := 2) (by decide +kernel) rfl) ?_
  refine bs_c (pc := 15) (s_iconst hx hb (z := 0) (by decide +kernel) (by decide +kernel)) ?_
  refine bs_c (pc := 16) (s_iconst hx hb (z := 2) (by decide +kernel) (by decide +kernel)) ?_
  refine bs_c (pc := 17) (s_call rfl rfl (rk_S hx hb hml (index := 87) (y := 7) (n := 3) hown hts wc_7 lm_8_87 wk_7 wi_7 wp_7 (by decide +kernel) (by decide +kernel)) hKN hb0) ?_
  refine bs_c (pc := 20) (s_if_eq hx hb (by decide +kernel) hF) ?_
  refine bs_c (pc := 23) (s_aload_n hx hb (k := 0) (by decide +kernel) rfl) ?_
  refine bs_c (pc := 24) (s_getf hx hb hts in_8 hown hKN.1 (ci := 8) rfl (k := 3) (by decide) (hts _ lf_8_13) (by decide +kernel)) ?_
  refine bs_c (pc := 27) (s_iconst hx hb (z := 3) (by decide +kernel) (by decide +kernel)) ?_
  refine bs_c (pc := 28) (s_iload_n hx hb (k := 1) (by decide +kernel) rfl) ?_
  refine bs_c (pc := 29) (s_imul hx hb (by decide +kernel) hF) ?_
  refine bs_c (pc := 30) (s_iload_n hx hb (k := 2) (by decide +kernel) rfl) ?_
  refine bs_c (pc := 31) (s_iadd hx hb (by decide +kernel)) ?_
  refine bs_c (pc := 32) (s_ald0 hx hb hKN.1 (by decide +kernel)) ?_
  refine bs_c (pc := 33) (s_goto hx hb (pc' := 0) (by decide +kernel)) ?_
  exact bs_n
set_option maxRecDepth 20000 in
theorem b_106_1 (C : CX p l s m args meth c d E F 106) : BB p l e s m args below meth c d E F K0 106 36 rc_106_1 := by
  obtain ⟨hx, hb, hml, hown, hts, hr, hlocks, hnm, hKN, hb0, hF⟩ := C
  have hb : c.code = prog_10_method_32_code := hb
  have hown : s.vm.findClass "RudeCouponsModel" = some m.cls := hown
  have hr : meth.sig.returnType = some .int := hr
  refine bs_c (pc := 36) (s_iconst hx hb (z := -1) (by decide +kernel) (by decide +kernel)) ?_
  refine bs_c (pc := 37) (s_fall (pc' := 0) (by decide +kernel)) ?_
  exact bs_n
set_option maxRecDepth 20000 in
theorem b_106_2 (C : CX p l s m args meth c d E F 106) : BB p l e s m args below meth c d E F K0 106 37 rc_106_2 := by
  obtain ⟨hx, hb, hml, hown, hts, hr, hlocks, hnm, hKN, hb0, hF⟩ := C
  have hb : c.code = prog_10_method_32_code := hb
  have hown : s.vm.findClass "RudeCouponsModel" = some m.cls := hown
  have hr : meth.sig.returnType = some .int := hr
  refine bs_c (pc := 37) (s_ireturn hx hb hr hlocks (pc' := 0) (by decide +kernel)) ?_
  exact bs_n
end MTH
