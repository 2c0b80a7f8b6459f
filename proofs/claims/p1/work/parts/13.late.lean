/-! METHODS, block by block, by program: every instruction as its handler says -/
section MTH
variable {p : Program} {l : Launch} {e : Env} {s : State} {m : MethodId} {args : Array Value} {below : List Frame} {meth : Method} {c : Code} {d : mD} {E : mE} {F : mF} {K0 : mK}
set_option maxRecDepth 20000 in
theorem b_32_0 (C : CX p l s m args meth c d E F 32) : BB p l e s m args below meth c d E F K0 32 0 rc_32_0 := by
  obtain ⟨hx, hb, hml, hown, hts, hr, hlocks, hnm, hKN, hb0, hF⟩ := C
  have hb : c.code = prog_4_method_1_code := hb
  have hown : s.vm.findClass "RudeCoupons$Plans" = some m.cls := hown
  have hr : meth.sig.returnType = none := hr
  have hnm : meth.name = "<init>" := hnm
  refine bs_c (pc := 0) (s_aload_n hx hb (k := 0) (by decide +kernel) rfl) ?_
  refine bs_c (pc := 1) (s_oinit hx hb hml hown (hts _ lo_2) (hts _ wo_1) (hts _ wo_2) (by decide +kernel) (by decide +kernel) (by decide +kernel)) ?_
  refine bs_c (pc := 4) (s_aload_n hx hb (k := 0) (by decide +kernel) rfl) ?_
  refine bs_c (pc := 5) (s_bipush hx hb (z := 6) (by decide +kernel) (by decide +kernel)) ?_
  refine bs_c (pc := 7) (s_bipush hx hb (z := 16) (by decide +kernel) (by decide +kernel)) ?_
  refine bs_c (pc := 9) (s_mna hx hb hown (hts _ lcA_9) (hts _ wa_0) hKN.2.2.2.2.1 hKN.1 hb0 (by decide +kernel)) ?_
  refine bs_c (pc := 13) (s_putRF hx hb hts in_2 hown hKN.1 (ci := 2) rfl (k := 0) (by decide) (hts _ lf_2_11) tyX2 tyX2_ok nmX2 (ty := .array (.array .int)) (tyX2_ok 0 (by decide)) (fun _ => ⟨rfl, rfl⟩) rfl hnm rfl (by decide +kernel)) ?_
  refine bs_c (pc := 16) (s_aload_n hx hb (k := 0) (by decide +kernel) rfl) ?_
  refine bs_c (pc := 17) (s_bipush hx hb (z := 6) (by decide +kernel) (by decide +kernel)) ?_
  refine bs_c (pc := 19) (s_bipush hx hb (z := 16) (by decide +kernel) (by decide +kernel)) ?_
  refine bs_c (pc := 21) (s_mna hx hb hown (hts _ lcA_9) (hts _ wa_0) hKN.2.2.2.2.1 hKN.1 hb0 (by decide +kernel)) ?_
  refine bs_c (pc := 25) (s_putRF hx hb hts in_2 hown hKN.1 (ci := 2) rfl (k := 1) (by decide) (hts _ lf_2_16) tyX2 tyX2_ok nmX2 (ty := .array (.array .int)) (tyX2_ok 1 (by decide)) (fun _ => ⟨rfl, rfl⟩) rfl hnm rfl (by decide +kernel)) ?_
  refine bs_c (pc := 28) (s_aload_n hx hb (k := 0) (by decide +kernel) rfl) ?_
  refine bs_c (pc := 29) (s_bipush hx hb (z := 7) (by decide +kernel) (by decide +kernel)) ?_
  refine bs_c (pc := 31) (s_bipush hx hb (z := 91) (by decide +kernel) (by decide +kernel)) ?_
  refine bs_c (pc := 33) (s_mna hx hb hown (hts _ lcA_9) (hts _ wa_0) hKN.2.2.2.2.1 hKN.1 hb0 (by decide +kernel)) ?_
  refine bs_c (pc := 37) (s_putRF hx hb hts in_2 hown hKN.1 (ci := 2) rfl (k := 2) (by decide) (hts _ lf_2_19) tyX2 tyX2_ok nmX2 (ty := .array (.array .int)) (tyX2_ok 2 (by decide)) (fun _ => ⟨rfl, rfl⟩) rfl hnm rfl (by decide +kernel)) ?_
  refine bs_c (pc := 40) (s_return hx hb hr hlocks (pc' := 0) (by decide +kernel)) ?_
  exact bs_n
set_option maxRecDepth 20000 in
theorem b_58_0 (C : CX p l s m args meth c d E F 58) : BB p l e s m args below meth c d E F K0 58 0 rc_58_0 := by
  obtain ⟨hx, hb, hml, hown, hts, hr, hlocks, hnm, hKN, hb0, hF⟩ := C
  have hb : c.code = prog_1_method_1_code := hb
  have hown : s.vm.findClass "RudeCoupons" = some m.cls := hown
  have hr : meth.sig.returnType = none := hr
  have hnm : meth.name = "<init>" := hnm
  refine bs_c (pc := 0) (s_aload_n hx hb (k := 0) (by decide +kernel) rfl) ?_
  refine bs_c (pc := 1) (s_oinit hx hb hml hown (hts _ lo_7) (hts _ wo_1) (hts _ wo_2) (by decide +kernel) (by decide +kernel) (by decide +kernel)) ?_
  refine bs_c (pc := 4) (s_aload_n hx hb (k := 0) (by decide +kernel) rfl) ?_
  refine bs_c (pc := 5) (s_new hx hb hts in_1 tyX1 tyX1_ok hown (hts _ lc_7_7) (hts _ wn_1) (hts _ wz_1) hKN.1 rfl hb0 rfl df_1 (by decide +kernel)) ?_
  refine bs_c (pc := 8) (s_dup hx hb (by decide +kernel)) ?_
  refine bs_c (pc := 9) (s_call rfl rfl (rk_IN hx hb hml (index := 9) (y := 28) (n := 0) hown hts wc_28 rfl rfl (hKN.2.1 _ ln_7_9) wk_28 wi_28 wp_28 (by decide +kernel) (by decide +kernel)) hKN hb0) ?_
  refine bs_c (pc := 12) (s_putRF hx hb hts in_7 hown hKN.1 (ci := 7) rfl (k := 0) (by decide) (hts _ lf_7_10) tyX7 tyX7_ok nmX7 (ty := .object "RudeCoupons$Letters") (tyX7_ok 0 (by decide)) (fun _ => ⟨rfl, rfl⟩) rfl hnm rfl (by decide +kernel)) ?_
  refine bs_c (pc := 15) (s_aload_n hx hb (k := 0) (by decide +kernel) rfl) ?_
  refine bs_c (pc := 16) (s_new hx hb hts in_3 tyX3 tyX3_ok hown (hts _ lc_7_16) (hts _ wn_3) (hts _ wz_3) hKN.1 rfl hb0 rfl df_3 (by decide +kernel)) ?_
  refine bs_c (pc := 19) (s_dup hx hb (by decide +kernel)) ?_
  refine bs_c (pc := 20) (s_call rfl rfl (rk_IN hx hb hml (index := 18) (y := 39) (n := 0) hown hts wc_39 rfl rfl (hKN.2.1 _ ln_7_18) wk_39 wi_39 wp_39 (by decide +kernel) (by decide +kernel)) hKN hb0) ?_
  refine bs_c (pc := 23) (s_putRF hx hb hts in_7 hown hKN.1 (ci := 7) rfl (k := 1) (by decide) (hts _ lf_7_19) tyX7 tyX7_ok nmX7 (ty := .object "RudeCoupons$Reader") (tyX7_ok 1 (by decide)) (fun _ => ⟨rfl, rfl⟩) rfl hnm rfl (by decide +kernel)) ?_
  refine bs_c (pc := 26) (s_aload_n hx hb (k := 0) (by decide +kernel) rfl) ?_
  refine bs_c (pc := 27) (s_new hx hb hts in_6 tyX6 tyX6_ok hown (hts _ lc_7_23) (hts _ wn_6) (hts _ wz_6) hKN.1 rfl hb0 rfl df_6 (by decide +kernel)) ?_
  refine bs_c (pc := 30) (s_dup hx hb (by decide +kernel)) ?_
  refine bs_c (pc := 31) (s_call rfl rfl (rk_IN hx hb hml (index := 25) (y := 52) (n := 0) hown hts wc_52 rfl rfl (hKN.2.1 _ ln_7_25) wk_52 wi_52 wp_52 (by decide +kernel) (by decide +kernel)) hKN hb0) ?_
  refine bs_c (pc := 34) (s_putRF hx hb hts in_7 hown hKN.1 (ci := 7) rfl (k := 2) (by decide) (hts _ lf_7_26) tyX7 tyX7_ok nmX7 (ty := .object "RudeCoupons$Standing") (tyX7_ok 2 (by decide)) (fun _ => ⟨rfl, rfl⟩) rfl hnm rfl (by decide +kernel)) ?_
  refine bs_c (pc := 37) (s_aload_n hx hb (k := 0) (by decide +kernel) rfl) ?_
  refine bs_c (pc := 38) (s_new hx hb hts in_4 tyX4 tyX4_ok hown (hts _ lc_7_30) (hts _ wn_4) (hts _ wz_4) hKN.1 rfl hb0 rfl df_4 (by decide +kernel)) ?_
  refine bs_c (pc := 41) (s_dup hx hb (by decide +kernel)) ?_
  refine bs_c (pc := 42) (s_bipush hx hb (z := 8) (by decide +kernel) (by decide +kernel)) ?_
  refine bs_c (pc := 44) (s_call rfl rfl (rk_I hx hb hml (index := 32) (y := 45) (n := 1) hown hts wc_45 rfl rfl lm_7_32 wk_45 wi_45 wp_45 (by decide +kernel) (by decide +kernel)) hKN hb0) ?_
  refine bs_c (pc := 47) (s_putRF hx hb hts in_7 hown hKN.1 (ci := 7) rfl (k := 3) (by decide) (hts _ lf_7_35) tyX7 tyX7_ok nmX7 (ty := .object "RudeCoupons$Shelf") (tyX7_ok 3 (by decide)) (fun _ => ⟨rfl, rfl⟩) rfl hnm rfl (by decide +kernel)) ?_
  refine bs_c (pc := 50) (s_aload_n hx hb (k := 0) (by decide +kernel) rfl) ?_
  refine bs_c (pc := 51) (s_new hx hb hts in_4 tyX4 tyX4_ok hown (hts _ lc_7_30) (hts _ wn_4) (hts _ wz_4) hKN.1 rfl hb0 rfl df_4 (by decide +kernel)) ?_
  refine bs_c (pc := 54) (s_dup hx hb (by decide +kernel)) ?_
  refine bs_c (pc := 55) (s_iconst hx hb (z := 2) (by decide +kernel) (by decide +kernel)) ?_
  refine bs_c (pc := 56) (s_call rfl rfl (rk_I hx hb hml (index := 32) (y := 139) (n := 1) hown hts wc_139 rfl rfl lm_7_32b wk_139 wi_139 wp_139 (by decide +kernel) (by decide +kernel)) hKN hb0) ?_
  refine bs_c (pc := 59) (s_putRF hx hb hts in_7 hown hKN.1 (ci := 7) rfl (k := 4) (by decide) (hts _ lf_7_39) tyX7 tyX7_ok nmX7 (ty := .object "RudeCoupons$Shelf") (tyX7_ok 4 (by decide)) (fun _ => ⟨rfl, rfl⟩) rfl hnm rfl (by decide +kernel)) ?_
  refine bs_c (pc := 62) (s_aload_n hx hb (k := 0) (by decide +kernel) rfl) ?_
  refine bs_c (pc := 63) (s_iconst hx hb (z := 2) (by decide +kernel) (by decide +kernel)) ?_
  refine bs_c (pc := 64) (s_newq hx hb hown (hts _ lc_7_7) hKN.2.2.2.1 (by decide) rfl hKN.1 hb0 (by decide +kernel)) ?_
  refine bs_c (pc := 67) (s_putRF hx hb hts in_7 hown hKN.1 (ci := 7) rfl (k := 5) (by decide) (hts _ lf_7_42) tyX7 tyX7_ok nmX7 (ty := .array (.object "RudeCoupons$Letters")) (tyX7_ok 5 (by decide)) (fun _ => ⟨rfl, rfl⟩) rfl hnm rfl (by decide +kernel)) ?_
  refine bs_c (pc := 70) (s_aload_n hx hb (k := 0) (by decide +kernel) rfl) ?_
  refine bs_c (pc := 71) (s_new hx hb hts in_5 tyX5 tyX5_ok hown (hts _ lc_7_46) (hts _ wn_5) (hts _ wz_5) hKN.1 rfl hb0 rfl df_5 (by decide +kernel)) ?_
  refine bs_c (pc := 74) (s_dup hx hb (by decide +kernel)) ?_
  refine bs_c (pc := 75) (s_call rfl rfl (rk_IN hx hb hml (index := 48) (y := 49) (n := 0) hown hts wc_49 rfl rfl (hKN.2.1 _ ln_7_48) wk_49 wi_49 wp_49 (by decide +kernel) (by decide +kernel)) hKN hb0) ?_
  refine bs_c (pc := 78) (s_putRF hx hb hts in_7 hown hKN.1 (ci := 7) rfl (k := 6) (by decide) (hts _ lf_7_49) tyX7 tyX7_ok nmX7 (ty := .object "RudeCoupons$Sightings") (tyX7_ok 6 (by decide)) (fun _ => ⟨rfl, rfl⟩) rfl hnm rfl (by decide +kernel)) ?_
  refine bs_c (pc := 81) (s_aload_n hx hb (k := 0) (by decide +kernel) rfl) ?_
  refine bs_c (pc := 82) (s_new hx hb hts in_2 tyX2 tyX2_ok hown (hts _ lc_7_53) (hts _ wn_2) (hts _ wz_2) hKN.1 rfl hb0 rfl df_2 (by decide +kernel)) ?_
  refine bs_c (pc := 85) (s_dup hx hb (by decide +kernel)) ?_
  refine bs_c (pc := 86) (s_call rfl rfl (rk_IN hx hb hml (index := 55) (y := 32) (n := 0) hown hts wc_32 rfl rfl (hKN.2.1 _ ln_7_55) wk_32 wi_32 wp_32 (by decide +kernel) (by decide +kernel)) hKN hb0) ?_
  refine bs_c (pc := 89) (s_putRF hx hb hts in_7 hown hKN.1 (ci := 7) rfl (k := 7) (by decide) (hts _ lf_7_56) tyX7 tyX7_ok nmX7 (ty := .object "RudeCoupons$Plans") (tyX7_ok 7 (by decide)) (fun _ => ⟨rfl, rfl⟩) rfl hnm rfl (by decide +kernel)) ?_
  refine bs_c (pc := 92) (s_aload_n hx hb (k := 0) (by decide +kernel) rfl) ?_
  refine bs_c (pc := 93) (s_bipush hx hb (z := 6) (by decide +kernel) (by decide +kernel)) ?_
  refine bs_c (pc := 95) (s_newa0 hx hb (hts _ wa_0) hKN.1 hb0 (by decide +kernel)) ?_
  refine bs_c (pc := 97) (s_putRF hx hb hts in_7 hown hKN.1 (ci := 7) rfl (k := 8) (by decide) (hts _ lf_7_60) tyX7 tyX7_ok nmX7 (ty := .array .int) (tyX7_ok 8 (by decide)) (fun _ => ⟨rfl, rfl⟩) rfl hnm rfl (by decide +kernel)) ?_
  refine bs_c (pc := 100) (s_aload_n hx hb (k := 0) (by decide +kernel) rfl) ?_
  refine bs_c (pc := 101) (s_new hx hb hts in_0 tyX0 tyX0_ok hown (hts _ lc_7_64) (hts _ wn_0) (hts _ wz_0) hKN.1 rfl hb0 rfl df_0 (by decide +kernel)) ?_
  refine bs_c (pc := 104) (s_dup hx hb (by decide +kernel)) ?_
  refine bs_c (pc := 105) (s_call rfl rfl (rk_IN hx hb hml (index := 66) (y := 17) (n := 0) hown hts wc_17 rfl rfl (hKN.2.1 _ ln_7_66) wk_17 wi_17 wp_17 (by decide +kernel) (by decide +kernel)) hKN hb0) ?_
  refine bs_c (pc := 108) (s_putR hx hb hts in_7 hown hKN.1 (ci := 7) rfl (k := 9) (by decide) (hts _ lf_7_67) tyX7 tyX7_ok nmX7 (ty := .object "RudeCoupons$Book") (tyX7_ok 9 (by decide)) (fun _ => ⟨rfl, rfl⟩) rfl (by decide +kernel)) ?_
  refine bs_c (pc := 111) (s_aload_n hx hb (k := 0) (by decide +kernel) rfl) ?_
  refine bs_c (pc := 112) (s_new hx hb hts in_0 tyX0 tyX0_ok hown (hts _ lc_7_64) (hts _ wn_0) (hts _ wz_0) hKN.1 rfl hb0 rfl df_0 (by decide +kernel)) ?_
  refine bs_c (pc := 115) (s_dup hx hb (by decide +kernel)) ?_
  refine bs_c (pc := 116) (s_call rfl rfl (rk_IN hx hb hml (index := 66) (y := 17) (n := 0) hown hts wc_17 rfl rfl (hKN.2.1 _ ln_7_66) wk_17 wi_17 wp_17 (by decide +kernel) (by decide +kernel)) hKN hb0) ?_
  refine bs_c (pc := 119) (s_putR hx hb hts in_7 hown hKN.1 (ci := 7) rfl (k := 10) (by decide) (hts _ lf_7_71) tyX7 tyX7_ok nmX7 (ty := .object "RudeCoupons$Book") (tyX7_ok 10 (by decide)) (fun _ => ⟨rfl, rfl⟩) rfl (by decide +kernel)) ?_
  refine bs_c (pc := 122) (s_iconst hx hb (z := 0) (by decide +kernel) (by decide +kernel)) ?_
  refine bs_c (pc := 123) (s_istore_n hx hb (k := 1) (by decide +kernel) rfl (by decide +kernel)) ?_
  refine bs_c (pc := 124) (s_fall (pc' := 0) (by decide +kernel)) ?_
  exact bs_n
set_option maxRecDepth 20000 in
theorem b_58_1 (C : CX p l s m args meth c d E F 58) : BB p l e s m args below meth c d E F K0 58 124 rc_58_1 := by
  obtain ⟨hx, hb, hml, hown, hts, hr, hlocks, hnm, hKN, hb0, hF⟩ := C
  have hb : c.code = prog_1_method_1_code := hb
  have hown : s.vm.findClass "RudeCoupons" = some m.cls := hown
  have hr : meth.sig.returnType = none := hr
  have hnm : meth.name = "<init>" := hnm
  refine bs_c (pc := 124) (s_iload_n hx hb (k := 1) (by decide +kernel) rfl) ?_
  refine bs_c (pc := 125) (s_aload_n hx hb (k := 0) (by decide +kernel) rfl) ?_
  refine bs_c (pc := 126) (s_getf hx hb hts in_7 hown hKN.1 (ci := 7) rfl (k := 5) (by decide) (hts _ lf_7_42) (by decide +kernel)) ?_
  refine bs_c (pc := 129) (s_alen hx hb hKN.1 (by decide +kernel)) ?_
  refine bs_c (pc := 130) (s_icmp_ge hx hb (by decide +kernel) hF) ?_
  refine bs_c (pc := 133) (s_aload_n hx hb (k := 0) (by decide +kernel) rfl) ?_
  refine bs_c (pc := 134) (s_getf hx hb hts in_7 hown hKN.1 (ci := 7) rfl (k := 5) (by decide) (hts _ lf_7_42) (by decide +kernel)) ?_
  refine bs_c (pc := 137) (s_iload_n hx hb (k := 1) (by decide +kernel) rfl) ?_
  refine bs_c (pc := 138) (s_new hx hb hts in_1 tyX1 tyX1_ok hown (hts _ lc_7_7) (hts _ wn_1) (hts _ wz_1) hKN.1 rfl hb0 rfl df_1 (by decide +kernel)) ?_
  refine bs_c (pc := 141) (s_dup hx hb (by decide +kernel)) ?_
  refine bs_c (pc := 142) (s_call rfl rfl (rk_IN hx hb hml (index := 9) (y := 28) (n := 0) hown hts wc_28 rfl rfl (hKN.2.1 _ ln_7_9) wk_28 wi_28 wp_28 (by decide +kernel) (by decide +kernel)) hKN hb0) ?_
  refine bs_c (pc := 145) (s_aast hx hb hKN.1 (by decide) rfl rfl (by decide +kernel)) ?_
  refine bs_c (pc := 146) (s_iinc hx hb (z := 1) (by decide +kernel) (by decide +kernel) (by decide +kernel)) ?_
  refine bs_c (pc := 149) (s_goto hx hb (pc' := 0) (by decide +kernel)) ?_
  exact bs_n
set_option maxRecDepth 20000 in
theorem b_58_2 (C : CX p l s m args meth c d E F 58) : BB p l e s m args below meth c d E F K0 58 152 rc_58_2 := by
  obtain ⟨hx, hb, hml, hown, hts, hr, hlocks, hnm, hKN, hb0, hF⟩ := C
  have hb : c.code = prog_1_method_1_code := hb
  have hown : s.vm.findClass "RudeCoupons" = some m.cls := hown
  have hr : meth.sig.returnType = none := hr
  have hnm : meth.name = "<init>" := hnm
  refine bs_c (pc := 152) (s_iconst hx hb (z := 0) (by decide +kernel) (by decide +kernel)) ?_
  refine bs_c (pc := 153) (s_istore_n hx hb (k := 1) (by decide +kernel) rfl (by decide +kernel)) ?_
  refine bs_c (pc := 154) (s_fall (pc' := 0) (by decide +kernel)) ?_
  exact bs_n
set_option maxRecDepth 20000 in
theorem b_58_3 (C : CX p l s m args meth c d E F 58) : BB p l e s m args below meth c d E F K0 58 154 rc_58_3 := by
  obtain ⟨hx, hb, hml, hown, hts, hr, hlocks, hnm, hKN, hb0, hF⟩ := C
  have hb : c.code = prog_1_method_1_code := hb
  have hown : s.vm.findClass "RudeCoupons" = some m.cls := hown
  have hr : meth.sig.returnType = none := hr
  have hnm : meth.name = "<init>" := hnm
  refine bs_c (pc := 154) (s_iload_n hx hb (k := 1) (by decide +kernel) rfl) ?_
  refine bs_c (pc := 155) (s_ldcS hx hb hown hKN (by decide +kernel)) ?_
  refine bs_c (pc := 157) (s_slen hx hb hml hown hts hKN (by decide +kernel) (by decide +kernel) (by decide +kernel)) ?_
  refine bs_c (pc := 160) (s_icmp_ge hx hb (by decide +kernel) hF) ?_
  refine bs_c (pc := 163) (s_aload_n hx hb (k := 0) (by decide +kernel) rfl) ?_
  refine bs_c (pc := 164) (s_getf hx hb hts in_7 hown hKN.1 (ci := 7) rfl (k := 0) (by decide) (hts _ lf_7_10) (by decide +kernel)) ?_
  refine bs_c (pc := 167) (s_ldcS hx hb hown hKN (by decide +kernel)) ?_
  refine bs_c (pc := 169) (s_iload_n hx hb (k := 1) (by decide +kernel) rfl) ?_
  refine bs_c (pc := 170) (s_char hx hb hml hown hts hKN (by decide +kernel) (by decide +kernel) (by decide +kernel)) ?_
  refine bs_c (pc := 173) (s_call rfl rfl (rk_V hx hb hml (index := 86) (y := 29) (n := 1) hown hts wc_29 (k := 1) rfl rfl lm_7_86 wk_29 wv_29 wi_29 wp_29 (by decide +kernel) (by decide +kernel)) hKN hb0) ?_
  refine bs_c (pc := 176) (s_pop hx hb (by decide +kernel)) ?_
  refine bs_c (pc := 177) (s_iinc hx hb (z := 1) (by decide +kernel) (by decide +kernel) (by decide +kernel)) ?_
  refine bs_c (pc := 180) (s_goto hx hb (pc' := 0) (by decide +kernel)) ?_
  exact bs_n
set_option maxRecDepth 20000 in
theorem b_58_4 (C : CX p l s m args meth c d E F 58) : BB p l e s m args below meth c d E F K0 58 183 rc_58_4 := by
  obtain ⟨hx, hb, hml, hown, hts, hr, hlocks, hnm, hKN, hb0, hF⟩ := C
  have hb : c.code = prog_1_method_1_code := hb
  have hown : s.vm.findClass "RudeCoupons" = some m.cls := hown
  have hr : meth.sig.returnType = none := hr
  have hnm : meth.name = "<init>" := hnm
  refine bs_c (pc := 183) (s_aload_n hx hb (k := 0) (by decide +kernel) rfl) ?_
  refine bs_c (pc := 184) (s_call rfl rfl (rk_V hx hb hml (index := 90) (y := 59) (n := 0) hown hts wc_59 (k := 7) rfl rfl lm_7_90 wk_59 wv_59 wi_59 wp_59 (by decide +kernel) (by decide +kernel)) hKN hb0) ?_
  refine bs_c (pc := 187) (s_pop hx hb (by decide +kernel)) ?_
  refine bs_c (pc := 188) (s_aload_n hx hb (k := 0) (by decide +kernel) rfl) ?_
  refine bs_c (pc := 189) (s_getf hx hb hts in_7 hown hKN.1 (ci := 7) rfl (k := 0) (by decide) (hts _ lf_7_10) (by decide +kernel)) ?_
  refine bs_c (pc := 192) (s_iconst hx hb (z := 0) (by decide +kernel) (by decide +kernel)) ?_
  refine bs_c (pc := 193) (s_putI hx hb hts in_1 hown hKN.1 (ci := 1) rfl (k := 1) (by decide) (hts _ lf_7_93) tyX1 tyX1_ok nmX1 (tyX1_ok 1 (by decide)) rfl (by decide +kernel)) ?_
  refine bs_c (pc := 196) (s_return hx hb hr hlocks (pc' := 0) (by decide +kernel)) ?_
  exact bs_n
end MTH
