/-! WORDS, by program: each link, each method's code, kind and selection among the words that stay -/
def BS (OK : Nat → mL → List mV → mH → Prop) (F : mF) (cO : mA → Prop) (kO : mK → Prop) (pcs : Nat → Nat) (pc : Nat) (cs : List mI) : Prop :=
  ∀ (call : mA) (j : Nat → mN) (K : mK) (L : mL) (S : List mV) (h : mH), cO call → (∀ b L S h, j b L S h = true → OK (pcs b) L S h) → kO K → bl cs F call j K L S h = true → OK pc L S h
theorem bs_c {OK : Nat → mL → List mV → mH → Prop} {F : mF} {cO : mA → Prop} {kO : mK → Prop} {pcs : Nat → Nat} {pc pc' : Nat} {i : mI} {cs : List mI} (h1 : HS OK F cO kO pcs pc i pc') (h2 : BS OK F cO kO pcs pc' cs) : BS OK F cO kO pcs pc (i :: cs) :=
  fun call j K L S h hc hj hk hi => h1 call j K (bl cs F call j K) L S h hc hj hk (fun L S h hi => h2 call j K L S h hc hj hk hi) hi
theorem bs_n {OK : Nat → mL → List mV → mH → Prop} {F : mF} {cO : mA → Prop} {kO : mK → Prop} {pcs : Nat → Nat} {pc : Nat} : BS OK F cO kO pcs pc [] := fun _ _ _ _ _ _ _ _ _ hi => by cases hi
/-- what holds in a method's body -/
def CX (p : Program) (l : Launch) (s : State) (m : MethodId) (args : Array Value) (meth : Method) (c : Code) (d : mD) (E : mE) (F : mF) (y : Nat) : Prop :=
  p.tables.exec = Jvm.exec ∧ c.code = gB y ∧ c.maxLocals = nl y ∧ s.vm.findClass (gY y).cls = some m.cls ∧ (∀ w ∈ lw_g, w.before args s = true) ∧ meth.sig.returnType = gT y ∧ meth.locks = false ∧ meth.name = (gY y).name ∧ KN d E s ∧ d.1 ≤ s.heap.size ∧ FOK d F
def BB (p : Program) (l : Launch) (e : Env) (s : State) (m : MethodId) (args : Array Value) (below : List Frame) (meth : Method) (c : Code) (d : mD) (E : mE) (F : mF) (K0 : mK) (y pc : Nat) (cs : List mI) : Prop :=
  BS (OKs p l e (gM y) s m args below meth c (MQ below (QcM d E K0 (gM y).cells) args s (gM y).cells (gM y).slots (fun q => d.1 ≤ q)) d E (nl y)) F (cOK l d E) (fun K => K = K0) (gP y) pc cs
theorem wg {w : Cond} (i : Nat) (h : lw_tbl[i]? = some w) (hg : goodWord w = true) : w ∈ lw_g := List.mem_filter.mpr ⟨List.mem_of_getElem? h, hg⟩
theorem in_0 : ∀ w ∈ u_ws RX0 TX0 13, w ∈ lw_g := by decide +kernel
theorem in_1 : ∀ w ∈ u_ws RX1 TX1 2, w ∈ lw_g := by decide +kernel
theorem in_2 : ∀ w ∈ u_ws RX2 TX2 3, w ∈ lw_g := by decide +kernel
theorem in_3 : ∀ w ∈ u_ws RX3 TX3 1, w ∈ lw_g := by decide +kernel
theorem in_4 : ∀ w ∈ u_ws RX4 TX4 2, w ∈ lw_g := by decide +kernel
theorem in_5 : ∀ w ∈ u_ws RX5 TX5 4, w ∈ lw_g := by decide +kernel
theorem in_6 : ∀ w ∈ u_ws RX6 TX6 6, w ∈ lw_g := by decide +kernel
theorem in_7 : ∀ w ∈ u_ws RX7 TX7 11, w ∈ lw_g := by decide +kernel
theorem in_8 : ∀ w ∈ u_ws RX8 TX8 28, w ∈ lw_g := by decide +kernel
theorem lf_1_9 : Cond.fieldLink "RudeCoupons$Letters" 9 (TX1 0).1 (TX1 0).2.1 (TX1 0).2.2.1 ∈ lw_g := wg 61 (by decide +kernel) rfl
theorem lf_7_93 : Cond.fieldLink "RudeCoupons" 93 (TX1 1).1 (TX1 1).2.1 (TX1 1).2.2.1 ∈ lw_g := wg 62 (by decide +kernel) rfl
theorem lf_1_15 : Cond.fieldLink "RudeCoupons$Letters" 15 (TX1 1).1 (TX1 1).2.1 (TX1 1).2.2.1 ∈ lw_g := wg 63 (by decide +kernel) rfl
theorem lf_3_20 : Cond.fieldLink "RudeCoupons$Reader" 20 (TX1 1).1 (TX1 1).2.1 (TX1 1).2.2.1 ∈ lw_g := wg 64 (by decide +kernel) rfl
theorem lf_3_9 : Cond.fieldLink "RudeCoupons$Reader" 9 (TX3 0).1 (TX3 0).2.1 (TX3 0).2.2.1 ∈ lw_g := wg 77 (by decide +kernel) rfl
theorem lf_6_24 : Cond.fieldLink "RudeCoupons$Standing" 24 (TX6 0).1 (TX6 0).2.1 (TX6 0).2.2.1 ∈ lw_g := wg 88 (by decide +kernel) rfl
theorem lf_7_168 : Cond.fieldLink "RudeCoupons" 168 (TX6 0).1 (TX6 0).2.1 (TX6 0).2.2.1 ∈ lw_g := wg 89 (by decide +kernel) rfl
theorem lf_6_28 : Cond.fieldLink "RudeCoupons$Standing" 28 (TX6 1).1 (TX6 1).2.1 (TX6 1).2.2.1 ∈ lw_g := wg 90 (by decide +kernel) rfl
theorem lf_7_155 : Cond.fieldLink "RudeCoupons" 155 (TX6 1).1 (TX6 1).2.1 (TX6 1).2.2.1 ∈ lw_g := wg 91 (by decide +kernel) rfl
theorem lf_6_9 : Cond.fieldLink "RudeCoupons$Standing" 9 (TX6 2).1 (TX6 2).2.1 (TX6 2).2.2.1 ∈ lw_g := wg 92 (by decide +kernel) rfl
theorem lf_7_111 : Cond.fieldLink "RudeCoupons" 111 (TX6 2).1 (TX6 2).2.1 (TX6 2).2.2.1 ∈ lw_g := wg 93 (by decide +kernel) rfl
theorem lf_6_15 : Cond.fieldLink "RudeCoupons$Standing" 15 (TX6 3).1 (TX6 3).2.1 (TX6 3).2.2.1 ∈ lw_g := wg 94 (by decide +kernel) rfl
theorem lf_7_117 : Cond.fieldLink "RudeCoupons" 117 (TX6 3).1 (TX6 3).2.1 (TX6 3).2.2.1 ∈ lw_g := wg 95 (by decide +kernel) rfl
theorem lf_6_18 : Cond.fieldLink "RudeCoupons$Standing" 18 (TX6 4).1 (TX6 4).2.1 (TX6 4).2.2.1 ∈ lw_g := wg 96 (by decide +kernel) rfl
theorem lf_7_161 : Cond.fieldLink "RudeCoupons" 161 (TX6 4).1 (TX6 4).2.1 (TX6 4).2.2.1 ∈ lw_g := wg 97 (by decide +kernel) rfl
theorem lf_6_21 : Cond.fieldLink "RudeCoupons$Standing" 21 (TX6 5).1 (TX6 5).2.1 (TX6 5).2.2.1 ∈ lw_g := wg 98 (by decide +kernel) rfl
theorem lf_7_170 : Cond.fieldLink "RudeCoupons" 170 (TX6 5).1 (TX6 5).2.1 (TX6 5).2.2.1 ∈ lw_g := wg 99 (by decide +kernel) rfl
theorem lf_4_15 : Cond.fieldLink "RudeCoupons$Shelf" 15 (TX4 0).1 (TX4 0).2.1 (TX4 0).2.2.1 ∈ lw_g := wg 125 (by decide +kernel) rfl
theorem lf_4_22 : Cond.fieldLink "RudeCoupons$Shelf" 22 (TX4 1).1 (TX4 1).2.1 (TX4 1).2.2.1 ∈ lw_g := wg 126 (by decide +kernel) rfl
theorem lf_7_180 : Cond.fieldLink "RudeCoupons" 180 (TX4 1).1 (TX4 1).2.1 (TX4 1).2.2.1 ∈ lw_g := wg 127 (by decide +kernel) rfl
theorem lf_5_9 : Cond.fieldLink "RudeCoupons$Sightings" 9 (TX5 0).1 (TX5 0).2.1 (TX5 0).2.2.1 ∈ lw_g := wg 140 (by decide +kernel) rfl
theorem lf_5_15 : Cond.fieldLink "RudeCoupons$Sightings" 15 (TX5 1).1 (TX5 1).2.1 (TX5 1).2.2.1 ∈ lw_g := wg 141 (by decide +kernel) rfl
theorem lf_5_18 : Cond.fieldLink "RudeCoupons$Sightings" 18 (TX5 2).1 (TX5 2).2.1 (TX5 2).2.2.1 ∈ lw_g := wg 142 (by decide +kernel) rfl
theorem lf_5_21 : Cond.fieldLink "RudeCoupons$Sightings" 21 (TX5 3).1 (TX5 3).2.1 (TX5 3).2.2.1 ∈ lw_g := wg 143 (by decide +kernel) rfl
theorem lf_7_219 : Cond.fieldLink "RudeCoupons" 219 (TX5 3).1 (TX5 3).2.1 (TX5 3).2.2.1 ∈ lw_g := wg 144 (by decide +kernel) rfl
theorem lf_2_11 : Cond.fieldLink "RudeCoupons$Plans" 11 (TX2 0).1 (TX2 0).2.1 (TX2 0).2.2.1 ∈ lw_g := wg 162 (by decide +kernel) rfl
theorem lf_7_187 : Cond.fieldLink "RudeCoupons" 187 (TX2 0).1 (TX2 0).2.1 (TX2 0).2.2.1 ∈ lw_g := wg 163 (by decide +kernel) rfl
theorem lf_2_16 : Cond.fieldLink "RudeCoupons$Plans" 16 (TX2 1).1 (TX2 1).2.1 (TX2 1).2.2.1 ∈ lw_g := wg 164 (by decide +kernel) rfl
theorem lf_7_190 : Cond.fieldLink "RudeCoupons" 190 (TX2 1).1 (TX2 1).2.1 (TX2 1).2.2.1 ∈ lw_g := wg 165 (by decide +kernel) rfl
theorem lf_2_19 : Cond.fieldLink "RudeCoupons$Plans" 19 (TX2 2).1 (TX2 2).2.1 (TX2 2).2.2.1 ∈ lw_g := wg 166 (by decide +kernel) rfl
theorem lf_7_208 : Cond.fieldLink "RudeCoupons" 208 (TX2 2).1 (TX2 2).2.1 (TX2 2).2.2.1 ∈ lw_g := wg 167 (by decide +kernel) rfl
theorem lf_0_42 : Cond.fieldLink "RudeCoupons$Book" 42 (TX0 0).1 (TX0 0).2.1 (TX0 0).2.2.1 ∈ lw_g := wg 181 (by decide +kernel) rfl
theorem lf_6_31 : Cond.fieldLink "RudeCoupons$Standing" 31 (TX0 0).1 (TX0 0).2.1 (TX0 0).2.2.1 ∈ lw_g := wg 182 (by decide +kernel) rfl
theorem lf_2_54 : Cond.fieldLink "RudeCoupons$Plans" 54 (TX0 0).1 (TX0 0).2.1 (TX0 0).2.2.1 ∈ lw_g := wg 183 (by decide +kernel) rfl
theorem lf_7_158 : Cond.fieldLink "RudeCoupons" 158 (TX0 0).1 (TX0 0).2.1 (TX0 0).2.2.1 ∈ lw_g := wg 184 (by decide +kernel) rfl
theorem lf_0_9 : Cond.fieldLink "RudeCoupons$Book" 9 (TX0 1).1 (TX0 1).2.1 (TX0 1).2.2.1 ∈ lw_g := wg 185 (by decide +kernel) rfl
theorem lf_7_108 : Cond.fieldLink "RudeCoupons" 108 (TX0 1).1 (TX0 1).2.1 (TX0 1).2.2.1 ∈ lw_g := wg 186 (by decide +kernel) rfl
theorem lf_0_15 : Cond.fieldLink "RudeCoupons$Book" 15 (TX0 2).1 (TX0 2).2.1 (TX0 2).2.2.1 ∈ lw_g := wg 187 (by decide +kernel) rfl
theorem lf_6_36 : Cond.fieldLink "RudeCoupons$Standing" 36 (TX0 2).1 (TX0 2).2.1 (TX0 2).2.2.1 ∈ lw_g := wg 188 (by decide +kernel) rfl
theorem lf_5_25 : Cond.fieldLink "RudeCoupons$Sightings" 25 (TX0 2).1 (TX0 2).2.1 (TX0 2).2.2.1 ∈ lw_g := wg 189 (by decide +kernel) rfl
theorem lf_0_18 : Cond.fieldLink "RudeCoupons$Book" 18 (TX0 3).1 (TX0 3).2.1 (TX0 3).2.2.1 ∈ lw_g := wg 190 (by decide +kernel) rfl
theorem lf_7_114 : Cond.fieldLink "RudeCoupons" 114 (TX0 3).1 (TX0 3).2.1 (TX0 3).2.2.1 ∈ lw_g := wg 191 (by decide +kernel) rfl
theorem lf_0_46 : Cond.fieldLink "RudeCoupons$Book" 46 (TX0 4).1 (TX0 4).2.1 (TX0 4).2.2.1 ∈ lw_g := wg 192 (by decide +kernel) rfl
theorem lf_7_264 : Cond.fieldLink "RudeCoupons" 264 (TX0 4).1 (TX0 4).2.1 (TX0 4).2.2.1 ∈ lw_g := wg 193 (by decide +kernel) rfl
theorem lf_0_21 : Cond.fieldLink "RudeCoupons$Book" 21 (TX0 5).1 (TX0 5).2.1 (TX0 5).2.2.1 ∈ lw_g := wg 194 (by decide +kernel) rfl
theorem lf_2_52 : Cond.fieldLink "RudeCoupons$Plans" 52 (TX0 5).1 (TX0 5).2.1 (TX0 5).2.2.1 ∈ lw_g := wg 195 (by decide +kernel) rfl
theorem lf_7_123 : Cond.fieldLink "RudeCoupons" 123 (TX0 5).1 (TX0 5).2.1 (TX0 5).2.2.1 ∈ lw_g := wg 196 (by decide +kernel) rfl
theorem lf_0_24 : Cond.fieldLink "RudeCoupons$Book" 24 (TX0 6).1 (TX0 6).2.1 (TX0 6).2.2.1 ∈ lw_g := wg 197 (by decide +kernel) rfl
theorem lf_7_126 : Cond.fieldLink "RudeCoupons" 126 (TX0 6).1 (TX0 6).2.1 (TX0 6).2.2.1 ∈ lw_g := wg 198 (by decide +kernel) rfl
theorem lf_0_27 : Cond.fieldLink "RudeCoupons$Book" 27 (TX0 7).1 (TX0 7).2.1 (TX0 7).2.2.1 ∈ lw_g := wg 199 (by decide +kernel) rfl
theorem lf_7_129 : Cond.fieldLink "RudeCoupons" 129 (TX0 7).1 (TX0 7).2.1 (TX0 7).2.2.1 ∈ lw_g := wg 200 (by decide +kernel) rfl
theorem lf_0_49 : Cond.fieldLink "RudeCoupons$Book" 49 (TX0 8).1 (TX0 8).2.1 (TX0 8).2.2.1 ∈ lw_g := wg 201 (by decide +kernel) rfl
theorem lf_2_22 : Cond.fieldLink "RudeCoupons$Plans" 22 (TX0 8).1 (TX0 8).2.1 (TX0 8).2.2.1 ∈ lw_g := wg 202 (by decide +kernel) rfl
theorem lf_7_239 : Cond.fieldLink "RudeCoupons" 239 (TX0 8).1 (TX0 8).2.1 (TX0 8).2.2.1 ∈ lw_g := wg 203 (by decide +kernel) rfl
theorem lf_0_30 : Cond.fieldLink "RudeCoupons$Book" 30 (TX0 9).1 (TX0 9).2.1 (TX0 9).2.2.1 ∈ lw_g := wg 204 (by decide +kernel) rfl
theorem lf_2_45 : Cond.fieldLink "RudeCoupons$Plans" 45 (TX0 9).1 (TX0 9).2.1 (TX0 9).2.2.1 ∈ lw_g := wg 205 (by decide +kernel) rfl
theorem lf_6_43 : Cond.fieldLink "RudeCoupons$Standing" 43 (TX0 9).1 (TX0 9).2.1 (TX0 9).2.2.1 ∈ lw_g := wg 206 (by decide +kernel) rfl
theorem lf_7_135 : Cond.fieldLink "RudeCoupons" 135 (TX0 9).1 (TX0 9).2.1 (TX0 9).2.2.1 ∈ lw_g := wg 207 (by decide +kernel) rfl
theorem lf_0_33 : Cond.fieldLink "RudeCoupons$Book" 33 (TX0 10).1 (TX0 10).2.1 (TX0 10).2.2.1 ∈ lw_g := wg 208 (by decide +kernel) rfl
theorem lf_2_28 : Cond.fieldLink "RudeCoupons$Plans" 28 (TX0 10).1 (TX0 10).2.1 (TX0 10).2.2.1 ∈ lw_g := wg 209 (by decide +kernel) rfl
theorem lf_7_138 : Cond.fieldLink "RudeCoupons" 138 (TX0 10).1 (TX0 10).2.1 (TX0 10).2.2.1 ∈ lw_g := wg 210 (by decide +kernel) rfl
theorem lf_0_36 : Cond.fieldLink "RudeCoupons$Book" 36 (TX0 11).1 (TX0 11).2.1 (TX0 11).2.2.1 ∈ lw_g := wg 211 (by decide +kernel) rfl
theorem lf_2_42 : Cond.fieldLink "RudeCoupons$Plans" 42 (TX0 11).1 (TX0 11).2.1 (TX0 11).2.2.1 ∈ lw_g := wg 212 (by decide +kernel) rfl
theorem lf_7_141 : Cond.fieldLink "RudeCoupons" 141 (TX0 11).1 (TX0 11).2.1 (TX0 11).2.2.1 ∈ lw_g := wg 213 (by decide +kernel) rfl
theorem lf_0_39 : Cond.fieldLink "RudeCoupons$Book" 39 (TX0 12).1 (TX0 12).2.1 (TX0 12).2.2.1 ∈ lw_g := wg 214 (by decide +kernel) rfl
theorem lf_7_242 : Cond.fieldLink "RudeCoupons" 242 (TX0 12).1 (TX0 12).2.1 (TX0 12).2.2.1 ∈ lw_g := wg 215 (by decide +kernel) rfl
theorem lf_7_10 : Cond.fieldLink "RudeCoupons" 10 (TX7 0).1 (TX7 0).2.1 (TX7 0).2.2.1 ∈ lw_g := wg 356 (by decide +kernel) rfl
theorem lf_7_19 : Cond.fieldLink "RudeCoupons" 19 (TX7 1).1 (TX7 1).2.1 (TX7 1).2.2.1 ∈ lw_g := wg 357 (by decide +kernel) rfl
theorem lf_7_26 : Cond.fieldLink "RudeCoupons" 26 (TX7 2).1 (TX7 2).2.1 (TX7 2).2.2.1 ∈ lw_g := wg 358 (by decide +kernel) rfl
theorem lf_7_35 : Cond.fieldLink "RudeCoupons" 35 (TX7 3).1 (TX7 3).2.1 (TX7 3).2.2.1 ∈ lw_g := wg 359 (by decide +kernel) rfl
theorem lf_7_39 : Cond.fieldLink "RudeCoupons" 39 (TX7 4).1 (TX7 4).2.1 (TX7 4).2.2.1 ∈ lw_g := wg 360 (by decide +kernel) rfl
theorem lf_7_42 : Cond.fieldLink "RudeCoupons" 42 (TX7 5).1 (TX7 5).2.1 (TX7 5).2.2.1 ∈ lw_g := wg 361 (by decide +kernel) rfl
theorem lf_7_49 : Cond.fieldLink "RudeCoupons" 49 (TX7 6).1 (TX7 6).2.1 (TX7 6).2.2.1 ∈ lw_g := wg 362 (by decide +kernel) rfl
theorem lf_7_56 : Cond.fieldLink "RudeCoupons" 56 (TX7 7).1 (TX7 7).2.1 (TX7 7).2.2.1 ∈ lw_g := wg 363 (by decide +kernel) rfl
theorem lf_7_60 : Cond.fieldLink "RudeCoupons" 60 (TX7 8).1 (TX7 8).2.1 (TX7 8).2.2.1 ∈ lw_g := wg 364 (by decide +kernel) rfl
theorem lf_7_67 : Cond.fieldLink "RudeCoupons" 67 (TX7 9).1 (TX7 9).2.1 (TX7 9).2.2.1 ∈ lw_g := wg 365 (by decide +kernel) rfl
theorem lf_7_71 : Cond.fieldLink "RudeCoupons" 71 (TX7 10).1 (TX7 10).2.1 (TX7 10).2.2.1 ∈ lw_g := wg 366 (by decide +kernel) rfl
theorem lf_8_84 : Cond.fieldLink "RudeCouponsModel" 84 (TX8 0).1 (TX8 0).2.1 (TX8 0).2.2.1 ∈ lw_g := wg 682 (by decide +kernel) rfl
theorem lf_8_7 : Cond.fieldLink "RudeCouponsModel" 7 (TX8 1).1 (TX8 1).2.1 (TX8 1).2.2.1 ∈ lw_g := wg 683 (by decide +kernel) rfl
theorem lf_8_131 : Cond.fieldLink "RudeCouponsModel" 131 (TX8 2).1 (TX8 2).2.1 (TX8 2).2.2.1 ∈ lw_g := wg 684 (by decide +kernel) rfl
theorem lf_8_13 : Cond.fieldLink "RudeCouponsModel" 13 (TX8 3).1 (TX8 3).2.1 (TX8 3).2.2.1 ∈ lw_g := wg 685 (by decide +kernel) rfl
theorem lf_8_91 : Cond.fieldLink "RudeCouponsModel" 91 (TX8 4).1 (TX8 4).2.1 (TX8 4).2.2.1 ∈ lw_g := wg 686 (by decide +kernel) rfl
theorem lf_8_16 : Cond.fieldLink "RudeCouponsModel" 16 (TX8 5).1 (TX8 5).2.1 (TX8 5).2.2.1 ∈ lw_g := wg 687 (by decide +kernel) rfl
theorem lf_8_19 : Cond.fieldLink "RudeCouponsModel" 19 (TX8 6).1 (TX8 6).2.1 (TX8 6).2.2.1 ∈ lw_g := wg 688 (by decide +kernel) rfl
theorem lf_8_22 : Cond.fieldLink "RudeCouponsModel" 22 (TX8 7).1 (TX8 7).2.1 (TX8 7).2.2.1 ∈ lw_g := wg 689 (by decide +kernel) rfl
theorem lf_8_138 : Cond.fieldLink "RudeCouponsModel" 138 (TX8 8).1 (TX8 8).2.1 (TX8 8).2.2.1 ∈ lw_g := wg 690 (by decide +kernel) rfl
theorem lf_8_25 : Cond.fieldLink "RudeCouponsModel" 25 (TX8 9).1 (TX8 9).2.1 (TX8 9).2.2.1 ∈ lw_g := wg 691 (by decide +kernel) rfl
theorem lf_8_141 : Cond.fieldLink "RudeCouponsModel" 141 (TX8 10).1 (TX8 10).2.1 (TX8 10).2.2.1 ∈ lw_g := wg 692 (by decide +kernel) rfl
theorem lf_8_28 : Cond.fieldLink "RudeCouponsModel" 28 (TX8 11).1 (TX8 11).2.1 (TX8 11).2.2.1 ∈ lw_g := wg 693 (by decide +kernel) rfl
theorem lf_8_144 : Cond.fieldLink "RudeCouponsModel" 144 (TX8 12).1 (TX8 12).2.1 (TX8 12).2.2.1 ∈ lw_g := wg 694 (by decide +kernel) rfl
theorem lf_8_31 : Cond.fieldLink "RudeCouponsModel" 31 (TX8 13).1 (TX8 13).2.1 (TX8 13).2.2.1 ∈ lw_g := wg 695 (by decide +kernel) rfl
theorem lf_8_34 : Cond.fieldLink "RudeCouponsModel" 34 (TX8 14).1 (TX8 14).2.1 (TX8 14).2.2.1 ∈ lw_g := wg 696 (by decide +kernel) rfl
theorem lf_8_94 : Cond.fieldLink "RudeCouponsModel" 94 (TX8 15).1 (TX8 15).2.1 (TX8 15).2.2.1 ∈ lw_g := wg 697 (by decide +kernel) rfl
theorem lf_8_97 : Cond.fieldLink "RudeCouponsModel" 97 (TX8 16).1 (TX8 16).2.1 (TX8 16).2.2.1 ∈ lw_g := wg 698 (by decide +kernel) rfl
theorem lf_8_37 : Cond.fieldLink "RudeCouponsModel" 37 (TX8 17).1 (TX8 17).2.1 (TX8 17).2.2.1 ∈ lw_g := wg 699 (by decide +kernel) rfl
theorem lf_8_74 : Cond.fieldLink "RudeCouponsModel" 74 (TX8 18).1 (TX8 18).2.1 (TX8 18).2.2.1 ∈ lw_g := wg 700 (by decide +kernel) rfl
theorem lf_8_40 : Cond.fieldLink "RudeCouponsModel" 40 (TX8 19).1 (TX8 19).2.1 (TX8 19).2.2.1 ∈ lw_g := wg 701 (by decide +kernel) rfl
theorem lf_8_78 : Cond.fieldLink "RudeCouponsModel" 78 (TX8 20).1 (TX8 20).2.1 (TX8 20).2.2.1 ∈ lw_g := wg 702 (by decide +kernel) rfl
theorem lf_8_43 : Cond.fieldLink "RudeCouponsModel" 43 (TX8 21).1 (TX8 21).2.1 (TX8 21).2.2.1 ∈ lw_g := wg 703 (by decide +kernel) rfl
theorem lf_8_81 : Cond.fieldLink "RudeCouponsModel" 81 (TX8 22).1 (TX8 22).2.1 (TX8 22).2.2.1 ∈ lw_g := wg 704 (by decide +kernel) rfl
theorem lf_8_46 : Cond.fieldLink "RudeCouponsModel" 46 (TX8 23).1 (TX8 23).2.1 (TX8 23).2.2.1 ∈ lw_g := wg 705 (by decide +kernel) rfl
theorem lf_8_186 : Cond.fieldLink "RudeCouponsModel" 186 (TX8 24).1 (TX8 24).2.1 (TX8 24).2.2.1 ∈ lw_g := wg 706 (by decide +kernel) rfl
theorem lf_8_49 : Cond.fieldLink "RudeCouponsModel" 49 (TX8 25).1 (TX8 25).2.1 (TX8 25).2.2.1 ∈ lw_g := wg 707 (by decide +kernel) rfl
theorem lf_8_52 : Cond.fieldLink "RudeCouponsModel" 52 (TX8 26).1 (TX8 26).2.1 (TX8 26).2.2.1 ∈ lw_g := wg 708 (by decide +kernel) rfl
theorem lf_8_55 : Cond.fieldLink "RudeCouponsModel" 55 (TX8 27).1 (TX8 27).2.1 (TX8 27).2.2.1 ∈ lw_g := wg 709 (by decide +kernel) rfl
theorem wc_0 : Cond.code (gY 0) (gB 0) (nl 0) (gT 0) ∈ lw_g := wg 844 (by decide +kernel) rfl
theorem wk_0 : Cond.static (gY 0) ∈ lw_g := wg 843 (by decide +kernel) rfl
theorem wi_0 : Cond.initialized (gY 0).cls ∈ lw_g := wg 45 (by decide +kernel) rfl
theorem wp_0 : (gY 0).cls ≠ "java/lang/invoke/MethodHandle" ∧ (gY 0).cls ≠ "java/lang/invoke/VarHandle" ∧ (parseMethodDescriptor (gY 0).desc).map (fun d => d.parameters.length) = some 2 := by decide +kernel
theorem wc_1 : Cond.code (gY 1) (gB 1) (nl 1) (gT 1) ∈ lw_g := wg 848 (by decide +kernel) rfl
theorem wk_1 : Cond.instanceMethod (gY 1) ∈ lw_g := wg 847 (by decide +kernel) rfl
theorem wi_1 : Cond.initialized (gY 1).cls ∈ lw_g := wg 45 (by decide +kernel) rfl
theorem wv_1 : Cond.selects "RudeCouponsModel" (gY 1) (gY 1) ∈ lw_g := wg 19 (by decide +kernel) rfl
theorem wp_1 : (gY 1).cls ≠ "java/lang/invoke/MethodHandle" ∧ (gY 1).cls ≠ "java/lang/invoke/VarHandle" ∧ (parseMethodDescriptor (gY 1).desc).map (fun d => d.parameters.length) = some 1 := by decide +kernel
theorem wc_2 : Cond.code (gY 2) (gB 2) (nl 2) (gT 2) ∈ lw_g := wg 856 (by decide +kernel) rfl
theorem wk_2 : Cond.instanceMethod (gY 2) ∈ lw_g := wg 855 (by decide +kernel) rfl
theorem wi_2 : Cond.initialized (gY 2).cls ∈ lw_g := wg 45 (by decide +kernel) rfl
theorem wv_2 : Cond.selects "RudeCouponsModel" (gY 2) (gY 2) ∈ lw_g := wg 21 (by decide +kernel) rfl
theorem wp_2 : (gY 2).cls ≠ "java/lang/invoke/MethodHandle" ∧ (gY 2).cls ≠ "java/lang/invoke/VarHandle" ∧ (parseMethodDescriptor (gY 2).desc).map (fun d => d.parameters.length) = some 4 := by decide +kernel
theorem wc_3 : Cond.code (gY 3) (gB 3) (nl 3) (gT 3) ∈ lw_g := wg 852 (by decide +kernel) rfl
theorem wk_3 : Cond.instanceMethod (gY 3) ∈ lw_g := wg 851 (by decide +kernel) rfl
theorem wi_3 : Cond.initialized (gY 3).cls ∈ lw_g := wg 45 (by decide +kernel) rfl
theorem wv_3 : Cond.selects "RudeCouponsModel" (gY 3) (gY 3) ∈ lw_g := wg 20 (by decide +kernel) rfl
theorem wp_3 : (gY 3).cls ≠ "java/lang/invoke/MethodHandle" ∧ (gY 3).cls ≠ "java/lang/invoke/VarHandle" ∧ (parseMethodDescriptor (gY 3).desc).map (fun d => d.parameters.length) = some 2 := by decide +kernel
theorem wc_4 : Cond.code (gY 4) (gB 4) (nl 4) (gT 4) ∈ lw_g := wg 868 (by decide +kernel) rfl
theorem wk_4 : Cond.instanceMethod (gY 4) ∈ lw_g := wg 867 (by decide +kernel) rfl
theorem wi_4 : Cond.initialized (gY 4).cls ∈ lw_g := wg 45 (by decide +kernel) rfl
theorem wv_4 : Cond.selects "RudeCouponsModel" (gY 4) (gY 4) ∈ lw_g := wg 23 (by decide +kernel) rfl
theorem wp_4 : (gY 4).cls ≠ "java/lang/invoke/MethodHandle" ∧ (gY 4).cls ≠ "java/lang/invoke/VarHandle" ∧ (parseMethodDescriptor (gY 4).desc).map (fun d => d.parameters.length) = some 1 := by decide +kernel
theorem wc_5 : Cond.code (gY 5) (gB 5) (nl 5) (gT 5) ∈ lw_g := wg 904 (by decide +kernel) rfl
theorem wk_5 : Cond.instanceMethod (gY 5) ∈ lw_g := wg 903 (by decide +kernel) rfl
theorem wi_5 : Cond.initialized (gY 5).cls ∈ lw_g := wg 45 (by decide +kernel) rfl
theorem wv_5 : Cond.selects "RudeCouponsModel" (gY 5) (gY 5) ∈ lw_g := wg 27 (by decide +kernel) rfl
theorem wp_5 : (gY 5).cls ≠ "java/lang/invoke/MethodHandle" ∧ (gY 5).cls ≠ "java/lang/invoke/VarHandle" ∧ (parseMethodDescriptor (gY 5).desc).map (fun d => d.parameters.length) = some 2 := by decide +kernel
theorem wc_6 : Cond.code (gY 6) (gB 6) (nl 6) (gT 6) ∈ lw_g := wg 900 (by decide +kernel) rfl
theorem wk_6 : Cond.instanceMethod (gY 6) ∈ lw_g := wg 899 (by decide +kernel) rfl
theorem wi_6 : Cond.initialized (gY 6).cls ∈ lw_g := wg 45 (by decide +kernel) rfl
theorem wv_6 : Cond.selects "RudeCouponsModel" (gY 6) (gY 6) ∈ lw_g := wg 26 (by decide +kernel) rfl
theorem wp_6 : (gY 6).cls ≠ "java/lang/invoke/MethodHandle" ∧ (gY 6).cls ≠ "java/lang/invoke/VarHandle" ∧ (parseMethodDescriptor (gY 6).desc).map (fun d => d.parameters.length) = some 2 := by decide +kernel
theorem wc_7 : Cond.code (gY 7) (gB 7) (nl 7) (gT 7) ∈ lw_g := wg 773 (by decide +kernel) rfl
theorem wk_7 : Cond.static (gY 7) ∈ lw_g := wg 772 (by decide +kernel) rfl
theorem wi_7 : Cond.initialized (gY 7).cls ∈ lw_g := wg 45 (by decide +kernel) rfl
theorem wp_7 : (gY 7).cls ≠ "java/lang/invoke/MethodHandle" ∧ (gY 7).cls ≠ "java/lang/invoke/VarHandle" ∧ (parseMethodDescriptor (gY 7).desc).map (fun d => d.parameters.length) = some 3 := by decide +kernel
theorem wc_8 : Cond.code (gY 8) (gB 8) (nl 8) (gT 8) ∈ lw_g := wg 872 (by decide +kernel) rfl
theorem wk_8 : Cond.instanceMethod (gY 8) ∈ lw_g := wg 871 (by decide +kernel) rfl
theorem wi_8 : Cond.initialized (gY 8).cls ∈ lw_g := wg 45 (by decide +kernel) rfl
theorem wv_8 : Cond.selects "RudeCouponsModel" (gY 8) (gY 8) ∈ lw_g := wg 24 (by decide +kernel) rfl
theorem wp_8 : (gY 8).cls ≠ "java/lang/invoke/MethodHandle" ∧ (gY 8).cls ≠ "java/lang/invoke/VarHandle" ∧ (parseMethodDescriptor (gY 8).desc).map (fun d => d.parameters.length) = some 2 := by decide +kernel
theorem wc_9 : Cond.code (gY 9) (gB 9) (nl 9) (gT 9) ∈ lw_g := wg 825 (by decide +kernel) rfl
theorem wk_9 : Cond.instanceMethod (gY 9) ∈ lw_g := wg 824 (by decide +kernel) rfl
theorem wi_9 : Cond.initialized (gY 9).cls ∈ lw_g := wg 45 (by decide +kernel) rfl
theorem wv_9 : Cond.selects "RudeCouponsModel" (gY 9) (gY 9) ∈ lw_g := wg 16 (by decide +kernel) rfl
theorem wp_9 : (gY 9).cls ≠ "java/lang/invoke/MethodHandle" ∧ (gY 9).cls ≠ "java/lang/invoke/VarHandle" ∧ (parseMethodDescriptor (gY 9).desc).map (fun d => d.parameters.length) = some 1 := by decide +kernel
theorem wc_10 : Cond.code (gY 10) (gB 10) (nl 10) (gT 10) ∈ lw_g := wg 437 (by decide +kernel) rfl
theorem wk_10 : Cond.instanceMethod (gY 10) ∈ lw_g := wg 435 (by decide +kernel) rfl
theorem wi_10 : Cond.initialized (gY 10).cls ∈ lw_g := wg 40 (by decide +kernel) rfl
theorem wv_10 : Cond.selects "RudeCoupons$Book" (gY 10) (gY 10) ∈ lw_g := wg 436 (by decide +kernel) rfl
theorem wp_10 : (gY 10).cls ≠ "java/lang/invoke/MethodHandle" ∧ (gY 10).cls ≠ "java/lang/invoke/VarHandle" ∧ (parseMethodDescriptor (gY 10).desc).map (fun d => d.parameters.length) = some 4 := by decide +kernel
theorem wc_11 : Cond.code (gY 11) (gB 11) (nl 11) (gT 11) ∈ lw_g := wg 505 (by decide +kernel) rfl
theorem wk_11 : Cond.instanceMethod (gY 11) ∈ lw_g := wg 503 (by decide +kernel) rfl
theorem wi_11 : Cond.initialized (gY 11).cls ∈ lw_g := wg 39 (by decide +kernel) rfl
theorem wv_11 : Cond.selects "RudeCoupons$Plans" (gY 11) (gY 11) ∈ lw_g := wg 504 (by decide +kernel) rfl
theorem wp_11 : (gY 11).cls ≠ "java/lang/invoke/MethodHandle" ∧ (gY 11).cls ≠ "java/lang/invoke/VarHandle" ∧ (parseMethodDescriptor (gY 11).desc).map (fun d => d.parameters.length) = some 3 := by decide +kernel
theorem wc_12 : Cond.code (gY 12) (gB 12) (nl 12) (gT 12) ∈ lw_g := wg 543 (by decide +kernel) rfl
theorem wk_12 : Cond.instanceMethod (gY 12) ∈ lw_g := wg 541 (by decide +kernel) rfl
theorem wi_12 : Cond.initialized (gY 12).cls ∈ lw_g := wg 39 (by decide +kernel) rfl
theorem wv_12 : Cond.selects "RudeCoupons$Plans" (gY 12) (gY 12) ∈ lw_g := wg 542 (by decide +kernel) rfl
theorem wp_12 : (gY 12).cls ≠ "java/lang/invoke/MethodHandle" ∧ (gY 12).cls ≠ "java/lang/invoke/VarHandle" ∧ (parseMethodDescriptor (gY 12).desc).map (fun d => d.parameters.length) = some 3 := by decide +kernel
theorem wc_13 : Cond.code (gY 13) (gB 13) (nl 13) (gT 13) ∈ lw_g := wg 539 (by decide +kernel) rfl
theorem wk_13 : Cond.instanceMethod (gY 13) ∈ lw_g := wg 537 (by decide +kernel) rfl
theorem wi_13 : Cond.initialized (gY 13).cls ∈ lw_g := wg 39 (by decide +kernel) rfl
theorem wv_13 : Cond.selects "RudeCoupons$Plans" (gY 13) (gY 13) ∈ lw_g := wg 538 (by decide +kernel) rfl
theorem wp_13 : (gY 13).cls ≠ "java/lang/invoke/MethodHandle" ∧ (gY 13).cls ≠ "java/lang/invoke/VarHandle" ∧ (parseMethodDescriptor (gY 13).desc).map (fun d => d.parameters.length) = some 2 := by decide +kernel
theorem wc_14 : Cond.code (gY 14) (gB 14) (nl 14) (gT 14) ∈ lw_g := wg 429 (by decide +kernel) rfl
theorem wk_14 : Cond.instanceMethod (gY 14) ∈ lw_g := wg 427 (by decide +kernel) rfl
theorem wi_14 : Cond.initialized (gY 14).cls ∈ lw_g := wg 35 (by decide +kernel) rfl
theorem wv_14 : Cond.selects "RudeCoupons$Standing" (gY 14) (gY 14) ∈ lw_g := wg 428 (by decide +kernel) rfl
theorem wp_14 : (gY 14).cls ≠ "java/lang/invoke/MethodHandle" ∧ (gY 14).cls ≠ "java/lang/invoke/VarHandle" ∧ (parseMethodDescriptor (gY 14).desc).map (fun d => d.parameters.length) = some 1 := by decide +kernel
theorem wc_15 : Cond.code (gY 15) (gB 15) (nl 15) (gT 15) ∈ lw_g := wg 500 (by decide +kernel) rfl
theorem wk_15 : Cond.instanceMethod (gY 15) ∈ lw_g := wg 498 (by decide +kernel) rfl
theorem wi_15 : Cond.initialized (gY 15).cls ∈ lw_g := wg 35 (by decide +kernel) rfl
theorem wv_15 : Cond.selects "RudeCoupons$Standing" (gY 15) (gY 15) ∈ lw_g := wg 499 (by decide +kernel) rfl
theorem wp_15 : (gY 15).cls ≠ "java/lang/invoke/MethodHandle" ∧ (gY 15).cls ≠ "java/lang/invoke/VarHandle" ∧ (parseMethodDescriptor (gY 15).desc).map (fun d => d.parameters.length) = some 2 := by decide +kernel
theorem wc_16 : Cond.code (gY 16) (gB 16) (nl 16) (gT 16) ∈ lw_g := wg 335 (by decide +kernel) rfl
theorem wk_16 : Cond.static (gY 16) ∈ lw_g := wg 334 (by decide +kernel) rfl
theorem wi_16 : Cond.initialized (gY 16).cls ∈ lw_g := wg 32 (by decide +kernel) rfl
theorem wp_16 : (gY 16).cls ≠ "java/lang/invoke/MethodHandle" ∧ (gY 16).cls ≠ "java/lang/invoke/VarHandle" ∧ (parseMethodDescriptor (gY 16).desc).map (fun d => d.parameters.length) = some 3 := by decide +kernel
theorem wc_17 : Cond.code (gY 17) (gB 17) (nl 17) (gT 17) ∈ lw_g := wg 179 (by decide +kernel) rfl
theorem wk_17 : Cond.instanceMethod (gY 17) ∈ lw_g := wg 178 (by decide +kernel) rfl
theorem wi_17 : Cond.initialized (gY 17).cls ∈ lw_g := wg 40 (by decide +kernel) rfl
theorem wp_17 : (gY 17).cls ≠ "java/lang/invoke/MethodHandle" ∧ (gY 17).cls ≠ "java/lang/invoke/VarHandle" ∧ (parseMethodDescriptor (gY 17).desc).map (fun d => d.parameters.length) = some 0 := by decide +kernel
theorem wc_18 : Cond.code (gY 18) (gB 18) (nl 18) (gT 18) ∈ lw_g := wg 307 (by decide +kernel) rfl
theorem wk_18 : Cond.instanceMethod (gY 18) ∈ lw_g := wg 305 (by decide +kernel) rfl
theorem wi_18 : Cond.initialized (gY 18).cls ∈ lw_g := wg 40 (by decide +kernel) rfl
theorem wv_18 : Cond.selects "RudeCoupons$Book" (gY 18) (gY 18) ∈ lw_g := wg 306 (by decide +kernel) rfl
theorem wp_18 : (gY 18).cls ≠ "java/lang/invoke/MethodHandle" ∧ (gY 18).cls ≠ "java/lang/invoke/VarHandle" ∧ (parseMethodDescriptor (gY 18).desc).map (fun d => d.parameters.length) = some 0 := by decide +kernel
theorem wc_19 : Cond.code (gY 19) (gB 19) (nl 19) (gT 19) ∈ lw_g := wg 328 (by decide +kernel) rfl
theorem wk_19 : Cond.instanceMethod (gY 19) ∈ lw_g := wg 326 (by decide +kernel) rfl
theorem wi_19 : Cond.initialized (gY 19).cls ∈ lw_g := wg 40 (by decide +kernel) rfl
theorem wv_19 : Cond.selects "RudeCoupons$Book" (gY 19) (gY 19) ∈ lw_g := wg 327 (by decide +kernel) rfl
theorem wp_19 : (gY 19).cls ≠ "java/lang/invoke/MethodHandle" ∧ (gY 19).cls ≠ "java/lang/invoke/VarHandle" ∧ (parseMethodDescriptor (gY 19).desc).map (fun d => d.parameters.length) = some 4 := by decide +kernel
theorem wc_20 : Cond.code (gY 20) (gB 20) (nl 20) (gT 20) ∈ lw_g := wg 332 (by decide +kernel) rfl
theorem wk_20 : Cond.instanceMethod (gY 20) ∈ lw_g := wg 330 (by decide +kernel) rfl
theorem wi_20 : Cond.initialized (gY 20).cls ∈ lw_g := wg 40 (by decide +kernel) rfl
theorem wv_20 : Cond.selects "RudeCoupons$Book" (gY 20) (gY 20) ∈ lw_g := wg 331 (by decide +kernel) rfl
theorem wp_20 : (gY 20).cls ≠ "java/lang/invoke/MethodHandle" ∧ (gY 20).cls ≠ "java/lang/invoke/VarHandle" ∧ (parseMethodDescriptor (gY 20).desc).map (fun d => d.parameters.length) = some 3 := by decide +kernel
theorem wc_21 : Cond.code (gY 21) (gB 21) (nl 21) (gT 21) ∈ lw_g := wg 339 (by decide +kernel) rfl
theorem wk_21 : Cond.instanceMethod (gY 21) ∈ lw_g := wg 337 (by decide +kernel) rfl
theorem wi_21 : Cond.initialized (gY 21).cls ∈ lw_g := wg 40 (by decide +kernel) rfl
theorem wv_21 : Cond.selects "RudeCoupons$Book" (gY 21) (gY 21) ∈ lw_g := wg 338 (by decide +kernel) rfl
theorem wp_21 : (gY 21).cls ≠ "java/lang/invoke/MethodHandle" ∧ (gY 21).cls ≠ "java/lang/invoke/VarHandle" ∧ (parseMethodDescriptor (gY 21).desc).map (fun d => d.parameters.length) = some 3 := by decide +kernel
theorem wc_22 : Cond.code (gY 22) (gB 22) (nl 22) (gT 22) ∈ lw_g := wg 343 (by decide +kernel) rfl
theorem wk_22 : Cond.instanceMethod (gY 22) ∈ lw_g := wg 341 (by decide +kernel) rfl
theorem wi_22 : Cond.initialized (gY 22).cls ∈ lw_g := wg 40 (by decide +kernel) rfl
theorem wv_22 : Cond.selects "RudeCoupons$Book" (gY 22) (gY 22) ∈ lw_g := wg 342 (by decide +kernel) rfl
theorem wp_22 : (gY 22).cls ≠ "java/lang/invoke/MethodHandle" ∧ (gY 22).cls ≠ "java/lang/invoke/VarHandle" ∧ (parseMethodDescriptor (gY 22).desc).map (fun d => d.parameters.length) = some 3 := by decide +kernel
theorem wc_23 : Cond.code (gY 23) (gB 23) (nl 23) (gT 23) ∈ lw_g := wg 347 (by decide +kernel) rfl
theorem wk_23 : Cond.instanceMethod (gY 23) ∈ lw_g := wg 345 (by decide +kernel) rfl
theorem wi_23 : Cond.initialized (gY 23).cls ∈ lw_g := wg 40 (by decide +kernel) rfl
theorem wv_23 : Cond.selects "RudeCoupons$Book" (gY 23) (gY 23) ∈ lw_g := wg 346 (by decide +kernel) rfl
theorem wp_23 : (gY 23).cls ≠ "java/lang/invoke/MethodHandle" ∧ (gY 23).cls ≠ "java/lang/invoke/VarHandle" ∧ (parseMethodDescriptor (gY 23).desc).map (fun d => d.parameters.length) = some 1 := by decide +kernel
theorem wc_24 : Cond.code (gY 24) (gB 24) (nl 24) (gT 24) ∈ lw_g := wg 351 (by decide +kernel) rfl
theorem wk_24 : Cond.instanceMethod (gY 24) ∈ lw_g := wg 349 (by decide +kernel) rfl
theorem wi_24 : Cond.initialized (gY 24).cls ∈ lw_g := wg 40 (by decide +kernel) rfl
theorem wv_24 : Cond.selects "RudeCoupons$Book" (gY 24) (gY 24) ∈ lw_g := wg 350 (by decide +kernel) rfl
theorem wp_24 : (gY 24).cls ≠ "java/lang/invoke/MethodHandle" ∧ (gY 24).cls ≠ "java/lang/invoke/VarHandle" ∧ (parseMethodDescriptor (gY 24).desc).map (fun d => d.parameters.length) = some 1 := by decide +kernel
theorem wc_25 : Cond.code (gY 25) (gB 25) (nl 25) (gT 25) ∈ lw_g := wg 425 (by decide +kernel) rfl
theorem wk_25 : Cond.instanceMethod (gY 25) ∈ lw_g := wg 423 (by decide +kernel) rfl
theorem wi_25 : Cond.initialized (gY 25).cls ∈ lw_g := wg 40 (by decide +kernel) rfl
theorem wv_25 : Cond.selects "RudeCoupons$Book" (gY 25) (gY 25) ∈ lw_g := wg 424 (by decide +kernel) rfl
theorem wp_25 : (gY 25).cls ≠ "java/lang/invoke/MethodHandle" ∧ (gY 25).cls ≠ "java/lang/invoke/VarHandle" ∧ (parseMethodDescriptor (gY 25).desc).map (fun d => d.parameters.length) = some 1 := by decide +kernel
theorem wc_26 : Cond.code (gY 26) (gB 26) (nl 26) (gT 26) ∈ lw_g := wg 460 (by decide +kernel) rfl
theorem wk_26 : Cond.instanceMethod (gY 26) ∈ lw_g := wg 458 (by decide +kernel) rfl
theorem wi_26 : Cond.initialized (gY 26).cls ∈ lw_g := wg 40 (by decide +kernel) rfl
theorem wv_26 : Cond.selects "RudeCoupons$Book" (gY 26) (gY 26) ∈ lw_g := wg 459 (by decide +kernel) rfl
theorem wp_26 : (gY 26).cls ≠ "java/lang/invoke/MethodHandle" ∧ (gY 26).cls ≠ "java/lang/invoke/VarHandle" ∧ (parseMethodDescriptor (gY 26).desc).map (fun d => d.parameters.length) = some 3 := by decide +kernel
theorem wc_27 : Cond.code (gY 27) (gB 27) (nl 27) (gT 27) ∈ lw_g := wg 567 (by decide +kernel) rfl
theorem wk_27 : Cond.instanceMethod (gY 27) ∈ lw_g := wg 565 (by decide +kernel) rfl
theorem wi_27 : Cond.initialized (gY 27).cls ∈ lw_g := wg 40 (by decide +kernel) rfl
theorem wv_27 : Cond.selects "RudeCoupons$Book" (gY 27) (gY 27) ∈ lw_g := wg 566 (by decide +kernel) rfl
theorem wp_27 : (gY 27).cls ≠ "java/lang/invoke/MethodHandle" ∧ (gY 27).cls ≠ "java/lang/invoke/VarHandle" ∧ (parseMethodDescriptor (gY 27).desc).map (fun d => d.parameters.length) = some 2 := by decide +kernel
theorem wc_28 : Cond.code (gY 28) (gB 28) (nl 28) (gT 28) ∈ lw_g := wg 59 (by decide +kernel) rfl
theorem wk_28 : Cond.instanceMethod (gY 28) ∈ lw_g := wg 58 (by decide +kernel) rfl
theorem wi_28 : Cond.initialized (gY 28).cls ∈ lw_g := wg 33 (by decide +kernel) rfl
theorem wp_28 : (gY 28).cls ≠ "java/lang/invoke/MethodHandle" ∧ (gY 28).cls ≠ "java/lang/invoke/VarHandle" ∧ (parseMethodDescriptor (gY 28).desc).map (fun d => d.parameters.length) = some 0 := by decide +kernel
theorem wc_29 : Cond.code (gY 29) (gB 29) (nl 29) (gT 29) ∈ lw_g := wg 295 (by decide +kernel) rfl
theorem wk_29 : Cond.instanceMethod (gY 29) ∈ lw_g := wg 293 (by decide +kernel) rfl
theorem wi_29 : Cond.initialized (gY 29).cls ∈ lw_g := wg 33 (by decide +kernel) rfl
theorem wv_29 : Cond.selects "RudeCoupons$Letters" (gY 29) (gY 29) ∈ lw_g := wg 294 (by decide +kernel) rfl
theorem wp_29 : (gY 29).cls ≠ "java/lang/invoke/MethodHandle" ∧ (gY 29).cls ≠ "java/lang/invoke/VarHandle" ∧ (parseMethodDescriptor (gY 29).desc).map (fun d => d.parameters.length) = some 1 := by decide +kernel
theorem wc_30 : Cond.code (gY 30) (gB 30) (nl 30) (gT 30) ∈ lw_g := wg 318 (by decide +kernel) rfl
theorem wk_30 : Cond.instanceMethod (gY 30) ∈ lw_g := wg 316 (by decide +kernel) rfl
theorem wi_30 : Cond.initialized (gY 30).cls ∈ lw_g := wg 33 (by decide +kernel) rfl
theorem wv_30 : Cond.selects "RudeCoupons$Letters" (gY 30) (gY 30) ∈ lw_g := wg 317 (by decide +kernel) rfl
theorem wp_30 : (gY 30).cls ≠ "java/lang/invoke/MethodHandle" ∧ (gY 30).cls ≠ "java/lang/invoke/VarHandle" ∧ (parseMethodDescriptor (gY 30).desc).map (fun d => d.parameters.length) = some 1 := by decide +kernel
theorem wc_31 : Cond.code (gY 31) (gB 31) (nl 31) (gT 31) ∈ lw_g := wg 638 (by decide +kernel) rfl
theorem wk_31 : Cond.instanceMethod (gY 31) ∈ lw_g := wg 636 (by decide +kernel) rfl
theorem wi_31 : Cond.initialized (gY 31).cls ∈ lw_g := wg 33 (by decide +kernel) rfl
theorem wv_31 : Cond.selects "RudeCoupons$Letters" (gY 31) (gY 31) ∈ lw_g := wg 637 (by decide +kernel) rfl
theorem wp_31 : (gY 31).cls ≠ "java/lang/invoke/MethodHandle" ∧ (gY 31).cls ≠ "java/lang/invoke/VarHandle" ∧ (parseMethodDescriptor (gY 31).desc).map (fun d => d.parameters.length) = some 1 := by decide +kernel
theorem wc_32 : Cond.code (gY 32) (gB 32) (nl 32) (gT 32) ∈ lw_g := wg 158 (by decide +kernel) rfl
theorem wk_32 : Cond.instanceMethod (gY 32) ∈ lw_g := wg 157 (by decide +kernel) rfl
theorem wi_32 : Cond.initialized (gY 32).cls ∈ lw_g := wg 39 (by decide +kernel) rfl
theorem wp_32 : (gY 32).cls ≠ "java/lang/invoke/MethodHandle" ∧ (gY 32).cls ≠ "java/lang/invoke/VarHandle" ∧ (parseMethodDescriptor (gY 32).desc).map (fun d => d.parameters.length) = some 0 := by decide +kernel
theorem wc_33 : Cond.code (gY 33) (gB 33) (nl 33) (gT 33) ∈ lw_g := wg 496 (by decide +kernel) rfl
theorem wk_33 : Cond.instanceMethod (gY 33) ∈ lw_g := wg 494 (by decide +kernel) rfl
theorem wi_33 : Cond.initialized (gY 33).cls ∈ lw_g := wg 39 (by decide +kernel) rfl
theorem wv_33 : Cond.selects "RudeCoupons$Plans" (gY 33) (gY 33) ∈ lw_g := wg 495 (by decide +kernel) rfl
theorem wp_33 : (gY 33).cls ≠ "java/lang/invoke/MethodHandle" ∧ (gY 33).cls ≠ "java/lang/invoke/VarHandle" ∧ (parseMethodDescriptor (gY 33).desc).map (fun d => d.parameters.length) = some 3 := by decide +kernel
theorem wc_34 : Cond.code (gY 34) (gB 34) (nl 34) (gT 34) ∈ lw_g := wg 514 (by decide +kernel) rfl
theorem wk_34 : Cond.instanceMethod (gY 34) ∈ lw_g := wg 512 (by decide +kernel) rfl
theorem wi_34 : Cond.initialized (gY 34).cls ∈ lw_g := wg 39 (by decide +kernel) rfl
theorem wv_34 : Cond.selects "RudeCoupons$Plans" (gY 34) (gY 34) ∈ lw_g := wg 513 (by decide +kernel) rfl
theorem wp_34 : (gY 34).cls ≠ "java/lang/invoke/MethodHandle" ∧ (gY 34).cls ≠ "java/lang/invoke/VarHandle" ∧ (parseMethodDescriptor (gY 34).desc).map (fun d => d.parameters.length) = some 2 := by decide +kernel
theorem wc_35 : Cond.code (gY 35) (gB 35) (nl 35) (gT 35) ∈ lw_g := wg 522 (by decide +kernel) rfl
theorem wk_35 : Cond.instanceMethod (gY 35) ∈ lw_g := wg 520 (by decide +kernel) rfl
theorem wi_35 : Cond.initialized (gY 35).cls ∈ lw_g := wg 39 (by decide +kernel) rfl
theorem wv_35 : Cond.selects "RudeCoupons$Plans" (gY 35) (gY 35) ∈ lw_g := wg 521 (by decide +kernel) rfl
theorem wp_35 : (gY 35).cls ≠ "java/lang/invoke/MethodHandle" ∧ (gY 35).cls ≠ "java/lang/invoke/VarHandle" ∧ (parseMethodDescriptor (gY 35).desc).map (fun d => d.parameters.length) = some 2 := by decide +kernel
theorem wc_36 : Cond.code (gY 36) (gB 36) (nl 36) (gT 36) ∈ lw_g := wg 535 (by decide +kernel) rfl
theorem wk_36 : Cond.instanceMethod (gY 36) ∈ lw_g := wg 533 (by decide +kernel) rfl
theorem wi_36 : Cond.initialized (gY 36).cls ∈ lw_g := wg 39 (by decide +kernel) rfl
theorem wv_36 : Cond.selects "RudeCoupons$Plans" (gY 36) (gY 36) ∈ lw_g := wg 534 (by decide +kernel) rfl
theorem wp_36 : (gY 36).cls ≠ "java/lang/invoke/MethodHandle" ∧ (gY 36).cls ≠ "java/lang/invoke/VarHandle" ∧ (parseMethodDescriptor (gY 36).desc).map (fun d => d.parameters.length) = some 2 := by decide +kernel
theorem wc_37 : Cond.code (gY 37) (gB 37) (nl 37) (gT 37) ∈ lw_g := wg 548 (by decide +kernel) rfl
theorem wk_37 : Cond.instanceMethod (gY 37) ∈ lw_g := wg 546 (by decide +kernel) rfl
theorem wi_37 : Cond.initialized (gY 37).cls ∈ lw_g := wg 39 (by decide +kernel) rfl
theorem wv_37 : Cond.selects "RudeCoupons$Plans" (gY 37) (gY 37) ∈ lw_g := wg 547 (by decide +kernel) rfl
theorem wp_37 : (gY 37).cls ≠ "java/lang/invoke/MethodHandle" ∧ (gY 37).cls ≠ "java/lang/invoke/VarHandle" ∧ (parseMethodDescriptor (gY 37).desc).map (fun d => d.parameters.length) = some 2 := by decide +kernel
theorem wc_38 : Cond.code (gY 38) (gB 38) (nl 38) (gT 38) ∈ lw_g := wg 552 (by decide +kernel) rfl
theorem wk_38 : Cond.instanceMethod (gY 38) ∈ lw_g := wg 550 (by decide +kernel) rfl
theorem wi_38 : Cond.initialized (gY 38).cls ∈ lw_g := wg 39 (by decide +kernel) rfl
theorem wv_38 : Cond.selects "RudeCoupons$Plans" (gY 38) (gY 38) ∈ lw_g := wg 551 (by decide +kernel) rfl
theorem wp_38 : (gY 38).cls ≠ "java/lang/invoke/MethodHandle" ∧ (gY 38).cls ≠ "java/lang/invoke/VarHandle" ∧ (parseMethodDescriptor (gY 38).desc).map (fun d => d.parameters.length) = some 2 := by decide +kernel
theorem wc_39 : Cond.code (gY 39) (gB 39) (nl 39) (gT 39) ∈ lw_g := wg 75 (by decide +kernel) rfl
theorem wk_39 : Cond.instanceMethod (gY 39) ∈ lw_g := wg 74 (by decide +kernel) rfl
theorem wi_39 : Cond.initialized (gY 39).cls ∈ lw_g := wg 34 (by decide +kernel) rfl
theorem wp_39 : (gY 39).cls ≠ "java/lang/invoke/MethodHandle" ∧ (gY 39).cls ≠ "java/lang/invoke/VarHandle" ∧ (parseMethodDescriptor (gY 39).desc).map (fun d => d.parameters.length) = some 0 := by decide +kernel
theorem wc_40 : Cond.code (gY 40) (gB 40) (nl 40) (gT 40) ∈ lw_g := wg 303 (by decide +kernel) rfl
theorem wk_40 : Cond.instanceMethod (gY 40) ∈ lw_g := wg 301 (by decide +kernel) rfl
theorem wi_40 : Cond.initialized (gY 40).cls ∈ lw_g := wg 34 (by decide +kernel) rfl
theorem wv_40 : Cond.selects "RudeCoupons$Reader" (gY 40) (gY 40) ∈ lw_g := wg 302 (by decide +kernel) rfl
theorem wp_40 : (gY 40).cls ≠ "java/lang/invoke/MethodHandle" ∧ (gY 40).cls ≠ "java/lang/invoke/VarHandle" ∧ (parseMethodDescriptor (gY 40).desc).map (fun d => d.parameters.length) = some 2 := by decide +kernel
theorem wc_41 : Cond.code (gY 41) (gB 41) (nl 41) (gT 41) ∈ lw_g := wg 311 (by decide +kernel) rfl
theorem wk_41 : Cond.instanceMethod (gY 41) ∈ lw_g := wg 309 (by decide +kernel) rfl
theorem wi_41 : Cond.initialized (gY 41).cls ∈ lw_g := wg 34 (by decide +kernel) rfl
theorem wv_41 : Cond.selects "RudeCoupons$Reader" (gY 41) (gY 41) ∈ lw_g := wg 310 (by decide +kernel) rfl
theorem wp_41 : (gY 41).cls ≠ "java/lang/invoke/MethodHandle" ∧ (gY 41).cls ≠ "java/lang/invoke/VarHandle" ∧ (parseMethodDescriptor (gY 41).desc).map (fun d => d.parameters.length) = some 3 := by decide +kernel
theorem wc_42 : Cond.code (gY 42) (gB 42) (nl 42) (gT 42) ∈ lw_g := wg 314 (by decide +kernel) rfl
theorem wk_42 : Cond.static (gY 42) ∈ lw_g := wg 313 (by decide +kernel) rfl
theorem wi_42 : Cond.initialized (gY 42).cls ∈ lw_g := wg 34 (by decide +kernel) rfl
theorem wp_42 : (gY 42).cls ≠ "java/lang/invoke/MethodHandle" ∧ (gY 42).cls ≠ "java/lang/invoke/VarHandle" ∧ (parseMethodDescriptor (gY 42).desc).map (fun d => d.parameters.length) = some 2 := by decide +kernel
theorem wc_43 : Cond.code (gY 43) (gB 43) (nl 43) (gT 43) ∈ lw_g := wg 321 (by decide +kernel) rfl
theorem wk_43 : Cond.static (gY 43) ∈ lw_g := wg 320 (by decide +kernel) rfl
theorem wi_43 : Cond.initialized (gY 43).cls ∈ lw_g := wg 34 (by decide +kernel) rfl
theorem wp_43 : (gY 43).cls ≠ "java/lang/invoke/MethodHandle" ∧ (gY 43).cls ≠ "java/lang/invoke/VarHandle" ∧ (parseMethodDescriptor (gY 43).desc).map (fun d => d.parameters.length) = some 1 := by decide +kernel
theorem wc_44 : Cond.code (gY 44) (gB 44) (nl 44) (gT 44) ∈ lw_g := wg 324 (by decide +kernel) rfl
theorem wk_44 : Cond.static (gY 44) ∈ lw_g := wg 323 (by decide +kernel) rfl
theorem wi_44 : Cond.initialized (gY 44).cls ∈ lw_g := wg 34 (by decide +kernel) rfl
theorem wp_44 : (gY 44).cls ≠ "java/lang/invoke/MethodHandle" ∧ (gY 44).cls ≠ "java/lang/invoke/VarHandle" ∧ (parseMethodDescriptor (gY 44).desc).map (fun d => d.parameters.length) = some 3 := by decide +kernel
theorem wc_45 : Cond.code (gY 45) (gB 45) (nl 45) (gT 45) ∈ lw_g := wg 117 (by decide +kernel) rfl
theorem wk_45 : Cond.instanceMethod (gY 45) ∈ lw_g := wg 116 (by decide +kernel) rfl
theorem wi_45 : Cond.initialized (gY 45).cls ∈ lw_g := wg 36 (by decide +kernel) rfl
theorem wp_45 : (gY 45).cls ≠ "java/lang/invoke/MethodHandle" ∧ (gY 45).cls ≠ "java/lang/invoke/VarHandle" ∧ (parseMethodDescriptor (gY 45).desc).map (fun d => d.parameters.length) = some 1 := by decide +kernel
theorem wc_46 : Cond.code (gY 46) (gB 46) (nl 46) (gT 46) ∈ lw_g := wg 445 (by decide +kernel) rfl
theorem wk_46 : Cond.instanceMethod (gY 46) ∈ lw_g := wg 443 (by decide +kernel) rfl
theorem wi_46 : Cond.initialized (gY 46).cls ∈ lw_g := wg 36 (by decide +kernel) rfl
theorem wv_46 : Cond.selects "RudeCoupons$Shelf" (gY 46) (gY 46) ∈ lw_g := wg 444 (by decide +kernel) rfl
theorem wp_46 : (gY 46).cls ≠ "java/lang/invoke/MethodHandle" ∧ (gY 46).cls ≠ "java/lang/invoke/VarHandle" ∧ (parseMethodDescriptor (gY 46).desc).map (fun d => d.parameters.length) = some 1 := by decide +kernel
theorem wc_47 : Cond.code (gY 47) (gB 47) (nl 47) (gT 47) ∈ lw_g := wg 449 (by decide +kernel) rfl
theorem wk_47 : Cond.instanceMethod (gY 47) ∈ lw_g := wg 447 (by decide +kernel) rfl
theorem wi_47 : Cond.initialized (gY 47).cls ∈ lw_g := wg 36 (by decide +kernel) rfl
theorem wv_47 : Cond.selects "RudeCoupons$Shelf" (gY 47) (gY 47) ∈ lw_g := wg 448 (by decide +kernel) rfl
theorem wp_47 : (gY 47).cls ≠ "java/lang/invoke/MethodHandle" ∧ (gY 47).cls ≠ "java/lang/invoke/VarHandle" ∧ (parseMethodDescriptor (gY 47).desc).map (fun d => d.parameters.length) = some 0 := by decide +kernel
theorem wc_48 : Cond.code (gY 48) (gB 48) (nl 48) (gT 48) ∈ lw_g := wg 488 (by decide +kernel) rfl
theorem wk_48 : Cond.instanceMethod (gY 48) ∈ lw_g := wg 486 (by decide +kernel) rfl
theorem wi_48 : Cond.initialized (gY 48).cls ∈ lw_g := wg 36 (by decide +kernel) rfl
theorem wv_48 : Cond.selects "RudeCoupons$Shelf" (gY 48) (gY 48) ∈ lw_g := wg 487 (by decide +kernel) rfl
theorem wp_48 : (gY 48).cls ≠ "java/lang/invoke/MethodHandle" ∧ (gY 48).cls ≠ "java/lang/invoke/VarHandle" ∧ (parseMethodDescriptor (gY 48).desc).map (fun d => d.parameters.length) = some 1 := by decide +kernel
theorem wc_49 : Cond.code (gY 49) (gB 49) (nl 49) (gT 49) ∈ lw_g := wg 138 (by decide +kernel) rfl
theorem wk_49 : Cond.instanceMethod (gY 49) ∈ lw_g := wg 137 (by decide +kernel) rfl
theorem wi_49 : Cond.initialized (gY 49).cls ∈ lw_g := wg 38 (by decide +kernel) rfl
theorem wp_49 : (gY 49).cls ≠ "java/lang/invoke/MethodHandle" ∧ (gY 49).cls ≠ "java/lang/invoke/VarHandle" ∧ (parseMethodDescriptor (gY 49).desc).map (fun d => d.parameters.length) = some 0 := by decide +kernel
theorem wc_50 : Cond.code (gY 50) (gB 50) (nl 50) (gT 50) ∈ lw_g := wg 576 (by decide +kernel) rfl
theorem wk_50 : Cond.instanceMethod (gY 50) ∈ lw_g := wg 574 (by decide +kernel) rfl
theorem wi_50 : Cond.initialized (gY 50).cls ∈ lw_g := wg 38 (by decide +kernel) rfl
theorem wv_50 : Cond.selects "RudeCoupons$Sightings" (gY 50) (gY 50) ∈ lw_g := wg 575 (by decide +kernel) rfl
theorem wp_50 : (gY 50).cls ≠ "java/lang/invoke/MethodHandle" ∧ (gY 50).cls ≠ "java/lang/invoke/VarHandle" ∧ (parseMethodDescriptor (gY 50).desc).map (fun d => d.parameters.length) = some 3 := by decide +kernel
theorem wc_51 : Cond.code (gY 51) (gB 51) (nl 51) (gT 51) ∈ lw_g := wg 588 (by decide +kernel) rfl
theorem wk_51 : Cond.instanceMethod (gY 51) ∈ lw_g := wg 586 (by decide +kernel) rfl
theorem wi_51 : Cond.initialized (gY 51).cls ∈ lw_g := wg 38 (by decide +kernel) rfl
theorem wv_51 : Cond.selects "RudeCoupons$Sightings" (gY 51) (gY 51) ∈ lw_g := wg 587 (by decide +kernel) rfl
theorem wp_51 : (gY 51).cls ≠ "java/lang/invoke/MethodHandle" ∧ (gY 51).cls ≠ "java/lang/invoke/VarHandle" ∧ (parseMethodDescriptor (gY 51).desc).map (fun d => d.parameters.length) = some 2 := by decide +kernel
theorem wc_52 : Cond.code (gY 52) (gB 52) (nl 52) (gT 52) ∈ lw_g := wg 86 (by decide +kernel) rfl
theorem wk_52 : Cond.instanceMethod (gY 52) ∈ lw_g := wg 85 (by decide +kernel) rfl
theorem wi_52 : Cond.initialized (gY 52).cls ∈ lw_g := wg 35 (by decide +kernel) rfl
theorem wp_52 : (gY 52).cls ≠ "java/lang/invoke/MethodHandle" ∧ (gY 52).cls ≠ "java/lang/invoke/VarHandle" ∧ (parseMethodDescriptor (gY 52).desc).map (fun d => d.parameters.length) = some 0 := by decide +kernel
theorem wc_53 : Cond.code (gY 53) (gB 53) (nl 53) (gT 53) ∈ lw_g := wg 355 (by decide +kernel) rfl
theorem wk_53 : Cond.instanceMethod (gY 53) ∈ lw_g := wg 353 (by decide +kernel) rfl
theorem wi_53 : Cond.initialized (gY 53).cls ∈ lw_g := wg 35 (by decide +kernel) rfl
theorem wv_53 : Cond.selects "RudeCoupons$Standing" (gY 53) (gY 53) ∈ lw_g := wg 354 (by decide +kernel) rfl
theorem wp_53 : (gY 53).cls ≠ "java/lang/invoke/MethodHandle" ∧ (gY 53).cls ≠ "java/lang/invoke/VarHandle" ∧ (parseMethodDescriptor (gY 53).desc).map (fun d => d.parameters.length) = some 1 := by decide +kernel
theorem wc_54 : Cond.code (gY 54) (gB 54) (nl 54) (gT 54) ∈ lw_g := wg 453 (by decide +kernel) rfl
theorem wk_54 : Cond.instanceMethod (gY 54) ∈ lw_g := wg 451 (by decide +kernel) rfl
theorem wi_54 : Cond.initialized (gY 54).cls ∈ lw_g := wg 35 (by decide +kernel) rfl
theorem wv_54 : Cond.selects "RudeCoupons$Standing" (gY 54) (gY 54) ∈ lw_g := wg 452 (by decide +kernel) rfl
theorem wp_54 : (gY 54).cls ≠ "java/lang/invoke/MethodHandle" ∧ (gY 54).cls ≠ "java/lang/invoke/VarHandle" ∧ (parseMethodDescriptor (gY 54).desc).map (fun d => d.parameters.length) = some 1 := by decide +kernel
theorem wc_55 : Cond.code (gY 55) (gB 55) (nl 55) (gT 55) ∈ lw_g := wg 477 (by decide +kernel) rfl
theorem wk_55 : Cond.instanceMethod (gY 55) ∈ lw_g := wg 475 (by decide +kernel) rfl
theorem wi_55 : Cond.initialized (gY 55).cls ∈ lw_g := wg 35 (by decide +kernel) rfl
theorem wv_55 : Cond.selects "RudeCoupons$Standing" (gY 55) (gY 55) ∈ lw_g := wg 476 (by decide +kernel) rfl
theorem wp_55 : (gY 55).cls ≠ "java/lang/invoke/MethodHandle" ∧ (gY 55).cls ≠ "java/lang/invoke/VarHandle" ∧ (parseMethodDescriptor (gY 55).desc).map (fun d => d.parameters.length) = some 0 := by decide +kernel
theorem wc_56 : Cond.code (gY 56) (gB 56) (nl 56) (gT 56) ∈ lw_g := wg 597 (by decide +kernel) rfl
theorem wk_56 : Cond.instanceMethod (gY 56) ∈ lw_g := wg 595 (by decide +kernel) rfl
theorem wi_56 : Cond.initialized (gY 56).cls ∈ lw_g := wg 35 (by decide +kernel) rfl
theorem wv_56 : Cond.selects "RudeCoupons$Standing" (gY 56) (gY 56) ∈ lw_g := wg 596 (by decide +kernel) rfl
theorem wp_56 : (gY 56).cls ≠ "java/lang/invoke/MethodHandle" ∧ (gY 56).cls ≠ "java/lang/invoke/VarHandle" ∧ (parseMethodDescriptor (gY 56).desc).map (fun d => d.parameters.length) = some 0 := by decide +kernel
theorem wc_57 : Cond.code (gY 57) (gB 57) (nl 57) (gT 57) ∈ lw_g := wg 615 (by decide +kernel) rfl
theorem wk_57 : Cond.instanceMethod (gY 57) ∈ lw_g := wg 613 (by decide +kernel) rfl
theorem wi_57 : Cond.initialized (gY 57).cls ∈ lw_g := wg 35 (by decide +kernel) rfl
theorem wv_57 : Cond.selects "RudeCoupons$Standing" (gY 57) (gY 57) ∈ lw_g := wg 614 (by decide +kernel) rfl
theorem wp_57 : (gY 57).cls ≠ "java/lang/invoke/MethodHandle" ∧ (gY 57).cls ≠ "java/lang/invoke/VarHandle" ∧ (parseMethodDescriptor (gY 57).desc).map (fun d => d.parameters.length) = some 0 := by decide +kernel
theorem wc_58 : Cond.code (gY 58) (gB 58) (nl 58) (gT 58) ∈ lw_g := wg 51 (by decide +kernel) rfl
theorem wk_58 : Cond.instanceMethod (gY 58) ∈ lw_g := wg 50 (by decide +kernel) rfl
theorem wi_58 : Cond.initialized (gY 58).cls ∈ lw_g := wg 32 (by decide +kernel) rfl
theorem wp_58 : (gY 58).cls ≠ "java/lang/invoke/MethodHandle" ∧ (gY 58).cls ≠ "java/lang/invoke/VarHandle" ∧ (parseMethodDescriptor (gY 58).desc).map (fun d => d.parameters.length) = some 0 := by decide +kernel
theorem wc_59 : Cond.code (gY 59) (gB 59) (nl 59) (gT 59) ∈ lw_g := wg 299 (by decide +kernel) rfl
theorem wk_59 : Cond.instanceMethod (gY 59) ∈ lw_g := wg 298 (by decide +kernel) rfl
theorem wi_59 : Cond.initialized (gY 59).cls ∈ lw_g := wg 32 (by decide +kernel) rfl
theorem wv_59 : Cond.selects "RudeCoupons" (gY 59) (gY 59) ∈ lw_g := wg 0 (by decide +kernel) rfl
theorem wp_59 : (gY 59).cls ≠ "java/lang/invoke/MethodHandle" ∧ (gY 59).cls ≠ "java/lang/invoke/VarHandle" ∧ (parseMethodDescriptor (gY 59).desc).map (fun d => d.parameters.length) = some 0 := by decide +kernel
theorem wc_60 : Cond.code (gY 60) (gB 60) (nl 60) (gT 60) ∈ lw_g := wg 394 (by decide +kernel) rfl
theorem wk_60 : Cond.instanceMethod (gY 60) ∈ lw_g := wg 392 (by decide +kernel) rfl
theorem wi_60 : Cond.initialized (gY 60).cls ∈ lw_g := wg 32 (by decide +kernel) rfl
theorem wv_60 : Cond.selects "RudeCoupons" (gY 60) (gY 60) ∈ lw_g := wg 393 (by decide +kernel) rfl
theorem wp_60 : (gY 60).cls ≠ "java/lang/invoke/MethodHandle" ∧ (gY 60).cls ≠ "java/lang/invoke/VarHandle" ∧ (parseMethodDescriptor (gY 60).desc).map (fun d => d.parameters.length) = some 1 := by decide +kernel
theorem wc_61 : Cond.code (gY 61) (gB 61) (nl 61) (gT 61) ∈ lw_g := wg 399 (by decide +kernel) rfl
theorem wk_61 : Cond.instanceMethod (gY 61) ∈ lw_g := wg 397 (by decide +kernel) rfl
theorem wi_61 : Cond.initialized (gY 61).cls ∈ lw_g := wg 32 (by decide +kernel) rfl
theorem wv_61 : Cond.selects "RudeCoupons" (gY 61) (gY 61) ∈ lw_g := wg 398 (by decide +kernel) rfl
theorem wp_61 : (gY 61).cls ≠ "java/lang/invoke/MethodHandle" ∧ (gY 61).cls ≠ "java/lang/invoke/VarHandle" ∧ (parseMethodDescriptor (gY 61).desc).map (fun d => d.parameters.length) = some 0 := by decide +kernel
theorem wc_62 : Cond.code (gY 62) (gB 62) (nl 62) (gT 62) ∈ lw_g := wg 403 (by decide +kernel) rfl
theorem wk_62 : Cond.instanceMethod (gY 62) ∈ lw_g := wg 401 (by decide +kernel) rfl
theorem wi_62 : Cond.initialized (gY 62).cls ∈ lw_g := wg 32 (by decide +kernel) rfl
theorem wv_62 : Cond.selects "RudeCoupons" (gY 62) (gY 62) ∈ lw_g := wg 402 (by decide +kernel) rfl
theorem wp_62 : (gY 62).cls ≠ "java/lang/invoke/MethodHandle" ∧ (gY 62).cls ≠ "java/lang/invoke/VarHandle" ∧ (parseMethodDescriptor (gY 62).desc).map (fun d => d.parameters.length) = some 0 := by decide +kernel
theorem wc_63 : Cond.code (gY 63) (gB 63) (nl 63) (gT 63) ∈ lw_g := wg 407 (by decide +kernel) rfl
theorem wk_63 : Cond.instanceMethod (gY 63) ∈ lw_g := wg 405 (by decide +kernel) rfl
theorem wi_63 : Cond.initialized (gY 63).cls ∈ lw_g := wg 32 (by decide +kernel) rfl
theorem wv_63 : Cond.selects "RudeCoupons" (gY 63) (gY 63) ∈ lw_g := wg 406 (by decide +kernel) rfl
theorem wp_63 : (gY 63).cls ≠ "java/lang/invoke/MethodHandle" ∧ (gY 63).cls ≠ "java/lang/invoke/VarHandle" ∧ (parseMethodDescriptor (gY 63).desc).map (fun d => d.parameters.length) = some 0 := by decide +kernel
theorem wc_64 : Cond.code (gY 64) (gB 64) (nl 64) (gT 64) ∈ lw_g := wg 411 (by decide +kernel) rfl
theorem wk_64 : Cond.instanceMethod (gY 64) ∈ lw_g := wg 409 (by decide +kernel) rfl
theorem wi_64 : Cond.initialized (gY 64).cls ∈ lw_g := wg 32 (by decide +kernel) rfl
theorem wv_64 : Cond.selects "RudeCoupons" (gY 64) (gY 64) ∈ lw_g := wg 410 (by decide +kernel) rfl
theorem wp_64 : (gY 64).cls ≠ "java/lang/invoke/MethodHandle" ∧ (gY 64).cls ≠ "java/lang/invoke/VarHandle" ∧ (parseMethodDescriptor (gY 64).desc).map (fun d => d.parameters.length) = some 2 := by decide +kernel
theorem wc_65 : Cond.code (gY 65) (gB 65) (nl 65) (gT 65) ∈ lw_g := wg 416 (by decide +kernel) rfl
theorem wk_65 : Cond.instanceMethod (gY 65) ∈ lw_g := wg 414 (by decide +kernel) rfl
theorem wi_65 : Cond.initialized (gY 65).cls ∈ lw_g := wg 32 (by decide +kernel) rfl
theorem wv_65 : Cond.selects "RudeCoupons" (gY 65) (gY 65) ∈ lw_g := wg 415 (by decide +kernel) rfl
theorem wp_65 : (gY 65).cls ≠ "java/lang/invoke/MethodHandle" ∧ (gY 65).cls ≠ "java/lang/invoke/VarHandle" ∧ (parseMethodDescriptor (gY 65).desc).map (fun d => d.parameters.length) = some 2 := by decide +kernel
theorem wc_66 : Cond.code (gY 66) (gB 66) (nl 66) (gT 66) ∈ lw_g := wg 421 (by decide +kernel) rfl
theorem wk_66 : Cond.instanceMethod (gY 66) ∈ lw_g := wg 419 (by decide +kernel) rfl
theorem wi_66 : Cond.initialized (gY 66).cls ∈ lw_g := wg 32 (by decide +kernel) rfl
theorem wv_66 : Cond.selects "RudeCoupons" (gY 66) (gY 66) ∈ lw_g := wg 420 (by decide +kernel) rfl
theorem wp_66 : (gY 66).cls ≠ "java/lang/invoke/MethodHandle" ∧ (gY 66).cls ≠ "java/lang/invoke/VarHandle" ∧ (parseMethodDescriptor (gY 66).desc).map (fun d => d.parameters.length) = some 2 := by decide +kernel
theorem wc_67 : Cond.code (gY 67) (gB 67) (nl 67) (gT 67) ∈ lw_g := wg 433 (by decide +kernel) rfl
theorem wk_67 : Cond.instanceMethod (gY 67) ∈ lw_g := wg 432 (by decide +kernel) rfl
theorem wi_67 : Cond.initialized (gY 67).cls ∈ lw_g := wg 32 (by decide +kernel) rfl
theorem wv_67 : Cond.selects "RudeCoupons" (gY 67) (gY 67) ∈ lw_g := wg 1 (by decide +kernel) rfl
theorem wp_67 : (gY 67).cls ≠ "java/lang/invoke/MethodHandle" ∧ (gY 67).cls ≠ "java/lang/invoke/VarHandle" ∧ (parseMethodDescriptor (gY 67).desc).map (fun d => d.parameters.length) = some 1 := by decide +kernel
theorem wc_68 : Cond.code (gY 68) (gB 68) (nl 68) (gT 68) ∈ lw_g := wg 441 (by decide +kernel) rfl
theorem wk_68 : Cond.instanceMethod (gY 68) ∈ lw_g := wg 439 (by decide +kernel) rfl
theorem wi_68 : Cond.initialized (gY 68).cls ∈ lw_g := wg 32 (by decide +kernel) rfl
theorem wv_68 : Cond.selects "RudeCoupons" (gY 68) (gY 68) ∈ lw_g := wg 440 (by decide +kernel) rfl
theorem wp_68 : (gY 68).cls ≠ "java/lang/invoke/MethodHandle" ∧ (gY 68).cls ≠ "java/lang/invoke/VarHandle" ∧ (parseMethodDescriptor (gY 68).desc).map (fun d => d.parameters.length) = some 1 := by decide +kernel
theorem wc_69 : Cond.code (gY 69) (gB 69) (nl 69) (gT 69) ∈ lw_g := wg 456 (by decide +kernel) rfl
theorem wk_69 : Cond.static (gY 69) ∈ lw_g := wg 455 (by decide +kernel) rfl
theorem wi_69 : Cond.initialized (gY 69).cls ∈ lw_g := wg 32 (by decide +kernel) rfl
theorem wp_69 : (gY 69).cls ≠ "java/lang/invoke/MethodHandle" ∧ (gY 69).cls ≠ "java/lang/invoke/VarHandle" ∧ (parseMethodDescriptor (gY 69).desc).map (fun d => d.parameters.length) = some 2 := by decide +kernel
theorem wc_70 : Cond.code (gY 70) (gB 70) (nl 70) (gT 70) ∈ lw_g := wg 465 (by decide +kernel) rfl
theorem wk_70 : Cond.instanceMethod (gY 70) ∈ lw_g := wg 463 (by decide +kernel) rfl
theorem wi_70 : Cond.initialized (gY 70).cls ∈ lw_g := wg 32 (by decide +kernel) rfl
theorem wv_70 : Cond.selects "RudeCoupons" (gY 70) (gY 70) ∈ lw_g := wg 464 (by decide +kernel) rfl
theorem wp_70 : (gY 70).cls ≠ "java/lang/invoke/MethodHandle" ∧ (gY 70).cls ≠ "java/lang/invoke/VarHandle" ∧ (parseMethodDescriptor (gY 70).desc).map (fun d => d.parameters.length) = some 1 := by decide +kernel
theorem wc_71 : Cond.code (gY 71) (gB 71) (nl 71) (gT 71) ∈ lw_g := wg 469 (by decide +kernel) rfl
theorem wk_71 : Cond.instanceMethod (gY 71) ∈ lw_g := wg 467 (by decide +kernel) rfl
theorem wi_71 : Cond.initialized (gY 71).cls ∈ lw_g := wg 32 (by decide +kernel) rfl
theorem wv_71 : Cond.selects "RudeCoupons" (gY 71) (gY 71) ∈ lw_g := wg 468 (by decide +kernel) rfl
theorem wp_71 : (gY 71).cls ≠ "java/lang/invoke/MethodHandle" ∧ (gY 71).cls ≠ "java/lang/invoke/VarHandle" ∧ (parseMethodDescriptor (gY 71).desc).map (fun d => d.parameters.length) = some 3 := by decide +kernel
theorem wc_72 : Cond.code (gY 72) (gB 72) (nl 72) (gT 72) ∈ lw_g := wg 473 (by decide +kernel) rfl
theorem wk_72 : Cond.instanceMethod (gY 72) ∈ lw_g := wg 471 (by decide +kernel) rfl
theorem wi_72 : Cond.initialized (gY 72).cls ∈ lw_g := wg 32 (by decide +kernel) rfl
theorem wv_72 : Cond.selects "RudeCoupons" (gY 72) (gY 72) ∈ lw_g := wg 472 (by decide +kernel) rfl
theorem wp_72 : (gY 72).cls ≠ "java/lang/invoke/MethodHandle" ∧ (gY 72).cls ≠ "java/lang/invoke/VarHandle" ∧ (parseMethodDescriptor (gY 72).desc).map (fun d => d.parameters.length) = some 1 := by decide +kernel
theorem wc_73 : Cond.code (gY 73) (gB 73) (nl 73) (gT 73) ∈ lw_g := wg 480 (by decide +kernel) rfl
theorem wk_73 : Cond.static (gY 73) ∈ lw_g := wg 479 (by decide +kernel) rfl
theorem wi_73 : Cond.initialized (gY 73).cls ∈ lw_g := wg 32 (by decide +kernel) rfl
theorem wp_73 : (gY 73).cls ≠ "java/lang/invoke/MethodHandle" ∧ (gY 73).cls ≠ "java/lang/invoke/VarHandle" ∧ (parseMethodDescriptor (gY 73).desc).map (fun d => d.parameters.length) = some 1 := by decide +kernel
theorem wc_74 : Cond.code (gY 74) (gB 74) (nl 74) (gT 74) ∈ lw_g := wg 484 (by decide +kernel) rfl
theorem wk_74 : Cond.instanceMethod (gY 74) ∈ lw_g := wg 482 (by decide +kernel) rfl
theorem wi_74 : Cond.initialized (gY 74).cls ∈ lw_g := wg 32 (by decide +kernel) rfl
theorem wv_74 : Cond.selects "RudeCoupons" (gY 74) (gY 74) ∈ lw_g := wg 483 (by decide +kernel) rfl
theorem wp_74 : (gY 74).cls ≠ "java/lang/invoke/MethodHandle" ∧ (gY 74).cls ≠ "java/lang/invoke/VarHandle" ∧ (parseMethodDescriptor (gY 74).desc).map (fun d => d.parameters.length) = some 0 := by decide +kernel
theorem wc_75 : Cond.code (gY 75) (gB 75) (nl 75) (gT 75) ∈ lw_g := wg 492 (by decide +kernel) rfl
theorem wk_75 : Cond.instanceMethod (gY 75) ∈ lw_g := wg 490 (by decide +kernel) rfl
theorem wi_75 : Cond.initialized (gY 75).cls ∈ lw_g := wg 32 (by decide +kernel) rfl
theorem wv_75 : Cond.selects "RudeCoupons" (gY 75) (gY 75) ∈ lw_g := wg 491 (by decide +kernel) rfl
theorem wp_75 : (gY 75).cls ≠ "java/lang/invoke/MethodHandle" ∧ (gY 75).cls ≠ "java/lang/invoke/VarHandle" ∧ (parseMethodDescriptor (gY 75).desc).map (fun d => d.parameters.length) = some 2 := by decide +kernel
theorem wc_76 : Cond.code (gY 76) (gB 76) (nl 76) (gT 76) ∈ lw_g := wg 510 (by decide +kernel) rfl
theorem wk_76 : Cond.instanceMethod (gY 76) ∈ lw_g := wg 508 (by decide +kernel) rfl
theorem wi_76 : Cond.initialized (gY 76).cls ∈ lw_g := wg 32 (by decide +kernel) rfl
theorem wv_76 : Cond.selects "RudeCoupons" (gY 76) (gY 76) ∈ lw_g := wg 509 (by decide +kernel) rfl
theorem wp_76 : (gY 76).cls ≠ "java/lang/invoke/MethodHandle" ∧ (gY 76).cls ≠ "java/lang/invoke/VarHandle" ∧ (parseMethodDescriptor (gY 76).desc).map (fun d => d.parameters.length) = some 1 := by decide +kernel
theorem wc_77 : Cond.code (gY 77) (gB 77) (nl 77) (gT 77) ∈ lw_g := wg 518 (by decide +kernel) rfl
theorem wk_77 : Cond.instanceMethod (gY 77) ∈ lw_g := wg 516 (by decide +kernel) rfl
theorem wi_77 : Cond.initialized (gY 77).cls ∈ lw_g := wg 32 (by decide +kernel) rfl
theorem wv_77 : Cond.selects "RudeCoupons" (gY 77) (gY 77) ∈ lw_g := wg 517 (by decide +kernel) rfl
theorem wp_77 : (gY 77).cls ≠ "java/lang/invoke/MethodHandle" ∧ (gY 77).cls ≠ "java/lang/invoke/VarHandle" ∧ (parseMethodDescriptor (gY 77).desc).map (fun d => d.parameters.length) = some 1 := by decide +kernel
theorem wc_78 : Cond.code (gY 78) (gB 78) (nl 78) (gT 78) ∈ lw_g := wg 527 (by decide +kernel) rfl
theorem wk_78 : Cond.instanceMethod (gY 78) ∈ lw_g := wg 526 (by decide +kernel) rfl
theorem wi_78 : Cond.initialized (gY 78).cls ∈ lw_g := wg 32 (by decide +kernel) rfl
theorem wv_78 : Cond.selects "RudeCoupons" (gY 78) (gY 78) ∈ lw_g := wg 2 (by decide +kernel) rfl
theorem wp_78 : (gY 78).cls ≠ "java/lang/invoke/MethodHandle" ∧ (gY 78).cls ≠ "java/lang/invoke/VarHandle" ∧ (parseMethodDescriptor (gY 78).desc).map (fun d => d.parameters.length) = some 2 := by decide +kernel
theorem wc_79 : Cond.code (gY 79) (gB 79) (nl 79) (gT 79) ∈ lw_g := wg 531 (by decide +kernel) rfl
theorem wk_79 : Cond.instanceMethod (gY 79) ∈ lw_g := wg 529 (by decide +kernel) rfl
theorem wi_79 : Cond.initialized (gY 79).cls ∈ lw_g := wg 32 (by decide +kernel) rfl
theorem wv_79 : Cond.selects "RudeCoupons" (gY 79) (gY 79) ∈ lw_g := wg 530 (by decide +kernel) rfl
theorem wp_79 : (gY 79).cls ≠ "java/lang/invoke/MethodHandle" ∧ (gY 79).cls ≠ "java/lang/invoke/VarHandle" ∧ (parseMethodDescriptor (gY 79).desc).map (fun d => d.parameters.length) = some 1 := by decide +kernel
theorem wc_80 : Cond.code (gY 80) (gB 80) (nl 80) (gT 80) ∈ lw_g := wg 559 (by decide +kernel) rfl
theorem wk_80 : Cond.instanceMethod (gY 80) ∈ lw_g := wg 557 (by decide +kernel) rfl
theorem wi_80 : Cond.initialized (gY 80).cls ∈ lw_g := wg 32 (by decide +kernel) rfl
theorem wv_80 : Cond.selects "RudeCoupons" (gY 80) (gY 80) ∈ lw_g := wg 558 (by decide +kernel) rfl
theorem wp_80 : (gY 80).cls ≠ "java/lang/invoke/MethodHandle" ∧ (gY 80).cls ≠ "java/lang/invoke/VarHandle" ∧ (parseMethodDescriptor (gY 80).desc).map (fun d => d.parameters.length) = some 1 := by decide +kernel
theorem wc_81 : Cond.code (gY 81) (gB 81) (nl 81) (gT 81) ∈ lw_g := wg 563 (by decide +kernel) rfl
theorem wk_81 : Cond.instanceMethod (gY 81) ∈ lw_g := wg 562 (by decide +kernel) rfl
theorem wi_81 : Cond.initialized (gY 81).cls ∈ lw_g := wg 32 (by decide +kernel) rfl
theorem wv_81 : Cond.selects "RudeCoupons" (gY 81) (gY 81) ∈ lw_g := wg 3 (by decide +kernel) rfl
theorem wp_81 : (gY 81).cls ≠ "java/lang/invoke/MethodHandle" ∧ (gY 81).cls ≠ "java/lang/invoke/VarHandle" ∧ (parseMethodDescriptor (gY 81).desc).map (fun d => d.parameters.length) = some 1 := by decide +kernel
theorem wc_82 : Cond.code (gY 82) (gB 82) (nl 82) (gT 82) ∈ lw_g := wg 572 (by decide +kernel) rfl
theorem wk_82 : Cond.instanceMethod (gY 82) ∈ lw_g := wg 570 (by decide +kernel) rfl
theorem wi_82 : Cond.initialized (gY 82).cls ∈ lw_g := wg 32 (by decide +kernel) rfl
theorem wv_82 : Cond.selects "RudeCoupons" (gY 82) (gY 82) ∈ lw_g := wg 571 (by decide +kernel) rfl
theorem wp_82 : (gY 82).cls ≠ "java/lang/invoke/MethodHandle" ∧ (gY 82).cls ≠ "java/lang/invoke/VarHandle" ∧ (parseMethodDescriptor (gY 82).desc).map (fun d => d.parameters.length) = some 3 := by decide +kernel
theorem wc_83 : Cond.code (gY 83) (gB 83) (nl 83) (gT 83) ∈ lw_g := wg 580 (by decide +kernel) rfl
theorem wk_83 : Cond.instanceMethod (gY 83) ∈ lw_g := wg 578 (by decide +kernel) rfl
theorem wi_83 : Cond.initialized (gY 83).cls ∈ lw_g := wg 32 (by decide +kernel) rfl
theorem wv_83 : Cond.selects "RudeCoupons" (gY 83) (gY 83) ∈ lw_g := wg 579 (by decide +kernel) rfl
theorem wp_83 : (gY 83).cls ≠ "java/lang/invoke/MethodHandle" ∧ (gY 83).cls ≠ "java/lang/invoke/VarHandle" ∧ (parseMethodDescriptor (gY 83).desc).map (fun d => d.parameters.length) = some 0 := by decide +kernel
theorem wc_84 : Cond.code (gY 84) (gB 84) (nl 84) (gT 84) ∈ lw_g := wg 584 (by decide +kernel) rfl
theorem wk_84 : Cond.instanceMethod (gY 84) ∈ lw_g := wg 582 (by decide +kernel) rfl
theorem wi_84 : Cond.initialized (gY 84).cls ∈ lw_g := wg 32 (by decide +kernel) rfl
theorem wv_84 : Cond.selects "RudeCoupons" (gY 84) (gY 84) ∈ lw_g := wg 583 (by decide +kernel) rfl
theorem wp_84 : (gY 84).cls ≠ "java/lang/invoke/MethodHandle" ∧ (gY 84).cls ≠ "java/lang/invoke/VarHandle" ∧ (parseMethodDescriptor (gY 84).desc).map (fun d => d.parameters.length) = some 0 := by decide +kernel
theorem wc_85 : Cond.code (gY 85) (gB 85) (nl 85) (gT 85) ∈ lw_g := wg 593 (by decide +kernel) rfl
theorem wk_85 : Cond.instanceMethod (gY 85) ∈ lw_g := wg 591 (by decide +kernel) rfl
theorem wi_85 : Cond.initialized (gY 85).cls ∈ lw_g := wg 32 (by decide +kernel) rfl
theorem wv_85 : Cond.selects "RudeCoupons" (gY 85) (gY 85) ∈ lw_g := wg 592 (by decide +kernel) rfl
theorem wp_85 : (gY 85).cls ≠ "java/lang/invoke/MethodHandle" ∧ (gY 85).cls ≠ "java/lang/invoke/VarHandle" ∧ (parseMethodDescriptor (gY 85).desc).map (fun d => d.parameters.length) = some 2 := by decide +kernel
theorem wc_86 : Cond.code (gY 86) (gB 86) (nl 86) (gT 86) ∈ lw_g := wg 603 (by decide +kernel) rfl
theorem wk_86 : Cond.instanceMethod (gY 86) ∈ lw_g := wg 601 (by decide +kernel) rfl
theorem wi_86 : Cond.initialized (gY 86).cls ∈ lw_g := wg 32 (by decide +kernel) rfl
theorem wv_86 : Cond.selects "RudeCoupons" (gY 86) (gY 86) ∈ lw_g := wg 602 (by decide +kernel) rfl
theorem wp_86 : (gY 86).cls ≠ "java/lang/invoke/MethodHandle" ∧ (gY 86).cls ≠ "java/lang/invoke/VarHandle" ∧ (parseMethodDescriptor (gY 86).desc).map (fun d => d.parameters.length) = some 3 := by decide +kernel
theorem wc_87 : Cond.code (gY 87) (gB 87) (nl 87) (gT 87) ∈ lw_g := wg 607 (by decide +kernel) rfl
theorem wk_87 : Cond.instanceMethod (gY 87) ∈ lw_g := wg 605 (by decide +kernel) rfl
theorem wi_87 : Cond.initialized (gY 87).cls ∈ lw_g := wg 32 (by decide +kernel) rfl
theorem wv_87 : Cond.selects "RudeCoupons" (gY 87) (gY 87) ∈ lw_g := wg 606 (by decide +kernel) rfl
theorem wp_87 : (gY 87).cls ≠ "java/lang/invoke/MethodHandle" ∧ (gY 87).cls ≠ "java/lang/invoke/VarHandle" ∧ (parseMethodDescriptor (gY 87).desc).map (fun d => d.parameters.length) = some 1 := by decide +kernel
theorem wc_88 : Cond.code (gY 88) (gB 88) (nl 88) (gT 88) ∈ lw_g := wg 611 (by decide +kernel) rfl
theorem wk_88 : Cond.instanceMethod (gY 88) ∈ lw_g := wg 609 (by decide +kernel) rfl
theorem wi_88 : Cond.initialized (gY 88).cls ∈ lw_g := wg 32 (by decide +kernel) rfl
theorem wv_88 : Cond.selects "RudeCoupons" (gY 88) (gY 88) ∈ lw_g := wg 610 (by decide +kernel) rfl
theorem wp_88 : (gY 88).cls ≠ "java/lang/invoke/MethodHandle" ∧ (gY 88).cls ≠ "java/lang/invoke/VarHandle" ∧ (parseMethodDescriptor (gY 88).desc).map (fun d => d.parameters.length) = some 1 := by decide +kernel
theorem wc_89 : Cond.code (gY 89) (gB 89) (nl 89) (gT 89) ∈ lw_g := wg 619 (by decide +kernel) rfl
theorem wk_89 : Cond.instanceMethod (gY 89) ∈ lw_g := wg 617 (by decide +kernel) rfl
theorem wi_89 : Cond.initialized (gY 89).cls ∈ lw_g := wg 32 (by decide +kernel) rfl
theorem wv_89 : Cond.selects "RudeCoupons" (gY 89) (gY 89) ∈ lw_g := wg 618 (by decide +kernel) rfl
theorem wp_89 : (gY 89).cls ≠ "java/lang/invoke/MethodHandle" ∧ (gY 89).cls ≠ "java/lang/invoke/VarHandle" ∧ (parseMethodDescriptor (gY 89).desc).map (fun d => d.parameters.length) = some 2 := by decide +kernel
theorem wc_90 : Cond.code (gY 90) (gB 90) (nl 90) (gT 90) ∈ lw_g := wg 624 (by decide +kernel) rfl
theorem wk_90 : Cond.static (gY 90) ∈ lw_g := wg 623 (by decide +kernel) rfl
theorem wi_90 : Cond.initialized (gY 90).cls ∈ lw_g := wg 32 (by decide +kernel) rfl
theorem wp_90 : (gY 90).cls ≠ "java/lang/invoke/MethodHandle" ∧ (gY 90).cls ≠ "java/lang/invoke/VarHandle" ∧ (parseMethodDescriptor (gY 90).desc).map (fun d => d.parameters.length) = some 2 := by decide +kernel
theorem wc_91 : Cond.code (gY 91) (gB 91) (nl 91) (gT 91) ∈ lw_g := wg 634 (by decide +kernel) rfl
theorem wk_91 : Cond.instanceMethod (gY 91) ∈ lw_g := wg 632 (by decide +kernel) rfl
theorem wi_91 : Cond.initialized (gY 91).cls ∈ lw_g := wg 32 (by decide +kernel) rfl
theorem wv_91 : Cond.selects "RudeCoupons" (gY 91) (gY 91) ∈ lw_g := wg 633 (by decide +kernel) rfl
theorem wp_91 : (gY 91).cls ≠ "java/lang/invoke/MethodHandle" ∧ (gY 91).cls ≠ "java/lang/invoke/VarHandle" ∧ (parseMethodDescriptor (gY 91).desc).map (fun d => d.parameters.length) = some 0 := by decide +kernel
theorem wc_92 : Cond.code (gY 92) (gB 92) (nl 92) (gT 92) ∈ lw_g := wg 642 (by decide +kernel) rfl
theorem wk_92 : Cond.instanceMethod (gY 92) ∈ lw_g := wg 640 (by decide +kernel) rfl
theorem wi_92 : Cond.initialized (gY 92).cls ∈ lw_g := wg 32 (by decide +kernel) rfl
theorem wv_92 : Cond.selects "RudeCoupons" (gY 92) (gY 92) ∈ lw_g := wg 641 (by decide +kernel) rfl
theorem wp_92 : (gY 92).cls ≠ "java/lang/invoke/MethodHandle" ∧ (gY 92).cls ≠ "java/lang/invoke/VarHandle" ∧ (parseMethodDescriptor (gY 92).desc).map (fun d => d.parameters.length) = some 0 := by decide +kernel
theorem wc_93 : Cond.code (gY 93) (gB 93) (nl 93) (gT 93) ∈ lw_g := wg 646 (by decide +kernel) rfl
theorem wk_93 : Cond.instanceMethod (gY 93) ∈ lw_g := wg 644 (by decide +kernel) rfl
theorem wi_93 : Cond.initialized (gY 93).cls ∈ lw_g := wg 32 (by decide +kernel) rfl
theorem wv_93 : Cond.selects "RudeCoupons" (gY 93) (gY 93) ∈ lw_g := wg 645 (by decide +kernel) rfl
theorem wp_93 : (gY 93).cls ≠ "java/lang/invoke/MethodHandle" ∧ (gY 93).cls ≠ "java/lang/invoke/VarHandle" ∧ (parseMethodDescriptor (gY 93).desc).map (fun d => d.parameters.length) = some 1 := by decide +kernel
theorem wc_94 : Cond.code (gY 94) (gB 94) (nl 94) (gT 94) ∈ lw_g := wg 657 (by decide +kernel) rfl
theorem wk_94 : Cond.instanceMethod (gY 94) ∈ lw_g := wg 656 (by decide +kernel) rfl
theorem wi_94 : Cond.initialized (gY 94).cls ∈ lw_g := wg 45 (by decide +kernel) rfl
theorem wp_94 : (gY 94).cls ≠ "java/lang/invoke/MethodHandle" ∧ (gY 94).cls ≠ "java/lang/invoke/VarHandle" ∧ (parseMethodDescriptor (gY 94).desc).map (fun d => d.parameters.length) = some 0 := by decide +kernel
theorem wc_95 : Cond.code (gY 95) (gB 95) (nl 95) (gT 95) ∈ lw_g := wg 662 (by decide +kernel) rfl
theorem wk_95 : Cond.instanceMethod (gY 95) ∈ lw_g := wg 661 (by decide +kernel) rfl
theorem wi_95 : Cond.initialized (gY 95).cls ∈ lw_g := wg 45 (by decide +kernel) rfl
theorem wv_95 : Cond.selects "RudeCouponsModel" (gY 95) (gY 95) ∈ lw_g := wg 4 (by decide +kernel) rfl
theorem wp_95 : (gY 95).cls ≠ "java/lang/invoke/MethodHandle" ∧ (gY 95).cls ≠ "java/lang/invoke/VarHandle" ∧ (parseMethodDescriptor (gY 95).desc).map (fun d => d.parameters.length) = some 0 := by decide +kernel
theorem wc_96 : Cond.code (gY 96) (gB 96) (nl 96) (gT 96) ∈ lw_g := wg 666 (by decide +kernel) rfl
theorem wk_96 : Cond.instanceMethod (gY 96) ∈ lw_g := wg 665 (by decide +kernel) rfl
theorem wi_96 : Cond.initialized (gY 96).cls ∈ lw_g := wg 45 (by decide +kernel) rfl
theorem wv_96 : Cond.selects "RudeCouponsModel" (gY 96) (gY 96) ∈ lw_g := wg 5 (by decide +kernel) rfl
theorem wp_96 : (gY 96).cls ≠ "java/lang/invoke/MethodHandle" ∧ (gY 96).cls ≠ "java/lang/invoke/VarHandle" ∧ (parseMethodDescriptor (gY 96).desc).map (fun d => d.parameters.length) = some 3 := by decide +kernel
theorem wc_97 : Cond.code (gY 97) (gB 97) (nl 97) (gT 97) ∈ lw_g := wg 670 (by decide +kernel) rfl
theorem wk_97 : Cond.instanceMethod (gY 97) ∈ lw_g := wg 669 (by decide +kernel) rfl
theorem wi_97 : Cond.initialized (gY 97).cls ∈ lw_g := wg 45 (by decide +kernel) rfl
theorem wv_97 : Cond.selects "RudeCouponsModel" (gY 97) (gY 97) ∈ lw_g := wg 6 (by decide +kernel) rfl
theorem wp_97 : (gY 97).cls ≠ "java/lang/invoke/MethodHandle" ∧ (gY 97).cls ≠ "java/lang/invoke/VarHandle" ∧ (parseMethodDescriptor (gY 97).desc).map (fun d => d.parameters.length) = some 3 := by decide +kernel
theorem wc_98 : Cond.code (gY 98) (gB 98) (nl 98) (gT 98) ∈ lw_g := wg 674 (by decide +kernel) rfl
theorem wk_98 : Cond.instanceMethod (gY 98) ∈ lw_g := wg 673 (by decide +kernel) rfl
theorem wi_98 : Cond.initialized (gY 98).cls ∈ lw_g := wg 45 (by decide +kernel) rfl
theorem wv_98 : Cond.selects "RudeCouponsModel" (gY 98) (gY 98) ∈ lw_g := wg 7 (by decide +kernel) rfl
theorem wp_98 : (gY 98).cls ≠ "java/lang/invoke/MethodHandle" ∧ (gY 98).cls ≠ "java/lang/invoke/VarHandle" ∧ (parseMethodDescriptor (gY 98).desc).map (fun d => d.parameters.length) = some 3 := by decide +kernel
theorem wc_99 : Cond.code (gY 99) (gB 99) (nl 99) (gT 99) ∈ lw_g := wg 678 (by decide +kernel) rfl
theorem wk_99 : Cond.instanceMethod (gY 99) ∈ lw_g := wg 677 (by decide +kernel) rfl
theorem wi_99 : Cond.initialized (gY 99).cls ∈ lw_g := wg 45 (by decide +kernel) rfl
theorem wv_99 : Cond.selects "RudeCouponsModel" (gY 99) (gY 99) ∈ lw_g := wg 8 (by decide +kernel) rfl
theorem wp_99 : (gY 99).cls ≠ "java/lang/invoke/MethodHandle" ∧ (gY 99).cls ≠ "java/lang/invoke/VarHandle" ∧ (parseMethodDescriptor (gY 99).desc).map (fun d => d.parameters.length) = some 0 := by decide +kernel
theorem wc_100 : Cond.code (gY 100) (gB 100) (nl 100) (gT 100) ∈ lw_g := wg 681 (by decide +kernel) rfl
theorem wk_100 : Cond.static (gY 100) ∈ lw_g := wg 680 (by decide +kernel) rfl
theorem wi_100 : Cond.initialized (gY 100).cls ∈ lw_g := wg 45 (by decide +kernel) rfl
theorem wp_100 : (gY 100).cls ≠ "java/lang/invoke/MethodHandle" ∧ (gY 100).cls ≠ "java/lang/invoke/VarHandle" ∧ (parseMethodDescriptor (gY 100).desc).map (fun d => d.parameters.length) = some 5 := by decide +kernel
theorem wc_101 : Cond.code (gY 101) (gB 101) (nl 101) (gT 101) ∈ lw_g := wg 770 (by decide +kernel) rfl
theorem wk_101 : Cond.instanceMethod (gY 101) ∈ lw_g := wg 768 (by decide +kernel) rfl
theorem wi_101 : Cond.initialized (gY 101).cls ∈ lw_g := wg 45 (by decide +kernel) rfl
theorem wv_101 : Cond.selects "RudeCouponsModel" (gY 101) (gY 101) ∈ lw_g := wg 769 (by decide +kernel) rfl
theorem wp_101 : (gY 101).cls ≠ "java/lang/invoke/MethodHandle" ∧ (gY 101).cls ≠ "java/lang/invoke/VarHandle" ∧ (parseMethodDescriptor (gY 101).desc).map (fun d => d.parameters.length) = some 1 := by decide +kernel
theorem wc_102 : Cond.code (gY 102) (gB 102) (nl 102) (gT 102) ∈ lw_g := wg 777 (by decide +kernel) rfl
theorem wk_102 : Cond.instanceMethod (gY 102) ∈ lw_g := wg 775 (by decide +kernel) rfl
theorem wi_102 : Cond.initialized (gY 102).cls ∈ lw_g := wg 45 (by decide +kernel) rfl
theorem wv_102 : Cond.selects "RudeCouponsModel" (gY 102) (gY 102) ∈ lw_g := wg 776 (by decide +kernel) rfl
theorem wp_102 : (gY 102).cls ≠ "java/lang/invoke/MethodHandle" ∧ (gY 102).cls ≠ "java/lang/invoke/VarHandle" ∧ (parseMethodDescriptor (gY 102).desc).map (fun d => d.parameters.length) = some 0 := by decide +kernel
theorem wc_103 : Cond.code (gY 103) (gB 103) (nl 103) (gT 103) ∈ lw_g := wg 781 (by decide +kernel) rfl
theorem wk_103 : Cond.instanceMethod (gY 103) ∈ lw_g := wg 779 (by decide +kernel) rfl
theorem wi_103 : Cond.initialized (gY 103).cls ∈ lw_g := wg 45 (by decide +kernel) rfl
theorem wv_103 : Cond.selects "RudeCouponsModel" (gY 103) (gY 103) ∈ lw_g := wg 780 (by decide +kernel) rfl
theorem wp_103 : (gY 103).cls ≠ "java/lang/invoke/MethodHandle" ∧ (gY 103).cls ≠ "java/lang/invoke/VarHandle" ∧ (parseMethodDescriptor (gY 103).desc).map (fun d => d.parameters.length) = some 0 := by decide +kernel
theorem wc_104 : Cond.code (gY 104) (gB 104) (nl 104) (gT 104) ∈ lw_g := wg 816 (by decide +kernel) rfl
theorem wk_104 : Cond.instanceMethod (gY 104) ∈ lw_g := wg 814 (by decide +kernel) rfl
theorem wi_104 : Cond.initialized (gY 104).cls ∈ lw_g := wg 45 (by decide +kernel) rfl
theorem wv_104 : Cond.selects "RudeCouponsModel" (gY 104) (gY 104) ∈ lw_g := wg 815 (by decide +kernel) rfl
theorem wp_104 : (gY 104).cls ≠ "java/lang/invoke/MethodHandle" ∧ (gY 104).cls ≠ "java/lang/invoke/VarHandle" ∧ (parseMethodDescriptor (gY 104).desc).map (fun d => d.parameters.length) = some 0 := by decide +kernel
theorem wc_105 : Cond.code (gY 105) (gB 105) (nl 105) (gT 105) ∈ lw_g := wg 821 (by decide +kernel) rfl
theorem wk_105 : Cond.instanceMethod (gY 105) ∈ lw_g := wg 819 (by decide +kernel) rfl
theorem wi_105 : Cond.initialized (gY 105).cls ∈ lw_g := wg 45 (by decide +kernel) rfl
theorem wv_105 : Cond.selects "RudeCouponsModel" (gY 105) (gY 105) ∈ lw_g := wg 820 (by decide +kernel) rfl
theorem wp_105 : (gY 105).cls ≠ "java/lang/invoke/MethodHandle" ∧ (gY 105).cls ≠ "java/lang/invoke/VarHandle" ∧ (parseMethodDescriptor (gY 105).desc).map (fun d => d.parameters.length) = some 2 := by decide +kernel
theorem wc_106 : Cond.code (gY 106) (gB 106) (nl 106) (gT 106) ∈ lw_g := wg 829 (by decide +kernel) rfl
theorem wk_106 : Cond.instanceMethod (gY 106) ∈ lw_g := wg 827 (by decide +kernel) rfl
theorem wi_106 : Cond.initialized (gY 106).cls ∈ lw_g := wg 45 (by decide +kernel) rfl
theorem wv_106 : Cond.selects "RudeCouponsModel" (gY 106) (gY 106) ∈ lw_g := wg 828 (by decide +kernel) rfl
theorem wp_106 : (gY 106).cls ≠ "java/lang/invoke/MethodHandle" ∧ (gY 106).cls ≠ "java/lang/invoke/VarHandle" ∧ (parseMethodDescriptor (gY 106).desc).map (fun d => d.parameters.length) = some 2 := by decide +kernel
theorem wc_107 : Cond.code (gY 107) (gB 107) (nl 107) (gT 107) ∈ lw_g := wg 833 (by decide +kernel) rfl
theorem wk_107 : Cond.instanceMethod (gY 107) ∈ lw_g := wg 831 (by decide +kernel) rfl
theorem wi_107 : Cond.initialized (gY 107).cls ∈ lw_g := wg 45 (by decide +kernel) rfl
theorem wv_107 : Cond.selects "RudeCouponsModel" (gY 107) (gY 107) ∈ lw_g := wg 832 (by decide +kernel) rfl
theorem wp_107 : (gY 107).cls ≠ "java/lang/invoke/MethodHandle" ∧ (gY 107).cls ≠ "java/lang/invoke/VarHandle" ∧ (parseMethodDescriptor (gY 107).desc).map (fun d => d.parameters.length) = some 2 := by decide +kernel
theorem wc_108 : Cond.code (gY 108) (gB 108) (nl 108) (gT 108) ∈ lw_g := wg 837 (by decide +kernel) rfl
theorem wk_108 : Cond.instanceMethod (gY 108) ∈ lw_g := wg 836 (by decide +kernel) rfl
theorem wi_108 : Cond.initialized (gY 108).cls ∈ lw_g := wg 45 (by decide +kernel) rfl
theorem wv_108 : Cond.selects "RudeCouponsModel" (gY 108) (gY 108) ∈ lw_g := wg 17 (by decide +kernel) rfl
theorem wp_108 : (gY 108).cls ≠ "java/lang/invoke/MethodHandle" ∧ (gY 108).cls ≠ "java/lang/invoke/VarHandle" ∧ (parseMethodDescriptor (gY 108).desc).map (fun d => d.parameters.length) = some 1 := by decide +kernel
theorem wc_109 : Cond.code (gY 109) (gB 109) (nl 109) (gT 109) ∈ lw_g := wg 841 (by decide +kernel) rfl
theorem wk_109 : Cond.instanceMethod (gY 109) ∈ lw_g := wg 840 (by decide +kernel) rfl
theorem wi_109 : Cond.initialized (gY 109).cls ∈ lw_g := wg 45 (by decide +kernel) rfl
theorem wv_109 : Cond.selects "RudeCouponsModel" (gY 109) (gY 109) ∈ lw_g := wg 18 (by decide +kernel) rfl
theorem wp_109 : (gY 109).cls ≠ "java/lang/invoke/MethodHandle" ∧ (gY 109).cls ≠ "java/lang/invoke/VarHandle" ∧ (parseMethodDescriptor (gY 109).desc).map (fun d => d.parameters.length) = some 1 := by decide +kernel
theorem wc_110 : Cond.code (gY 110) (gB 110) (nl 110) (gT 110) ∈ lw_g := wg 860 (by decide +kernel) rfl
theorem wk_110 : Cond.instanceMethod (gY 110) ∈ lw_g := wg 858 (by decide +kernel) rfl
theorem wi_110 : Cond.initialized (gY 110).cls ∈ lw_g := wg 45 (by decide +kernel) rfl
theorem wv_110 : Cond.selects "RudeCouponsModel" (gY 110) (gY 110) ∈ lw_g := wg 859 (by decide +kernel) rfl
theorem wp_110 : (gY 110).cls ≠ "java/lang/invoke/MethodHandle" ∧ (gY 110).cls ≠ "java/lang/invoke/VarHandle" ∧ (parseMethodDescriptor (gY 110).desc).map (fun d => d.parameters.length) = some 1 := by decide +kernel
theorem wc_111 : Cond.code (gY 111) (gB 111) (nl 111) (gT 111) ∈ lw_g := wg 864 (by decide +kernel) rfl
theorem wk_111 : Cond.instanceMethod (gY 111) ∈ lw_g := wg 863 (by decide +kernel) rfl
theorem wi_111 : Cond.initialized (gY 111).cls ∈ lw_g := wg 45 (by decide +kernel) rfl
theorem wv_111 : Cond.selects "RudeCouponsModel" (gY 111) (gY 111) ∈ lw_g := wg 22 (by decide +kernel) rfl
theorem wp_111 : (gY 111).cls ≠ "java/lang/invoke/MethodHandle" ∧ (gY 111).cls ≠ "java/lang/invoke/VarHandle" ∧ (parseMethodDescriptor (gY 111).desc).map (fun d => d.parameters.length) = some 0 := by decide +kernel
theorem wc_112 : Cond.code (gY 112) (gB 112) (nl 112) (gT 112) ∈ lw_g := wg 876 (by decide +kernel) rfl
theorem wk_112 : Cond.instanceMethod (gY 112) ∈ lw_g := wg 874 (by decide +kernel) rfl
theorem wi_112 : Cond.initialized (gY 112).cls ∈ lw_g := wg 45 (by decide +kernel) rfl
theorem wv_112 : Cond.selects "RudeCouponsModel" (gY 112) (gY 112) ∈ lw_g := wg 875 (by decide +kernel) rfl
theorem wp_112 : (gY 112).cls ≠ "java/lang/invoke/MethodHandle" ∧ (gY 112).cls ≠ "java/lang/invoke/VarHandle" ∧ (parseMethodDescriptor (gY 112).desc).map (fun d => d.parameters.length) = some 1 := by decide +kernel
theorem wc_113 : Cond.code (gY 113) (gB 113) (nl 113) (gT 113) ∈ lw_g := wg 880 (by decide +kernel) rfl
theorem wk_113 : Cond.instanceMethod (gY 113) ∈ lw_g := wg 878 (by decide +kernel) rfl
theorem wi_113 : Cond.initialized (gY 113).cls ∈ lw_g := wg 45 (by decide +kernel) rfl
theorem wv_113 : Cond.selects "RudeCouponsModel" (gY 113) (gY 113) ∈ lw_g := wg 879 (by decide +kernel) rfl
theorem wp_113 : (gY 113).cls ≠ "java/lang/invoke/MethodHandle" ∧ (gY 113).cls ≠ "java/lang/invoke/VarHandle" ∧ (parseMethodDescriptor (gY 113).desc).map (fun d => d.parameters.length) = some 3 := by decide +kernel
theorem wc_114 : Cond.code (gY 114) (gB 114) (nl 114) (gT 114) ∈ lw_g := wg 884 (by decide +kernel) rfl
theorem wk_114 : Cond.instanceMethod (gY 114) ∈ lw_g := wg 882 (by decide +kernel) rfl
theorem wi_114 : Cond.initialized (gY 114).cls ∈ lw_g := wg 45 (by decide +kernel) rfl
theorem wv_114 : Cond.selects "RudeCouponsModel" (gY 114) (gY 114) ∈ lw_g := wg 883 (by decide +kernel) rfl
theorem wp_114 : (gY 114).cls ≠ "java/lang/invoke/MethodHandle" ∧ (gY 114).cls ≠ "java/lang/invoke/VarHandle" ∧ (parseMethodDescriptor (gY 114).desc).map (fun d => d.parameters.length) = some 1 := by decide +kernel
theorem wc_115 : Cond.code (gY 115) (gB 115) (nl 115) (gT 115) ∈ lw_g := wg 888 (by decide +kernel) rfl
theorem wk_115 : Cond.instanceMethod (gY 115) ∈ lw_g := wg 887 (by decide +kernel) rfl
theorem wi_115 : Cond.initialized (gY 115).cls ∈ lw_g := wg 45 (by decide +kernel) rfl
theorem wv_115 : Cond.selects "RudeCouponsModel" (gY 115) (gY 115) ∈ lw_g := wg 25 (by decide +kernel) rfl
theorem wp_115 : (gY 115).cls ≠ "java/lang/invoke/MethodHandle" ∧ (gY 115).cls ≠ "java/lang/invoke/VarHandle" ∧ (parseMethodDescriptor (gY 115).desc).map (fun d => d.parameters.length) = some 0 := by decide +kernel
theorem wc_116 : Cond.code (gY 116) (gB 116) (nl 116) (gT 116) ∈ lw_g := wg 892 (by decide +kernel) rfl
theorem wk_116 : Cond.instanceMethod (gY 116) ∈ lw_g := wg 890 (by decide +kernel) rfl
theorem wi_116 : Cond.initialized (gY 116).cls ∈ lw_g := wg 45 (by decide +kernel) rfl
theorem wv_116 : Cond.selects "RudeCouponsModel" (gY 116) (gY 116) ∈ lw_g := wg 891 (by decide +kernel) rfl
theorem wp_116 : (gY 116).cls ≠ "java/lang/invoke/MethodHandle" ∧ (gY 116).cls ≠ "java/lang/invoke/VarHandle" ∧ (parseMethodDescriptor (gY 116).desc).map (fun d => d.parameters.length) = some 0 := by decide +kernel
theorem wc_117 : Cond.code (gY 117) (gB 117) (nl 117) (gT 117) ∈ lw_g := wg 896 (by decide +kernel) rfl
theorem wk_117 : Cond.instanceMethod (gY 117) ∈ lw_g := wg 894 (by decide +kernel) rfl
theorem wi_117 : Cond.initialized (gY 117).cls ∈ lw_g := wg 45 (by decide +kernel) rfl
theorem wv_117 : Cond.selects "RudeCouponsModel" (gY 117) (gY 117) ∈ lw_g := wg 895 (by decide +kernel) rfl
theorem wp_117 : (gY 117).cls ≠ "java/lang/invoke/MethodHandle" ∧ (gY 117).cls ≠ "java/lang/invoke/VarHandle" ∧ (parseMethodDescriptor (gY 117).desc).map (fun d => d.parameters.length) = some 2 := by decide +kernel
theorem wc_118 : Cond.code (gY 118) (gB 118) (nl 118) (gT 118) ∈ lw_g := wg 908 (by decide +kernel) rfl
theorem wk_118 : Cond.instanceMethod (gY 118) ∈ lw_g := wg 906 (by decide +kernel) rfl
theorem wi_118 : Cond.initialized (gY 118).cls ∈ lw_g := wg 45 (by decide +kernel) rfl
theorem wv_118 : Cond.selects "RudeCouponsModel" (gY 118) (gY 118) ∈ lw_g := wg 907 (by decide +kernel) rfl
theorem wp_118 : (gY 118).cls ≠ "java/lang/invoke/MethodHandle" ∧ (gY 118).cls ≠ "java/lang/invoke/VarHandle" ∧ (parseMethodDescriptor (gY 118).desc).map (fun d => d.parameters.length) = some 1 := by decide +kernel
theorem wc_119 : Cond.code (gY 119) (gB 119) (nl 119) (gT 119) ∈ lw_g := wg 912 (by decide +kernel) rfl
theorem wk_119 : Cond.instanceMethod (gY 119) ∈ lw_g := wg 910 (by decide +kernel) rfl
theorem wi_119 : Cond.initialized (gY 119).cls ∈ lw_g := wg 45 (by decide +kernel) rfl
theorem wv_119 : Cond.selects "RudeCouponsModel" (gY 119) (gY 119) ∈ lw_g := wg 911 (by decide +kernel) rfl
theorem wp_119 : (gY 119).cls ≠ "java/lang/invoke/MethodHandle" ∧ (gY 119).cls ≠ "java/lang/invoke/VarHandle" ∧ (parseMethodDescriptor (gY 119).desc).map (fun d => d.parameters.length) = some 1 := by decide +kernel
theorem wc_120 : Cond.code (gY 120) (gB 120) (nl 120) (gT 120) ∈ lw_g := wg 916 (by decide +kernel) rfl
theorem wk_120 : Cond.instanceMethod (gY 120) ∈ lw_g := wg 914 (by decide +kernel) rfl
theorem wi_120 : Cond.initialized (gY 120).cls ∈ lw_g := wg 45 (by decide +kernel) rfl
theorem wv_120 : Cond.selects "RudeCouponsModel" (gY 120) (gY 120) ∈ lw_g := wg 915 (by decide +kernel) rfl
theorem wp_120 : (gY 120).cls ≠ "java/lang/invoke/MethodHandle" ∧ (gY 120).cls ≠ "java/lang/invoke/VarHandle" ∧ (parseMethodDescriptor (gY 120).desc).map (fun d => d.parameters.length) = some 1 := by decide +kernel
theorem wc_121 : Cond.code (gY 121) (gB 121) (nl 121) (gT 121) ∈ lw_g := wg 920 (by decide +kernel) rfl
theorem wk_121 : Cond.instanceMethod (gY 121) ∈ lw_g := wg 919 (by decide +kernel) rfl
theorem wi_121 : Cond.initialized (gY 121).cls ∈ lw_g := wg 45 (by decide +kernel) rfl
theorem wv_121 : Cond.selects "RudeCouponsModel" (gY 121) (gY 121) ∈ lw_g := wg 28 (by decide +kernel) rfl
theorem wp_121 : (gY 121).cls ≠ "java/lang/invoke/MethodHandle" ∧ (gY 121).cls ≠ "java/lang/invoke/VarHandle" ∧ (parseMethodDescriptor (gY 121).desc).map (fun d => d.parameters.length) = some 0 := by decide +kernel
theorem wc_122 : Cond.code (gY 122) (gB 122) (nl 122) (gT 122) ∈ lw_g := wg 924 (by decide +kernel) rfl
theorem wk_122 : Cond.instanceMethod (gY 122) ∈ lw_g := wg 922 (by decide +kernel) rfl
theorem wi_122 : Cond.initialized (gY 122).cls ∈ lw_g := wg 45 (by decide +kernel) rfl
theorem wv_122 : Cond.selects "RudeCouponsModel" (gY 122) (gY 122) ∈ lw_g := wg 923 (by decide +kernel) rfl
theorem wp_122 : (gY 122).cls ≠ "java/lang/invoke/MethodHandle" ∧ (gY 122).cls ≠ "java/lang/invoke/VarHandle" ∧ (parseMethodDescriptor (gY 122).desc).map (fun d => d.parameters.length) = some 1 := by decide +kernel
theorem wc_123 : Cond.code (gY 123) (gB 123) (nl 123) (gT 123) ∈ lw_g := wg 928 (by decide +kernel) rfl
theorem wk_123 : Cond.instanceMethod (gY 123) ∈ lw_g := wg 927 (by decide +kernel) rfl
theorem wi_123 : Cond.initialized (gY 123).cls ∈ lw_g := wg 45 (by decide +kernel) rfl
theorem wv_123 : Cond.selects "RudeCouponsModel" (gY 123) (gY 123) ∈ lw_g := wg 29 (by decide +kernel) rfl
theorem wp_123 : (gY 123).cls ≠ "java/lang/invoke/MethodHandle" ∧ (gY 123).cls ≠ "java/lang/invoke/VarHandle" ∧ (parseMethodDescriptor (gY 123).desc).map (fun d => d.parameters.length) = some 1 := by decide +kernel
theorem wc_124 : Cond.code (gY 124) (gB 124) (nl 124) (gT 124) ∈ lw_g := wg 932 (by decide +kernel) rfl
theorem wk_124 : Cond.instanceMethod (gY 124) ∈ lw_g := wg 930 (by decide +kernel) rfl
theorem wi_124 : Cond.initialized (gY 124).cls ∈ lw_g := wg 45 (by decide +kernel) rfl
theorem wv_124 : Cond.selects "RudeCouponsModel" (gY 124) (gY 124) ∈ lw_g := wg 931 (by decide +kernel) rfl
theorem wp_124 : (gY 124).cls ≠ "java/lang/invoke/MethodHandle" ∧ (gY 124).cls ≠ "java/lang/invoke/VarHandle" ∧ (parseMethodDescriptor (gY 124).desc).map (fun d => d.parameters.length) = some 3 := by decide +kernel
theorem wc_125 : Cond.code (gY 125) (gB 125) (nl 125) (gT 125) ∈ lw_g := wg 936 (by decide +kernel) rfl
theorem wk_125 : Cond.instanceMethod (gY 125) ∈ lw_g := wg 934 (by decide +kernel) rfl
theorem wi_125 : Cond.initialized (gY 125).cls ∈ lw_g := wg 45 (by decide +kernel) rfl
theorem wv_125 : Cond.selects "RudeCouponsModel" (gY 125) (gY 125) ∈ lw_g := wg 935 (by decide +kernel) rfl
theorem wp_125 : (gY 125).cls ≠ "java/lang/invoke/MethodHandle" ∧ (gY 125).cls ≠ "java/lang/invoke/VarHandle" ∧ (parseMethodDescriptor (gY 125).desc).map (fun d => d.parameters.length) = some 0 := by decide +kernel
theorem wc_126 : Cond.code (gY 126) (gB 126) (nl 126) (gT 126) ∈ lw_g := wg 940 (by decide +kernel) rfl
theorem wk_126 : Cond.instanceMethod (gY 126) ∈ lw_g := wg 938 (by decide +kernel) rfl
theorem wi_126 : Cond.initialized (gY 126).cls ∈ lw_g := wg 45 (by decide +kernel) rfl
theorem wv_126 : Cond.selects "RudeCouponsModel" (gY 126) (gY 126) ∈ lw_g := wg 939 (by decide +kernel) rfl
theorem wp_126 : (gY 126).cls ≠ "java/lang/invoke/MethodHandle" ∧ (gY 126).cls ≠ "java/lang/invoke/VarHandle" ∧ (parseMethodDescriptor (gY 126).desc).map (fun d => d.parameters.length) = some 0 := by decide +kernel
theorem wc_127 : Cond.code (gY 127) (gB 127) (nl 127) (gT 127) ∈ lw_g := wg 944 (by decide +kernel) rfl
theorem wk_127 : Cond.instanceMethod (gY 127) ∈ lw_g := wg 942 (by decide +kernel) rfl
theorem wi_127 : Cond.initialized (gY 127).cls ∈ lw_g := wg 45 (by decide +kernel) rfl
theorem wv_127 : Cond.selects "RudeCouponsModel" (gY 127) (gY 127) ∈ lw_g := wg 943 (by decide +kernel) rfl
theorem wp_127 : (gY 127).cls ≠ "java/lang/invoke/MethodHandle" ∧ (gY 127).cls ≠ "java/lang/invoke/VarHandle" ∧ (parseMethodDescriptor (gY 127).desc).map (fun d => d.parameters.length) = some 2 := by decide +kernel
theorem wc_128 : Cond.code (gY 128) (gB 128) (nl 128) (gT 128) ∈ lw_g := wg 948 (by decide +kernel) rfl
theorem wk_128 : Cond.instanceMethod (gY 128) ∈ lw_g := wg 946 (by decide +kernel) rfl
theorem wi_128 : Cond.initialized (gY 128).cls ∈ lw_g := wg 45 (by decide +kernel) rfl
theorem wv_128 : Cond.selects "RudeCouponsModel" (gY 128) (gY 128) ∈ lw_g := wg 947 (by decide +kernel) rfl
theorem wp_128 : (gY 128).cls ≠ "java/lang/invoke/MethodHandle" ∧ (gY 128).cls ≠ "java/lang/invoke/VarHandle" ∧ (parseMethodDescriptor (gY 128).desc).map (fun d => d.parameters.length) = some 3 := by decide +kernel
theorem wc_129 : Cond.code (gY 129) (gB 129) (nl 129) (gT 129) ∈ lw_g := wg 952 (by decide +kernel) rfl
theorem wk_129 : Cond.instanceMethod (gY 129) ∈ lw_g := wg 950 (by decide +kernel) rfl
theorem wi_129 : Cond.initialized (gY 129).cls ∈ lw_g := wg 45 (by decide +kernel) rfl
theorem wv_129 : Cond.selects "RudeCouponsModel" (gY 129) (gY 129) ∈ lw_g := wg 951 (by decide +kernel) rfl
theorem wp_129 : (gY 129).cls ≠ "java/lang/invoke/MethodHandle" ∧ (gY 129).cls ≠ "java/lang/invoke/VarHandle" ∧ (parseMethodDescriptor (gY 129).desc).map (fun d => d.parameters.length) = some 1 := by decide +kernel
theorem wc_130 : Cond.code (gY 130) (gB 130) (nl 130) (gT 130) ∈ lw_g := wg 956 (by decide +kernel) rfl
theorem wk_130 : Cond.instanceMethod (gY 130) ∈ lw_g := wg 954 (by decide +kernel) rfl
theorem wi_130 : Cond.initialized (gY 130).cls ∈ lw_g := wg 45 (by decide +kernel) rfl
theorem wv_130 : Cond.selects "RudeCouponsModel" (gY 130) (gY 130) ∈ lw_g := wg 955 (by decide +kernel) rfl
theorem wp_130 : (gY 130).cls ≠ "java/lang/invoke/MethodHandle" ∧ (gY 130).cls ≠ "java/lang/invoke/VarHandle" ∧ (parseMethodDescriptor (gY 130).desc).map (fun d => d.parameters.length) = some 1 := by decide +kernel
theorem wc_131 : Cond.code (gY 131) (gB 131) (nl 131) (gT 131) ∈ lw_g := wg 960 (by decide +kernel) rfl
theorem wk_131 : Cond.instanceMethod (gY 131) ∈ lw_g := wg 958 (by decide +kernel) rfl
theorem wi_131 : Cond.initialized (gY 131).cls ∈ lw_g := wg 45 (by decide +kernel) rfl
theorem wv_131 : Cond.selects "RudeCouponsModel" (gY 131) (gY 131) ∈ lw_g := wg 959 (by decide +kernel) rfl
theorem wp_131 : (gY 131).cls ≠ "java/lang/invoke/MethodHandle" ∧ (gY 131).cls ≠ "java/lang/invoke/VarHandle" ∧ (parseMethodDescriptor (gY 131).desc).map (fun d => d.parameters.length) = some 2 := by decide +kernel
theorem wc_132 : Cond.code (gY 132) (gB 132) (nl 132) (gT 132) ∈ lw_g := wg 968 (by decide +kernel) rfl
theorem wk_132 : Cond.instanceMethod (gY 132) ∈ lw_g := wg 966 (by decide +kernel) rfl
theorem wi_132 : Cond.initialized (gY 132).cls ∈ lw_g := wg 45 (by decide +kernel) rfl
theorem wv_132 : Cond.selects "RudeCouponsModel" (gY 132) (gY 132) ∈ lw_g := wg 967 (by decide +kernel) rfl
theorem wp_132 : (gY 132).cls ≠ "java/lang/invoke/MethodHandle" ∧ (gY 132).cls ≠ "java/lang/invoke/VarHandle" ∧ (parseMethodDescriptor (gY 132).desc).map (fun d => d.parameters.length) = some 0 := by decide +kernel
theorem wc_133 : Cond.code (gY 133) (gB 133) (nl 133) (gT 133) ∈ lw_g := wg 972 (by decide +kernel) rfl
theorem wk_133 : Cond.instanceMethod (gY 133) ∈ lw_g := wg 970 (by decide +kernel) rfl
theorem wi_133 : Cond.initialized (gY 133).cls ∈ lw_g := wg 45 (by decide +kernel) rfl
theorem wv_133 : Cond.selects "RudeCouponsModel" (gY 133) (gY 133) ∈ lw_g := wg 971 (by decide +kernel) rfl
theorem wp_133 : (gY 133).cls ≠ "java/lang/invoke/MethodHandle" ∧ (gY 133).cls ≠ "java/lang/invoke/VarHandle" ∧ (parseMethodDescriptor (gY 133).desc).map (fun d => d.parameters.length) = some 0 := by decide +kernel
theorem wc_134 : Cond.code (gY 134) (gB 134) (nl 134) (gT 134) ∈ lw_g := wg 976 (by decide +kernel) rfl
theorem wk_134 : Cond.instanceMethod (gY 134) ∈ lw_g := wg 974 (by decide +kernel) rfl
theorem wi_134 : Cond.initialized (gY 134).cls ∈ lw_g := wg 45 (by decide +kernel) rfl
theorem wv_134 : Cond.selects "RudeCouponsModel" (gY 134) (gY 134) ∈ lw_g := wg 975 (by decide +kernel) rfl
theorem wp_134 : (gY 134).cls ≠ "java/lang/invoke/MethodHandle" ∧ (gY 134).cls ≠ "java/lang/invoke/VarHandle" ∧ (parseMethodDescriptor (gY 134).desc).map (fun d => d.parameters.length) = some 1 := by decide +kernel
theorem wc_135 : Cond.code (gY 135) (gB 135) (nl 135) (gT 135) ∈ lw_g := wg 980 (by decide +kernel) rfl
theorem wk_135 : Cond.instanceMethod (gY 135) ∈ lw_g := wg 979 (by decide +kernel) rfl
theorem wi_135 : Cond.initialized (gY 135).cls ∈ lw_g := wg 45 (by decide +kernel) rfl
theorem wv_135 : Cond.selects "RudeCouponsModel" (gY 135) (gY 135) ∈ lw_g := wg 30 (by decide +kernel) rfl
theorem wp_135 : (gY 135).cls ≠ "java/lang/invoke/MethodHandle" ∧ (gY 135).cls ≠ "java/lang/invoke/VarHandle" ∧ (parseMethodDescriptor (gY 135).desc).map (fun d => d.parameters.length) = some 0 := by decide +kernel
theorem wc_136 : Cond.code (gY 136) (gB 136) (nl 136) (gT 136) ∈ lw_g := wg 121 (by decide +kernel) rfl
theorem wk_136 : Cond.static (gY 136) ∈ lw_g := wg 120 (by decide +kernel) rfl
theorem wi_136 : Cond.initialized (gY 136).cls ∈ lw_g := wg 37 (by decide +kernel) rfl
theorem wp_136 : (gY 136).cls ≠ "java/lang/invoke/MethodHandle" ∧ (gY 136).cls ≠ "java/lang/invoke/VarHandle" ∧ (parseMethodDescriptor (gY 136).desc).map (fun d => d.parameters.length) = some 2 := by decide +kernel
theorem wc_137 : Cond.code (gY 137) (gB 137) (nl 137) (gT 137) ∈ lw_g := wg 555 (by decide +kernel) rfl
theorem wk_137 : Cond.static (gY 137) ∈ lw_g := wg 554 (by decide +kernel) rfl
theorem wi_137 : Cond.initialized (gY 137).cls ∈ lw_g := wg 37 (by decide +kernel) rfl
theorem wp_137 : (gY 137).cls ≠ "java/lang/invoke/MethodHandle" ∧ (gY 137).cls ≠ "java/lang/invoke/VarHandle" ∧ (parseMethodDescriptor (gY 137).desc).map (fun d => d.parameters.length) = some 2 := by decide +kernel
theorem wc_138 : Cond.code (gY 138) (gB 138) (nl 138) (gT 138) ∈ lw_g := wg 649 (by decide +kernel) rfl
theorem wk_138 : Cond.static (gY 138) ∈ lw_g := wg 648 (by decide +kernel) rfl
theorem wi_138 : Cond.initialized (gY 138).cls ∈ lw_g := wg 46 (by decide +kernel) rfl
theorem wp_138 : (gY 138).cls ≠ "java/lang/invoke/MethodHandle" ∧ (gY 138).cls ≠ "java/lang/invoke/VarHandle" ∧ (parseMethodDescriptor (gY 138).desc).map (fun d => d.parameters.length) = some 1 := by decide +kernel
theorem wc_139 : Cond.code (gY 139) (gB 139) (nl 139) (gT 139) ∈ lw_g := wg 117 (by decide +kernel) rfl
theorem wk_139 : Cond.instanceMethod (gY 139) ∈ lw_g := wg 116 (by decide +kernel) rfl
theorem wi_139 : Cond.initialized (gY 139).cls ∈ lw_g := wg 36 (by decide +kernel) rfl
theorem wp_139 : (gY 139).cls ≠ "java/lang/invoke/MethodHandle" ∧ (gY 139).cls ≠ "java/lang/invoke/VarHandle" ∧ (parseMethodDescriptor (gY 139).desc).map (fun d => d.parameters.length) = some 1 := by decide +kernel
theorem lc_9_7 : Cond.classLink "RudeCouponsLaw" 7 "RudeCoupons" ∈ lw_g := wg 47 (by decide +kernel) rfl
theorem lm_9_9 : Cond.methodLink "RudeCouponsLaw" 9 (gY 58) ∈ lw_g := wg 49 (by decide +kernel) rfl
theorem lo_7 : Cond.methodLink "RudeCoupons" 1 Lib.objectInit ∈ lw_g := wg 52 (by decide +kernel) rfl
theorem lc_7_7 : Cond.classLink "RudeCoupons" 7 "RudeCoupons$Letters" ∈ lw_g := wg 55 (by decide +kernel) rfl
theorem ln_7_9 : Cond.methodLinkNest "RudeCoupons" 9 (gY 28) "RudeCoupons" ∈ nestW := by decide +kernel
theorem lo_1 : Cond.methodLink "RudeCoupons$Letters" 3 Lib.objectInit ∈ lw_g := wg 60 (by decide +kernel) rfl
theorem lc_7_16 : Cond.classLink "RudeCoupons" 16 "RudeCoupons$Reader" ∈ lw_g := wg 71 (by decide +kernel) rfl
theorem ln_7_18 : Cond.methodLinkNest "RudeCoupons" 18 (gY 39) "RudeCoupons" ∈ nestW := by decide +kernel
theorem lo_3 : Cond.methodLink "RudeCoupons$Reader" 3 Lib.objectInit ∈ lw_g := wg 76 (by decide +kernel) rfl
theorem lc_7_23 : Cond.classLink "RudeCoupons" 23 "RudeCoupons$Standing" ∈ lw_g := wg 82 (by decide +kernel) rfl
theorem ln_7_25 : Cond.methodLinkNest "RudeCoupons" 25 (gY 52) "RudeCoupons" ∈ nestW := by decide +kernel
theorem lo_6 : Cond.methodLink "RudeCoupons$Standing" 3 Lib.objectInit ∈ lw_g := wg 87 (by decide +kernel) rfl
theorem lc_7_30 : Cond.classLink "RudeCoupons" 30 "RudeCoupons$Shelf" ∈ lw_g := wg 113 (by decide +kernel) rfl
theorem lm_7_32 : Cond.methodLink "RudeCoupons" 32 (gY 45) ∈ lw_g := wg 115 (by decide +kernel) rfl
theorem lm_7_32b : Cond.methodLink "RudeCoupons" 32 (gY 139) ∈ lw_g := wg 115 (by decide +kernel) rfl
theorem lo_4 : Cond.methodLink "RudeCoupons$Shelf" 1 Lib.objectInit ∈ lw_g := wg 118 (by decide +kernel) rfl
theorem lm_4_7 : Cond.methodLink "RudeCoupons$Shelf" 7 (gY 136) ∈ lw_g := wg 119 (by decide +kernel) rfl
theorem lc_4_13 : Cond.classLink "RudeCoupons$Shelf" 13 "RudeCoupons$Standing" ∈ lw_g := wg 122 (by decide +kernel) rfl
theorem ln_4_21 : Cond.methodLinkNest "RudeCoupons$Shelf" 21 (gY 52) "RudeCoupons" ∈ nestW := by decide +kernel
theorem lc_7_46 : Cond.classLink "RudeCoupons" 46 "RudeCoupons$Sightings" ∈ lw_g := wg 134 (by decide +kernel) rfl
theorem ln_7_48 : Cond.methodLinkNest "RudeCoupons" 48 (gY 49) "RudeCoupons" ∈ nestW := by decide +kernel
theorem lo_5 : Cond.methodLink "RudeCoupons$Sightings" 3 Lib.objectInit ∈ lw_g := wg 139 (by decide +kernel) rfl
theorem lc_7_53 : Cond.classLink "RudeCoupons" 53 "RudeCoupons$Plans" ∈ lw_g := wg 154 (by decide +kernel) rfl
theorem ln_7_55 : Cond.methodLinkNest "RudeCoupons" 55 (gY 32) "RudeCoupons" ∈ nestW := by decide +kernel
theorem lo_2 : Cond.methodLink "RudeCoupons$Plans" 3 Lib.objectInit ∈ lw_g := wg 159 (by decide +kernel) rfl
theorem lc_7_64 : Cond.classLink "RudeCoupons" 64 "RudeCoupons$Book" ∈ lw_g := wg 175 (by decide +kernel) rfl
theorem ln_7_66 : Cond.methodLinkNest "RudeCoupons" 66 (gY 17) "RudeCoupons" ∈ nestW := by decide +kernel
theorem lo_0 : Cond.methodLink "RudeCoupons$Book" 3 Lib.objectInit ∈ lw_g := wg 180 (by decide +kernel) rfl
theorem lm_7_86 : Cond.methodLink "RudeCoupons" 86 (gY 29) ∈ lw_g := wg 292 (by decide +kernel) rfl
theorem lm_7_90 : Cond.methodLink "RudeCoupons" 90 (gY 59) ∈ lw_g := wg 296 (by decide +kernel) rfl
theorem lm_7_100 : Cond.methodLink "RudeCoupons" 100 (gY 40) ∈ lw_g := wg 300 (by decide +kernel) rfl
theorem lm_3_15 : Cond.methodLink "RudeCoupons$Reader" 15 (gY 18) ∈ lw_g := wg 304 (by decide +kernel) rfl
theorem lm_3_26 : Cond.methodLink "RudeCoupons$Reader" 26 (gY 41) ∈ lw_g := wg 308 (by decide +kernel) rfl
theorem lm_3_30 : Cond.methodLink "RudeCoupons$Reader" 30 (gY 42) ∈ lw_g := wg 312 (by decide +kernel) rfl
theorem lm_3_38 : Cond.methodLink "RudeCoupons$Reader" 38 (gY 30) ∈ lw_g := wg 315 (by decide +kernel) rfl
theorem lm_3_46 : Cond.methodLink "RudeCoupons$Reader" 46 (gY 43) ∈ lw_g := wg 319 (by decide +kernel) rfl
theorem lm_3_34 : Cond.methodLink "RudeCoupons$Reader" 34 (gY 44) ∈ lw_g := wg 322 (by decide +kernel) rfl
theorem lm_3_42 : Cond.methodLink "RudeCoupons$Reader" 42 (gY 19) ∈ lw_g := wg 325 (by decide +kernel) rfl
theorem lm_0_52 : Cond.methodLink "RudeCoupons$Book" 52 (gY 20) ∈ lw_g := wg 329 (by decide +kernel) rfl
theorem ln_0_62 : Cond.methodLinkNest "RudeCoupons$Book" 62 (gY 16) "RudeCoupons" ∈ nestW := by decide +kernel
theorem lm_0_56 : Cond.methodLink "RudeCoupons$Book" 56 (gY 21) ∈ lw_g := wg 336 (by decide +kernel) rfl
theorem lm_0_59 : Cond.methodLink "RudeCoupons$Book" 59 (gY 22) ∈ lw_g := wg 340 (by decide +kernel) rfl
theorem lm_0_65 : Cond.methodLink "RudeCoupons$Book" 65 (gY 23) ∈ lw_g := wg 344 (by decide +kernel) rfl
theorem lm_0_69 : Cond.methodLink "RudeCoupons$Book" 69 (gY 24) ∈ lw_g := wg 348 (by decide +kernel) rfl
theorem lm_7_272 : Cond.methodLink "RudeCoupons" 272 (gY 53) ∈ lw_g := wg 352 (by decide +kernel) rfl
theorem lm_9_13 : Cond.methodLink "RudeCouponsLaw" 13 (gY 60) ∈ lw_g := wg 391 (by decide +kernel) rfl
theorem lm_7_96 : Cond.methodLink "RudeCoupons" 96 (gY 16) ∈ lw_g := wg 395 (by decide +kernel) rfl
theorem lm_9_18 : Cond.methodLink "RudeCouponsLaw" 18 (gY 61) ∈ lw_g := wg 396 (by decide +kernel) rfl
theorem lm_9_23 : Cond.methodLink "RudeCouponsLaw" 23 (gY 62) ∈ lw_g := wg 400 (by decide +kernel) rfl
theorem lm_9_27 : Cond.methodLink "RudeCouponsLaw" 27 (gY 63) ∈ lw_g := wg 404 (by decide +kernel) rfl
theorem lm_9_31 : Cond.methodLink "RudeCouponsLaw" 31 (gY 64) ∈ lw_g := wg 408 (by decide +kernel) rfl
theorem lm_7_104 : Cond.methodLink "RudeCoupons" 104 (gY 23) ∈ lw_g := wg 412 (by decide +kernel) rfl
theorem lm_9_36 : Cond.methodLink "RudeCouponsLaw" 36 (gY 65) ∈ lw_g := wg 413 (by decide +kernel) rfl
theorem lm_7_120 : Cond.methodLink "RudeCoupons" 120 (gY 24) ∈ lw_g := wg 417 (by decide +kernel) rfl
theorem lm_9_40 : Cond.methodLink "RudeCouponsLaw" 40 (gY 66) ∈ lw_g := wg 418 (by decide +kernel) rfl
theorem lm_7_132 : Cond.methodLink "RudeCoupons" 132 (gY 25) ∈ lw_g := wg 422 (by decide +kernel) rfl
theorem lm_7_144 : Cond.methodLink "RudeCoupons" 144 (gY 14) ∈ lw_g := wg 426 (by decide +kernel) rfl
theorem lm_7_147 : Cond.methodLink "RudeCoupons" 147 (gY 67) ∈ lw_g := wg 430 (by decide +kernel) rfl
theorem lm_7_245 : Cond.methodLink "RudeCoupons" 245 (gY 10) ∈ lw_g := wg 434 (by decide +kernel) rfl
theorem lm_9_44 : Cond.methodLink "RudeCouponsLaw" 44 (gY 68) ∈ lw_g := wg 438 (by decide +kernel) rfl
theorem lm_7_151 : Cond.methodLink "RudeCoupons" 151 (gY 46) ∈ lw_g := wg 442 (by decide +kernel) rfl
theorem lm_4_26 : Cond.methodLink "RudeCoupons$Shelf" 26 (gY 47) ∈ lw_g := wg 446 (by decide +kernel) rfl
theorem lm_4_29 : Cond.methodLink "RudeCoupons$Shelf" 29 (gY 54) ∈ lw_g := wg 450 (by decide +kernel) rfl
theorem ln_6_39 : Cond.methodLinkNest "RudeCoupons$Standing" 39 (gY 69) "RudeCoupons" ∈ nestW := by decide +kernel
theorem lm_7_164 : Cond.methodLink "RudeCoupons" 164 (gY 26) ∈ lw_g := wg 457 (by decide +kernel) rfl
theorem lm_0_72 : Cond.methodLink "RudeCoupons$Book" 72 (gY 136) ∈ lw_g := wg 461 (by decide +kernel) rfl
theorem lm_9_48 : Cond.methodLink "RudeCouponsLaw" 48 (gY 70) ∈ lw_g := wg 462 (by decide +kernel) rfl
theorem lm_9_52 : Cond.methodLink "RudeCouponsLaw" 52 (gY 71) ∈ lw_g := wg 466 (by decide +kernel) rfl
theorem lm_9_57 : Cond.methodLink "RudeCouponsLaw" 57 (gY 72) ∈ lw_g := wg 470 (by decide +kernel) rfl
theorem lm_7_173 : Cond.methodLink "RudeCoupons" 173 (gY 55) ∈ lw_g := wg 474 (by decide +kernel) rfl
theorem ln_6_49 : Cond.methodLinkNest "RudeCoupons$Standing" 49 (gY 73) "RudeCoupons" ∈ nestW := by decide +kernel
theorem lm_9_61 : Cond.methodLink "RudeCouponsLaw" 61 (gY 74) ∈ lw_g := wg 481 (by decide +kernel) rfl
theorem lm_7_176 : Cond.methodLink "RudeCoupons" 176 (gY 48) ∈ lw_g := wg 485 (by decide +kernel) rfl
theorem lm_9_65 : Cond.methodLink "RudeCouponsLaw" 65 (gY 75) ∈ lw_g := wg 489 (by decide +kernel) rfl
theorem lm_7_183 : Cond.methodLink "RudeCoupons" 183 (gY 33) ∈ lw_g := wg 493 (by decide +kernel) rfl
theorem lm_2_32 : Cond.methodLink "RudeCoupons$Plans" 32 (gY 15) ∈ lw_g := wg 497 (by decide +kernel) rfl
theorem lm_6_45 : Cond.methodLink "RudeCoupons$Standing" 45 (gY 14) ∈ lw_g := wg 501 (by decide +kernel) rfl
theorem lm_2_38 : Cond.methodLink "RudeCoupons$Plans" 38 (gY 11) ∈ lw_g := wg 502 (by decide +kernel) rfl
theorem lm_2_48 : Cond.methodLink "RudeCoupons$Plans" 48 (gY 10) ∈ lw_g := wg 506 (by decide +kernel) rfl
theorem lm_9_69 : Cond.methodLink "RudeCouponsLaw" 69 (gY 76) ∈ lw_g := wg 507 (by decide +kernel) rfl
theorem lm_7_193 : Cond.methodLink "RudeCoupons" 193 (gY 34) ∈ lw_g := wg 511 (by decide +kernel) rfl
theorem lm_9_73 : Cond.methodLink "RudeCouponsLaw" 73 (gY 77) ∈ lw_g := wg 515 (by decide +kernel) rfl
theorem lm_7_197 : Cond.methodLink "RudeCoupons" 197 (gY 35) ∈ lw_g := wg 519 (by decide +kernel) rfl
theorem lm_2_57 : Cond.methodLink "RudeCoupons$Plans" 57 (gY 33) ∈ lw_g := wg 523 (by decide +kernel) rfl
theorem lm_7_201 : Cond.methodLink "RudeCoupons" 201 (gY 78) ∈ lw_g := wg 524 (by decide +kernel) rfl
theorem lm_9_77 : Cond.methodLink "RudeCouponsLaw" 77 (gY 79) ∈ lw_g := wg 528 (by decide +kernel) rfl
theorem lm_7_204 : Cond.methodLink "RudeCoupons" 204 (gY 36) ∈ lw_g := wg 532 (by decide +kernel) rfl
theorem lm_2_61 : Cond.methodLink "RudeCoupons$Plans" 61 (gY 13) ∈ lw_g := wg 536 (by decide +kernel) rfl
theorem lm_2_65 : Cond.methodLink "RudeCoupons$Plans" 65 (gY 12) ∈ lw_g := wg 540 (by decide +kernel) rfl
theorem lm_2_69 : Cond.methodLink "RudeCoupons$Plans" 69 (gY 136) ∈ lw_g := wg 544 (by decide +kernel) rfl
theorem lm_7_211 : Cond.methodLink "RudeCoupons" 211 (gY 37) ∈ lw_g := wg 545 (by decide +kernel) rfl
theorem lm_2_74 : Cond.methodLink "RudeCoupons$Plans" 74 (gY 38) ∈ lw_g := wg 549 (by decide +kernel) rfl
theorem lm_2_77 : Cond.methodLink "RudeCoupons$Plans" 77 (gY 137) ∈ lw_g := wg 553 (by decide +kernel) rfl
theorem lm_9_81 : Cond.methodLink "RudeCouponsLaw" 81 (gY 80) ∈ lw_g := wg 556 (by decide +kernel) rfl
theorem lm_7_214 : Cond.methodLink "RudeCoupons" 214 (gY 81) ∈ lw_g := wg 560 (by decide +kernel) rfl
theorem lm_7_276 : Cond.methodLink "RudeCoupons" 276 (gY 27) ∈ lw_g := wg 564 (by decide +kernel) rfl
theorem lm_0_78 : Cond.methodLink "RudeCoupons$Book" 78 (gY 26) ∈ lw_g := wg 568 (by decide +kernel) rfl
theorem lm_9_85 : Cond.methodLink "RudeCouponsLaw" 85 (gY 82) ∈ lw_g := wg 569 (by decide +kernel) rfl
theorem lm_7_217 : Cond.methodLink "RudeCoupons" 217 (gY 50) ∈ lw_g := wg 573 (by decide +kernel) rfl
theorem lm_9_89 : Cond.methodLink "RudeCouponsLaw" 89 (gY 83) ∈ lw_g := wg 577 (by decide +kernel) rfl
theorem lm_9_93 : Cond.methodLink "RudeCouponsLaw" 93 (gY 84) ∈ lw_g := wg 581 (by decide +kernel) rfl
theorem lm_7_220 : Cond.methodLink "RudeCoupons" 220 (gY 51) ∈ lw_g := wg 585 (by decide +kernel) rfl
theorem lm_5_30 : Cond.methodLink "RudeCoupons$Sightings" 30 (gY 10) ∈ lw_g := wg 589 (by decide +kernel) rfl
theorem lm_9_97 : Cond.methodLink "RudeCouponsLaw" 97 (gY 85) ∈ lw_g := wg 590 (by decide +kernel) rfl
theorem lm_7_224 : Cond.methodLink "RudeCoupons" 224 (gY 56) ∈ lw_g := wg 594 (by decide +kernel) rfl
theorem lm_6_53 : Cond.methodLink "RudeCoupons$Standing" 53 (gY 136) ∈ lw_g := wg 598 (by decide +kernel) rfl
theorem lm_7_227 : Cond.methodLink "RudeCoupons" 227 (gY 137) ∈ lw_g := wg 599 (by decide +kernel) rfl
theorem lm_9_101 : Cond.methodLink "RudeCouponsLaw" 101 (gY 86) ∈ lw_g := wg 600 (by decide +kernel) rfl
theorem lm_9_105 : Cond.methodLink "RudeCouponsLaw" 105 (gY 87) ∈ lw_g := wg 604 (by decide +kernel) rfl
theorem lm_9_109 : Cond.methodLink "RudeCouponsLaw" 109 (gY 88) ∈ lw_g := wg 608 (by decide +kernel) rfl
theorem lm_7_232 : Cond.methodLink "RudeCoupons" 232 (gY 57) ∈ lw_g := wg 612 (by decide +kernel) rfl
theorem lm_9_113 : Cond.methodLink "RudeCouponsLaw" 113 (gY 89) ∈ lw_g := wg 616 (by decide +kernel) rfl
theorem lm_7_235 : Cond.methodLink "RudeCoupons" 235 (gY 69) ∈ lw_g := wg 620 (by decide +kernel) rfl
theorem lm_7_249 : Cond.methodLink "RudeCoupons" 249 (gY 15) ∈ lw_g := wg 621 (by decide +kernel) rfl
theorem lm_7_252 : Cond.methodLink "RudeCoupons" 252 (gY 90) ∈ lw_g := wg 622 (by decide +kernel) rfl
theorem ll_7_279 : Cond.constantLong "RudeCoupons" 279 (lN 7919) ∈ lw_g := wg 625 (by decide +kernel) rfl
theorem ll_7_281 : Cond.constantLong "RudeCoupons" 281 (lN 6151) ∈ lw_g := wg 626 (by decide +kernel) rfl
theorem ll_7_283 : Cond.constantLong "RudeCoupons" 283 (lN 65521) ∈ lw_g := wg 627 (by decide +kernel) rfl
theorem ll_7_285 : Cond.constantLong "RudeCoupons" 285 (lN 8) ∈ lw_g := wg 628 (by decide +kernel) rfl
theorem ll_7_287 : Cond.constantLong "RudeCoupons" 287 (lN 4) ∈ lw_g := wg 629 (by decide +kernel) rfl
theorem lm_7_256 : Cond.methodLink "RudeCoupons" 256 (gY 73) ∈ lw_g := wg 630 (by decide +kernel) rfl
theorem lm_9_117 : Cond.methodLink "RudeCouponsLaw" 117 (gY 91) ∈ lw_g := wg 631 (by decide +kernel) rfl
theorem lm_7_260 : Cond.methodLink "RudeCoupons" 260 (gY 31) ∈ lw_g := wg 635 (by decide +kernel) rfl
theorem lm_9_121 : Cond.methodLink "RudeCouponsLaw" 121 (gY 92) ∈ lw_g := wg 639 (by decide +kernel) rfl
theorem lm_9_125 : Cond.methodLink "RudeCouponsLaw" 125 (gY 93) ∈ lw_g := wg 643 (by decide +kernel) rfl
theorem lm_7_267 : Cond.methodLink "RudeCoupons" 267 (gY 138) ∈ lw_g := wg 647 (by decide +kernel) rfl
theorem li_11_265 : Cond.constant "java/lang/Integer" 265 (nI 1431655765) ∈ lw_g := wg 650 (by decide +kernel) rfl
theorem li_11_266 : Cond.constant "java/lang/Integer" 266 (nI 858993459) ∈ lw_g := wg 651 (by decide +kernel) rfl
theorem li_11_267 : Cond.constant "java/lang/Integer" 267 (nI 252645135) ∈ lw_g := wg 652 (by decide +kernel) rfl
theorem lc_9_10 : Cond.classLink "RudeCouponsLaw" 10 "RudeCouponsModel" ∈ lw_g := wg 653 (by decide +kernel) rfl
theorem lm_9_12 : Cond.methodLink "RudeCouponsLaw" 12 (gY 94) ∈ lw_g := wg 655 (by decide +kernel) rfl
theorem lo_8 : Cond.methodLink "RudeCouponsModel" 1 Lib.objectInit ∈ lw_g := wg 658 (by decide +kernel) rfl
theorem lm_8_58 : Cond.methodLink "RudeCouponsModel" 58 (gY 95) ∈ lw_g := wg 659 (by decide +kernel) rfl
theorem lm_8_61 : Cond.methodLink "RudeCouponsModel" 61 (gY 96) ∈ lw_g := wg 663 (by decide +kernel) rfl
theorem lm_8_65 : Cond.methodLink "RudeCouponsModel" 65 (gY 97) ∈ lw_g := wg 667 (by decide +kernel) rfl
theorem lm_8_68 : Cond.methodLink "RudeCouponsModel" 68 (gY 98) ∈ lw_g := wg 671 (by decide +kernel) rfl
theorem lm_8_71 : Cond.methodLink "RudeCouponsModel" 71 (gY 99) ∈ lw_g := wg 675 (by decide +kernel) rfl
theorem lm_8_134 : Cond.methodLink "RudeCouponsModel" 134 (gY 100) ∈ lw_g := wg 679 (by decide +kernel) rfl
theorem lm_9_17 : Cond.methodLink "RudeCouponsLaw" 17 (gY 101) ∈ lw_g := wg 767 (by decide +kernel) rfl
theorem lm_8_87 : Cond.methodLink "RudeCouponsModel" 87 (gY 7) ∈ lw_g := wg 771 (by decide +kernel) rfl
theorem lm_9_22 : Cond.methodLink "RudeCouponsLaw" 22 (gY 102) ∈ lw_g := wg 774 (by decide +kernel) rfl
theorem lm_9_26 : Cond.methodLink "RudeCouponsLaw" 26 (gY 103) ∈ lw_g := wg 778 (by decide +kernel) rfl
theorem lm_9_30 : Cond.methodLink "RudeCouponsLaw" 30 (gY 104) ∈ lw_g := wg 813 (by decide +kernel) rfl
theorem lm_8_127 : Cond.methodLink "RudeCouponsModel" 127 (gY 103) ∈ lw_g := wg 817 (by decide +kernel) rfl
theorem lm_9_35 : Cond.methodLink "RudeCouponsLaw" 35 (gY 105) ∈ lw_g := wg 818 (by decide +kernel) rfl
theorem lm_8_162 : Cond.methodLink "RudeCouponsModel" 162 (gY 9) ∈ lw_g := wg 822 (by decide +kernel) rfl
theorem lm_9_39 : Cond.methodLink "RudeCouponsLaw" 39 (gY 106) ∈ lw_g := wg 826 (by decide +kernel) rfl
theorem lm_9_43 : Cond.methodLink "RudeCouponsLaw" 43 (gY 107) ∈ lw_g := wg 830 (by decide +kernel) rfl
theorem lm_8_165 : Cond.methodLink "RudeCouponsModel" 165 (gY 108) ∈ lw_g := wg 834 (by decide +kernel) rfl
theorem lm_8_168 : Cond.methodLink "RudeCouponsModel" 168 (gY 109) ∈ lw_g := wg 838 (by decide +kernel) rfl
theorem lm_8_154 : Cond.methodLink "RudeCouponsModel" 154 (gY 0) ∈ lw_g := wg 842 (by decide +kernel) rfl
theorem lm_8_147 : Cond.methodLink "RudeCouponsModel" 147 (gY 1) ∈ lw_g := wg 845 (by decide +kernel) rfl
theorem lm_8_158 : Cond.methodLink "RudeCouponsModel" 158 (gY 3) ∈ lw_g := wg 849 (by decide +kernel) rfl
theorem lm_8_150 : Cond.methodLink "RudeCouponsModel" 150 (gY 2) ∈ lw_g := wg 853 (by decide +kernel) rfl
theorem lm_9_47 : Cond.methodLink "RudeCouponsLaw" 47 (gY 110) ∈ lw_g := wg 857 (by decide +kernel) rfl
theorem lm_8_171 : Cond.methodLink "RudeCouponsModel" 171 (gY 111) ∈ lw_g := wg 861 (by decide +kernel) rfl
theorem lm_8_174 : Cond.methodLink "RudeCouponsModel" 174 (gY 4) ∈ lw_g := wg 865 (by decide +kernel) rfl
theorem lm_8_177 : Cond.methodLink "RudeCouponsModel" 177 (gY 8) ∈ lw_g := wg 869 (by decide +kernel) rfl
theorem lm_9_51 : Cond.methodLink "RudeCouponsLaw" 51 (gY 112) ∈ lw_g := wg 873 (by decide +kernel) rfl
theorem lm_9_56 : Cond.methodLink "RudeCouponsLaw" 56 (gY 113) ∈ lw_g := wg 877 (by decide +kernel) rfl
theorem lm_9_60 : Cond.methodLink "RudeCouponsLaw" 60 (gY 114) ∈ lw_g := wg 881 (by decide +kernel) rfl
theorem lm_8_180 : Cond.methodLink "RudeCouponsModel" 180 (gY 115) ∈ lw_g := wg 885 (by decide +kernel) rfl
theorem lm_9_64 : Cond.methodLink "RudeCouponsLaw" 64 (gY 116) ∈ lw_g := wg 889 (by decide +kernel) rfl
theorem lm_9_68 : Cond.methodLink "RudeCouponsLaw" 68 (gY 117) ∈ lw_g := wg 893 (by decide +kernel) rfl
theorem lm_8_189 : Cond.methodLink "RudeCouponsModel" 189 (gY 6) ∈ lw_g := wg 897 (by decide +kernel) rfl
theorem lm_8_183 : Cond.methodLink "RudeCouponsModel" 183 (gY 5) ∈ lw_g := wg 901 (by decide +kernel) rfl
theorem lm_9_72 : Cond.methodLink "RudeCouponsLaw" 72 (gY 118) ∈ lw_g := wg 905 (by decide +kernel) rfl
theorem lm_9_76 : Cond.methodLink "RudeCouponsLaw" 76 (gY 119) ∈ lw_g := wg 909 (by decide +kernel) rfl
theorem lm_9_80 : Cond.methodLink "RudeCouponsLaw" 80 (gY 120) ∈ lw_g := wg 913 (by decide +kernel) rfl
theorem lm_8_192 : Cond.methodLink "RudeCouponsModel" 192 (gY 121) ∈ lw_g := wg 917 (by decide +kernel) rfl
theorem lm_9_84 : Cond.methodLink "RudeCouponsLaw" 84 (gY 122) ∈ lw_g := wg 921 (by decide +kernel) rfl
theorem lm_8_195 : Cond.methodLink "RudeCouponsModel" 195 (gY 123) ∈ lw_g := wg 925 (by decide +kernel) rfl
theorem lm_9_88 : Cond.methodLink "RudeCouponsLaw" 88 (gY 124) ∈ lw_g := wg 929 (by decide +kernel) rfl
theorem lm_9_92 : Cond.methodLink "RudeCouponsLaw" 92 (gY 125) ∈ lw_g := wg 933 (by decide +kernel) rfl
theorem lm_9_96 : Cond.methodLink "RudeCouponsLaw" 96 (gY 126) ∈ lw_g := wg 937 (by decide +kernel) rfl
theorem lm_9_100 : Cond.methodLink "RudeCouponsLaw" 100 (gY 127) ∈ lw_g := wg 941 (by decide +kernel) rfl
theorem lm_9_104 : Cond.methodLink "RudeCouponsLaw" 104 (gY 128) ∈ lw_g := wg 945 (by decide +kernel) rfl
theorem lm_9_108 : Cond.methodLink "RudeCouponsLaw" 108 (gY 129) ∈ lw_g := wg 949 (by decide +kernel) rfl
theorem lm_9_112 : Cond.methodLink "RudeCouponsLaw" 112 (gY 130) ∈ lw_g := wg 953 (by decide +kernel) rfl
theorem lm_9_116 : Cond.methodLink "RudeCouponsLaw" 116 (gY 131) ∈ lw_g := wg 957 (by decide +kernel) rfl
theorem ll_8_198 : Cond.constantLong "RudeCouponsModel" 198 (lN 7919) ∈ lw_g := wg 961 (by decide +kernel) rfl
theorem ll_8_200 : Cond.constantLong "RudeCouponsModel" 200 (lN 6151) ∈ lw_g := wg 962 (by decide +kernel) rfl
theorem ll_8_202 : Cond.constantLong "RudeCouponsModel" 202 (lN 65521) ∈ lw_g := wg 963 (by decide +kernel) rfl
theorem ll_8_204 : Cond.constantLong "RudeCouponsModel" 204 (lN 8) ∈ lw_g := wg 964 (by decide +kernel) rfl
theorem lm_9_120 : Cond.methodLink "RudeCouponsLaw" 120 (gY 132) ∈ lw_g := wg 965 (by decide +kernel) rfl
theorem lm_9_124 : Cond.methodLink "RudeCouponsLaw" 124 (gY 133) ∈ lw_g := wg 969 (by decide +kernel) rfl
theorem lm_9_128 : Cond.methodLink "RudeCouponsLaw" 128 (gY 134) ∈ lw_g := wg 973 (by decide +kernel) rfl
theorem lm_8_206 : Cond.methodLink "RudeCouponsModel" 206 (gY 135) ∈ lw_g := wg 977 (by decide +kernel) rfl
theorem wn_0 : Cond.instantiable RX0 13 ∈ lw_g := wg 176 (by decide +kernel) rfl
theorem wz_0 : Cond.initialized RX0 ∈ lw_g := wg 40 (by decide +kernel) rfl
theorem wn_1 : Cond.instantiable RX1 2 ∈ lw_g := wg 56 (by decide +kernel) rfl
theorem wz_1 : Cond.initialized RX1 ∈ lw_g := wg 33 (by decide +kernel) rfl
theorem wn_2 : Cond.instantiable RX2 3 ∈ lw_g := wg 155 (by decide +kernel) rfl
theorem wz_2 : Cond.initialized RX2 ∈ lw_g := wg 39 (by decide +kernel) rfl
theorem wn_3 : Cond.instantiable RX3 1 ∈ lw_g := wg 72 (by decide +kernel) rfl
theorem wz_3 : Cond.initialized RX3 ∈ lw_g := wg 34 (by decide +kernel) rfl
theorem wn_4 : Cond.instantiable RX4 2 ∈ lw_g := wg 114 (by decide +kernel) rfl
theorem wz_4 : Cond.initialized RX4 ∈ lw_g := wg 36 (by decide +kernel) rfl
theorem wn_5 : Cond.instantiable RX5 4 ∈ lw_g := wg 135 (by decide +kernel) rfl
theorem wz_5 : Cond.initialized RX5 ∈ lw_g := wg 38 (by decide +kernel) rfl
theorem wn_6 : Cond.instantiable RX6 6 ∈ lw_g := wg 83 (by decide +kernel) rfl
theorem wz_6 : Cond.initialized RX6 ∈ lw_g := wg 35 (by decide +kernel) rfl
theorem wn_7 : Cond.instantiable RX7 11 ∈ lw_g := wg 48 (by decide +kernel) rfl
theorem wz_7 : Cond.initialized RX7 ∈ lw_g := wg 32 (by decide +kernel) rfl
theorem wn_8 : Cond.instantiable RX8 28 ∈ lw_g := wg 654 (by decide +kernel) rfl
theorem wz_8 : Cond.initialized RX8 ∈ lw_g := wg 45 (by decide +kernel) rfl
theorem wa_0 : Cond.arrayClass .int ∈ lw_g := wg 81 (by decide +kernel) rfl
theorem wa_1 : Cond.arrayClass .char ∈ lw_g := wg 70 (by decide +kernel) rfl
theorem wM_max : Cond.static Lib.Math.max.name ∈ lw_g := wg 120 (by decide +kernel) rfl
theorem wN_max : Cond.code Lib.Math.max.name Lib.Math.max.code 2 (some .int) ∈ lw_g := wg 121 (by decide +kernel) rfl
theorem wM_min : Cond.static Lib.Math.min.name ∈ lw_g := wg 554 (by decide +kernel) rfl
theorem wN_min : Cond.code Lib.Math.min.name Lib.Math.min.code 2 (some .int) ∈ lw_g := wg 555 (by decide +kernel) rfl
theorem wM_i : Cond.initialized "java/lang/Math" ∈ lw_g := wg 37 (by decide +kernel) rfl
theorem lM_4_7 : Cond.methodLink "RudeCoupons$Shelf" 7 Lib.Math.max.name ∈ lw_g := wg 119 (by decide +kernel) rfl
theorem lM_0_72 : Cond.methodLink "RudeCoupons$Book" 72 Lib.Math.max.name ∈ lw_g := wg 461 (by decide +kernel) rfl
theorem lM_2_69 : Cond.methodLink "RudeCoupons$Plans" 69 Lib.Math.max.name ∈ lw_g := wg 544 (by decide +kernel) rfl
theorem lM_2_77 : Cond.methodLink "RudeCoupons$Plans" 77 Lib.Math.min.name ∈ lw_g := wg 553 (by decide +kernel) rfl
theorem lM_6_53 : Cond.methodLink "RudeCoupons$Standing" 53 Lib.Math.max.name ∈ lw_g := wg 598 (by decide +kernel) rfl
theorem lM_7_227 : Cond.methodLink "RudeCoupons" 227 Lib.Math.min.name ∈ lw_g := wg 599 (by decide +kernel) rfl
theorem wo_1 : Cond.instanceMethod Lib.objectInit ∈ lw_g := wg 53 (by decide +kernel) rfl
theorem wo_2 : Cond.code Lib.objectInit ⟨#[0xb1]⟩ 1 none ∈ lw_g := wg 54 (by decide +kernel) rfl
