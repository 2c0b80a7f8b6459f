/-! THE TEXT: the methods of the JDK that read the constant -/
def yT_coder : MethodName := ⟨"java/lang/String", "coder", "()B"⟩
def rT_coder : Room := { frames := 0, cells := 0, slots := 0, locals := 0 }
theorem cT_coder : Cond.code yT_coder prog_13_method_152_code 1 (some .byte) ∈ lw_g := wg 251 (by decide +kernel) rfl
theorem kT_coder : Cond.instanceMethod yT_coder ∈ lw_g := wg 249 (by decide +kernel) rfl
theorem sT_coder : Cond.selects "java/lang/String" yT_coder yT_coder ∈ lw_g := wg 250 (by decide +kernel) rfl
theorem iT_coder : Cond.initialized yT_coder.cls ∈ lw_g := wg 41 (by decide +kernel) rfl
theorem pT_coder : yT_coder.cls ≠ "java/lang/invoke/MethodHandle" ∧ yT_coder.cls ≠ "java/lang/invoke/VarHandle" ∧ (parseMethodDescriptor yT_coder.desc).map (fun d => d.parameters.length) = some 0 := by decide +kernel
def yT_length : MethodName := ⟨"java/lang/String", "length", "()I"⟩
def rT_length : Room := { frames := 1, cells := 0, slots := 0, locals := 20 }
theorem cT_length : Cond.code yT_length prog_13_method_54_code 1 (some .int) ∈ lw_g := wg 247 (by decide +kernel) rfl
theorem kT_length : Cond.instanceMethod yT_length ∈ lw_g := wg 245 (by decide +kernel) rfl
theorem sT_length : Cond.selects "java/lang/String" yT_length yT_length ∈ lw_g := wg 246 (by decide +kernel) rfl
theorem iT_length : Cond.initialized yT_length.cls ∈ lw_g := wg 41 (by decide +kernel) rfl
theorem pT_length : yT_length.cls ≠ "java/lang/invoke/MethodHandle" ∧ yT_length.cls ≠ "java/lang/invoke/VarHandle" ∧ (parseMethodDescriptor yT_length.desc).map (fun d => d.parameters.length) = some 0 := by decide +kernel
def yT_isl : MethodName := ⟨"java/lang/String", "isLatin1", "()Z"⟩
def rT_isl : Room := { frames := 0, cells := 0, slots := 0, locals := 0 }
theorem cT_isl : Cond.code yT_isl prog_13_method_154_code 1 (some .boolean) ∈ lw_g := wg 261 (by decide +kernel) rfl
theorem kT_isl : Cond.instanceMethod yT_isl ∈ lw_g := wg 259 (by decide +kernel) rfl
theorem sT_isl : Cond.selects "java/lang/String" yT_isl yT_isl ∈ lw_g := wg 260 (by decide +kernel) rfl
theorem iT_isl : Cond.initialized yT_isl.cls ∈ lw_g := wg 41 (by decide +kernel) rfl
theorem pT_isl : yT_isl.cls ≠ "java/lang/invoke/MethodHandle" ∧ yT_isl.cls ≠ "java/lang/invoke/VarHandle" ∧ (parseMethodDescriptor yT_isl.desc).map (fun d => d.parameters.length) = some 0 := by decide +kernel
def yT_pci : MethodName := ⟨"jdk/internal/util/Preconditions", "checkIndex", "(IILjava/util/function/BiFunction;)I"⟩
def rT_pci : Room := { frames := 0, cells := 0, slots := 0, locals := 0 }
theorem cT_pci : Cond.code yT_pci prog_16_method_11_code 3 (some .int) ∈ lw_g := wg 272 (by decide +kernel) rfl
theorem kT_pci : Cond.static yT_pci ∈ lw_g := wg 271 (by decide +kernel) rfl
theorem iT_pci : Cond.initialized yT_pci.cls ∈ lw_g := wg 43 (by decide +kernel) rfl
theorem pT_pci : yT_pci.cls ≠ "java/lang/invoke/MethodHandle" ∧ yT_pci.cls ≠ "java/lang/invoke/VarHandle" ∧ (parseMethodDescriptor yT_pci.desc).map (fun d => d.parameters.length) = some 3 := by decide +kernel
def yT_sci : MethodName := ⟨"java/lang/String", "checkIndex", "(II)V"⟩
def rT_sci : Room := { frames := 1, cells := 0, slots := 0, locals := 22 }
theorem cT_sci : Cond.code yT_sci prog_13_method_155_code 2 (none) ∈ lw_g := wg 267 (by decide +kernel) rfl
theorem kT_sci : Cond.static yT_sci ∈ lw_g := wg 266 (by decide +kernel) rfl
theorem iT_sci : Cond.initialized yT_sci.cls ∈ lw_g := wg 41 (by decide +kernel) rfl
theorem pT_sci : yT_sci.cls ≠ "java/lang/invoke/MethodHandle" ∧ yT_sci.cls ≠ "java/lang/invoke/VarHandle" ∧ (parseMethodDescriptor yT_sci.desc).map (fun d => d.parameters.length) = some 2 := by decide +kernel
def yT_lca : MethodName := ⟨"java/lang/StringLatin1", "charAt", "([BI)C"⟩
def rT_lca : Room := { frames := 2, cells := 0, slots := 0, locals := 43 }
theorem cT_lca : Cond.code yT_lca prog_14_method_2_code 2 (some .char) ∈ lw_g := wg 264 (by decide +kernel) rfl
theorem kT_lca : Cond.static yT_lca ∈ lw_g := wg 263 (by decide +kernel) rfl
theorem iT_lca : Cond.initialized yT_lca.cls ∈ lw_g := wg 42 (by decide +kernel) rfl
theorem pT_lca : yT_lca.cls ≠ "java/lang/invoke/MethodHandle" ∧ yT_lca.cls ≠ "java/lang/invoke/VarHandle" ∧ (parseMethodDescriptor yT_lca.desc).map (fun d => d.parameters.length) = some 2 := by decide +kernel
def yT_sca : MethodName := ⟨"java/lang/String", "charAt", "(I)C"⟩
def rT_sca : Room := { frames := 3, cells := 0, slots := 0, locals := 64 }
theorem cT_sca : Cond.code yT_sca prog_13_method_56_code 2 (some .char) ∈ lw_g := wg 257 (by decide +kernel) rfl
theorem kT_sca : Cond.instanceMethod yT_sca ∈ lw_g := wg 255 (by decide +kernel) rfl
theorem sT_sca : Cond.selects "java/lang/String" yT_sca yT_sca ∈ lw_g := wg 256 (by decide +kernel) rfl
theorem iT_sca : Cond.initialized yT_sca.cls ∈ lw_g := wg 41 (by decide +kernel) rfl
theorem pT_sca : yT_sca.cls ≠ "java/lang/invoke/MethodHandle" ∧ yT_sca.cls ≠ "java/lang/invoke/VarHandle" ∧ (parseMethodDescriptor yT_sca.desc).map (fun d => d.parameters.length) = some 1 := by decide +kernel
theorem mT_r_length : Cond.methodLink "RudeCoupons" 76 yT_length ∈ lw_g := wg 244 (by decide +kernel) rfl
theorem mT_s_coder : Cond.methodLink "java/lang/String" 335 yT_coder ∈ lw_g := wg 248 (by decide +kernel) rfl
theorem fT_38 : Cond.fieldLink "java/lang/String" 38 "java/lang/String" "COMPACT_STRINGS" "Z" ∈ lw_g := wg 252 (by decide +kernel) rfl
theorem mT_r_sca : Cond.methodLink "RudeCoupons" 82 yT_sca ∈ lw_g := wg 254 (by decide +kernel) rfl
theorem mT_s_isl : Cond.methodLink "java/lang/String" 492 yT_isl ∈ lw_g := wg 258 (by decide +kernel) rfl
theorem mT_s_lca : Cond.methodLink "java/lang/String" 495 yT_lca ∈ lw_g := wg 262 (by decide +kernel) rfl
theorem mT_l_sci : Cond.methodLink "java/lang/StringLatin1" 9 yT_sci ∈ lw_g := wg 265 (by decide +kernel) rfl
theorem fT_1053 : Cond.fieldLink "java/lang/String" 1053 "jdk/internal/util/Preconditions" "SIOOBE_FORMATTER" "Ljava/util/function/BiFunction;" ∈ lw_g := wg 268 (by decide +kernel) rfl
theorem mT_s_pci : Cond.methodLink "java/lang/String" 1059 yT_pci ∈ lw_g := wg 270 (by decide +kernel) rfl
theorem fT_9 : Cond.fieldLink "java/lang/String" 9 "java/lang/String" "value" "[B" ∈ lw_g := wg 981 (by decide +kernel) rfl
theorem fT_15 : Cond.fieldLink "java/lang/String" 15 "java/lang/String" "coder" "B" ∈ lw_g := wg 982 (by decide +kernel) rfl
theorem sl_len (vs : List Value) (h : ∀ v ∈ vs, v.category = 1) : (lg_sl vs).length = vs.length := by
  induction vs with
  | nil => rfl
  | cons v vs ih =>
    have e1 := h v List.mem_cons_self
    have e2 := ih (fun w hw => h w (List.mem_cons_of_mem _ hw))
    unfold lg_sl at e2 ⊢
    rw [List.flatMap_cons, List.length_append, e2, if_neg (by rw [e1]; decide)]
    simp
    omega
def PcT (d : mD) (av : List Value) : Array Value → State → Prop := fun v U => v = av.toArray ∧ TXok d U
theorem PcT.blind {d : mD} {av : List Value} : FrameBlind (PcT d av) := fun a U g mk q => ⟨q.1, q.2.same (U := U.calling g mk a) rfl rfl⟩
def QcN : Array Value → State → Outcome → State → Prop := fun _ st o t => o = .returned none ∧ t.heap = st.heap
theorem W.callN {p : Program} {l : Launch} {e : Env} {R : Room} {s : State} {m : MethodId} {args : Array Value} {below : List Frame} {meth : Method} {c : Code} {H : Heap} {locs : List Loc} {cells slots : Nat} {Q : State → Prop} {g : JFrame} {rest : List Value} {a : Array Value} (hr : CallRun p l e R s m args below meth c H locs cells slots 0 0 g rest (QcN a) (fun _ => False)) (kk : W p l e R s m args below meth c H locs cells slots Q { g with pc := g.pc + 3, stack := rest }) : W p l e R s m args below meth c H locs cells slots Q g := by
  intro T hT X
  obtain ⟨v, st₀, t, T', L, h0, X', hL, e1, ⟨hv, hh⟩, st⟩ := hr T hT X
  cases hv
  obtain ⟨t2, a1, b1⟩ := kk T' (by rw [e1, hh, h0]) (Stand.forget X' (fun q h => (hL q h).elim))
  exact ⟨t2, st t2 a1, b1⟩
theorem tx_len : txB.length = 113 := by decide +kernel
theorem tx_at : ∀ i, i < 113 → txB.getD i 0 &&& 255 = nI (mm_gt tx_M i) ∧ mm_gt tx_M i ≤ 255 := by decide +kernel
theorem tT_coder (l : Launch) (d : mD) : Met l yT_coder (Cond.code yT_coder prog_13_method_152_code 1 (some .byte) :: lw_g) rT_coder (PcT d ([.ref d.2.2.2.1])) (QcRead 0) 0 0 (fun _ => False) := by
  refine Met.ofW (cc := prog_13_method_152_code) (maxL := 1) (ret := some .byte) (by decide +kernel) rfl ?_
  intro p e s m args below meth c s₁ B hml hv
  obtain ⟨rfl, hT⟩ := hv
  have hx := B.exec
  have hb := B.bytes
  have hr := B.returns
  have hts0 := atoms_spec (ws := Cond.code yT_coder prog_13_method_152_code 1 (some .byte) :: lw_g) B.pre
  have hts : ∀ w ∈ lw_g, w.before _ s = true := fun w hw => hts0 w (List.mem_cons_of_mem _ hw)
  have hown : s.vm.findClass "java/lang/String" = some m.cls := findClass_of_methodNamed B.named
  have hlocks := B.notSynchronized
  have hS : va_S (fun q => d.1 ≤ q) s.heap s.heap [] := va_S.rf
  obtain ⟨hR, ⟨aV', hV⟩, hZ, hQ⟩ := id hT
  have hl := lv_entry ([.ref d.2.2.2.1]) (n := 1) (Nat.le_of_ble_eq_true rfl)
  rw [lg_entry_eq]
  generalize (lg_sl ([.ref d.2.2.2.1]) ++ List.replicate (1 - (lg_sl ([.ref d.2.2.2.1])).length) Slot.unset).toArray = ls at hl ⊢
  refine va_gets hx hb hZ hS hown (hts _ fT_38) (fun _ h9 => h9) (show decode prog_13_method_152_code 0 = .ok (.getstatic 38, 3) by decide +kernel) ?_
  refine lv_if_eq (tgt := 13) hx hb (show decode prog_13_method_152_code 3 = .ok (.ifCond .eq (10), 3) by decide +kernel) (by decide) (fun q => absurd q (by decide)) (fun _ => ?_)
  refine lv_aload_n hx hb (k := 0) (show decode prog_13_method_152_code 6 = .ok (.aload_n 0, 1) by decide +kernel) rfl (lv_at hl 0 rfl) ?_
  refine vk_getf hx hb (hV.1 0 (by decide)).2.1 hS hown (hts _ fT_15) (fun _ h9 => h9) (show decode prog_13_method_152_code 7 = .ok (.getfield 15, 3) by decide +kernel) ?_
  refine lv_goto (tgt := 14) hx hb (show decode prog_13_method_152_code 10 = .ok (.goto (4), 3) by decide +kernel) (by decide) ?_
  exact W.zret (v := 0) hx hb hr rfl (fun t ht _ => ⟨rfl, ht⟩) (fun q hq => by cases hq) (show decode prog_13_method_152_code 14 = .ok (.ireturn, 1) by decide +kernel) hlocks
theorem tT_isl (l : Launch) (d : mD) : Met l yT_isl (Cond.code yT_isl prog_13_method_154_code 1 (some .boolean) :: lw_g) rT_isl (PcT d ([.ref d.2.2.2.1])) (QcRead 1) 0 0 (fun _ => False) := by
  refine Met.ofW (cc := prog_13_method_154_code) (maxL := 1) (ret := some .boolean) (by decide +kernel) rfl ?_
  intro p e s m args below meth c s₁ B hml hv
  obtain ⟨rfl, hT⟩ := hv
  have hx := B.exec
  have hb := B.bytes
  have hr := B.returns
  have hts0 := atoms_spec (ws := Cond.code yT_isl prog_13_method_154_code 1 (some .boolean) :: lw_g) B.pre
  have hts : ∀ w ∈ lw_g, w.before _ s = true := fun w hw => hts0 w (List.mem_cons_of_mem _ hw)
  have hown : s.vm.findClass "java/lang/String" = some m.cls := findClass_of_methodNamed B.named
  have hlocks := B.notSynchronized
  have hS : va_S (fun q => d.1 ≤ q) s.heap s.heap [] := va_S.rf
  obtain ⟨hR, ⟨aV', hV⟩, hZ, hQ⟩ := id hT
  have hl := lv_entry ([.ref d.2.2.2.1]) (n := 1) (Nat.le_of_ble_eq_true rfl)
  rw [lg_entry_eq]
  generalize (lg_sl ([.ref d.2.2.2.1]) ++ List.replicate (1 - (lg_sl ([.ref d.2.2.2.1])).length) Slot.unset).toArray = ls at hl ⊢
  refine va_gets hx hb hZ hS hown (hts _ fT_38) (fun _ h9 => h9) (show decode prog_13_method_154_code 0 = .ok (.getstatic 38, 3) by decide +kernel) ?_
  refine lv_if_eq (tgt := 17) hx hb (show decode prog_13_method_154_code 3 = .ok (.ifCond .eq (14), 3) by decide +kernel) (by decide) (fun q => absurd q (by decide)) (fun _ => ?_)
  refine lv_aload_n hx hb (k := 0) (show decode prog_13_method_154_code 6 = .ok (.aload_n 0, 1) by decide +kernel) rfl (lv_at hl 0 rfl) ?_
  refine vk_getf hx hb (hV.1 0 (by decide)).2.1 hS hown (hts _ fT_15) (fun _ h9 => h9) (show decode prog_13_method_154_code 7 = .ok (.getfield 15, 3) by decide +kernel) ?_
  refine lv_if_ne (tgt := 17) hx hb (show decode prog_13_method_154_code 10 = .ok (.ifCond .ne (7), 3) by decide +kernel) (by decide) (fun q => absurd rfl q) (fun _ => ?_)
  refine lv_iconst (v := 1) hx hb (show decode prog_13_method_154_code 13 = .ok (.iconst 1, 1) by decide +kernel) (by decide) ?_
  refine lv_goto (tgt := 18) hx hb (show decode prog_13_method_154_code 14 = .ok (.goto (4), 3) by decide +kernel) (by decide) ?_
  exact W.zret (v := 1) hx hb hr rfl (fun t ht _ => ⟨rfl, ht⟩) (fun q hq => by cases hq) (show decode prog_13_method_154_code 18 = .ok (.ireturn, 1) by decide +kernel) hlocks
theorem tT_length (l : Launch) (d : mD) : Met l yT_length (Cond.code yT_length prog_13_method_54_code 1 (some .int) :: lw_g) rT_length (PcT d ([.ref d.2.2.2.1])) (QcRead (nI 113)) 0 0 (fun _ => False) := by
  refine Met.ofW (cc := prog_13_method_54_code) (maxL := 1) (ret := some .int) (by decide +kernel) rfl ?_
  intro p e s m args below meth c s₁ B hml hv
  obtain ⟨rfl, hT⟩ := hv
  have hx := B.exec
  have hb := B.bytes
  have hr := B.returns
  have hts0 := atoms_spec (ws := Cond.code yT_length prog_13_method_54_code 1 (some .int) :: lw_g) B.pre
  have hts : ∀ w ∈ lw_g, w.before _ s = true := fun w hw => hts0 w (List.mem_cons_of_mem _ hw)
  have hown : s.vm.findClass "java/lang/String" = some m.cls := findClass_of_methodNamed B.named
  have hlocks := B.notSynchronized
  have hS : va_S (fun q => d.1 ≤ q) s.heap s.heap [] := va_S.rf
  obtain ⟨hR, ⟨aV', hV⟩, hZ, hQ⟩ := id hT
  have hl := lv_entry ([.ref d.2.2.2.1]) (n := 1) (Nat.le_of_ble_eq_true rfl)
  rw [lg_entry_eq]
  generalize (lg_sl ([.ref d.2.2.2.1]) ++ List.replicate (1 - (lg_sl ([.ref d.2.2.2.1])).length) Slot.unset).toArray = ls at hl ⊢
  refine lv_aload_n hx hb (k := 0) (show decode prog_13_method_54_code 0 = .ok (.aload_n 0, 1) by decide +kernel) rfl (lv_at hl 0 rfl) ?_
  refine vk_getf hx hb (hV.1 0 (by decide)).2.2.1 hS hown (hts _ fT_9) (fun _ h9 => h9) (show decode prog_13_method_54_code 1 = .ok (.getfield 9, 3) by decide +kernel) ?_
  refine va_tlen hx hb (hV.1 0 (by decide)).2.2.2 hS (v := nI 113) rfl (show decode prog_13_method_54_code 4 = .ok (.arraylength, 1) by decide +kernel) ?_
  refine lv_aload_n hx hb (k := 0) (show decode prog_13_method_54_code 5 = .ok (.aload_n 0, 1) by decide +kernel) rfl (lv_at hl 0 rfl) ?_
  refine W.callR (W.runV (As := []) (b := d.2.2.2.1) (rest := [.int (nI 113)]) (C := "java/lang/String") (n := 0) (bytes := prog_13_method_152_code) (maxL := 1) (ret := some .byte) (g := F0 m 6 ls _) ⟨hx, hb, hml, hown, hts⟩ (tT_coder l d) ⟨callB_of 0 hts (lw_g_good cT_coder) rfl rfl rfl (hts _ iT_coder) (hts _ mT_s_coder) pT_coder ⟨Nat.le_of_ble_eq_true rfl, Nat.le_of_ble_eq_true rfl⟩, hts _ kT_coder, hts _ sT_coder⟩ ⟨PcT.blind, vk_recv (i := 0) hV (by decide) hS, fun U hU hW => ⟨rfl, hT.next hW (fun q _ _ => by rw [hU])⟩⟩ rfl rfl hl.1 rfl (lv_room (Nat.le_of_ble_eq_true rfl)) (show decode prog_13_method_54_code 6 = .ok (.invokevirtual 335, 3) by decide +kernel) ⟨Nat.le_of_ble_eq_true rfl, Nat.le_of_ble_eq_true rfl⟩) ?_
  refine lv_ishr hx hb (show decode prog_13_method_54_code 9 = .ok (.ishr, 1) by decide +kernel) ?_
  rw [show nI 113 >>> ((0 : Int32) &&& 31) = nI 113 from by decide]
  exact W.iret (v := nI 113) hx hb hr (fun t ht _ => ⟨rfl, ht⟩) (fun q hq => by cases hq) (show decode prog_13_method_54_code 10 = .ok (.ireturn, 1) by decide +kernel) hlocks
theorem tT_pci (l : Launch) (d : mD) (i n : Nat) (hi : i < n) (hn : n ≤ 65535) (z : Value) (hz : z.category = 1) : Met l yT_pci (Cond.code yT_pci prog_16_method_11_code 3 (some .int) :: lw_g) rT_pci (PcT d [.int (nI i), .int (nI n), z]) (QcRead (nI i)) 0 0 (fun _ => False) := by
  refine Met.ofW (cc := prog_16_method_11_code) (maxL := 3) (ret := some .int) (by decide +kernel) rfl ?_
  intro p e s m args below meth c s₁ B hml hv
  obtain ⟨rfl, hT⟩ := hv
  have hx := B.exec
  have hb := B.bytes
  have hr := B.returns
  have hts0 := atoms_spec (ws := Cond.code yT_pci prog_16_method_11_code 3 (some .int) :: lw_g) B.pre
  have hts : ∀ w ∈ lw_g, w.before _ s = true := fun w hw => hts0 w (List.mem_cons_of_mem _ hw)
  have hown : s.vm.findClass "jdk/internal/util/Preconditions" = some m.cls := findClass_of_methodNamed B.named
  have hlocks := B.notSynchronized
  have hS : va_S (fun q => d.1 ≤ q) s.heap s.heap [] := va_S.rf
  obtain ⟨hR, ⟨aV', hV⟩, hZ, hQ⟩ := id hT
  have hl := lv_entry ([.int (nI i), .int (nI n), z]) (n := 3) (by rw [sl_len _ (by intro v hv; rcases List.mem_cons.mp hv with rfl | hv; exact rfl; rcases List.mem_cons.mp hv with rfl | hv; exact rfl; rcases List.mem_cons.mp hv with rfl | hv; exact hz; cases hv)]; exact Nat.le_refl _)
  rw [lg_entry_eq]
  generalize (lg_sl ([.int (nI i), .int (nI n), z]) ++ List.replicate (3 - (lg_sl ([.int (nI i), .int (nI n), z])).length) Slot.unset).toArray = ls at hl ⊢
  refine lv_iload_n hx hb (k := 0) (show decode prog_16_method_11_code 0 = .ok (.iload_n 0, 1) by decide +kernel) rfl (lv_at hl 0 rfl) ?_
  refine lv_if_lt (tgt := 9) hx hb (show decode prog_16_method_11_code 1 = .ok (.ifCond .lt (8), 3) by decide +kernel) (by decide) (fun q => absurd q (nI_pos (by omega))) (fun _ => ?_)
  refine lv_iload_n hx hb (k := 0) (show decode prog_16_method_11_code 4 = .ok (.iload_n 0, 1) by decide +kernel) rfl (lv_at hl 0 rfl) ?_
  refine lv_iload_n hx hb (k := 1) (show decode prog_16_method_11_code 5 = .ok (.iload_n 1, 1) by decide +kernel) rfl (lv_at hl 1 rfl) ?_
  refine lv_icmp_lt (tgt := 16) hx hb (show decode prog_16_method_11_code 6 = .ok (.if_icmp .lt (10), 3) by decide +kernel) (by decide) (fun _ => ?_) (fun q => absurd (nI_lt hi (by omega)) q)
  refine lv_iload_n hx hb (k := 0) (show decode prog_16_method_11_code 16 = .ok (.iload_n 0, 1) by decide +kernel) rfl (lv_at hl 0 rfl) ?_
  exact W.iret (v := nI i) hx hb hr (fun t ht _ => ⟨rfl, ht⟩) (fun q hq => by cases hq) (show decode prog_16_method_11_code 17 = .ok (.ireturn, 1) by decide +kernel) hlocks
theorem tT_sci (l : Launch) (d : mD) (i n : Nat) (hi : i < n) (hn : n ≤ 65535) : Met l yT_sci (Cond.code yT_sci prog_13_method_155_code 2 (none) :: lw_g) rT_sci (PcT d ([.int (nI i), .int (nI n)])) (QcN) 0 0 (fun _ => False) := by
  refine Met.ofW (cc := prog_13_method_155_code) (maxL := 2) (ret := none) (by decide +kernel) rfl ?_
  intro p e s m args below meth c s₁ B hml hv
  obtain ⟨rfl, hT⟩ := hv
  have hx := B.exec
  have hb := B.bytes
  have hr := B.returns
  have hts0 := atoms_spec (ws := Cond.code yT_sci prog_13_method_155_code 2 (none) :: lw_g) B.pre
  have hts : ∀ w ∈ lw_g, w.before _ s = true := fun w hw => hts0 w (List.mem_cons_of_mem _ hw)
  have hown : s.vm.findClass "java/lang/String" = some m.cls := findClass_of_methodNamed B.named
  have hlocks := B.notSynchronized
  have hS : va_S (fun q => d.1 ≤ q) s.heap s.heap [] := va_S.rf
  obtain ⟨hR, ⟨aV', hV⟩, hZ, hQ⟩ := id hT
  have hl := lv_entry ([.int (nI i), .int (nI n)]) (n := 2) (Nat.le_of_ble_eq_true rfl)
  rw [lg_entry_eq]
  generalize (lg_sl ([.int (nI i), .int (nI n)]) ++ List.replicate (2 - (lg_sl ([.int (nI i), .int (nI n)])).length) Slot.unset).toArray = ls at hl ⊢
  refine lv_iload_n hx hb (k := 0) (show decode prog_13_method_155_code 0 = .ok (.iload_n 0, 1) by decide +kernel) rfl (lv_at hl 0 rfl) ?_
  refine lv_iload_n hx hb (k := 1) (show decode prog_13_method_155_code 1 = .ok (.iload_n 1, 1) by decide +kernel) rfl (lv_at hl 1 rfl) ?_
  rcases hQ with hQ | ⟨t9, hQ⟩
  · refine va_gets hx hb hQ hS hown (hts _ fT_1053) (fun _ h9 => h9) (show decode prog_13_method_155_code 2 = .ok (.getstatic 1053, 3) by decide +kernel) ?_
    refine W.callR (W.runS (As := [.int (nI i), .int (nI n), .null]) (rest := []) (n := 3) (bytes := prog_16_method_11_code) (maxL := 3) (ret := some .int) (g := F0 m 5 ls _) ⟨hx, hb, hml, hown, hts⟩ (tT_pci l d i n hi hn .null rfl) ⟨callB_of 3 hts (lw_g_good cT_pci) rfl rfl rfl (hts _ iT_pci) (hts _ mT_s_pci) pT_pci ⟨Nat.le_of_ble_eq_true rfl, Nat.le_of_ble_eq_true rfl⟩, hts _ kT_pci⟩ ⟨PcT.blind, fun U hU hW => ⟨rfl, hT.next hW (fun q _ _ => by rw [hU])⟩⟩ rfl rfl hl.1 rfl (lv_room (Nat.le_of_ble_eq_true rfl)) (show decode prog_13_method_155_code 5 = .ok (.invokestatic 1059, 3) by decide +kernel) ⟨Nat.le_of_ble_eq_true rfl, Nat.le_of_ble_eq_true rfl⟩) ?_
    refine lv_pop hx hb (show decode prog_13_method_155_code 8 = .ok (.pop, 1) by decide +kernel) rfl ?_
    exact W.vret hx hb hr (fun t ht _ => ⟨rfl, ht⟩) (fun q hq => by cases hq) (show decode prog_13_method_155_code 9 = .ok (.return_, 1) by decide +kernel) hlocks
  · refine va_gets hx hb hQ hS hown (hts _ fT_1053) (fun _ h9 => h9) (show decode prog_13_method_155_code 2 = .ok (.getstatic 1053, 3) by decide +kernel) ?_
    refine W.callR (W.runS (As := [.int (nI i), .int (nI n), .ref t9]) (rest := []) (n := 3) (bytes := prog_16_method_11_code) (maxL := 3) (ret := some .int) (g := F0 m 5 ls _) ⟨hx, hb, hml, hown, hts⟩ (tT_pci l d i n hi hn (.ref t9) rfl) ⟨callB_of 3 hts (lw_g_good cT_pci) rfl rfl rfl (hts _ iT_pci) (hts _ mT_s_pci) pT_pci ⟨Nat.le_of_ble_eq_true rfl, Nat.le_of_ble_eq_true rfl⟩, hts _ kT_pci⟩ ⟨PcT.blind, fun U hU hW => ⟨rfl, hT.next hW (fun q _ _ => by rw [hU])⟩⟩ rfl rfl hl.1 rfl (lv_room (Nat.le_of_ble_eq_true rfl)) (show decode prog_13_method_155_code 5 = .ok (.invokestatic 1059, 3) by decide +kernel) ⟨Nat.le_of_ble_eq_true rfl, Nat.le_of_ble_eq_true rfl⟩) ?_
    refine lv_pop hx hb (show decode prog_13_method_155_code 8 = .ok (.pop, 1) by decide +kernel) rfl ?_
    exact W.vret hx hb hr (fun t ht _ => ⟨rfl, ht⟩) (fun q hq => by cases hq) (show decode prog_13_method_155_code 9 = .ok (.return_, 1) by decide +kernel) hlocks
/-- where the text's letters lie -/
def PcV (d : mD) (aV : Nat) (av : List Value) : Array Value → State → Prop := fun v U => v = av.toArray ∧ TXok d U ∧ va_T .byte aV 113 (fun j => .int (txB.getD j 0)) (fun q => d.1 ≤ q) U U.heap
theorem PcV.blind {d : mD} {aV : Nat} {av : List Value} : FrameBlind (PcV d aV av) := fun a U g mk q => ⟨q.1, q.2.1.same (U := U.calling g mk a) rfl rfl, va_T.moved (u := U) (U := U.calling g mk a) (Vm.Alike.refl U.vm) q.2.2⟩
theorem tT_lca (l : Launch) (d : mD) (aV i : Nat) (hi : i < 113) : Met l yT_lca (Cond.code yT_lca prog_14_method_2_code 2 (some .char) :: lw_g) rT_lca (PcV d aV [.ref aV, .int (nI i)]) (QcRead (nI (mm_gt tx_M i))) 0 0 (fun _ => False) := by
  refine Met.ofW (cc := prog_14_method_2_code) (maxL := 2) (ret := some .char) (by decide +kernel) rfl ?_
  intro p e s m args below meth c s₁ B hml hv
  obtain ⟨rfl, hT, hW9⟩ := hv
  have hx := B.exec
  have hb := B.bytes
  have hr := B.returns
  have hts0 := atoms_spec (ws := Cond.code yT_lca prog_14_method_2_code 2 (some .char) :: lw_g) B.pre
  have hts : ∀ w ∈ lw_g, w.before _ s = true := fun w hw => hts0 w (List.mem_cons_of_mem _ hw)
  have hown : s.vm.findClass "java/lang/StringLatin1" = some m.cls := findClass_of_methodNamed B.named
  have hlocks := B.notSynchronized
  have hS : va_S (fun q => d.1 ≤ q) s.heap s.heap [] := va_S.rf
  obtain ⟨hR, ⟨aV', hV⟩, hZ, hQ⟩ := id hT
  have hl := lv_entry ([.ref aV, .int (nI i)]) (n := 2) (Nat.le_of_ble_eq_true rfl)
  rw [lg_entry_eq]
  generalize (lg_sl ([.ref aV, .int (nI i)]) ++ List.replicate (2 - (lg_sl ([.ref aV, .int (nI i)])).length) Slot.unset).toArray = ls at hl ⊢
  refine lv_iload_n hx hb (k := 1) (show decode prog_14_method_2_code 0 = .ok (.iload_n 1, 1) by decide +kernel) rfl (lv_at hl 1 rfl) ?_
  refine lv_aload_n hx hb (k := 0) (show decode prog_14_method_2_code 1 = .ok (.aload_n 0, 1) by decide +kernel) rfl (lv_at hl 0 rfl) ?_
  refine va_tlen hx hb hW9 hS (v := nI 113) rfl (show decode prog_14_method_2_code 2 = .ok (.arraylength, 1) by decide +kernel) ?_
  refine W.callN (W.runS (As := [.int (nI i), .int (nI 113)]) (rest := []) (n := 2) (bytes := prog_13_method_155_code) (maxL := 2) (ret := none) (g := F0 m 3 ls _) ⟨hx, hb, hml, hown, hts⟩ (tT_sci l d i 113 hi (by decide)) ⟨callB_of 2 hts (lw_g_good cT_sci) rfl rfl rfl (hts _ iT_sci) (hts _ mT_l_sci) pT_sci ⟨Nat.le_of_ble_eq_true rfl, Nat.le_of_ble_eq_true rfl⟩, hts _ kT_sci⟩ ⟨PcT.blind, fun U hU hW => ⟨rfl, hT.next hW (fun q _ _ => by rw [hU])⟩⟩ rfl rfl hl.1 rfl (lv_room (Nat.le_of_ble_eq_true rfl)) (show decode prog_14_method_2_code 3 = .ok (.invokestatic 9, 3) by decide +kernel) ⟨Nat.le_of_ble_eq_true rfl, Nat.le_of_ble_eq_true rfl⟩) ?_
  refine lv_aload_n hx hb (k := 0) (show decode prog_14_method_2_code 6 = .ok (.aload_n 0, 1) by decide +kernel) rfl (lv_at hl 0 rfl) ?_
  refine lv_iload_n hx hb (k := 1) (show decode prog_14_method_2_code 7 = .ok (.iload_n 1, 1) by decide +kernel) rfl (lv_at hl 1 rfl) ?_
  refine va_tb hx hb hW9 hS (i := nI i) (vp_in_nI hi (by decide)) (v := .int (txB.getD i 0)) (by rw [nI_clamp (by omega)]) (show decode prog_14_method_2_code 8 = .ok (.baload, 1) by decide +kernel) ?_
  refine lv_sipush (v := 255) hx hb (show decode prog_14_method_2_code 9 = .ok (.sipush 255, 3) by decide +kernel) (by decide) ?_
  refine lv_iand hx hb (show decode prog_14_method_2_code 12 = .ok (.iand, 1) by decide +kernel) ?_
  rw [(tx_at i hi).1]
  refine lv_i2c (v := nI (mm_gt tx_M i)) hx hb (show decode prog_14_method_2_code 13 = .ok (.i2c, 1) by decide +kernel) (by rw [nI_i2c]; show nI (mm_gt tx_M i % 65536) = _; rw [Nat.mod_eq_of_lt (by have := (tx_at i hi).2; omega)]) ?_
  exact W.zret (v := nI (mm_gt tx_M i)) hx hb hr (nar_c2 _ (by have := (tx_at i hi).2; omega)) (fun t ht _ => ⟨rfl, ht⟩) (fun q hq => by cases hq) (show decode prog_14_method_2_code 14 = .ok (.ireturn, 1) by decide +kernel) hlocks
theorem tT_sca (l : Launch) (d : mD) (i : Nat) (hi : i < 113) : Met l yT_sca (Cond.code yT_sca prog_13_method_56_code 2 (some .char) :: lw_g) rT_sca (PcT d ([.ref d.2.2.2.1, .int (nI i)])) (QcRead (nI (mm_gt tx_M i))) 0 0 (fun _ => False) := by
  refine Met.ofW (cc := prog_13_method_56_code) (maxL := 2) (ret := some .char) (by decide +kernel) rfl ?_
  intro p e s m args below meth c s₁ B hml hv
  obtain ⟨rfl, hT⟩ := hv
  have hx := B.exec
  have hb := B.bytes
  have hr := B.returns
  have hts0 := atoms_spec (ws := Cond.code yT_sca prog_13_method_56_code 2 (some .char) :: lw_g) B.pre
  have hts : ∀ w ∈ lw_g, w.before _ s = true := fun w hw => hts0 w (List.mem_cons_of_mem _ hw)
  have hown : s.vm.findClass "java/lang/String" = some m.cls := findClass_of_methodNamed B.named
  have hlocks := B.notSynchronized
  have hS : va_S (fun q => d.1 ≤ q) s.heap s.heap [] := va_S.rf
  obtain ⟨hR, ⟨aV', hV⟩, hZ, hQ⟩ := id hT
  have hl := lv_entry ([.ref d.2.2.2.1, .int (nI i)]) (n := 2) (Nat.le_of_ble_eq_true rfl)
  rw [lg_entry_eq]
  generalize (lg_sl ([.ref d.2.2.2.1, .int (nI i)]) ++ List.replicate (2 - (lg_sl ([.ref d.2.2.2.1, .int (nI i)])).length) Slot.unset).toArray = ls at hl ⊢
  refine lv_aload_n hx hb (k := 0) (show decode prog_13_method_56_code 0 = .ok (.aload_n 0, 1) by decide +kernel) rfl (lv_at hl 0 rfl) ?_
  refine W.callR (W.runV (As := []) (b := d.2.2.2.1) (rest := []) (C := "java/lang/String") (n := 0) (bytes := prog_13_method_154_code) (maxL := 1) (ret := some .boolean) (g := F0 m 1 ls _) ⟨hx, hb, hml, hown, hts⟩ (tT_isl l d) ⟨callB_of 0 hts (lw_g_good cT_isl) rfl rfl rfl (hts _ iT_isl) (hts _ mT_s_isl) pT_isl ⟨Nat.le_of_ble_eq_true rfl, Nat.le_of_ble_eq_true rfl⟩, hts _ kT_isl, hts _ sT_isl⟩ ⟨PcT.blind, vk_recv (i := 0) hV (by decide) hS, fun U hU hW => ⟨rfl, hT.next hW (fun q _ _ => by rw [hU])⟩⟩ rfl rfl hl.1 rfl (lv_room (Nat.le_of_ble_eq_true rfl)) (show decode prog_13_method_56_code 1 = .ok (.invokevirtual 492, 3) by decide +kernel) ⟨Nat.le_of_ble_eq_true rfl, Nat.le_of_ble_eq_true rfl⟩) ?_
  refine lv_if_eq (tgt := 16) hx hb (show decode prog_13_method_56_code 4 = .ok (.ifCond .eq (12), 3) by decide +kernel) (by show ((4 : Nat) : Int) + 12 = ((16 : Nat) : Int); decide) (fun q => absurd q (by decide)) (fun _ => ?_)
  refine lv_aload_n hx hb (k := 0) (show decode prog_13_method_56_code 7 = .ok (.aload_n 0, 1) by decide +kernel) rfl (lv_at hl 0 rfl) ?_
  refine vk_getf hx hb (hV.1 0 (by decide)).2.2.1 hS hown (hts _ fT_9) (fun _ h9 => h9) (show decode prog_13_method_56_code 8 = .ok (.getfield 9, 3) by decide +kernel) ?_
  refine lv_iload_n hx hb (k := 1) (show decode prog_13_method_56_code 11 = .ok (.iload_n 1, 1) by decide +kernel) rfl (lv_at hl 1 rfl) ?_
  refine W.callR (W.runS (As := [.ref aV', .int (nI i)]) (rest := []) (n := 2) (bytes := prog_14_method_2_code) (maxL := 2) (ret := some .char) (g := F0 m 12 ls _) ⟨hx, hb, hml, hown, hts⟩ (tT_lca l d aV' i hi) ⟨callB_of 2 hts (lw_g_good cT_lca) rfl rfl rfl (hts _ iT_lca) (hts _ mT_s_lca) pT_lca ⟨Nat.le_of_ble_eq_true rfl, Nat.le_of_ble_eq_true rfl⟩, hts _ kT_lca⟩ ⟨PcV.blind, fun U hU hW => ⟨rfl, hT.next hW (fun q _ _ => by rw [hU]), by rw [hU]; exact va_T.moved hW.alike (hV.1 0 (by decide)).2.2.2⟩⟩ rfl rfl hl.1 rfl (lv_room (Nat.le_of_ble_eq_true rfl)) (show decode prog_13_method_56_code 12 = .ok (.invokestatic 495, 3) by decide +kernel) ⟨Nat.le_of_ble_eq_true rfl, Nat.le_of_ble_eq_true rfl⟩) ?_
  exact W.zret (v := nI (mm_gt tx_M i)) hx hb hr (nar_c2 _ (by have := (tx_at i hi).2; omega)) (fun t ht _ => ⟨rfl, ht⟩) (fun q hq => by cases hq) (show decode prog_13_method_56_code 15 = .ok (.ireturn, 1) by decide +kernel) hlocks
