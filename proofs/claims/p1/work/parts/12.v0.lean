/-! the constant and its letters, new int[n][k], as handlers -/
section SND
variable {p : Program} {l : Launch} {e : Env} {R : Room} {s : State} {m : MethodId} {args : Array Value} {below : List Frame} {meth : Method} {c : Code} {Q : State → Prop}
variable {cc : ByteArray} {d : mD} {E : mE} {nL pc : Nat} {F : mF} {cO : mA → Prop} {kO : mK → Prop} {pcs : Nat → Nat}
theorem s_ldcS (hx : p.tables.exec = Jvm.exec) (hb : c.code = cc) (hown : s.vm.findClass "RudeCoupons" = some m.cls) (hKN : KN d E s) (hd : decode cc pc = .ok (.ldc 74, 2)) : HS (OKs p l e R s m args below meth c Q d E nL) F cO kO pcs pc h_str (pc + 2) := by
  intro call j K nx L S h hcall hj hK0 hn hi ls H locs cells slots hl hH
  obtain ⟨g0, hi9⟩ := mm_b_s hi
  clear hi
  have hi := hi9
  clear hi9
  have hT := hKN.2.2.2.2.2 (hH.2.2.1.1.symm.trans g0)
  exact va_ldcS hx hb hown hT.1 hd (hn _ _ _ hi ls H locs cells slots hl hH)
theorem mm_sr_s {x : mV} {b : Bool} (h : mm_sr x b = true) : dn d x = .ref d.2.2.2.1 ∧ b = true := by
  obtain ⟨h1, h2⟩ := mm_b_s h
  exact ⟨mm_q_s h1, h2⟩
theorem s_slen (hx : p.tables.exec = Jvm.exec) (hb : c.code = cc) (hml : c.maxLocals = nL) (hown : s.vm.findClass "RudeCoupons" = some m.cls) (hts : ∀ w ∈ lw_g, w.before args s = true) (hKN : KN d E s) (hf : 4 ≤ R.frames) (hlo : 85 ≤ R.locals) (hd : decode cc pc = .ok (.invokevirtual 76, 3)) : HS (OKs p l e R s m args below meth c Q d E nL) F cO kO pcs pc (h_slen 113) (pc + 3) := by
  intro call j K nx L S h hcall hj hK0 hn hi ls H locs cells slots hl hH
  obtain ⟨x, S, e9, hi9⟩ := mm_p_s hi
  clear hi
  subst e9
  have hi := hi9
  clear hi9
  obtain ⟨g0, hi9⟩ := mm_b_s hi
  clear hi
  have hi := hi9
  clear hi9
  obtain ⟨e0, hi⟩ := mm_sr_s (d := d) hi
  obtain ⟨g, hi9⟩ := mm_b_s hi
  clear hi
  have hi := hi9
  clear hi9
  have g := cat_sum d S (ble_s g)
  have hT := hKN.2.2.2.2.2 (hH.2.2.1.1.symm.trans g0)
  obtain ⟨hR, ⟨aV, hV⟩, hZ, hQ⟩ := id hT
  obtain ⟨-, h2, -, h4, h5, h6, h7⟩ := id hH
  rw [List.map_cons, e0]
  refine W.callR (W.runV (As := []) (b := d.2.2.2.1) (rest := S.map (dn d)) (C := "java/lang/String") (n := 0) (bytes := prog_13_method_54_code) (maxL := 1) (ret := some .int) (g := F0 m pc ls _) ⟨hx, hb, hml, hown, hts⟩ (tT_length l d) ⟨callB_of 0 hts (lw_g_good cT_length) rfl rfl rfl (hts _ iT_length) (hts _ mT_r_length) pT_length ⟨by show 1 + 1 ≤ _; omega, by show 8 + (1 + 11) + 20 ≤ _; omega⟩, hts _ kT_length, hts _ sT_length⟩ ⟨PcT.blind, vk_recv (i := 0) hV (by decide) h2, fun U hU hW => ⟨rfl, hT.next hW (fun q a1 a2 => by rw [hU]; exact h2.2.1 q a1 a2)⟩⟩ rfl rfl hl.1 rfl (lv_room g) hd ⟨by rw [h4]; exact h6, by rw [h5]; exact h7⟩) ?_
  exact hn _ _ _ hi ls H locs cells slots hl hH
theorem s_char (hx : p.tables.exec = Jvm.exec) (hb : c.code = cc) (hml : c.maxLocals = nL) (hown : s.vm.findClass "RudeCoupons" = some m.cls) (hts : ∀ w ∈ lw_g, w.before args s = true) (hKN : KN d E s) (hf : 4 ≤ R.frames) (hlo : 85 ≤ R.locals) (hd : decode cc pc = .ok (.invokevirtual 82, 3)) : HS (OKs p l e R s m args below meth c Q d E nL) F cO kO pcs pc (h_char 113 tx_M) (pc + 3) := by
  intro call j K nx L S h hcall hj hK0 hn hi ls H locs cells slots hl hH
  obtain ⟨y, S, e9, hi9⟩ := mm_p_s hi
  clear hi
  subst e9
  have hi := hi9
  clear hi9
  obtain ⟨x, S, e9, hi9⟩ := mm_p_s hi
  clear hi
  subst e9
  have hi := hi9
  clear hi9
  obtain ⟨g0, hi9⟩ := mm_b_s hi
  clear hi
  have hi := hi9
  clear hi9
  obtain ⟨e0, hi⟩ := mm_sr_s (d := d) hi
  rcases mm_i_s hi with ⟨i, e9, hi9⟩ | hi9
  · clear hi
    subst e9
    have hi := hi9
    clear hi9
    obtain ⟨g1, hi9⟩ := mm_b_s hi
    clear hi
    have hi := hi9
    clear hi9
    obtain ⟨g, hi9⟩ := mm_b_s hi
    clear hi
    have hi := hi9
    clear hi9
    have g1 := blt_s g1
    have g := cat_sum d S (ble_s g)
    have hi := mm_f_s hi
    have hT := hKN.2.2.2.2.2 (hH.2.2.1.1.symm.trans g0)
    obtain ⟨hR, ⟨aV, hV⟩, hZ, hQ⟩ := id hT
    obtain ⟨-, h2, -, h4, h5, h6, h7⟩ := id hH
    rw [List.map_cons, List.map_cons, e0]
    refine W.callR (W.runV (As := [.int (nI i)]) (b := d.2.2.2.1) (rest := S.map (dn d)) (C := "java/lang/String") (n := 1) (bytes := prog_13_method_56_code) (maxL := 2) (ret := some .char) (g := F0 m pc ls _) ⟨hx, hb, hml, hown, hts⟩ (tT_sca l d i g1) ⟨callB_of 1 hts (lw_g_good cT_sca) rfl rfl rfl (hts _ iT_sca) (hts _ mT_r_sca) pT_sca ⟨by show 3 + 1 ≤ _; omega, by show 8 + (2 + 11) + 64 ≤ _; omega⟩, hts _ kT_sca, hts _ sT_sca⟩ ⟨PcT.blind, vk_recv (i := 0) hV (by decide) h2, fun U hU hW => ⟨rfl, hT.next hW (fun q a1 a2 => by rw [hU]; exact h2.2.1 q a1 a2)⟩⟩ rfl rfl hl.1 rfl (lv_room g) hd ⟨by rw [h4]; exact h6, by rw [h5]; exact h7⟩) ?_
    exact hn _ _ _ hi ls H locs cells slots hl hH
  · clear hi
    have hi := hi9
    clear hi9
    cases hi
theorem gd_rf (a n : Nat) : (fun j => rf d (mm_refs a n)[j]?) = fun j => if j < n then some (d.1 + (a + j)) else none := by
  funext j
  unfold mm_refs
  rw [List.getElem?_map]
  by_cases h : j < n
  · rw [List.getElem?_range h, if_pos h]
    rfl
  · rw [List.getElem?_eq_none (by rw [List.length_range]; omega), if_neg h]
    rfl
theorem s_mna (hx : p.tables.exec = Jvm.exec) (hb : c.code = cc) {own : String} {index : Nat} (hown : s.vm.findClass own = some m.cls) (hclink : (Cond.classLink own index ("[" ++ (FieldType.array .int).toString)).before args s = true) (harr : (Cond.arrayClass .int).before args s = true) (hover : va_AOI s) (hK : va_K E.1 xcl (xtys E.2) s) (hb0 : d.1 ≤ s.heap.size) (hd : decode cc pc = .ok (.multianewarray index 2, 4)) : HS (OKs p l e R s m args below meth c Q d E nL) F cO kO pcs pc (h_mna R.cells R.slots) (pc + 4) := by
  intro call j K nx L S h hcall hj hK0 hn hi ls H locs cells slots hl hH
  obtain ⟨y, S, e9, hi9⟩ := mm_p_s hi
  clear hi
  subst e9
  have hi := hi9
  clear hi9
  obtain ⟨x, S, e9, hi9⟩ := mm_p_s hi
  clear hi
  subst e9
  have hi := hi9
  clear hi9
  rcases mm_i_s hi with ⟨k, e9, hi9⟩ | hi9
  · clear hi
    subst e9
    have hi := hi9
    clear hi9
    rcases mm_i_s hi with ⟨n, e9, hi9⟩ | hi9
    · clear hi
      subst e9
      have hi := hi9
      clear hi9
      obtain ⟨g0, hi9⟩ := mm_b_s hi
      clear hi
      have hi := hi9
      clear hi9
      obtain ⟨g3, hi9⟩ := mm_b_s hi
      clear hi
      have hi := hi9
      clear hi9
      obtain ⟨g4, hi9⟩ := mm_b_s hi
      clear hi
      have hi := hi9
      clear hi9
      have g3 := ble_s g3
      have g4 := ble_s g4
      have hi := mm_f_s hi
      have hi := mm_f_s hi
      obtain ⟨g1, hi9⟩ := mm_b_s hi
      clear hi
      have hi := hi9
      clear hi9
      obtain ⟨g2, hi9⟩ := mm_b_s hi
      clear hi
      have hi := hi9
      clear hi9
      have hi := mm_ap_s (mm_f_s hi)
      have g1 : h.2.1 + (n + 1) ≤ R.cells := ble_s g1
      have g2 : h.2.2.1 + (n + n * k) ≤ R.slots := ble_s g2
      obtain ⟨h1, h2, h3, h4, h5, h6, h7⟩ := id hH
      intro T hT X
      have hsz : H.size = d.1 + h.2.2.2.length := by
        have k1 : T.heap.size ≤ s.heap.size + cells := X.heapSize
        rw [hT, h4] at k1
        have k2 := h3.2 g0
        have k3 : d.1 + h.2.2.2.length ≤ H.size := by
          by_cases hz : h.2.2.2.length = 0
          · have := h2.1
            omega
          · have hlt : h.2.2.2.length - 1 < h.2.2.2.length := by omega
            have t9 : d.1 + (h.2.2.2.length - 1) < H.size := (h1 _ _ (wo_at (List.getElem?_eq_getElem hlt))).lt
            omega
        omega
      obtain ⟨vm₁, cA, cB, L9, hW, fA, fB, hL, XF, st⟩ := gd_law X hx hown hclink hover harr (g := F0 m pc ls _) rfl (by rw [hb]; exact hd) (n := nI n) (k := nI k) (N := n) (K := k) rfl (nI_pos (by omega)) (nI_pos (by omega)) (nI_clamp (by omega)) (nI_clamp (by omega)) g3 g4 (by rw [h4]; omega) (by rw [h5]; exact g2)
      have eA : cA = E.2 4 := Option.some.inj (fA.symm.trans (hK.2 4 _ rfl).2)
      have eB : cB = E.2 0 := Option.some.inj (fB.symm.trans (hK.2 0 _ rfl).2)
      subst eA
      subst eB
      have hTs : (T.setVm vm₁).heap = H := hT
      have a0 : (T.setVm vm₁).heap.size = d.1 + h.2.2.2.length := by rw [hTs]; exact hsz
      obtain ⟨f1, f2, -, -⟩ := gd_facts (T.setVm vm₁) (E.2 4) (E.2 0) n k n
      have f3 := fun a ha => gd_old (T.setVm vm₁) (E.2 4) (E.2 0) n k (a := a) ha n
      have f4 := fun i hi => gd_in (T.setVm vm₁) (E.2 4) (E.2 0) n k n i hi
      generalize hG : gdS (T.setVm vm₁) (E.2 4) (E.2 0) n k n = G at *
      rw [a0] at f1 f2 f3 f4
      have hP : va_P E.1 xcl (wo d E.2 d.1 (h.2.2.2 ++ (.inr (.inr (4, mm_refs (h.2.2.2.length + 1) n)) :: mm_rows n k h.2.2.2.length))) G.heap := by
        rw [wo_app]
        refine va_P.app (h1.kept (fun q x hx => ?_)) (fun q x hx => ?_)
        · have := (h1 q x hx).lt
          rw [f3 x.1 (by omega), hTs]
        · rw [wo_get] at hx
          obtain ⟨c9, hc9, rfl⟩ := Option.map_eq_some_iff.mp hx
          cases q with
          | zero =>
            cases hc9
            show G.heap[d.1 + h.2.2.2.length + 0]? = some (vp_cell _ _)
            rw [Nat.add_zero, f2]
            unfold gdO
            dsimp only
            rw [vp_cell_q]
            rw [show (mm_refs (h.2.2.2.length + 1) n).length = n by unfold mm_refs; rw [List.length_map, List.length_range]]
            refine congrArg some (congrArg (arrV (E.2 4) n) (funext fun q => ?_))
            rw [show rf d (mm_refs (h.2.2.2.length + 1) n)[q]? = if q < n then some (d.1 + (h.2.2.2.length + 1 + q)) else none from congrFun (gd_rf (d := d) (h.2.2.2.length + 1) n) q]
            by_cases hq : q < n
            · rw [if_pos hq, if_pos hq]
              exact congrArg Value.ref (show d.1 + h.2.2.2.length + 1 + q = d.1 + (h.2.2.2.length + 1 + q) by omega)
            · rw [if_neg hq, if_neg hq]
              rfl
          | succ q =>
            have hc8 : (List.replicate n (.inl (0, k, 0) : mC))[q]? = some c9 := hc9
            rw [List.getElem?_replicate] at hc8
            by_cases hq : q < n
            · rw [if_pos hq] at hc8
              cases hc8
              show G.heap[d.1 + h.2.2.2.length + (q + 1)]? = some (vp_cell _ _)
              rw [show d.1 + h.2.2.2.length + (q + 1) = d.1 + h.2.2.2.length + 1 + q by omega, f4 q hq]
              unfold gdI
              dsimp only
              rw [vp_cell_i]
              refine congrArg some (congrArg (arrV (E.2 0) k) (funext fun q => ?_))
              rw [gt_div, Nat.zero_div]
              rfl
            · rw [if_neg hq] at hc8
              cases hc8
      have hH' : HR d E s R (true, h.2.1 + (n + 1), h.2.2.1 + (n + n * k), h.2.2.2 ++ (.inr (.inr (4, mm_refs (h.2.2.2.length + 1) n)) :: mm_rows n k h.2.2.2.length)) G.heap (locs ++ L9) (cells + 1 + n) (slots + n + n * k) := by
        refine ⟨hP, ⟨by rw [f1]; have := h2.1; omega, fun q a1 a2 => ?_, fun q hq => ?_⟩, ⟨g0.symm.trans h3.1, fun _ => ?_⟩, by rw [h4]; show h.2.1 + 1 + n = h.2.1 + (n + 1); omega, by rw [h5]; show h.2.2.1 + n + n * k = h.2.2.1 + (n + n * k); omega, g1, g2⟩
        · have := h2.1
          rw [f3 q (by omega), hTs]
          exact h2.2.1 q a1 a2
        · rcases List.mem_append.mp hq with hq | hq
          · exact h2.2.2 q hq
          · show d.1 ≤ q.base
            have b9 : q.base = T.heap.size := hL q hq
            rw [b9, hT, hsz]
            omega
        · show s.heap.size + (h.2.1 + (n + 1)) = d.1 + (h.2.2.2 ++ (.inr (.inr (4, mm_refs (h.2.2.2.length + 1) n)) :: mm_rows n k h.2.2.2.length)).length
          rw [List.length_append, List.length_cons]
          unfold mm_rows
          rw [List.length_replicate]
          have := h3.2 g0
          omega
      obtain ⟨t2, a1, b1⟩ := hn _ _ _ hi ls G.heap (locs ++ L9) _ _ hl hH' G rfl XF
      refine ⟨t2, st t2 ?_, b1⟩
      rw [hT, hsz]
      exact a1
    · clear hi
      have hi := hi9
      clear hi9
      cases hi
  · clear hi
    have hi := hi9
    clear hi9
    cases hi
end SND
theorem lcA_9 : Cond.classLink "RudeCoupons$Plans" 9 ("[" ++ (FieldType.array .int).toString) ∈ lw_g := wg 160 (by decide +kernel) rfl
