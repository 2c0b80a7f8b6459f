/-! a method's end, switches, arrays of references, making -/
/-- what a run's end is in the machine -/
def QcM (d : mD) (E : mE) (K : mK) (mc : Nat) : Array Value → State → Outcome → State → Prop := fun _ st oc t => ∃ (v : Option mV) (hp : List mC), K v hp = true ∧ oc = .returned (v.map (dn d)) ∧ va_P E.1 xcl (wo d E.2 d.1 hp) t.heap ∧ va_F (fun q => d.1 ≤ q) st t ∧ (d.2.2.2.2 = true → st.heap.size + mc = d.1 + hp.length)
theorem nar_z (a : Nat) (h : a ≤ 1) : narrow .boolean (.int (nI a)) = .int (nI a) := by
  rcases a with _ | _ | a
  · rfl
  · rfl
  · omega
theorem nar_c2 (a : Nat) (h : a ≤ 65535) : narrow .char (.int (nI a)) = .int (nI a) := (pk_charN (q := a) (by omega)).1
theorem def_ref {t : FieldType} (h : t.isReference = true) : defaultValue t = .null := by
  cases t <;> first | rfl | cases h
def kz : Option mV → Nat
  | some (.inl 0) => 0
  | some (.inr (.inr (.inr (.inr (.inr 0))))) => 1
  | _ => 2
theorem kz_0 {x : Option mV} (h : kz x = 0) : x = some (.inl 0) := by
  rcases x with _ | n | n | n | n | n | n
  · cases h
  · cases n with
    | zero => rfl
    | succ n => cases h
  · cases h
  · cases h
  · cases h
  · cases h
  · cases n with
    | zero => cases h
    | succ n => cases h
theorem kz_1 {x : Option mV} (h : kz x = 1) : x = some (.inr (.inr (.inr (.inr (.inr 0))))) := by
  rcases x with _ | n | n | n | n | n | n
  · cases h
  · cases n with
    | zero => cases h
    | succ n => cases h
  · cases h
  · cases h
  · cases h
  · cases h
  · cases n with
    | zero => rfl
    | succ n => cases h
theorem cat_sum (d : mD) (S : List mV) (h : S.length ≤ 4) : (((S.map (dn d)).map fun v => v.category).sum) ≤ 8 := by
  have h1 : ∀ S : List mV, (((S.map (dn d)).map fun v => v.category).sum) ≤ 2 * S.length := by
    intro S
    induction S with
    | nil => exact Nat.le_refl _
    | cons x S ih =>
      rw [List.map_cons, List.map_cons, List.sum_cons, List.length_cons]
      have := lv_cat (dn d x)
      omega
  have := h1 S
  omega
section SND
variable {p : Program} {l : Launch} {e : Env} {R : Room} {s : State} {m : MethodId} {args : Array Value} {below : List Frame} {meth : Method} {c : Code} {Q : State → Prop}
variable {cc : ByteArray} {d : mD} {E : mE} {nL pc : Nat} {F : mF} {cO : mA → Prop} {kO : mK → Prop} {pcs : Nat → Nat} {K0 : mK} {mc ms : Nat}
theorem s_ireturn (hx : p.tables.exec = Jvm.exec) (hb : c.code = cc) (hr : meth.sig.returnType = some .int) (hlocks : meth.locks = false) {pc' : Nat} (hd : decode cc pc = .ok (.ireturn, 1)) : HS (OKs p l e R s m args below meth c (MQ below (QcM d E K0 mc) args s mc ms (fun q => d.1 ≤ q)) d E nL) F cO (fun K => K = K0) pcs pc (h_ireturn mc ms) pc' := by
  intro call j K nx L S h hcall hj hK0 hn hi ls H locs cells slots hl hH
  obtain ⟨x, S, e9, hi9⟩ := mm_p_s hi
  clear hi
  subst e9
  have hi := hi9
  clear hi9
  obtain ⟨e8, hi9⟩ := mm_z_s hi
  clear hi
  have hi := hi9
  clear hi9
  subst e8
  obtain ⟨⟨z, hz⟩, hi9⟩ := mm_ci_s d hi
  clear hi
  have hi := hi9
  clear hi9
  obtain ⟨g1, hi9⟩ := mm_b_s hi
  clear hi
  have hi := hi9
  clear hi9
  obtain ⟨g2, hi9⟩ := mm_b_s hi
  clear hi
  have hi := hi9
  clear hi9
  have g1 := beq_s g1
  have g2 := beq_s g2
  obtain ⟨h1, h2, h3, h4, h5, h6, h7⟩ := hH
  have e1 : cells = mc := h4.trans g1
  have e2 : slots = ms := h5.trans g2
  subst e1
  subst e2
  subst hK0
  rw [List.map_cons, hz]
  exact W.iret (v := z) hx hb hr (fun t ht hW => ⟨some x, h.2.2.2, hi, by rw [Option.map_some, hz], by rw [ht]; exact h1, h2.F ht, fun q => by rw [← g1]; exact h3.2 (h3.1.trans q)⟩) h2.2.2 hd hlocks
theorem s_zreturn (hx : p.tables.exec = Jvm.exec) (hb : c.code = cc) {ty : FieldType} {bd : Nat} (hr : meth.sig.returnType = some ty) (hnar : ∀ a, a ≤ bd → narrow ty (.int (nI a)) = .int (nI a)) (hlocks : meth.locks = false) {pc' : Nat} (hd : decode cc pc = .ok (.ireturn, 1)) : HS (OKs p l e R s m args below meth c (MQ below (QcM d E K0 mc) args s mc ms (fun q => d.1 ≤ q)) d E nL) F cO (fun K => K = K0) pcs pc (h_zreturn bd mc ms) pc' := by
  intro call j K nx L S h hcall hj hK0 hn hi ls H locs cells slots hl hH
  obtain ⟨x, S, e9, hi9⟩ := mm_p_s hi
  clear hi
  subst e9
  have hi := hi9
  clear hi9
  obtain ⟨e8, hi9⟩ := mm_z_s hi
  clear hi
  have hi := hi9
  clear hi9
  subst e8
  rcases mm_i_s hi with ⟨a, e9, hi9⟩ | hi9
  · clear hi
    subst e9
    have hi := hi9
    clear hi9
    obtain ⟨g0, hi9⟩ := mm_b_s hi
    clear hi
    have hi := hi9
    clear hi9
    obtain ⟨g1, hi9⟩ := mm_b_s hi
    clear hi
    have hi := hi9
    clear hi9
    obtain ⟨g2, hi9⟩ := mm_b_s hi
    clear hi
    have hi := hi9
    clear hi9
    have g1 := beq_s g1
    have g2 := beq_s g2
    obtain ⟨h1, h2, h3, h4, h5, h6, h7⟩ := hH
    have e1 : cells = mc := h4.trans g1
    have e2 : slots = ms := h5.trans g2
    subst e1
    subst e2
    subst hK0
    exact W.zret (v := nI a) hx hb hr (hnar a (ble_s g0)) (fun t ht hW => ⟨some (.inl a), h.2.2.2, hi, rfl, by rw [ht]; exact h1, h2.F ht, fun q => by rw [← g1]; exact h3.2 (h3.1.trans q)⟩) h2.2.2 hd hlocks
  · clear hi
    have hi := hi9
    clear hi9
    cases hi
theorem s_return (hx : p.tables.exec = Jvm.exec) (hb : c.code = cc) (hr : meth.sig.returnType = none) (hlocks : meth.locks = false) {pc' : Nat} (hd : decode cc pc = .ok (.return_, 1)) : HS (OKs p l e R s m args below meth c (MQ below (QcM d E K0 mc) args s mc ms (fun q => d.1 ≤ q)) d E nL) F cO (fun K => K = K0) pcs pc (h_return mc ms) pc' := by
  intro call j K nx L S h hcall hj hK0 hn hi ls H locs cells slots hl hH
  obtain ⟨e8, hi9⟩ := mm_z_s hi
  clear hi
  have hi := hi9
  clear hi9
  subst e8
  obtain ⟨g1, hi9⟩ := mm_b_s hi
  clear hi
  have hi := hi9
  clear hi9
  obtain ⟨g2, hi9⟩ := mm_b_s hi
  clear hi
  have hi := hi9
  clear hi9
  have g1 := beq_s g1
  have g2 := beq_s g2
  obtain ⟨h1, h2, h3, h4, h5, h6, h7⟩ := hH
  have e1 : cells = mc := h4.trans g1
  have e2 : slots = ms := h5.trans g2
  subst e1
  subst e2
  subst hK0
  exact W.vret hx hb hr (fun t ht hW => ⟨none, h.2.2.2, hi, rfl, by rw [ht]; exact h1, h2.F ht, fun q => by rw [← g1]; exact h3.2 (h3.1.trans q)⟩) h2.2.2 hd hlocks
theorem s_table_sym {x' : Int32} {lo : Nat} (hlo : lo ≤ 65535) : (cmpP 2 x' (nI lo) → x'.toInt < (lo : Int)) ∧ (cmpP 4 x' (nI lo) → (lo : Int) < x'.toInt) := by
  have e := nI_toInt (n := lo) (by omega)
  constructor
  · intro h
    have := Int32.lt_iff_toInt_lt.mp (show x' < nI lo from h)
    rw [e] at this
    exact this
  · intro h
    have := Int32.lt_iff_toInt_lt.mp (show nI lo < x' from h)
    rw [e] at this
    exact this
theorem s_table (hx : p.tables.exec = Jvm.exec) (hb : c.code = cc) {b0 lo : Nat} {bs : List Nat} {hi' : Int} {offs : Array Int} {len pc' : Nat} (hd : decode cc pc = .ok (.tableswitch ((pcs b0 : Int) - (pc : Int)) (lo : Int) hi' offs, len)) (hhi : hi' = (lo : Int) + (bs.length : Int) - 1) (h0 : 0 < bs.length) (hle : lo + bs.length ≤ 65535) (ho : ∀ k, k < bs.length → offs[k]? = some ((pcs (bs.getD k 0) : Int) - (pc : Int))) (hF : FOK d F) : HS (OKs p l e R s m args below meth c Q d E nL) F cO kO pcs pc (h_table b0 lo bs) pc' := by
  intro call j K nx L S h hcall hj hK0 hn hi ls H locs cells slots hl hH
  obtain ⟨x, S, e9, hi9⟩ := mm_p_s hi
  clear hi
  subst e9
  have hi := hi9
  clear hi9
  rcases mm_i_s hi with ⟨a, e9, hi9⟩ | hi9
  · clear hi
    subst e9
    have hi := hi9
    clear hi9
    rcases mm_t_s hi with ⟨g, hi⟩ | ⟨g, hi⟩
    · have g := ble_s g
      have e1 : (nI a).toInt = (a : Int) := nI_toInt (by omega)
      rcases mm_t_s hi with ⟨g1, hi⟩ | ⟨g1, hi⟩
      · have g1 := blt_s g1
        exact lv_tableOut (tgt := pcs b0) hx hb hd (Or.inl (by rw [e1]; omega)) (by omega) (hj _ _ _ _ hi ls H locs cells slots hl hH)
      · have g1 : ¬ a < lo := fun q => by rw [show Nat.blt a lo = true from Nat.ble_eq_true_of_le q] at g1; cases g1
        rcases mm_t_s hi with ⟨g2, hi⟩ | ⟨g2, hi⟩
        · have g2 : a - lo < bs.length := blt_s g2
          obtain ⟨b, hb1, hi9⟩ := mm_n_s hi
          clear hi
          have hi := hi9
          clear hi9
          have hb2 : bs.getD (a - lo) 0 = b := by
            rw [List.getD_eq_getElem?_getD]
            show (bs[Nat.sub a lo]?).getD 0 = b
            rw [hb1]
            rfl
          have ho1 := ho (a - lo) g2
          rw [hb2] at ho1
          exact lv_tableIn (tgt := pcs b) hx hb hd (by rw [e1]; omega) (by rw [e1]; omega) (by rw [e1, show ((a : Int) - (lo : Int)).toNat = a - lo by omega]; exact ho1) (by omega) (hj _ _ _ _ hi ls H locs cells slots hl hH)
        · have g2 : ¬ a - lo < bs.length := fun q => by rw [show Nat.blt (Nat.sub a lo) bs.length = true from Nat.ble_eq_true_of_le q] at g2; cases g2
          exact lv_tableOut (tgt := pcs b0) hx hb hd (Or.inr (by rw [e1]; omega)) (by omega) (hj _ _ _ _ hi ls H locs cells slots hl hH)
    · obtain ⟨g1, hi9⟩ := mm_b_s hi
      clear hi
      have hi := hi9
      clear hi9
      have g1 := ble_s g1
      have g : ¬ a ≤ 2147483647 := fun q => by rw [Nat.ble_eq_true_of_le q] at g; cases g
      have e1 : (nI a).toInt = (a : Int) - 4294967296 := by
        rw [nI_ti]
        show (((a + 2147483648) % 4294967296 : Nat) : Int) - 2147483648 = _
        omega
      exact lv_tableOut (tgt := pcs b0) hx hb hd (Or.inl (by rw [e1]; omega)) (by omega) (hj _ _ _ _ hi ls H locs cells slots hl hH)
  · clear hi
    have hi := hi9
    clear hi9
    obtain ⟨r, ⟨x', y', e1, e2, e3⟩, e9, hi⟩ := mm_k_s (op := 12) hF hi
    obtain rfl : y' = nI lo := (Value.int.inj e2).symm
    rcases e9 (by decide) with rfl | rfl
    · obtain ⟨r, ⟨x2, y2, f1, f2, f3⟩, f9, hi⟩ := mm_k_s (op := 14) hF hi
      obtain rfl : y2 = nI (Nat.add lo (Nat.sub bs.length 1)) := (Value.int.inj f2).symm
      rcases f9 (by decide) with rfl | rfl
      · cases hi
      · have f4 : cmpP 4 x2 (nI (Nat.add lo (Nat.sub bs.length 1))) := by
          rcases f3 with ⟨q, -⟩ | ⟨-, q⟩
          · exact q
          · exact absurd (Value.int.inj q) (by decide)
        have f5 := (s_table_sym (x' := x2) (lo := Nat.add lo (Nat.sub bs.length 1)) (by show lo + (bs.length - 1) ≤ 65535; omega)).2 f4
        rw [List.map_cons, f1]
        exact lv_tableOut (tgt := pcs b0) hx hb hd (Or.inr (by
          have f6 : ((lo + (bs.length - 1) : Nat) : Int) < x2.toInt := f5
          omega)) (by omega) (hj _ _ _ _ hi ls H locs cells slots hl hH)
    · have e4 : cmpP 2 x' (nI lo) := by
        rcases e3 with ⟨q, -⟩ | ⟨-, q⟩
        · exact q
        · exact absurd (Value.int.inj q) (by decide)
      rw [List.map_cons, e1]
      exact lv_tableOut (tgt := pcs b0) hx hb hd (Or.inl ((s_table_sym (by omega)).1 e4)) (by omega) (hj _ _ _ _ hi ls H locs cells slots hl hH)
theorem rf_set {es : List mV} {i q : Nat} (hi : i < es.length) : (fun j => rf d (es.set i (.inr (.inl q)))[j]?) = va_up (fun j => rf d es[j]?) i (some (d.1 + q)) := by
  funext j
  unfold va_up
  by_cases h : j = i
  · subst h
    rw [if_pos rfl, List.getElem?_set_self hi]
    rfl
  · rw [if_neg h, List.getElem?_set_ne (Ne.symm h)]
theorem s_aast (hx : p.tables.exec = Jvm.exec) (hb : c.code = cc) {ty ci : Nat} {r : vw_C} (hK : va_K E.1 xcl (xtys E.2) s) (hty : ty ≤ 4) (hc : xcl[ci]? = some r) (hr : xty ty = .object r.1) (hd : decode cc pc = .ok (.aastore, 1)) : HS (OKs p l e R s m args below meth c Q d E nL) F cO kO pcs pc (h_aast ty ci) (pc + 1) := by
  intro call j K nx L S h hcall hj hK0 hn hi ls H locs cells slots hl hH
  obtain ⟨z, S, e9, hi9⟩ := mm_p_s hi
  clear hi
  subst e9
  have hi := hi9
  clear hi9
  obtain ⟨y, S, e9, hi9⟩ := mm_p_s hi
  clear hi
  subst e9
  have hi := hi9
  clear hi9
  obtain ⟨x, S, e9, hi9⟩ := mm_p_s hi
  clear hi
  subst e9
  have hi := hi9
  clear hi9
  obtain ⟨q, e9, hi9⟩ := mm_r_s hi
  clear hi
  subst e9
  have hi := hi9
  clear hi9
  rcases mm_i_s hi with ⟨i, e9, hi9⟩ | hi9
  · clear hi
    subst e9
    have hi := hi9
    clear hi9
    obtain ⟨a, e9, hi9⟩ := mm_r_s hi
    clear hi
    subst e9
    have hi := hi9
    clear hi9
    obtain ⟨c1, hc1, hi9⟩ := mm_n_s hi
    clear hi
    have hi := hi9
    clear hi9
    obtain ⟨ci', fs, e9, hi9⟩ := mm_ob_s hi
    clear hi
    subst e9
    have hi := hi9
    clear hi9
    obtain ⟨g, hi9⟩ := mm_b_s hi
    clear hi
    have hi := hi9
    clear hi9
    obtain rfl := beq_s g
    obtain ⟨c0, hc0, hi9⟩ := mm_n_s hi
    clear hi
    have hi := hi9
    clear hi9
    obtain ⟨ty', es, e9, hi9⟩ := mm_rr_s hi
    clear hi
    subst e9
    have hi := hi9
    clear hi9
    obtain ⟨g, hi9⟩ := mm_b_s hi
    clear hi
    have hi := hi9
    clear hi9
    obtain rfl := beq_s g
    obtain ⟨g3, hi9⟩ := mm_b_s hi
    clear hi
    have hi := hi9
    clear hi9
    have g3 := ble_s g3
    obtain ⟨h1, hi9⟩ := mm_u_s hi
    clear hi
    have hi := hi9
    clear hi9
    obtain ⟨h2, hi9⟩ := mm_u_s hi
    clear hi
    have hi := hi9
    clear hi9
    refine va_astq (r := r) hx hb hK hH.1 wo_D hH.2.1 a ty' q ci' (wo_at hc0) (by rw [xtys_at E.2 hty, hr]) (wo_at hc1) hc (i := nI i) (vp_in_nI h1 (by omega)) hd (fun H1 locs1 hP _ hS => ?_)
    rw [nI_clamp (by omega)] at hP
    refine hn _ _ _ hi ls H1 locs1 cells slots hl (hH.set h2 ?_ hS)
    rw [show ce d E.2 (.inr (.inr (ty', es.set i (.inr (.inl q))))) = .inl (E.2 ty', (es.set i (.inr (.inl q))).length, .inr (.inr (.inr (.inr (fun j => rf d (es.set i (.inr (.inl q)))[j]?))))) from rfl, rf_set h1, List.length_set]
    exact hP
  · clear hi
    have hi := hi9
    clear hi9
    cases hi
/-- the cell that came lies behind the world -/
theorem al_q {h : mH} {H1 : Heap} {q cells sl : Nat} {e0 : va_E} {T : State} {locs : List Loc} (hs : s.heap.size + h.2.1 = d.1 + h.2.2.2.length) (hc : cells = h.2.1) (hP : va_P E.1 xcl (wo d E.2 d.1 h.2.2.2 ++ [(q, e0)]) H1) (hD : va_D (fun q => d.1 ≤ q) (wo d E.2 d.1 h.2.2.2 ++ [(q, e0)])) (hT : T.heap = H1) (X : Stand p l e R s m args below meth c T locs (cells + 1) sl) : q = d.1 + h.2.2.2.length := by
  have wl : ∀ (hp : List mC) (b : Nat), (wo d E.2 b hp).length = hp.length := by
    intro hp
    induction hp with
    | nil => intro b; rfl
    | cons c t ih => intro b; show (wo d E.2 (b + 1) t).length + 1 = t.length + 1; rw [ih]
  have hk : (wo d E.2 d.1 h.2.2.2 ++ [(q, e0)])[h.2.2.2.length]? = some (q, e0) := by
    rw [List.getElem?_append_right (by rw [wl]; exact Nat.le_refl _), wl, Nat.sub_self]
    rfl
  have h1 := (hP _ _ hk).lt
  have h2 : T.heap.size ≤ s.heap.size + (cells + 1) := X.heapSize
  rw [hT] at h2
  have h3 : d.1 ≤ q := hD.2 _ _ hk
  by_cases hlt : q < d.1 + h.2.2.2.length
  · exfalso
    have hi : q - d.1 < h.2.2.2.length := by omega
    have hg : (wo d E.2 d.1 h.2.2.2 ++ [(q, e0)])[q - d.1]? = some (d.1 + (q - d.1), ce d E.2 h.2.2.2[q - d.1]) := by
      rw [List.getElem?_append_left (by rw [wl]; exact hi)]
      exact wo_at (List.getElem?_eq_getElem hi)
    have := hD.1 _ _ _ _ hg hk (by show d.1 + (q - d.1) = q; omega)
    omega
  · omega
/-- the world, longer by one -/
theorem HR.push {h : mH} {H H1 : Heap} {locs : List Loc} {cells slots nc ns : Nat} {c0 : mC} (hH : HR d E s R h H locs cells slots) (ht : h.1 = true) (hnc : nc = h.2.1 + 1) (h6 : nc ≤ R.cells) (h7 : ns ≤ R.slots) (hP : va_P E.1 xcl (wo d E.2 d.1 h.2.2.2 ++ [(d.1 + h.2.2.2.length, ce d E.2 c0)]) H1) (hS : va_S (fun q => d.1 ≤ q) s.heap H1 locs) :
    HR d E s R (true, nc, ns, h.2.2.2 ++ [c0]) H1 locs nc ns := by
  refine ⟨?_, hS, ⟨ht.symm.trans hH.2.2.1.1, fun _ => ?_⟩, rfl, rfl, h6, h7⟩
  · show va_P E.1 xcl (wo d E.2 d.1 (h.2.2.2 ++ [c0])) H1
    rw [wo_app]
    exact hP
  · show s.heap.size + nc = d.1 + (h.2.2.2 ++ [c0]).length
    have := hH.2.2.1.2 ht
    rw [List.length_append, hnc]
    show s.heap.size + (h.2.1 + 1) = d.1 + (h.2.2.2.length + 1)
    omega
theorem s_new (hx : p.tables.exec = Jvm.exec) (hb : c.code = cc) {own C : String} {T : u_T} {N ci index : Nat} {fs : List mV} {Ts : List Cond} (hts : ∀ w ∈ Ts, w.before args s = true) (hin : ∀ w ∈ u_ws C T N, w ∈ Ts) (ty : Nat → FieldType) (hty : ∀ k, k < N → parseFieldDescriptor (T k).2.2.1 = some (ty k)) (hown : s.vm.findClass own = some m.cls) (hcl : (Cond.classLink own index C).before args s = true) (hinst : (Cond.instantiable C N).before args s = true) (hini : (Cond.initialized C).before args s = true) (hK : va_K E.1 xcl (xtys E.2) s) (hc : xcl[ci]? = some (C, T, N)) (hb0 : d.1 ≤ s.heap.size)
    (hlen : fs.length = N) (hfs : ∀ j, j < N → (kz fs[j]? = 0 ∧ ty j = .int) ∨ (kz fs[j]? = 1 ∧ (ty j).isReference = true)) (hd : decode cc pc = .ok (.new index, 3)) : HS (OKs p l e R s m args below meth c Q d E nL) F cO kO pcs pc (h_new ci fs R.cells R.slots) (pc + 3) := by
  intro call j K nx L S h hcall hj hK0 hn hi ls H locs cells slots hl hH
  obtain ⟨g0, hi9⟩ := mm_b_s hi
  clear hi
  have hi := hi9
  clear hi9
  have hi := mm_f_s hi
  have hi := mm_f_s hi
  obtain ⟨g1, hi9⟩ := mm_b_s hi
  clear hi
  have hi := hi9
  clear hi9
  obtain ⟨g2, hi9⟩ := mm_b_s hi
  clear hi
  have hi := hi9
  clear hi9
  have hi := mm_ap_s (mm_f_s hi)
  have g1 : h.2.1 + 1 ≤ R.cells := ble_s g1
  have g2 : h.2.2.1 + fs.length ≤ R.slots := ble_s g2
  have e1 := hH.2.2.2.1
  have e2 := hH.2.2.2.2.1
  refine va_new (ci := ci) (fs := fs.map (dn d)) hx hb hts hin ty hty hown hcl hinst hini hK hH.1 wo_D hH.2.1 (fun q h9 => Nat.le_trans hb0 h9) hc (fun j hj => ?_) (by rw [e1]; exact g1) (by rw [e2, ← hlen]; exact g2) hd (fun q H1 hP hD hS => ?_)
  · unfold vp_V
    rw [List.getD_eq_getElem?_getD, List.getElem?_map]
    rcases hfs j hj with ⟨h1, h2⟩ | ⟨h1, h2⟩
    · rw [kz_0 h1, h2]; rfl
    · rw [kz_1 h1, def_ref h2]; rfl
  · intro T9 hT9 X9
    have hq := al_q (hH.2.2.1.2 g0) e1 hP hD hT9 X9
    subst hq
    subst e1
    subst e2
    subst hlen
    exact hn _ _ _ hi ls H1 locs _ _ hl (hH.push g0 rfl g1 g2 hP hS) T9 hT9 X9
theorem s_newa0 (hx : p.tables.exec = Jvm.exec) (hb : c.code = cc) (harr : (Cond.arrayClass .int).before args s = true) (hK : va_K E.1 xcl (xtys E.2) s) (hb0 : d.1 ≤ s.heap.size) (hd : decode cc pc = .ok (.newarray .int, 2)) : HS (OKs p l e R s m args below meth c Q d E nL) F cO kO pcs pc (h_newa 0 R.cells R.slots) (pc + 2) := by
  intro call j K nx L S h hcall hj hK0 hn hi ls H locs cells slots hl hH
  obtain ⟨x, S, e9, hi9⟩ := mm_p_s hi
  clear hi
  subst e9
  have hi := hi9
  clear hi9
  rcases mm_i_s hi with ⟨n, e9, hi9⟩ | hi9
  · clear hi
    subst e9
    have hi := hi9
    clear hi9
    obtain ⟨g0, hi9⟩ := mm_b_s hi
    clear hi
    have hi := hi9
    clear hi9
    obtain ⟨g3, hi9⟩ := mm_b_s hi
    clear hi
    have hi := hi9
    clear hi9
    have g3 := ble_s g3
    have hi := mm_f_s hi
    have hi := mm_f_s hi
    obtain ⟨g1, hi9⟩ := mm_b_s hi
    clear hi
    have hi := hi9
    clear hi9
    obtain ⟨g2, hi9⟩ := mm_b_s hi
    clear hi
    have hi := hi9
    clear hi9
    have hi := mm_ap_s (mm_f_s hi)
    have g1 : h.2.1 + 1 ≤ R.cells := ble_s g1
    have g2 : h.2.2.1 + n ≤ R.slots := ble_s g2
    have e1 := hH.2.2.2.1
    have e2 := hH.2.2.2.2.1
    refine va_newa (atype := .int) (ty := .int) (n := nI n) (N' := n) (a0 := (n, .inl (fun j => nI (mm_gt 0 j)))) hx hb harr rfl hK hH.1 wo_D hH.2.1 (fun q h9 => Nat.le_trans hb0 h9) (fun cA => ?_) (nI_pos (by omega)) (nI_clamp (by omega)) (by show n * 4 ≤ 536870912; omega) (by rw [e1]; exact g1) (by rw [e2]; exact g2) hd (fun q cA H1 hK2 hP hD hS => ?_)
    · rw [vp_cell_i]
      refine congrArg (arrV cA n) (funext fun j => ?_)
      rw [gt_div, Nat.zero_div]
      rfl
    · have hcA : cA = E.2 0 := by
        have h1 : va_RA s cA .int := (hK2.2 5 _ rfl).2
        have h2 : va_RA s (E.2 0) .int := (hK.2 0 _ rfl).2
        exact Option.some.inj (h1.symm.trans h2)
      subst hcA
      intro T9 hT9 X9
      have hq := al_q (hH.2.2.1.2 g0) e1 hP hD hT9 X9
      subst hq
      subst e1
      subst e2
      exact hn _ _ _ hi ls H1 locs _ _ hl (hH.push g0 rfl g1 g2 hP hS) T9 hT9 X9
  · clear hi
    have hi := hi9
    clear hi9
    cases hi
theorem s_newa1 (hx : p.tables.exec = Jvm.exec) (hb : c.code = cc) (harr : (Cond.arrayClass .char).before args s = true) (hK : va_K E.1 xcl (xtys E.2) s) (hb0 : d.1 ≤ s.heap.size) (hd : decode cc pc = .ok (.newarray .char, 2)) : HS (OKs p l e R s m args below meth c Q d E nL) F cO kO pcs pc (h_newa 1 R.cells R.slots) (pc + 2) := by
  intro call j K nx L S h hcall hj hK0 hn hi ls H locs cells slots hl hH
  obtain ⟨x, S, e9, hi9⟩ := mm_p_s hi
  clear hi
  subst e9
  have hi := hi9
  clear hi9
  rcases mm_i_s hi with ⟨n, e9, hi9⟩ | hi9
  · clear hi
    subst e9
    have hi := hi9
    clear hi9
    obtain ⟨g0, hi9⟩ := mm_b_s hi
    clear hi
    have hi := hi9
    clear hi9
    obtain ⟨g3, hi9⟩ := mm_b_s hi
    clear hi
    have hi := hi9
    clear hi9
    have g3 := ble_s g3
    have hi := mm_f_s hi
    have hi := mm_f_s hi
    obtain ⟨g1, hi9⟩ := mm_b_s hi
    clear hi
    have hi := hi9
    clear hi9
    obtain ⟨g2, hi9⟩ := mm_b_s hi
    clear hi
    have hi := hi9
    clear hi9
    have hi := mm_ap_s (mm_f_s hi)
    have g1 : h.2.1 + 1 ≤ R.cells := ble_s g1
    have g2 : h.2.2.1 + n ≤ R.slots := ble_s g2
    have e1 := hH.2.2.2.1
    have e2 := hH.2.2.2.2.1
    refine va_newa (atype := .char) (ty := .char) (n := nI n) (N' := n) (a0 := (n, .inl (fun j => nI (mm_gt 0 j)))) hx hb harr rfl hK hH.1 wo_D hH.2.1 (fun q h9 => Nat.le_trans hb0 h9) (fun cA => ?_) (nI_pos (by omega)) (nI_clamp (by omega)) (by show n * 2 ≤ 536870912; omega) (by rw [e1]; exact g1) (by rw [e2]; exact g2) hd (fun q cA H1 hK2 hP hD hS => ?_)
    · rw [vp_cell_i]
      refine congrArg (arrV cA n) (funext fun j => ?_)
      rw [gt_div, Nat.zero_div]
      rfl
    · have hcA : cA = E.2 1 := by
        have h1 : va_RA s cA .char := (hK2.2 5 _ rfl).2
        have h2 : va_RA s (E.2 1) .char := (hK.2 1 _ rfl).2
        exact Option.some.inj (h1.symm.trans h2)
      subst hcA
      intro T9 hT9 X9
      have hq := al_q (hH.2.2.1.2 g0) e1 hP hD hT9 X9
      subst hq
      subst e1
      subst e2
      exact hn _ _ _ hi ls H1 locs _ _ hl (hH.push g0 rfl g1 g2 hP hS) T9 hT9 X9
  · clear hi
    have hi := hi9
    clear hi9
    cases hi
theorem s_newq (hx : p.tables.exec = Jvm.exec) (hb : c.code = cc) {ty : Nat} {own C : String} {index : Nat} (hown : s.vm.findClass own = some m.cls) (hclink : (Cond.classLink own index C).before args s = true) (hover : va_AO C s) (hty : ty ≤ 4) (hC : xty ty = .object C) (hK : va_K E.1 xcl (xtys E.2) s) (hb0 : d.1 ≤ s.heap.size) (hd : decode cc pc = .ok (.anewarray index, 3)) : HS (OKs p l e R s m args below meth c Q d E nL) F cO kO pcs pc (h_newq ty R.cells R.slots) (pc + 3) := by
  intro call j K nx L S h hcall hj hK0 hn hi ls H locs cells slots hl hH
  obtain ⟨x, S, e9, hi9⟩ := mm_p_s hi
  clear hi
  subst e9
  have hi := hi9
  clear hi9
  rcases mm_i_s hi with ⟨n, e9, hi9⟩ | hi9
  · clear hi
    subst e9
    have hi := hi9
    clear hi9
    obtain ⟨g0, hi9⟩ := mm_b_s hi
    clear hi
    have hi := hi9
    clear hi9
    obtain ⟨g3, hi9⟩ := mm_b_s hi
    clear hi
    have hi := hi9
    clear hi9
    have g3 := ble_s g3
    have hi := mm_f_s hi
    have hi := mm_f_s hi
    obtain ⟨g1, hi9⟩ := mm_b_s hi
    clear hi
    have hi := hi9
    clear hi9
    obtain ⟨g2, hi9⟩ := mm_b_s hi
    clear hi
    have hi := hi9
    clear hi9
    have hi := mm_ap_s (mm_f_s hi)
    have g1 : h.2.1 + 1 ≤ R.cells := ble_s g1
    have g2 : h.2.2.1 + n ≤ R.slots := ble_s g2
    have e1 := hH.2.2.2.1
    have e2 := hH.2.2.2.2.1
    refine va_newq (n := nI n) (N' := n) hx hb hown hclink hover hK hH.1 wo_D hH.2.1 (fun q h9 => Nat.le_trans hb0 h9) (nI_pos (by omega)) (nI_clamp (by omega)) (by omega) (by rw [e1]; exact g1) (by rw [e2]; exact g2) hd (fun q cA H1 hK2 hP hD hS => ?_)
    have hcA : cA = E.2 ty := by
      have h1 : va_RA s cA (.object C) := (hK2.2 5 _ rfl).2
      have h2 := (hK.2 ty _ (xtys_at E.2 hty)).2
      rw [hC] at h2
      obtain ⟨_, _, -, -, -, k1⟩ := h1
      obtain ⟨_, _, -, -, -, k2⟩ := h2
      exact Option.some.inj (k1.symm.trans k2)
    subst hcA
    intro T9 hT9 X9
    have hq := al_q (hH.2.2.1.2 g0) e1 hP hD hT9 X9
    subst hq
    subst e1
    subst e2
    refine hn _ _ _ hi ls H1 locs _ _ hl (hH.push g0 rfl g1 g2 ?_ hS) T9 hT9 X9
    have e9 : ce d E.2 (.inr (.inr (ty, List.replicate n (.inr (.inr (.inr (.inr (.inr 0)))))))) = .inl (E.2 ty, n, .inr (.inr (.inr (.inr (fun _ => none))))) := by
      show Sum.inl (E.2 ty, (List.replicate n _).length, _) = _
      rw [List.length_replicate]
      congr 7
      funext j
      show rf d (List.replicate n _)[j]? = none
      rw [List.getElem?_replicate]
      split <;> rfl
    rw [e9]
    exact hP
  · clear hi
    have hi := hi9
    clear hi9
    cases hi
theorem s_oinit (hx : p.tables.exec = Jvm.exec) (hb : c.code = cc) (hml : c.maxLocals = nL) {own : String} {idx : Nat} (hown : s.vm.findClass own = some m.cls) (hlink : (Cond.methodLink own idx Lib.objectInit).before args s = true) (hinst : (Cond.instanceMethod Lib.objectInit).before args s = true) (hcode : (Cond.code Lib.objectInit ⟨#[0xb1]⟩ 1 none).before args s = true) (hf : 1 ≤ R.frames) (hlo : 20 ≤ R.locals) (hd : decode cc pc = .ok (.invokespecial idx, 3)) : HS (OKs p l e R s m args below meth c Q d E nL) F cO kO pcs pc h_oinit (pc + 3) := by
  intro call j K nx L S h hcall hj hK0 hn hi ls H locs cells slots hl hH
  obtain ⟨x, S, e9, hi9⟩ := mm_p_s hi
  clear hi
  subst e9
  have hi := hi9
  clear hi9
  obtain ⟨a, e9, hi9⟩ := mm_r_s hi
  clear hi
  subst e9
  have hi := hi9
  clear hi9
  obtain ⟨g, hi9⟩ := mm_b_s hi
  clear hi
  have hi := hi9
  clear hi9
  have g := cat_sum d S (ble_s g)
  refine W.objInit hx hb hown hlink hinst hcode (g := F0 m pc ls _) rfl (by rw [hml]; exact hl.1) rfl hd hf ?_ (hn _ _ _ hi ls H locs cells slots hl hH)
  have := lv_room (m := m) (pc := pc) (ls := ls) (rest := (Sum.inr (Sum.inl a) :: S).map (dn d)) (st := S.map (dn d)) g
  omega
theorem s_max (hx : p.tables.exec = Jvm.exec) (hb : c.code = cc) (hml : c.maxLocals = nL) {own : String} {index : Nat} (hown : s.vm.findClass own = some m.cls) (hlink : (Cond.methodLink own index Lib.Math.max.name).before args s = true) (hstat : (Cond.static Lib.Math.max.name).before args s = true) (hini : (Cond.initialized "java/lang/Math").before args s = true) (hcode : (Cond.code Lib.Math.max.name Lib.Math.max.code 2 (some .int)).before args s = true) (hf : 1 ≤ R.frames) (hlo : 21 ≤ R.locals) (hd : decode cc pc = .ok (.invokestatic index, 3)) : HS (OKs p l e R s m args below meth c Q d E nL) F cO kO pcs pc h_max (pc + 3) := by
  intro call j K nx L S h hcall hj hK0 hn hi ls H locs cells slots hl hH
  obtain ⟨y, S, e9, hi9⟩ := mm_p_s hi
  clear hi
  subst e9
  have hi := hi9
  clear hi9
  obtain ⟨x, S, e9, hi9⟩ := mm_p_s hi
  clear hi
  subst e9
  have hi := hi9
  clear hi9
  rcases mm_i_s hi with ⟨b, e9, hi9⟩ | hi9
  · clear hi
    subst e9
    have hi := hi9
    clear hi9
    rcases mm_i_s hi with ⟨a, e9, hi9⟩ | hi9
    · clear hi
      subst e9
      have hi := hi9
      clear hi9
      obtain ⟨g, hi9⟩ := mm_b_s hi
      clear hi
      have hi := hi9
      clear hi9
      have g := cat_sum d S (ble_s g)
      obtain ⟨-, -, -, h4, h5, h6, h7⟩ := id hH
      refine va_mmax (x := nI a) (y := nI b) hx hb (by rw [hml]; exact hl.1.symm) hown hlink hstat hini hcode hf (by omega) (by rw [h4]; exact h6) (by rw [h5]; exact h7) hd ?_
      rcases mm_t_s hi with ⟨q, hi⟩ | ⟨q, hi⟩
      · rw [if_pos (show nI a < nI b from (mm_cmp_t 2 a b).mp q)]
        exact hn _ _ _ hi ls H locs cells slots hl hH
      · rw [if_neg (show ¬ nI a < nI b from fun z => by rw [(mm_cmp_t 2 a b).mpr z] at q; cases q)]
        exact hn _ _ _ hi ls H locs cells slots hl hH
    · clear hi
      have hi := hi9
      clear hi9
      cases hi
  · clear hi
    have hi := hi9
    clear hi9
    cases hi
theorem s_min (hx : p.tables.exec = Jvm.exec) (hb : c.code = cc) (hml : c.maxLocals = nL) {own : String} {index : Nat} (hown : s.vm.findClass own = some m.cls) (hlink : (Cond.methodLink own index Lib.Math.min.name).before args s = true) (hstat : (Cond.static Lib.Math.min.name).before args s = true) (hini : (Cond.initialized "java/lang/Math").before args s = true) (hcode : (Cond.code Lib.Math.min.name Lib.Math.min.code 2 (some .int)).before args s = true) (hf : 1 ≤ R.frames) (hlo : 21 ≤ R.locals) (hd : decode cc pc = .ok (.invokestatic index, 3)) : HS (OKs p l e R s m args below meth c Q d E nL) F cO kO pcs pc h_min (pc + 3) := by
  intro call j K nx L S h hcall hj hK0 hn hi ls H locs cells slots hl hH
  obtain ⟨y, S, e9, hi9⟩ := mm_p_s hi
  clear hi
  subst e9
  have hi := hi9
  clear hi9
  obtain ⟨x, S, e9, hi9⟩ := mm_p_s hi
  clear hi
  subst e9
  have hi := hi9
  clear hi9
  rcases mm_i_s hi with ⟨b, e9, hi9⟩ | hi9
  · clear hi
    subst e9
    have hi := hi9
    clear hi9
    rcases mm_i_s hi with ⟨a, e9, hi9⟩ | hi9
    · clear hi
      subst e9
      have hi := hi9
      clear hi9
      obtain ⟨g, hi9⟩ := mm_b_s hi
      clear hi
      have hi := hi9
      clear hi9
      have g := cat_sum d S (ble_s g)
      obtain ⟨-, -, -, h4, h5, h6, h7⟩ := id hH
      refine va_mmin (x := nI a) (y := nI b) hx hb (by rw [hml]; exact hl.1.symm) hown hlink hstat hini hcode hf (by omega) (by rw [h4]; exact h6) (by rw [h5]; exact h7) hd ?_
      rcases mm_t_s hi with ⟨q, hi⟩ | ⟨q, hi⟩
      · rw [if_pos (show nI b < nI a from (mm_cmp_t 2 b a).mp q)]
        exact hn _ _ _ hi ls H locs cells slots hl hH
      · rw [if_neg (show ¬ nI b < nI a from fun z => by rw [(mm_cmp_t 2 b a).mpr z] at q; cases q)]
        exact hn _ _ _ hi ls H locs cells slots hl hH
    · clear hi
      have hi := hi9
      clear hi9
      cases hi
  · clear hi
    have hi := hi9
    clear hi9
    cases hi
end SND
