/-! rows of cells -/
theorem mm_ob_s {c : mC} {k : Nat → List mV → Bool} (h : mm_ob c k = true) : ∃ ci fs, c = .inr (.inl (ci, fs)) ∧ k ci fs = true := by
  rcases c with a | ⟨ci, fs⟩ | a
  · cases h
  · exact ⟨ci, fs, rfl, h⟩
  · cases h
theorem mm_ar_s {c : mC} {k : Nat → Nat → Nat → Bool} (h : mm_ar c k = true) : ∃ ty n M, c = .inl (ty, n, M) ∧ k ty n M = true := by
  rcases c with ⟨ty, n, M⟩ | a | a
  · exact ⟨ty, n, M, rfl, h⟩
  · cases h
  · cases h
theorem mm_rr_s {c : mC} {k : Nat → List mV → Bool} (h : mm_rr c k = true) : ∃ ty es, c = .inr (.inr (ty, es)) ∧ k ty es = true := by
  rcases c with a | a | ⟨ty, es⟩
  · cases h
  · cases h
  · exact ⟨ty, es, rfl, h⟩
theorem beq_s {a b : Nat} (h : Nat.beq a b = true) : a = b := Nat.eq_of_beq_eq_true h
theorem ble_s {a b : Nat} (h : Nat.ble a b = true) : a ≤ b := Nat.le_of_ble_eq_true h
theorem blt_s {a b : Nat} (h : Nat.blt a b = true) : a < b := Nat.le_of_ble_eq_true h
theorem nar_c (v : Nat) (h : v ≤ 65535) : vp_nar .char (nI v) = nI v := by
  have := (pk_charN (q := v) (by omega)).1
  unfold vp_nar
  rw [this]
section SND
variable {p : Program} {l : Launch} {e : Env} {R : Room} {s : State} {m : MethodId} {args : Array Value} {below : List Frame} {meth : Method} {c : Code} {Q : State → Prop}
variable {cc : ByteArray} {d : mD} {E : mE} {nL pc : Nat} {F : mF} {cO : mA → Prop} {kO : mK → Prop} {pcs : Nat → Nat}
/-- the world with another cell at a place -/
theorem HR.set {h : mH} {H H1 : Heap} {locs locs1 : List Loc} {cells slots a : Nat} {c0 : mC} (hH : HR d E s R h H locs cells slots) (hl : a < h.2.2.2.length) (hP : va_P E.1 xcl ((wo d E.2 d.1 h.2.2.2).set a (d.1 + a, ce d E.2 c0)) H1) (hS : va_S (fun q => d.1 ≤ q) s.heap H1 locs1) :
    HR d E s R (h.1, h.2.1, h.2.2.1, h.2.2.2.set a c0) H1 locs1 cells slots := by
  obtain ⟨h1, h2, h3, h4, h5, h6, h7⟩ := hH
  refine ⟨?_, hS, ⟨h3.1, fun q => ?_⟩, h4, h5, h6, h7⟩
  · show va_P E.1 xcl (wo d E.2 d.1 (h.2.2.2.set a c0)) H1
    rw [wo_set]
    exact hP
  · show s.heap.size + h.2.1 = d.1 + (h.2.2.2.set a c0).length
    rw [List.length_set]
    exact h3.2 q
theorem s_getf (hx : p.tables.exec = Jvm.exec) (hb : c.code = cc) {own C : String} {T : u_T} {N ci index k : Nat} {Ts : List Cond} (hts : ∀ w ∈ Ts, w.before args s = true) (hin : ∀ w ∈ u_ws C T N, w ∈ Ts) (hown : s.vm.findClass own = some m.cls) (hK : va_K E.1 xcl (xtys E.2) s) (hc : xcl[ci]? = some (C, T, N)) (hk : k < N) (hlink : (Cond.fieldLink own index (T k).1 (T k).2.1 (T k).2.2.1).before args s = true) (hd : decode cc pc = .ok (.getfield index, 3)) : HS (OKs p l e R s m args below meth c Q d E nL) F cO kO pcs pc (h_getf ci k) (pc + 3) := by
  intro call j K nx L S h hcall hj hK0 hn hi ls H locs cells slots hl hH
  obtain ⟨x, S, e9, hi9⟩ := mm_p_s hi
  clear hi
  subst e9
  have hi := hi9
  clear hi9
  obtain ⟨a, e9, hi9⟩ := mm_r_s hi
  clear hi
  subst e9
  have hi := hi9
  clear hi9
  obtain ⟨c0, hc0, hi9⟩ := mm_n_s hi
  clear hi
  have hi := hi9
  clear hi9
  obtain ⟨ci', fs, e9, hi9⟩ := mm_ob_s hi
  clear hi
  subst e9
  have hi := hi9
  clear hi9
  obtain ⟨g, hi9⟩ := mm_b_s hi
  clear hi
  have hi := hi9
  clear hi9
  obtain rfl := beq_s g
  obtain ⟨v, hv, hi9⟩ := mm_n_s hi
  clear hi
  have hi := hi9
  clear hi9
  exact va_get (D := E.1) (v := dn d v) hx hb hts hin hown hK hH.1 a (wo_at hc0) hc k hk hlink (fun _ h9 => h9) (by rw [List.getElem?_map, hv]; rfl) hd (hn _ _ _ hi ls H locs cells slots hl hH)
theorem s_putI (hx : p.tables.exec = Jvm.exec) (hb : c.code = cc) {own C : String} {T : u_T} {N ci index k : Nat} {Ts : List Cond} (hts : ∀ w ∈ Ts, w.before args s = true) (hin : ∀ w ∈ u_ws C T N, w ∈ Ts) (hown : s.vm.findClass own = some m.cls) (hK : va_K E.1 xcl (xtys E.2) s) (hc : xcl[ci]? = some (C, T, N)) (hk : k < N) (hlink : (Cond.fieldLink own index (T k).1 (T k).2.1 (T k).2.2.1).before args s = true) (ty0 : Nat → FieldType) (hty0 : ∀ k, k < N → parseFieldDescriptor (T k).2.2.1 = some (ty0 k)) (hnm : ∀ a, a < N → ∀ b, b < N → a ≠ b → (T a).2.1 ≠ (T b).2.1) (hd5 : parseFieldDescriptor (T k).2.2.1 = some .int) (hfin : (T k).2.2.2 = false) (hd : decode cc pc = .ok (.putfield index, 3)) : HS (OKs p l e R s m args below meth c Q d E nL) F cO kO pcs pc (h_putf ci k 0) (pc + 3) := by
  intro call j K nx L S h hcall hj hK0 hn hi ls H locs cells slots hl hH
  obtain ⟨v, S, e9, hi9⟩ := mm_p_s hi
  clear hi
  subst e9
  have hi := hi9
  clear hi9
  obtain ⟨x, S, e9, hi9⟩ := mm_p_s hi
  clear hi
  subst e9
  have hi := hi9
  clear hi9
  obtain ⟨a, e9, hi9⟩ := mm_r_s hi
  clear hi
  subst e9
  have hi := hi9
  clear hi9
  obtain ⟨c0, hc0, hi9⟩ := mm_n_s hi
  clear hi
  have hi := hi9
  clear hi9
  obtain ⟨ci', fs, e9, hi9⟩ := mm_ob_s hi
  clear hi
  subst e9
  have hi := hi9
  clear hi9
  obtain ⟨g, hi9⟩ := mm_b_s hi
  clear hi
  have hi := hi9
  clear hi9
  obtain rfl := beq_s g
  obtain ⟨⟨z, hz⟩, hi9⟩ := mm_ci_s d hi
  clear hi
  have hi := hi9
  clear hi9
  obtain ⟨h1, hi9⟩ := mm_u_s hi
  clear hi
  have hi := hi9
  clear hi9
  obtain ⟨h2, hi9⟩ := mm_u_s hi
  clear hi
  have hi := hi9
  clear hi9
  have hz1 : narrow .int (dn d v) = dn d v ∧ fits .int (dn d v) = true := by rw [hz]; exact ⟨rfl, rfl⟩
  refine va_put (D := E.1) (v := dn d v) (ty := .int) hx hb hts hin ty0 hty0 hnm hown hK hH.1 wo_D hH.2.1 a (wo_at hc0) hc k hk hlink (fun _ h9 => h9) hfin hd5 hz1.1 hz1.2 (by rw [List.length_map]; exact h1) hd (fun H1 locs1 hP _ hS => ?_)
  refine hn _ _ _ hi ls H1 locs1 cells slots hl (hH.set h2 ?_ hS)
  have e9 : ce d E.2 (.inr (.inl (ci', fs.set k v))) = .inr (ci', (fs.map (dn d)).set k (dn d v)) := by
    show Sum.inr (ci', (fs.set k v).map (dn d)) = _
    rw [List.map_set]
  rw [e9]
  exact hP
theorem s_putIF (hx : p.tables.exec = Jvm.exec) (hb : c.code = cc) {own C : String} {T : u_T} {N ci index k : Nat} {Ts : List Cond} (hts : ∀ w ∈ Ts, w.before args s = true) (hin : ∀ w ∈ u_ws C T N, w ∈ Ts) (hown : s.vm.findClass own = some m.cls) (hK : va_K E.1 xcl (xtys E.2) s) (hc : xcl[ci]? = some (C, T, N)) (hk : k < N) (hlink : (Cond.fieldLink own index (T k).1 (T k).2.1 (T k).2.2.1).before args s = true) (ty0 : Nat → FieldType) (hty0 : ∀ k, k < N → parseFieldDescriptor (T k).2.2.1 = some (ty0 k)) (hnm : ∀ a, a < N → ∀ b, b < N → a ≠ b → (T a).2.1 ≠ (T b).2.1) (hd5 : parseFieldDescriptor (T k).2.2.1 = some .int) (hfin : (T k).2.2.2 = true) (hin2 : meth.name = "<init>") (hdecl : (T k).1 = own) (hd : decode cc pc = .ok (.putfield index, 3)) : HS (OKs p l e R s m args below meth c Q d E nL) F cO kO pcs pc (h_putf ci k 0) (pc + 3) := by
  intro call j K nx L S h hcall hj hK0 hn hi ls H locs cells slots hl hH
  obtain ⟨v, S, e9, hi9⟩ := mm_p_s hi
  clear hi
  subst e9
  have hi := hi9
  clear hi9
  obtain ⟨x, S, e9, hi9⟩ := mm_p_s hi
  clear hi
  subst e9
  have hi := hi9
  clear hi9
  obtain ⟨a, e9, hi9⟩ := mm_r_s hi
  clear hi
  subst e9
  have hi := hi9
  clear hi9
  obtain ⟨c0, hc0, hi9⟩ := mm_n_s hi
  clear hi
  have hi := hi9
  clear hi9
  obtain ⟨ci', fs, e9, hi9⟩ := mm_ob_s hi
  clear hi
  subst e9
  have hi := hi9
  clear hi9
  obtain ⟨g, hi9⟩ := mm_b_s hi
  clear hi
  have hi := hi9
  clear hi9
  obtain rfl := beq_s g
  obtain ⟨⟨z, hz⟩, hi9⟩ := mm_ci_s d hi
  clear hi
  have hi := hi9
  clear hi9
  obtain ⟨h1, hi9⟩ := mm_u_s hi
  clear hi
  have hi := hi9
  clear hi9
  obtain ⟨h2, hi9⟩ := mm_u_s hi
  clear hi
  have hi := hi9
  clear hi9
  have hz1 : narrow .int (dn d v) = dn d v ∧ fits .int (dn d v) = true := by rw [hz]; exact ⟨rfl, rfl⟩
  refine va_putF (D := E.1) (v := dn d v) (ty := .int) hx hb hts hin ty0 hty0 hnm hown hK hH.1 wo_D hH.2.1 a (wo_at hc0) hc k hk hlink (fun _ h9 => h9) hfin hin2 hdecl hd5 hz1.1 hz1.2 (by rw [List.length_map]; exact h1) hd (fun H1 locs1 hP _ hS => ?_)
  refine hn _ _ _ hi ls H1 locs1 cells slots hl (hH.set h2 ?_ hS)
  have e9 : ce d E.2 (.inr (.inl (ci', fs.set k v))) = .inr (ci', (fs.map (dn d)).set k (dn d v)) := by
    show Sum.inr (ci', (fs.set k v).map (dn d)) = _
    rw [List.map_set]
  rw [e9]
  exact hP
theorem s_putR (hx : p.tables.exec = Jvm.exec) (hb : c.code = cc) {own C : String} {T : u_T} {N ci index k : Nat} {Ts : List Cond} (hts : ∀ w ∈ Ts, w.before args s = true) (hin : ∀ w ∈ u_ws C T N, w ∈ Ts) (hown : s.vm.findClass own = some m.cls) (hK : va_K E.1 xcl (xtys E.2) s) (hc : xcl[ci]? = some (C, T, N)) (hk : k < N) (hlink : (Cond.fieldLink own index (T k).1 (T k).2.1 (T k).2.2.1).before args s = true) (ty0 : Nat → FieldType) (hty0 : ∀ k, k < N → parseFieldDescriptor (T k).2.2.1 = some (ty0 k)) (hnm : ∀ a, a < N → ∀ b, b < N → a ≠ b → (T a).2.1 ≠ (T b).2.1) {ty : FieldType} (hd5 : parseFieldDescriptor (T k).2.2.1 = some ty) (hrf : ∀ a : Nat, narrow ty (.ref a) = .ref a ∧ fits ty (.ref a) = true) (hfin : (T k).2.2.2 = false) (hd : decode cc pc = .ok (.putfield index, 3)) : HS (OKs p l e R s m args below meth c Q d E nL) F cO kO pcs pc (h_putf ci k 1) (pc + 3) := by
  intro call j K nx L S h hcall hj hK0 hn hi ls H locs cells slots hl hH
  obtain ⟨v, S, e9, hi9⟩ := mm_p_s hi
  clear hi
  subst e9
  have hi := hi9
  clear hi9
  obtain ⟨x, S, e9, hi9⟩ := mm_p_s hi
  clear hi
  subst e9
  have hi := hi9
  clear hi9
  obtain ⟨a, e9, hi9⟩ := mm_r_s hi
  clear hi
  subst e9
  have hi := hi9
  clear hi9
  obtain ⟨c0, hc0, hi9⟩ := mm_n_s hi
  clear hi
  have hi := hi9
  clear hi9
  obtain ⟨ci', fs, e9, hi9⟩ := mm_ob_s hi
  clear hi
  subst e9
  have hi := hi9
  clear hi9
  obtain ⟨g, hi9⟩ := mm_b_s hi
  clear hi
  have hi := hi9
  clear hi9
  obtain rfl := beq_s g
  obtain ⟨z, e9, hi9⟩ := mm_r_s hi
  clear hi
  subst e9
  have hi := hi9
  clear hi9
  obtain ⟨h1, hi9⟩ := mm_u_s hi
  clear hi
  have hi := hi9
  clear hi9
  obtain ⟨h2, hi9⟩ := mm_u_s hi
  clear hi
  have hi := hi9
  clear hi9
  refine va_put (D := E.1) (v := .ref (d.1 + z)) (ty := ty) hx hb hts hin ty0 hty0 hnm hown hK hH.1 wo_D hH.2.1 a (wo_at hc0) hc k hk hlink (fun _ h9 => h9) hfin hd5 (hrf _).1 (hrf _).2 (by rw [List.length_map]; exact h1) hd (fun H1 locs1 hP _ hS => ?_)
  refine hn _ _ _ hi ls H1 locs1 cells slots hl (hH.set h2 ?_ hS)
  have e9 : ce d E.2 (.inr (.inl (ci', fs.set k (.inr (.inl z))))) = .inr (ci', (fs.map (dn d)).set k (dn d (.inr (.inl z)))) := by
    show Sum.inr (ci', (fs.set k (.inr (.inl z))).map (dn d)) = _
    rw [List.map_set]
  rw [e9]
  exact hP
theorem s_putRF (hx : p.tables.exec = Jvm.exec) (hb : c.code = cc) {own C : String} {T : u_T} {N ci index k : Nat} {Ts : List Cond} (hts : ∀ w ∈ Ts, w.before args s = true) (hin : ∀ w ∈ u_ws C T N, w ∈ Ts) (hown : s.vm.findClass own = some m.cls) (hK : va_K E.1 xcl (xtys E.2) s) (hc : xcl[ci]? = some (C, T, N)) (hk : k < N) (hlink : (Cond.fieldLink own index (T k).1 (T k).2.1 (T k).2.2.1).before args s = true) (ty0 : Nat → FieldType) (hty0 : ∀ k, k < N → parseFieldDescriptor (T k).2.2.1 = some (ty0 k)) (hnm : ∀ a, a < N → ∀ b, b < N → a ≠ b → (T a).2.1 ≠ (T b).2.1) {ty : FieldType} (hd5 : parseFieldDescriptor (T k).2.2.1 = some ty) (hrf : ∀ a : Nat, narrow ty (.ref a) = .ref a ∧ fits ty (.ref a) = true) (hfin : (T k).2.2.2 = true) (hin2 : meth.name = "<init>") (hdecl : (T k).1 = own) (hd : decode cc pc = .ok (.putfield index, 3)) : HS (OKs p l e R s m args below meth c Q d E nL) F cO kO pcs pc (h_putf ci k 1) (pc + 3) := by
  intro call j K nx L S h hcall hj hK0 hn hi ls H locs cells slots hl hH
  obtain ⟨v, S, e9, hi9⟩ := mm_p_s hi
  clear hi
  subst e9
  have hi := hi9
  clear hi9
  obtain ⟨x, S, e9, hi9⟩ := mm_p_s hi
  clear hi
  subst e9
  have hi := hi9
  clear hi9
  obtain ⟨a, e9, hi9⟩ := mm_r_s hi
  clear hi
  subst e9
  have hi := hi9
  clear hi9
  obtain ⟨c0, hc0, hi9⟩ := mm_n_s hi
  clear hi
  have hi := hi9
  clear hi9
  obtain ⟨ci', fs, e9, hi9⟩ := mm_ob_s hi
  clear hi
  subst e9
  have hi := hi9
  clear hi9
  obtain ⟨g, hi9⟩ := mm_b_s hi
  clear hi
  have hi := hi9
  clear hi9
  obtain rfl := beq_s g
  obtain ⟨z, e9, hi9⟩ := mm_r_s hi
  clear hi
  subst e9
  have hi := hi9
  clear hi9
  obtain ⟨h1, hi9⟩ := mm_u_s hi
  clear hi
  have hi := hi9
  clear hi9
  obtain ⟨h2, hi9⟩ := mm_u_s hi
  clear hi
  have hi := hi9
  clear hi9
  refine va_putF (D := E.1) (v := .ref (d.1 + z)) (ty := ty) hx hb hts hin ty0 hty0 hnm hown hK hH.1 wo_D hH.2.1 a (wo_at hc0) hc k hk hlink (fun _ h9 => h9) hfin hin2 hdecl hd5 (hrf _).1 (hrf _).2 (by rw [List.length_map]; exact h1) hd (fun H1 locs1 hP _ hS => ?_)
  refine hn _ _ _ hi ls H1 locs1 cells slots hl (hH.set h2 ?_ hS)
  have e9 : ce d E.2 (.inr (.inl (ci', fs.set k (.inr (.inl z))))) = .inr (ci', (fs.map (dn d)).set k (dn d (.inr (.inl z)))) := by
    show Sum.inr (ci', (fs.set k (.inr (.inl z))).map (dn d)) = _
    rw [List.map_set]
  rw [e9]
  exact hP
theorem s_ald0 (hx : p.tables.exec = Jvm.exec) (hb : c.code = cc) (hK : va_K E.1 xcl (xtys E.2) s) (hd : decode cc pc = .ok (.iaload, 1)) : HS (OKs p l e R s m args below meth c Q d E nL) F cO kO pcs pc (h_ald 0) (pc + 1) := by
  intro call j K nx L S h hcall hj hK0 hn hi ls H locs cells slots hl hH
  obtain ⟨y, S, e9, hi9⟩ := mm_p_s hi
  clear hi
  subst e9
  have hi := hi9
  clear hi9
  obtain ⟨x, S, e9, hi9⟩ := mm_p_s hi
  clear hi
  subst e9
  have hi := hi9
  clear hi9
  rcases mm_i_s hi with ⟨i, e9, hi9⟩ | hi9
  · clear hi
    subst e9
    have hi := hi9
    clear hi9
    obtain ⟨a, e9, hi9⟩ := mm_r_s hi
    clear hi
    subst e9
    have hi := hi9
    clear hi9
    obtain ⟨c0, hc0, hi9⟩ := mm_n_s hi
    clear hi
    have hi := hi9
    clear hi9
    obtain ⟨ty', n, M, e9, hi9⟩ := mm_ar_s hi
    clear hi
    subst e9
    have hi := hi9
    clear hi9
    obtain ⟨g, hi9⟩ := mm_b_s hi
    clear hi
    have hi := hi9
    clear hi9
    obtain rfl := beq_s g
    obtain ⟨g1, hi9⟩ := mm_b_s hi
    clear hi
    have hi := hi9
    clear hi9
    obtain ⟨g2, hi9⟩ := mm_b_s hi
    clear hi
    have hi := hi9
    clear hi9
    have g1 := blt_s g1
    have g2 := ble_s g2
    have k9 := hn _ _ _ (mm_f_s hi) ls H locs cells slots hl hH
    refine va_iald hx hb hK hH.1 a 0 (wo_at hc0) rfl (i := nI i) (vp_in_nI g1 (by omega)) hd ?_
    rw [nI_clamp (by omega)]
    exact k9
  · clear hi
    have hi := hi9
    clear hi9
    cases hi
theorem s_ast0 (hx : p.tables.exec = Jvm.exec) (hb : c.code = cc) (hK : va_K E.1 xcl (xtys E.2) s) (hd : decode cc pc = .ok (.iastore, 1)) : HS (OKs p l e R s m args below meth c Q d E nL) F cO kO pcs pc (h_ast 0) (pc + 1) := by
  intro call j K nx L S h hcall hj hK0 hn hi ls H locs cells slots hl hH
  obtain ⟨z, S, e9, hi9⟩ := mm_p_s hi
  clear hi
  subst e9
  have hi := hi9
  clear hi9
  obtain ⟨y, S, e9, hi9⟩ := mm_p_s hi
  clear hi
  subst e9
  have hi := hi9
  clear hi9
  obtain ⟨x, S, e9, hi9⟩ := mm_p_s hi
  clear hi
  subst e9
  have hi := hi9
  clear hi9
  rcases mm_i_s hi with ⟨v, e9, hi9⟩ | hi9
  · clear hi
    subst e9
    have hi := hi9
    clear hi9
    rcases mm_i_s hi with ⟨i, e9, hi9⟩ | hi9
    · clear hi
      subst e9
      have hi := hi9
      clear hi9
      obtain ⟨a, e9, hi9⟩ := mm_r_s hi
      clear hi
      subst e9
      have hi := hi9
      clear hi9
      obtain ⟨c0, hc0, hi9⟩ := mm_n_s hi
      clear hi
      have hi := hi9
      clear hi9
      obtain ⟨ty', n, M, e9, hi9⟩ := mm_ar_s hi
      clear hi
      subst e9
      have hi := hi9
      clear hi9
      obtain ⟨g, hi9⟩ := mm_b_s hi
      clear hi
      have hi := hi9
      clear hi9
      obtain rfl := beq_s g
      obtain ⟨g1, hi9⟩ := mm_b_s hi
      clear hi
      have hi := hi9
      clear hi9
      obtain ⟨g2, hi9⟩ := mm_b_s hi
      clear hi
      have hi := hi9
      clear hi9
      obtain ⟨g3, hi9⟩ := mm_b_s hi
      clear hi
      have hi := hi9
      clear hi9
      have g1 := blt_s g1
      have g2 := ble_s g2
      obtain ⟨h2, hi⟩ := mm_u_s (mm_f_s hi)
      refine va_iast hx hb hK hH.1 wo_D hH.2.1 a 0 (wo_at hc0) rfl (i := nI i) (x := nI v) (vp_in_nI g1 (by omega)) hd (fun H1 locs1 hP _ hS => ?_)
      rw [nI_clamp (by omega)] at hP
      refine hn _ _ _ hi ls H1 locs1 cells slots hl (hH.set h2 ?_ hS)
      have e9 : (fun j => nI (mm_gt (mm_st M i v) j)) = upd (fun j => nI (mm_gt M j)) i (nI v) := by
        funext q
        rw [gt_set]
        by_cases hq : q = i
        · subst hq
          rw [if_pos rfl, nI_md]
          simp [upd]
        · rw [if_neg hq]
          simp [upd, hq]
      rw [show ce d E.2 (.inl (0, n, mm_st M i v)) = .inl (E.2 0, n, .inl (fun j => nI (mm_gt (mm_st M i v) j))) from rfl, e9]
      exact hP
    · clear hi
      have hi := hi9
      clear hi9
      cases hi
  · clear hi
    have hi := hi9
    clear hi9
    cases hi
theorem s_ald1 (hx : p.tables.exec = Jvm.exec) (hb : c.code = cc) (hK : va_K E.1 xcl (xtys E.2) s) (hd : decode cc pc = .ok (.caload, 1)) : HS (OKs p l e R s m args below meth c Q d E nL) F cO kO pcs pc (h_ald 1) (pc + 1) := by
  intro call j K nx L S h hcall hj hK0 hn hi ls H locs cells slots hl hH
  obtain ⟨y, S, e9, hi9⟩ := mm_p_s hi
  clear hi
  subst e9
  have hi := hi9
  clear hi9
  obtain ⟨x, S, e9, hi9⟩ := mm_p_s hi
  clear hi
  subst e9
  have hi := hi9
  clear hi9
  rcases mm_i_s hi with ⟨i, e9, hi9⟩ | hi9
  · clear hi
    subst e9
    have hi := hi9
    clear hi9
    obtain ⟨a, e9, hi9⟩ := mm_r_s hi
    clear hi
    subst e9
    have hi := hi9
    clear hi9
    obtain ⟨c0, hc0, hi9⟩ := mm_n_s hi
    clear hi
    have hi := hi9
    clear hi9
    obtain ⟨ty', n, M, e9, hi9⟩ := mm_ar_s hi
    clear hi
    subst e9
    have hi := hi9
    clear hi9
    obtain ⟨g, hi9⟩ := mm_b_s hi
    clear hi
    have hi := hi9
    clear hi9
    obtain rfl := beq_s g
    obtain ⟨g1, hi9⟩ := mm_b_s hi
    clear hi
    have hi := hi9
    clear hi9
    obtain ⟨g2, hi9⟩ := mm_b_s hi
    clear hi
    have hi := hi9
    clear hi9
    have g1 := blt_s g1
    have g2 := ble_s g2
    have k9 := hn _ _ _ (mm_f_s hi) ls H locs cells slots hl hH
    refine va_cald hx hb hK hH.1 a 1 (wo_at hc0) rfl (i := nI i) (vp_in_nI g1 (by omega)) hd ?_
    rw [nI_clamp (by omega)]
    exact k9
  · clear hi
    have hi := hi9
    clear hi9
    cases hi
theorem s_ast1 (hx : p.tables.exec = Jvm.exec) (hb : c.code = cc) (hK : va_K E.1 xcl (xtys E.2) s) (hd : decode cc pc = .ok (.castore, 1)) : HS (OKs p l e R s m args below meth c Q d E nL) F cO kO pcs pc (h_ast 1) (pc + 1) := by
  intro call j K nx L S h hcall hj hK0 hn hi ls H locs cells slots hl hH
  obtain ⟨z, S, e9, hi9⟩ := mm_p_s hi
  clear hi
  subst e9
  have hi := hi9
  clear hi9
  obtain ⟨y, S, e9, hi9⟩ := mm_p_s hi
  clear hi
  subst e9
  have hi := hi9
  clear hi9
  obtain ⟨x, S, e9, hi9⟩ := mm_p_s hi
  clear hi
  subst e9
  have hi := hi9
  clear hi9
  rcases mm_i_s hi with ⟨v, e9, hi9⟩ | hi9
  · clear hi
    subst e9
    have hi := hi9
    clear hi9
    rcases mm_i_s hi with ⟨i, e9, hi9⟩ | hi9
    · clear hi
      subst e9
      have hi := hi9
      clear hi9
      obtain ⟨a, e9, hi9⟩ := mm_r_s hi
      clear hi
      subst e9
      have hi := hi9
      clear hi9
      obtain ⟨c0, hc0, hi9⟩ := mm_n_s hi
      clear hi
      have hi := hi9
      clear hi9
      obtain ⟨ty', n, M, e9, hi9⟩ := mm_ar_s hi
      clear hi
      subst e9
      have hi := hi9
      clear hi9
      obtain ⟨g, hi9⟩ := mm_b_s hi
      clear hi
      have hi := hi9
      clear hi9
      obtain rfl := beq_s g
      obtain ⟨g1, hi9⟩ := mm_b_s hi
      clear hi
      have hi := hi9
      clear hi9
      obtain ⟨g2, hi9⟩ := mm_b_s hi
      clear hi
      have hi := hi9
      clear hi9
      obtain ⟨g3, hi9⟩ := mm_b_s hi
      clear hi
      have hi := hi9
      clear hi9
      have g1 := blt_s g1
      have g2 := ble_s g2
      obtain ⟨h2, hi⟩ := mm_u_s (mm_f_s hi)
      refine va_cast hx hb hK hH.1 wo_D hH.2.1 a 1 (wo_at hc0) rfl (i := nI i) (x := nI v) (vp_in_nI g1 (by omega)) hd (fun H1 locs1 hP _ hS => ?_)
      rw [nI_clamp (by omega)] at hP
      refine hn _ _ _ hi ls H1 locs1 cells slots hl (hH.set h2 ?_ hS)
      have e9 : (fun j => nI (mm_gt (mm_st M i v) j)) = upd (fun j => nI (mm_gt M j)) i (vp_nar .char (nI v)) := by
        funext q
        rw [gt_set]
        by_cases hq : q = i
        · subst hq
          rw [if_pos rfl, nI_md, show vp_nar .char (nI v) = nI v from nar_c v (ble_s g3)]
          simp [upd]
        · rw [if_neg hq]
          simp [upd, hq]
      rw [show ce d E.2 (.inl (1, n, mm_st M i v)) = .inl (E.2 1, n, .inl (fun j => nI (mm_gt (mm_st M i v) j))) from rfl, e9]
      exact hP
    · clear hi
      have hi := hi9
      clear hi9
      cases hi
  · clear hi
    have hi := hi9
    clear hi9
    cases hi
theorem s_alen (hx : p.tables.exec = Jvm.exec) (hb : c.code = cc) (hK : va_K E.1 xcl (xtys E.2) s) (hd : decode cc pc = .ok (.arraylength, 1)) : HS (OKs p l e R s m args below meth c Q d E nL) F cO kO pcs pc h_alen (pc + 1) := by
  intro call j K nx L S h hcall hj hK0 hn hi ls H locs cells slots hl hH
  obtain ⟨x, S, e9, hi9⟩ := mm_p_s hi
  clear hi
  subst e9
  have hi := hi9
  clear hi9
  obtain ⟨a, e9, hi9⟩ := mm_r_s hi
  clear hi
  subst e9
  have hi := hi9
  clear hi9
  obtain ⟨c0, hc0, hi9⟩ := mm_n_s hi
  clear hi
  have hi := hi9
  clear hi9
  rcases c0 with ⟨ty, n, M⟩ | b | ⟨ty, es⟩
  · obtain ⟨g, hi9⟩ := mm_b_s hi
    clear hi
    have hi := hi9
    clear hi9
    exact va_alen (v := nI n) hx hb hK hH.1 a ty (wo_at hc0) (xtys_at E.2 (ble_s g)) rfl hd (hn _ _ _ hi ls H locs cells slots hl hH)
  · cases hi
  · obtain ⟨g, hi9⟩ := mm_b_s hi
    clear hi
    have hi := hi9
    clear hi9
    exact va_alen (v := nI es.length) hx hb hK hH.1 a ty (wo_at hc0) (xtys_at E.2 (ble_s g)) rfl hd (hn _ _ _ (mm_f_s hi) ls H locs cells slots hl hH)
theorem rf_at {es : List mV} {i v : Nat} (h : es[i]? = some (.inr (.inl v))) : rf d es[i]? = some (d.1 + v) := by rw [h]; rfl
theorem s_aald (hx : p.tables.exec = Jvm.exec) (hb : c.code = cc) (hK : va_K E.1 xcl (xtys E.2) s) (hd : decode cc pc = .ok (.aaload, 1)) : HS (OKs p l e R s m args below meth c Q d E nL) F cO kO pcs pc h_aald (pc + 1) := by
  intro call j K nx L S h hcall hj hK0 hn hi ls H locs cells slots hl hH
  obtain ⟨y, S, e9, hi9⟩ := mm_p_s hi
  clear hi
  subst e9
  have hi := hi9
  clear hi9
  obtain ⟨x, S, e9, hi9⟩ := mm_p_s hi
  clear hi
  subst e9
  have hi := hi9
  clear hi9
  rcases mm_i_s hi with ⟨i, e9, hi9⟩ | hi9
  · clear hi
    subst e9
    have hi := hi9
    clear hi9
    obtain ⟨a, e9, hi9⟩ := mm_r_s hi
    clear hi
    subst e9
    have hi := hi9
    clear hi9
    obtain ⟨c0, hc0, hi9⟩ := mm_n_s hi
    clear hi
    have hi := hi9
    clear hi9
    obtain ⟨ty, es, e9, hi9⟩ := mm_rr_s hi
    clear hi
    subst e9
    have hi := hi9
    clear hi9
    obtain ⟨g1, hi9⟩ := mm_b_s hi
    clear hi
    have hi := hi9
    clear hi9
    obtain ⟨g2, hi9⟩ := mm_b_s hi
    clear hi
    have hi := hi9
    clear hi9
    obtain ⟨g3, hi9⟩ := mm_b_s hi
    clear hi
    have hi := hi9
    clear hi9
    have g1 := ble_s g1
    have g2 := ble_s g2
    have g3 := ble_s g3
    obtain ⟨v, hv, hi9⟩ := mm_n_s hi
    clear hi
    have hi := hi9
    clear hi9
    obtain ⟨q, e9, hi9⟩ := mm_r_s hi
    clear hi
    subst e9
    have hi := hi9
    clear hi9
    have hlt : i < es.length := (List.getElem?_eq_some_iff.mp hv).1
    have hrt : (xty ty).isReference = true := by
      rcases ty with _ | _ | _ | _ | _ | ty
      · omega
      · omega
      · rfl
      · rfl
      · rfl
      · omega
    have k9 := hn _ _ _ hi ls H locs cells slots hl hH
    have hcell := hH.1 a _ (wo_at hc0)
    have hin : vp_in (nI i) es.length := vp_in_nI hlt (by omega)
    refine W.aald (v := .ref (d.1 + q)) (ty := xty ty) hx hb hcell ((hK.2 ty _ (xtys_at E.2 g1)).1 es.length (fun j => va_rf (rf d es[j]?))) hrt (fun q => by cases q) (by show ¬ (nI i < 0 ∨ (arrV _ _ _).slots.size ≤ _); rw [arrV_size]; exact hin) ?_ rfl rfl hd k9
    show (arrV _ _ _).slots[_]? = _
    rw [nI_clamp (by omega), arrV_read _ _ hlt]
    show some (va_rf (rf d es[i]?)) = _
    rw [rf_at (d := d) hv]
    rfl
  · clear hi
    have hi := hi9
    clear hi9
    cases hi
end SND
