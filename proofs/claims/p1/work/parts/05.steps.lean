/-! A ROW A HANDLER: where the handler says true, the machine goes on as it should -/
section SND
variable {p : Program} {l : Launch} {e : Env} {R : Room} {s : State} {m : MethodId} {args : Array Value} {below : List Frame} {meth : Method} {c : Code} {Q : State → Prop}
variable {cc : ByteArray} {d : mD} {E : mE} {nL pc : Nat} {F : mF} {cO : mA → Prop} {kO : mK → Prop} {pcs : Nat → Nat}
theorem s_iconst (hx : p.tables.exec = Jvm.exec) (hb : c.code = cc) {z : Int} {k : Nat} (hd : decode cc pc = .ok (.iconst z, 1)) (hv : Int32.ofInt z = nI k) : HS (OKs p l e R s m args below meth c Q d E nL) F cO kO pcs pc (h_const k) (pc + 1) := by
  intro call j K nx L S h hcall hj hK hn hi ls H locs cells slots hl hH
  exact lv_iconst hx hb hd hv (hn _ _ _ hi ls H locs cells slots hl hH)
theorem s_bipush (hx : p.tables.exec = Jvm.exec) (hb : c.code = cc) {z : Int} {k : Nat} (hd : decode cc pc = .ok (.bipush z, 2)) (hv : (Int8.ofInt z).toInt32 = nI k) : HS (OKs p l e R s m args below meth c Q d E nL) F cO kO pcs pc (h_const k) (pc + 2) := by
  intro call j K nx L S h hcall hj hK hn hi ls H locs cells slots hl hH
  exact lv_bipush hx hb hd hv (hn _ _ _ hi ls H locs cells slots hl hH)
theorem s_sipush (hx : p.tables.exec = Jvm.exec) (hb : c.code = cc) {z : Int} {k : Nat} (hd : decode cc pc = .ok (.sipush z, 3)) (hv : (Int16.ofInt z).toInt32 = nI k) : HS (OKs p l e R s m args below meth c Q d E nL) F cO kO pcs pc (h_const k) (pc + 3) := by
  intro call j K nx L S h hcall hj hK hn hi ls H locs cells slots hl hH
  exact lv_sipush hx hb hd hv (hn _ _ _ hi ls H locs cells slots hl hH)
theorem s_lconst (hx : p.tables.exec = Jvm.exec) (hb : c.code = cc) {z : Fin 2} {k : Nat} (hd : decode cc pc = .ok (.lconst z, 1)) (hv : Int64.ofNat (z : Nat) = lN k) : HS (OKs p l e R s m args below meth c Q d E nL) F cO kO pcs pc (h_lconst k) (pc + 1) := by
  intro call j K nx L S h hcall hj hK hn hi ls H locs cells slots hl hH
  exact lv_lconst hx hb hd hv (hn _ _ _ hi ls H locs cells slots hl hH)
theorem s_ldc2 (hx : p.tables.exec = Jvm.exec) (hb : c.code = cc) {own : String} {index k : Nat} (hown : s.vm.findClass own = some m.cls) (hc : (Jvm.Cond.constantLong own index (lN k)).before args s = true) (hd : decode cc pc = .ok (.ldc2_w index, 3)) : HS (OKs p l e R s m args below meth c Q d E nL) F cO kO pcs pc (h_lconst k) (pc + 3) := by
  intro call j K nx L S h hcall hj hK hn hi ls H locs cells slots hl hH
  exact lv_ldc2 hx hb hown hc hd (hn _ _ _ hi ls H locs cells slots hl hH)
theorem s_ldcw (hx : p.tables.exec = Jvm.exec) (hb : c.code = cc) {own : String} {index k : Nat} (hown : s.vm.findClass own = some m.cls) (hc : (Jvm.Cond.constant own index (nI k)).before args s = true) (hd : decode cc pc = .ok (.ldc_w index, 3)) : HS (OKs p l e R s m args below meth c Q d E nL) F cO kO pcs pc (h_const k) (pc + 3) := by
  intro call j K nx L S h hcall hj hK hn hi ls H locs cells slots hl hH
  exact lv_ldcw hx hb hown hc hd (hn _ _ _ hi ls H locs cells slots hl hH)
theorem s_iload_n (hx : p.tables.exec = Jvm.exec) (hb : c.code = cc) {k : Fin 4} {i : Nat} (hd : decode cc pc = .ok (.iload_n k, 1)) (hk : (k : Nat) = i) : HS (OKs p l e R s m args below meth c Q d E nL) F cO kO pcs pc (h_iload i) (pc + 1) := by
  intro call j K nx L S h hcall hj hK hn hi ls H locs cells slots hl hH
  obtain ⟨o, ho, hi⟩ := mm_n_s hi
  cases o with
  | none => cases hi
  | some v =>
    obtain ⟨⟨x, hxv⟩, hi⟩ := mm_ci_s d hi
    have hg := lvo_get hl ho
    rw [hxv] at hg
    have k9 := hn _ _ _ hi ls H locs cells slots hl hH
    rw [List.map_cons, hxv] at k9
    exact lv_iload_n hx hb hd hk hg k9
theorem s_iload (hx : p.tables.exec = Jvm.exec) (hb : c.code = cc) {i : Nat} (hd : decode cc pc = .ok (.iload i, 2)) : HS (OKs p l e R s m args below meth c Q d E nL) F cO kO pcs pc (h_iload i) (pc + 2) := by
  intro call j K nx L S h hcall hj hK hn hi ls H locs cells slots hl hH
  obtain ⟨o, ho, hi⟩ := mm_n_s hi
  cases o with
  | none => cases hi
  | some v =>
    obtain ⟨⟨x, hxv⟩, hi⟩ := mm_ci_s d hi
    have hg := lvo_get hl ho
    rw [hxv] at hg
    have k9 := hn _ _ _ hi ls H locs cells slots hl hH
    rw [List.map_cons, hxv] at k9
    exact lv_iload hx hb hd hg k9
theorem s_lload_n (hx : p.tables.exec = Jvm.exec) (hb : c.code = cc) {k : Fin 4} {i : Nat} (hd : decode cc pc = .ok (.lload_n k, 1)) (hk : (k : Nat) = i) : HS (OKs p l e R s m args below meth c Q d E nL) F cO kO pcs pc (h_lload i) (pc + 1) := by
  intro call j K nx L S h hcall hj hK hn hi ls H locs cells slots hl hH
  obtain ⟨o, ho, hi⟩ := mm_n_s hi
  cases o with
  | none => cases hi
  | some v =>
    obtain ⟨⟨x, hxv⟩, hi⟩ := mm_cl_s d hi
    have hg := lvo_get hl ho
    rw [hxv] at hg
    have k9 := hn _ _ _ hi ls H locs cells slots hl hH
    rw [List.map_cons, hxv] at k9
    exact lv_lload_n hx hb hd hk hg k9
theorem s_lload (hx : p.tables.exec = Jvm.exec) (hb : c.code = cc) {i : Nat} (hd : decode cc pc = .ok (.lload i, 2)) : HS (OKs p l e R s m args below meth c Q d E nL) F cO kO pcs pc (h_lload i) (pc + 2) := by
  intro call j K nx L S h hcall hj hK hn hi ls H locs cells slots hl hH
  obtain ⟨o, ho, hi⟩ := mm_n_s hi
  cases o with
  | none => cases hi
  | some v =>
    obtain ⟨⟨x, hxv⟩, hi⟩ := mm_cl_s d hi
    have hg := lvo_get hl ho
    rw [hxv] at hg
    have k9 := hn _ _ _ hi ls H locs cells slots hl hH
    rw [List.map_cons, hxv] at k9
    exact lv_lload hx hb hd hg k9
theorem s_aload_n (hx : p.tables.exec = Jvm.exec) (hb : c.code = cc) {k : Fin 4} {i : Nat} (hd : decode cc pc = .ok (.aload_n k, 1)) (hk : (k : Nat) = i) : HS (OKs p l e R s m args below meth c Q d E nL) F cO kO pcs pc (h_aload i) (pc + 1) := by
  intro call j K nx L S h hcall hj hK hn hi ls H locs cells slots hl hH
  obtain ⟨o, ho, hi⟩ := mm_n_s hi
  cases o with
  | none => cases hi
  | some v =>
    obtain ⟨a, e9, hi9⟩ := mm_r_s hi
    clear hi
    subst e9
    have hi := hi9
    clear hi9
    exact lv_aload_n hx hb hd hk (lvo_get hl ho) (hn _ _ _ hi ls H locs cells slots hl hH)
theorem s_istore_n (hx : p.tables.exec = Jvm.exec) (hb : c.code = cc) {k : Fin 4} {i : Nat} (hd : decode cc pc = .ok (.istore_n k, 1)) (hk : (k : Nat) = i) (hin : i < nL) : HS (OKs p l e R s m args below meth c Q d E nL) F cO kO pcs pc (h_istore i) (pc + 1) := by
  intro call j K nx L S h hcall hj hK hn hi ls H locs cells slots hl hH
  obtain ⟨v, S, e9, hi9⟩ := mm_p_s hi
  clear hi
  subst e9
  have hi := hi9
  clear hi9
  obtain ⟨⟨x, hxv⟩, hi⟩ := mm_ci_s d hi
  obtain ⟨h1, h2, h3⟩ := mm_ls_s d hi
  rw [List.map_cons, hxv]
  refine lv_istore_n hx hb hd hk hl hin rfl (fun ls' hl' => hn _ _ _ h2 ls' H locs cells slots (lvo_put h1 h3 ?_) hH)
  rw [hxv]
  exact hl'
theorem s_lstore_n (hx : p.tables.exec = Jvm.exec) (hb : c.code = cc) {k : Fin 4} {i : Nat} (hd : decode cc pc = .ok (.lstore_n k, 1)) (hk : (k : Nat) = i) (hin : i + 1 < nL) : HS (OKs p l e R s m args below meth c Q d E nL) F cO kO pcs pc (h_lstore i) (pc + 1) := by
  intro call j K nx L S h hcall hj hK hn hi ls H locs cells slots hl hH
  obtain ⟨v, S, e9, hi9⟩ := mm_p_s hi
  clear hi
  subst e9
  have hi := hi9
  clear hi9
  obtain ⟨⟨x, hxv⟩, hi⟩ := mm_cl_s d hi
  obtain ⟨h1, h2, h3⟩ := mm_ls_s d hi
  obtain ⟨h4, h5⟩ := mm_u_s h2
  rw [List.length_set] at h4
  rw [List.map_cons, hxv]
  refine lv_lstore_n hx hb hd hk hl hin rfl (fun ls' hl' => hn _ _ _ h5 ls' H locs cells slots (lvo_put2 h4 h3 ?_) hH)
  rw [hxv]
  exact hl'
theorem s_istore (hx : p.tables.exec = Jvm.exec) (hb : c.code = cc) {i : Nat} (hd : decode cc pc = .ok (.istore i, 2)) (hin : i < nL) : HS (OKs p l e R s m args below meth c Q d E nL) F cO kO pcs pc (h_istore i) (pc + 2) := by
  intro call j K nx L S h hcall hj hK hn hi ls H locs cells slots hl hH
  obtain ⟨v, S, e9, hi9⟩ := mm_p_s hi
  clear hi
  subst e9
  have hi := hi9
  clear hi9
  obtain ⟨⟨x, hxv⟩, hi⟩ := mm_ci_s d hi
  obtain ⟨h1, h2, h3⟩ := mm_ls_s d hi
  rw [List.map_cons, hxv]
  refine lv_istore hx hb hd hl hin rfl (fun ls' hl' => hn _ _ _ h2 ls' H locs cells slots (lvo_put h1 h3 ?_) hH)
  rw [hxv]
  exact hl'
theorem s_lstore (hx : p.tables.exec = Jvm.exec) (hb : c.code = cc) {i : Nat} (hd : decode cc pc = .ok (.lstore i, 2)) (hin : i + 1 < nL) : HS (OKs p l e R s m args below meth c Q d E nL) F cO kO pcs pc (h_lstore i) (pc + 2) := by
  intro call j K nx L S h hcall hj hK hn hi ls H locs cells slots hl hH
  obtain ⟨v, S, e9, hi9⟩ := mm_p_s hi
  clear hi
  subst e9
  have hi := hi9
  clear hi9
  obtain ⟨⟨x, hxv⟩, hi⟩ := mm_cl_s d hi
  obtain ⟨h1, h2, h3⟩ := mm_ls_s d hi
  obtain ⟨h4, h5⟩ := mm_u_s h2
  rw [List.length_set] at h4
  rw [List.map_cons, hxv]
  refine lv_lstore hx hb hd hl hin rfl (fun ls' hl' => hn _ _ _ h5 ls' H locs cells slots (lvo_put2 h4 h3 ?_) hH)
  rw [hxv]
  exact hl'
theorem s_astore_n (hx : p.tables.exec = Jvm.exec) (hb : c.code = cc) {k : Fin 4} {i : Nat} (hd : decode cc pc = .ok (.astore_n k, 1)) (hk : (k : Nat) = i) (hin : i < nL) : HS (OKs p l e R s m args below meth c Q d E nL) F cO kO pcs pc (h_astore i) (pc + 1) := by
  intro call j K nx L S h hcall hj hK hn hi ls H locs cells slots hl hH
  obtain ⟨v, S, e9, hi9⟩ := mm_p_s hi
  clear hi
  subst e9
  have hi := hi9
  clear hi9
  obtain ⟨a, e9, hi9⟩ := mm_r_s hi
  clear hi
  subst e9
  have hi := hi9
  clear hi9
  obtain ⟨h1, h2, h3⟩ := mm_ls_s d hi
  exact lv_astore_n hx hb hd hk hl hin rfl (fun ls' hl' => hn _ _ _ h2 ls' H locs cells slots (lvo_put h1 h3 hl') hH)
theorem s_iinc (hx : p.tables.exec = Jvm.exec) (hb : c.code = cc) {i k : Nat} {z : Int} (hd : decode cc pc = .ok (.iinc i z, 3)) (hz : Int32.ofInt z = nI k) (hin : i < nL) : HS (OKs p l e R s m args below meth c Q d E nL) F cO kO pcs pc (h_iinc i k) (pc + 3) := by
  intro call j K nx L S h hcall hj hK hn hi ls H locs cells slots hl hH
  obtain ⟨o, ho, hi⟩ := mm_n_s hi
  cases o with
  | none => cases hi
  | some v =>
    rcases mm_i_s hi with ⟨a, e9, hi9⟩ | hi9
    · clear hi
      subst e9
      have hi := hi9
      clear hi9
      obtain ⟨h1, h2, h3⟩ := mm_ls_s d (mm_f_s hi)
      obtain ⟨j9, hj9⟩ := List.getElem?_of_mem (lvo_mem.mpr ⟨i, .inl a, ho, rfl⟩ : (0 + i, dn d (.inl a)) ∈ lvo d 0 L)
      rw [Nat.zero_add] at hj9
      exact lv_iinc (x := nI a) (v := nI (Nat.mod (Nat.add a k) 4294967296)) hx hb hd hl hj9 (by rw [hz, nI_md]; exact nI_add a k) hin rfl (fun ls' hl' => hn _ _ _ h2 ls' H locs cells slots (lvo_put h1 h3 hl') hH)
    · clear hi
      have hi := hi9
      clear hi9
      cases hi
theorem s_iadd (hx : p.tables.exec = Jvm.exec) (hb : c.code = cc) (hd : decode cc pc = .ok (.iadd, 1)) : HS (OKs p l e R s m args below meth c Q d E nL) F cO kO pcs pc h_iadd (pc + 1) := by
  intro call j K nx L S h hcall hj hK hn hi ls H locs cells slots hl hH
  obtain ⟨y, S, e9, hi9⟩ := mm_p_s hi
  clear hi
  subst e9
  have hi := hi9
  clear hi9
  obtain ⟨x, S, e9, hi9⟩ := mm_p_s hi
  clear hi
  subst e9
  have hi := hi9
  clear hi9
  rcases mm_i_s hi with ⟨b, e9, hi9⟩ | hi9
  · clear hi
    subst e9
    have hi := hi9
    clear hi9
    rcases mm_i_s hi with ⟨a, e9, hi9⟩ | hi9
    · clear hi
      subst e9
      have hi := hi9
      clear hi9
      have k9 := hn _ _ _ (mm_f_s hi) ls H locs cells slots hl hH
      rw [List.map_cons, show dn d (.inl _) = Value.int _ from rfl, nI_md, show Nat.add a b = a + b from rfl, ← nI_add] at k9
      exact lv_iadd hx hb hd k9
    · clear hi
      have hi := hi9
      clear hi9
      cases hi
  · clear hi
    have hi := hi9
    clear hi9
    cases hi
theorem s_isub (hx : p.tables.exec = Jvm.exec) (hb : c.code = cc) (hd : decode cc pc = .ok (.isub, 1)) : HS (OKs p l e R s m args below meth c Q d E nL) F cO kO pcs pc h_isub (pc + 1) := by
  intro call j K nx L S h hcall hj hK hn hi ls H locs cells slots hl hH
  obtain ⟨y, S, e9, hi9⟩ := mm_p_s hi
  clear hi
  subst e9
  have hi := hi9
  clear hi9
  obtain ⟨x, S, e9, hi9⟩ := mm_p_s hi
  clear hi
  subst e9
  have hi := hi9
  clear hi9
  rcases mm_i_s hi with ⟨b, e9, hi9⟩ | hi9
  · clear hi
    subst e9
    have hi := hi9
    clear hi9
    rcases mm_i_s hi with ⟨a, e9, hi9⟩ | hi9
    · clear hi
      subst e9
      have hi := hi9
      clear hi9
      have k9 := hn _ _ _ (mm_f_s hi) ls H locs cells slots hl hH
      rw [List.map_cons, show dn d (.inl _) = Value.int _ from rfl, ← nI_subE] at k9
      exact lv_isub hx hb hd k9
    · clear hi
      have hi := hi9
      clear hi9
      cases hi
  · clear hi
    have hi := hi9
    clear hi9
    cases hi
theorem s_imul (hx : p.tables.exec = Jvm.exec) (hb : c.code = cc) (hd : decode cc pc = .ok (.imul, 1)) (hF : FOK d F) : HS (OKs p l e R s m args below meth c Q d E nL) F cO kO pcs pc h_imul (pc + 1) := by
  intro call j K nx L S h hcall hj hK hn hi ls H locs cells slots hl hH
  obtain ⟨y, S, e9, hi9⟩ := mm_p_s hi
  clear hi
  subst e9
  have hi := hi9
  clear hi9
  obtain ⟨x, S, e9, hi9⟩ := mm_p_s hi
  clear hi
  subst e9
  have hi := hi9
  clear hi9
  rcases mm_i_s hi with ⟨b, e9, hi9⟩ | hi9
  · clear hi
    subst e9
    have hi := hi9
    clear hi9
    rcases mm_i_s hi with ⟨a, e9, hi9⟩ | hi9
    · clear hi
      subst e9
      have hi := hi9
      clear hi9
      have k9 := hn _ _ _ (mm_f_s hi) ls H locs cells slots hl hH
      rw [List.map_cons, show dn d (.inl _) = Value.int _ from rfl, nI_md, show Nat.mul a b = a * b from rfl, ← pk_mul] at k9
      exact lv_imul hx hb hd k9
    · clear hi
      have hi := hi9
      clear hi9
      obtain ⟨r, ⟨x', y', e1, e2, e3⟩, -, hi⟩ := mm_k_s hF hi
      have k9 := hn _ _ _ hi ls H locs cells slots hl hH
      rw [List.map_cons, e3] at k9
      rw [List.map_cons, List.map_cons, e1, e2]
      exact lv_imul hx hb hd k9
  · clear hi
    have hi := hi9
    clear hi9
    obtain ⟨r, ⟨x', y', e1, e2, e3⟩, -, hi⟩ := mm_k_s hF hi
    have k9 := hn _ _ _ hi ls H locs cells slots hl hH
    rw [List.map_cons, e3] at k9
    rw [List.map_cons, List.map_cons, e1, e2]
    exact lv_imul hx hb hd k9
theorem s_iand (hx : p.tables.exec = Jvm.exec) (hb : c.code = cc) (hd : decode cc pc = .ok (.iand, 1)) : HS (OKs p l e R s m args below meth c Q d E nL) F cO kO pcs pc h_iand (pc + 1) := by
  intro call j K nx L S h hcall hj hK hn hi ls H locs cells slots hl hH
  obtain ⟨y, S, e9, hi9⟩ := mm_p_s hi
  clear hi
  subst e9
  have hi := hi9
  clear hi9
  obtain ⟨x, S, e9, hi9⟩ := mm_p_s hi
  clear hi
  subst e9
  have hi := hi9
  clear hi9
  rcases mm_i_s hi with ⟨b, e9, hi9⟩ | hi9
  · clear hi
    subst e9
    have hi := hi9
    clear hi9
    rcases mm_i_s hi with ⟨a, e9, hi9⟩ | hi9
    · clear hi
      subst e9
      have hi := hi9
      clear hi9
      have k9 := hn _ _ _ (mm_f_s hi) ls H locs cells slots hl hH
      rw [List.map_cons, show dn d (.inl _) = Value.int _ from rfl, show Nat.land a b = a &&& b from rfl, ← nx_and] at k9
      exact lv_iand hx hb hd k9
    · clear hi
      have hi := hi9
      clear hi9
      cases hi
  · clear hi
    have hi := hi9
    clear hi9
    cases hi
theorem s_ior (hx : p.tables.exec = Jvm.exec) (hb : c.code = cc) (hd : decode cc pc = .ok (.ior, 1)) : HS (OKs p l e R s m args below meth c Q d E nL) F cO kO pcs pc h_ior (pc + 1) := by
  intro call j K nx L S h hcall hj hK hn hi ls H locs cells slots hl hH
  obtain ⟨y, S, e9, hi9⟩ := mm_p_s hi
  clear hi
  subst e9
  have hi := hi9
  clear hi9
  obtain ⟨x, S, e9, hi9⟩ := mm_p_s hi
  clear hi
  subst e9
  have hi := hi9
  clear hi9
  rcases mm_i_s hi with ⟨b, e9, hi9⟩ | hi9
  · clear hi
    subst e9
    have hi := hi9
    clear hi9
    rcases mm_i_s hi with ⟨a, e9, hi9⟩ | hi9
    · clear hi
      subst e9
      have hi := hi9
      clear hi9
      have k9 := hn _ _ _ (mm_f_s hi) ls H locs cells slots hl hH
      rw [List.map_cons, show dn d (.inl _) = Value.int _ from rfl, show Nat.lor a b = a ||| b from rfl, ← nx_or9] at k9
      exact lv_ior hx hb hd k9
    · clear hi
      have hi := hi9
      clear hi9
      cases hi
  · clear hi
    have hi := hi9
    clear hi9
    cases hi
theorem s_ixor (hx : p.tables.exec = Jvm.exec) (hb : c.code = cc) (hd : decode cc pc = .ok (.ixor, 1)) : HS (OKs p l e R s m args below meth c Q d E nL) F cO kO pcs pc h_ixor (pc + 1) := by
  intro call j K nx L S h hcall hj hK hn hi ls H locs cells slots hl hH
  obtain ⟨y, S, e9, hi9⟩ := mm_p_s hi
  clear hi
  subst e9
  have hi := hi9
  clear hi9
  obtain ⟨x, S, e9, hi9⟩ := mm_p_s hi
  clear hi
  subst e9
  have hi := hi9
  clear hi9
  rcases mm_i_s hi with ⟨b, e9, hi9⟩ | hi9
  · clear hi
    subst e9
    have hi := hi9
    clear hi9
    rcases mm_i_s hi with ⟨a, e9, hi9⟩ | hi9
    · clear hi
      subst e9
      have hi := hi9
      clear hi9
      have k9 := hn _ _ _ (mm_f_s hi) ls H locs cells slots hl hH
      rw [List.map_cons, show dn d (.inl _) = Value.int _ from rfl, show Nat.xor a b = a ^^^ b from rfl, ← nx_xor9] at k9
      exact lv_ixor hx hb hd k9
    · clear hi
      have hi := hi9
      clear hi9
      cases hi
  · clear hi
    have hi := hi9
    clear hi9
    cases hi
end SND
