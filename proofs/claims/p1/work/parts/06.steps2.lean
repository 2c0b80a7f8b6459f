/-! more rows, a row a handler -/
theorem s_l9 : ∀ n, n < 32 → ((nI n &&& 31).toBitVec.smod 32).toNat = n := by decide +kernel
theorem s_u9 : ∀ n, n < 32 → (((nI n).toUInt32 &&& Int32.toUInt32 31).toBitVec % 32).toNat = n := by decide +kernel
theorem tn_nI (a : Nat) : (nI a).toBitVec.toNat = a % 4294967296 := by
  show (BitVec.ofNat 32 a).toNat = _
  rw [BitVec.toNat_ofNat]
theorem nI_shl (a b : Nat) (h : b ≤ 31) : nI a <<< (nI b &&& 31) = nI (Nat.mod (Nat.shiftLeft a b) 4294967296) := by
  apply Int32.toBitVec_inj.1
  apply BitVec.eq_of_toNat_eq
  rw [pk_shl _ _ b (s_l9 b (by omega)), tn_nI, tn_nI]
  show a % 4294967296 * 2 ^ b % 4294967296 = (a <<< b) % 4294967296 % 4294967296
  rw [Nat.shiftLeft_eq, Nat.mod_mod, Nat.mod_mul_mod]
theorem nI_shr (a b : Nat) (h : b ≤ 31) (ha : a ≤ 2147483647) : nI a >>> (nI b &&& 31) = nI (Nat.shiftRight a b) := by
  rw [pk_shrN (by omega) _ b (s_l9 b (by omega))]
  show _ = nI (a >>> b)
  rw [Nat.shiftRight_eq_div_pow]
theorem nI_ushr (a b : Nat) (h : b ≤ 31) (ha : a ≤ 4294967295) : ((nI a).toUInt32 >>> ((nI b).toUInt32 &&& Int32.toUInt32 31)).toInt32 = nI (Nat.shiftRight a b) := by
  rw [pk_ushrN (by omega) _ b (s_u9 b (by omega))]
  show _ = nI (a >>> b)
  rw [Nat.shiftRight_eq_div_pow]
theorem nI_i2c (a : Nat) : ((nI a).toUInt32 % 65536).toInt32 = nI (Nat.mod a 65536) := by
  rw [pk_char, tn_nI]
  show nI (a % 4294967296 % 65536) = nI (a % 65536)
  rw [Nat.mod_mod_of_dvd _ (by decide)]
section SND
variable {p : Program} {l : Launch} {e : Env} {R : Room} {s : State} {m : MethodId} {args : Array Value} {below : List Frame} {meth : Method} {c : Code} {Q : State → Prop}
variable {cc : ByteArray} {d : mD} {E : mE} {nL pc : Nat} {F : mF} {cO : mA → Prop} {kO : mK → Prop} {pcs : Nat → Nat}
theorem s_irem (hx : p.tables.exec = Jvm.exec) (hb : c.code = cc) (hd : decode cc pc = .ok (.irem, 1)) (hF : FOK d F) : HS (OKs p l e R s m args below meth c Q d E nL) F cO kO pcs pc h_irem (pc + 1) := by
  intro call j K nx L S h hcall hj hK hn hi ls H locs cells slots hl hH
  obtain ⟨y, S, e9, hi9⟩ := mm_p_s hi
  clear hi
  subst e9
  have hi := hi9
  clear hi9
  obtain ⟨x, S, e9, hi9⟩ := mm_p_s hi
  clear hi
  subst e9
  have hi := hi9
  clear hi9
  rcases mm_i_s hi with ⟨b, e9, hi9⟩ | hi9
  · clear hi
    subst e9
    have hi := hi9
    clear hi9
    rcases mm_i_s hi with ⟨a, e9, hi9⟩ | hi9
    · clear hi
      subst e9
      have hi := hi9
      clear hi9
      obtain ⟨g1, hi⟩ := mm_b_s hi
      obtain ⟨g2, hi⟩ := mm_b_s hi
      obtain ⟨g3, hi⟩ := mm_b_s hi
      have g1 := Nat.le_of_ble_eq_true g1
      have g2 := Nat.le_of_ble_eq_true g2
      have g3 := Nat.le_of_ble_eq_true g3
      have k9 := hn _ _ _ (mm_f_s hi) ls H locs cells slots hl hH
      rw [List.map_cons, show dn d (.inl _) = Value.int _ from rfl, show Nat.mod a b = a % b from rfl, ← pk_rem (by omega) (by omega) (by omega)] at k9
      exact lv_irem hx hb hd (nI_ne0 (by omega) (by omega)) k9
    · clear hi
      have hi := hi9
      clear hi9
      obtain ⟨r, ⟨x', y', e1, e2, e4, e3⟩, -, hi⟩ := mm_k_s hF hi
      have k9 := hn _ _ _ hi ls H locs cells slots hl hH
      rw [List.map_cons, e3] at k9
      rw [List.map_cons, List.map_cons, e1, e2]
      exact lv_irem hx hb hd e4 k9
  · clear hi
    have hi := hi9
    clear hi9
    cases hi
theorem s_ishl (hx : p.tables.exec = Jvm.exec) (hb : c.code = cc) (hd : decode cc pc = .ok (.ishl, 1)) : HS (OKs p l e R s m args below meth c Q d E nL) F cO kO pcs pc h_ishl (pc + 1) := by
  intro call j K nx L S h hcall hj hK hn hi ls H locs cells slots hl hH
  obtain ⟨y, S, e9, hi9⟩ := mm_p_s hi
  clear hi
  subst e9
  have hi := hi9
  clear hi9
  obtain ⟨x, S, e9, hi9⟩ := mm_p_s hi
  clear hi
  subst e9
  have hi := hi9
  clear hi9
  rcases mm_i_s hi with ⟨b, e9, hi9⟩ | hi9
  · clear hi
    subst e9
    have hi := hi9
    clear hi9
    rcases mm_i_s hi with ⟨a, e9, hi9⟩ | hi9
    · clear hi
      subst e9
      have hi := hi9
      clear hi9
      obtain ⟨g1, hi⟩ := mm_b_s hi
      have k9 := hn _ _ _ (mm_f_s hi) ls H locs cells slots hl hH
      rw [List.map_cons, show dn d (.inl _) = Value.int _ from rfl, ← nI_shl a b (Nat.le_of_ble_eq_true g1)] at k9
      exact lv_ishl hx hb hd k9
    · clear hi
      have hi := hi9
      clear hi9
      cases hi
  · clear hi
    have hi := hi9
    clear hi9
    cases hi
theorem s_ishr (hx : p.tables.exec = Jvm.exec) (hb : c.code = cc) (hd : decode cc pc = .ok (.ishr, 1)) : HS (OKs p l e R s m args below meth c Q d E nL) F cO kO pcs pc h_ishr (pc + 1) := by
  intro call j K nx L S h hcall hj hK hn hi ls H locs cells slots hl hH
  obtain ⟨y, S, e9, hi9⟩ := mm_p_s hi
  clear hi
  subst e9
  have hi := hi9
  clear hi9
  obtain ⟨x, S, e9, hi9⟩ := mm_p_s hi
  clear hi
  subst e9
  have hi := hi9
  clear hi9
  rcases mm_i_s hi with ⟨b, e9, hi9⟩ | hi9
  · clear hi
    subst e9
    have hi := hi9
    clear hi9
    rcases mm_i_s hi with ⟨a, e9, hi9⟩ | hi9
    · clear hi
      subst e9
      have hi := hi9
      clear hi9
      obtain ⟨g1, hi⟩ := mm_b_s hi
      obtain ⟨g2, hi⟩ := mm_b_s hi
      have k9 := hn _ _ _ (mm_f_s hi) ls H locs cells slots hl hH
      rw [List.map_cons, show dn d (.inl _) = Value.int _ from rfl, ← nI_shr a b (Nat.le_of_ble_eq_true g1) (Nat.le_of_ble_eq_true g2)] at k9
      exact lv_ishr hx hb hd k9
    · clear hi
      have hi := hi9
      clear hi9
      cases hi
  · clear hi
    have hi := hi9
    clear hi9
    cases hi
theorem s_iushr (hx : p.tables.exec = Jvm.exec) (hb : c.code = cc) (hd : decode cc pc = .ok (.iushr, 1)) : HS (OKs p l e R s m args below meth c Q d E nL) F cO kO pcs pc h_iushr (pc + 1) := by
  intro call j K nx L S h hcall hj hK hn hi ls H locs cells slots hl hH
  obtain ⟨y, S, e9, hi9⟩ := mm_p_s hi
  clear hi
  subst e9
  have hi := hi9
  clear hi9
  obtain ⟨x, S, e9, hi9⟩ := mm_p_s hi
  clear hi
  subst e9
  have hi := hi9
  clear hi9
  rcases mm_i_s hi with ⟨b, e9, hi9⟩ | hi9
  · clear hi
    subst e9
    have hi := hi9
    clear hi9
    rcases mm_i_s hi with ⟨a, e9, hi9⟩ | hi9
    · clear hi
      subst e9
      have hi := hi9
      clear hi9
      obtain ⟨g1, hi⟩ := mm_b_s hi
      obtain ⟨g2, hi⟩ := mm_b_s hi
      have k9 := hn _ _ _ (mm_f_s hi) ls H locs cells slots hl hH
      exact lv_iushr hx hb hd (nI_ushr a b (Nat.le_of_ble_eq_true g1) (Nat.le_of_ble_eq_true g2)) k9
    · clear hi
      have hi := hi9
      clear hi9
      cases hi
  · clear hi
    have hi := hi9
    clear hi9
    cases hi
theorem s_i2c (hx : p.tables.exec = Jvm.exec) (hb : c.code = cc) (hd : decode cc pc = .ok (.i2c, 1)) : HS (OKs p l e R s m args below meth c Q d E nL) F cO kO pcs pc h_i2c (pc + 1) := by
  intro call j K nx L S h hcall hj hK hn hi ls H locs cells slots hl hH
  obtain ⟨x, S, e9, hi9⟩ := mm_p_s hi
  clear hi
  subst e9
  have hi := hi9
  clear hi9
  rcases mm_i_s hi with ⟨a, e9, hi9⟩ | hi9
  · clear hi
    subst e9
    have hi := hi9
    clear hi9
    exact lv_i2c hx hb hd (nI_i2c a) (hn _ _ _ (mm_f_s hi) ls H locs cells slots hl hH)
  · clear hi
    have hi := hi9
    clear hi9
    cases hi
theorem s_i2l (hx : p.tables.exec = Jvm.exec) (hb : c.code = cc) (hd : decode cc pc = .ok (.i2l, 1)) (hF : FOK d F) : HS (OKs p l e R s m args below meth c Q d E nL) F cO kO pcs pc h_i2l (pc + 1) := by
  intro call j K nx L S h hcall hj hK hn hi ls H locs cells slots hl hH
  obtain ⟨x, S, e9, hi9⟩ := mm_p_s hi
  clear hi
  subst e9
  have hi := hi9
  clear hi9
  rcases mm_i_s hi with ⟨a, e9, hi9⟩ | hi9
  · clear hi
    subst e9
    have hi := hi9
    clear hi9
    obtain ⟨g1, hi⟩ := mm_b_s hi
    exact lv_i2l hx hb hd (nI_l (by have := Nat.le_of_ble_eq_true g1; omega)) (hn _ _ _ hi ls H locs cells slots hl hH)
  · clear hi
    have hi := hi9
    clear hi9
    obtain ⟨r, ⟨x', e1, e3⟩, -, hi⟩ := mm_k_s hF hi
    have k9 := hn _ _ _ hi ls H locs cells slots hl hH
    rw [List.map_cons, e3] at k9
    rw [List.map_cons, e1]
    exact lv_i2l hx hb hd rfl k9
theorem s_l2i (hx : p.tables.exec = Jvm.exec) (hb : c.code = cc) (hd : decode cc pc = .ok (.l2i, 1)) (hF : FOK d F) : HS (OKs p l e R s m args below meth c Q d E nL) F cO kO pcs pc h_l2i (pc + 1) := by
  intro call j K nx L S h hcall hj hK hn hi ls H locs cells slots hl hH
  obtain ⟨x, S, e9, hi9⟩ := mm_p_s hi
  clear hi
  subst e9
  have hi := hi9
  clear hi9
  rcases mm_l_s hi with ⟨a, e9, hi9⟩ | hi9
  · clear hi
    subst e9
    have hi := hi9
    clear hi9
    exact lv_l2i hx hb hd (by rw [nI_md]; exact lN_i a) (hn _ _ _ (mm_f_s hi) ls H locs cells slots hl hH)
  · clear hi
    have hi := hi9
    clear hi9
    obtain ⟨r, ⟨x', e1, e3⟩, -, hi⟩ := mm_k_s hF hi
    have k9 := hn _ _ _ hi ls H locs cells slots hl hH
    rw [List.map_cons, e3] at k9
    rw [List.map_cons, e1]
    exact lv_l2i hx hb hd rfl k9
theorem s_lmul (hx : p.tables.exec = Jvm.exec) (hb : c.code = cc) (hd : decode cc pc = .ok (.lmul, 1)) (hF : FOK d F) : HS (OKs p l e R s m args below meth c Q d E nL) F cO kO pcs pc h_lmul (pc + 1) := by
  intro call j K nx L S h hcall hj hK hn hi ls H locs cells slots hl hH
  obtain ⟨y, S, e9, hi9⟩ := mm_p_s hi
  clear hi
  subst e9
  have hi := hi9
  clear hi9
  obtain ⟨x, S, e9, hi9⟩ := mm_p_s hi
  clear hi
  subst e9
  have hi := hi9
  clear hi9
  rcases mm_l_s hi with ⟨b, e9, hi9⟩ | hi9
  · clear hi
    subst e9
    have hi := hi9
    clear hi9
    rcases mm_l_s hi with ⟨a, e9, hi9⟩ | hi9
    · clear hi
      subst e9
      have hi := hi9
      clear hi9
      have k9 := hn _ _ _ (mm_f_s hi) ls H locs cells slots hl hH
      rw [List.map_cons, show dn d (.inr (.inr (.inl _))) = Value.long _ from rfl, lN_md, show Nat.mul a b = a * b from rfl, ← lN_mul] at k9
      exact lv_lmul hx hb hd k9
    · clear hi
      have hi := hi9
      clear hi9
      obtain ⟨r, ⟨x', y', e1, e2, e3⟩, -, hi⟩ := mm_k_s hF hi
      have k9 := hn _ _ _ hi ls H locs cells slots hl hH
      rw [List.map_cons, e3] at k9
      rw [List.map_cons, List.map_cons, e1, e2]
      exact lv_lmul hx hb hd k9
  · clear hi
    have hi := hi9
    clear hi9
    obtain ⟨r, ⟨x', y', e1, e2, e3⟩, -, hi⟩ := mm_k_s hF hi
    have k9 := hn _ _ _ hi ls H locs cells slots hl hH
    rw [List.map_cons, e3] at k9
    rw [List.map_cons, List.map_cons, e1, e2]
    exact lv_lmul hx hb hd k9
theorem s_ladd (hx : p.tables.exec = Jvm.exec) (hb : c.code = cc) (hd : decode cc pc = .ok (.ladd, 1)) (hF : FOK d F) : HS (OKs p l e R s m args below meth c Q d E nL) F cO kO pcs pc h_ladd (pc + 1) := by
  intro call j K nx L S h hcall hj hK hn hi ls H locs cells slots hl hH
  obtain ⟨y, S, e9, hi9⟩ := mm_p_s hi
  clear hi
  subst e9
  have hi := hi9
  clear hi9
  obtain ⟨x, S, e9, hi9⟩ := mm_p_s hi
  clear hi
  subst e9
  have hi := hi9
  clear hi9
  rcases mm_l_s hi with ⟨b, e9, hi9⟩ | hi9
  · clear hi
    subst e9
    have hi := hi9
    clear hi9
    rcases mm_l_s hi with ⟨a, e9, hi9⟩ | hi9
    · clear hi
      subst e9
      have hi := hi9
      clear hi9
      have k9 := hn _ _ _ (mm_f_s hi) ls H locs cells slots hl hH
      rw [List.map_cons, show dn d (.inr (.inr (.inl _))) = Value.long _ from rfl, lN_md, show Nat.add a b = a + b from rfl, ← lN_add] at k9
      exact lv_ladd hx hb hd k9
    · clear hi
      have hi := hi9
      clear hi9
      obtain ⟨r, ⟨x', y', e1, e2, e3⟩, -, hi⟩ := mm_k_s hF hi
      have k9 := hn _ _ _ hi ls H locs cells slots hl hH
      rw [List.map_cons, e3] at k9
      rw [List.map_cons, List.map_cons, e1, e2]
      exact lv_ladd hx hb hd k9
  · clear hi
    have hi := hi9
    clear hi9
    obtain ⟨r, ⟨x', y', e1, e2, e3⟩, -, hi⟩ := mm_k_s hF hi
    have k9 := hn _ _ _ hi ls H locs cells slots hl hH
    rw [List.map_cons, e3] at k9
    rw [List.map_cons, List.map_cons, e1, e2]
    exact lv_ladd hx hb hd k9
theorem s_lrem (hx : p.tables.exec = Jvm.exec) (hb : c.code = cc) (hd : decode cc pc = .ok (.lrem, 1)) (hF : FOK d F) : HS (OKs p l e R s m args below meth c Q d E nL) F cO kO pcs pc h_lrem (pc + 1) := by
  intro call j K nx L S h hcall hj hK hn hi ls H locs cells slots hl hH
  obtain ⟨y, S, e9, hi9⟩ := mm_p_s hi
  clear hi
  subst e9
  have hi := hi9
  clear hi9
  obtain ⟨x, S, e9, hi9⟩ := mm_p_s hi
  clear hi
  subst e9
  have hi := hi9
  clear hi9
  obtain ⟨r, ⟨x', y', e1, e2, e4, e3⟩, -, hi⟩ := mm_k_s hF hi
  have k9 := hn _ _ _ hi ls H locs cells slots hl hH
  rw [List.map_cons, e3] at k9
  rw [List.map_cons, List.map_cons, e1, e2]
  exact lv_lrem hx hb hd e4 k9
theorem s_ldiv (hx : p.tables.exec = Jvm.exec) (hb : c.code = cc) (hd : decode cc pc = .ok (.ldiv, 1)) (hF : FOK d F) : HS (OKs p l e R s m args below meth c Q d E nL) F cO kO pcs pc h_ldiv (pc + 1) := by
  intro call j K nx L S h hcall hj hK hn hi ls H locs cells slots hl hH
  obtain ⟨y, S, e9, hi9⟩ := mm_p_s hi
  clear hi
  subst e9
  have hi := hi9
  clear hi9
  obtain ⟨x, S, e9, hi9⟩ := mm_p_s hi
  clear hi
  subst e9
  have hi := hi9
  clear hi9
  obtain ⟨r, ⟨x', y', e1, e2, e4, e3⟩, -, hi⟩ := mm_k_s hF hi
  have k9 := hn _ _ _ hi ls H locs cells slots hl hH
  rw [List.map_cons, e3] at k9
  rw [List.map_cons, List.map_cons, e1, e2]
  exact lv_ldiv hx hb hd e4 k9
theorem s_lcmp (hx : p.tables.exec = Jvm.exec) (hb : c.code = cc) (hd : decode cc pc = .ok (.lcmp, 1)) (hF : FOK d F) : HS (OKs p l e R s m args below meth c Q d E nL) F cO kO pcs pc h_lcmp (pc + 1) := by
  intro call j K nx L S h hcall hj hK hn hi ls H locs cells slots hl hH
  obtain ⟨y, S, e9, hi9⟩ := mm_p_s hi
  clear hi
  subst e9
  have hi := hi9
  clear hi9
  obtain ⟨x, S, e9, hi9⟩ := mm_p_s hi
  clear hi
  subst e9
  have hi := hi9
  clear hi9
  obtain ⟨r, ⟨x', y', e1, e2, e3⟩, -, hi⟩ := mm_k_s hF hi
  have k9 := hn _ _ _ hi ls H locs cells slots hl hH
  rw [List.map_cons, e3] at k9
  rw [List.map_cons, List.map_cons, e1, e2]
  exact W.lcmp hx hb hd k9
theorem s_dup (hx : p.tables.exec = Jvm.exec) (hb : c.code = cc) (hd : decode cc pc = .ok (.dup, 1)) : HS (OKs p l e R s m args below meth c Q d E nL) F cO kO pcs pc h_dup (pc + 1) := by
  intro call j K nx L S h hcall hj hK hn hi ls H locs cells slots hl hH
  obtain ⟨x, S, e9, hi9⟩ := mm_p_s hi
  clear hi
  subst e9
  have hi := hi9
  clear hi9
  obtain ⟨h1, hi⟩ := mm_c1_s d hi
  exact lv_dup hx hb hd h1 (hn _ _ _ hi ls H locs cells slots hl hH)
theorem s_dup2 (hx : p.tables.exec = Jvm.exec) (hb : c.code = cc) (hd : decode cc pc = .ok (.dup2, 1)) : HS (OKs p l e R s m args below meth c Q d E nL) F cO kO pcs pc h_dup2 (pc + 1) := by
  intro call j K nx L S h hcall hj hK hn hi ls H locs cells slots hl hH
  obtain ⟨y, S, e9, hi9⟩ := mm_p_s hi
  clear hi
  subst e9
  have hi := hi9
  clear hi9
  obtain ⟨x, S, e9, hi9⟩ := mm_p_s hi
  clear hi
  subst e9
  have hi := hi9
  clear hi9
  obtain ⟨h1, hi⟩ := mm_c1_s d hi
  obtain ⟨h2, hi⟩ := mm_c1_s d hi
  exact lv_dup2_11 hx hb hd h2 h1 (hn _ _ _ hi ls H locs cells slots hl hH)
theorem s_pop (hx : p.tables.exec = Jvm.exec) (hb : c.code = cc) (hd : decode cc pc = .ok (.pop, 1)) : HS (OKs p l e R s m args below meth c Q d E nL) F cO kO pcs pc h_pop (pc + 1) := by
  intro call j K nx L S h hcall hj hK hn hi ls H locs cells slots hl hH
  obtain ⟨x, S, e9, hi9⟩ := mm_p_s hi
  clear hi
  subst e9
  have hi := hi9
  clear hi9
  obtain ⟨h1, hi⟩ := mm_c1_s d hi
  exact lv_pop hx hb hd h1 (hn _ _ _ hi ls H locs cells slots hl hH)
theorem s_goto (hx : p.tables.exec = Jvm.exec) (hb : c.code = cc) {b pc' : Nat} (hd : decode cc pc = .ok (.goto ((pcs b : Int) - (pc : Int)), 3)) : HS (OKs p l e R s m args below meth c Q d E nL) F cO kO pcs pc (h_goto b) pc' := by
  intro call j K nx L S h hcall hj hK hn hi ls H locs cells slots hl hH
  exact lv_goto hx hb hd (by omega) (hj _ _ _ _ hi ls H locs cells slots hl hH)
theorem s_fall {b pc' : Nat} (he : pcs b = pc) : HS (OKs p l e R s m args below meth c Q d E nL) F cO kO pcs pc (h_goto b) pc' := by
  intro call j K nx L S h hcall hj hK hn hi ls H locs cells slots hl hH
  rw [← he]
  exact hj _ _ _ _ hi ls H locs cells slots hl hH
theorem s_bad {pc' : Nat} : HS (OKs p l e R s m args below meth c Q d E nL) F cO kO pcs pc h_bad pc' := by
  intro call j K nx L S h hcall hj hK hn hi ls H locs cells slots hl hH
  cases hi
theorem s_icmp_eq_sym (hx : p.tables.exec = Jvm.exec) (hb : c.code = cc) {b : Nat} (hd : decode cc pc = .ok (.if_icmp .eq ((pcs b : Int) - (pc : Int)), 3)) (hF : FOK d F) {j : Nat → mN} {nx : mN} {L : mL} {S : List mV} {h : mH} {x y : mV} (hj : ∀ b L S h, j b L S h = true → (OKs p l e R s m args below meth c Q d E nL) (pcs b) L S h) (hn : ∀ L S h, nx L S h = true → (OKs p l e R s m args below meth c Q d E nL) (pc + 3) L S h)
    (hi : mm_k F (Nat.add 10 0) x y (fun v => mm_i v (fun w => Nat.rec (motive := fun _ => Bool) (nx L S h) (fun _ _ => j b L S h) w) false) = true) : (OKs p l e R s m args below meth c Q d E nL) pc L (y :: x :: S) h := by
  intro ls H locs cells slots hl hH
  obtain ⟨r, ⟨x', y', e1, e2, e3⟩, e9, hi⟩ := mm_k_s (op := 10) hF hi
  rw [List.map_cons, List.map_cons, e1, e2]
  rcases e9 (by decide) with rfl | rfl
  · have e3 : ¬ cmpP 0 x' y' := by
      rcases e3 with ⟨-, q⟩ | ⟨q, -⟩
      · exact absurd (Value.int.inj q) (by decide)
      · exact q
    exact lv_icmp_eq (tgt := pcs b) hx hb hd (by omega) (fun q => absurd q e3) (fun _ => hn _ _ _ hi ls H locs cells slots hl hH)
  · have e3 : cmpP 0 x' y' := by
      rcases e3 with ⟨q, -⟩ | ⟨-, q⟩
      · exact q
      · exact absurd (Value.int.inj q) (by decide)
    exact lv_icmp_eq (tgt := pcs b) hx hb hd (by omega) (fun _ => hj _ _ _ _ hi ls H locs cells slots hl hH) (fun q => absurd e3 q)
theorem s_icmp_eq (hx : p.tables.exec = Jvm.exec) (hb : c.code = cc) {b' : Nat} (hd : decode cc pc = .ok (.if_icmp .eq ((pcs b' : Int) - (pc : Int)), 3)) (hF : FOK d F) : HS (OKs p l e R s m args below meth c Q d E nL) F cO kO pcs pc (h_icmp 0 b') (pc + 3) := by
  intro call j K nx L S h hcall hj hK hn hi ls H locs cells slots hl hH
  obtain ⟨y, S, e9, hi9⟩ := mm_p_s hi
  clear hi
  subst e9
  have hi := hi9
  clear hi9
  obtain ⟨x, S, e9, hi9⟩ := mm_p_s hi
  clear hi
  subst e9
  have hi := hi9
  clear hi9
  rcases mm_i_s hi with ⟨b, e9, hi9⟩ | hi9
  · clear hi
    subst e9
    have hi := hi9
    clear hi9
    rcases mm_i_s hi with ⟨a, e9, hi9⟩ | hi9
    · clear hi
      subst e9
      have hi := hi9
      clear hi9
      rcases mm_t_s hi with ⟨g, hi⟩ | ⟨g, hi⟩
      · have g9 := (mm_cmp_t 0 a b).mp g
        exact lv_icmp_eq (tgt := pcs b') hx hb hd (by omega) (fun _ => hj _ _ _ _ hi ls H locs cells slots hl hH) (fun q => absurd g9 q)
      · have g9 : ¬ cmpP 0 (nI a) (nI b) := fun q => by rw [(mm_cmp_t 0 a b).mpr q] at g; cases g
        exact lv_icmp_eq (tgt := pcs b') hx hb hd (by omega) (fun q => absurd q g9) (fun _ => hn _ _ _ hi ls H locs cells slots hl hH)
    · clear hi
      have hi := hi9
      clear hi9
      exact s_icmp_eq_sym hx hb hd hF hj hn hi ls H locs cells slots hl hH
  · clear hi
    have hi := hi9
    clear hi9
    exact s_icmp_eq_sym hx hb hd hF hj hn hi ls H locs cells slots hl hH
theorem s_if_eq_sym (hx : p.tables.exec = Jvm.exec) (hb : c.code = cc) {b : Nat} (hd : decode cc pc = .ok (.ifCond .eq ((pcs b : Int) - (pc : Int)), 3)) (hF : FOK d F) {j : Nat → mN} {nx : mN} {L : mL} {S : List mV} {h : mH} {x : mV} (hj : ∀ b L S h, j b L S h = true → (OKs p l e R s m args below meth c Q d E nL) (pcs b) L S h) (hn : ∀ L S h, nx L S h = true → (OKs p l e R s m args below meth c Q d E nL) (pc + 3) L S h)
    (hi : mm_k F (Nat.add 10 0) x (.inl 0) (fun v => mm_i v (fun w => Nat.rec (motive := fun _ => Bool) (nx L S h) (fun _ _ => j b L S h) w) false) = true) : (OKs p l e R s m args below meth c Q d E nL) pc L (x :: S) h := by
  intro ls H locs cells slots hl hH
  obtain ⟨r, ⟨x', y', e1, e2, e3⟩, e9, hi⟩ := mm_k_s (op := 10) hF hi
  obtain rfl : y' = 0 := (Value.int.inj e2).symm
  rw [List.map_cons, e1]
  rcases e9 (by decide) with rfl | rfl
  · have e3 : ¬ cmpP 0 x' 0 := by
      rcases e3 with ⟨-, q⟩ | ⟨q, -⟩
      · exact absurd (Value.int.inj q) (by decide)
      · exact q
    exact lv_if_eq (tgt := pcs b) hx hb hd (by omega) (fun q => absurd q e3) (fun _ => hn _ _ _ hi ls H locs cells slots hl hH)
  · have e3 : cmpP 0 x' 0 := by
      rcases e3 with ⟨q, -⟩ | ⟨-, q⟩
      · exact q
      · exact absurd (Value.int.inj q) (by decide)
    exact lv_if_eq (tgt := pcs b) hx hb hd (by omega) (fun _ => hj _ _ _ _ hi ls H locs cells slots hl hH) (fun q => absurd e3 q)
theorem s_if_eq (hx : p.tables.exec = Jvm.exec) (hb : c.code = cc) {b' : Nat} (hd : decode cc pc = .ok (.ifCond .eq ((pcs b' : Int) - (pc : Int)), 3)) (hF : FOK d F) : HS (OKs p l e R s m args below meth c Q d E nL) F cO kO pcs pc (h_if 0 b') (pc + 3) := by
  intro call j K nx L S h hcall hj hK hn hi ls H locs cells slots hl hH
  obtain ⟨x, S, e9, hi9⟩ := mm_p_s hi
  clear hi
  subst e9
  have hi := hi9
  clear hi9
  rcases mm_i_s hi with ⟨a, e9, hi9⟩ | hi9
  · clear hi
    subst e9
    have hi := hi9
    clear hi9
    rcases mm_t_s hi with ⟨g, hi⟩ | ⟨g, hi⟩
    · have g9 := (mm_cmp_t 0 a 0).mp g
      exact lv_if_eq (tgt := pcs b') hx hb hd (by omega) (fun _ => hj _ _ _ _ hi ls H locs cells slots hl hH) (fun q => absurd g9 q)
    · have g9 : ¬ cmpP 0 (nI a) (nI 0) := fun q => by rw [(mm_cmp_t 0 a 0).mpr q] at g; cases g
      exact lv_if_eq (tgt := pcs b') hx hb hd (by omega) (fun q => absurd q g9) (fun _ => hn _ _ _ hi ls H locs cells slots hl hH)
  · clear hi
    have hi := hi9
    clear hi9
    exact s_if_eq_sym hx hb hd hF hj hn hi ls H locs cells slots hl hH
theorem s_icmp_ne_sym (hx : p.tables.exec = Jvm.exec) (hb : c.code = cc) {b : Nat} (hd : decode cc pc = .ok (.if_icmp .ne ((pcs b : Int) - (pc : Int)), 3)) (hF : FOK d F) {j : Nat → mN} {nx : mN} {L : mL} {S : List mV} {h : mH} {x y : mV} (hj : ∀ b L S h, j b L S h = true → (OKs p l e R s m args below meth c Q d E nL) (pcs b) L S h) (hn : ∀ L S h, nx L S h = true → (OKs p l e R s m args below meth c Q d E nL) (pc + 3) L S h)
    (hi : mm_k F (Nat.add 10 1) x y (fun v => mm_i v (fun w => Nat.rec (motive := fun _ => Bool) (nx L S h) (fun _ _ => j b L S h) w) false) = true) : (OKs p l e R s m args below meth c Q d E nL) pc L (y :: x :: S) h := by
  intro ls H locs cells slots hl hH
  obtain ⟨r, ⟨x', y', e1, e2, e3⟩, e9, hi⟩ := mm_k_s (op := 11) hF hi
  rw [List.map_cons, List.map_cons, e1, e2]
  rcases e9 (by decide) with rfl | rfl
  · have e3 : ¬ cmpP 1 x' y' := by
      rcases e3 with ⟨-, q⟩ | ⟨q, -⟩
      · exact absurd (Value.int.inj q) (by decide)
      · exact q
    exact lv_icmp_ne (tgt := pcs b) hx hb hd (by omega) (fun q => absurd q e3) (fun _ => hn _ _ _ hi ls H locs cells slots hl hH)
  · have e3 : cmpP 1 x' y' := by
      rcases e3 with ⟨q, -⟩ | ⟨-, q⟩
      · exact q
      · exact absurd (Value.int.inj q) (by decide)
    exact lv_icmp_ne (tgt := pcs b) hx hb hd (by omega) (fun _ => hj _ _ _ _ hi ls H locs cells slots hl hH) (fun q => absurd q e3)
theorem s_icmp_ne (hx : p.tables.exec = Jvm.exec) (hb : c.code = cc) {b' : Nat} (hd : decode cc pc = .ok (.if_icmp .ne ((pcs b' : Int) - (pc : Int)), 3)) (hF : FOK d F) : HS (OKs p l e R s m args below meth c Q d E nL) F cO kO pcs pc (h_icmp 1 b') (pc + 3) := by
  intro call j K nx L S h hcall hj hK hn hi ls H locs cells slots hl hH
  obtain ⟨y, S, e9, hi9⟩ := mm_p_s hi
  clear hi
  subst e9
  have hi := hi9
  clear hi9
  obtain ⟨x, S, e9, hi9⟩ := mm_p_s hi
  clear hi
  subst e9
  have hi := hi9
  clear hi9
  rcases mm_i_s hi with ⟨b, e9, hi9⟩ | hi9
  · clear hi
    subst e9
    have hi := hi9
    clear hi9
    rcases mm_i_s hi with ⟨a, e9, hi9⟩ | hi9
    · clear hi
      subst e9
      have hi := hi9
      clear hi9
      rcases mm_t_s hi with ⟨g, hi⟩ | ⟨g, hi⟩
      · have g9 := (mm_cmp_t 1 a b).mp g
        exact lv_icmp_ne (tgt := pcs b') hx hb hd (by omega) (fun _ => hj _ _ _ _ hi ls H locs cells slots hl hH) (fun q => absurd q g9)
      · have g9 : ¬ cmpP 1 (nI a) (nI b) := fun q => by rw [(mm_cmp_t 1 a b).mpr q] at g; cases g
        exact lv_icmp_ne (tgt := pcs b') hx hb hd (by omega) (fun q => absurd q g9) (fun _ => hn _ _ _ hi ls H locs cells slots hl hH)
    · clear hi
      have hi := hi9
      clear hi9
      exact s_icmp_ne_sym hx hb hd hF hj hn hi ls H locs cells slots hl hH
  · clear hi
    have hi := hi9
    clear hi9
    exact s_icmp_ne_sym hx hb hd hF hj hn hi ls H locs cells slots hl hH
theorem s_if_ne_sym (hx : p.tables.exec = Jvm.exec) (hb : c.code = cc) {b : Nat} (hd : decode cc pc = .ok (.ifCond .ne ((pcs b : Int) - (pc : Int)), 3)) (hF : FOK d F) {j : Nat → mN} {nx : mN} {L : mL} {S : List mV} {h : mH} {x : mV} (hj : ∀ b L S h, j b L S h = true → (OKs p l e R s m args below meth c Q d E nL) (pcs b) L S h) (hn : ∀ L S h, nx L S h = true → (OKs p l e R s m args below meth c Q d E nL) (pc + 3) L S h)
    (hi : mm_k F (Nat.add 10 1) x (.inl 0) (fun v => mm_i v (fun w => Nat.rec (motive := fun _ => Bool) (nx L S h) (fun _ _ => j b L S h) w) false) = true) : (OKs p l e R s m args below meth c Q d E nL) pc L (x :: S) h := by
  intro ls H locs cells slots hl hH
  obtain ⟨r, ⟨x', y', e1, e2, e3⟩, e9, hi⟩ := mm_k_s (op := 11) hF hi
  obtain rfl : y' = 0 := (Value.int.inj e2).symm
  rw [List.map_cons, e1]
  rcases e9 (by decide) with rfl | rfl
  · have e3 : ¬ cmpP 1 x' 0 := by
      rcases e3 with ⟨-, q⟩ | ⟨q, -⟩
      · exact absurd (Value.int.inj q) (by decide)
      · exact q
    exact lv_if_ne (tgt := pcs b) hx hb hd (by omega) (fun q => absurd q e3) (fun _ => hn _ _ _ hi ls H locs cells slots hl hH)
  · have e3 : cmpP 1 x' 0 := by
      rcases e3 with ⟨q, -⟩ | ⟨-, q⟩
      · exact q
      · exact absurd (Value.int.inj q) (by decide)
    exact lv_if_ne (tgt := pcs b) hx hb hd (by omega) (fun _ => hj _ _ _ _ hi ls H locs cells slots hl hH) (fun q => absurd q e3)
theorem s_if_ne (hx : p.tables.exec = Jvm.exec) (hb : c.code = cc) {b' : Nat} (hd : decode cc pc = .ok (.ifCond .ne ((pcs b' : Int) - (pc : Int)), 3)) (hF : FOK d F) : HS (OKs p l e R s m args below meth c Q d E nL) F cO kO pcs pc (h_if 1 b') (pc + 3) := by
  intro call j K nx L S h hcall hj hK hn hi ls H locs cells slots hl hH
  obtain ⟨x, S, e9, hi9⟩ := mm_p_s hi
  clear hi
  subst e9
  have hi := hi9
  clear hi9
  rcases mm_i_s hi with ⟨a, e9, hi9⟩ | hi9
  · clear hi
    subst e9
    have hi := hi9
    clear hi9
    rcases mm_t_s hi with ⟨g, hi⟩ | ⟨g, hi⟩
    · have g9 := (mm_cmp_t 1 a 0).mp g
      exact lv_if_ne (tgt := pcs b') hx hb hd (by omega) (fun _ => hj _ _ _ _ hi ls H locs cells slots hl hH) (fun q => absurd q g9)
    · have g9 : ¬ cmpP 1 (nI a) (nI 0) := fun q => by rw [(mm_cmp_t 1 a 0).mpr q] at g; cases g
      exact lv_if_ne (tgt := pcs b') hx hb hd (by omega) (fun q => absurd q g9) (fun _ => hn _ _ _ hi ls H locs cells slots hl hH)
  · clear hi
    have hi := hi9
    clear hi9
    exact s_if_ne_sym hx hb hd hF hj hn hi ls H locs cells slots hl hH
theorem s_icmp_lt_sym (hx : p.tables.exec = Jvm.exec) (hb : c.code = cc) {b : Nat} (hd : decode cc pc = .ok (.if_icmp .lt ((pcs b : Int) - (pc : Int)), 3)) (hF : FOK d F) {j : Nat → mN} {nx : mN} {L : mL} {S : List mV} {h : mH} {x y : mV} (hj : ∀ b L S h, j b L S h = true → (OKs p l e R s m args below meth c Q d E nL) (pcs b) L S h) (hn : ∀ L S h, nx L S h = true → (OKs p l e R s m args below meth c Q d E nL) (pc + 3) L S h)
    (hi : mm_k F (Nat.add 10 2) x y (fun v => mm_i v (fun w => Nat.rec (motive := fun _ => Bool) (nx L S h) (fun _ _ => j b L S h) w) false) = true) : (OKs p l e R s m args below meth c Q d E nL) pc L (y :: x :: S) h := by
  intro ls H locs cells slots hl hH
  obtain ⟨r, ⟨x', y', e1, e2, e3⟩, e9, hi⟩ := mm_k_s (op := 12) hF hi
  rw [List.map_cons, List.map_cons, e1, e2]
  rcases e9 (by decide) with rfl | rfl
  · have e3 : ¬ cmpP 2 x' y' := by
      rcases e3 with ⟨-, q⟩ | ⟨q, -⟩
      · exact absurd (Value.int.inj q) (by decide)
      · exact q
    exact lv_icmp_lt (tgt := pcs b) hx hb hd (by omega) (fun q => absurd q e3) (fun _ => hn _ _ _ hi ls H locs cells slots hl hH)
  · have e3 : cmpP 2 x' y' := by
      rcases e3 with ⟨q, -⟩ | ⟨-, q⟩
      · exact q
      · exact absurd (Value.int.inj q) (by decide)
    exact lv_icmp_lt (tgt := pcs b) hx hb hd (by omega) (fun _ => hj _ _ _ _ hi ls H locs cells slots hl hH) (fun q => absurd e3 q)
theorem s_icmp_lt (hx : p.tables.exec = Jvm.exec) (hb : c.code = cc) {b' : Nat} (hd : decode cc pc = .ok (.if_icmp .lt ((pcs b' : Int) - (pc : Int)), 3)) (hF : FOK d F) : HS (OKs p l e R s m args below meth c Q d E nL) F cO kO pcs pc (h_icmp 2 b') (pc + 3) := by
  intro call j K nx L S h hcall hj hK hn hi ls H locs cells slots hl hH
  obtain ⟨y, S, e9, hi9⟩ := mm_p_s hi
  clear hi
  subst e9
  have hi := hi9
  clear hi9
  obtain ⟨x, S, e9, hi9⟩ := mm_p_s hi
  clear hi
  subst e9
  have hi := hi9
  clear hi9
  rcases mm_i_s hi with ⟨b, e9, hi9⟩ | hi9
  · clear hi
    subst e9
    have hi := hi9
    clear hi9
    rcases mm_i_s hi with ⟨a, e9, hi9⟩ | hi9
    · clear hi
      subst e9
      have hi := hi9
      clear hi9
      rcases mm_t_s hi with ⟨g, hi⟩ | ⟨g, hi⟩
      · have g9 := (mm_cmp_t 2 a b).mp g
        exact lv_icmp_lt (tgt := pcs b') hx hb hd (by omega) (fun _ => hj _ _ _ _ hi ls H locs cells slots hl hH) (fun q => absurd g9 q)
      · have g9 : ¬ cmpP 2 (nI a) (nI b) := fun q => by rw [(mm_cmp_t 2 a b).mpr q] at g; cases g
        exact lv_icmp_lt (tgt := pcs b') hx hb hd (by omega) (fun q => absurd q g9) (fun _ => hn _ _ _ hi ls H locs cells slots hl hH)
    · clear hi
      have hi := hi9
      clear hi9
      exact s_icmp_lt_sym hx hb hd hF hj hn hi ls H locs cells slots hl hH
  · clear hi
    have hi := hi9
    clear hi9
    exact s_icmp_lt_sym hx hb hd hF hj hn hi ls H locs cells slots hl hH
theorem s_if_lt_sym (hx : p.tables.exec = Jvm.exec) (hb : c.code = cc) {b : Nat} (hd : decode cc pc = .ok (.ifCond .lt ((pcs b : Int) - (pc : Int)), 3)) (hF : FOK d F) {j : Nat → mN} {nx : mN} {L : mL} {S : List mV} {h : mH} {x : mV} (hj : ∀ b L S h, j b L S h = true → (OKs p l e R s m args below meth c Q d E nL) (pcs b) L S h) (hn : ∀ L S h, nx L S h = true → (OKs p l e R s m args below meth c Q d E nL) (pc + 3) L S h)
    (hi : mm_k F (Nat.add 10 2) x (.inl 0) (fun v => mm_i v (fun w => Nat.rec (motive := fun _ => Bool) (nx L S h) (fun _ _ => j b L S h) w) false) = true) : (OKs p l e R s m args below meth c Q d E nL) pc L (x :: S) h := by
  intro ls H locs cells slots hl hH
  obtain ⟨r, ⟨x', y', e1, e2, e3⟩, e9, hi⟩ := mm_k_s (op := 12) hF hi
  obtain rfl : y' = 0 := (Value.int.inj e2).symm
  rw [List.map_cons, e1]
  rcases e9 (by decide) with rfl | rfl
  · have e3 : ¬ cmpP 2 x' 0 := by
      rcases e3 with ⟨-, q⟩ | ⟨q, -⟩
      · exact absurd (Value.int.inj q) (by decide)
      · exact q
    exact lv_if_lt (tgt := pcs b) hx hb hd (by omega) (fun q => absurd q e3) (fun _ => hn _ _ _ hi ls H locs cells slots hl hH)
  · have e3 : cmpP 2 x' 0 := by
      rcases e3 with ⟨q, -⟩ | ⟨-, q⟩
      · exact q
      · exact absurd (Value.int.inj q) (by decide)
    exact lv_if_lt (tgt := pcs b) hx hb hd (by omega) (fun _ => hj _ _ _ _ hi ls H locs cells slots hl hH) (fun q => absurd e3 q)
theorem s_if_lt (hx : p.tables.exec = Jvm.exec) (hb : c.code = cc) {b' : Nat} (hd : decode cc pc = .ok (.ifCond .lt ((pcs b' : Int) - (pc : Int)), 3)) (hF : FOK d F) : HS (OKs p l e R s m args below meth c Q d E nL) F cO kO pcs pc (h_if 2 b') (pc + 3) := by
  intro call j K nx L S h hcall hj hK hn hi ls H locs cells slots hl hH
  obtain ⟨x, S, e9, hi9⟩ := mm_p_s hi
  clear hi
  subst e9
  have hi := hi9
  clear hi9
  rcases mm_i_s hi with ⟨a, e9, hi9⟩ | hi9
  · clear hi
    subst e9
    have hi := hi9
    clear hi9
    rcases mm_t_s hi with ⟨g, hi⟩ | ⟨g, hi⟩
    · have g9 := (mm_cmp_t 2 a 0).mp g
      exact lv_if_lt (tgt := pcs b') hx hb hd (by omega) (fun _ => hj _ _ _ _ hi ls H locs cells slots hl hH) (fun q => absurd g9 q)
    · have g9 : ¬ cmpP 2 (nI a) (nI 0) := fun q => by rw [(mm_cmp_t 2 a 0).mpr q] at g; cases g
      exact lv_if_lt (tgt := pcs b') hx hb hd (by omega) (fun q => absurd q g9) (fun _ => hn _ _ _ hi ls H locs cells slots hl hH)
  · clear hi
    have hi := hi9
    clear hi9
    exact s_if_lt_sym hx hb hd hF hj hn hi ls H locs cells slots hl hH
theorem s_icmp_ge_sym (hx : p.tables.exec = Jvm.exec) (hb : c.code = cc) {b : Nat} (hd : decode cc pc = .ok (.if_icmp .ge ((pcs b : Int) - (pc : Int)), 3)) (hF : FOK d F) {j : Nat → mN} {nx : mN} {L : mL} {S : List mV} {h : mH} {x y : mV} (hj : ∀ b L S h, j b L S h = true → (OKs p l e R s m args below meth c Q d E nL) (pcs b) L S h) (hn : ∀ L S h, nx L S h = true → (OKs p l e R s m args below meth c Q d E nL) (pc + 3) L S h)
    (hi : mm_k F (Nat.add 10 3) x y (fun v => mm_i v (fun w => Nat.rec (motive := fun _ => Bool) (nx L S h) (fun _ _ => j b L S h) w) false) = true) : (OKs p l e R s m args below meth c Q d E nL) pc L (y :: x :: S) h := by
  intro ls H locs cells slots hl hH
  obtain ⟨r, ⟨x', y', e1, e2, e3⟩, e9, hi⟩ := mm_k_s (op := 13) hF hi
  rw [List.map_cons, List.map_cons, e1, e2]
  rcases e9 (by decide) with rfl | rfl
  · have e3 : ¬ cmpP 3 x' y' := by
      rcases e3 with ⟨-, q⟩ | ⟨q, -⟩
      · exact absurd (Value.int.inj q) (by decide)
      · exact q
    exact lv_icmp_ge (tgt := pcs b) hx hb hd (by omega) (fun q => absurd q e3) (fun _ => hn _ _ _ hi ls H locs cells slots hl hH)
  · have e3 : cmpP 3 x' y' := by
      rcases e3 with ⟨q, -⟩ | ⟨-, q⟩
      · exact q
      · exact absurd (Value.int.inj q) (by decide)
    exact lv_icmp_ge (tgt := pcs b) hx hb hd (by omega) (fun _ => hj _ _ _ _ hi ls H locs cells slots hl hH) (fun q => absurd e3 q)
theorem s_icmp_ge (hx : p.tables.exec = Jvm.exec) (hb : c.code = cc) {b' : Nat} (hd : decode cc pc = .ok (.if_icmp .ge ((pcs b' : Int) - (pc : Int)), 3)) (hF : FOK d F) : HS (OKs p l e R s m args below meth c Q d E nL) F cO kO pcs pc (h_icmp 3 b') (pc + 3) := by
  intro call j K nx L S h hcall hj hK hn hi ls H locs cells slots hl hH
  obtain ⟨y, S, e9, hi9⟩ := mm_p_s hi
  clear hi
  subst e9
  have hi := hi9
  clear hi9
  obtain ⟨x, S, e9, hi9⟩ := mm_p_s hi
  clear hi
  subst e9
  have hi := hi9
  clear hi9
  rcases mm_i_s hi with ⟨b, e9, hi9⟩ | hi9
  · clear hi
    subst e9
    have hi := hi9
    clear hi9
    rcases mm_i_s hi with ⟨a, e9, hi9⟩ | hi9
    · clear hi
      subst e9
      have hi := hi9
      clear hi9
      rcases mm_t_s hi with ⟨g, hi⟩ | ⟨g, hi⟩
      · have g9 := (mm_cmp_t 3 a b).mp g
        exact lv_icmp_ge (tgt := pcs b') hx hb hd (by omega) (fun _ => hj _ _ _ _ hi ls H locs cells slots hl hH) (fun q => absurd g9 q)
      · have g9 : ¬ cmpP 3 (nI a) (nI b) := fun q => by rw [(mm_cmp_t 3 a b).mpr q] at g; cases g
        exact lv_icmp_ge (tgt := pcs b') hx hb hd (by omega) (fun q => absurd q g9) (fun _ => hn _ _ _ hi ls H locs cells slots hl hH)
    · clear hi
      have hi := hi9
      clear hi9
      exact s_icmp_ge_sym hx hb hd hF hj hn hi ls H locs cells slots hl hH
  · clear hi
    have hi := hi9
    clear hi9
    exact s_icmp_ge_sym hx hb hd hF hj hn hi ls H locs cells slots hl hH
theorem s_if_ge_sym (hx : p.tables.exec = Jvm.exec) (hb : c.code = cc) {b : Nat} (hd : decode cc pc = .ok (.ifCond .ge ((pcs b : Int) - (pc : Int)), 3)) (hF : FOK d F) {j : Nat → mN} {nx : mN} {L : mL} {S : List mV} {h : mH} {x : mV} (hj : ∀ b L S h, j b L S h = true → (OKs p l e R s m args below meth c Q d E nL) (pcs b) L S h) (hn : ∀ L S h, nx L S h = true → (OKs p l e R s m args below meth c Q d E nL) (pc + 3) L S h)
    (hi : mm_k F (Nat.add 10 3) x (.inl 0) (fun v => mm_i v (fun w => Nat.rec (motive := fun _ => Bool) (nx L S h) (fun _ _ => j b L S h) w) false) = true) : (OKs p l e R s m args below meth c Q d E nL) pc L (x :: S) h := by
  intro ls H locs cells slots hl hH
  obtain ⟨r, ⟨x', y', e1, e2, e3⟩, e9, hi⟩ := mm_k_s (op := 13) hF hi
  obtain rfl : y' = 0 := (Value.int.inj e2).symm
  rw [List.map_cons, e1]
  rcases e9 (by decide) with rfl | rfl
  · have e3 : ¬ cmpP 3 x' 0 := by
      rcases e3 with ⟨-, q⟩ | ⟨q, -⟩
      · exact absurd (Value.int.inj q) (by decide)
      · exact q
    exact lv_if_ge (tgt := pcs b) hx hb hd (by omega) (fun q => absurd q e3) (fun _ => hn _ _ _ hi ls H locs cells slots hl hH)
  · have e3 : cmpP 3 x' 0 := by
      rcases e3 with ⟨q, -⟩ | ⟨-, q⟩
      · exact q
      · exact absurd (Value.int.inj q) (by decide)
    exact lv_if_ge (tgt := pcs b) hx hb hd (by omega) (fun _ => hj _ _ _ _ hi ls H locs cells slots hl hH) (fun q => absurd e3 q)
theorem s_if_ge (hx : p.tables.exec = Jvm.exec) (hb : c.code = cc) {b' : Nat} (hd : decode cc pc = .ok (.ifCond .ge ((pcs b' : Int) - (pc : Int)), 3)) (hF : FOK d F) : HS (OKs p l e R s m args below meth c Q d E nL) F cO kO pcs pc (h_if 3 b') (pc + 3) := by
  intro call j K nx L S h hcall hj hK hn hi ls H locs cells slots hl hH
  obtain ⟨x, S, e9, hi9⟩ := mm_p_s hi
  clear hi
  subst e9
  have hi := hi9
  clear hi9
  rcases mm_i_s hi with ⟨a, e9, hi9⟩ | hi9
  · clear hi
    subst e9
    have hi := hi9
    clear hi9
    rcases mm_t_s hi with ⟨g, hi⟩ | ⟨g, hi⟩
    · have g9 := (mm_cmp_t 3 a 0).mp g
      exact lv_if_ge (tgt := pcs b') hx hb hd (by omega) (fun _ => hj _ _ _ _ hi ls H locs cells slots hl hH) (fun q => absurd g9 q)
    · have g9 : ¬ cmpP 3 (nI a) (nI 0) := fun q => by rw [(mm_cmp_t 3 a 0).mpr q] at g; cases g
      exact lv_if_ge (tgt := pcs b') hx hb hd (by omega) (fun q => absurd q g9) (fun _ => hn _ _ _ hi ls H locs cells slots hl hH)
  · clear hi
    have hi := hi9
    clear hi9
    exact s_if_ge_sym hx hb hd hF hj hn hi ls H locs cells slots hl hH
theorem s_icmp_gt_sym (hx : p.tables.exec = Jvm.exec) (hb : c.code = cc) {b : Nat} (hd : decode cc pc = .ok (.if_icmp .gt ((pcs b : Int) - (pc : Int)), 3)) (hF : FOK d F) {j : Nat → mN} {nx : mN} {L : mL} {S : List mV} {h : mH} {x y : mV} (hj : ∀ b L S h, j b L S h = true → (OKs p l e R s m args below meth c Q d E nL) (pcs b) L S h) (hn : ∀ L S h, nx L S h = true → (OKs p l e R s m args below meth c Q d E nL) (pc + 3) L S h)
    (hi : mm_k F (Nat.add 10 4) x y (fun v => mm_i v (fun w => Nat.rec (motive := fun _ => Bool) (nx L S h) (fun _ _ => j b L S h) w) false) = true) : (OKs p l e R s m args below meth c Q d E nL) pc L (y :: x :: S) h := by
  intro ls H locs cells slots hl hH
  obtain ⟨r, ⟨x', y', e1, e2, e3⟩, e9, hi⟩ := mm_k_s (op := 14) hF hi
  rw [List.map_cons, List.map_cons, e1, e2]
  rcases e9 (by decide) with rfl | rfl
  · have e3 : ¬ cmpP 4 x' y' := by
      rcases e3 with ⟨-, q⟩ | ⟨q, -⟩
      · exact absurd (Value.int.inj q) (by decide)
      · exact q
    exact lv_icmp_gt (tgt := pcs b) hx hb hd (by omega) (fun q => absurd q e3) (fun _ => hn _ _ _ hi ls H locs cells slots hl hH)
  · have e3 : cmpP 4 x' y' := by
      rcases e3 with ⟨q, -⟩ | ⟨-, q⟩
      · exact q
      · exact absurd (Value.int.inj q) (by decide)
    exact lv_icmp_gt (tgt := pcs b) hx hb hd (by omega) (fun _ => hj _ _ _ _ hi ls H locs cells slots hl hH) (fun q => absurd e3 q)
theorem s_icmp_gt (hx : p.tables.exec = Jvm.exec) (hb : c.code = cc) {b' : Nat} (hd : decode cc pc = .ok (.if_icmp .gt ((pcs b' : Int) - (pc : Int)), 3)) (hF : FOK d F) : HS (OKs p l e R s m args below meth c Q d E nL) F cO kO pcs pc (h_icmp 4 b') (pc + 3) := by
  intro call j K nx L S h hcall hj hK hn hi ls H locs cells slots hl hH
  obtain ⟨y, S, e9, hi9⟩ := mm_p_s hi
  clear hi
  subst e9
  have hi := hi9
  clear hi9
  obtain ⟨x, S, e9, hi9⟩ := mm_p_s hi
  clear hi
  subst e9
  have hi := hi9
  clear hi9
  rcases mm_i_s hi with ⟨b, e9, hi9⟩ | hi9
  · clear hi
    subst e9
    have hi := hi9
    clear hi9
    rcases mm_i_s hi with ⟨a, e9, hi9⟩ | hi9
    · clear hi
      subst e9
      have hi := hi9
      clear hi9
      rcases mm_t_s hi with ⟨g, hi⟩ | ⟨g, hi⟩
      · have g9 := (mm_cmp_t 4 a b).mp g
        exact lv_icmp_gt (tgt := pcs b') hx hb hd (by omega) (fun _ => hj _ _ _ _ hi ls H locs cells slots hl hH) (fun q => absurd g9 q)
      · have g9 : ¬ cmpP 4 (nI a) (nI b) := fun q => by rw [(mm_cmp_t 4 a b).mpr q] at g; cases g
        exact lv_icmp_gt (tgt := pcs b') hx hb hd (by omega) (fun q => absurd q g9) (fun _ => hn _ _ _ hi ls H locs cells slots hl hH)
    · clear hi
      have hi := hi9
      clear hi9
      exact s_icmp_gt_sym hx hb hd hF hj hn hi ls H locs cells slots hl hH
  · clear hi
    have hi := hi9
    clear hi9
    exact s_icmp_gt_sym hx hb hd hF hj hn hi ls H locs cells slots hl hH
theorem s_if_gt_sym (hx : p.tables.exec = Jvm.exec) (hb : c.code = cc) {b : Nat} (hd : decode cc pc = .ok (.ifCond .gt ((pcs b : Int) - (pc : Int)), 3)) (hF : FOK d F) {j : Nat → mN} {nx : mN} {L : mL} {S : List mV} {h : mH} {x : mV} (hj : ∀ b L S h, j b L S h = true → (OKs p l e R s m args below meth c Q d E nL) (pcs b) L S h) (hn : ∀ L S h, nx L S h = true → (OKs p l e R s m args below meth c Q d E nL) (pc + 3) L S h)
    (hi : mm_k F (Nat.add 10 4) x (.inl 0) (fun v => mm_i v (fun w => Nat.rec (motive := fun _ => Bool) (nx L S h) (fun _ _ => j b L S h) w) false) = true) : (OKs p l e R s m args below meth c Q d E nL) pc L (x :: S) h := by
  intro ls H locs cells slots hl hH
  obtain ⟨r, ⟨x', y', e1, e2, e3⟩, e9, hi⟩ := mm_k_s (op := 14) hF hi
  obtain rfl : y' = 0 := (Value.int.inj e2).symm
  rw [List.map_cons, e1]
  rcases e9 (by decide) with rfl | rfl
  · have e3 : ¬ cmpP 4 x' 0 := by
      rcases e3 with ⟨-, q⟩ | ⟨q, -⟩
      · exact absurd (Value.int.inj q) (by decide)
      · exact q
    exact lv_if_gt (tgt := pcs b) hx hb hd (by omega) (fun q => absurd q e3) (fun _ => hn _ _ _ hi ls H locs cells slots hl hH)
  · have e3 : cmpP 4 x' 0 := by
      rcases e3 with ⟨q, -⟩ | ⟨-, q⟩
      · exact q
      · exact absurd (Value.int.inj q) (by decide)
    exact lv_if_gt (tgt := pcs b) hx hb hd (by omega) (fun _ => hj _ _ _ _ hi ls H locs cells slots hl hH) (fun q => absurd e3 q)
theorem s_if_gt (hx : p.tables.exec = Jvm.exec) (hb : c.code = cc) {b' : Nat} (hd : decode cc pc = .ok (.ifCond .gt ((pcs b' : Int) - (pc : Int)), 3)) (hF : FOK d F) : HS (OKs p l e R s m args below meth c Q d E nL) F cO kO pcs pc (h_if 4 b') (pc + 3) := by
  intro call j K nx L S h hcall hj hK hn hi ls H locs cells slots hl hH
  obtain ⟨x, S, e9, hi9⟩ := mm_p_s hi
  clear hi
  subst e9
  have hi := hi9
  clear hi9
  rcases mm_i_s hi with ⟨a, e9, hi9⟩ | hi9
  · clear hi
    subst e9
    have hi := hi9
    clear hi9
    rcases mm_t_s hi with ⟨g, hi⟩ | ⟨g, hi⟩
    · have g9 := (mm_cmp_t 4 a 0).mp g
      exact lv_if_gt (tgt := pcs b') hx hb hd (by omega) (fun _ => hj _ _ _ _ hi ls H locs cells slots hl hH) (fun q => absurd g9 q)
    · have g9 : ¬ cmpP 4 (nI a) (nI 0) := fun q => by rw [(mm_cmp_t 4 a 0).mpr q] at g; cases g
      exact lv_if_gt (tgt := pcs b') hx hb hd (by omega) (fun q => absurd q g9) (fun _ => hn _ _ _ hi ls H locs cells slots hl hH)
  · clear hi
    have hi := hi9
    clear hi9
    exact s_if_gt_sym hx hb hd hF hj hn hi ls H locs cells slots hl hH
theorem s_icmp_le_sym (hx : p.tables.exec = Jvm.exec) (hb : c.code = cc) {b : Nat} (hd : decode cc pc = .ok (.if_icmp .le ((pcs b : Int) - (pc : Int)), 3)) (hF : FOK d F) {j : Nat → mN} {nx : mN} {L : mL} {S : List mV} {h : mH} {x y : mV} (hj : ∀ b L S h, j b L S h = true → (OKs p l e R s m args below meth c Q d E nL) (pcs b) L S h) (hn : ∀ L S h, nx L S h = true → (OKs p l e R s m args below meth c Q d E nL) (pc + 3) L S h)
    (hi : mm_k F (Nat.add 10 5) x y (fun v => mm_i v (fun w => Nat.rec (motive := fun _ => Bool) (nx L S h) (fun _ _ => j b L S h) w) false) = true) : (OKs p l e R s m args below meth c Q d E nL) pc L (y :: x :: S) h := by
  intro ls H locs cells slots hl hH
  obtain ⟨r, ⟨x', y', e1, e2, e3⟩, e9, hi⟩ := mm_k_s (op := 15) hF hi
  rw [List.map_cons, List.map_cons, e1, e2]
  rcases e9 (by decide) with rfl | rfl
  · have e3 : ¬ cmpP 5 x' y' := by
      rcases e3 with ⟨-, q⟩ | ⟨q, -⟩
      · exact absurd (Value.int.inj q) (by decide)
      · exact q
    exact lv_icmp_le (tgt := pcs b) hx hb hd (by omega) (fun q => absurd q e3) (fun _ => hn _ _ _ hi ls H locs cells slots hl hH)
  · have e3 : cmpP 5 x' y' := by
      rcases e3 with ⟨q, -⟩ | ⟨-, q⟩
      · exact q
      · exact absurd (Value.int.inj q) (by decide)
    exact lv_icmp_le (tgt := pcs b) hx hb hd (by omega) (fun _ => hj _ _ _ _ hi ls H locs cells slots hl hH) (fun q => absurd e3 q)
theorem s_icmp_le (hx : p.tables.exec = Jvm.exec) (hb : c.code = cc) {b' : Nat} (hd : decode cc pc = .ok (.if_icmp .le ((pcs b' : Int) - (pc : Int)), 3)) (hF : FOK d F) : HS (OKs p l e R s m args below meth c Q d E nL) F cO kO pcs pc (h_icmp 5 b') (pc + 3) := by
  intro call j K nx L S h hcall hj hK hn hi ls H locs cells slots hl hH
  obtain ⟨y, S, e9, hi9⟩ := mm_p_s hi
  clear hi
  subst e9
  have hi := hi9
  clear hi9
  obtain ⟨x, S, e9, hi9⟩ := mm_p_s hi
  clear hi
  subst e9
  have hi := hi9
  clear hi9
  rcases mm_i_s hi with ⟨b, e9, hi9⟩ | hi9
  · clear hi
    subst e9
    have hi := hi9
    clear hi9
    rcases mm_i_s hi with ⟨a, e9, hi9⟩ | hi9
    · clear hi
      subst e9
      have hi := hi9
      clear hi9
      rcases mm_t_s hi with ⟨g, hi⟩ | ⟨g, hi⟩
      · have g9 := (mm_cmp_t 5 a b).mp g
        exact lv_icmp_le (tgt := pcs b') hx hb hd (by omega) (fun _ => hj _ _ _ _ hi ls H locs cells slots hl hH) (fun q => absurd g9 q)
      · have g9 : ¬ cmpP 5 (nI a) (nI b) := fun q => by rw [(mm_cmp_t 5 a b).mpr q] at g; cases g
        exact lv_icmp_le (tgt := pcs b') hx hb hd (by omega) (fun q => absurd q g9) (fun _ => hn _ _ _ hi ls H locs cells slots hl hH)
    · clear hi
      have hi := hi9
      clear hi9
      exact s_icmp_le_sym hx hb hd hF hj hn hi ls H locs cells slots hl hH
  · clear hi
    have hi := hi9
    clear hi9
    exact s_icmp_le_sym hx hb hd hF hj hn hi ls H locs cells slots hl hH
theorem s_if_le_sym (hx : p.tables.exec = Jvm.exec) (hb : c.code = cc) {b : Nat} (hd : decode cc pc = .ok (.ifCond .le ((pcs b : Int) - (pc : Int)), 3)) (hF : FOK d F) {j : Nat → mN} {nx : mN} {L : mL} {S : List mV} {h : mH} {x : mV} (hj : ∀ b L S h, j b L S h = true → (OKs p l e R s m args below meth c Q d E nL) (pcs b) L S h) (hn : ∀ L S h, nx L S h = true → (OKs p l e R s m args below meth c Q d E nL) (pc + 3) L S h)
    (hi : mm_k F (Nat.add 10 5) x (.inl 0) (fun v => mm_i v (fun w => Nat.rec (motive := fun _ => Bool) (nx L S h) (fun _ _ => j b L S h) w) false) = true) : (OKs p l e R s m args below meth c Q d E nL) pc L (x :: S) h := by
  intro ls H locs cells slots hl hH
  obtain ⟨r, ⟨x', y', e1, e2, e3⟩, e9, hi⟩ := mm_k_s (op := 15) hF hi
  obtain rfl : y' = 0 := (Value.int.inj e2).symm
  rw [List.map_cons, e1]
  rcases e9 (by decide) with rfl | rfl
  · have e3 : ¬ cmpP 5 x' 0 := by
      rcases e3 with ⟨-, q⟩ | ⟨q, -⟩
      · exact absurd (Value.int.inj q) (by decide)
      · exact q
    exact lv_if_le (tgt := pcs b) hx hb hd (by omega) (fun q => absurd q e3) (fun _ => hn _ _ _ hi ls H locs cells slots hl hH)
  · have e3 : cmpP 5 x' 0 := by
      rcases e3 with ⟨q, -⟩ | ⟨-, q⟩
      · exact q
      · exact absurd (Value.int.inj q) (by decide)
    exact lv_if_le (tgt := pcs b) hx hb hd (by omega) (fun _ => hj _ _ _ _ hi ls H locs cells slots hl hH) (fun q => absurd e3 q)
theorem s_if_le (hx : p.tables.exec = Jvm.exec) (hb : c.code = cc) {b' : Nat} (hd : decode cc pc = .ok (.ifCond .le ((pcs b' : Int) - (pc : Int)), 3)) (hF : FOK d F) : HS (OKs p l e R s m args below meth c Q d E nL) F cO kO pcs pc (h_if 5 b') (pc + 3) := by
  intro call j K nx L S h hcall hj hK hn hi ls H locs cells slots hl hH
  obtain ⟨x, S, e9, hi9⟩ := mm_p_s hi
  clear hi
  subst e9
  have hi := hi9
  clear hi9
  rcases mm_i_s hi with ⟨a, e9, hi9⟩ | hi9
  · clear hi
    subst e9
    have hi := hi9
    clear hi9
    rcases mm_t_s hi with ⟨g, hi⟩ | ⟨g, hi⟩
    · have g9 := (mm_cmp_t 5 a 0).mp g
      exact lv_if_le (tgt := pcs b') hx hb hd (by omega) (fun _ => hj _ _ _ _ hi ls H locs cells slots hl hH) (fun q => absurd g9 q)
    · have g9 : ¬ cmpP 5 (nI a) (nI 0) := fun q => by rw [(mm_cmp_t 5 a 0).mpr q] at g; cases g
      exact lv_if_le (tgt := pcs b') hx hb hd (by omega) (fun q => absurd q g9) (fun _ => hn _ _ _ hi ls H locs cells slots hl hH)
  · clear hi
    have hi := hi9
    clear hi9
    exact s_if_le_sym hx hb hd hF hj hn hi ls H locs cells slots hl hH
end SND
