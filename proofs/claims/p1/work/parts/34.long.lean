/-! LONG RUNS: calls that are known already (a table), frames run in pieces -/
theorem CM.mono {l : Launch} {d : mD} {E : mE} {y : Nat} {as : List mV} {al : Bool} {hp : List mC} {K K' : mK} (h : CM l d E y as al hp K) (hk : ∀ v hp, K v hp = true → K' v hp = true) : CM l d E y as al hp K' := by
  intro hal p e a1 a2 a3 s m args below a4 a5 a6 a7
  obtain ⟨n, oc, h1, h2, h3, ⟨v, hp', k1, k2⟩, h5⟩ := h hal p e a1 a2 a3 s m args below a4 a5 a6 a7
  exact ⟨n, oc, h1, h2, h3, ⟨v, hp', hk v hp' k1, k2⟩, h5⟩
abbrev mT : Type := Nat × List mV × List mC × Option mV × List mC
noncomputable def rX (v : Option mV) (hp : List mC) : mK := fun v' hp' => mm_b (qo v' v) (ql qc hp' hp)
theorem rX_s {v v' : Option mV} {hp hp' : List mC} (h : rX v hp v' hp' = true) : v' = v ∧ hp' = hp := by
  obtain ⟨h1, h2⟩ := mm_b_s h
  exact ⟨qo_s h1, ql_s (fun _ _ => qc_s) h2⟩
/-- calls by a table, else as they run -/
noncomputable def mc (call : mA) (tab : List mT) : mA := fun y as al hp K => List.rec (motive := fun _ => Bool) (call y as al hp K) (fun q _ ih => mm_t (mm_t (Nat.beq y q.1) (mm_t (ql qv as q.2.1) (ql qc hp q.2.2.1) false) false) (K q.2.2.2.1 q.2.2.2.2) ih) tab
def TG (l : Launch) (d : mD) (E : mE) (tab : List mT) : Prop := ∀ q ∈ tab, CM l d E q.1 q.2.1 false q.2.2.1 (rX q.2.2.2.1 q.2.2.2.2)
theorem mc_s {l : Launch} {d : mD} {E : mE} {call : mA} {tab : List mT} (hd : d.2.2.2.2 = false) (hc : cOK l d E call) (ht : TG l d E tab) : cOK l d E (mc call tab) := by
  induction tab with
  | nil => exact hc
  | cons q tab ih =>
    intro y as al hp K h
    rcases mm_t_s h with ⟨h1, h2⟩ | ⟨-, h2⟩
    · rcases mm_t_s h1 with ⟨g1, g2⟩ | ⟨-, g2⟩
      · rcases mm_t_s g2 with ⟨g3, g4⟩ | ⟨-, g4⟩
        · obtain rfl := beq_s g1
          obtain rfl := ql_s (fun _ _ => qv_s) g3
          obtain rfl := ql_s (fun _ _ => qc_s) g4
          intro hal
          refine CM.mono (ht q List.mem_cons_self) (fun v hp hk => ?_) hd.symm
          obtain ⟨rfl, rfl⟩ := rX_s hk
          exact h2
        · cases g4
      · cases g2
    · exact ih (fun q hq => ht q (List.mem_cons_of_mem _ hq)) y as al hp K h2
noncomputable def em (F : mF) (call : mA) : mA := fun y as al hp K => mm_en (nl y) as (fun L => fr F call 1000000 (rc y) 0 L [] (al, 0, 0, hp) K (fun _ _ _ _ => false))
theorem em_s {l : Launch} {d : mD} {E : mE} {F : mF} (hF : FOK d F) {call : mA} (hc : cOK l d E call) : cOK l d E (em F call) := by
  intro y as al hp K h hal
  subst hal
  by_cases hy : y < 140
  · obtain ⟨h1, h2, h3⟩ := mm_en_s d h
    rcases all_ms y hy with hz | hA
    · exact (bl_rc0 hz (n := 999999) h3).elim
    obtain ⟨M, h0, -⟩ := id hA
    refine fr_m hF hA hc (fun {p e s m args below meth c} C => ?_) h1 h2 rfl
    have := fr_s (e := e) (below := below) M C hc (fun b L S h hz => by cases hz) 1000000 0 _ _ _ h3
    rw [h0] at this
    exact this
  · obtain ⟨h1, h2, h3⟩ := mm_en_s d h
    exact (bl_rc0 (fun b => rc_big y b hy) (n := 999999) h3).elim
noncomputable def te (q : mT) : Bool := ed [] rc nl 7 q.1 q.2.1 false q.2.2.1 (rX q.2.2.2.1 q.2.2.2.2)
noncomputable def ta (tab : List mT) : Bool := List.rec (motive := fun _ => Bool) true (fun q _ ih => mm_b (te q) ih) tab
theorem ta_s {l : Launch} {d : mD} {E : mE} {tab : List mT} (h : ta tab = true) : TG l d E tab := by
  induction tab with
  | nil => exact fun q hq => by cases hq
  | cons q tab ih =>
    obtain ⟨h1, h2⟩ := mm_b_s h
    intro r hr
    rcases List.mem_cons.mp hr with rfl | hr
    · exact ed_s fk_n 7 _ _ _ _ _ h1
    · exact ih h2 r hr
theorem TG.app {l : Launch} {d : mD} {E : mE} {a b : List mT} (h1 : TG l d E a) (h2 : TG l d E b) : TG l d E (a ++ b) := fun q hq => (List.mem_append.mp hq).elim (h1 q) (h2 q)
theorem op_of2 {y1 y2 : Nat} {av : List mV} {n : Nat} {sg : Nat → Int32} {tl : Nat → Int64} {xs : List Int32} (h : ∀ (l : Launch) (d : mD) (E : mE), d.2.1 = sg → d.2.2.1 = tl → d.2.2.2.2 = false → CM l d E y1 (.inr (.inl 0) :: av) false hCX (rC n) ∧ CM l d E y2 (.inr (.inl 0) :: av) false hM (rN n)) (hx : ∀ d : mD, d.2.1 = sg → d.2.2.1 = tl → av.map (dn d) = xs.map Value.int) : OP y1 y2 xs := ⟨sg, tl, av, n, hx, h⟩
theorem fl_1 {d : mD} {F : mF} {op cc k c : Nat} {z : Int} (hop : op = 10 + cc) (hz : (nI c).toInt = z) (h : icP cc z (d.2.1 k).toInt) (hF : FOK d F) : FOK d ((op, .inl c, .inr (.inr (.inr (.inl k))), .inl 1) :: F) := by
  intro q hq
  rcases List.mem_cons.mp hq with rfl | hq
  · subst hop
    refine ⟨?_, fun _ => Or.inr rfl⟩
    have h2 : cmpP cc (nI c) (d.2.1 k) := (cmp_ic _ _ _).mpr (by rw [hz]; exact h)
    show fsem (10 + cc) _ _ _
    rw [Nat.add_comm]
    exact ⟨_, _, rfl, rfl, Or.inl ⟨h2, rfl⟩⟩
  · exact hF q hq
theorem fl_0 {d : mD} {F : mF} {op cc k c : Nat} {z : Int} (hop : op = 10 + cc) (hz : (nI c).toInt = z) (h : ¬ icP cc z (d.2.1 k).toInt) (hF : FOK d F) : FOK d ((op, .inl c, .inr (.inr (.inr (.inl k))), .inl 0) :: F) := by
  intro q hq
  rcases List.mem_cons.mp hq with rfl | hq
  · subst hop
    refine ⟨?_, fun _ => Or.inl rfl⟩
    have h2 : ¬ cmpP cc (nI c) (d.2.1 k) := fun w => h (by rw [← hz]; exact (cmp_ic _ _ _).mp w)
    show fsem (10 + cc) _ _ _
    rw [Nat.add_comm]
    exact ⟨_, _, rfl, rfl, Or.inr ⟨h2, rfl⟩⟩
  · exact hF q hq
/-- a piece's end -/
noncomputable def zt (b0 : Nat) (L0 : mL) (S0 : List mV) (hp0 : List mC) : Nat → mN := fun b L S h => mm_b (Nat.beq b b0) (mm_b (ql qo L L0) (mm_b (ql qv S S0) (mm_t h.1 false (mm_b (Nat.beq h.2.1 0) (mm_b (Nat.beq h.2.2.1 0) (ql qc h.2.2.2 hp0))))))
theorem zt_s {b0 : Nat} {L0 : mL} {S0 : List mV} {hp0 : List mC} {b : Nat} {L : mL} {S : List mV} {h : mH} (hz : zt b0 L0 S0 hp0 b L S h = true) : b = b0 ∧ L = L0 ∧ S = S0 ∧ h = (false, 0, 0, hp0) := by
  obtain ⟨h1, hz⟩ := mm_b_s hz
  obtain ⟨h2, hz⟩ := mm_b_s hz
  obtain ⟨h3, hz⟩ := mm_b_s hz
  rcases mm_t_s hz with ⟨-, hz⟩ | ⟨h4, hz⟩
  · cases hz
  obtain ⟨h5, hz⟩ := mm_b_s hz
  obtain ⟨h6, hz⟩ := mm_b_s hz
  obtain ⟨x, y, z, w⟩ := h
  have e1 := beq_s h5
  have e2 := beq_s h6
  have e3 := ql_s (fun _ _ => qc_s) hz
  dsimp only at h4 e1 e2 e3
  subst h4
  subst e1
  subst e2
  subst e3
  exact ⟨beq_s h1, ql_s (fun _ _ => qo_s) h2, ql_s (fun _ _ => qv_s) h3, rfl⟩
