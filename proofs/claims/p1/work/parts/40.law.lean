/-! THE LAW, first part: what is known at its start; a call of its own -/
section LAWC
variable {p : Program} {l : Launch} {e : Env} {s : State} {m : MethodId} {args : Array Value} {below : List Frame} {meth : Method} {c : Code} {Q : State → Prop}
theorem lc {d : mD} {E : mE} {pc y n ci : Nat} {as : List mV} {hp : List mC} {K : mK} {H : Heap} {locs : List Loc} {cells slots : Nat} {ls : Array Slot} {rest : List Value} (hrun : RunK p l e room_1 s m args below meth c d 4 pc y n ci) (hM : CM l d E y as d.2.2.2.2 hp K) (hKN : KN d E s) (hbase : s.heap.size ≤ d.1) (hP : va_P E.1 xcl (wo d E.2 d.1 hp) H) (h0 : 0 < hp.length) (hc : d.2.2.2.2 = true → s.heap.size + cells = d.1 + hp.length) (hS : va_S (fun q => s.heap.size ≤ q) s.heap H locs) (hn : as.length = n) (hls : ls.size = 4) (hcat : (rest.map fun v => v.category).sum ≤ 8) (hroom : cells + (gM y).cells ≤ room_1.cells ∧ slots + (gM y).slots ≤ room_1.slots) (hrv : RV s H (as.map (dn d)) ci)
    (kk : ∀ (v : Option mV) (hp' : List mC) (H' : Heap) (locs' : List Loc), K v hp' = true → va_P E.1 xcl (wo d E.2 d.1 hp') H' → va_S (fun q => s.heap.size ≤ q) s.heap H' locs' → (∀ q : Nat, q < H.size → ¬ d.1 ≤ q → H'[q]? = H[q]?) → W p l e room_1 s m args below meth c H' locs' (cells + (gM y).cells) (slots + (gM y).slots) Q (F0 m (pc + 3) ls ((v.map (dn d)).toList ++ rest))) :
    W p l e room_1 s m args below meth c H locs cells slots Q (F0 m pc ls ((as.map (dn d)).reverse ++ rest)) := by
  have hlt : d.1 + (hp.length - 1) < H.size := by
    have hlt : hp.length - 1 < hp.length := by omega
    exact (hP _ _ (wo_at (List.getElem?_eq_getElem hlt))).lt
  intro T hT X
  have hsz : d.2.2.2.2 = true → H.size = d.1 + hp.length := by
    intro q
    have k1 : T.heap.size ≤ s.heap.size + cells := X.heapSize
    rw [hT] at k1
    have k2 := hc q
    omega
  obtain ⟨v, st₀, t, T', L9, k0, X', kL, e1, e2, ⟨v', hp', kK, ko, kP, kF, ksz⟩, st⟩ := hrun (as.map (dn d)) rest ls H locs cells slots (PcM d E as hp) _ (hM rfl) (by rw [List.length_map]; exact hn) hls hcat hroom PcM.blind (fun U hU hW => ⟨rfl, hKN.next hW (fun q a1 a2 => by rw [hU]; exact hS.2.1 q a1 (fun w => absurd a1 (Nat.not_lt.mpr w))), by rw [hU]; exact hP, fun q => by rw [hU]; exact hsz q, by rw [hU]; omega⟩) hrv T hT X
  have ev : v = v'.map (dn d) := by
    injection ko
  subst ev
  obtain ⟨f1, f2⟩ := kF
  rw [k0] at f1 f2
  obtain ⟨t2, a1, b1⟩ := kk v' hp' t.heap (locs ++ L9) kK kP ⟨Nat.le_trans hS.1 f1, fun q a1 a2 => (f2 q (Nat.lt_of_lt_of_le a1 hS.1) (fun w => a2 (Nat.le_trans hbase w))).trans (hS.2.1 q a1 a2), fun q hq => (List.mem_append.mp hq).elim (hS.2.2 q) (fun hq => Nat.le_trans hbase (kL q hq))⟩ f2 T' e1 X'
  exact ⟨t2, st t2 a1, b1⟩
end LAWC
theorem ar_k {args : Array Value} {s : State} {ty : FieldType} (h : (Cond.arrayClass ty).before args s = true) (hr : ∀ cA, s.vm.findClass ("[" ++ ty.toString) = some cA → va_RA s cA ty) : ∃ cA, ArrOfT s cA ty ∧ va_RA s cA ty := by
  obtain ⟨cA, kA, comp, h1, h2, h3⟩ := Cond.arrayClass_spec h
  exact ⟨cA, fun N z => ⟨(fun k h => by cases h), kA, h2, comp, h3⟩, hr cA h1⟩
theorem ar_o {args : Array Value} {s : State} {C : String} (h : (Cond.arrayOver (.object C)).before args s = true) : ∃ cA, ArrOfT s cA (.object C) ∧ va_RA s cA (.object C) := by
  obtain ⟨comp, cA, k, h1, h2, h3, h4, h5⟩ := Cond.arrayOver_spec h
  exact ⟨cA, fun N z => ⟨(fun k h => by cases h), k, h3, comp, h4⟩, k, comp, h3, h4, h1, h5⟩
theorem ao_i {args : Array Value} {s : State} (h : (Cond.arrayOver (.array .int)).before args s = true) : va_AOI s := by
  rcases hc : s.vm.findClass (FieldType.array .int).toString with _ | comp
  · simp [Cond.before, Cond.holds, Cond.value, hc] at h
  · simp only [Cond.before, Cond.holds, Cond.value, hc, beq_iff_eq, Option.bind_some] at h
    obtain ⟨cA, hf, h⟩ := Option.bind_eq_some_iff.mp h
    obtain ⟨k, hk, h⟩ := Option.map_eq_some_iff.mp h
    have hk2 := (Array.getElem?_eq_some_iff.mp hk).2
    have hp := (Array.findIdx?_eq_some_iff_getElem.mp hf).2.1
    rw [hk2] at hp
    rcases hq : k.kind with _ | _ | _ | _ <;> rw [hq] at h hp <;> first | (cases h; done) | (cases hp; done) | skip
    all_goals
      simp only [Bool.and_eq_true, beq_iff_eq, decide_eq_true_eq] at h hp
      exact ⟨comp, cA, k, hc, hk, by rw [hq, hp, h.1], h.2⟩
theorem kn_E {args : Array Value} {s : State} (hts : ∀ w ∈ lw_tbl, w.before args s = true) : ∃ E : mE, va_K E.1 xcl (xtys E.2) s ∧ (∀ w ∈ nestW, va_Nw w s) ∧ va_AO "RudeCoupons$Standing" s ∧ va_AO "RudeCoupons$Letters" s ∧ va_AOI s := by
  have hg : ∀ w ∈ lw_g, w.before args s = true := fun w hw => hts w (lw_g_in hw)
  obtain ⟨c0, i0, h0⟩ := u_known hg in_0 (hg _ wn_0)
  obtain ⟨c1, i1, h1⟩ := u_known hg in_1 (hg _ wn_1)
  obtain ⟨c2, i2, h2⟩ := u_known hg in_2 (hg _ wn_2)
  obtain ⟨c3, i3, h3⟩ := u_known hg in_3 (hg _ wn_3)
  obtain ⟨c4, i4, h4⟩ := u_known hg in_4 (hg _ wn_4)
  obtain ⟨c5, i5, h5⟩ := u_known hg in_5 (hg _ wn_5)
  obtain ⟨c6, i6, h6⟩ := u_known hg in_6 (hg _ wn_6)
  obtain ⟨c7, i7, h7⟩ := u_known hg in_7 (hg _ wn_7)
  obtain ⟨c8, i8, h8⟩ := u_known hg in_8 (hg _ wn_8)
  have w2 : (Cond.arrayOver (.object "RudeCoupons$Standing")).before args s = true := hts _ (by decide +kernel)
  have w3 : (Cond.arrayOver (.object "RudeCoupons$Letters")).before args s = true := hts _ (by decide +kernel)
  have w4 : (Cond.arrayOver (.array .int)).before args s = true := hts _ (by decide +kernel)
  obtain ⟨a0, b0⟩ := ar_k (hg _ wa_0) (fun cA h => h)
  obtain ⟨a1, b1⟩ := ar_k (hg _ wa_1) (fun cA h => h)
  obtain ⟨a2, b2⟩ := ar_o w2
  obtain ⟨a3, b3⟩ := ar_o w3
  obtain ⟨comp, a4, k4, g1, g2, g3, g4⟩ := ao_i w4
  have b4 : ArrOfT s a4 (.array .int) ∧ va_RA s a4 (.array .int) := ⟨fun N z => ⟨(fun k h => by cases h), k4, g2, comp, g3⟩, g4⟩
  refine ⟨((fun n => nth c0 [c0, c1, c2, c3, c4, c5, c6, c7, c8] n, fun n => nth i0 [i0, i1, i2, i3, i4, i5, i6, i7, i8] n), fun n => nth a0 [a0, a1, a2, a3, a4] n), ⟨?_, ?_⟩, ?_, va_AO.of w2, va_AO.of w3, comp, a4, k4, g1, g2, g3, g4⟩
  · intro c q hq
    rcases c with _ | _ | _ | _ | _ | _ | _ | _ | _ | c
    all_goals first | (cases hq; assumption) | (cases hq; done)
  · intro k q hq
    rcases k with _ | _ | _ | _ | _ | k
    all_goals first | (cases hq; assumption) | (cases hq; done)
  · intro w hw
    have hin : ∀ w ∈ nestW, w ∈ lw_tbl := by decide +kernel
    obtain ⟨x1, x2, x3, x4, rfl⟩ := nestW_k w hw
    exact va_Nw.of rfl (hts _ (hin _ hw))
/-- the text at the start -/
theorem tx_s {s : State} {b : Nat} (hts : ∀ w ∈ lw_tbl, w.before #[Value.ref b] s = true) (hgv : (Jvm.Cond.and given_1 narrow_1).before #[Value.ref b] s = true) : ∃ tx : Nat, ∀ d : mD, d.2.2.2.1 = tx → s.heap.size ≤ d.1 → TXok d s := by
  have hs := flat_of_before _ hgv
  have q1 : (Cond.stringRef "RudeCoupons" 74 txS).before #[Value.ref b] s = true := hts _ (by decide +kernel)
  have q2 : (Cond.laysStatic "java/lang/String" "COMPACT_STRINGS" "Z").before #[Value.ref b] s = true := hts _ (by decide +kernel)
  have q3 : (Cond.laysStatic "jdk/internal/util/Preconditions" "SIOOBE_FORMATTER" "Ljava/util/function/BiFunction;").before #[Value.ref b] s = true := hts _ (by decide +kernel)
  have q4 : (Cond.initialized "java/lang/String").before #[Value.ref b] s = true := hts _ (by decide +kernel)
  have q5 : (Cond.initialized "jdk/internal/util/Preconditions").before #[Value.ref b] s = true := hts _ (by decide +kernel)
  have q6 : (Cond.eq (.static "java/lang/String" "COMPACT_STRINGS" "Z") (.int 1)).before #[Value.ref b] s = true := hs _ (by decide +kernel)
  have q7 : (Cond.isRef (.static "jdk/internal/util/Preconditions" "SIOOBE_FORMATTER" "Ljava/util/function/BiFunction;")).before #[Value.ref b] s = true := hs _ (by decide +kernel)
  have r1 : (Cond.exactly (.string "RudeCoupons" 74) "java/lang/String").before #[Value.ref b] s = true := hs _ (by decide +kernel)
  have r2 : (Cond.eq (.field (.string "RudeCoupons" 74) "java/lang/String" "coder" "B") (.int 0)).before #[Value.ref b] s = true := hs _ (by decide +kernel)
  have r3 : (Cond.arrayOf (.field (.string "RudeCoupons" 74) "java/lang/String" "value" "[B") .byte).before #[Value.ref b] s = true := hs _ (by decide +kernel)
  have r4 : (Cond.eq (.length (.field (.string "RudeCoupons" 74) "java/lang/String" "value" "[B")) (.int 113)).before #[Value.ref b] s = true := hs _ (by decide +kernel)
  have r5 : ∀ j, j < 113 → (Cond.eq (.elem (.field (.string "RudeCoupons" 74) "java/lang/String" "value" "[B") (.int (Int32.ofNat j))) (.int (txB.getD j 0))) ∈ flatC (Jvm.Cond.and given_1 narrow_1) := by decide +kernel
  have key : ∀ A : Nat → Prop, (∀ a : Nat, a < s.heap.size → ¬ A a) → ∃ adK adV : Nat → Nat, vk_S 1 [113] [txB] adK adV A s s.heap ∧ ∀ i : Nat, i < 1 → (Term.string "RudeCoupons" 74).eval #[Value.ref b] s none [] s = some (.ref (adK i)) := fun A hA =>
    vk_Sof (tm := fun _ => .string "RudeCoupons" 74) (fun i hi => by rcases (show i = 0 by omega) with rfl; decide) (fun i hi => r1) (fun i hi => r2) (fun i hi => r3) (fun i hi => by rcases (show i = 0 by omega) with rfl; exact r4) (fun i hi j hj => by rcases (show i = 0 by omega) with rfl; exact hs _ (r5 j hj)) (fun i j h1 h2 h3 => by omega) hA
  obtain ⟨adK, -, -, h1⟩ := key (fun q => s.heap.size ≤ q) (fun a h w => absurd h (Nat.not_lt.mpr w))
  refine ⟨adK 0, fun d hd hb => ?_⟩
  have hA : ∀ a : Nat, a < s.heap.size → ¬ d.1 ≤ a := fun a h w => absurd h (Nat.not_lt.mpr (Nat.le_trans hb w))
  obtain ⟨adK', adV, h2, h3⟩ := key (fun q => d.1 ≤ q) hA
  have e : adK' 0 = adK 0 := by
    have := (h3 0 (by decide)).symm.trans (h1 0 (by decide))
    injection this with this
    injection this
  have e2 : vk_S 1 [113] [txB] (fun _ => d.2.2.2.1) (fun _ => adV 0) (fun q => d.1 ≤ q) s s.heap := by
    refine ⟨fun i hi => ?_, fun i j h1 h2 _ => by omega⟩
    have := h2.1 i hi
    rcases (show i = 0 by omega) with rfl
    rw [e, ← hd] at this
    exact this
  exact ⟨by rw [hd]; exact vk_R.of q1 (h1 0 (by decide)), ⟨_, e2⟩, va_Zof q2 q4 (va_eqi q6) hA, va_Zqof q3 q5 q7 hA⟩
