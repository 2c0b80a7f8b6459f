/-! NEW int[n][k]: the outer row, then the inner ones, each put into it as it comes -/
def gdO (cA : ClassId) (N h0 j : Nat) : Cell := arrV cA N (fun q => if q < j then .ref (h0 + 1 + q) else .null)
def gdI (cB : ClassId) (K : Nat) : Cell := arrV cB K (fun _ => .int 0)
def gdS (T : State) (cA cB : ClassId) (N K : Nat) : Nat → State
  | 0 => T.pushCell (gdO cA N T.heap.size 0)
  | j + 1 => ((gdS T cA cB N K j).pushCell (gdI cB K)).setCell T.heap.size (gdO cA N T.heap.size (j + 1))
theorem gdO_size (cA : ClassId) (N h0 j : Nat) : (gdO cA N h0 j).slots.size = N := arrV_size _ _ _
theorem gdO_step (cA : ClassId) (N h0 j : Nat) : (gdO cA N h0 j).setSlot j (.ref (h0 + 1 + j)) = gdO cA N h0 (j + 1) := by
  unfold gdO
  rw [arrV_store]
  refine congrArg (arrV cA N) (funext fun q => ?_)
  by_cases h : q = j
  · subst h
    simp [updV]
  · by_cases h2 : q < j
    · simp [updV, h, h2, Nat.lt_succ_of_lt h2]
    · simp [updV, h, h2, show ¬ q < j + 1 by omega]
theorem gd_facts (T : State) (cA cB : ClassId) (N K : Nat) : ∀ j, (gdS T cA cB N K j).heap.size = T.heap.size + 1 + j ∧ (gdS T cA cB N K j).heap[T.heap.size]? = some (gdO cA N T.heap.size j) ∧ (gdS T cA cB N K j).vm = T.vm ∧ (gdS T cA cB N K j).slotsUsed = T.slotsUsed + N + j * K
  | 0 => ⟨by simp [gdS], by simp [gdS], rfl, by simp [gdS, gdO_size]⟩
  | j + 1 => by
    obtain ⟨a1, a2, a3, a4⟩ := gd_facts T cA cB N K j
    have hlt : T.heap.size < (gdS T cA cB N K j).heap.size := by omega
    have hat : ((gdS T cA cB N K j).pushCell (gdI cB K)).heap[T.heap.size]? = some (gdO cA N T.heap.size j) := by rw [State.heap_pushCell_of_lt (h := hlt)]; exact a2
    refine ⟨?_, State.heap_setCell_self hat, ?_, ?_⟩
    · show (((gdS T cA cB N K j).pushCell (gdI cB K)).setCell T.heap.size _).heap.size = _
      rw [size_setCell, size_pushCell, a1]
      omega
    · simp [gdS, a3]
    · simp [gdS, a4, gdI, arrV_size, Nat.succ_mul]
      omega
theorem gd_old (T : State) (cA cB : ClassId) (N K : Nat) {a : Nat} (ha : a < T.heap.size) : ∀ j, (gdS T cA cB N K j).heap[a]? = T.heap[a]?
  | 0 => State.heap_pushCell_of_lt _ _ ha
  | j + 1 => by
    have a1 := (gd_facts T cA cB N K j).1
    have hlt : a < (gdS T cA cB N K j).heap.size := by omega
    show (((gdS T cA cB N K j).pushCell (gdI cB K)).setCell T.heap.size _).heap[a]? = _
    rw [State.heap_setCell_other (Nat.ne_of_gt ha), State.heap_pushCell_of_lt (h := hlt)]
    exact gd_old T cA cB N K ha j
theorem gd_in (T : State) (cA cB : ClassId) (N K : Nat) : ∀ j i, i < j → (gdS T cA cB N K j).heap[T.heap.size + 1 + i]? = some (gdI cB K)
  | 0, _, h => absurd h (Nat.not_lt_zero _)
  | j + 1, i, h => by
    have a1 := (gd_facts T cA cB N K j).1
    show (((gdS T cA cB N K j).pushCell (gdI cB K)).setCell T.heap.size _).heap[T.heap.size + 1 + i]? = _
    rw [State.heap_setCell_other (show T.heap.size ≠ T.heap.size + 1 + i by omega)]
    by_cases hi : i < j
    · have hlt : T.heap.size + 1 + i < (gdS T cA cB N K j).heap.size := by omega
      rw [State.heap_pushCell_of_lt (h := hlt)]
      exact gd_in T cA cB N K j i hi
    · obtain rfl : i = j := by omega
      rw [← a1]
      exact State.heap_pushCell_size _ _
theorem gd_top (T : State) (f : JFrame) (cA cB : ClassId) (N K : Nat) : ∀ j, gdS (T.setTop f) cA cB N K j = (gdS T cA cB N K j).setTop f
  | 0 => rfl
  | j + 1 => by simp only [gdS, gd_top T f cA cB N K j, State.heap_setTop, State.pushCell_setTop, State.setCell_setTop]
section GRID
variable {p : Program} {l : Launch} {e : Env} {R : Room} {s : State} {m : MethodId} {args : Array Value} {below : List Frame} {meth : Method} {c : Code} {T : State} {locs : List Loc} {cells slots : Nat}
theorem gd_stand (X : Stand p l e R s m args below meth c T locs cells slots) (cA cB : ClassId) (N K : Nat) : ∀ j, ∃ L : List Loc, (∀ q ∈ L, q.base = T.heap.size) ∧ Stand p l e R s m args below meth c (gdS T cA cB N K j) (locs ++ L) (cells + 1 + j) (slots + N + j * K)
  | 0 => by
    have h := X.pushed (gdO cA N T.heap.size 0)
    rw [gdO_size] at h
    refine ⟨[], (fun q hq => by cases hq), ?_⟩
    simpa [gdS] using h
  | j + 1 => by
    obtain ⟨L, hL, Xj⟩ := gd_stand X cA cB N K j
    obtain ⟨a1, a2, -, -⟩ := gd_facts T cA cB N K j
    have hlt : T.heap.size < (gdS T cA cB N K j).heap.size := by omega
    have hat : ((gdS T cA cB N K j).pushCell (gdI cB K)).heap[T.heap.size]? = some (gdO cA N T.heap.size j) := by rw [State.heap_pushCell_of_lt (h := hlt)]; exact a2
    have h := (Xj.pushed (gdI cB K)).stored hat j (.ref (T.heap.size + 1 + j))
    rw [gdO_step, show (gdI cB K).slots.size = K from arrV_size _ _ _, List.append_assoc] at h
    refine ⟨L ++ [⟨T.heap.size, j⟩], fun q hq => ?_, ?_⟩
    · rcases List.mem_append.mp hq with hq | hq
      · exact hL q hq
      · rw [List.mem_singleton.mp hq]
    · rw [show slots + N + (j + 1) * K = slots + N + j * K + K by rw [Nat.succ_mul]; omega]
      exact h
section WPG
variable {Ct : CtlPost} {dd : Bool} {acts : List Action} {u : State}
theorem gd_make1 {cB cc : ClassId} {kB : Class} {k : Int32} {K : Nat} (hkB : u.vm.classes[cB]? = some kB) (hkind : kB.kind = .array cc .int) (hk : ¬ k < 0) (hK : k.toNatClampNeg = K) (hl : ¬ K > e.platform.arrayLengthLimit) (hh : ¬ K * componentBytes .int > e.platform.maxHeapBytes) (h1 : u.heap.size < e.platform.maxCells) (h2 : u.slotsUsed + K ≤ e.platform.maxSlots)
    {Q : Addr → Pre} (hq : ∀ acts', Q u.heap.size dd acts' (u.pushCell (gdI cB K))) : wp (multianewarray.make cB [k]) Q Ct e dd acts u := by
  subst hK
  rw [multianewarray.make]
  simp only [wp_bind', W.ite, hk, if_false, wp_pure', W.theClass, hkB, hkind, Option.some.injEq, exists_eq_left']
  refine W.newArray_of hkB hkind hl hh h1 h2 rfl (fun acts' => ?_)
  have := hq acts'
  rw [show gdI cB k.toNatClampNeg = ({ cls := cB, slots := Array.replicate k.toNatClampNeg (defaultValue .int), vm := .none } : Cell) from (arrV_new _ _ _).symm] at this
  exact this
theorem gd_make2 {cA cB cc : ClassId} {kA kB : Class} {n k : Int32} {N K : Nat} (hkA : u.vm.classes[cA]? = some kA) (hkindA : kA.kind = .array cB (.array .int)) (hkB : u.vm.classes[cB]? = some kB) (hkindB : kB.kind = .array cc .int) (hn : ¬ n < 0) (hk : ¬ k < 0) (hN : n.toNatClampNeg = N) (hK : k.toNatClampNeg = K)
    (hl1 : ¬ N > e.platform.arrayLengthLimit) (hh1 : ¬ N * componentBytes (.array .int) > e.platform.maxHeapBytes) (hl2 : ¬ K > e.platform.arrayLengthLimit) (hh2 : ¬ K * componentBytes .int > e.platform.maxHeapBytes) (hc : u.heap.size + 1 + N ≤ e.platform.maxCells) (hs : u.slotsUsed + N + N * K ≤ e.platform.maxSlots)
    {Q : Addr → Pre} (hq : ∀ d' acts', Q u.heap.size d' acts' (gdS u cA cB N K N)) : wp (multianewarray.make cA [n, k]) Q Ct e dd acts u := by
  have hfind : ([k].find? (· < 0)) = none := by simp [hk]
  rw [multianewarray.make]
  simp only [wp_bind', W.ite, hn, if_false, wp_pure', W.theClass, hkA, hkindA, Option.some.injEq, exists_eq_left']
  refine W.newArray_of hkA hkindA (by rw [hN]; exact hl1) (by rw [hN]; exact hh1) (by omega) (by rw [hN]; have := Nat.zero_le (N * K); omega) rfl (fun acts1 => ?_)
  simp only [hfind]
  rw [ite_self, wp_bind', Std.Legacy.Range.forIn_eq_forIn_range']
  have hsz : ([:n.toNatClampNeg] : Std.Legacy.Range).size = N := by simp [Std.Legacy.Range.size, hN]
  rw [hsz]
  show wp (forIn (List.range' 0 N 1) PUnit.unit _) _ Ct e dd acts1 _
  have h0 : u.pushCell ({ cls := cA, slots := Array.replicate n.toNatClampNeg .null, vm := .none } : Cell) = gdS u cA cB N K 0 := by
    show _ = u.pushCell (gdO cA N u.heap.size 0)
    rw [hN, arrV_new]
    unfold gdO
    congr 2
  refine wp_forIn_inv (fun rest u' => ∃ i, i ≤ N ∧ rest = List.range' i (N - i) ∧ u' = gdS u cA cB N K i) _ _ ⟨0, Nat.zero_le _, rfl, h0⟩ ?_ ?_
  · rintro x rest u' d' acts' Q' ⟨i, hi, hr, rfl⟩ hnext
    have hlt : i < N := by
      by_cases h : i < N
      · exact h
      · rw [show N - i = 0 by omega] at hr
        simp at hr
    obtain ⟨rfl, hrest⟩ : x = i ∧ rest = List.range' (i + 1) (N - (i + 1)) := by
      rw [show N - i = (N - (i + 1)) + 1 by omega, List.range'_succ] at hr
      exact ⟨(List.cons.inj hr).1, (List.cons.inj hr).2⟩
    obtain ⟨a1, a2, a3, a4⟩ := gd_facts u cA cB N K x
    have hmul : x * K + K ≤ N * K := by
      have := Nat.mul_le_mul_right K (show x + 1 ≤ N from hlt)
      rw [Nat.succ_mul] at this
      exact this
    have hlt0 : u.heap.size < (gdS u cA cB N K x).heap.size := by omega
    simp only [wp_bind']
    refine gd_make1 (by rw [a3]; exact hkB) hkindB hk hK hl2 hh2 (by omega) (by omega) (fun acts2 => ?_)
    simp only [wp_bind', W.writeLoc, wp_pure']
    refine ⟨gdO cA N u.heap.size x, by rw [State.heap_pushCell_of_lt (h := hlt0)]; exact a2, by simp [gdO, arrV], by rw [gdO_size]; exact hlt, ?_, hnext _ _ _ ⟨x + 1, hlt, hrest, ?_⟩⟩
    · simp [gdO, arrV, State.fitsSlot, State.slotType?, a3, hkA, hkindA, fits]
    · rw [a1, gdO_step]
      rfl
  · rintro u' d' acts' ⟨i, hi, hr, rfl⟩
    have hiN : i = N := by
      by_cases h : i < N
      · rw [show N - i = (N - (i + 1)) + 1 by omega, List.range'_succ] at hr
        cases hr
      · omega
    subst hiN
    simp only [wp_pure']
    exact hq _ _
end WPG
theorem gd_law (X : Stand p l e R s m args below meth c T locs cells slots) (hexec : p.tables.exec = Jvm.exec) {own : String} {index : Nat} (hown : s.vm.findClass own = some m.cls) (hclink : (Cond.classLink own index ("[" ++ (FieldType.array .int).toString)).before args s = true) (hover : va_AOI s) (harr : (Cond.arrayClass .int).before args s = true)
    {g : JFrame} (hg : g.method = m) (hdg : decode c.code g.pc = .ok (.multianewarray index 2, 4)) {n k : Int32} {N K : Nat} {rest : List Value} (hstack : g.stack = .int k :: .int n :: rest) (hn : ¬ n < 0) (hk : ¬ k < 0) (hN : n.toNatClampNeg = N) (hK : k.toNatClampNeg = K) (hN5 : N ≤ 65535) (hK5 : K ≤ 65535) (hcells : cells + (1 + N) ≤ R.cells) (hslots : slots + (N + N * K) ≤ R.slots) :
    ∃ (vm₁ : Vm) (cA cB : ClassId) (L : List Loc), s.WarmedH vm₁ ∧ s.vm.findClass ("[" ++ (FieldType.array .int).toString) = some cA ∧ s.vm.findClass (FieldType.array .int).toString = some cB ∧ (∀ q ∈ L, q.base = T.heap.size) ∧ Stand p l e R s m args below meth c (gdS (T.setVm vm₁) cA cB N K N) (locs ++ L) (cells + 1 + N) (slots + N + N * K) ∧
      ∀ target, Steps p.tables e below ((gdS (T.setVm vm₁) cA cB N K N).setTop { g with pc := g.pc + 4, stack := .ref T.heap.size :: rest }) target → Steps p.tables e below (T.setTop g) target := by
  subst hg
  have hpl : e.platform.magicAccessors = ({} : Platform).magicAccessors := by rw [X.admits.platform]
  obtain ⟨cB, cA, kA, hfB, hkA, hkindA, hfA⟩ := hover
  obtain ⟨cB', kB, cc, hfB', hkB, hkindB⟩ := Cond.arrayClass_spec harr
  obtain rfl : cB' = cB := Option.some.inj (hfB'.symm.trans hfB)
  obtain ⟨c0, hfc0, hcl⟩ := Cond.classLink_spec hown hclink e.platform hpl
  cases hfA.symm.trans hfc0
  obtain ⟨hg1, hwarm, hready⟩ := State.classEntry (e := e) X.warmed hcl
  generalize T.vm.noted g.method.cls index (.cls cA) = vm₁ at hg1 hwarm hready
  obtain ⟨kA1, hkA1, heA⟩ := hwarm.alike.2.2 _ _ hkA
  obtain ⟨kB1, hkB1, heB⟩ := hwarm.alike.2.2 _ _ hkB
  have X1 := X.noted hwarm
  obtain ⟨r1, r2⟩ := X.roomAbove hcells hslots
  obtain ⟨L, hL, XF⟩ := gd_stand X1 cA cB' N K N
  refine ⟨vm₁, cA, cB', L, hwarm, hfA, hfB, hL, XF, fun target hrest => ?_⟩
  jvm_step X.here [hexec, hdg]
  simp only [multianewarray.sem, wp_bind', W.resolveClassAt_links (State.method?_setTop g X.here.top) hg1]
  rw [W.popN, if_neg (by decide)]
  refine ⟨g, State.topJava?_setTop' (s := T.setVm vm₁) g X.here.top, [.int n, .int k], rest, rfl, hstack, ?_⟩
  simp only [List.mapM_cons, List.mapM_nil, wp_bind', wp_pure']
  refine gd_make2 (kA := kA1) (kB := kB1) (cB := cB') (cc := cc) hkA1 (by rw [heA]; exact hkindA) hkB1 (by rw [heB]; exact hkindB) hn hk hN hK (by rw [Launch.admits_arrayLengthLimit X.admits]; omega) (by rw [Launch.admits_maxHeapBytes X.admits]; show ¬ N * 4 > 536870912; omega) (by rw [Launch.admits_arrayLengthLimit X.admits]; omega) (by rw [Launch.admits_maxHeapBytes X.admits]; show ¬ K * 4 > 536870912; omega) (by show T.heap.size + 1 + N ≤ _; omega) (by show T.slotsUsed + N + N * K ≤ _; omega) (fun d' acts' => ?_)
  have eS : ((T.setTop g).setVm vm₁).setTop { g with stack := rest } = (T.setVm vm₁).setTop { g with stack := rest } := by
    show ((T.setVm vm₁).setTop g).setTop _ = _
    rw [State.setTop_setTop]
  rw [eS, gd_top]
  simp only [wp_bind', W.mark, W.pushRef, State.topJava?_setTop' _ XF.here.top, Option.some.injEq, exists_eq_left', State.setTop_setTop, State.heap_setTop]
  intro acts
  simp [jvm, XF.here.top]
  exact hrest
end GRID
