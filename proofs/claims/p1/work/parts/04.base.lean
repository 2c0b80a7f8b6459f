/-! What the small machine's values and cells are in the machine; numbers -/
/-- where the world begins; named ints; named longs; where the text lies; whether cells may be made -/
abbrev mD : Type := Nat × (Nat → Int32) × (Nat → Int64) × Nat × Bool
abbrev mE : Type := va_G × (Nat → ClassId)
def dn (d : mD) : mV → Value
  | .inl n => .int (nI n)
  | .inr (.inl k) => .ref (d.1 + k)
  | .inr (.inr (.inl n)) => .long (lN n)
  | .inr (.inr (.inr (.inl k))) => .int (d.2.1 k)
  | .inr (.inr (.inr (.inr (.inl k)))) => .long (d.2.2.1 k)
  | .inr (.inr (.inr (.inr (.inr 0)))) => .null
  | .inr (.inr (.inr (.inr (.inr (_ + 1))))) => .ref d.2.2.2.1
theorem mm_ci_s {v : mV} {b : Bool} (d : mD) (h : mm_ci v b = true) : (∃ x : Int32, dn d v = .int x) ∧ b = true := by
  rcases v with n | n | n | n | n | n
  · exact ⟨⟨_, rfl⟩, h⟩
  · cases h
  · cases h
  · exact ⟨⟨_, rfl⟩, h⟩
  · cases h
  · cases h
theorem mm_cl_s {v : mV} {b : Bool} (d : mD) (h : mm_cl v b = true) : (∃ x : Int64, dn d v = .long x) ∧ b = true := by
  rcases v with n | n | n | n | n | n
  · cases h
  · cases h
  · exact ⟨⟨_, rfl⟩, h⟩
  · cases h
  · exact ⟨⟨_, rfl⟩, h⟩
  · cases h
theorem mm_c1_s {v : mV} {b : Bool} (d : mD) (h : mm_c1 v b = true) : (dn d v).category = 1 ∧ b = true := by
  rcases v with n | n | n | n | n | n
  · exact ⟨rfl, h⟩
  · exact ⟨rfl, h⟩
  · cases h
  · exact ⟨rfl, h⟩
  · cases h
  · cases n with
    | zero => exact ⟨rfl, h⟩
    | succ n => exact ⟨rfl, h⟩
theorem mm_t_s {b x y : Bool} (h : mm_t b x y = true) : (b = true ∧ x = true) ∨ (b = false ∧ y = true) := by
  cases b
  · exact Or.inr ⟨rfl, h⟩
  · exact Or.inl ⟨rfl, h⟩
theorem mm_f_s {n : Nat} {k : Nat → Bool} (h : mm_f n k = true) : k n = true := by rw [mm_f_eq] at h; exact h
theorem nI_md (n : Nat) : nI (Nat.mod n 4294967296) = nI n := by
  apply Int32.toBitVec_inj.1
  show BitVec.ofNat 32 (n % 4294967296) = BitVec.ofNat 32 n
  apply BitVec.eq_of_toNat_eq
  rw [BitVec.toNat_ofNat, BitVec.toNat_ofNat]
  exact Nat.mod_mod _ _
theorem nI_me (n : Nat) : nI (mm_e n) = nI n := nI_md n
theorem lN_md (n : Nat) : lN (Nat.mod n 18446744073709551616) = lN n := by
  apply Int64.toBitVec_inj.1
  show BitVec.ofNat 64 (n % 18446744073709551616) = BitVec.ofNat 64 n
  apply BitVec.eq_of_toNat_eq
  rw [BitVec.toNat_ofNat, BitVec.toNat_ofNat]
  exact Nat.mod_mod _ _
theorem nI_ti (n : Nat) : (nI n).toInt = (mm_o n : Int) - 2147483648 := by
  have h : (nI n).toInt = Int.bmod ((n % 4294967296 : Nat) : Int) (2 ^ 32) := by
    show (BitVec.ofNat 32 n).toInt = _
    rw [BitVec.toInt_eq_toNat_bmod, BitVec.toNat_ofNat]
  rw [h]
  show Int.bmod ((n % 4294967296 : Nat) : Int) (2 ^ 32) = (((n + 2147483648) % 4294967296 : Nat) : Int) - 2147483648
  rw [Int.bmod_def]
  split <;> omega
theorem mm_e_lt (n : Nat) : mm_e n < 4294967296 := Nat.mod_lt _ (by decide)
theorem nI_eqE (a b : Nat) : nI a = nI b ↔ mm_e a = mm_e b := by
  rw [← Int32.toInt_inj, nI_ti, nI_ti]
  show (((a + 2147483648) % 4294967296 : Nat) : Int) - 2147483648 = (((b + 2147483648) % 4294967296 : Nat) : Int) - 2147483648 ↔ a % 4294967296 = b % 4294967296
  omega
theorem nI_ltO (a b : Nat) : nI a < nI b ↔ mm_o a < mm_o b := by
  rw [Int32.lt_iff_toInt_lt, nI_ti, nI_ti]
  omega
theorem nI_leO (a b : Nat) : nI a ≤ nI b ↔ mm_o a ≤ mm_o b := by
  rw [Int32.le_iff_toInt_le, nI_ti, nI_ti]
  omega
theorem nI_subE (a b : Nat) : nI a - nI b = nI (Nat.mod (Nat.sub (Nat.add (mm_e a) 4294967296) (mm_e b)) 4294967296) := by
  rw [nI_md]
  show nI a - nI b = nI (mm_e a + 4294967296 - mm_e b)
  rw [← pk_sub (by have := mm_e_lt b; omega), nI_me, ← nI_add, nI_me, show nI 4294967296 = 0 from by decide, Int32.add_zero]
theorem gt_div (M k : Nat) : mm_gt M k = M / 2 ^ (32 * k) % 4294967296 := by
  show (M >>> (32 * k)) % 4294967296 = _
  rw [Nat.shiftRight_eq_div_pow]
/-- the numbers in one: what lies at a place, another being changed -/
theorem gt_key {i j : Nat} (r q w u : Nat) (hr : r < 2 ^ (32 * i)) (hw : w < 2 ^ 32) (hu : u < 2 ^ 32) (hne : j ≠ i) :
    (r + 2 ^ (32 * i) * (w + 2 ^ 32 * q)) / 2 ^ (32 * j) % 2 ^ 32 = (r + 2 ^ (32 * i) * (u + 2 ^ 32 * q)) / 2 ^ (32 * j) % 2 ^ 32 := by
  rcases Nat.lt_or_gt_of_ne hne with h | h
  · have hp : 2 ^ (32 * i) = 2 ^ (32 * j) * (2 ^ 32 * 2 ^ (32 * (i - j - 1))) := by
      rw [← Nat.pow_add, ← Nat.pow_add]
      congr 1
      omega
    have g : ∀ Y : Nat, (r + 2 ^ (32 * i) * Y) / 2 ^ (32 * j) % 2 ^ 32 = r / 2 ^ (32 * j) % 2 ^ 32 := by
      intro Y
      rw [hp, Nat.mul_assoc, Nat.add_mul_div_left _ _ (Nat.two_pow_pos _), Nat.mul_assoc, Nat.add_mul_mod_self_left]
    rw [g, g]
  · have hp : 2 ^ (32 * j) = 2 ^ (32 * i) * 2 ^ 32 * 2 ^ (32 * (j - i - 1)) := by
      rw [← Nat.pow_add, ← Nat.pow_add]
      congr 1
      omega
    have g : ∀ y : Nat, y < 2 ^ 32 → (r + 2 ^ (32 * i) * (y + 2 ^ 32 * q)) / 2 ^ (32 * j) = q / 2 ^ (32 * (j - i - 1)) := by
      intro y hy
      rw [hp, ← Nat.div_div_eq_div_mul, ← Nat.div_div_eq_div_mul, Nat.add_mul_div_left _ _ (Nat.two_pow_pos _), Nat.div_eq_of_lt hr, Nat.zero_add, Nat.add_mul_div_left _ _ (Nat.two_pow_pos _), Nat.div_eq_of_lt hy, Nat.zero_add]
    rw [g w hw, g u hu]
theorem gt_set (M i v j : Nat) : mm_gt (mm_st M i v) j = if j = i then Nat.mod v 4294967296 else mm_gt M j := by
  have hw : Nat.mod v 4294967296 < 2 ^ 32 := Nat.mod_lt _ (by decide)
  have e2 : mm_st M i v = M % 2 ^ (32 * i) + 2 ^ (32 * i) * (Nat.mod v 4294967296 + 2 ^ 32 * (M / 2 ^ (32 * i) / 2 ^ 32)) := by
    show M - (mm_gt M i) <<< (32 * i) + (Nat.mod v 4294967296) <<< (32 * i) = _
    rw [Nat.shiftLeft_eq, Nat.shiftLeft_eq, gt_div]
    generalize Nat.mod v 4294967296 = w
    have a1 := Nat.div_add_mod M (2 ^ (32 * i))
    have a2 := Nat.div_add_mod (M / 2 ^ (32 * i)) (2 ^ 32)
    generalize M / 2 ^ (32 * i) = q at *
    generalize M % 2 ^ (32 * i) = r at *
    generalize 2 ^ (32 * i) = P at *
    show M - q % 2 ^ 32 * P + w * P = _
    generalize q / 2 ^ 32 = q2 at *
    generalize q % 2 ^ 32 = r2 at *
    subst a2
    subst a1
    have t : P * (2 ^ 32 * q2 + r2) + r = (P * (2 ^ 32 * q2) + r) + r2 * P := by rw [Nat.mul_add, Nat.mul_comm P r2]; omega
    rw [t, Nat.add_sub_cancel, Nat.mul_add, Nat.mul_comm w P]
    omega
  have e3 : M = M % 2 ^ (32 * i) + 2 ^ (32 * i) * (M / 2 ^ (32 * i) % 2 ^ 32 + 2 ^ 32 * (M / 2 ^ (32 * i) / 2 ^ 32)) := by
    rw [Nat.mod_add_div, Nat.mod_add_div]
  rw [gt_div, e2]
  generalize Nat.mod v 4294967296 = w at hw
  have hr : M % 2 ^ (32 * i) < 2 ^ (32 * i) := Nat.mod_lt _ (Nat.two_pow_pos _)
  by_cases h : j = i
  · subst h
    rw [if_pos rfl, Nat.add_mul_div_left _ _ (Nat.two_pow_pos _), Nat.div_eq_of_lt hr, Nat.zero_add]
    show (w + 2 ^ 32 * _) % 2 ^ 32 = w
    rw [Nat.add_mul_mod_self_left, Nat.mod_eq_of_lt hw]
  · rw [if_neg h, gt_div]
    have k := gt_key (M % 2 ^ (32 * i)) (M / 2 ^ (32 * i) / 2 ^ 32) w (M / 2 ^ (32 * i) % 2 ^ 32) hr hw (Nat.mod_lt _ (by decide)) h
    rw [← e3] at k
    exact k
/-! locals -/
def lvo (d : mD) : Nat → mL → List (Nat × Value)
  | _, [] => []
  | i, none :: L => lvo d (i + 1) L
  | i, some v :: L => (i, dn d v) :: lvo d (i + 1) L
theorem lvo_mem {d : mD} {q : Nat × Value} : ∀ {L : mL} {i : Nat}, q ∈ lvo d i L ↔ ∃ (j : Nat) (v : mV), L[j]? = some (some v) ∧ q = (i + j, dn d v)
  | [], i => by simp [lvo]
  | none :: L, i => by
    show q ∈ lvo d (i + 1) L ↔ _
    rw [lvo_mem]
    constructor
    · rintro ⟨j, v, h, rfl⟩
      exact ⟨j + 1, v, h, by rw [show i + 1 + j = i + (j + 1) by omega]⟩
    · rintro ⟨j, v, h, rfl⟩
      cases j with
      | zero => cases h
      | succ j => exact ⟨j, v, h, by rw [show i + 1 + j = i + (j + 1) by omega]⟩
  | some w :: L, i => by
    show q ∈ (i, dn d w) :: lvo d (i + 1) L ↔ _
    rw [List.mem_cons, lvo_mem]
    constructor
    · rintro (rfl | ⟨j, v, h, rfl⟩)
      · exact ⟨0, w, rfl, rfl⟩
      · exact ⟨j + 1, v, h, by rw [show i + 1 + j = i + (j + 1) by omega]⟩
    · rintro ⟨j, v, h, rfl⟩
      cases j with
      | zero =>
        cases h
        exact Or.inl rfl
      | succ j => exact Or.inr ⟨j, v, h, by rw [show i + 1 + j = i + (j + 1) by omega]⟩
theorem lvo_get {d : mD} {ls : Array Slot} {nL i : Nat} {L : mL} {v : mV} (h : lv_has ls nL (lvo d 0 L)) (hv : L[i]? = some (some v)) : ls[i]? = some (.val (dn d v)) := by
  have := h.2.2 (0 + i, dn d v) (lvo_mem.mpr ⟨i, v, hv, rfl⟩)
  rw [Nat.zero_add] at this
  exact this
/-- a local was stored: what the ahead one is -/
theorem mm_ls_s {l : mL} {i : Nat} {v : Option mV} {k : mL → Bool} (d : mD) (h : mm_ls l i v k = true) : i < l.length ∧ k (l.set i v) = true ∧ ∀ w : mV, l[i - 1]? = some (some w) → i ≠ 0 → (dn d w).category = 1 := by
  induction l generalizing i k with
  | nil => cases h
  | cons a t ih =>
    cases i with
    | zero => exact ⟨Nat.succ_pos _, h, fun _ _ h => absurd rfl h⟩
    | succ i =>
      cases i with
      | zero =>
        have h2 : (∀ w : mV, a = some w → (dn d w).category = 1) ∧ mm_ls t 0 v (fun l => k (a :: l)) = true := by
          cases a with
          | none => exact ⟨(fun w q => by cases q), h⟩
          | some w =>
            obtain ⟨h1, h2⟩ := mm_c1_s d (v := w) h
            exact ⟨(fun w' q => by cases q; exact h1), h2⟩
        obtain ⟨g1, g2, -⟩ := ih (i := 0) (k := fun l => k (a :: l)) h2.2
        exact ⟨Nat.succ_lt_succ g1, g2, fun w hw _ => h2.1 w (Option.some.inj hw)⟩
      | succ i =>
        obtain ⟨g1, g2, g3⟩ := ih (i := i + 1) (k := fun l => k (a :: l)) h
        exact ⟨Nat.succ_lt_succ g1, g2, fun w hw _ => g3 w hw (Nat.succ_ne_zero _)⟩
theorem lvo_put {d : mD} {ls : Array Slot} {nL i : Nat} {L : mL} {v : mV} (hi : i < L.length) (ha : ∀ w : mV, L[i - 1]? = some (some w) → i ≠ 0 → (dn d w).category = 1)
    (h : lv_has ls nL ((i, dn d v) :: (lvo d 0 L).filter (fun q => !(q.1 == i) && !(q.1 + 1 == i && q.2.category == 2)))) : lv_has ls nL (lvo d 0 (L.set i (some v))) := by
  refine ⟨h.1, h.2.1, fun q hq => ?_⟩
  obtain ⟨j, w, hj, rfl⟩ := lvo_mem.mp hq
  rw [Nat.zero_add]
  by_cases e : j = i
  · subst e
    rw [List.getElem?_set_self hi] at hj
    cases hj
    exact h.2.2 (j, dn d v) List.mem_cons_self
  · rw [List.getElem?_set_ne (Ne.symm e)] at hj
    refine h.2.2 (j, dn d w) (List.mem_cons_of_mem _ (List.mem_filter.mpr ⟨lvo_mem.mpr ⟨j, w, hj, by rw [Nat.zero_add]⟩, ?_⟩))
    have e1 : (j == i) = false := by simpa using e
    by_cases e2 : j + 1 = i
    · have hc := ha w (by rw [show i - 1 = j by omega]; exact hj) (by omega)
      simp [e, hc]
    · simp [e, e2]
theorem lvo_put2 {d : mD} {ls : Array Slot} {nL i : Nat} {L : mL} {v : mV} (hi : i + 1 < L.length) (ha : ∀ w : mV, L[i - 1]? = some (some w) → i ≠ 0 → (dn d w).category = 1)
    (h : lv_has ls nL ((i, dn d v) :: (lvo d 0 L).filter (fun q => !(q.1 == i) && (!(q.1 == i + 1) && !(q.1 + 1 == i && q.2.category == 2))))) : lv_has ls nL (lvo d 0 ((L.set i (some v)).set (i + 1) none)) := by
  refine ⟨h.1, h.2.1, fun q hq => ?_⟩
  obtain ⟨j, w, hj, rfl⟩ := lvo_mem.mp hq
  rw [Nat.zero_add]
  by_cases e0 : j = i + 1
  · subst e0
    rw [List.getElem?_set_self (by rw [List.length_set]; exact hi)] at hj
    cases hj
  rw [List.getElem?_set_ne (Ne.symm e0)] at hj
  by_cases e : j = i
  · subst e
    rw [List.getElem?_set_self (by omega)] at hj
    cases hj
    exact h.2.2 (j, dn d v) List.mem_cons_self
  · rw [List.getElem?_set_ne (Ne.symm e)] at hj
    refine h.2.2 (j, dn d w) (List.mem_cons_of_mem _ (List.mem_filter.mpr ⟨lvo_mem.mpr ⟨j, w, hj, by rw [Nat.zero_add]⟩, ?_⟩))
    by_cases e2 : j + 1 = i
    · have hc := ha w (by rw [show i - 1 = j by omega]; exact hj) (by omega)
      simp [e, e0, hc]
    · simp [e, e0, e2]
/-! cells -/
def rf (d : mD) : Option mV → Option Nat
  | some (.inr (.inl k)) => some (d.1 + k)
  | _ => none
def ce (d : mD) (ca : Nat → ClassId) : mC → va_E
  | .inl (ty, n, M) => .inl (ca ty, n, .inl (fun j => nI (mm_gt M j)))
  | .inr (.inl (ci, fs)) => .inr (ci, fs.map (dn d))
  | .inr (.inr (ty, es)) => .inl (ca ty, es.length, .inr (.inr (.inr (.inr (fun j => rf d es[j]?)))))
def wo (d : mD) (ca : Nat → ClassId) : Nat → List mC → va_W
  | _, [] => []
  | b, c :: t => (b, ce d ca c) :: wo d ca (b + 1) t
theorem wo_get {d : mD} {ca : Nat → ClassId} : ∀ {hp : List mC} {b k : Nat}, (wo d ca b hp)[k]? = (hp[k]?).map (fun c => (b + k, ce d ca c))
  | [], b, k => by simp [wo]
  | c :: t, b, 0 => rfl
  | c :: t, b, k + 1 => by
    show (wo d ca (b + 1) t)[k]? = (t[k]?).map _
    rw [wo_get, show b + 1 + k = b + (k + 1) by omega]
theorem wo_at {d : mD} {ca : Nat → ClassId} {hp : List mC} {b k : Nat} {c : mC} (h : hp[k]? = some c) : (wo d ca b hp)[k]? = some (b + k, ce d ca c) := by rw [wo_get, h]; rfl
theorem wo_set {d : mD} {ca : Nat → ClassId} {c : mC} : ∀ {hp : List mC} {b k : Nat}, wo d ca b (hp.set k c) = (wo d ca b hp).set k (b + k, ce d ca c)
  | [], b, k => rfl
  | _ :: t, b, 0 => rfl
  | c0 :: t, b, k + 1 => by
    show (b, ce d ca c0) :: wo d ca (b + 1) (t.set k c) = (b, ce d ca c0) :: (wo d ca (b + 1) t).set k _
    rw [wo_set, show b + 1 + k = b + (k + 1) by omega]
theorem wo_app {d : mD} {ca : Nat → ClassId} {w : List mC} : ∀ {hp : List mC} {b : Nat}, wo d ca b (hp ++ w) = wo d ca b hp ++ wo d ca (b + hp.length) w
  | [], b => rfl
  | c :: t, b => by
    show (b, ce d ca c) :: wo d ca (b + 1) (t ++ w) = (b, ce d ca c) :: (wo d ca (b + 1) t ++ _)
    rw [wo_app, List.length_cons, show b + 1 + t.length = b + (t.length + 1) by omega]
theorem wo_D {d : mD} {ca : Nat → ClassId} {hp : List mC} : va_D (fun q => d.1 ≤ q) (wo d ca d.1 hp) := by
  refine ⟨fun i j x y hi hj hxy => ?_, fun k q hk => ?_⟩
  · rw [wo_get] at hi hj
    obtain ⟨c1, -, rfl⟩ := Option.map_eq_some_iff.mp hi
    obtain ⟨c2, -, rfl⟩ := Option.map_eq_some_iff.mp hj
    have : d.1 + i = d.1 + j := hxy
    omega
  · rw [wo_get] at hk
    obtain ⟨c1, -, rfl⟩ := Option.map_eq_some_iff.mp hk
    exact Nat.le_add_right _ _
/-- the classes of the worlds -/
abbrev xcl : List vw_C := [(RX0, TX0, 13), (RX1, TX1, 2), (RX2, TX2, 3), (RX3, TX3, 1), (RX4, TX4, 2), (RX5, TX5, 4), (RX6, TX6, 6), (RX7, TX7, 11), (RX8, TX8, 28)]
def xty : Nat → FieldType
  | 0 => .int
  | 1 => .char
  | 2 => .object "RudeCoupons$Standing"
  | 3 => .object "RudeCoupons$Letters"
  | _ => .array .int
def xtys (ca : Nat → ClassId) : List (ClassId × FieldType) := [(ca 0, .int), (ca 1, .char), (ca 2, .object "RudeCoupons$Standing"), (ca 3, .object "RudeCoupons$Letters"), (ca 4, .array .int)]
theorem xtys_at (ca : Nat → ClassId) {ty : Nat} (h : ty ≤ 4) : (xtys ca)[ty]? = some (ca ty, xty ty) := by
  rcases ty with _ | _ | _ | _ | _ | ty
  · rfl
  · rfl
  · rfl
  · rfl
  · rfl
  · omega
/-- the heap holds the world -/
def HR (d : mD) (E : mE) (s : State) (R : Room) (h : mH) (H : Heap) (locs : List Loc) (cells slots : Nat) : Prop :=
  va_P E.1 xcl (wo d E.2 d.1 h.2.2.2) H ∧ va_S (fun q => d.1 ≤ q) s.heap H locs ∧ (h.1 = d.2.2.2.2 ∧ (h.1 = true → s.heap.size + h.2.1 = d.1 + h.2.2.2.length)) ∧ cells = h.2.1 ∧ slots = h.2.2.1 ∧ h.2.1 ≤ R.cells ∧ h.2.2.1 ≤ R.slots
def OKs (p : Program) (l : Launch) (e : Env) (R : Room) (s : State) (m : MethodId) (args : Array Value) (below : List Frame) (meth : Method) (c : Code) (Q : State → Prop) (d : mD) (E : mE) (nL pc : Nat) (L : mL) (S : List mV) (h : mH) : Prop :=
  ∀ (ls : Array Slot) (H : Heap) (locs : List Loc) (cells slots : Nat), lv_has ls nL (lvo d 0 L) → HR d E s R h H locs cells slots → W p l e R s m args below meth c H locs cells slots Q (F0 m pc ls (S.map (dn d)))
def HS (OK : Nat → mL → List mV → mH → Prop) (F : mF) (cO : mA → Prop) (kO : mK → Prop) (pcs : Nat → Nat) (pc : Nat) (i : mI) (pc' : Nat) : Prop :=
  ∀ (call : mA) (j : Nat → mN) (K : mK) (nx : mN) (L : mL) (S : List mV) (h : mH), cO call → (∀ b L S h, j b L S h = true → OK (pcs b) L S h) → kO K → (∀ L S h, nx L S h = true → OK pc' L S h) → i F call j K nx L S h = true → OK pc L S h
/-- the facts of named numbers -/
def cmpP (c : Nat) (x y : Int32) : Prop := match c with
  | 0 => x = y
  | 1 => ¬ x = y
  | 2 => x < y
  | 3 => y ≤ x
  | 4 => y < x
  | _ => x ≤ y
def fsem (op : Nat) (a b r : Value) : Prop := match op with
  | 1 => ∃ x y : Int32, a = .int x ∧ b = .int y ∧ r = .int (x * y)
  | 2 => ∃ x : Int32, a = .int x ∧ r = .long x.toInt64
  | 3 => ∃ x y : Int64, a = .long x ∧ b = .long y ∧ r = .long (x * y)
  | 4 => ∃ x y : Int64, a = .long x ∧ b = .long y ∧ r = .long (x + y)
  | 5 => ∃ x y : Int64, a = .long x ∧ b = .long y ∧ ¬ y = 0 ∧ r = .long (x - x / y * y)
  | 6 => ∃ x y : Int64, a = .long x ∧ b = .long y ∧ ¬ y = 0 ∧ r = .long (x / y)
  | 7 => ∃ x : Int64, a = .long x ∧ r = .int x.toInt32
  | 8 => ∃ x y : Int32, a = .int x ∧ b = .int y ∧ ¬ y = 0 ∧ r = .int (x - x / y * y)
  | 9 => ∃ x y : Int64, a = .long x ∧ b = .long y ∧ r = .int (lg_cmp x y)
  | n => ∃ x y : Int32, a = .int x ∧ b = .int y ∧ ((cmpP (n - 10) x y ∧ r = .int 1) ∨ (¬ cmpP (n - 10) x y ∧ r = .int 0))
def FOK (d : mD) (F : mF) : Prop := ∀ q ∈ F, fsem q.1 (dn d q.2.1) (dn d q.2.2.1) (dn d q.2.2.2) ∧ (10 ≤ q.1 → q.2.2.2 = .inl 0 ∨ q.2.2.2 = .inl 1)
theorem mm_q_s {d : mD} {v w : mV} (h : mm_q v w = true) : dn d v = dn d w := by
  rcases v with a | a | a | a | a | a <;> rcases w with b | b | b | b | b | b <;> first | (cases h; done) | skip
  · have e : mm_e a = mm_e b := Nat.eq_of_beq_eq_true h
    show Value.int _ = Value.int _
    rw [(nI_eqE a b).mpr e]
  · have e : a = b := Nat.eq_of_beq_eq_true h
    rw [e]
  · have e : a = b := Nat.eq_of_beq_eq_true h
    rw [e]
  · have e : a = b := Nat.eq_of_beq_eq_true h
    rw [e]
  · have e : a = b := Nat.eq_of_beq_eq_true h
    rw [e]
  · have e : a = b := Nat.eq_of_beq_eq_true h
    rw [e]
theorem mm_k_s {d : mD} {F : mF} {op : Nat} {a b : mV} {k : mV → Bool} (hF : FOK d F) (h : mm_k F op a b k = true) : ∃ r, fsem op (dn d a) (dn d b) (dn d r) ∧ (10 ≤ op → r = .inl 0 ∨ r = .inl 1) ∧ k r = true := by
  induction F with
  | nil => cases h
  | cons q F ih =>
    rcases mm_t_s h with ⟨h1, h2⟩ | ⟨-, h2⟩
    · rcases mm_t_s h1 with ⟨g1, g2⟩ | ⟨-, g2⟩
      · rcases mm_t_s g2 with ⟨g3, g4⟩ | ⟨-, g4⟩
        · have e1 : q.1 = op := Nat.eq_of_beq_eq_true g1
          have hq := hF q List.mem_cons_self
          rw [mm_q_s g3, mm_q_s g4, e1] at hq
          exact ⟨_, hq.1, hq.2, h2⟩
        · cases g4
      · cases g2
    · exact ih (fun q hq => hF q (List.mem_cons_of_mem _ hq)) h2
theorem beq_iff (a b : Nat) : Nat.beq a b = true ↔ a = b := ⟨Nat.eq_of_beq_eq_true, fun h => by rw [h]; exact Nat.beq_refl b⟩
theorem mm_cmp_t (c a b : Nat) : mm_cmp c a b = true ↔ cmpP c (nI a) (nI b) := by
  rcases c with _ | _ | _ | _ | _ | c
  · exact (beq_iff _ _).trans (nI_eqE a b).symm
  · show (!(Nat.beq (mm_e a) (mm_e b))) = true ↔ ¬ nI a = nI b
    rw [nI_eqE, Bool.not_eq_true', ← Bool.not_eq_true, beq_iff]
  · show Nat.blt (mm_o a) (mm_o b) = true ↔ nI a < nI b
    rw [nI_ltO, Nat.blt_eq]
  · show Nat.ble (mm_o b) (mm_o a) = true ↔ nI b ≤ nI a
    rw [nI_leO, Nat.ble_eq]
  · show Nat.blt (mm_o b) (mm_o a) = true ↔ nI b < nI a
    rw [nI_ltO, Nat.blt_eq]
  · show Nat.ble (mm_o a) (mm_o b) = true ↔ nI a ≤ nI b
    rw [nI_leO, Nat.ble_eq]
theorem nx_and (a b : Nat) : nI a &&& nI b = nI (a &&& b) := by
  apply Int32.toBitVec_inj.1
  show BitVec.ofNat 32 a &&& BitVec.ofNat 32 b = BitVec.ofNat 32 (a &&& b)
  apply BitVec.eq_of_getLsbD_eq
  intro i hi
  simp [hi, Nat.testBit_and]
theorem nx_or9 (a b : Nat) : nI a ||| nI b = nI (a ||| b) := by
  apply Int32.toBitVec_inj.1
  show BitVec.ofNat 32 a ||| BitVec.ofNat 32 b = BitVec.ofNat 32 (a ||| b)
  apply BitVec.eq_of_getLsbD_eq
  intro i hi
  simp [hi, Nat.testBit_or]
theorem nx_xor9 (a b : Nat) : nI a ^^^ nI b = nI (a ^^^ b) := by
  apply Int32.toBitVec_inj.1
  show BitVec.ofNat 32 a ^^^ BitVec.ofNat 32 b = BitVec.ofNat 32 (a ^^^ b)
  apply BitVec.eq_of_getLsbD_eq
  intro i hi
  simp [hi, Nat.testBit_xor]
