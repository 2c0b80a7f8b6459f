/-! RUNS: the two objects as their constructors leave them -/
def qv : mV → mV → Bool
  | .inl a, .inl b => Nat.beq a b
  | .inr (.inl a), .inr (.inl b) => Nat.beq a b
  | .inr (.inr (.inl a)), .inr (.inr (.inl b)) => Nat.beq a b
  | .inr (.inr (.inr (.inl a))), .inr (.inr (.inr (.inl b))) => Nat.beq a b
  | .inr (.inr (.inr (.inr (.inl a)))), .inr (.inr (.inr (.inr (.inl b)))) => Nat.beq a b
  | .inr (.inr (.inr (.inr (.inr a)))), .inr (.inr (.inr (.inr (.inr b)))) => Nat.beq a b
  | _, _ => false
theorem qv_s {a b : mV} (h : qv a b = true) : a = b := by
  rcases a with a | a | a | a | a | a <;> rcases b with b | b | b | b | b | b <;> first | (cases h; done) | (have e : a = b := Nat.eq_of_beq_eq_true h; rw [e])
def ql {α : Type} (q : α → α → Bool) : List α → List α → Bool
  | [], [] => true
  | a :: l, b :: r => mm_t2 (q a b) (ql q l r)
  | _, _ => false
where mm_t2 : Bool → Bool → Bool
  | true, b => b
  | false, _ => false
theorem ql_s {α : Type} {q : α → α → Bool} (hq : ∀ a b, q a b = true → a = b) : ∀ {l r : List α}, ql q l r = true → l = r
  | [], [], _ => rfl
  | [], _ :: _, h => by cases h
  | _ :: _, [], h => by cases h
  | a :: l, b :: r, h => by
    have h1 : q a b = true ∧ ql q l r = true := by
      unfold ql at h
      cases hab : q a b with
      | false => rw [hab] at h; cases h
      | true => rw [hab] at h; exact ⟨rfl, h⟩
    rw [hq a b h1.1, ql_s hq h1.2]
def qo : Option mV → Option mV → Bool
  | none, none => true
  | some a, some b => qv a b
  | _, _ => false
theorem qo_s {a b : Option mV} (h : qo a b = true) : a = b := by
  cases a <;> cases b <;> first | rfl | (cases h; done) | (rw [qv_s h])
def qc : mC → mC → Bool
  | .inl (a, b, c), .inl (x, y, z) => mm_t3 (Nat.beq a x) (mm_t3 (Nat.beq b y) (Nat.beq c z))
  | .inr (.inl (a, f)), .inr (.inl (x, g)) => mm_t3 (Nat.beq a x) (ql qv f g)
  | .inr (.inr (a, f)), .inr (.inr (x, g)) => mm_t3 (Nat.beq a x) (ql qv f g)
  | _, _ => false
where mm_t3 : Bool → Bool → Bool
  | true, b => b
  | false, _ => false
theorem t3_s {a b : Bool} (h : qc.mm_t3 a b = true) : a = true ∧ b = true := by
  cases a
  · cases h
  · exact ⟨rfl, h⟩
theorem qc_s {a b : mC} (h : qc a b = true) : a = b := by
  rcases a with ⟨a, b1, c⟩ | ⟨a, f⟩ | ⟨a, f⟩ <;> rcases b with ⟨x, y, z⟩ | ⟨x, g⟩ | ⟨x, g⟩ <;> first | (cases h; done) | skip
  · obtain ⟨h1, h2⟩ := t3_s h
    obtain ⟨h2, h3⟩ := t3_s h2
    rw [beq_s h1, beq_s h2, beq_s h3]
  · obtain ⟨h1, h2⟩ := t3_s h
    rw [beq_s h1, ql_s (fun _ _ => qv_s) h2]
  · obtain ⟨h1, h2⟩ := t3_s h
    rw [beq_s h1, ql_s (fun _ _ => qv_s) h2]
/-- an answer, and nothing asked of the cells; the cells, and no answer -/
noncomputable def rN (n : Nat) : mK := fun v _ => Option.rec (motive := fun _ => Bool) false (fun v => mm_q v (.inl n)) v
noncomputable def rH (hp0 : List mC) : mK := fun v hp => Option.rec (motive := fun _ => Bool) (ql qc hp hp0) (fun _ => false) v
theorem rN_s {n : Nat} {v : Option mV} {hp : List mC} (h : rN n v hp = true) (d : mD) : v.map (dn d) = some (.int (nI n)) := by
  cases v with
  | none => cases h
  | some v => exact congrArg some (mm_q_s (d := d) h)
theorem rH_s {hp0 : List mC} {v : Option mV} {hp : List mC} (h : rH hp0 v hp = true) : v = none ∧ hp = hp0 := by
  cases v with
  | none => exact ⟨rfl, ql_s (fun _ _ => qc_s) h⟩
  | some v => cases h
def hC0 : List mC := [.inr (.inl (7, [.inr (.inr (.inr (.inr (.inr 0)))), .inr (.inr (.inr (.inr (.inr 0)))), .inr (.inr (.inr (.inr (.inr 0)))), .inr (.inr (.inr (.inr (.inr 0)))), .inr (.inr (.inr (.inr (.inr 0)))), .inr (.inr (.inr (.inr (.inr 0)))), .inr (.inr (.inr (.inr (.inr 0)))), .inr (.inr (.inr (.inr (.inr 0)))), .inr (.inr (.inr (.inr (.inr 0)))), .inr (.inr (.inr (.inr (.inr 0)))), .inr (.inr (.inr (.inr (.inr 0))))]))]
def hM0 : List mC := [.inr (.inl (8, [.inl 0, .inr (.inr (.inr (.inr (.inr 0)))), .inl 0, .inr (.inr (.inr (.inr (.inr 0)))), .inl 0, .inr (.inr (.inr (.inr (.inr 0)))), .inr (.inr (.inr (.inr (.inr 0)))), .inr (.inr (.inr (.inr (.inr 0)))), .inl 0, .inr (.inr (.inr (.inr (.inr 0)))), .inl 0, .inr (.inr (.inr (.inr (.inr 0)))), .inl 0, .inr (.inr (.inr (.inr (.inr 0)))), .inr (.inr (.inr (.inr (.inr 0)))), .inl 0, .inl 0, .inr (.inr (.inr (.inr (.inr 0)))), .inl 0, .inr (.inr (.inr (.inr (.inr 0)))), .inl 0, .inr (.inr (.inr (.inr (.inr 0)))), .inl 0, .inr (.inr (.inr (.inr (.inr 0)))), .inl 0, .inr (.inr (.inr (.inr (.inr 0)))), .inr (.inr (.inr (.inr (.inr 0)))), .inr (.inr (.inr (.inr (.inr 0))))]))]
def hC : List mC := [.inr (.inl (7, [.inr (.inl 1), .inr (.inl 3), .inr (.inl 5), .inr (.inl 10), .inr (.inl 52), .inr (.inl 64), .inr (.inl 65), .inr (.inl 69), .inr (.inl 92), .inr (.inl 104), .inr (.inl 93)])),
  .inr (.inl (1, [.inr (.inl 2), .inl 0])),
  .inl (1, 200, 4595750799627909672895520109817179342376910322941544273845931433050619076453403390199923514579632973730648103941087199589719334166584047005148219747440939429357122888725197889420551022058628651995139922667679602019853701631522616296360840175558409618305081887310940247103096355603811346425153542209269514180863274744953868515844730742659602088876805283548568158206127385477212502060804866955421013096404139520618322538853857370565067740264283602208356887905066544067547436824273305420638241533936858749131596351649228213674411004728089194779899736407772317904899000893332634900768420076290611398481387074372847323858216703883409165659828285499011938414992594606395996209417999734794909456250554492027923359904184875981191611040426807496736876147951679039615724226806702817115505189261272920190165324683867489518199310023352751018763658496478932757598029900547908416946733373157311672858540516128664485308858512226545391387548171225875842580893338782529070825766963177473476414536893793300676524912119842320723638801065819895778861837025932762073127234796628336450485027266870902896),
  .inr (.inl (3, [.inr (.inl 4)])),
  .inl (0, 3, 18446744073709551623),
  .inr (.inl (6, [.inl 0, .inl 0, .inr (.inl 6), .inr (.inl 7), .inr (.inl 8), .inr (.inl 9)])),
  .inl (0, 6, 237684487561239756875816239108),
  .inl (0, 6, 0),
  .inl (0, 6, 0),
  .inl (0, 6, 0),
  .inr (.inl (4, [.inr (.inl 11), .inl 0])),
  .inr (.inr (2, [.inr (.inl 12), .inr (.inl 17), .inr (.inl 22), .inr (.inl 27), .inr (.inl 32), .inr (.inl 37), .inr (.inl 42), .inr (.inl 47)])),
  .inr (.inl (6, [.inl 0, .inl 0, .inr (.inl 13), .inr (.inl 14), .inr (.inl 15), .inr (.inl 16)])),
  .inl (0, 6, 0),
  .inl (0, 6, 0),
  .inl (0, 6, 0),
  .inl (0, 6, 0),
  .inr (.inl (6, [.inl 0, .inl 0, .inr (.inl 18), .inr (.inl 19), .inr (.inl 20), .inr (.inl 21)])),
  .inl (0, 6, 0),
  .inl (0, 6, 0),
  .inl (0, 6, 0),
  .inl (0, 6, 0),
  .inr (.inl (6, [.inl 0, .inl 0, .inr (.inl 23), .inr (.inl 24), .inr (.inl 25), .inr (.inl 26)])),
  .inl (0, 6, 0),
  .inl (0, 6, 0),
  .inl (0, 6, 0),
  .inl (0, 6, 0),
  .inr (.inl (6, [.inl 0, .inl 0, .inr (.inl 28), .inr (.inl 29), .inr (.inl 30), .inr (.inl 31)])),
  .inl (0, 6, 0),
  .inl (0, 6, 0),
  .inl (0, 6, 0),
  .inl (0, 6, 0),
  .inr (.inl (6, [.inl 0, .inl 0, .inr (.inl 33), .inr (.inl 34), .inr (.inl 35), .inr (.inl 36)])),
  .inl (0, 6, 0),
  .inl (0, 6, 0),
  .inl (0, 6, 0),
  .inl (0, 6, 0),
  .inr (.inl (6, [.inl 0, .inl 0, .inr (.inl 38), .inr (.inl 39), .inr (.inl 40), .inr (.inl 41)])),
  .inl (0, 6, 0),
  .inl (0, 6, 0),
  .inl (0, 6, 0),
  .inl (0, 6, 0),
  .inr (.inl (6, [.inl 0, .inl 0, .inr (.inl 43), .inr (.inl 44), .inr (.inl 45), .inr (.inl 46)])),
  .inl (0, 6, 0),
  .inl (0, 6, 0),
  .inl (0, 6, 0),
  .inl (0, 6, 0),
  .inr (.inl (6, [.inl 0, .inl 0, .inr (.inl 48), .inr (.inl 49), .inr (.inl 50), .inr (.inl 51)])),
  .inl (0, 6, 0),
  .inl (0, 6, 0),
  .inl (0, 6, 0),
  .inl (0, 6, 0),
  .inr (.inl (4, [.inr (.inl 53), .inl 0])),
  .inr (.inr (2, [.inr (.inl 54), .inr (.inl 59)])),
  .inr (.inl (6, [.inl 0, .inl 0, .inr (.inl 55), .inr (.inl 56), .inr (.inl 57), .inr (.inl 58)])),
  .inl (0, 6, 0),
  .inl (0, 6, 0),
  .inl (0, 6, 0),
  .inl (0, 6, 0),
  .inr (.inl (6, [.inl 0, .inl 0, .inr (.inl 60), .inr (.inl 61), .inr (.inl 62), .inr (.inl 63)])),
  .inl (0, 6, 0),
  .inl (0, 6, 0),
  .inl (0, 6, 0),
  .inl (0, 6, 0),
  .inr (.inr (3, [.inr (.inl 115), .inr (.inl 117)])),
  .inr (.inl (5, [.inr (.inl 66), .inr (.inl 67), .inr (.inl 68), .inl 0])),
  .inl (0, 8, 0),
  .inl (0, 8, 0),
  .inl (0, 8, 0),
  .inr (.inl (2, [.inr (.inl 70), .inr (.inl 77), .inr (.inl 84)])),
  .inr (.inr (4, [.inr (.inl 71), .inr (.inl 72), .inr (.inl 73), .inr (.inl 74), .inr (.inl 75), .inr (.inl 76)])),
  .inl (0, 16, 0),
  .inl (0, 16, 0),
  .inl (0, 16, 0),
  .inl (0, 16, 0),
  .inl (0, 16, 0),
  .inl (0, 16, 0),
  .inr (.inr (4, [.inr (.inl 78), .inr (.inl 79), .inr (.inl 80), .inr (.inl 81), .inr (.inl 82), .inr (.inl 83)])),
  .inl (0, 16, 0),
  .inl (0, 16, 0),
  .inl (0, 16, 0),
  .inl (0, 16, 0),
  .inl (0, 16, 0),
  .inl (0, 16, 0),
  .inr (.inr (4, [.inr (.inl 85), .inr (.inl 86), .inr (.inl 87), .inr (.inl 88), .inr (.inl 89), .inr (.inl 90), .inr (.inl 91)])),
  .inl (0, 91, 0),
  .inl (0, 91, 0),
  .inl (0, 91, 0),
  .inl (0, 91, 0),
  .inl (0, 91, 0),
  .inl (0, 91, 0),
  .inl (0, 91, 0),
  .inl (0, 6, 0),
  .inr (.inl (0, [.inl 0, .inr (.inl 94), .inr (.inl 95), .inr (.inl 96), .inl 0, .inr (.inl 97), .inr (.inl 98), .inr (.inl 99), .inl 0, .inr (.inl 100), .inr (.inl 101), .inr (.inl 102), .inr (.inl 103)])),
  .inl (0, 6, 0),
  .inl (0, 6, 0),
  .inl (0, 6, 0),
  .inl (0, 6, 0),
  .inl (0, 6, 0),
  .inl (0, 6, 0),
  .inl (0, 10, 0),
  .inl (0, 10, 0),
  .inl (0, 10, 0),
  .inl (0, 10, 0),
  .inr (.inl (0, [.inl 4, .inr (.inl 105), .inr (.inl 106), .inr (.inl 107), .inl 3, .inr (.inl 108), .inr (.inl 109), .inr (.inl 110), .inl 9, .inr (.inl 111), .inr (.inl 112), .inr (.inl 113), .inr (.inl 114)])),
  .inl (0, 6, 237684487579686500932345921536),
  .inl (0, 6, 237684487561239756875816239108),
  .inl (0, 6, 158456325120762395555635658755),
  .inl (0, 6, 258254417049113591817),
  .inl (0, 6, 55340232225423622146),
  .inl (0, 6, 110680464446552276996),
  .inl (0, 10, 810544624822973047993009140776210175100695293167873491522158176040053834252288),
  .inl (0, 10, 80879840007729021119387726025915528545040371399161172129330967347200),
  .inl (0, 10, 115792089264276142090721624806277926214951421175843534452477697947589402427393),
  .inl (0, 10, 926336714087249190096284969051799961206327672638770384275073412126753597423616),
  .inr (.inl (1, [.inr (.inl 116), .inl 0])),
  .inl (1, 200, 0),
  .inr (.inl (1, [.inr (.inl 118), .inl 0])),
  .inl (1, 200, 0)]
def hM : List mC := [.inr (.inl (8, [.inl 4, .inr (.inl 1), .inl 3, .inr (.inl 2), .inl 9, .inr (.inl 3), .inr (.inl 4), .inr (.inl 5), .inl 0, .inr (.inl 6), .inl 0, .inr (.inl 7), .inl 0, .inr (.inl 8), .inr (.inl 9), .inl 0, .inl 0, .inr (.inl 10), .inl 4, .inr (.inl 11), .inl 3, .inr (.inl 12), .inl 9, .inr (.inl 13), .inl 0, .inr (.inl 14), .inr (.inl 15), .inr (.inl 16)])),
  .inl (0, 18, 18347988934328533202141267119410081017560863925392384845580917393211293529178868790513468247004079900852224),
  .inl (0, 18, 694752535504777012630757253733003524712051037225103683276110699667051396464649),
  .inl (0, 30, 28638903918474961215286410580141274823731733954409551475845187921502970445609948865534549056561020909614793107404121110215570448847524855189801063173391792560788631391553120962292856743718218055267068621124801643809324085820763598470395210793427664896),
  .inl (0, 10, 926336714087249190096284969051799961206327672638770384275073412126753597423616),
  .inl (0, 26, 3614737867988140140538554411652400150004689561900550900284354473577779970875153445897496290243735803423826666251535207137510152409198829514406453624619711410151183168204950132347621880627614731438442009625216993248894966038528),
  .inl (0, 208, 0),
  .inl (0, 52, 0),
  .inl (0, 24, 0),
  .inl (0, 200, 0),
  .inl (0, 3, 0),
  .inl (0, 18, 18347988934328533202141267119410081017560863925392384845580917393211293529178868790513468247004079900852224),
  .inl (0, 18, 694752535504777012630757253733003524712051037225103683276110699667051396464649),
  .inl (0, 30, 28638903918474961215286410580141274823731733954409551475845187921502970445609948865534549056561020909614793107404121110215570448847524855189801063173391792560788631391553120962292856743718218055267068621124801643809324085820763598470395210793427664896),
  .inl (0, 96, 0),
  .inl (0, 637, 0),
  .inl (0, 6, 0)]
theorem run_M : ed [] rc nl 4 94 [.inr (.inl 0)] true hM0 (rH hM) = true := by decide +kernel
theorem run_C : ed [] rc nl 9 58 [.inr (.inl 0)] true hC0 (rH hC) = true := by decide +kernel
