/-! RUNS of one call on each object, by kinds of arguments: class and reference answer alike -/
noncomputable def al (n : Nat) (f : Nat → Bool) : Bool := Nat.rec (motive := fun _ => Bool) true (fun j ih => mm_b (f j) ih) n
theorem al_s {n : Nat} {f : Nat → Bool} (h : al n f = true) : ∀ j, j < n → f j = true := by
  induction n with
  | zero => exact fun j hj => absurd hj (Nat.not_lt_zero _)
  | succ n ih =>
    obtain ⟨h1, h2⟩ := mm_b_s h
    intro j hj
    by_cases e : j = n
    · rw [e]; exact h1
    · exact ih h2 j (by omega)
/-- the reference's cells as they lie behind the class's, and that they stay -/
def hX : List mC := [.inr (.inl (8, [.inl 4, .inr (.inl 120), .inl 3, .inr (.inl 121), .inl 9, .inr (.inl 122), .inr (.inl 123), .inr (.inl 124), .inl 0, .inr (.inl 125), .inl 0, .inr (.inl 126), .inl 0, .inr (.inl 127), .inr (.inl 128), .inl 0, .inl 0, .inr (.inl 129), .inl 4, .inr (.inl 130), .inl 3, .inr (.inl 131), .inl 9, .inr (.inl 132), .inl 0, .inr (.inl 133), .inr (.inl 134), .inr (.inl 135)])),
  .inl (0, 18, 18347988934328533202141267119410081017560863925392384845580917393211293529178868790513468247004079900852224),
  .inl (0, 18, 694752535504777012630757253733003524712051037225103683276110699667051396464649),
  .inl (0, 30, 28638903918474961215286410580141274823731733954409551475845187921502970445609948865534549056561020909614793107404121110215570448847524855189801063173391792560788631391553120962292856743718218055267068621124801643809324085820763598470395210793427664896),
  .inl (0, 10, 926336714087249190096284969051799961206327672638770384275073412126753597423616),
  .inl (0, 26, 3614737867988140140538554411652400150004689561900550900284354473577779970875153445897496290243735803423826666251535207137510152409198829514406453624619711410151183168204950132347621880627614731438442009625216993248894966038528),
  .inl (0, 208, 0),
  .inl (0, 52, 0),
  .inl (0, 24, 0),
  .inl (0, 200, 0),
  .inl (0, 3, 0),
  .inl (0, 18, 18347988934328533202141267119410081017560863925392384845580917393211293529178868790513468247004079900852224),
  .inl (0, 18, 694752535504777012630757253733003524712051037225103683276110699667051396464649),
  .inl (0, 30, 28638903918474961215286410580141274823731733954409551475845187921502970445609948865534549056561020909614793107404121110215570448847524855189801063173391792560788631391553120962292856743718218055267068621124801643809324085820763598470395210793427664896),
  .inl (0, 96, 0),
  .inl (0, 637, 0),
  .inl (0, 6, 0)]
def hCX : List mC := [.inr (.inl (7, [.inr (.inl 1), .inr (.inl 3), .inr (.inl 5), .inr (.inl 10), .inr (.inl 52), .inr (.inl 64), .inr (.inl 65), .inr (.inl 69), .inr (.inl 92), .inr (.inl 104), .inr (.inl 93)])),
  .inr (.inl (1, [.inr (.inl 2), .inl 0])),
  .inl (1, 200, 4595750799627909672895520109817179342376910322941544273845931433050619076453403390199923514579632973730648103941087199589719334166584047005148219747440939429357122888725197889420551022058628651995139922667679602019853701631522616296360840175558409618305081887310940247103096355603811346425153542209269514180863274744953868515844730742659602088876805283548568158206127385477212502060804866955421013096404139520618322538853857370565067740264283602208356887905066544067547436824273305420638241533936858749131596351649228213674411004728089194779899736407772317904899000893332634900768420076290611398481387074372847323858216703883409165659828285499011938414992594606395996209417999734794909456250554492027923359904184875981191611040426807496736876147951679039615724226806702817115505189261272920190165324683867489518199310023352751018763658496478932757598029900547908416946733373157311672858540516128664485308858512226545391387548171225875842580893338782529070825766963177473476414536893793300676524912119842320723638801065819895778861837025932762073127234796628336450485027266870902896),
  .inr (.inl (3, [.inr (.inl 4)])),
  .inl (0, 3, 18446744073709551623),
  .inr (.inl (6, [.inl 0, .inl 0, .inr (.inl 6), .inr (.inl 7), .inr (.inl 8), .inr (.inl 9)])),
  .inl (0, 6, 237684487561239756875816239108),
  .inl (0, 6, 0),
  .inl (0, 6, 0),
  .inl (0, 6, 0),
  .inr (.inl (4, [.inr (.inl 11), .inl 0])),
  .inr (.inr (2, [.inr (.inl 12), .inr (.inl 17), .inr (.inl 22), .inr (.inl 27), .inr (.inl 32), .inr (.inl 37), .inr (.inl 42), .inr (.inl 47)])),
  .inr (.inl (6, [.inl 0, .inl 0, .inr (.inl 13), .inr (.inl 14), .inr (.inl 15), .inr (.inl 16)])),
  .inl (0, 6, 0),
  .inl (0, 6, 0),
  .inl (0, 6, 0),
  .inl (0, 6, 0),
  .inr (.inl (6, [.inl 0, .inl 0, .inr (.inl 18), .inr (.inl 19), .inr (.inl 20), .inr (.inl 21)])),
  .inl (0, 6, 0),
  .inl (0, 6, 0),
  .inl (0, 6, 0),
  .inl (0, 6, 0),
  .inr (.inl (6, [.inl 0, .inl 0, .inr (.inl 23), .inr (.inl 24), .inr (.inl 25), .inr (.inl 26)])),
  .inl (0, 6, 0),
  .inl (0, 6, 0),
  .inl (0, 6, 0),
  .inl (0, 6, 0),
  .inr (.inl (6, [.inl 0, .inl 0, .inr (.inl 28), .inr (.inl 29), .inr (.inl 30), .inr (.inl 31)])),
  .inl (0, 6, 0),
  .inl (0, 6, 0),
  .inl (0, 6, 0),
  .inl (0, 6, 0),
  .inr (.inl (6, [.inl 0, .inl 0, .inr (.inl 33), .inr (.inl 34), .inr (.inl 35), .inr (.inl 36)])),
  .inl (0, 6, 0),
  .inl (0, 6, 0),
  .inl (0, 6, 0),
  .inl (0, 6, 0),
  .inr (.inl (6, [.inl 0, .inl 0, .inr (.inl 38), .inr (.inl 39), .inr (.inl 40), .inr (.inl 41)])),
  .inl (0, 6, 0),
  .inl (0, 6, 0),
  .inl (0, 6, 0),
  .inl (0, 6, 0),
  .inr (.inl (6, [.inl 0, .inl 0, .inr (.inl 43), .inr (.inl 44), .inr (.inl 45), .inr (.inl 46)])),
  .inl (0, 6, 0),
  .inl (0, 6, 0),
  .inl (0, 6, 0),
  .inl (0, 6, 0),
  .inr (.inl (6, [.inl 0, .inl 0, .inr (.inl 48), .inr (.inl 49), .inr (.inl 50), .inr (.inl 51)])),
  .inl (0, 6, 0),
  .inl (0, 6, 0),
  .inl (0, 6, 0),
  .inl (0, 6, 0),
  .inr (.inl (4, [.inr (.inl 53), .inl 0])),
  .inr (.inr (2, [.inr (.inl 54), .inr (.inl 59)])),
  .inr (.inl (6, [.inl 0, .inl 0, .inr (.inl 55), .inr (.inl 56), .inr (.inl 57), .inr (.inl 58)])),
  .inl (0, 6, 0),
  .inl (0, 6, 0),
  .inl (0, 6, 0),
  .inl (0, 6, 0),
  .inr (.inl (6, [.inl 0, .inl 0, .inr (.inl 60), .inr (.inl 61), .inr (.inl 62), .inr (.inl 63)])),
  .inl (0, 6, 0),
  .inl (0, 6, 0),
  .inl (0, 6, 0),
  .inl (0, 6, 0),
  .inr (.inr (3, [.inr (.inl 115), .inr (.inl 117)])),
  .inr (.inl (5, [.inr (.inl 66), .inr (.inl 67), .inr (.inl 68), .inl 0])),
  .inl (0, 8, 0),
  .inl (0, 8, 0),
  .inl (0, 8, 0),
  .inr (.inl (2, [.inr (.inl 70), .inr (.inl 77), .inr (.inl 84)])),
  .inr (.inr (4, [.inr (.inl 71), .inr (.inl 72), .inr (.inl 73), .inr (.inl 74), .inr (.inl 75), .inr (.inl 76)])),
  .inl (0, 16, 0),
  .inl (0, 16, 0),
  .inl (0, 16, 0),
  .inl (0, 16, 0),
  .inl (0, 16, 0),
  .inl (0, 16, 0),
  .inr (.inr (4, [.inr (.inl 78), .inr (.inl 79), .inr (.inl 80), .inr (.inl 81), .inr (.inl 82), .inr (.inl 83)])),
  .inl (0, 16, 0),
  .inl (0, 16, 0),
  .inl (0, 16, 0),
  .inl (0, 16, 0),
  .inl (0, 16, 0),
  .inl (0, 16, 0),
  .inr (.inr (4, [.inr (.inl 85), .inr (.inl 86), .inr (.inl 87), .inr (.inl 88), .inr (.inl 89), .inr (.inl 90), .inr (.inl 91)])),
  .inl (0, 91, 0),
  .inl (0, 91, 0),
  .inl (0, 91, 0),
  .inl (0, 91, 0),
  .inl (0, 91, 0),
  .inl (0, 91, 0),
  .inl (0, 91, 0),
  .inl (0, 6, 0),
  .inr (.inl (0, [.inl 0, .inr (.inl 94), .inr (.inl 95), .inr (.inl 96), .inl 0, .inr (.inl 97), .inr (.inl 98), .inr (.inl 99), .inl 0, .inr (.inl 100), .inr (.inl 101), .inr (.inl 102), .inr (.inl 103)])),
  .inl (0, 6, 0),
  .inl (0, 6, 0),
  .inl (0, 6, 0),
  .inl (0, 6, 0),
  .inl (0, 6, 0),
  .inl (0, 6, 0),
  .inl (0, 10, 0),
  .inl (0, 10, 0),
  .inl (0, 10, 0),
  .inl (0, 10, 0),
  .inr (.inl (0, [.inl 4, .inr (.inl 105), .inr (.inl 106), .inr (.inl 107), .inl 3, .inr (.inl 108), .inr (.inl 109), .inr (.inl 110), .inl 9, .inr (.inl 111), .inr (.inl 112), .inr (.inl 113), .inr (.inl 114)])),
  .inl (0, 6, 237684487579686500932345921536),
  .inl (0, 6, 237684487561239756875816239108),
  .inl (0, 6, 158456325120762395555635658755),
  .inl (0, 6, 258254417049113591817),
  .inl (0, 6, 55340232225423622146),
  .inl (0, 6, 110680464446552276996),
  .inl (0, 10, 810544624822973047993009140776210175100695293167873491522158176040053834252288),
  .inl (0, 10, 80879840007729021119387726025915528545040371399161172129330967347200),
  .inl (0, 10, 115792089264276142090721624806277926214951421175843534452477697947589402427393),
  .inl (0, 10, 926336714087249190096284969051799961206327672638770384275073412126753597423616),
  .inr (.inl (1, [.inr (.inl 116), .inl 0])),
  .inl (1, 200, 0),
  .inr (.inl (1, [.inr (.inl 118), .inl 0])),
  .inl (1, 200, 0),
  .inr (.inl (8, [.inl 4, .inr (.inl 120), .inl 3, .inr (.inl 121), .inl 9, .inr (.inl 122), .inr (.inl 123), .inr (.inl 124), .inl 0, .inr (.inl 125), .inl 0, .inr (.inl 126), .inl 0, .inr (.inl 127), .inr (.inl 128), .inl 0, .inl 0, .inr (.inl 129), .inl 4, .inr (.inl 130), .inl 3, .inr (.inl 131), .inl 9, .inr (.inl 132), .inl 0, .inr (.inl 133), .inr (.inl 134), .inr (.inl 135)])),
  .inl (0, 18, 18347988934328533202141267119410081017560863925392384845580917393211293529178868790513468247004079900852224),
  .inl (0, 18, 694752535504777012630757253733003524712051037225103683276110699667051396464649),
  .inl (0, 30, 28638903918474961215286410580141274823731733954409551475845187921502970445609948865534549056561020909614793107404121110215570448847524855189801063173391792560788631391553120962292856743718218055267068621124801643809324085820763598470395210793427664896),
  .inl (0, 10, 926336714087249190096284969051799961206327672638770384275073412126753597423616),
  .inl (0, 26, 3614737867988140140538554411652400150004689561900550900284354473577779970875153445897496290243735803423826666251535207137510152409198829514406453624619711410151183168204950132347621880627614731438442009625216993248894966038528),
  .inl (0, 208, 0),
  .inl (0, 52, 0),
  .inl (0, 24, 0),
  .inl (0, 200, 0),
  .inl (0, 3, 0),
  .inl (0, 18, 18347988934328533202141267119410081017560863925392384845580917393211293529178868790513468247004079900852224),
  .inl (0, 18, 694752535504777012630757253733003524712051037225103683276110699667051396464649),
  .inl (0, 30, 28638903918474961215286410580141274823731733954409551475845187921502970445609948865534549056561020909614793107404121110215570448847524855189801063173391792560788631391553120962292856743718218055267068621124801643809324085820763598470395210793427664896),
  .inl (0, 96, 0),
  .inl (0, 637, 0),
  .inl (0, 6, 0)]
theorem hCX_e : hCX = hC ++ hX := rfl
noncomputable def sk (n : Nat) : List mC → List mC := Nat.rec (motive := fun _ => List mC → List mC) (fun l => l) (fun _ ih l => ih (List.tail l)) n
theorem sk_e : ∀ (n : Nat) (l : List mC), sk n l = l.drop n
  | 0, l => rfl
  | n + 1, l => by
    show sk n l.tail = l.drop (n + 1)
    rw [sk_e n, List.drop_tail]
noncomputable def rC (n : Nat) : mK := fun v hp => mm_b (rN n v hp) (ql qc (sk 119 hp) hX)
theorem rC_s {n : Nat} {v : Option mV} {hp : List mC} (h : rC n v hp = true) : rN n v hp = true ∧ hp.drop 119 = hX := by
  obtain ⟨h1, h2⟩ := mm_b_s h
  refine ⟨h1, ?_⟩
  rw [← sk_e]
  exact ql_s (fun _ _ => qc_s) h2
noncomputable def chk (F : mF) (y1 y2 : Nat) (av : List mV) (n : Nat) : Bool := mm_b (ed F rc nl 8 y1 (.inr (.inl 0) :: av) false hCX (rC n)) (ed F rc nl 8 y2 (.inr (.inl 0) :: av) false hM (rN n))
/-- one call: both answer the same, whatever stands elsewhere -/
def OP (y1 y2 : Nat) (xs : List Int32) : Prop := ∃ (sg : Nat → Int32) (tl : Nat → Int64) (av : List mV) (n : Nat), (∀ d : mD, d.2.1 = sg → d.2.2.1 = tl → av.map (dn d) = xs.map Value.int) ∧
  ∀ (l : Launch) (d : mD) (E : mE), d.2.1 = sg → d.2.2.1 = tl → d.2.2.2.2 = false → CM l d E y1 (.inr (.inl 0) :: av) false hCX (rC n) ∧ CM l d E y2 (.inr (.inl 0) :: av) false hM (rN n)
theorem op_of {F : mF} {y1 y2 : Nat} {av : List mV} {n : Nat} {sg : Nat → Int32} {tl : Nat → Int64} {xs : List Int32} (h : chk F y1 y2 av n = true) (hF : ∀ d : mD, d.2.1 = sg → d.2.2.1 = tl → FOK d F) (hx : ∀ d : mD, d.2.1 = sg → d.2.2.1 = tl → av.map (dn d) = xs.map Value.int) : OP y1 y2 xs := by
  obtain ⟨h1, h2⟩ := mm_b_s h
  exact ⟨sg, tl, av, n, hx, fun l d E e1 e2 e3 => ⟨ed_s (hF d e1 e2) 8 _ _ _ _ _ h1, ed_s (hF d e1 e2) 8 _ _ _ _ _ h2⟩⟩
def sg3 (a b c : Int32) : Nat → Int32
  | 0 => a
  | 1 => b
  | _ => c
def icP (c : Nat) (x y : Int) : Prop := match c with
  | 0 => x = y
  | 1 => ¬ x = y
  | 2 => x < y
  | 3 => y ≤ x
  | 4 => y < x
  | _ => x ≤ y
theorem cmp_ic (c : Nat) (x y : Int32) : cmpP c x y ↔ icP c x.toInt y.toInt := by
  rcases c with _ | _ | _ | _ | _ | c
  · exact Int32.toInt_inj.symm
  · exact not_congr Int32.toInt_inj.symm
  · exact Int32.lt_iff_toInt_lt
  · exact Int32.le_iff_toInt_le
  · exact Int32.lt_iff_toInt_lt
  · exact Int32.le_iff_toInt_le
theorem fk_n {d : mD} : FOK d [] := fun q hq => by cases hq
theorem fk_1 {d : mD} {F : mF} {op cc k c : Nat} {z : Int} (hop : op = 10 + cc) (hz : (nI c).toInt = z) (h : icP cc (d.2.1 k).toInt z) (hF : FOK d F) : FOK d ((op, .inr (.inr (.inr (.inl k))), .inl c, .inl 1) :: F) := by
  intro q hq
  rcases List.mem_cons.mp hq with rfl | hq
  · subst hop
    refine ⟨?_, fun _ => Or.inr rfl⟩
    show fsem (10 + cc) _ _ _
    have h2 : cmpP cc (d.2.1 k) (nI c) := (cmp_ic _ _ _).mpr (by rw [hz]; exact h)
    rw [Nat.add_comm]
    exact ⟨_, _, rfl, rfl, Or.inl ⟨h2, rfl⟩⟩
  · exact hF q hq
theorem fk_0 {d : mD} {F : mF} {op cc k c : Nat} {z : Int} (hop : op = 10 + cc) (hz : (nI c).toInt = z) (h : ¬ icP cc (d.2.1 k).toInt z) (hF : FOK d F) : FOK d ((op, .inr (.inr (.inr (.inl k))), .inl c, .inl 0) :: F) := by
  intro q hq
  rcases List.mem_cons.mp hq with rfl | hq
  · subst hop
    refine ⟨?_, fun _ => Or.inl rfl⟩
    have h2 : ¬ cmpP cc (d.2.1 k) (nI c) := fun w => h (by rw [← hz]; exact (cmp_ic _ _ _).mp w)
    show fsem (10 + cc) _ _ _
    rw [Nat.add_comm]
    exact ⟨_, _, rfl, rfl, Or.inr ⟨h2, rfl⟩⟩
  · exact hF q hq
theorem pt {x : Int32} (lo n : Nat) (h : lo + n ≤ 65535) (h1 : (lo : Int) ≤ x.toInt) (h2 : x.toInt < (lo : Int) + (n : Int)) : ∃ j, j < n ∧ x = nI (Nat.add lo j) := by
  refine ⟨(x.toInt - lo).toNat, by omega, Int32.toInt_inj.mp ?_⟩
  show x.toInt = (nI (lo + (x.toInt - lo).toNat)).toInt
  rw [nI_toInt (by omega)]
  omega
theorem pt1 {x : Int32} (n : Nat) (h : n ≤ 65535) (h1 : (-1 : Int) ≤ x.toInt) (h2 : x.toInt < (-1 : Int) + (n : Int)) : ∃ j, j < n ∧ x = nI (Nat.mod (Nat.add 4294967295 j) 4294967296) := by
  refine ⟨(x.toInt + 1).toNat, by omega, Int32.toInt_inj.mp ?_⟩
  rw [nI_ti]
  show x.toInt = ((((4294967295 + (x.toInt + 1).toNat) % 4294967296 + 2147483648) % 4294967296 : Nat) : Int) - 2147483648
  omega
