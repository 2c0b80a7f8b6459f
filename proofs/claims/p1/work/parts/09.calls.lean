/-! CALLS: what a run says of a method, as a contract; the tables that stay -/
def txS : String := "p0,4,3;p1,5,0;p2,1,5;p3,3,2;d9,2,4;d4,1,1;d14,3,6;o0,0,1;o1,0,0;o1,1,1;o2,2,2;o3,3,0;o4,0,2;o4,1,0;o6,3,1;o7,0,1;"
def txB : List Int32 := [112, 48, 44, 52, 44, 51, 59, 112, 49, 44, 53, 44, 48, 59, 112, 50, 44, 49, 44, 53, 59, 112, 51, 44, 51, 44, 50, 59, 100, 57, 44, 50, 44, 52, 59, 100, 52, 44, 49, 44, 49, 59, 100, 49, 52, 44, 51, 44, 54, 59, 111, 48, 44, 48, 44, 49, 59, 111, 49, 44, 48, 44, 48, 59, 111, 49, 44, 49, 44, 49, 59, 111, 50, 44, 50, 44, 50, 59, 111, 51, 44, 51, 44, 48, 59, 111, 52, 44, 48, 44, 50, 59, 111, 52, 44, 49, 44, 48, 59, 111, 54, 44, 51, 44, 49, 59, 111, 55, 44, 48, 44, 49, 59]
def nestW : List Cond := [.methodLinkNest "RudeCoupons" 9 ⟨"RudeCoupons$Letters", "<init>", "()V"⟩ "RudeCoupons", .methodLinkNest "RudeCoupons" 18 ⟨"RudeCoupons$Reader", "<init>", "()V"⟩ "RudeCoupons", .methodLinkNest "RudeCoupons" 25 ⟨"RudeCoupons$Standing", "<init>", "()V"⟩ "RudeCoupons", .methodLinkNest "RudeCoupons$Shelf" 21 ⟨"RudeCoupons$Standing", "<init>", "()V"⟩ "RudeCoupons", .methodLinkNest "RudeCoupons" 48 ⟨"RudeCoupons$Sightings", "<init>", "()V"⟩ "RudeCoupons", .methodLinkNest "RudeCoupons" 55 ⟨"RudeCoupons$Plans", "<init>", "()V"⟩ "RudeCoupons", .methodLinkNest "RudeCoupons" 66 ⟨"RudeCoupons$Book", "<init>", "()V"⟩ "RudeCoupons", .methodLinkNest "RudeCoupons$Book" 62 ⟨"RudeCoupons", "within", "(III)Z"⟩ "RudeCoupons", .methodLinkNest "RudeCoupons$Standing" 39 ⟨"RudeCoupons", "copyRow", "([I[I)V"⟩ "RudeCoupons", .methodLinkNest "RudeCoupons$Standing" 49 ⟨"RudeCoupons", "sumOf", "([I)I"⟩ "RudeCoupons"]
theorem nestW_k : ∀ w ∈ nestW, ∃ (a : String) (i : Nat) (x : MethodName) (h : String), w = .methodLinkNest a i x h := by
  intro w hw
  simp only [nestW, List.mem_cons, List.not_mem_nil, or_false] at hw
  rcases hw with rfl | rfl | rfl | rfl | rfl | rfl | rfl | rfl | rfl | rfl <;> exact ⟨_, _, _, _, rfl⟩
/-- the words that stay -/
def lw_g : List Cond := lw_tbl.filter goodWord
theorem lw_g_in {w : Cond} (h : w ∈ lw_g) : w ∈ lw_tbl := (List.mem_filter.mp h).1
theorem lw_g_good {y : MethodName} {bytes : ByteArray} {n : Nat} {r : Option FieldType} (h : Cond.code y bytes n r ∈ lw_g) : GoodIn lw_g (Cond.code y bytes n r :: lw_g) := by
  intro w hw
  rcases List.mem_cons.mp hw with rfl | hw
  · exact ⟨h, good_of_word (List.mem_filter.mp h).2⟩
  · exact ⟨hw, good_of_word (List.mem_filter.mp hw).2⟩
/-- arrays of int arrays -/
def va_AOI (U : State) : Prop := ∃ (comp cA : ClassId) (k : Class), U.vm.findClass (FieldType.array .int).toString = some comp ∧ U.vm.classes[cA]? = some k ∧ k.kind = .array comp (.array .int) ∧ U.vm.findClass ("[" ++ (FieldType.array .int).toString) = some cA
theorem va_AOI.moved {u U : State} (hvm : u.vm.Alike U.vm) (h : va_AOI u) : va_AOI U := by
  obtain ⟨comp, cA, k, h1, h2, h3, h4⟩ := h
  obtain ⟨k', hk', he⟩ := hvm.2.2 _ _ h2
  exact ⟨comp, cA, k', by rw [hvm.findClass]; exact h1, hk', by rw [he]; exact h3, by rw [hvm.findClass]; exact h4⟩
/-- the text, as a constant, and what its methods read -/
def TXok (d : mD) (U : State) : Prop := vk_R "RudeCoupons" 74 txS d.2.2.2.1 U ∧ (∃ aV : Nat, vk_S 1 [113] [txB] (fun _ => d.2.2.2.1) (fun _ => aV) (fun q => d.1 ≤ q) U U.heap) ∧ va_Z "java/lang/String" "COMPACT_STRINGS" "Z" (.int 1) (fun q => d.1 ≤ q) U U.heap ∧ va_Zq "jdk/internal/util/Preconditions" "SIOOBE_FORMATTER" "Ljava/util/function/BiFunction;" (fun q => d.1 ≤ q) U U.heap
theorem TXok.next {d : mD} {s U : State} (h : TXok d s) (hW : s.WarmedH U.vm) (hq : ∀ a : Nat, a < s.heap.size → ¬ d.1 ≤ a → U.heap[a]? = s.heap[a]?) : TXok d U := by
  obtain ⟨h1, ⟨aV, h2⟩, h3, h4⟩ := h
  exact ⟨h1.warm hW, ⟨aV, (h2.kept hq).moved hW.alike⟩, (h3.kept hq).moved hW.alike, (h4.kept hq).moved hW.alike⟩
theorem TXok.same {d : mD} {u U : State} (h : TXok d u) (hv : U.vm = u.vm) (hh : U.heap = u.heap) : TXok d U := by
  have ha : u.vm.Alike U.vm := by rw [hv]; exact Vm.Alike.refl _
  obtain ⟨h1, ⟨aV, h2⟩, h3, h4⟩ := h
  refine ⟨h1.same hv, ⟨aV, ?_⟩, ?_, ?_⟩
  · rw [hh]; exact h2.moved ha
  · rw [hh]; exact h3.moved ha
  · rw [hh]; exact h4.moved ha
def KN (d : mD) (E : mE) (U : State) : Prop := va_K E.1 xcl (xtys E.2) U ∧ (∀ w ∈ nestW, va_Nw w U) ∧ va_AO "RudeCoupons$Standing" U ∧ va_AO "RudeCoupons$Letters" U ∧ va_AOI U ∧ (d.2.2.2.2 = true → TXok d U)
theorem KN.next {d : mD} {E : mE} {s U : State} (h : KN d E s) (hW : s.WarmedH U.vm) (hq : ∀ a : Nat, a < s.heap.size → ¬ d.1 ≤ a → U.heap[a]? = s.heap[a]?) : KN d E U := by
  obtain ⟨h1, h2, h3, h4, h5, h6⟩ := h
  refine ⟨va_K.moved hW.alike h1, fun w hw => ?_, h3.moved hW.alike, h4.moved hW.alike, h5.moved hW.alike, fun q => (h6 q).next hW hq⟩
  obtain ⟨a, i, x, t, rfl⟩ := nestW_k w hw
  exact (h2 _ hw).warmM hW
theorem KN.same {d : mD} {E : mE} {u U : State} (h : KN d E u) (hv : U.vm = u.vm) (hh : U.heap = u.heap) : KN d E U := by
  have ha : u.vm.Alike U.vm := by rw [hv]; exact Vm.Alike.refl _
  obtain ⟨h1, h2, h3, h4, h5, h6⟩ := h
  refine ⟨va_K.moved ha h1, fun w hw => ?_, h3.moved ha, h4.moved ha, h5.moved ha, fun q => (h6 q).same hv hh⟩
  obtain ⟨a, i, x, t, rfl⟩ := nestW_k w hw
  exact (h2 _ hw).same rfl hv.symm
/-- a method's start -/
def PcM (d : mD) (E : mE) (as : List mV) (hp : List mC) : Array Value → State → Prop := fun v U => v = (as.map (dn d)).toArray ∧ KN d E U ∧ va_P E.1 xcl (wo d E.2 d.1 hp) U.heap ∧ (d.2.2.2.2 = true → U.heap.size = d.1 + hp.length) ∧ d.1 ≤ U.heap.size
theorem PcM.blind {d : mD} {E : mE} {as : List mV} {hp : List mC} : FrameBlind (PcM d E as hp) := fun a U g mk q => by
  obtain ⟨q0, q1, q2, q3, q4⟩ := q
  exact ⟨q0, q1.same (U := U.calling g mk a) rfl rfl, q2, q3, q4⟩
noncomputable def gY : Nat → MethodName := nth ⟨"", "", ""⟩ [⟨"RudeCouponsModel", "has", "(II)Z"⟩, ⟨"RudeCouponsModel", "whoOf", "(I)I"⟩, ⟨"RudeCouponsModel", "leaves", "(IIII)I"⟩, ⟨"RudeCouponsModel", "leavesBy", "(II)I"⟩, ⟨"RudeCouponsModel", "worthOf", "(I)I"⟩, ⟨"RudeCouponsModel", "worthBy", "(II)I"⟩, ⟨"RudeCouponsModel", "bestBy", "(II)I"⟩, ⟨"RudeCouponsModel", "in", "(III)Z"⟩, ⟨"RudeCouponsModel", "suffers", "(II)I"⟩, ⟨"RudeCouponsModel", "isPerson", "(I)Z"⟩, ⟨"RudeCoupons$Book", "leftAfter", "(IIII)I"⟩, ⟨"RudeCoupons$Plans", "addOccasion", "(LRudeCoupons$Book;II)V"⟩, ⟨"RudeCoupons$Plans", "withShare", "(III)I"⟩, ⟨"RudeCoupons$Plans", "mostFrom", "(II)I"⟩, ⟨"RudeCoupons$Standing", "isTaken", "(I)Z"⟩, ⟨"RudeCoupons$Standing", "isAhead", "(LRudeCoupons$Book;I)Z"⟩, ⟨"RudeCoupons", "within", "(III)Z"⟩, ⟨"RudeCoupons$Book", "<init>", "()V"⟩, ⟨"RudeCoupons$Book", "clear", "()V"⟩, ⟨"RudeCoupons$Book", "add", "(CIII)Z"⟩, ⟨"RudeCoupons$Book", "addPerson", "(III)Z"⟩, ⟨"RudeCoupons$Book", "addDoing", "(III)Z"⟩, ⟨"RudeCoupons$Book", "addOccasion", "(III)Z"⟩, ⟨"RudeCoupons$Book", "hasPerson", "(I)Z"⟩, ⟨"RudeCoupons$Book", "hasDoing", "(I)Z"⟩, ⟨"RudeCoupons$Book", "hasOccasion", "(I)Z"⟩, ⟨"RudeCoupons$Book", "sufferingOf", "(III)I"⟩, ⟨"RudeCoupons$Book", "sufferingOfAll", "(II)I"⟩, ⟨"RudeCoupons$Letters", "<init>", "()V"⟩, ⟨"RudeCoupons$Letters", "add", "(C)Z"⟩, ⟨"RudeCoupons$Letters", "at", "(I)C"⟩, ⟨"RudeCoupons$Letters", "copy", "(LRudeCoupons$Letters;)V"⟩, ⟨"RudeCoupons$Plans", "<init>", "()V"⟩, ⟨"RudeCoupons$Plans", "make", "(LRudeCoupons$Book;LRudeCoupons$Standing;I)V"⟩, ⟨"RudeCoupons$Plans", "gain", "(II)I"⟩, ⟨"RudeCoupons$Plans", "makeAll", "(LRudeCoupons$Book;LRudeCoupons$Standing;)V"⟩, ⟨"RudeCoupons$Plans", "partAll", "(II)V"⟩, ⟨"RudeCoupons$Plans", "shareOf", "(II)I"⟩, ⟨"RudeCoupons$Plans", "greatestShare", "(II)I"⟩, ⟨"RudeCoupons$Reader", "<init>", "()V"⟩, ⟨"RudeCoupons$Reader", "readInto", "(LRudeCoupons$Book;LRudeCoupons$Letters;)I"⟩, ⟨"RudeCoupons$Reader", "readItem", "(LRudeCoupons$Book;LRudeCoupons$Letters;I)I"⟩, ⟨"RudeCoupons$Reader", "figuresAt", "(LRudeCoupons$Letters;I)I"⟩, ⟨"RudeCoupons$Reader", "isFigure", "(C)Z"⟩, ⟨"RudeCoupons$Reader", "numberAt", "(LRudeCoupons$Letters;II)I"⟩, ⟨"RudeCoupons$Shelf", "<init>", "(I)V"⟩, ⟨"RudeCoupons$Shelf", "put", "(LRudeCoupons$Standing;)V"⟩, ⟨"RudeCoupons$Shelf", "dropOldest", "()V"⟩, ⟨"RudeCoupons$Shelf", "takeInto", "(LRudeCoupons$Standing;)Z"⟩, ⟨"RudeCoupons$Sightings", "<init>", "()V"⟩, ⟨"RudeCoupons$Sightings", "add", "(III)Z"⟩, ⟨"RudeCoupons$Sightings", "couldBe", "(LRudeCoupons$Book;I)Z"⟩, ⟨"RudeCoupons$Standing", "<init>", "()V"⟩, ⟨"RudeCoupons$Standing", "begin", "(LRudeCoupons$Book;)V"⟩, ⟨"RudeCoupons$Standing", "copy", "(LRudeCoupons$Standing;)V"⟩, ⟨"RudeCoupons$Standing", "couponsOfAll", "()I"⟩, ⟨"RudeCoupons$Standing", "mostOfOne", "()I"⟩, ⟨"RudeCoupons$Standing", "sufferedByAll", "()I"⟩, ⟨"RudeCoupons", "<init>", "()V"⟩, ⟨"RudeCoupons", "layText", "()I"⟩, ⟨"RudeCoupons", "write", "(I)I"⟩, ⟨"RudeCoupons", "wipe", "()I"⟩, ⟨"RudeCoupons", "fault", "()I"⟩, ⟨"RudeCoupons", "lay", "()I"⟩, ⟨"RudeCoupons", "person", "(II)I"⟩, ⟨"RudeCoupons", "doing", "(II)I"⟩, ⟨"RudeCoupons", "occasion", "(II)I"⟩, ⟨"RudeCoupons", "leftIfTaken", "(I)I"⟩, ⟨"RudeCoupons", "take", "(I)I"⟩, ⟨"RudeCoupons", "copyRow", "([I[I)V"⟩, ⟨"RudeCoupons", "pass", "(I)I"⟩, ⟨"RudeCoupons", "give", "(III)I"⟩, ⟨"RudeCoupons", "ration", "(I)I"⟩, ⟨"RudeCoupons", "sumOf", "([I)I"⟩, ⟨"RudeCoupons", "undo", "()I"⟩, ⟨"RudeCoupons", "best", "(II)I"⟩, ⟨"RudeCoupons", "more", "(I)I"⟩, ⟨"RudeCoupons", "giveBest", "(I)I"⟩, ⟨"RudeCoupons", "growthByGiving", "(II)I"⟩, ⟨"RudeCoupons", "shared", "(I)I"⟩, ⟨"RudeCoupons", "rationFor", "(I)I"⟩, ⟨"RudeCoupons", "sufferingUnder", "(I)I"⟩, ⟨"RudeCoupons", "seen", "(III)I"⟩, ⟨"RudeCoupons", "forget", "()I"⟩, ⟨"RudeCoupons", "without", "()I"⟩, ⟨"RudeCoupons", "letGo", "(II)I"⟩, ⟨"RudeCoupons", "keepOne", "(III)I"⟩, ⟨"RudeCoupons", "net", "(I)I"⟩, ⟨"RudeCoupons", "heard", "(I)I"⟩, ⟨"RudeCoupons", "year", "(II)I"⟩, ⟨"RudeCoupons", "isDrawn", "(II)Z"⟩, ⟨"RudeCoupons", "keep", "()I"⟩, ⟨"RudeCoupons", "back", "()I"⟩, ⟨"RudeCoupons", "count", "(I)I"⟩, ⟨"RudeCouponsModel", "<init>", "()V"⟩, ⟨"RudeCouponsModel", "clearTold", "()V"⟩, ⟨"RudeCouponsModel", "tellsPerson", "(III)V"⟩, ⟨"RudeCouponsModel", "tellsDoing", "(III)V"⟩, ⟨"RudeCouponsModel", "tellsOccasion", "(III)V"⟩, ⟨"RudeCouponsModel", "settles", "()V"⟩, ⟨"RudeCouponsModel", "copies", "([II[III)V"⟩, ⟨"RudeCouponsModel", "write", "(I)I"⟩, ⟨"RudeCouponsModel", "wipe", "()I"⟩, ⟨"RudeCouponsModel", "fault", "()I"⟩, ⟨"RudeCouponsModel", "lay", "()I"⟩, ⟨"RudeCouponsModel", "person", "(II)I"⟩, ⟨"RudeCouponsModel", "doing", "(II)I"⟩, ⟨"RudeCouponsModel", "occasion", "(II)I"⟩, ⟨"RudeCouponsModel", "isOccasion", "(I)Z"⟩, ⟨"RudeCouponsModel", "canBe", "(I)Z"⟩, ⟨"RudeCouponsModel", "take", "(I)I"⟩, ⟨"RudeCouponsModel", "remembers", "()V"⟩, ⟨"RudeCouponsModel", "pass", "(I)I"⟩, ⟨"RudeCouponsModel", "give", "(III)I"⟩, ⟨"RudeCouponsModel", "ration", "(I)I"⟩, ⟨"RudeCouponsModel", "allCoupons", "()I"⟩, ⟨"RudeCouponsModel", "undo", "()I"⟩, ⟨"RudeCouponsModel", "best", "(II)I"⟩, ⟨"RudeCouponsModel", "more", "(I)I"⟩, ⟨"RudeCouponsModel", "giveBest", "(I)I"⟩, ⟨"RudeCouponsModel", "shared", "(I)I"⟩, ⟨"RudeCouponsModel", "findShares", "()V"⟩, ⟨"RudeCouponsModel", "rationFor", "(I)I"⟩, ⟨"RudeCouponsModel", "sufferedBy", "(I)I"⟩, ⟨"RudeCouponsModel", "seen", "(III)I"⟩, ⟨"RudeCouponsModel", "forget", "()I"⟩, ⟨"RudeCouponsModel", "without", "()I"⟩, ⟨"RudeCouponsModel", "letGo", "(II)I"⟩, ⟨"RudeCouponsModel", "keepOne", "(III)I"⟩, ⟨"RudeCouponsModel", "net", "(I)I"⟩, ⟨"RudeCouponsModel", "heard", "(I)I"⟩, ⟨"RudeCouponsModel", "year", "(II)I"⟩, ⟨"RudeCouponsModel", "keep", "()I"⟩, ⟨"RudeCouponsModel", "back", "()I"⟩, ⟨"RudeCouponsModel", "count", "(I)I"⟩, ⟨"RudeCouponsModel", "takenMany", "()I"⟩, ⟨"java/lang/Math", "max", "(II)I"⟩, ⟨"java/lang/Math", "min", "(II)I"⟩, ⟨"java/lang/Integer", "bitCount", "(I)I"⟩, ⟨"RudeCoupons$Shelf", "<init>", "(I)V"⟩]
noncomputable def gB : Nat → ByteArray := nth ⟨#[]⟩ [prog_10_method_7_code, prog_10_method_27_code, prog_10_method_25_code, prog_10_method_28_code, prog_10_method_26_code, prog_10_method_41_code, prog_10_method_42_code, prog_10_method_6_code, prog_10_method_29_code, prog_10_method_8_code, prog_2_method_10_code, prog_4_method_3_code, prog_4_method_8_code, prog_4_method_7_code, prog_8_method_4_code, prog_8_method_5_code, prog_1_method_35_code, prog_2_method_1_code, prog_2_method_2_code, prog_2_method_6_code, prog_2_method_7_code, prog_2_method_8_code, prog_2_method_9_code, prog_2_method_3_code, prog_2_method_4_code, prog_2_method_5_code, prog_2_method_11_code, prog_2_method_12_code, prog_3_method_1_code, prog_3_method_2_code, prog_3_method_3_code, prog_3_method_4_code, prog_4_method_1_code, prog_4_method_2_code, prog_4_method_5_code, prog_4_method_4_code, prog_4_method_6_code, prog_4_method_9_code, prog_4_method_10_code, prog_5_method_1_code, prog_5_method_2_code, prog_5_method_3_code, prog_5_method_4_code, prog_5_method_6_code, prog_5_method_5_code, prog_6_method_1_code, prog_6_method_2_code, prog_6_method_3_code, prog_6_method_4_code, prog_7_method_1_code, prog_7_method_2_code, prog_7_method_3_code, prog_8_method_1_code, prog_8_method_2_code, prog_8_method_3_code, prog_8_method_6_code, prog_8_method_8_code, prog_8_method_7_code, prog_1_method_1_code, prog_1_method_30_code, prog_1_method_2_code, prog_1_method_3_code, prog_1_method_4_code, prog_1_method_5_code, prog_1_method_6_code, prog_1_method_7_code, prog_1_method_8_code, prog_1_method_31_code, prog_1_method_9_code, prog_1_method_37_code, prog_1_method_10_code, prog_1_method_11_code, prog_1_method_12_code, prog_1_method_36_code, prog_1_method_13_code, prog_1_method_14_code, prog_1_method_15_code, prog_1_method_16_code, prog_1_method_32_code, prog_1_method_17_code, prog_1_method_18_code, prog_1_method_33_code, prog_1_method_19_code, prog_1_method_20_code, prog_1_method_21_code, prog_1_method_22_code, prog_1_method_23_code, prog_1_method_24_code, prog_1_method_25_code, prog_1_method_26_code, prog_1_method_34_code, prog_1_method_27_code, prog_1_method_28_code, prog_1_method_29_code, prog_10_method_1_code, prog_10_method_16_code, prog_10_method_3_code, prog_10_method_4_code, prog_10_method_5_code, prog_10_method_24_code, prog_10_method_23_code, prog_10_method_10_code, prog_10_method_11_code, prog_10_method_21_code, prog_10_method_22_code, prog_10_method_31_code, prog_10_method_32_code, prog_10_method_33_code, prog_10_method_9_code, prog_10_method_30_code, prog_10_method_35_code, prog_10_method_34_code, prog_10_method_36_code, prog_10_method_37_code, prog_10_method_39_code, prog_10_method_38_code, prog_10_method_40_code, prog_10_method_43_code, prog_10_method_44_code, prog_10_method_45_code, prog_10_method_47_code, prog_10_method_46_code, prog_10_method_49_code, prog_10_method_48_code, prog_10_method_50_code, prog_10_method_51_code, prog_10_method_52_code, prog_10_method_53_code, prog_10_method_54_code, prog_10_method_55_code, prog_10_method_56_code, prog_10_method_57_code, prog_10_method_58_code, prog_10_method_59_code, prog_10_method_61_code, prog_10_method_60_code, prog_12_method_65_code, prog_12_method_69_code, prog_11_method_49_code, prog_6_method_1_code]
noncomputable def gT : Nat → Option FieldType := nth none [some .boolean, some .int, some .int, some .int, some .int, some .int, some .int, some .boolean, some .int, some .boolean, some .int, none, some .int, some .int, some .boolean, some .boolean, some .boolean, none, none, some .boolean, some .boolean, some .boolean, some .boolean, some .boolean, some .boolean, some .boolean, some .int, some .int, none, some .boolean, some .char, none, none, none, some .int, none, none, some .int, some .int, none, some .int, some .int, some .int, some .boolean, some .int, none, none, none, some .boolean, none, some .boolean, some .boolean, none, none, none, some .int, some .int, some .int, none, some .int, some .int, some .int, some .int, some .int, some .int, some .int, some .int, some .int, some .int, none, some .int, some .int, some .int, some .int, some .int, some .int, some .int, some .int, some .int, some .int, some .int, some .int, some .int, some .int, some .int, some .int, some .int, some .int, some .int, some .int, some .boolean, some .int, some .int, some .int, none, none, none, none, none, none, none, some .int, some .int, some .int, some .int, some .int, some .int, some .int, some .boolean, some .boolean, some .int, none, some .int, some .int, some .int, some .int, some .int, some .int, some .int, some .int, some .int, none, some .int, some .int, some .int, some .int, some .int, some .int, some .int, some .int, some .int, some .int, some .int, some .int, some .int, some .int, some .int, some .int, some .int, none]
noncomputable def gM : Nat → Room := nth { frames := 0, cells := 0, slots := 0, locals := 0 } [{ frames := 0, cells := 0, slots := 0, locals := 0 }, { frames := 0, cells := 0, slots := 0, locals := 0 }, { frames := 0, cells := 0, slots := 0, locals := 0 }, { frames := 1, cells := 0, slots := 0, locals := 25 }, { frames := 0, cells := 0, slots := 0, locals := 0 }, { frames := 2, cells := 0, slots := 0, locals := 47 }, { frames := 3, cells := 0, slots := 0, locals := 73 }, { frames := 0, cells := 0, slots := 0, locals := 0 }, { frames := 0, cells := 0, slots := 0, locals := 0 }, { frames := 1, cells := 0, slots := 0, locals := 22 }, { frames := 0, cells := 0, slots := 0, locals := 0 }, { frames := 1, cells := 0, slots := 0, locals := 26 }, { frames := 0, cells := 0, slots := 0, locals := 0 }, { frames := 1, cells := 0, slots := 0, locals := 24 }, { frames := 0, cells := 0, slots := 0, locals := 0 }, { frames := 1, cells := 0, slots := 0, locals := 21 }, { frames := 0, cells := 0, slots := 0, locals := 0 }, { frames := 1, cells := 10, slots := 76, locals := 20 }, { frames := 0, cells := 0, slots := 0, locals := 0 }, { frames := 2, cells := 0, slots := 0, locals := 46 }, { frames := 1, cells := 0, slots := 0, locals := 22 }, { frames := 1, cells := 0, slots := 0, locals := 22 }, { frames := 1, cells := 0, slots := 0, locals := 22 }, { frames := 0, cells := 0, slots := 0, locals := 0 }, { frames := 0, cells := 0, slots := 0, locals := 0 }, { frames := 0, cells := 0, slots := 0, locals := 0 }, { frames := 1, cells := 0, slots := 0, locals := 21 }, { frames := 2, cells := 0, slots := 0, locals := 44 }, { frames := 1, cells := 1, slots := 200, locals := 20 }, { frames := 0, cells := 0, slots := 0, locals := 0 }, { frames := 0, cells := 0, slots := 0, locals := 0 }, { frames := 0, cells := 0, slots := 0, locals := 0 }, { frames := 1, cells := 22, slots := 848, locals := 20 }, { frames := 2, cells := 0, slots := 0, locals := 52 }, { frames := 0, cells := 0, slots := 0, locals := 0 }, { frames := 3, cells := 0, slots := 0, locals := 76 }, { frames := 2, cells := 0, slots := 0, locals := 48 }, { frames := 2, cells := 0, slots := 0, locals := 47 }, { frames := 1, cells := 0, slots := 0, locals := 24 }, { frames := 1, cells := 1, slots := 3, locals := 20 }, { frames := 4, cells := 0, slots := 0, locals := 97 }, { frames := 3, cells := 0, slots := 0, locals := 70 }, { frames := 1, cells := 0, slots := 0, locals := 21 }, { frames := 0, cells := 0, slots := 0, locals := 0 }, { frames := 1, cells := 0, slots := 0, locals := 21 }, { frames := 2, cells := 41, slots := 248, locals := 40 }, { frames := 2, cells := 0, slots := 0, locals := 43 }, { frames := 0, cells := 0, slots := 0, locals := 0 }, { frames := 2, cells := 0, slots := 0, locals := 43 }, { frames := 1, cells := 3, slots := 24, locals := 20 }, { frames := 0, cells := 0, slots := 0, locals := 0 }, { frames := 1, cells := 0, slots := 0, locals := 26 }, { frames := 1, cells := 4, slots := 24, locals := 20 }, { frames := 0, cells := 0, slots := 0, locals := 0 }, { frames := 1, cells := 0, slots := 0, locals := 22 }, { frames := 1, cells := 0, slots := 0, locals := 22 }, { frames := 1, cells := 0, slots := 0, locals := 21 }, { frames := 1, cells := 0, slots := 0, locals := 22 }, { frames := 6, cells := 118, slots := 2019, locals := 143 }, { frames := 5, cells := 0, slots := 0, locals := 122 }, { frames := 1, cells := 0, slots := 0, locals := 22 }, { frames := 0, cells := 0, slots := 0, locals := 0 }, { frames := 5, cells := 0, slots := 0, locals := 122 }, { frames := 6, cells := 0, slots := 0, locals := 143 }, { frames := 1, cells := 0, slots := 0, locals := 21 }, { frames := 1, cells := 0, slots := 0, locals := 21 }, { frames := 2, cells := 0, slots := 0, locals := 48 }, { frames := 1, cells := 0, slots := 0, locals := 26 }, { frames := 3, cells := 0, slots := 0, locals := 64 }, { frames := 0, cells := 0, slots := 0, locals := 0 }, { frames := 3, cells := 0, slots := 0, locals := 64 }, { frames := 3, cells := 0, slots := 0, locals := 64 }, { frames := 3, cells := 0, slots := 0, locals := 64 }, { frames := 0, cells := 0, slots := 0, locals := 0 }, { frames := 3, cells := 0, slots := 0, locals := 64 }, { frames := 3, cells := 0, slots := 0, locals := 76 }, { frames := 3, cells := 0, slots := 0, locals := 76 }, { frames := 4, cells := 0, slots := 0, locals := 99 }, { frames := 1, cells := 0, slots := 0, locals := 22 }, { frames := 4, cells := 0, slots := 0, locals := 99 }, { frames := 4, cells := 0, slots := 0, locals := 99 }, { frames := 3, cells := 0, slots := 0, locals := 68 }, { frames := 1, cells := 0, slots := 0, locals := 23 }, { frames := 0, cells := 0, slots := 0, locals := 0 }, { frames := 2, cells := 0, slots := 0, locals := 50 }, { frames := 2, cells := 0, slots := 0, locals := 43 }, { frames := 3, cells := 0, slots := 0, locals := 76 }, { frames := 1, cells := 0, slots := 0, locals := 21 }, { frames := 2, cells := 0, slots := 0, locals := 42 }, { frames := 2, cells := 0, slots := 0, locals := 43 }, { frames := 0, cells := 0, slots := 0, locals := 0 }, { frames := 3, cells := 0, slots := 0, locals := 64 }, { frames := 3, cells := 0, slots := 0, locals := 64 }, { frames := 2, cells := 0, slots := 0, locals := 42 }, { frames := 2, cells := 16, slots := 1394, locals := 48 }, { frames := 0, cells := 0, slots := 0, locals := 0 }, { frames := 0, cells := 0, slots := 0, locals := 0 }, { frames := 0, cells := 0, slots := 0, locals := 0 }, { frames := 0, cells := 0, slots := 0, locals := 0 }, { frames := 1, cells := 0, slots := 0, locals := 25 }, { frames := 0, cells := 0, slots := 0, locals := 0 }, { frames := 1, cells := 0, slots := 0, locals := 22 }, { frames := 0, cells := 0, slots := 0, locals := 0 }, { frames := 1, cells := 0, slots := 0, locals := 20 }, { frames := 2, cells := 0, slots := 0, locals := 48 }, { frames := 2, cells := 0, slots := 0, locals := 43 }, { frames := 1, cells := 0, slots := 0, locals := 22 }, { frames := 3, cells := 0, slots := 0, locals := 68 }, { frames := 1, cells := 0, slots := 0, locals := 22 }, { frames := 2, cells := 0, slots := 0, locals := 47 }, { frames := 3, cells := 0, slots := 0, locals := 68 }, { frames := 1, cells := 0, slots := 0, locals := 25 }, { frames := 2, cells := 0, slots := 0, locals := 46 }, { frames := 2, cells := 0, slots := 0, locals := 46 }, { frames := 2, cells := 0, slots := 0, locals := 46 }, { frames := 0, cells := 0, slots := 0, locals := 0 }, { frames := 1, cells := 0, slots := 0, locals := 25 }, { frames := 4, cells := 0, slots := 0, locals := 99 }, { frames := 4, cells := 0, slots := 0, locals := 99 }, { frames := 4, cells := 0, slots := 0, locals := 99 }, { frames := 5, cells := 0, slots := 0, locals := 124 }, { frames := 4, cells := 0, slots := 0, locals := 99 }, { frames := 5, cells := 0, slots := 0, locals := 125 }, { frames := 4, cells := 0, slots := 0, locals := 99 }, { frames := 2, cells := 0, slots := 0, locals := 43 }, { frames := 0, cells := 0, slots := 0, locals := 0 }, { frames := 1, cells := 0, slots := 0, locals := 25 }, { frames := 1, cells := 0, slots := 0, locals := 22 }, { frames := 4, cells := 0, slots := 0, locals := 99 }, { frames := 2, cells := 0, slots := 0, locals := 43 }, { frames := 1, cells := 0, slots := 0, locals := 22 }, { frames := 2, cells := 0, slots := 0, locals := 47 }, { frames := 1, cells := 0, slots := 0, locals := 25 }, { frames := 1, cells := 0, slots := 0, locals := 25 }, { frames := 1, cells := 0, slots := 0, locals := 22 }, { frames := 0, cells := 0, slots := 0, locals := 0 }, { frames := 0, cells := 0, slots := 0, locals := 0 }, { frames := 0, cells := 0, slots := 0, locals := 0 }, { frames := 0, cells := 0, slots := 0, locals := 0 }, { frames := 2, cells := 11, slots := 62, locals := 40 }]
noncomputable def gP : Nat → Nat → Nat := nth (fun _ => 0) [nth 0 [0, 13, 14], nth 0 [0], nth 0 [0, 48, 55, 68, 69, 70, 84, 85, 86], nth 0 [0], nth 0 [0], nth 0 [0, 8, 43, 50, 62, 68, 76, 78], nth 0 [0, 5, 64, 65, 73, 79, 104, 105, 120, 124, 139, 141, 149], nth 0 [0, 14, 15], nth 0 [0, 30, 31], nth 0 [0], nth 0 [0, 27, 49, 72, 73, 81, 83], nth 0 [0, 12, 116, 122], nth 0 [0, 24, 35], nth 0 [0, 6, 38], nth 0 [0, 16, 17], nth 0 [0, 25, 26], nth 0 [0, 14, 15], nth 0 [0], nth 0 [0], nth 0 [0, 15, 30, 51, 52], nth 0 [0, 38, 40], nth 0 [0, 38, 40], nth 0 [0, 35, 37, 73, 118], nth 0 [0, 16, 17], nth 0 [0, 16, 17], nth 0 [0, 16, 17], nth 0 [0, 9, 26], nth 0 [0, 5, 31], nth 0 [0], nth 0 [0, 14], nth 0 [0, 21, 22], nth 0 [0, 2, 28], nth 0 [0], nth 0 [0, 3, 36, 39, 77, 83], nth 0 [0, 32, 33], nth 0 [0, 2, 23], nth 0 [0, 2, 22, 24, 31, 35, 42, 70, 76], nth 0 [0, 5, 27], nth 0 [0, 7, 31, 37], nth 0 [0], nth 0 [0, 9, 41, 50], nth 0 [0, 8, 34, 72, 73, 91, 93, 99, 108, 143, 145], nth 0 [0, 13, 30, 31], nth 0 [0, 16, 17], nth 0 [0, 18, 33], nth 0 [0, 18, 46], nth 0 [0, 16], nth 0 [0, 9, 38], nth 0 [0, 10], nth 0 [0], nth 0 [0, 11], nth 0 [0, 10, 57, 63], nth 0 [0], nth 0 [0, 12, 40, 41, 69], nth 0 [0], nth 0 [0], nth 0 [0, 4, 30], nth 0 [0], nth 0 [0, 124, 152, 154, 183], nth 0 [0, 30, 33], nth 0 [0, 13, 35, 37], nth 0 [0], nth 0 [0], nth 0 [0], nth 0 [0, 13, 44, 54, 64, 74, 84], nth 0 [0, 13, 40, 50, 60, 70], nth 0 [0, 13, 48, 58, 68, 78, 93, 94, 95, 107, 108, 109], nth 0 [0, 30, 33], nth 0 [0, 13, 26, 108, 151], nth 0 [0, 2, 26], nth 0 [0, 12, 29], nth 0 [0, 37, 39, 55, 74], nth 0 [0, 12, 33, 60], nth 0 [0, 4, 22], nth 0 [0, 24, 26], nth 0 [0, 20, 22, 66, 77], nth 0 [0, 13], nth 0 [0, 11, 34, 49, 89, 95, 101, 110, 118, 119], nth 0 [0, 32, 34], nth 0 [0, 18, 75, 84], nth 0 [0, 13, 31, 46, 52], nth 0 [0, 4, 67, 73], nth 0 [0, 32, 34, 57, 59], nth 0 [0], nth 0 [0, 4, 36, 42], nth 0 [0, 19, 21, 65, 69], nth 0 [0, 31, 33, 53, 94, 95], nth 0 [0, 27, 28], nth 0 [0, 13, 36, 37], nth 0 [0, 20, 22, 41, 175, 181, 189, 196], nth 0 [0, 44, 45], nth 0 [0, 16], nth 0 [0, 17, 51], nth 0 [0, 56, 64, 72, 80, 88, 99, 107, 115, 123, 131, 139], nth 0 [0], nth 0 [0], nth 0 [0], nth 0 [0], nth 0 [0], nth 0 [0, 71, 83, 135, 139, 140, 148, 161, 163, 182, 184, 228], nth 0 [0, 3, 28], nth 0 [0, 13, 26], nth 0 [0], nth 0 [0, 9, 34, 37], nth 0 [0, 16, 19], nth 0 [0, 10, 40, 49, 58, 69, 79], nth 0 [0, 36, 37], nth 0 [0, 17, 19, 37, 55, 67, 68], nth 0 [0], nth 0 [0, 54, 55], nth 0 [0, 10, 21, 83, 110, 125, 133], nth 0 [0, 11, 39, 49], nth 0 [0, 12, 28], nth 0 [0, 31, 33, 48, 66], nth 0 [0, 12, 23, 46], nth 0 [0, 4, 29], nth 0 [0, 10], nth 0 [0, 17, 19, 41, 45], nth 0 [0, 10, 29, 44], nth 0 [0, 11, 20, 32, 164, 165, 183, 184, 198, 199, 200, 206, 212, 220, 221], nth 0 [0, 16, 36, 41, 57, 59, 60, 123, 129, 139], nth 0 [0, 2, 12, 41, 47, 52, 58, 80, 81, 85, 166, 167, 174, 192, 198], nth 0 [0, 13, 16, 31, 37], nth 0 [0, 4, 23, 40, 88, 89, 97, 103, 109], nth 0 [0, 32, 34, 46], nth 0 [0], nth 0 [0, 4, 26, 36, 82, 101, 102, 108, 114, 125, 126, 134], nth 0 [0, 19, 21, 32, 67, 69, 77, 101, 102, 115, 116, 127, 131], nth 0 [0, 28, 30, 44, 90, 91], nth 0 [0, 20, 21], nth 0 [0, 16, 20, 38, 50, 51, 59], nth 0 [0, 20, 22, 24, 52, 57, 180, 181, 198, 199, 217, 224, 231, 237, 264, 272, 274], nth 0 [0, 11], nth 0 [0, 10], nth 0 [0, 56, 61, 66, 71, 78, 83, 88, 93, 98, 103, 108], nth 0 [0, 4, 31], nth 0 [0, 9, 10], nth 0 [0, 9, 10], nth 0 [0], nth 0 [0, 18, 46]]
noncomputable def gW (y : Nat) : List Cond := Cond.code (gY y) (gB y) (nl y) (gT y) :: lw_g
/-- what a run says of a method -/
def CM (l : Launch) (d : mD) (E : mE) (y : Nat) (as : List mV) (al : Bool) (hp : List mC) (K : mK) : Prop := al = d.2.2.2.2 → Met l (gY y) (gW y) (gM y) (PcM d E as hp) (QcM d E K (gM y).cells) (gM y).cells (gM y).slots (fun q => d.1 ≤ q)
def cOK (l : Launch) (d : mD) (E : mE) (call : mA) : Prop := ∀ (y : Nat) (as : List mV) (al : Bool) (hp : List mC) (K : mK), call y as al hp K = true → CM l d E y as al hp K
theorem mm_pn_s {n : Nat} : ∀ {S acc : List mV} {k : List mV → List mV → Bool}, mm_pn n S acc k = true → ∃ as S', S = as.reverse ++ S' ∧ as.length = n ∧ k (as ++ acc) S' = true := by
  induction n with
  | zero => exact fun {S acc k} h => ⟨[], S, rfl, rfl, h⟩
  | succ n ih =>
    intro S acc k h
    obtain ⟨x, S1, rfl, h1⟩ := mm_p_s h
    obtain ⟨-, h2⟩ := mm_c1_s (0, fun _ => 0, fun _ => 0, 0, false) h1
    obtain ⟨as, S', rfl, h3, h4⟩ := ih h2
    refine ⟨as ++ [x], S', ?_, by simp [h3], by rw [List.append_assoc]; exact h4⟩
    simp
section SND
variable {p : Program} {l : Launch} {e : Env} {R : Room} {s : State} {m : MethodId} {args : Array Value} {below : List Frame} {meth : Method} {c : Code} {Q : State → Prop}
variable {cc : ByteArray} {d : mD} {E : mE} {nL pc : Nat} {F : mF} {kO : mK → Prop} {pcs : Nat → Nat}
/-- what the receiver is: 0 none, 1 any, k + 2: of class k -/
def RV (s : State) (H : Heap) (As : List Value) : Nat → Prop
  | 0 => True
  | 1 => ∃ (b : Nat) (As' : List Value), As = .ref b :: As'
  | k + 2 => ∃ (b : Nat) (As' : List Value) (r : vw_C), As = .ref b :: As' ∧ xcl[k]? = some r ∧ ∃ cellB : Cell, H[b]? = some cellB ∧ cellB.vm.isStatics = false ∧ s.vm.findClass r.1 = some cellB.cls
/-- a call can be run by a contract -/
def RunK (p : Program) (l : Launch) (e : Env) (R : Room) (s : State) (m : MethodId) (args : Array Value) (below : List Frame) (meth : Method) (c : Code) (d : mD) (nL pc y n ci : Nat) : Prop :=
  ∀ (As rest : List Value) (ls : Array Slot) (H : Heap) (locs : List Loc) (cells slots : Nat) (Pc : Array Value → State → Prop) (Qc : Array Value → State → Outcome → State → Prop), Met l (gY y) (gW y) (gM y) Pc Qc (gM y).cells (gM y).slots (fun q => d.1 ≤ q) → As.length = n → ls.size = nL → (rest.map fun v => v.category).sum ≤ 8 → cells + (gM y).cells ≤ R.cells ∧ slots + (gM y).slots ≤ R.slots → FrameBlind Pc → (∀ U : State, U.heap = H → s.WarmedH U.vm → Pc As.toArray U) → RV s H As ci →
    va_Run p l e R s m args below meth c H locs cells slots (gM y).cells (gM y).slots (F0 m pc ls (As.reverse ++ rest)) rest (Qc As.toArray) (fun q => d.1 ≤ q)
theorem s_call {y n rv ci mc ms : Nat} (hmc : (gM y).cells = mc) (hms : (gM y).slots = ms) (hrun : RunK p l e R s m args below meth c d nL pc y n ci) (hKN : KN d E s) (hb0 : d.1 ≤ s.heap.size) : HS (OKs p l e R s m args below meth c Q d E nL) F (cOK l d E) kO pcs pc (h_call y n rv ci mc ms R.cells R.slots) (pc + 3) := by
  intro call j K nx L S h hcall hj hK0 hn hi ls H locs cells slots hl hH
  subst hmc
  subst hms
  obtain ⟨as, S', e9, hn9, hi9⟩ := mm_pn_s hi
  clear hi
  have hi := hi9
  clear hi9
  subst e9
  rw [List.append_nil] at hi
  obtain ⟨g, hi9⟩ := mm_b_s hi
  clear hi
  have hi := hi9
  clear hi9
  have hi := mm_f_s hi
  have hi := mm_f_s hi
  obtain ⟨g1, hi9⟩ := mm_b_s hi
  clear hi
  have hi := hi9
  clear hi9
  obtain ⟨g2, hi9⟩ := mm_b_s hi
  clear hi
  have hi := hi9
  clear hi9
  obtain ⟨g3, hi9⟩ := mm_b_s hi
  clear hi
  have hi := hi9
  clear hi9
  have g := cat_sum d S' (ble_s g)
  have g1 : h.2.1 + (gM y).cells ≤ R.cells := ble_s g1
  have g2 : h.2.2.1 + (gM y).slots ≤ R.slots := ble_s g2
  obtain ⟨h1, h2, h3, h4, h5, h6, h7⟩ := hH
  have hM := hcall _ _ _ _ _ hi h3.1
  have hrv : RV s H (as.map (dn d)) ci := by
    rcases ci with _ | _ | k
    · trivial
    · obtain ⟨x, xs, rfl, g3⟩ := mm_p_s g3
      obtain ⟨a, rfl, -⟩ := mm_r_s g3
      exact ⟨_, _, rfl⟩
    · obtain ⟨x, xs, rfl, g3⟩ := mm_p_s g3
      obtain ⟨a, rfl, g3⟩ := mm_r_s g3
      obtain ⟨c1, hc1, g3⟩ := mm_n_s g3
      obtain ⟨ci', fs, rfl, g3⟩ := mm_ob_s g3
      obtain rfl := beq_s g3
      have hat := h1 a _ (wo_at hc1)
      obtain ⟨r, hr, -⟩ := hat
      exact ⟨_, _, r, rfl, hr, va_recv hKN.1 h1 hr (wo_at hc1)⟩
  have hsz : ∀ T : State, T.heap = H → Stand p l e R s m args below meth c T locs cells slots → h.1 = true → H.size = d.1 + h.2.2.2.length := by
    intro T hT X q
    have k1 : T.heap.size ≤ s.heap.size + cells := X.heapSize
    rw [hT, h4] at k1
    have k2 := h3.2 q
    have k3 : d.1 + h.2.2.2.length ≤ H.size := by
      by_cases hz : h.2.2.2.length = 0
      · have := h2.1
        omega
      · have hlt : h.2.2.2.length - 1 < h.2.2.2.length := by omega
        have := (h1 _ _ (wo_at (List.getElem?_eq_getElem hlt))).lt
        have t9 : d.1 + (h.2.2.2.length - 1) < H.size := this
        omega
    omega
  intro T hT X
  rw [List.map_append, List.map_reverse]
  obtain ⟨v, st₀, t, T', L9, k0, X', kL, e1, e2, ⟨v', hp', kK, ko, kP, kF, ksz⟩, st⟩ := hrun (as.map (dn d)) (S'.map (dn d)) ls H locs cells slots (PcM d E as h.2.2.2) _ hM (by rw [List.length_map]; exact hn9) hl.1 g ⟨by rw [h4]; exact g1, by rw [h5]; exact g2⟩ PcM.blind (fun U hU hW => ⟨rfl, hKN.next hW (fun q a1 a2 => by rw [hU]; exact h2.2.1 q a1 a2), by rw [hU]; exact h1, fun q => by rw [hU]; exact hsz T hT X (h3.1.trans q), by rw [hU]; exact Nat.le_trans hb0 h2.1⟩) hrv T hT X
  have ev : v = v'.map (dn d) := by
    injection ko
  subst ev
  obtain ⟨f1, f2⟩ := kF
  rw [k0] at f1 f2 ksz
  have hH' : HR d E s R (h.1, h.2.1 + (gM y).cells, h.2.2.1 + (gM y).slots, hp') t.heap (locs ++ L9) (cells + (gM y).cells) (slots + (gM y).slots) := by
    refine ⟨kP, ⟨Nat.le_trans h2.1 f1, fun q a1 a2 => (f2 q (Nat.lt_of_lt_of_le a1 h2.1) a2).trans (h2.2.1 q a1 a2), fun q hq => ?_⟩, ⟨h3.1, fun q => ?_⟩, by rw [h4], by rw [h5], g1, g2⟩
    · rcases List.mem_append.mp hq with hq | hq
      · exact h2.2.2 q hq
      · exact kL q hq
    · show s.heap.size + (h.2.1 + (gM y).cells) = d.1 + hp'.length
      have a1 := h3.2 q
      have a2 := ksz (h3.1.symm.trans q)
      have a3 := hsz T hT X q
      omega
  cases rv with
  | zero =>
    cases v' with
    | none =>
      obtain ⟨t2, a1, b1⟩ := hn _ _ _ kK ls t.heap (locs ++ L9) _ _ hl hH' T' e1 X'
      exact ⟨t2, st t2 a1, b1⟩
    | some v' => cases kK
  | succ rv =>
    cases v' with
    | none => cases kK
    | some v' =>
      obtain ⟨-, kK⟩ := mm_ci_s d kK
      obtain ⟨t2, a1, b1⟩ := hn _ _ _ kK ls t.heap (locs ++ L9) _ _ hl hH' T' e1 X'
      exact ⟨t2, st t2 a1, b1⟩
theorem rk_V (hx : p.tables.exec = Jvm.exec) (hb : c.code = cc) (hml : c.maxLocals = nL) {own : String} {index y n : Nat} (hown : s.vm.findClass own = some m.cls) (hts : ∀ w ∈ lw_g, w.before args s = true) (hcode : Cond.code (gY y) (gB y) (nl y) (gT y) ∈ lw_g) {k : Nat} {r : vw_C} (hr : xcl[k]? = some r) (hC : (gY y).cls = r.1) (w1 : Cond.methodLink own index (gY y) ∈ lw_g) (w2 : Cond.instanceMethod (gY y) ∈ lw_g) (w3 : Cond.selects r.1 (gY y) (gY y) ∈ lw_g) (w4 : Cond.initialized (gY y).cls ∈ lw_g)
    (hp : (gY y).cls ≠ "java/lang/invoke/MethodHandle" ∧ (gY y).cls ≠ "java/lang/invoke/VarHandle" ∧ (parseMethodDescriptor (gY y).desc).map (fun d => d.parameters.length) = some n) (hR : (gM y).frames + 1 ≤ R.frames ∧ 8 + (nl y + 11) + (gM y).locals ≤ R.locals) (hd : decode cc pc = .ok (.invokevirtual index, 3)) : RunK p l e R s m args below meth c d nL pc y (n + 1) (k + 2) := by
  intro As rest ls H locs cells slots Pc Qc hM hlen hls hcat hroom hbl hpre hrv
  obtain ⟨b, As', r', rfl, hr', hcell⟩ := hrv
  obtain rfl : r' = r := Option.some.inj (hr'.symm.trans hr)
  have h0 := va_runV (As := As') (b := b) (rest := rest) (C := r'.1) (n := n) (bytes := gB y) (maxL := nl y) (ret := gT y) (locs := locs) (cells := cells) (slots := slots) (below := below) (meth := meth) (e := e) (g := F0 m pc ls ((Value.ref b :: As').reverse ++ rest)) ⟨hx, hb, hml, hown, hts⟩ hM ⟨callB_of n hts (lw_g_good hcode) rfl rfl rfl (hts _ w4) (hts _ w1) hp hR, hts _ w2, hts _ w3⟩ ⟨hbl, hcell, hpre⟩ rfl (by simpa using hlen) hls (by simp) (lv_room hcat) hd hroom
  exact h0
theorem rk_S (hx : p.tables.exec = Jvm.exec) (hb : c.code = cc) (hml : c.maxLocals = nL) {own : String} {index y n : Nat} (hown : s.vm.findClass own = some m.cls) (hts : ∀ w ∈ lw_g, w.before args s = true) (hcode : Cond.code (gY y) (gB y) (nl y) (gT y) ∈ lw_g) (w1 : Cond.methodLink own index (gY y) ∈ lw_g) (w2 : Cond.static (gY y) ∈ lw_g) (w4 : Cond.initialized (gY y).cls ∈ lw_g)
    (hp : (gY y).cls ≠ "java/lang/invoke/MethodHandle" ∧ (gY y).cls ≠ "java/lang/invoke/VarHandle" ∧ (parseMethodDescriptor (gY y).desc).map (fun d => d.parameters.length) = some n) (hR : (gM y).frames + 1 ≤ R.frames ∧ 8 + (nl y + 11) + (gM y).locals ≤ R.locals) (hd : decode cc pc = .ok (.invokestatic index, 3)) : RunK p l e R s m args below meth c d nL pc y n 0 := by
  intro As rest ls H locs cells slots Pc Qc hM hlen hls hcat hroom hbl hpre hrv
  exact va_runS (As := As) (rest := rest) (n := n) (bytes := gB y) (maxL := nl y) (ret := gT y) (g := F0 m pc ls (As.reverse ++ rest)) ⟨hx, hb, hml, hown, hts⟩ hM ⟨callB_of n hts (lw_g_good hcode) rfl rfl rfl (hts _ w4) (hts _ w1) hp hR, hts _ w2⟩ ⟨hbl, hpre⟩ rfl hlen hls rfl (lv_room hcat) hd hroom
theorem rk_SN (hx : p.tables.exec = Jvm.exec) (hb : c.code = cc) (hml : c.maxLocals = nL) {own : String} {index y n : Nat} (hown : s.vm.findClass own = some m.cls) (hts : ∀ w ∈ lw_g, w.before args s = true) (hcode : Cond.code (gY y) (gB y) (nl y) (gT y) ∈ lw_g) {host : String} (w1 : va_Nw (.methodLinkNest own index (gY y) host) s) (w2 : Cond.static (gY y) ∈ lw_g) (w4 : Cond.initialized (gY y).cls ∈ lw_g)
    (hp : (gY y).cls ≠ "java/lang/invoke/MethodHandle" ∧ (gY y).cls ≠ "java/lang/invoke/VarHandle" ∧ (parseMethodDescriptor (gY y).desc).map (fun d => d.parameters.length) = some n) (hR : (gM y).frames + 1 ≤ R.frames ∧ 8 + (nl y + 11) + (gM y).locals ≤ R.locals) (hd : decode cc pc = .ok (.invokestatic index, 3)) : RunK p l e R s m args below meth c d nL pc y n 0 := by
  intro As rest ls H locs cells slots Pc Qc hM hlen hls hcat hroom hbl hpre hrv
  exact va_runSN (As := As) (rest := rest) (n := n) (bytes := gB y) (maxL := nl y) (ret := gT y) (host := host) (g := F0 m pc ls (As.reverse ++ rest)) ⟨hx, hb, hml, hown, hts⟩ hM ⟨va_cnB n hts (lw_g_good hcode) rfl rfl rfl w1 (hts _ w4) hp hR, hts _ w2, trivial⟩ ⟨hbl, hpre⟩ rfl hlen hls rfl (lv_room hcat) hd hroom
theorem rk_IN (hx : p.tables.exec = Jvm.exec) (hb : c.code = cc) (hml : c.maxLocals = nL) {own : String} {index y n : Nat} (hown : s.vm.findClass own = some m.cls) (hts : ∀ w ∈ lw_g, w.before args s = true) (hcode : Cond.code (gY y) (gB y) (nl y) (gT y) ∈ lw_g) {host : String} (hT : gT y = none) (hini : (gY y).name = "<init>") (w1 : va_Nw (.methodLinkNest own index (gY y) host) s) (w2 : Cond.instanceMethod (gY y) ∈ lw_g) (w4 : Cond.initialized (gY y).cls ∈ lw_g)
    (hp : (gY y).cls ≠ "java/lang/invoke/MethodHandle" ∧ (gY y).cls ≠ "java/lang/invoke/VarHandle" ∧ (parseMethodDescriptor (gY y).desc).map (fun d => d.parameters.length) = some n) (hR : (gM y).frames + 1 ≤ R.frames ∧ 8 + (nl y + 11) + (gM y).locals ≤ R.locals) (hd : decode cc pc = .ok (.invokespecial index, 3)) : RunK p l e R s m args below meth c d nL pc y (n + 1) 1 := by
  intro As rest ls H locs cells slots Pc Qc hM hlen hls hcat hroom hbl hpre hrv
  obtain ⟨b, As', rfl⟩ := hrv
  rw [hT] at hcode
  have hw : gW y = Cond.code (gY y) (gB y) (nl y) none :: lw_g := by unfold gW; rw [hT]
  rw [hw] at hM
  exact va_runIN (As := As') (b := b) (rest := rest) (n := n) (bytes := gB y) (maxL := nl y) (host := host) (g := F0 m pc ls ((Value.ref b :: As').reverse ++ rest)) ⟨hx, hb, hml, hown, hts⟩ hM ⟨va_cnB n hts (lw_g_good hcode) rfl rfl rfl w1 (hts _ w4) hp hR, hini, hts _ w2⟩ ⟨hbl, hpre⟩ rfl (by simpa using hlen) hls (by simp) (lv_room hcat) hd hroom
theorem rk_I (hx : p.tables.exec = Jvm.exec) (hb : c.code = cc) (hml : c.maxLocals = nL) {own : String} {index y n : Nat} (hown : s.vm.findClass own = some m.cls) (hts : ∀ w ∈ lw_g, w.before args s = true) (hcode : Cond.code (gY y) (gB y) (nl y) (gT y) ∈ lw_g) (hT : gT y = none) (hini : (gY y).name = "<init>") (w1 : Cond.methodLink own index (gY y) ∈ lw_g) (w2 : Cond.instanceMethod (gY y) ∈ lw_g) (w4 : Cond.initialized (gY y).cls ∈ lw_g)
    (hp : (gY y).cls ≠ "java/lang/invoke/MethodHandle" ∧ (gY y).cls ≠ "java/lang/invoke/VarHandle" ∧ (parseMethodDescriptor (gY y).desc).map (fun d => d.parameters.length) = some n) (hR : (gM y).frames + 1 ≤ R.frames ∧ 8 + (nl y + 11) + (gM y).locals ≤ R.locals) (hd : decode cc pc = .ok (.invokespecial index, 3)) : RunK p l e R s m args below meth c d nL pc y (n + 1) 1 := by
  intro As rest ls H locs cells slots Pc Qc hM hlen hls hcat hroom hbl hpre hrv
  obtain ⟨b, As', rfl⟩ := hrv
  rw [hT] at hcode
  have hw : gW y = Cond.code (gY y) (gB y) (nl y) none :: lw_g := by unfold gW; rw [hT]
  rw [hw] at hM
  exact va_runI (As := As') (b := b) (rest := rest) (n := n) (bytes := gB y) (maxL := nl y) (g := F0 m pc ls ((Value.ref b :: As').reverse ++ rest)) ⟨hx, hb, hml, hown, hts⟩ hM ⟨callB_of n hts (lw_g_good hcode) rfl rfl rfl (hts _ w4) (hts _ w1) hp hR, hini, hts _ w2⟩ ⟨hbl, hpre⟩ rfl (by simpa using hlen) hls (by simp) (lv_room hcat) hd hroom
end SND
