-- ===== PART A: goes FIRST, ahead of the names: the tables' words, and 'selects' of the private methods out of them =====
/-- a private method of a class that the tables say can be made, by its rows of tables_1 -/
def lw_okq (q : MethodName × Nat) : Prop := (q.1.cls ≠ "java/lang/invoke/MethodHandle" ∧ q.1.cls ≠ "java/lang/invoke/VarHandle") ∧ Cond.instantiable q.1.cls q.2 ∈ tables_1 ∧ Cond.privateMethod q.1 ∈ tables_1 ∧ Cond.instanceMethod q.1 ∈ tables_1
theorem lw_p0 : lw_okq (⟨"RudeCoupons", "layText", "()I"⟩, 11) := ⟨⟨by decide +kernel, by decide +kernel⟩, List.mem_of_getElem? (i := 17) (by decide +kernel), List.mem_of_getElem? (i := 266) (by decide +kernel), List.mem_of_getElem? (i := 267) (by decide +kernel)⟩
theorem lw_p1 : lw_okq (⟨"RudeCoupons", "leftIfTaken", "(I)I"⟩, 11) := ⟨⟨by decide +kernel, by decide +kernel⟩, List.mem_of_getElem? (i := 17) (by decide +kernel), List.mem_of_getElem? (i := 400) (by decide +kernel), List.mem_of_getElem? (i := 401) (by decide +kernel)⟩
theorem lw_p2 : lw_okq (⟨"RudeCoupons", "growthByGiving", "(II)I"⟩, 11) := ⟨⟨by decide +kernel, by decide +kernel⟩, List.mem_of_getElem? (i := 17) (by decide +kernel), List.mem_of_getElem? (i := 494) (by decide +kernel), List.mem_of_getElem? (i := 495) (by decide +kernel)⟩
theorem lw_p3 : lw_okq (⟨"RudeCoupons", "sufferingUnder", "(I)I"⟩, 11) := ⟨⟨by decide +kernel, by decide +kernel⟩, List.mem_of_getElem? (i := 17) (by decide +kernel), List.mem_of_getElem? (i := 530) (by decide +kernel), List.mem_of_getElem? (i := 531) (by decide +kernel)⟩
theorem lw_p4 : lw_okq (⟨"RudeCouponsModel", "clearTold", "()V"⟩, 28) := ⟨⟨by decide +kernel, by decide +kernel⟩, List.mem_of_getElem? (i := 623) (by decide +kernel), List.mem_of_getElem? (i := 629) (by decide +kernel), List.mem_of_getElem? (i := 630) (by decide +kernel)⟩
theorem lw_p5 : lw_okq (⟨"RudeCouponsModel", "tellsPerson", "(III)V"⟩, 28) := ⟨⟨by decide +kernel, by decide +kernel⟩, List.mem_of_getElem? (i := 623) (by decide +kernel), List.mem_of_getElem? (i := 633) (by decide +kernel), List.mem_of_getElem? (i := 634) (by decide +kernel)⟩
theorem lw_p6 : lw_okq (⟨"RudeCouponsModel", "tellsDoing", "(III)V"⟩, 28) := ⟨⟨by decide +kernel, by decide +kernel⟩, List.mem_of_getElem? (i := 623) (by decide +kernel), List.mem_of_getElem? (i := 637) (by decide +kernel), List.mem_of_getElem? (i := 638) (by decide +kernel)⟩
theorem lw_p7 : lw_okq (⟨"RudeCouponsModel", "tellsOccasion", "(III)V"⟩, 28) := ⟨⟨by decide +kernel, by decide +kernel⟩, List.mem_of_getElem? (i := 623) (by decide +kernel), List.mem_of_getElem? (i := 641) (by decide +kernel), List.mem_of_getElem? (i := 642) (by decide +kernel)⟩
theorem lw_p8 : lw_okq (⟨"RudeCouponsModel", "settles", "()V"⟩, 28) := ⟨⟨by decide +kernel, by decide +kernel⟩, List.mem_of_getElem? (i := 623) (by decide +kernel), List.mem_of_getElem? (i := 645) (by decide +kernel), List.mem_of_getElem? (i := 646) (by decide +kernel)⟩
theorem lw_p9 : lw_okq (⟨"RudeCouponsModel", "readItem", "()Z"⟩, 28) := ⟨⟨by decide +kernel, by decide +kernel⟩, List.mem_of_getElem? (i := 623) (by decide +kernel), List.mem_of_getElem? (i := 752) (by decide +kernel), List.mem_of_getElem? (i := 753) (by decide +kernel)⟩
theorem lw_p10 : lw_okq (⟨"RudeCouponsModel", "letterAt", "(I)I"⟩, 28) := ⟨⟨by decide +kernel, by decide +kernel⟩, List.mem_of_getElem? (i := 623) (by decide +kernel), List.mem_of_getElem? (i := 756) (by decide +kernel), List.mem_of_getElem? (i := 757) (by decide +kernel)⟩
theorem lw_p11 : lw_okq (⟨"RudeCouponsModel", "readPersonOf", "()Z"⟩, 28) := ⟨⟨by decide +kernel, by decide +kernel⟩, List.mem_of_getElem? (i := 623) (by decide +kernel), List.mem_of_getElem? (i := 760) (by decide +kernel), List.mem_of_getElem? (i := 761) (by decide +kernel)⟩
theorem lw_p12 : lw_okq (⟨"RudeCouponsModel", "readNumbers", "(I)Z"⟩, 28) := ⟨⟨by decide +kernel, by decide +kernel⟩, List.mem_of_getElem? (i := 623) (by decide +kernel), List.mem_of_getElem? (i := 764) (by decide +kernel), List.mem_of_getElem? (i := 765) (by decide +kernel)⟩
theorem lw_p13 : lw_okq (⟨"RudeCouponsModel", "isTold", "(III)Z"⟩, 28) := ⟨⟨by decide +kernel, by decide +kernel⟩, List.mem_of_getElem? (i := 623) (by decide +kernel), List.mem_of_getElem? (i := 771) (by decide +kernel), List.mem_of_getElem? (i := 772) (by decide +kernel)⟩
theorem lw_p14 : lw_okq (⟨"RudeCouponsModel", "readDoingOf", "()Z"⟩, 28) := ⟨⟨by decide +kernel, by decide +kernel⟩, List.mem_of_getElem? (i := 623) (by decide +kernel), List.mem_of_getElem? (i := 775) (by decide +kernel), List.mem_of_getElem? (i := 776) (by decide +kernel)⟩
theorem lw_p15 : lw_okq (⟨"RudeCouponsModel", "readOccasionOf", "()Z"⟩, 28) := ⟨⟨by decide +kernel, by decide +kernel⟩, List.mem_of_getElem? (i := 623) (by decide +kernel), List.mem_of_getElem? (i := 779) (by decide +kernel), List.mem_of_getElem? (i := 780) (by decide +kernel)⟩
def lw_privs_1 : List (MethodName × Nat) := [(⟨"RudeCoupons", "layText", "()I"⟩, 11), (⟨"RudeCoupons", "leftIfTaken", "(I)I"⟩, 11), (⟨"RudeCoupons", "growthByGiving", "(II)I"⟩, 11), (⟨"RudeCoupons", "sufferingUnder", "(I)I"⟩, 11), (⟨"RudeCouponsModel", "clearTold", "()V"⟩, 28), (⟨"RudeCouponsModel", "tellsPerson", "(III)V"⟩, 28), (⟨"RudeCouponsModel", "tellsDoing", "(III)V"⟩, 28), (⟨"RudeCouponsModel", "tellsOccasion", "(III)V"⟩, 28), (⟨"RudeCouponsModel", "settles", "()V"⟩, 28), (⟨"RudeCouponsModel", "readItem", "()Z"⟩, 28), (⟨"RudeCouponsModel", "letterAt", "(I)I"⟩, 28), (⟨"RudeCouponsModel", "readPersonOf", "()Z"⟩, 28), (⟨"RudeCouponsModel", "readNumbers", "(I)Z"⟩, 28), (⟨"RudeCouponsModel", "isTold", "(III)Z"⟩, 28), (⟨"RudeCouponsModel", "readDoingOf", "()Z"⟩, 28), (⟨"RudeCouponsModel", "readOccasionOf", "()Z"⟩, 28)]
theorem lw_r1 : ∀ q ∈ lw_privs_1, lw_okq q := List.forall_mem_cons.mpr ⟨lw_p0, List.forall_mem_cons.mpr ⟨lw_p1, List.forall_mem_cons.mpr ⟨lw_p2, List.forall_mem_cons.mpr ⟨lw_p3, List.forall_mem_cons.mpr ⟨lw_p4, List.forall_mem_cons.mpr ⟨lw_p5, List.forall_mem_cons.mpr ⟨lw_p6, List.forall_mem_cons.mpr ⟨lw_p7, List.forall_mem_cons.mpr ⟨lw_p8, List.forall_mem_cons.mpr ⟨lw_p9, List.forall_mem_cons.mpr ⟨lw_p10, List.forall_mem_cons.mpr ⟨lw_p11, List.forall_mem_cons.mpr ⟨lw_p12, List.forall_mem_cons.mpr ⟨lw_p13, List.forall_mem_cons.mpr ⟨lw_p14, List.forall_mem_cons.mpr ⟨lw_p15, fun _ h => absurd h List.not_mem_nil⟩⟩⟩⟩⟩⟩⟩⟩⟩⟩⟩⟩⟩⟩⟩⟩
theorem lw_p16 : lw_okq (⟨"RudeCouponsModel", "isPerson", "(I)Z"⟩, 28) := ⟨⟨by decide +kernel, by decide +kernel⟩, List.mem_of_getElem? (i := 623) (by decide +kernel), List.mem_of_getElem? (i := 792) (by decide +kernel), List.mem_of_getElem? (i := 793) (by decide +kernel)⟩
theorem lw_p17 : lw_okq (⟨"RudeCouponsModel", "isOccasion", "(I)Z"⟩, 28) := ⟨⟨by decide +kernel, by decide +kernel⟩, List.mem_of_getElem? (i := 623) (by decide +kernel), List.mem_of_getElem? (i := 804) (by decide +kernel), List.mem_of_getElem? (i := 805) (by decide +kernel)⟩
theorem lw_p18 : lw_okq (⟨"RudeCouponsModel", "canBe", "(I)Z"⟩, 28) := ⟨⟨by decide +kernel, by decide +kernel⟩, List.mem_of_getElem? (i := 623) (by decide +kernel), List.mem_of_getElem? (i := 808) (by decide +kernel), List.mem_of_getElem? (i := 809) (by decide +kernel)⟩
theorem lw_p19 : lw_okq (⟨"RudeCouponsModel", "whoOf", "(I)I"⟩, 28) := ⟨⟨by decide +kernel, by decide +kernel⟩, List.mem_of_getElem? (i := 623) (by decide +kernel), List.mem_of_getElem? (i := 815) (by decide +kernel), List.mem_of_getElem? (i := 816) (by decide +kernel)⟩
theorem lw_p20 : lw_okq (⟨"RudeCouponsModel", "leavesBy", "(II)I"⟩, 28) := ⟨⟨by decide +kernel, by decide +kernel⟩, List.mem_of_getElem? (i := 623) (by decide +kernel), List.mem_of_getElem? (i := 819) (by decide +kernel), List.mem_of_getElem? (i := 820) (by decide +kernel)⟩
theorem lw_p21 : lw_okq (⟨"RudeCouponsModel", "leaves", "(IIII)I"⟩, 28) := ⟨⟨by decide +kernel, by decide +kernel⟩, List.mem_of_getElem? (i := 623) (by decide +kernel), List.mem_of_getElem? (i := 823) (by decide +kernel), List.mem_of_getElem? (i := 824) (by decide +kernel)⟩
theorem lw_p22 : lw_okq (⟨"RudeCouponsModel", "remembers", "()V"⟩, 28) := ⟨⟨by decide +kernel, by decide +kernel⟩, List.mem_of_getElem? (i := 623) (by decide +kernel), List.mem_of_getElem? (i := 831) (by decide +kernel), List.mem_of_getElem? (i := 832) (by decide +kernel)⟩
theorem lw_p23 : lw_okq (⟨"RudeCouponsModel", "worthOf", "(I)I"⟩, 28) := ⟨⟨by decide +kernel, by decide +kernel⟩, List.mem_of_getElem? (i := 623) (by decide +kernel), List.mem_of_getElem? (i := 835) (by decide +kernel), List.mem_of_getElem? (i := 836) (by decide +kernel)⟩
theorem lw_p24 : lw_okq (⟨"RudeCouponsModel", "suffers", "(II)I"⟩, 28) := ⟨⟨by decide +kernel, by decide +kernel⟩, List.mem_of_getElem? (i := 623) (by decide +kernel), List.mem_of_getElem? (i := 839) (by decide +kernel), List.mem_of_getElem? (i := 840) (by decide +kernel)⟩
theorem lw_p25 : lw_okq (⟨"RudeCouponsModel", "allCoupons", "()I"⟩, 28) := ⟨⟨by decide +kernel, by decide +kernel⟩, List.mem_of_getElem? (i := 623) (by decide +kernel), List.mem_of_getElem? (i := 855) (by decide +kernel), List.mem_of_getElem? (i := 856) (by decide +kernel)⟩
theorem lw_p26 : lw_okq (⟨"RudeCouponsModel", "bestBy", "(II)I"⟩, 28) := ⟨⟨by decide +kernel, by decide +kernel⟩, List.mem_of_getElem? (i := 623) (by decide +kernel), List.mem_of_getElem? (i := 867) (by decide +kernel), List.mem_of_getElem? (i := 868) (by decide +kernel)⟩
theorem lw_p27 : lw_okq (⟨"RudeCouponsModel", "worthBy", "(II)I"⟩, 28) := ⟨⟨by decide +kernel, by decide +kernel⟩, List.mem_of_getElem? (i := 623) (by decide +kernel), List.mem_of_getElem? (i := 871) (by decide +kernel), List.mem_of_getElem? (i := 872) (by decide +kernel)⟩
theorem lw_p28 : lw_okq (⟨"RudeCouponsModel", "findShares", "()V"⟩, 28) := ⟨⟨by decide +kernel, by decide +kernel⟩, List.mem_of_getElem? (i := 623) (by decide +kernel), List.mem_of_getElem? (i := 887) (by decide +kernel), List.mem_of_getElem? (i := 888) (by decide +kernel)⟩
theorem lw_p29 : lw_okq (⟨"RudeCouponsModel", "sufferedBy", "(I)I"⟩, 28) := ⟨⟨by decide +kernel, by decide +kernel⟩, List.mem_of_getElem? (i := 623) (by decide +kernel), List.mem_of_getElem? (i := 895) (by decide +kernel), List.mem_of_getElem? (i := 896) (by decide +kernel)⟩
theorem lw_p30 : lw_okq (⟨"RudeCouponsModel", "takenMany", "()I"⟩, 28) := ⟨⟨by decide +kernel, by decide +kernel⟩, List.mem_of_getElem? (i := 623) (by decide +kernel), List.mem_of_getElem? (i := 947) (by decide +kernel), List.mem_of_getElem? (i := 948) (by decide +kernel)⟩
def lw_privs_2 : List (MethodName × Nat) := [(⟨"RudeCouponsModel", "isPerson", "(I)Z"⟩, 28), (⟨"RudeCouponsModel", "isOccasion", "(I)Z"⟩, 28), (⟨"RudeCouponsModel", "canBe", "(I)Z"⟩, 28), (⟨"RudeCouponsModel", "whoOf", "(I)I"⟩, 28), (⟨"RudeCouponsModel", "leavesBy", "(II)I"⟩, 28), (⟨"RudeCouponsModel", "leaves", "(IIII)I"⟩, 28), (⟨"RudeCouponsModel", "remembers", "()V"⟩, 28), (⟨"RudeCouponsModel", "worthOf", "(I)I"⟩, 28), (⟨"RudeCouponsModel", "suffers", "(II)I"⟩, 28), (⟨"RudeCouponsModel", "allCoupons", "()I"⟩, 28), (⟨"RudeCouponsModel", "bestBy", "(II)I"⟩, 28), (⟨"RudeCouponsModel", "worthBy", "(II)I"⟩, 28), (⟨"RudeCouponsModel", "findShares", "()V"⟩, 28), (⟨"RudeCouponsModel", "sufferedBy", "(I)I"⟩, 28), (⟨"RudeCouponsModel", "takenMany", "()I"⟩, 28)]
theorem lw_r2 : ∀ q ∈ lw_privs_2, lw_okq q := List.forall_mem_cons.mpr ⟨lw_p16, List.forall_mem_cons.mpr ⟨lw_p17, List.forall_mem_cons.mpr ⟨lw_p18, List.forall_mem_cons.mpr ⟨lw_p19, List.forall_mem_cons.mpr ⟨lw_p20, List.forall_mem_cons.mpr ⟨lw_p21, List.forall_mem_cons.mpr ⟨lw_p22, List.forall_mem_cons.mpr ⟨lw_p23, List.forall_mem_cons.mpr ⟨lw_p24, List.forall_mem_cons.mpr ⟨lw_p25, List.forall_mem_cons.mpr ⟨lw_p26, List.forall_mem_cons.mpr ⟨lw_p27, List.forall_mem_cons.mpr ⟨lw_p28, List.forall_mem_cons.mpr ⟨lw_p29, List.forall_mem_cons.mpr ⟨lw_p30, fun _ h => absurd h List.not_mem_nil⟩⟩⟩⟩⟩⟩⟩⟩⟩⟩⟩⟩⟩⟩⟩
def lw_privs : List (MethodName × Nat) := lw_privs_1 ++ (lw_privs_2)
def lw_tbl : List Cond := k2_sels lw_privs ++ tables_1
theorem lw_privs_ok : ∀ q ∈ lw_privs, lw_okq q := by
  show ∀ q ∈ lw_privs_1 ++ (lw_privs_2), lw_okq q
  exact List.forall_mem_append.mpr ⟨lw_r1, lw_r2⟩
def RX0 : String := "RudeCoupons$Book"
def TX0 : u_T := fun k => match k with
  | 0 => ("RudeCoupons$Book", "persons", "I", false)
  | 1 => ("RudeCoupons$Book", "kind", "[I", true)
  | 2 => ("RudeCoupons$Book", "told", "[I", true)
  | 3 => ("RudeCoupons$Book", "skin", "[I", true)
  | 4 => ("RudeCoupons$Book", "doings", "I", false)
  | 5 => ("RudeCoupons$Book", "worth", "[I", true)
  | 6 => ("RudeCoupons$Book", "takes", "[I", true)
  | 7 => ("RudeCoupons$Book", "annoys", "[I", true)
  | 8 => ("RudeCoupons$Book", "occasions", "I", false)
  | 9 => ("RudeCoupons$Book", "day", "[I", true)
  | 10 => ("RudeCoupons$Book", "who", "[I", true)
  | 11 => ("RudeCoupons$Book", "does", "[I", true)
  | _ => ("RudeCoupons$Book", "byDays", "[I", true)
def tyX0 : Nat → FieldType := fun k => match k with
  | 0 => .int
  | 1 => .array .int
  | 2 => .array .int
  | 3 => .array .int
  | 4 => .int
  | 5 => .array .int
  | 6 => .array .int
  | 7 => .array .int
  | 8 => .int
  | 9 => .array .int
  | 10 => .array .int
  | 11 => .array .int
  | _ => .array .int
abbrev wsX00 : List Cond := u_ws RX0 TX0 13
theorem nmX0 : ∀ a, a < 13 → ∀ b, b < 13 → a ≠ b → (TX0 a).2.1 ≠ (TX0 b).2.1 := by decide +kernel
theorem tyX0_ok : ∀ k, k < 13 → parseFieldDescriptor (TX0 k).2.2.1 = some (tyX0 k) := by decide +kernel
abbrev cX0_init : ByteArray := prog_2_method_1_code
def yX0_init : MethodName := ⟨RX0, "<init>", "()V"⟩
abbrev cX0_clear : ByteArray := prog_2_method_2_code
def yX0_clear : MethodName := ⟨RX0, "clear", "()V"⟩
abbrev cX0_hasPerson : ByteArray := prog_2_method_3_code
def yX0_hasPerson : MethodName := ⟨RX0, "hasPerson", "(I)Z"⟩
abbrev cX0_hasDoing : ByteArray := prog_2_method_4_code
def yX0_hasDoing : MethodName := ⟨RX0, "hasDoing", "(I)Z"⟩
abbrev cX0_hasOccasion : ByteArray := prog_2_method_5_code
def yX0_hasOccasion : MethodName := ⟨RX0, "hasOccasion", "(I)Z"⟩
abbrev cX0_add : ByteArray := prog_2_method_6_code
def yX0_add : MethodName := ⟨RX0, "add", "(CIII)Z"⟩
abbrev cX0_addPerson : ByteArray := prog_2_method_7_code
def yX0_addPerson : MethodName := ⟨RX0, "addPerson", "(III)Z"⟩
abbrev cX0_addDoing : ByteArray := prog_2_method_8_code
def yX0_addDoing : MethodName := ⟨RX0, "addDoing", "(III)Z"⟩
abbrev cX0_addOccasion : ByteArray := prog_2_method_9_code
def yX0_addOccasion : MethodName := ⟨RX0, "addOccasion", "(III)Z"⟩
abbrev cX0_leftAfter : ByteArray := prog_2_method_10_code
def yX0_leftAfter : MethodName := ⟨RX0, "leftAfter", "(IIII)I"⟩
abbrev cX0_sufferingOf : ByteArray := prog_2_method_11_code
def yX0_sufferingOf : MethodName := ⟨RX0, "sufferingOf", "(III)I"⟩
abbrev cX0_sufferingOfAll : ByteArray := prog_2_method_12_code
def yX0_sufferingOfAll : MethodName := ⟨RX0, "sufferingOfAll", "(II)I"⟩
def RX1 : String := "RudeCoupons$Letters"
def TX1 : u_T := fun k => match k with
  | 0 => ("RudeCoupons$Letters", "row", "[C", true)
  | _ => ("RudeCoupons$Letters", "length", "I", false)
def tyX1 : Nat → FieldType := fun k => match k with
  | 0 => .array .char
  | _ => .int
abbrev wsX10 : List Cond := u_ws RX1 TX1 2
theorem nmX1 : ∀ a, a < 2 → ∀ b, b < 2 → a ≠ b → (TX1 a).2.1 ≠ (TX1 b).2.1 := by decide +kernel
theorem tyX1_ok : ∀ k, k < 2 → parseFieldDescriptor (TX1 k).2.2.1 = some (tyX1 k) := by decide +kernel
abbrev cX1_init : ByteArray := prog_3_method_1_code
def yX1_init : MethodName := ⟨RX1, "<init>", "()V"⟩
abbrev cX1_add : ByteArray := prog_3_method_2_code
def yX1_add : MethodName := ⟨RX1, "add", "(C)Z"⟩
abbrev cX1_at : ByteArray := prog_3_method_3_code
def yX1_at : MethodName := ⟨RX1, "at", "(I)C"⟩
abbrev cX1_copy : ByteArray := prog_3_method_4_code
def yX1_copy : MethodName := ⟨RX1, "copy", "(LRudeCoupons$Letters;)V"⟩
def RX2 : String := "RudeCoupons$Plans"
def TX2 : u_T := fun k => match k with
  | 0 => ("RudeCoupons$Plans", "worth", "[[I", true)
  | 1 => ("RudeCoupons$Plans", "set", "[[I", true)
  | _ => ("RudeCoupons$Plans", "together", "[[I", true)
def tyX2 : Nat → FieldType := fun k => match k with
  | 0 => .array (.array .int)
  | 1 => .array (.array .int)
  | _ => .array (.array .int)
abbrev wsX20 : List Cond := u_ws RX2 TX2 3
theorem nmX2 : ∀ a, a < 3 → ∀ b, b < 3 → a ≠ b → (TX2 a).2.1 ≠ (TX2 b).2.1 := by decide +kernel
theorem tyX2_ok : ∀ k, k < 3 → parseFieldDescriptor (TX2 k).2.2.1 = some (tyX2 k) := by decide +kernel
abbrev cX2_init : ByteArray := prog_4_method_1_code
def yX2_init : MethodName := ⟨RX2, "<init>", "()V"⟩
abbrev cX2_make : ByteArray := prog_4_method_2_code
def yX2_make : MethodName := ⟨RX2, "make", "(LRudeCoupons$Book;LRudeCoupons$Standing;I)V"⟩
abbrev cX2_addOccasion : ByteArray := prog_4_method_3_code
def yX2_addOccasion : MethodName := ⟨RX2, "addOccasion", "(LRudeCoupons$Book;II)V"⟩
abbrev cX2_makeAll : ByteArray := prog_4_method_4_code
def yX2_makeAll : MethodName := ⟨RX2, "makeAll", "(LRudeCoupons$Book;LRudeCoupons$Standing;)V"⟩
abbrev cX2_gain : ByteArray := prog_4_method_5_code
def yX2_gain : MethodName := ⟨RX2, "gain", "(II)I"⟩
abbrev cX2_partAll : ByteArray := prog_4_method_6_code
def yX2_partAll : MethodName := ⟨RX2, "partAll", "(II)V"⟩
abbrev cX2_mostFrom : ByteArray := prog_4_method_7_code
def yX2_mostFrom : MethodName := ⟨RX2, "mostFrom", "(II)I"⟩
abbrev cX2_withShare : ByteArray := prog_4_method_8_code
def yX2_withShare : MethodName := ⟨RX2, "withShare", "(III)I"⟩
abbrev cX2_shareOf : ByteArray := prog_4_method_9_code
def yX2_shareOf : MethodName := ⟨RX2, "shareOf", "(II)I"⟩
abbrev cX2_greatestShare : ByteArray := prog_4_method_10_code
def yX2_greatestShare : MethodName := ⟨RX2, "greatestShare", "(II)I"⟩
def RX3 : String := "RudeCoupons$Reader"
def TX3 : u_T := fun k => match k with
  | _ => ("RudeCoupons$Reader", "numbers", "[I", true)
def tyX3 : Nat → FieldType := fun k => match k with
  | _ => .array .int
abbrev wsX30 : List Cond := u_ws RX3 TX3 1
theorem nmX3 : ∀ a, a < 1 → ∀ b, b < 1 → a ≠ b → (TX3 a).2.1 ≠ (TX3 b).2.1 := by decide +kernel
theorem tyX3_ok : ∀ k, k < 1 → parseFieldDescriptor (TX3 k).2.2.1 = some (tyX3 k) := by decide +kernel
abbrev cX3_init : ByteArray := prog_5_method_1_code
def yX3_init : MethodName := ⟨RX3, "<init>", "()V"⟩
abbrev cX3_readInto : ByteArray := prog_5_method_2_code
def yX3_readInto : MethodName := ⟨RX3, "readInto", "(LRudeCoupons$Book;LRudeCoupons$Letters;)I"⟩
abbrev cX3_readItem : ByteArray := prog_5_method_3_code
def yX3_readItem : MethodName := ⟨RX3, "readItem", "(LRudeCoupons$Book;LRudeCoupons$Letters;I)I"⟩
abbrev cX3_figuresAt : ByteArray := prog_5_method_4_code
def yX3_figuresAt : MethodName := ⟨RX3, "figuresAt", "(LRudeCoupons$Letters;I)I"⟩
abbrev cX3_numberAt : ByteArray := prog_5_method_5_code
def yX3_numberAt : MethodName := ⟨RX3, "numberAt", "(LRudeCoupons$Letters;II)I"⟩
abbrev cX3_isFigure : ByteArray := prog_5_method_6_code
def yX3_isFigure : MethodName := ⟨RX3, "isFigure", "(C)Z"⟩
def RX4 : String := "RudeCoupons$Shelf"
def TX4 : u_T := fun k => match k with
  | 0 => ("RudeCoupons$Shelf", "rows", "[LRudeCoupons$Standing;", true)
  | _ => ("RudeCoupons$Shelf", "size", "I", false)
def tyX4 : Nat → FieldType := fun k => match k with
  | 0 => .array (.object "RudeCoupons$Standing")
  | _ => .int
abbrev wsX40 : List Cond := u_ws RX4 TX4 2
theorem nmX4 : ∀ a, a < 2 → ∀ b, b < 2 → a ≠ b → (TX4 a).2.1 ≠ (TX4 b).2.1 := by decide +kernel
theorem tyX4_ok : ∀ k, k < 2 → parseFieldDescriptor (TX4 k).2.2.1 = some (tyX4 k) := by decide +kernel
abbrev cX4_init : ByteArray := prog_6_method_1_code
def yX4_init : MethodName := ⟨RX4, "<init>", "(I)V"⟩
abbrev cX4_put : ByteArray := prog_6_method_2_code
def yX4_put : MethodName := ⟨RX4, "put", "(LRudeCoupons$Standing;)V"⟩
abbrev cX4_dropOldest : ByteArray := prog_6_method_3_code
def yX4_dropOldest : MethodName := ⟨RX4, "dropOldest", "()V"⟩
abbrev cX4_takeInto : ByteArray := prog_6_method_4_code
def yX4_takeInto : MethodName := ⟨RX4, "takeInto", "(LRudeCoupons$Standing;)Z"⟩
def RX5 : String := "RudeCoupons$Sightings"
def TX5 : u_T := fun k => match k with
  | 0 => ("RudeCoupons$Sightings", "who", "[I", true)
  | 1 => ("RudeCoupons$Sightings", "did", "[I", true)
  | 2 => ("RudeCoupons$Sightings", "when", "[I", true)
  | _ => ("RudeCoupons$Sightings", "size", "I", false)
def tyX5 : Nat → FieldType := fun k => match k with
  | 0 => .array .int
  | 1 => .array .int
  | 2 => .array .int
  | _ => .int
abbrev wsX50 : List Cond := u_ws RX5 TX5 4
theorem nmX5 : ∀ a, a < 4 → ∀ b, b < 4 → a ≠ b → (TX5 a).2.1 ≠ (TX5 b).2.1 := by decide +kernel
theorem tyX5_ok : ∀ k, k < 4 → parseFieldDescriptor (TX5 k).2.2.1 = some (tyX5 k) := by decide +kernel
abbrev cX5_init : ByteArray := prog_7_method_1_code
def yX5_init : MethodName := ⟨RX5, "<init>", "()V"⟩
abbrev cX5_add : ByteArray := prog_7_method_2_code
def yX5_add : MethodName := ⟨RX5, "add", "(III)Z"⟩
abbrev cX5_couldBe : ByteArray := prog_7_method_3_code
def yX5_couldBe : MethodName := ⟨RX5, "couldBe", "(LRudeCoupons$Book;I)Z"⟩
def RX6 : String := "RudeCoupons$Standing"
def TX6 : u_T := fun k => match k with
  | 0 => ("RudeCoupons$Standing", "day", "I", false)
  | 1 => ("RudeCoupons$Standing", "taken", "I", false)
  | 2 => ("RudeCoupons$Standing", "coupons", "[I", true)
  | 3 => ("RudeCoupons$Standing", "had", "[I", true)
  | 4 => ("RudeCoupons$Standing", "suffered", "[I", true)
  | _ => ("RudeCoupons$Standing", "net", "[I", true)
def tyX6 : Nat → FieldType := fun k => match k with
  | 0 => .int
  | 1 => .int
  | 2 => .array .int
  | 3 => .array .int
  | 4 => .array .int
  | _ => .array .int
abbrev wsX60 : List Cond := u_ws RX6 TX6 6
theorem nmX6 : ∀ a, a < 6 → ∀ b, b < 6 → a ≠ b → (TX6 a).2.1 ≠ (TX6 b).2.1 := by decide +kernel
theorem tyX6_ok : ∀ k, k < 6 → parseFieldDescriptor (TX6 k).2.2.1 = some (tyX6 k) := by decide +kernel
abbrev cX6_init : ByteArray := prog_8_method_1_code
def yX6_init : MethodName := ⟨RX6, "<init>", "()V"⟩
abbrev cX6_begin : ByteArray := prog_8_method_2_code
def yX6_begin : MethodName := ⟨RX6, "begin", "(LRudeCoupons$Book;)V"⟩
abbrev cX6_copy : ByteArray := prog_8_method_3_code
def yX6_copy : MethodName := ⟨RX6, "copy", "(LRudeCoupons$Standing;)V"⟩
abbrev cX6_isTaken : ByteArray := prog_8_method_4_code
def yX6_isTaken : MethodName := ⟨RX6, "isTaken", "(I)Z"⟩
abbrev cX6_isAhead : ByteArray := prog_8_method_5_code
def yX6_isAhead : MethodName := ⟨RX6, "isAhead", "(LRudeCoupons$Book;I)Z"⟩
abbrev cX6_couponsOfAll : ByteArray := prog_8_method_6_code
def yX6_couponsOfAll : MethodName := ⟨RX6, "couponsOfAll", "()I"⟩
abbrev cX6_sufferedByAll : ByteArray := prog_8_method_7_code
def yX6_sufferedByAll : MethodName := ⟨RX6, "sufferedByAll", "()I"⟩
abbrev cX6_mostOfOne : ByteArray := prog_8_method_8_code
def yX6_mostOfOne : MethodName := ⟨RX6, "mostOfOne", "()I"⟩
def RX7 : String := "RudeCoupons"
def TX7 : u_T := fun k => match k with
  | 0 => ("RudeCoupons", "text", "LRudeCoupons$Letters;", true)
  | 1 => ("RudeCoupons", "reader", "LRudeCoupons$Reader;", true)
  | 2 => ("RudeCoupons", "now", "LRudeCoupons$Standing;", true)
  | 3 => ("RudeCoupons", "past", "LRudeCoupons$Shelf;", true)
  | 4 => ("RudeCoupons", "kept", "LRudeCoupons$Shelf;", true)
  | 5 => ("RudeCoupons", "keptTexts", "[LRudeCoupons$Letters;", true)
  | 6 => ("RudeCoupons", "sightings", "LRudeCoupons$Sightings;", true)
  | 7 => ("RudeCoupons", "plans", "LRudeCoupons$Plans;", true)
  | 8 => ("RudeCoupons", "couponsOfYear", "[I", true)
  | 9 => ("RudeCoupons", "book", "LRudeCoupons$Book;", false)
  | _ => ("RudeCoupons", "trial", "LRudeCoupons$Book;", false)
def tyX7 : Nat → FieldType := fun k => match k with
  | 0 => .object "RudeCoupons$Letters"
  | 1 => .object "RudeCoupons$Reader"
  | 2 => .object "RudeCoupons$Standing"
  | 3 => .object "RudeCoupons$Shelf"
  | 4 => .object "RudeCoupons$Shelf"
  | 5 => .array (.object "RudeCoupons$Letters")
  | 6 => .object "RudeCoupons$Sightings"
  | 7 => .object "RudeCoupons$Plans"
  | 8 => .array .int
  | 9 => .object "RudeCoupons$Book"
  | _ => .object "RudeCoupons$Book"
abbrev wsX70 : List Cond := u_ws RX7 TX7 11
theorem nmX7 : ∀ a, a < 11 → ∀ b, b < 11 → a ≠ b → (TX7 a).2.1 ≠ (TX7 b).2.1 := by decide +kernel
theorem tyX7_ok : ∀ k, k < 11 → parseFieldDescriptor (TX7 k).2.2.1 = some (tyX7 k) := by decide +kernel
abbrev cX7_init : ByteArray := prog_1_method_1_code
def yX7_init : MethodName := ⟨RX7, "<init>", "()V"⟩
abbrev cX7_write : ByteArray := prog_1_method_2_code
def yX7_write : MethodName := ⟨RX7, "write", "(I)I"⟩
abbrev cX7_wipe : ByteArray := prog_1_method_3_code
def yX7_wipe : MethodName := ⟨RX7, "wipe", "()I"⟩
abbrev cX7_fault : ByteArray := prog_1_method_4_code
def yX7_fault : MethodName := ⟨RX7, "fault", "()I"⟩
abbrev cX7_lay : ByteArray := prog_1_method_5_code
def yX7_lay : MethodName := ⟨RX7, "lay", "()I"⟩
abbrev cX7_person : ByteArray := prog_1_method_6_code
def yX7_person : MethodName := ⟨RX7, "person", "(II)I"⟩
abbrev cX7_doing : ByteArray := prog_1_method_7_code
def yX7_doing : MethodName := ⟨RX7, "doing", "(II)I"⟩
abbrev cX7_occasion : ByteArray := prog_1_method_8_code
def yX7_occasion : MethodName := ⟨RX7, "occasion", "(II)I"⟩
abbrev cX7_take : ByteArray := prog_1_method_9_code
def yX7_take : MethodName := ⟨RX7, "take", "(I)I"⟩
abbrev cX7_pass : ByteArray := prog_1_method_10_code
def yX7_pass : MethodName := ⟨RX7, "pass", "(I)I"⟩
abbrev cX7_give : ByteArray := prog_1_method_11_code
def yX7_give : MethodName := ⟨RX7, "give", "(III)I"⟩
abbrev cX7_ration : ByteArray := prog_1_method_12_code
def yX7_ration : MethodName := ⟨RX7, "ration", "(I)I"⟩
abbrev cX7_undo : ByteArray := prog_1_method_13_code
def yX7_undo : MethodName := ⟨RX7, "undo", "()I"⟩
abbrev cX7_best : ByteArray := prog_1_method_14_code
def yX7_best : MethodName := ⟨RX7, "best", "(II)I"⟩
abbrev cX7_more : ByteArray := prog_1_method_15_code
def yX7_more : MethodName := ⟨RX7, "more", "(I)I"⟩
abbrev cX7_giveBest : ByteArray := prog_1_method_16_code
def yX7_giveBest : MethodName := ⟨RX7, "giveBest", "(I)I"⟩
abbrev cX7_shared : ByteArray := prog_1_method_17_code
def yX7_shared : MethodName := ⟨RX7, "shared", "(I)I"⟩
abbrev cX7_rationFor : ByteArray := prog_1_method_18_code
def yX7_rationFor : MethodName := ⟨RX7, "rationFor", "(I)I"⟩
abbrev cX7_seen : ByteArray := prog_1_method_19_code
def yX7_seen : MethodName := ⟨RX7, "seen", "(III)I"⟩
abbrev cX7_forget : ByteArray := prog_1_method_20_code
def yX7_forget : MethodName := ⟨RX7, "forget", "()I"⟩
abbrev cX7_without : ByteArray := prog_1_method_21_code
def yX7_without : MethodName := ⟨RX7, "without", "()I"⟩
abbrev cX7_letGo : ByteArray := prog_1_method_22_code
def yX7_letGo : MethodName := ⟨RX7, "letGo", "(II)I"⟩
abbrev cX7_keepOne : ByteArray := prog_1_method_23_code
def yX7_keepOne : MethodName := ⟨RX7, "keepOne", "(III)I"⟩
abbrev cX7_net : ByteArray := prog_1_method_24_code
def yX7_net : MethodName := ⟨RX7, "net", "(I)I"⟩
abbrev cX7_heard : ByteArray := prog_1_method_25_code
def yX7_heard : MethodName := ⟨RX7, "heard", "(I)I"⟩
abbrev cX7_year : ByteArray := prog_1_method_26_code
def yX7_year : MethodName := ⟨RX7, "year", "(II)I"⟩
abbrev cX7_keep : ByteArray := prog_1_method_27_code
def yX7_keep : MethodName := ⟨RX7, "keep", "()I"⟩
abbrev cX7_back : ByteArray := prog_1_method_28_code
def yX7_back : MethodName := ⟨RX7, "back", "()I"⟩
abbrev cX7_count : ByteArray := prog_1_method_29_code
def yX7_count : MethodName := ⟨RX7, "count", "(I)I"⟩
abbrev cX7_layText : ByteArray := prog_1_method_30_code
def yX7_layText : MethodName := ⟨RX7, "layText", "()I"⟩
abbrev cX7_leftIfTaken : ByteArray := prog_1_method_31_code
def yX7_leftIfTaken : MethodName := ⟨RX7, "leftIfTaken", "(I)I"⟩
abbrev cX7_growthByGiving : ByteArray := prog_1_method_32_code
def yX7_growthByGiving : MethodName := ⟨RX7, "growthByGiving", "(II)I"⟩
abbrev cX7_sufferingUnder : ByteArray := prog_1_method_33_code
def yX7_sufferingUnder : MethodName := ⟨RX7, "sufferingUnder", "(I)I"⟩
abbrev cX7_isDrawn : ByteArray := prog_1_method_34_code
def yX7_isDrawn : MethodName := ⟨RX7, "isDrawn", "(II)Z"⟩
abbrev cX7_within : ByteArray := prog_1_method_35_code
def yX7_within : MethodName := ⟨RX7, "within", "(III)Z"⟩
abbrev cX7_sumOf : ByteArray := prog_1_method_36_code
def yX7_sumOf : MethodName := ⟨RX7, "sumOf", "([I)I"⟩
abbrev cX7_copyRow : ByteArray := prog_1_method_37_code
def yX7_copyRow : MethodName := ⟨RX7, "copyRow", "([I[I)V"⟩
def RX8 : String := "RudeCouponsModel"
def TX8 : u_T := fun k => match k with
  | 0 => ("RudeCouponsModel", "persons", "I", false)
  | 1 => ("RudeCouponsModel", "person", "[I", true)
  | 2 => ("RudeCouponsModel", "doings", "I", false)
  | 3 => ("RudeCouponsModel", "doing", "[I", true)
  | 4 => ("RudeCouponsModel", "occasions", "I", false)
  | 5 => ("RudeCouponsModel", "occasion", "[I", true)
  | 6 => ("RudeCouponsModel", "order", "[I", true)
  | 7 => ("RudeCouponsModel", "st", "[I", true)
  | 8 => ("RudeCouponsModel", "acts", "I", false)
  | 9 => ("RudeCouponsModel", "was", "[I", true)
  | 10 => ("RudeCouponsModel", "keeps", "I", false)
  | 11 => ("RudeCouponsModel", "kept", "[I", true)
  | 12 => ("RudeCouponsModel", "seens", "I", false)
  | 13 => ("RudeCouponsModel", "seen", "[I", true)
  | 14 => ("RudeCouponsModel", "text", "[I", true)
  | 15 => ("RudeCouponsModel", "texted", "I", false)
  | 16 => ("RudeCouponsModel", "at", "I", false)
  | 17 => ("RudeCouponsModel", "told", "[I", true)
  | 18 => ("RudeCouponsModel", "readPersons", "I", false)
  | 19 => ("RudeCouponsModel", "readPerson", "[I", true)
  | 20 => ("RudeCouponsModel", "readDoings", "I", false)
  | 21 => ("RudeCouponsModel", "readDoing", "[I", true)
  | 22 => ("RudeCouponsModel", "readOccasions", "I", false)
  | 23 => ("RudeCouponsModel", "readOccasion", "[I", true)
  | 24 => ("RudeCouponsModel", "bestSet", "I", false)
  | 25 => ("RudeCouponsModel", "alone", "[I", true)
  | 26 => ("RudeCouponsModel", "from", "[I", true)
  | _ => ("RudeCouponsModel", "left", "[I", true)
def tyX8 : Nat → FieldType := fun k => match k with
  | 0 => .int
  | 1 => .array .int
  | 2 => .int
  | 3 => .array .int
  | 4 => .int
  | 5 => .array .int
  | 6 => .array .int
  | 7 => .array .int
  | 8 => .int
  | 9 => .array .int
  | 10 => .int
  | 11 => .array .int
  | 12 => .int
  | 13 => .array .int
  | 14 => .array .int
  | 15 => .int
  | 16 => .int
  | 17 => .array .int
  | 18 => .int
  | 19 => .array .int
  | 20 => .int
  | 21 => .array .int
  | 22 => .int
  | 23 => .array .int
  | 24 => .int
  | 25 => .array .int
  | 26 => .array .int
  | _ => .array .int
abbrev wsX80 : List Cond := u_ws RX8 TX8 28
theorem nmX8 : ∀ a, a < 28 → ∀ b, b < 28 → a ≠ b → (TX8 a).2.1 ≠ (TX8 b).2.1 := by decide +kernel
theorem tyX8_ok : ∀ k, k < 28 → parseFieldDescriptor (TX8 k).2.2.1 = some (tyX8 k) := by decide +kernel
abbrev cX8_init : ByteArray := prog_10_method_1_code
def yX8_init : MethodName := ⟨RX8, "<init>", "()V"⟩
abbrev cX8_tellsPerson : ByteArray := prog_10_method_3_code
def yX8_tellsPerson : MethodName := ⟨RX8, "tellsPerson", "(III)V"⟩
abbrev cX8_tellsDoing : ByteArray := prog_10_method_4_code
def yX8_tellsDoing : MethodName := ⟨RX8, "tellsDoing", "(III)V"⟩
abbrev cX8_tellsOccasion : ByteArray := prog_10_method_5_code
def yX8_tellsOccasion : MethodName := ⟨RX8, "tellsOccasion", "(III)V"⟩
abbrev cX8_in : ByteArray := prog_10_method_6_code
def yX8_in : MethodName := ⟨RX8, "in", "(III)Z"⟩
abbrev cX8_has : ByteArray := prog_10_method_7_code
def yX8_has : MethodName := ⟨RX8, "has", "(II)Z"⟩
abbrev cX8_isPerson : ByteArray := prog_10_method_8_code
def yX8_isPerson : MethodName := ⟨RX8, "isPerson", "(I)Z"⟩
abbrev cX8_isOccasion : ByteArray := prog_10_method_9_code
def yX8_isOccasion : MethodName := ⟨RX8, "isOccasion", "(I)Z"⟩
abbrev cX8_write : ByteArray := prog_10_method_10_code
def yX8_write : MethodName := ⟨RX8, "write", "(I)I"⟩
abbrev cX8_wipe : ByteArray := prog_10_method_11_code
def yX8_wipe : MethodName := ⟨RX8, "wipe", "()I"⟩
abbrev cX8_letterAt : ByteArray := prog_10_method_12_code
def yX8_letterAt : MethodName := ⟨RX8, "letterAt", "(I)I"⟩
abbrev cX8_isFigure : ByteArray := prog_10_method_13_code
def yX8_isFigure : MethodName := ⟨RX8, "isFigure", "(I)Z"⟩
abbrev cX8_readNumbers : ByteArray := prog_10_method_14_code
def yX8_readNumbers : MethodName := ⟨RX8, "readNumbers", "(I)Z"⟩
abbrev cX8_isTold : ByteArray := prog_10_method_15_code
def yX8_isTold : MethodName := ⟨RX8, "isTold", "(III)Z"⟩
abbrev cX8_clearTold : ByteArray := prog_10_method_16_code
def yX8_clearTold : MethodName := ⟨RX8, "clearTold", "()V"⟩
abbrev cX8_readPersonOf : ByteArray := prog_10_method_17_code
def yX8_readPersonOf : MethodName := ⟨RX8, "readPersonOf", "()Z"⟩
abbrev cX8_readDoingOf : ByteArray := prog_10_method_18_code
def yX8_readDoingOf : MethodName := ⟨RX8, "readDoingOf", "()Z"⟩
abbrev cX8_readOccasionOf : ByteArray := prog_10_method_19_code
def yX8_readOccasionOf : MethodName := ⟨RX8, "readOccasionOf", "()Z"⟩
abbrev cX8_readItem : ByteArray := prog_10_method_20_code
def yX8_readItem : MethodName := ⟨RX8, "readItem", "()Z"⟩
abbrev cX8_fault : ByteArray := prog_10_method_21_code
def yX8_fault : MethodName := ⟨RX8, "fault", "()I"⟩
abbrev cX8_lay : ByteArray := prog_10_method_22_code
def yX8_lay : MethodName := ⟨RX8, "lay", "()I"⟩
abbrev cX8_copies : ByteArray := prog_10_method_23_code
def yX8_copies : MethodName := ⟨RX8, "copies", "([II[III)V"⟩
abbrev cX8_settles : ByteArray := prog_10_method_24_code
def yX8_settles : MethodName := ⟨RX8, "settles", "()V"⟩
abbrev cX8_leaves : ByteArray := prog_10_method_25_code
def yX8_leaves : MethodName := ⟨RX8, "leaves", "(IIII)I"⟩
abbrev cX8_worthOf : ByteArray := prog_10_method_26_code
def yX8_worthOf : MethodName := ⟨RX8, "worthOf", "(I)I"⟩
abbrev cX8_whoOf : ByteArray := prog_10_method_27_code
def yX8_whoOf : MethodName := ⟨RX8, "whoOf", "(I)I"⟩
abbrev cX8_leavesBy : ByteArray := prog_10_method_28_code
def yX8_leavesBy : MethodName := ⟨RX8, "leavesBy", "(II)I"⟩
abbrev cX8_suffers : ByteArray := prog_10_method_29_code
def yX8_suffers : MethodName := ⟨RX8, "suffers", "(II)I"⟩
abbrev cX8_canBe : ByteArray := prog_10_method_30_code
def yX8_canBe : MethodName := ⟨RX8, "canBe", "(I)Z"⟩
abbrev cX8_person : ByteArray := prog_10_method_31_code
def yX8_person : MethodName := ⟨RX8, "person", "(II)I"⟩
abbrev cX8_doing : ByteArray := prog_10_method_32_code
def yX8_doing : MethodName := ⟨RX8, "doing", "(II)I"⟩
abbrev cX8_occasion : ByteArray := prog_10_method_33_code
def yX8_occasion : MethodName := ⟨RX8, "occasion", "(II)I"⟩
abbrev cX8_remembers : ByteArray := prog_10_method_34_code
def yX8_remembers : MethodName := ⟨RX8, "remembers", "()V"⟩
abbrev cX8_take : ByteArray := prog_10_method_35_code
def yX8_take : MethodName := ⟨RX8, "take", "(I)I"⟩
abbrev cX8_pass : ByteArray := prog_10_method_36_code
def yX8_pass : MethodName := ⟨RX8, "pass", "(I)I"⟩
abbrev cX8_give : ByteArray := prog_10_method_37_code
def yX8_give : MethodName := ⟨RX8, "give", "(III)I"⟩
abbrev cX8_allCoupons : ByteArray := prog_10_method_38_code
def yX8_allCoupons : MethodName := ⟨RX8, "allCoupons", "()I"⟩
abbrev cX8_ration : ByteArray := prog_10_method_39_code
def yX8_ration : MethodName := ⟨RX8, "ration", "(I)I"⟩
abbrev cX8_undo : ByteArray := prog_10_method_40_code
def yX8_undo : MethodName := ⟨RX8, "undo", "()I"⟩
abbrev cX8_worthBy : ByteArray := prog_10_method_41_code
def yX8_worthBy : MethodName := ⟨RX8, "worthBy", "(II)I"⟩
abbrev cX8_bestBy : ByteArray := prog_10_method_42_code
def yX8_bestBy : MethodName := ⟨RX8, "bestBy", "(II)I"⟩
abbrev cX8_best : ByteArray := prog_10_method_43_code
def yX8_best : MethodName := ⟨RX8, "best", "(II)I"⟩
abbrev cX8_more : ByteArray := prog_10_method_44_code
def yX8_more : MethodName := ⟨RX8, "more", "(I)I"⟩
abbrev cX8_giveBest : ByteArray := prog_10_method_45_code
def yX8_giveBest : MethodName := ⟨RX8, "giveBest", "(I)I"⟩
abbrev cX8_findShares : ByteArray := prog_10_method_46_code
def yX8_findShares : MethodName := ⟨RX8, "findShares", "()V"⟩
abbrev cX8_shared : ByteArray := prog_10_method_47_code
def yX8_shared : MethodName := ⟨RX8, "shared", "(I)I"⟩
abbrev cX8_sufferedBy : ByteArray := prog_10_method_48_code
def yX8_sufferedBy : MethodName := ⟨RX8, "sufferedBy", "(I)I"⟩
abbrev cX8_rationFor : ByteArray := prog_10_method_49_code
def yX8_rationFor : MethodName := ⟨RX8, "rationFor", "(I)I"⟩
abbrev cX8_seen : ByteArray := prog_10_method_50_code
def yX8_seen : MethodName := ⟨RX8, "seen", "(III)I"⟩
abbrev cX8_forget : ByteArray := prog_10_method_51_code
def yX8_forget : MethodName := ⟨RX8, "forget", "()I"⟩
abbrev cX8_without : ByteArray := prog_10_method_52_code
def yX8_without : MethodName := ⟨RX8, "without", "()I"⟩
abbrev cX8_letGo : ByteArray := prog_10_method_53_code
def yX8_letGo : MethodName := ⟨RX8, "letGo", "(II)I"⟩
abbrev cX8_keepOne : ByteArray := prog_10_method_54_code
def yX8_keepOne : MethodName := ⟨RX8, "keepOne", "(III)I"⟩
abbrev cX8_net : ByteArray := prog_10_method_55_code
def yX8_net : MethodName := ⟨RX8, "net", "(I)I"⟩
abbrev cX8_heard : ByteArray := prog_10_method_56_code
def yX8_heard : MethodName := ⟨RX8, "heard", "(I)I"⟩
abbrev cX8_year : ByteArray := prog_10_method_57_code
def yX8_year : MethodName := ⟨RX8, "year", "(II)I"⟩
abbrev cX8_keep : ByteArray := prog_10_method_58_code
def yX8_keep : MethodName := ⟨RX8, "keep", "()I"⟩
abbrev cX8_back : ByteArray := prog_10_method_59_code
def yX8_back : MethodName := ⟨RX8, "back", "()I"⟩
abbrev cX8_takenMany : ByteArray := prog_10_method_60_code
def yX8_takenMany : MethodName := ⟨RX8, "takenMany", "()I"⟩
abbrev cX8_count : ByteArray := prog_10_method_61_code
def yX8_count : MethodName := ⟨RX8, "count", "(I)I"⟩
