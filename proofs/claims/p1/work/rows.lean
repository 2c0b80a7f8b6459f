section
-- ===== PART A: goes FIRST, ahead of the names: the tables' words, and 'selects' of the private methods out of them =====
/-- a private method of a class that the tables say can be made, by its rows of tables_1 -/
def lw_okq (q : MethodName × Nat) : Prop := (q.1.cls ≠ "java/lang/invoke/MethodHandle" ∧ q.1.cls ≠ "java/lang/invoke/VarHandle") ∧ Cond.instantiable q.1.cls q.2 ∈ tables_1 ∧ Cond.privateMethod q.1 ∈ tables_1 ∧ Cond.instanceMethod q.1 ∈ tables_1
theorem lw_p0 : lw_okq (⟨"RudeCoupons", "layText", "()I"⟩, 11) := ⟨⟨by decide +kernel, by decide +kernel⟩, List.mem_of_getElem? (i := 17) (by decide +kernel), List.mem_of_getElem? (i := 266) (by decide +kernel), List.mem_of_getElem? (i := 267) (by decide +kernel)⟩
theorem lw_p1 : lw_okq (⟨"RudeCoupons", "leftIfTaken", "(I)I"⟩, 11) := ⟨⟨by decide +kernel, by decide +kernel⟩, List.mem_of_getElem? (i := 17) (by decide +kernel), List.mem_of_getElem? (i := 400) (by decide +kernel), List.mem_of_getElem? (i := 401) (by decide +kernel)⟩
theorem lw_p2 : lw_okq (⟨"RudeCoupons", "growthByGiving", "(II)I"⟩, 11) := ⟨⟨by decide +kernel, by decide +kernel⟩, List.mem_of_getElem? (i := 17) (by decide +kernel), List.mem_of_getElem? (i := 494) (by decide +kernel), List.mem_of_getElem? (i := 495) (by decide +kernel)⟩
theorem lw_p3 : lw_okq (⟨"RudeCoupons", "sufferingUnder", "(I)I"⟩, 11) := ⟨⟨by decide +kernel, by decide +kernel⟩, List.mem_of_getElem? (i := 17) (by decide +kernel), List.mem_of_getElem? (i := 530) (by decide +kernel), List.mem_of_getElem? (i := 531) (by decide +kernel)⟩
theorem lw_p4 : lw_okq (⟨"RudeCouponsModel", "clearTold", "()V"⟩, 28) := ⟨⟨by decide +kernel, by decide +kernel⟩, List.mem_of_getElem? (i := 623) (by decide +kernel), List.mem_of_getElem? (i := 629) (by decide +kernel), List.mem_of_getElem? (i := 630) (by decide +kernel)⟩
theorem lw_p5 : lw_okq (⟨"RudeCouponsModel", "tellsPerson", "(III)V"⟩, 28) := ⟨⟨by decide +kernel, by decide +kernel⟩, List.mem_of_getElem? (i := 623) (by decide +kernel), List.mem_of_getElem? (i := 633) (by decide +kernel), List.mem_of_getElem? (i := 634) (by decide +kernel)⟩
theorem lw_p6 : lw_okq (⟨"RudeCouponsModel", "tellsDoing", "(III)V"⟩, 28) := ⟨⟨by decide +kernel, by decide +kernel⟩, List.mem_of_getElem? (i := 623) (by decide +kernel), List.mem_of_getElem? (i := 637) (by decide +kernel), List.mem_of_getElem? (i := 638) (by decide +kernel)⟩
theorem lw_p7 : lw_okq (⟨"RudeCouponsModel", "tellsOccasion", "(III)V"⟩, 28) := ⟨⟨by decide +kernel, by decide +kernel⟩, List.mem_of_getElem? (i := 623) (by decide +kernel), List.mem_of_getElem? (i := 641) (by decide +kernel), List.mem_of_getElem? (i := 642) (by decide +kernel)⟩
theorem lw_p8 : lw_okq (⟨"RudeCouponsModel", "settles", "()V"⟩, 28) := ⟨⟨by decide +kernel, by decide +kernel⟩, List.mem_of_getElem? (i := 623) (by decide +kernel), List.mem_of_getElem? (i := 645) (by decide +kernel), List.mem_of_getElem? (i := 646) (by decide +kernel)⟩
theorem lw_p9 : lw_okq (⟨"RudeCouponsModel", "readItem", "()Z"⟩, 28) := ⟨⟨by decide +kernel, by decide +kernel⟩, List.mem_of_getElem? (i := 623) (by decide +kernel), List.mem_of_getElem? (i := 752) (by decide +kernel), List.mem_of_getElem? (i := 753) (by decide +kernel)⟩
theorem lw_p10 : lw_okq (⟨"RudeCouponsModel", "letterAt", "(I)I"⟩, 28) := ⟨⟨by decide +kernel, by decide +kernel⟩, List.mem_of_getElem? (i := 623) (by decide +kernel), List.mem_of_getElem? (i := 756) (by decide +kernel), List.mem_of_getElem? (i := 757) (by decide +kernel)⟩
theorem lw_p11 : lw_okq (⟨"RudeCouponsModel", "readPersonOf", "()Z"⟩, 28) := ⟨⟨by decide +kernel, by decide +kernel⟩, List.mem_of_getElem? (i := 623) (by decide +kernel), List.mem_of_getElem? (i := 760) (by decide +kernel), List.mem_of_getElem? (i := 761) (by decide +kernel)⟩
theorem lw_p12 : lw_okq (⟨"RudeCouponsModel", "readNumbers", "(I)Z"⟩, 28) := ⟨⟨by decide +kernel, by decide +kernel⟩, List.mem_of_getElem? (i := 623) (by decide +kernel), List.mem_of_getElem? (i := 764) (by decide +kernel), List.mem_of_getElem? (i := 765) (by decide +kernel)⟩
theorem lw_p13 : lw_okq (⟨"RudeCouponsModel", "isTold", "(III)Z"⟩, 28) := ⟨⟨by decide +kernel, by decide +kernel⟩, List.mem_of_getElem? (i := 623) (by decide +kernel), List.mem_of_getElem? (i := 771) (by decide +kernel), List.mem_of_getElem? (i := 772) (by decide +kernel)⟩
theorem lw_p14 : lw_okq (⟨"RudeCouponsModel", "readDoingOf", "()Z"⟩, 28) := ⟨⟨by decide +kernel, by decide +kernel⟩, List.mem_of_getElem? (i := 623) (by decide +kernel), List.mem_of_getElem? (i := 775) (by decide +kernel), List.mem_of_getElem? (i := 776) (by decide +kernel)⟩
theorem lw_p15 : lw_okq (⟨"RudeCouponsModel", "readOccasionOf", "()Z"⟩, 28) := ⟨⟨by decide +kernel, by decide +kernel⟩, List.mem_of_getElem? (i := 623) (by decide +kernel), List.mem_of_getElem? (i := 779) (by decide +kernel), List.mem_of_getElem? (i := 780) (by decide +kernel)⟩
def lw_privs_1 : List (MethodName × Nat) := [(⟨"RudeCoupons", "layText", "()I"⟩, 11), (⟨"RudeCoupons", "leftIfTaken", "(I)I"⟩, 11), (⟨"RudeCoupons", "growthByGiving", "(II)I"⟩, 11), (⟨"RudeCoupons", "sufferingUnder", "(I)I"⟩, 11), (⟨"RudeCouponsModel", "clearTold", "()V"⟩, 28), (⟨"RudeCouponsModel", "tellsPerson", "(III)V"⟩, 28), (⟨"RudeCouponsModel", "tellsDoing", "(III)V"⟩, 28), (⟨"RudeCouponsModel", "tellsOccasion", "(III)V"⟩, 28), (⟨"RudeCouponsModel", "settles", "()V"⟩, 28), (⟨"RudeCouponsModel", "readItem", "()Z"⟩, 28), (⟨"RudeCouponsModel", "letterAt", "(I)I"⟩, 28), (⟨"RudeCouponsModel", "readPersonOf", "()Z"⟩, 28), (⟨"RudeCouponsModel", "readNumbers", "(I)Z"⟩, 28), (⟨"RudeCouponsModel", "isTold", "(III)Z"⟩, 28), (⟨"RudeCouponsModel", "readDoingOf", "()Z"⟩, 28), (⟨"RudeCouponsModel", "readOccasionOf", "()Z"⟩, 28)]
theorem lw_r1 : ∀ q ∈ lw_privs_1, lw_okq q := List.forall_mem_cons.mpr ⟨lw_p0, List.forall_mem_cons.mpr ⟨lw_p1, List.forall_mem_cons.mpr ⟨lw_p2, List.forall_mem_cons.mpr ⟨lw_p3, List.forall_mem_cons.mpr ⟨lw_p4, List.forall_mem_cons.mpr ⟨lw_p5, List.forall_mem_cons.mpr ⟨lw_p6, List.forall_mem_cons.mpr ⟨lw_p7, List.forall_mem_cons.mpr ⟨lw_p8, List.forall_mem_cons.mpr ⟨lw_p9, List.forall_mem_cons.mpr ⟨lw_p10, List.forall_mem_cons.mpr ⟨lw_p11, List.forall_mem_cons.mpr ⟨lw_p12, List.forall_mem_cons.mpr ⟨lw_p13, List.forall_mem_cons.mpr ⟨lw_p14, List.forall_mem_cons.mpr ⟨lw_p15, fun _ h => absurd h List.not_mem_nil⟩⟩⟩⟩⟩⟩⟩⟩⟩⟩⟩⟩⟩⟩⟩⟩
theorem lw_p16 : lw_okq (⟨"RudeCouponsModel", "isPerson", "(I)Z"⟩, 28) := ⟨⟨by decide +kernel, by decide +kernel⟩, List.mem_of_getElem? (i := 623) (by decide +kernel), List.mem_of_getElem? (i := 792) (by decide +kernel), List.mem_of_getElem? (i := 793) (by decide +kernel)⟩
theorem lw_p17 : lw_okq (⟨"RudeCouponsModel", "isOccasion", "(I)Z"⟩, 28) := ⟨⟨by decide +kernel, by decide +kernel⟩, List.mem_of_getElem? (i := 623) (by decide +kernel), List.mem_of_getElem? (i := 804) (by decide +kernel), List.mem_of_getElem? (i := 805) (by decide +kernel)⟩
theorem lw_p18 : lw_okq (⟨"RudeCouponsModel", "canBe", "(I)Z"⟩, 28) := ⟨⟨by decide +kernel, by decide +kernel⟩, List.mem_of_getElem? (i := 623) (by decide +kernel), List.mem_of_getElem? (i := 808) (by decide +kernel), List.mem_of_getElem? (i := 809) (by decide +kernel)⟩
theorem lw_p19 : lw_okq (⟨"RudeCouponsModel", "whoOf", "(I)I"⟩, 28) := ⟨⟨by decide +kernel, by decide +kernel⟩, List.mem_of_getElem? (i := 623) (by decide +kernel), List.mem_of_getElem? (i := 815) (by decide +kernel), List.mem_of_getElem? (i := 816) (by decide +kernel)⟩
theorem lw_p20 : lw_okq (⟨"RudeCouponsModel", "leavesBy", "(II)I"⟩, 28) := ⟨⟨by decide +kernel, by decide +kernel⟩, List.mem_of_getElem? (i := 623) (by decide +kernel), List.mem_of_getElem? (i := 819) (by decide +kernel), List.mem_of_getElem? (i := 820) (by decide +kernel)⟩
theorem lw_p21 : lw_okq (⟨"RudeCouponsModel", "leaves", "(IIII)I"⟩, 28) := ⟨⟨by decide +kernel, by decide +kernel⟩, List.mem_of_getElem? (i := 623) (by decide +kernel), List.mem_of_getElem? (i := 823) (by decide +kernel), List.mem_of_getElem? (i := 824) (by decide +kernel)⟩
theorem lw_p22 : lw_okq (⟨"RudeCouponsModel", "remembers", "()V"⟩, 28) := ⟨⟨by decide +kernel, by decide +kernel⟩, List.mem_of_getElem? (i := 623) (by decide +kernel), List.mem_of_getElem? (i := 831) (by decide +kernel), List.mem_of_getElem? (i := 832) (by decide +kernel)⟩
theorem lw_p23 : lw_okq (⟨"RudeCouponsModel", "worthOf", "(I)I"⟩, 28) := ⟨⟨by decide +kernel, by decide +kernel⟩, List.mem_of_getElem? (i := 623) (by decide +kernel), List.mem_of_getElem? (i := 835) (by decide +kernel), List.mem_of_getElem? (i := 836) (by decide +kernel)⟩
theorem lw_p24 : lw_okq (⟨"RudeCouponsModel", "suffers", "(II)I"⟩, 28) := ⟨⟨by decide +kernel, by decide +kernel⟩, List.mem_of_getElem? (i := 623) (by decide +kernel), List.mem_of_getElem? (i := 839) (by decide +kernel), List.mem_of_getElem? (i := 840) (by decide +kernel)⟩
theorem lw_p25 : lw_okq (⟨"RudeCouponsModel", "allCoupons", "()I"⟩, 28) := ⟨⟨by decide +kernel, by decide +kernel⟩, List.mem_of_getElem? (i := 623) (by decide +kernel), List.mem_of_getElem? (i := 855) (by decide +kernel), List.mem_of_getElem? (i := 856) (by decide +kernel)⟩
theorem lw_p26 : lw_okq (⟨"RudeCouponsModel", "bestBy", "(II)I"⟩, 28) := ⟨⟨by decide +kernel, by decide +kernel⟩, List.mem_of_getElem? (i := 623) (by decide +kernel), List.mem_of_getElem? (i := 867) (by decide +kernel), List.mem_of_getElem? (i := 868) (by decide +kernel)⟩
theorem lw_p27 : lw_okq (⟨"RudeCouponsModel", "worthBy", "(II)I"⟩, 28) := ⟨⟨by decide +kernel, by decide +kernel⟩, List.mem_of_getElem? (i := 623) (by decide +kernel), List.mem_of_getElem? (i := 871) (by decide +kernel), List.mem_of_getElem? (i := 872) (by decide +kernel)⟩
theorem lw_p28 : lw_okq (⟨"RudeCouponsModel", "findShares", "()V"⟩, 28) := ⟨⟨by decide +kernel, by decide +kernel⟩, List.mem_of_getElem? (i := 623) (by decide +kernel), List.mem_of_getElem? (i := 887) (by decide +kernel), List.mem_of_getElem? (i := 888) (by decide +kernel)⟩
theorem lw_p29 : lw_okq (⟨"RudeCouponsModel", "sufferedBy", "(I)I"⟩, 28) := ⟨⟨by decide +kernel, by decide +kernel⟩, List.mem_of_getElem? (i := 623) (by decide +kernel), List.mem_of_getElem? (i := 895) (by decide +kernel), List.mem_of_getElem? (i := 896) (by decide +kernel)⟩
theorem lw_p30 : lw_okq (⟨"RudeCouponsModel", "takenMany", "()I"⟩, 28) := ⟨⟨by decide +kernel, by decide +kernel⟩, List.mem_of_getElem? (i := 623) (by decide +kernel), List.mem_of_getElem? (i := 947) (by decide +kernel), List.mem_of_getElem? (i := 948) (by decide +kernel)⟩
def lw_privs_2 : List (MethodName × Nat) := [(⟨"RudeCouponsModel", "isPerson", "(I)Z"⟩, 28), (⟨"RudeCouponsModel", "isOccasion", "(I)Z"⟩, 28), (⟨"RudeCouponsModel", "canBe", "(I)Z"⟩, 28), (⟨"RudeCouponsModel", "whoOf", "(I)I"⟩, 28), (⟨"RudeCouponsModel", "leavesBy", "(II)I"⟩, 28), (⟨"RudeCouponsModel", "leaves", "(IIII)I"⟩, 28), (⟨"RudeCouponsModel", "remembers", "()V"⟩, 28), (⟨"RudeCouponsModel", "worthOf", "(I)I"⟩, 28), (⟨"RudeCouponsModel", "suffers", "(II)I"⟩, 28), (⟨"RudeCouponsModel", "allCoupons", "()I"⟩, 28), (⟨"RudeCouponsModel", "bestBy", "(II)I"⟩, 28), (⟨"RudeCouponsModel", "worthBy", "(II)I"⟩, 28), (⟨"RudeCouponsModel", "findShares", "()V"⟩, 28), (⟨"RudeCouponsModel", "sufferedBy", "(I)I"⟩, 28), (⟨"RudeCouponsModel", "takenMany", "()I"⟩, 28)]
theorem lw_r2 : ∀ q ∈ lw_privs_2, lw_okq q := List.forall_mem_cons.mpr ⟨lw_p16, List.forall_mem_cons.mpr ⟨lw_p17, List.forall_mem_cons.mpr ⟨lw_p18, List.forall_mem_cons.mpr ⟨lw_p19, List.forall_mem_cons.mpr ⟨lw_p20, List.forall_mem_cons.mpr ⟨lw_p21, List.forall_mem_cons.mpr ⟨lw_p22, List.forall_mem_cons.mpr ⟨lw_p23, List.forall_mem_cons.mpr ⟨lw_p24, List.forall_mem_cons.mpr ⟨lw_p25, List.forall_mem_cons.mpr ⟨lw_p26, List.forall_mem_cons.mpr ⟨lw_p27, List.forall_mem_cons.mpr ⟨lw_p28, List.forall_mem_cons.mpr ⟨lw_p29, List.forall_mem_cons.mpr ⟨lw_p30, fun _ h => absurd h List.not_mem_nil⟩⟩⟩⟩⟩⟩⟩⟩⟩⟩⟩⟩⟩⟩⟩
def lw_privs : List (MethodName × Nat) := lw_privs_1 ++ (lw_privs_2)
def lw_tbl : List Cond := k2_sels lw_privs ++ tables_1
theorem lw_privs_ok : ∀ q ∈ lw_privs, lw_okq q := by
  show ∀ q ∈ lw_privs_1 ++ (lw_privs_2), lw_okq q
  exact List.forall_mem_append.mpr ⟨lw_r1, lw_r2⟩
def RX0 : String := "RudeCoupons$Book"
def TX0 : u_T := fun k => match k with
  | 0 => ("RudeCoupons$Book", "persons", "I", false)
  | 1 => ("RudeCoupons$Book", "kind", "[I", true)
  | 2 => ("RudeCoupons$Book", "told", "[I", true)
  | 3 => ("RudeCoupons$Book", "skin", "[I", true)
  | 4 => ("RudeCoupons$Book", "doings", "I", false)
  | 5 => ("RudeCoupons$Book", "worth", "[I", true)
  | 6 => ("RudeCoupons$Book", "takes", "[I", true)
  | 7 => ("RudeCoupons$Book", "annoys", "[I", true)
  | 8 => ("RudeCoupons$Book", "occasions", "I", false)
  | 9 => ("RudeCoupons$Book", "day", "[I", true)
  | 10 => ("RudeCoupons$Book", "who", "[I", true)
  | 11 => ("RudeCoupons$Book", "does", "[I", true)
  | _ => ("RudeCoupons$Book", "byDays", "[I", true)
def tyX0 : Nat → FieldType := fun k => match k with
  | 0 => .int
  | 1 => .array .int
  | 2 => .array .int
  | 3 => .array .int
  | 4 => .int
  | 5 => .array .int
  | 6 => .array .int
  | 7 => .array .int
  | 8 => .int
  | 9 => .array .int
  | 10 => .array .int
  | 11 => .array .int
  | _ => .array .int
abbrev wsX00 : List Cond := u_ws RX0 TX0 13
theorem nmX0 : ∀ a, a < 13 → ∀ b, b < 13 → a ≠ b → (TX0 a).2.1 ≠ (TX0 b).2.1 := by decide +kernel
theorem tyX0_ok : ∀ k, k < 13 → parseFieldDescriptor (TX0 k).2.2.1 = some (tyX0 k) := by decide +kernel
abbrev cX0_init : ByteArray := prog_2_method_1_code
def yX0_init : MethodName := ⟨RX0, "<init>", "()V"⟩
abbrev cX0_clear : ByteArray := prog_2_method_2_code
def yX0_clear : MethodName := ⟨RX0, "clear", "()V"⟩
abbrev cX0_hasPerson : ByteArray := prog_2_method_3_code
def yX0_hasPerson : MethodName := ⟨RX0, "hasPerson", "(I)Z"⟩
abbrev cX0_hasDoing : ByteArray := prog_2_method_4_code
def yX0_hasDoing : MethodName := ⟨RX0, "hasDoing", "(I)Z"⟩
abbrev cX0_hasOccasion : ByteArray := prog_2_method_5_code
def yX0_hasOccasion : MethodName := ⟨RX0, "hasOccasion", "(I)Z"⟩
abbrev cX0_add : ByteArray := prog_2_method_6_code
def yX0_add : MethodName := ⟨RX0, "add", "(CIII)Z"⟩
abbrev cX0_addPerson : ByteArray := prog_2_method_7_code
def yX0_addPerson : MethodName := ⟨RX0, "addPerson", "(III)Z"⟩
abbrev cX0_addDoing : ByteArray := prog_2_method_8_code
def yX0_addDoing : MethodName := ⟨RX0, "addDoing", "(III)Z"⟩
abbrev cX0_addOccasion : ByteArray := prog_2_method_9_code
def yX0_addOccasion : MethodName := ⟨RX0, "addOccasion", "(III)Z"⟩
abbrev cX0_leftAfter : ByteArray := prog_2_method_10_code
def yX0_leftAfter : MethodName := ⟨RX0, "leftAfter", "(IIII)I"⟩
abbrev cX0_sufferingOf : ByteArray := prog_2_method_11_code
def yX0_sufferingOf : MethodName := ⟨RX0, "sufferingOf", "(III)I"⟩
abbrev cX0_sufferingOfAll : ByteArray := prog_2_method_12_code
def yX0_sufferingOfAll : MethodName := ⟨RX0, "sufferingOfAll", "(II)I"⟩
def RX1 : String := "RudeCoupons$Letters"
def TX1 : u_T := fun k => match k with
  | 0 => ("RudeCoupons$Letters", "row", "[C", true)
  | _ => ("RudeCoupons$Letters", "length", "I", false)
def tyX1 : Nat → FieldType := fun k => match k with
  | 0 => .array .char
  | _ => .int
abbrev wsX10 : List Cond := u_ws RX1 TX1 2
theorem nmX1 : ∀ a, a < 2 → ∀ b, b < 2 → a ≠ b → (TX1 a).2.1 ≠ (TX1 b).2.1 := by decide +kernel
theorem tyX1_ok : ∀ k, k < 2 → parseFieldDescriptor (TX1 k).2.2.1 = some (tyX1 k) := by decide +kernel
abbrev cX1_init : ByteArray := prog_3_method_1_code
def yX1_init : MethodName := ⟨RX1, "<init>", "()V"⟩
abbrev cX1_add : ByteArray := prog_3_method_2_code
def yX1_add : MethodName := ⟨RX1, "add", "(C)Z"⟩
abbrev cX1_at : ByteArray := prog_3_method_3_code
def yX1_at : MethodName := ⟨RX1, "at", "(I)C"⟩
abbrev cX1_copy : ByteArray := prog_3_method_4_code
def yX1_copy : MethodName := ⟨RX1, "copy", "(LRudeCoupons$Letters;)V"⟩
def RX2 : String := "RudeCoupons$Plans"
def TX2 : u_T := fun k => match k with
  | 0 => ("RudeCoupons$Plans", "worth", "[[I", true)
  | 1 => ("RudeCoupons$Plans", "set", "[[I", true)
  | _ => ("RudeCoupons$Plans", "together", "[[I", true)
def tyX2 : Nat → FieldType := fun k => match k with
  | 0 => .array (.array .int)
  | 1 => .array (.array .int)
  | _ => .array (.array .int)
abbrev wsX20 : List Cond := u_ws RX2 TX2 3
theorem nmX2 : ∀ a, a < 3 → ∀ b, b < 3 → a ≠ b → (TX2 a).2.1 ≠ (TX2 b).2.1 := by decide +kernel
theorem tyX2_ok : ∀ k, k < 3 → parseFieldDescriptor (TX2 k).2.2.1 = some (tyX2 k) := by decide +kernel
abbrev cX2_init : ByteArray := prog_4_method_1_code
def yX2_init : MethodName := ⟨RX2, "<init>", "()V"⟩
abbrev cX2_make : ByteArray := prog_4_method_2_code
def yX2_make : MethodName := ⟨RX2, "make", "(LRudeCoupons$Book;LRudeCoupons$Standing;I)V"⟩
abbrev cX2_addOccasion : ByteArray := prog_4_method_3_code
def yX2_addOccasion : MethodName := ⟨RX2, "addOccasion", "(LRudeCoupons$Book;II)V"⟩
abbrev cX2_makeAll : ByteArray := prog_4_method_4_code
def yX2_makeAll : MethodName := ⟨RX2, "makeAll", "(LRudeCoupons$Book;LRudeCoupons$Standing;)V"⟩
abbrev cX2_gain : ByteArray := prog_4_method_5_code
def yX2_gain : MethodName := ⟨RX2, "gain", "(II)I"⟩
abbrev cX2_partAll : ByteArray := prog_4_method_6_code
def yX2_partAll : MethodName := ⟨RX2, "partAll", "(II)V"⟩
abbrev cX2_mostFrom : ByteArray := prog_4_method_7_code
def yX2_mostFrom : MethodName := ⟨RX2, "mostFrom", "(II)I"⟩
abbrev cX2_withShare : ByteArray := prog_4_method_8_code
def yX2_withShare : MethodName := ⟨RX2, "withShare", "(III)I"⟩
abbrev cX2_shareOf : ByteArray := prog_4_method_9_code
def yX2_shareOf : MethodName := ⟨RX2, "shareOf", "(II)I"⟩
abbrev cX2_greatestShare : ByteArray := prog_4_method_10_code
def yX2_greatestShare : MethodName := ⟨RX2, "greatestShare", "(II)I"⟩
def RX3 : String := "RudeCoupons$Reader"
def TX3 : u_T := fun k => match k with
  | _ => ("RudeCoupons$Reader", "numbers", "[I", true)
def tyX3 : Nat → FieldType := fun k => match k with
  | _ => .array .int
abbrev wsX30 : List Cond := u_ws RX3 TX3 1
theorem nmX3 : ∀ a, a < 1 → ∀ b, b < 1 → a ≠ b → (TX3 a).2.1 ≠ (TX3 b).2.1 := by decide +kernel
theorem tyX3_ok : ∀ k, k < 1 → parseFieldDescriptor (TX3 k).2.2.1 = some (tyX3 k) := by decide +kernel
abbrev cX3_init : ByteArray := prog_5_method_1_code
def yX3_init : MethodName := ⟨RX3, "<init>", "()V"⟩
abbrev cX3_readInto : ByteArray := prog_5_method_2_code
def yX3_readInto : MethodName := ⟨RX3, "readInto", "(LRudeCoupons$Book;LRudeCoupons$Letters;)I"⟩
abbrev cX3_readItem : ByteArray := prog_5_method_3_code
def yX3_readItem : MethodName := ⟨RX3, "readItem", "(LRudeCoupons$Book;LRudeCoupons$Letters;I)I"⟩
abbrev cX3_figuresAt : ByteArray := prog_5_method_4_code
def yX3_figuresAt : MethodName := ⟨RX3, "figuresAt", "(LRudeCoupons$Letters;I)I"⟩
abbrev cX3_numberAt : ByteArray := prog_5_method_5_code
def yX3_numberAt : MethodName := ⟨RX3, "numberAt", "(LRudeCoupons$Letters;II)I"⟩
abbrev cX3_isFigure : ByteArray := prog_5_method_6_code
def yX3_isFigure : MethodName := ⟨RX3, "isFigure", "(C)Z"⟩
def RX4 : String := "RudeCoupons$Shelf"
def TX4 : u_T := fun k => match k with
  | 0 => ("RudeCoupons$Shelf", "rows", "[LRudeCoupons$Standing;", true)
  | _ => ("RudeCoupons$Shelf", "size", "I", false)
def tyX4 : Nat → FieldType := fun k => match k with
  | 0 => .array (.object "RudeCoupons$Standing")
  | _ => .int
abbrev wsX40 : List Cond := u_ws RX4 TX4 2
theorem nmX4 : ∀ a, a < 2 → ∀ b, b < 2 → a ≠ b → (TX4 a).2.1 ≠ (TX4 b).2.1 := by decide +kernel
theorem tyX4_ok : ∀ k, k < 2 → parseFieldDescriptor (TX4 k).2.2.1 = some (tyX4 k) := by decide +kernel
abbrev cX4_init : ByteArray := prog_6_method_1_code
def yX4_init : MethodName := ⟨RX4, "<init>", "(I)V"⟩
abbrev cX4_put : ByteArray := prog_6_method_2_code
def yX4_put : MethodName := ⟨RX4, "put", "(LRudeCoupons$Standing;)V"⟩
abbrev cX4_dropOldest : ByteArray := prog_6_method_3_code
def yX4_dropOldest : MethodName := ⟨RX4, "dropOldest", "()V"⟩
abbrev cX4_takeInto : ByteArray := prog_6_method_4_code
def yX4_takeInto : MethodName := ⟨RX4, "takeInto", "(LRudeCoupons$Standing;)Z"⟩
def RX5 : String := "RudeCoupons$Sightings"
def TX5 : u_T := fun k => match k with
  | 0 => ("RudeCoupons$Sightings", "who", "[I", true)
  | 1 => ("RudeCoupons$Sightings", "did", "[I", true)
  | 2 => ("RudeCoupons$Sightings", "when", "[I", true)
  | _ => ("RudeCoupons$Sightings", "size", "I", false)
def tyX5 : Nat → FieldType := fun k => match k with
  | 0 => .array .int
  | 1 => .array .int
  | 2 => .array .int
  | _ => .int
abbrev wsX50 : List Cond := u_ws RX5 TX5 4
theorem nmX5 : ∀ a, a < 4 → ∀ b, b < 4 → a ≠ b → (TX5 a).2.1 ≠ (TX5 b).2.1 := by decide +kernel
theorem tyX5_ok : ∀ k, k < 4 → parseFieldDescriptor (TX5 k).2.2.1 = some (tyX5 k) := by decide +kernel
abbrev cX5_init : ByteArray := prog_7_method_1_code
def yX5_init : MethodName := ⟨RX5, "<init>", "()V"⟩
abbrev cX5_add : ByteArray := prog_7_method_2_code
def yX5_add : MethodName := ⟨RX5, "add", "(III)Z"⟩
abbrev cX5_couldBe : ByteArray := prog_7_method_3_code
def yX5_couldBe : MethodName := ⟨RX5, "couldBe", "(LRudeCoupons$Book;I)Z"⟩
def RX6 : String := "RudeCoupons$Standing"
def TX6 : u_T := fun k => match k with
  | 0 => ("RudeCoupons$Standing", "day", "I", false)
  | 1 => ("RudeCoupons$Standing", "taken", "I", false)
  | 2 => ("RudeCoupons$Standing", "coupons", "[I", true)
  | 3 => ("RudeCoupons$Standing", "had", "[I", true)
  | 4 => ("RudeCoupons$Standing", "suffered", "[I", true)
  | _ => ("RudeCoupons$Standing", "net", "[I", true)
def tyX6 : Nat → FieldType := fun k => match k with
  | 0 => .int
  | 1 => .int
  | 2 => .array .int
  | 3 => .array .int
  | 4 => .array .int
  | _ => .array .int
abbrev wsX60 : List Cond := u_ws RX6 TX6 6
theorem nmX6 : ∀ a, a < 6 → ∀ b, b < 6 → a ≠ b → (TX6 a).2.1 ≠ (TX6 b).2.1 := by decide +kernel
theorem tyX6_ok : ∀ k, k < 6 → parseFieldDescriptor (TX6 k).2.2.1 = some (tyX6 k) := by decide +kernel
abbrev cX6_init : ByteArray := prog_8_method_1_code
def yX6_init : MethodName := ⟨RX6, "<init>", "()V"⟩
abbrev cX6_begin : ByteArray := prog_8_method_2_code
def yX6_begin : MethodName := ⟨RX6, "begin", "(LRudeCoupons$Book;)V"⟩
abbrev cX6_copy : ByteArray := prog_8_method_3_code
def yX6_copy : MethodName := ⟨RX6, "copy", "(LRudeCoupons$Standing;)V"⟩
abbrev cX6_isTaken : ByteArray := prog_8_method_4_code
def yX6_isTaken : MethodName := ⟨RX6, "isTaken", "(I)Z"⟩
abbrev cX6_isAhead : ByteArray := prog_8_method_5_code
def yX6_isAhead : MethodName := ⟨RX6, "isAhead", "(LRudeCoupons$Book;I)Z"⟩
abbrev cX6_couponsOfAll : ByteArray := prog_8_method_6_code
def yX6_couponsOfAll : MethodName := ⟨RX6, "couponsOfAll", "()I"⟩
abbrev cX6_sufferedByAll : ByteArray := prog_8_method_7_code
def yX6_sufferedByAll : MethodName := ⟨RX6, "sufferedByAll", "()I"⟩
abbrev cX6_mostOfOne : ByteArray := prog_8_method_8_code
def yX6_mostOfOne : MethodName := ⟨RX6, "mostOfOne", "()I"⟩
def RX7 : String := "RudeCoupons"
def TX7 : u_T := fun k => match k with
  | 0 => ("RudeCoupons", "text", "LRudeCoupons$Letters;", true)
  | 1 => ("RudeCoupons", "reader", "LRudeCoupons$Reader;", true)
  | 2 => ("RudeCoupons", "now", "LRudeCoupons$Standing;", true)
  | 3 => ("RudeCoupons", "past", "LRudeCoupons$Shelf;", true)
  | 4 => ("RudeCoupons", "kept", "LRudeCoupons$Shelf;", true)
  | 5 => ("RudeCoupons", "keptTexts", "[LRudeCoupons$Letters;", true)
  | 6 => ("RudeCoupons", "sightings", "LRudeCoupons$Sightings;", true)
  | 7 => ("RudeCoupons", "plans", "LRudeCoupons$Plans;", true)
  | 8 => ("RudeCoupons", "couponsOfYear", "[I", true)
  | 9 => ("RudeCoupons", "book", "LRudeCoupons$Book;", false)
  | _ => ("RudeCoupons", "trial", "LRudeCoupons$Book;", false)
def tyX7 : Nat → FieldType := fun k => match k with
  | 0 => .object "RudeCoupons$Letters"
  | 1 => .object "RudeCoupons$Reader"
  | 2 => .object "RudeCoupons$Standing"
  | 3 => .object "RudeCoupons$Shelf"
  | 4 => .object "RudeCoupons$Shelf"
  | 5 => .array (.object "RudeCoupons$Letters")
  | 6 => .object "RudeCoupons$Sightings"
  | 7 => .object "RudeCoupons$Plans"
  | 8 => .array .int
  | 9 => .object "RudeCoupons$Book"
  | _ => .object "RudeCoupons$Book"
abbrev wsX70 : List Cond := u_ws RX7 TX7 11
theorem nmX7 : ∀ a, a < 11 → ∀ b, b < 11 → a ≠ b → (TX7 a).2.1 ≠ (TX7 b).2.1 := by decide +kernel
theorem tyX7_ok : ∀ k, k < 11 → parseFieldDescriptor (TX7 k).2.2.1 = some (tyX7 k) := by decide +kernel
abbrev cX7_init : ByteArray := prog_1_method_1_code
def yX7_init : MethodName := ⟨RX7, "<init>", "()V"⟩
abbrev cX7_write : ByteArray := prog_1_method_2_code
def yX7_write : MethodName := ⟨RX7, "write", "(I)I"⟩
abbrev cX7_wipe : ByteArray := prog_1_method_3_code
def yX7_wipe : MethodName := ⟨RX7, "wipe", "()I"⟩
abbrev cX7_fault : ByteArray := prog_1_method_4_code
def yX7_fault : MethodName := ⟨RX7, "fault", "()I"⟩
abbrev cX7_lay : ByteArray := prog_1_method_5_code
def yX7_lay : MethodName := ⟨RX7, "lay", "()I"⟩
abbrev cX7_person : ByteArray := prog_1_method_6_code
def yX7_person : MethodName := ⟨RX7, "person", "(II)I"⟩
abbrev cX7_doing : ByteArray := prog_1_method_7_code
def yX7_doing : MethodName := ⟨RX7, "doing", "(II)I"⟩
abbrev cX7_occasion : ByteArray := prog_1_method_8_code
def yX7_occasion : MethodName := ⟨RX7, "occasion", "(II)I"⟩
abbrev cX7_take : ByteArray := prog_1_method_9_code
def yX7_take : MethodName := ⟨RX7, "take", "(I)I"⟩
abbrev cX7_pass : ByteArray := prog_1_method_10_code
def yX7_pass : MethodName := ⟨RX7, "pass", "(I)I"⟩
abbrev cX7_give : ByteArray := prog_1_method_11_code
def yX7_give : MethodName := ⟨RX7, "give", "(III)I"⟩
abbrev cX7_ration : ByteArray := prog_1_method_12_code
def yX7_ration : MethodName := ⟨RX7, "ration", "(I)I"⟩
abbrev cX7_undo : ByteArray := prog_1_method_13_code
def yX7_undo : MethodName := ⟨RX7, "undo", "()I"⟩
abbrev cX7_best : ByteArray := prog_1_method_14_code
def yX7_best : MethodName := ⟨RX7, "best", "(II)I"⟩
abbrev cX7_more : ByteArray := prog_1_method_15_code
def yX7_more : MethodName := ⟨RX7, "more", "(I)I"⟩
abbrev cX7_giveBest : ByteArray := prog_1_method_16_code
def yX7_giveBest : MethodName := ⟨RX7, "giveBest", "(I)I"⟩
abbrev cX7_shared : ByteArray := prog_1_method_17_code
def yX7_shared : MethodName := ⟨RX7, "shared", "(I)I"⟩
abbrev cX7_rationFor : ByteArray := prog_1_method_18_code
def yX7_rationFor : MethodName := ⟨RX7, "rationFor", "(I)I"⟩
abbrev cX7_seen : ByteArray := prog_1_method_19_code
def yX7_seen : MethodName := ⟨RX7, "seen", "(III)I"⟩
abbrev cX7_forget : ByteArray := prog_1_method_20_code
def yX7_forget : MethodName := ⟨RX7, "forget", "()I"⟩
abbrev cX7_without : ByteArray := prog_1_method_21_code
def yX7_without : MethodName := ⟨RX7, "without", "()I"⟩
abbrev cX7_letGo : ByteArray := prog_1_method_22_code
def yX7_letGo : MethodName := ⟨RX7, "letGo", "(II)I"⟩
abbrev cX7_keepOne : ByteArray := prog_1_method_23_code
def yX7_keepOne : MethodName := ⟨RX7, "keepOne", "(III)I"⟩
abbrev cX7_net : ByteArray := prog_1_method_24_code
def yX7_net : MethodName := ⟨RX7, "net", "(I)I"⟩
abbrev cX7_heard : ByteArray := prog_1_method_25_code
def yX7_heard : MethodName := ⟨RX7, "heard", "(I)I"⟩
abbrev cX7_year : ByteArray := prog_1_method_26_code
def yX7_year : MethodName := ⟨RX7, "year", "(II)I"⟩
abbrev cX7_keep : ByteArray := prog_1_method_27_code
def yX7_keep : MethodName := ⟨RX7, "keep", "()I"⟩
abbrev cX7_back : ByteArray := prog_1_method_28_code
def yX7_back : MethodName := ⟨RX7, "back", "()I"⟩
abbrev cX7_count : ByteArray := prog_1_method_29_code
def yX7_count : MethodName := ⟨RX7, "count", "(I)I"⟩
abbrev cX7_layText : ByteArray := prog_1_method_30_code
def yX7_layText : MethodName := ⟨RX7, "layText", "()I"⟩
abbrev cX7_leftIfTaken : ByteArray := prog_1_method_31_code
def yX7_leftIfTaken : MethodName := ⟨RX7, "leftIfTaken", "(I)I"⟩
abbrev cX7_growthByGiving : ByteArray := prog_1_method_32_code
def yX7_growthByGiving : MethodName := ⟨RX7, "growthByGiving", "(II)I"⟩
abbrev cX7_sufferingUnder : ByteArray := prog_1_method_33_code
def yX7_sufferingUnder : MethodName := ⟨RX7, "sufferingUnder", "(I)I"⟩
abbrev cX7_isDrawn : ByteArray := prog_1_method_34_code
def yX7_isDrawn : MethodName := ⟨RX7, "isDrawn", "(II)Z"⟩
abbrev cX7_within : ByteArray := prog_1_method_35_code
def yX7_within : MethodName := ⟨RX7, "within", "(III)Z"⟩
abbrev cX7_sumOf : ByteArray := prog_1_method_36_code
def yX7_sumOf : MethodName := ⟨RX7, "sumOf", "([I)I"⟩
abbrev cX7_copyRow : ByteArray := prog_1_method_37_code
def yX7_copyRow : MethodName := ⟨RX7, "copyRow", "([I[I)V"⟩
def RX8 : String := "RudeCouponsModel"
def TX8 : u_T := fun k => match k with
  | 0 => ("RudeCouponsModel", "persons", "I", false)
  | 1 => ("RudeCouponsModel", "person", "[I", true)
  | 2 => ("RudeCouponsModel", "doings", "I", false)
  | 3 => ("RudeCouponsModel", "doing", "[I", true)
  | 4 => ("RudeCouponsModel", "occasions", "I", false)
  | 5 => ("RudeCouponsModel", "occasion", "[I", true)
  | 6 => ("RudeCouponsModel", "order", "[I", true)
  | 7 => ("RudeCouponsModel", "st", "[I", true)
  | 8 => ("RudeCouponsModel", "acts", "I", false)
  | 9 => ("RudeCouponsModel", "was", "[I", true)
  | 10 => ("RudeCouponsModel", "keeps", "I", false)
  | 11 => ("RudeCouponsModel", "kept", "[I", true)
  | 12 => ("RudeCouponsModel", "seens", "I", false)
  | 13 => ("RudeCouponsModel", "seen", "[I", true)
  | 14 => ("RudeCouponsModel", "text", "[I", true)
  | 15 => ("RudeCouponsModel", "texted", "I", false)
  | 16 => ("RudeCouponsModel", "at", "I", false)
  | 17 => ("RudeCouponsModel", "told", "[I", true)
  | 18 => ("RudeCouponsModel", "readPersons", "I", false)
  | 19 => ("RudeCouponsModel", "readPerson", "[I", true)
  | 20 => ("RudeCouponsModel", "readDoings", "I", false)
  | 21 => ("RudeCouponsModel", "readDoing", "[I", true)
  | 22 => ("RudeCouponsModel", "readOccasions", "I", false)
  | 23 => ("RudeCouponsModel", "readOccasion", "[I", true)
  | 24 => ("RudeCouponsModel", "bestSet", "I", false)
  | 25 => ("RudeCouponsModel", "alone", "[I", true)
  | 26 => ("RudeCouponsModel", "from", "[I", true)
  | _ => ("RudeCouponsModel", "left", "[I", true)
def tyX8 : Nat → FieldType := fun k => match k with
  | 0 => .int
  | 1 => .array .int
  | 2 => .int
  | 3 => .array .int
  | 4 => .int
  | 5 => .array .int
  | 6 => .array .int
  | 7 => .array .int
  | 8 => .int
  | 9 => .array .int
  | 10 => .int
  | 11 => .array .int
  | 12 => .int
  | 13 => .array .int
  | 14 => .array .int
  | 15 => .int
  | 16 => .int
  | 17 => .array .int
  | 18 => .int
  | 19 => .array .int
  | 20 => .int
  | 21 => .array .int
  | 22 => .int
  | 23 => .array .int
  | 24 => .int
  | 25 => .array .int
  | 26 => .array .int
  | _ => .array .int
abbrev wsX80 : List Cond := u_ws RX8 TX8 28
theorem nmX8 : ∀ a, a < 28 → ∀ b, b < 28 → a ≠ b → (TX8 a).2.1 ≠ (TX8 b).2.1 := by decide +kernel
theorem tyX8_ok : ∀ k, k < 28 → parseFieldDescriptor (TX8 k).2.2.1 = some (tyX8 k) := by decide +kernel
abbrev cX8_init : ByteArray := prog_10_method_1_code
def yX8_init : MethodName := ⟨RX8, "<init>", "()V"⟩
abbrev cX8_tellsPerson : ByteArray := prog_10_method_3_code
def yX8_tellsPerson : MethodName := ⟨RX8, "tellsPerson", "(III)V"⟩
abbrev cX8_tellsDoing : ByteArray := prog_10_method_4_code
def yX8_tellsDoing : MethodName := ⟨RX8, "tellsDoing", "(III)V"⟩
abbrev cX8_tellsOccasion : ByteArray := prog_10_method_5_code
def yX8_tellsOccasion : MethodName := ⟨RX8, "tellsOccasion", "(III)V"⟩
abbrev cX8_in : ByteArray := prog_10_method_6_code
def yX8_in : MethodName := ⟨RX8, "in", "(III)Z"⟩
abbrev cX8_has : ByteArray := prog_10_method_7_code
def yX8_has : MethodName := ⟨RX8, "has", "(II)Z"⟩
abbrev cX8_isPerson : ByteArray := prog_10_method_8_code
def yX8_isPerson : MethodName := ⟨RX8, "isPerson", "(I)Z"⟩
abbrev cX8_isOccasion : ByteArray := prog_10_method_9_code
def yX8_isOccasion : MethodName := ⟨RX8, "isOccasion", "(I)Z"⟩
abbrev cX8_write : ByteArray := prog_10_method_10_code
def yX8_write : MethodName := ⟨RX8, "write", "(I)I"⟩
abbrev cX8_wipe : ByteArray := prog_10_method_11_code
def yX8_wipe : MethodName := ⟨RX8, "wipe", "()I"⟩
abbrev cX8_letterAt : ByteArray := prog_10_method_12_code
def yX8_letterAt : MethodName := ⟨RX8, "letterAt", "(I)I"⟩
abbrev cX8_isFigure : ByteArray := prog_10_method_13_code
def yX8_isFigure : MethodName := ⟨RX8, "isFigure", "(I)Z"⟩
abbrev cX8_readNumbers : ByteArray := prog_10_method_14_code
def yX8_readNumbers : MethodName := ⟨RX8, "readNumbers", "(I)Z"⟩
abbrev cX8_isTold : ByteArray := prog_10_method_15_code
def yX8_isTold : MethodName := ⟨RX8, "isTold", "(III)Z"⟩
abbrev cX8_clearTold : ByteArray := prog_10_method_16_code
def yX8_clearTold : MethodName := ⟨RX8, "clearTold", "()V"⟩
abbrev cX8_readPersonOf : ByteArray := prog_10_method_17_code
def yX8_readPersonOf : MethodName := ⟨RX8, "readPersonOf", "()Z"⟩
abbrev cX8_readDoingOf : ByteArray := prog_10_method_18_code
def yX8_readDoingOf : MethodName := ⟨RX8, "readDoingOf", "()Z"⟩
abbrev cX8_readOccasionOf : ByteArray := prog_10_method_19_code
def yX8_readOccasionOf : MethodName := ⟨RX8, "readOccasionOf", "()Z"⟩
abbrev cX8_readItem : ByteArray := prog_10_method_20_code
def yX8_readItem : MethodName := ⟨RX8, "readItem", "()Z"⟩
abbrev cX8_fault : ByteArray := prog_10_method_21_code
def yX8_fault : MethodName := ⟨RX8, "fault", "()I"⟩
abbrev cX8_lay : ByteArray := prog_10_method_22_code
def yX8_lay : MethodName := ⟨RX8, "lay", "()I"⟩
abbrev cX8_copies : ByteArray := prog_10_method_23_code
def yX8_copies : MethodName := ⟨RX8, "copies", "([II[III)V"⟩
abbrev cX8_settles : ByteArray := prog_10_method_24_code
def yX8_settles : MethodName := ⟨RX8, "settles", "()V"⟩
abbrev cX8_leaves : ByteArray := prog_10_method_25_code
def yX8_leaves : MethodName := ⟨RX8, "leaves", "(IIII)I"⟩
abbrev cX8_worthOf : ByteArray := prog_10_method_26_code
def yX8_worthOf : MethodName := ⟨RX8, "worthOf", "(I)I"⟩
abbrev cX8_whoOf : ByteArray := prog_10_method_27_code
def yX8_whoOf : MethodName := ⟨RX8, "whoOf", "(I)I"⟩
abbrev cX8_leavesBy : ByteArray := prog_10_method_28_code
def yX8_leavesBy : MethodName := ⟨RX8, "leavesBy", "(II)I"⟩
abbrev cX8_suffers : ByteArray := prog_10_method_29_code
def yX8_suffers : MethodName := ⟨RX8, "suffers", "(II)I"⟩
abbrev cX8_canBe : ByteArray := prog_10_method_30_code
def yX8_canBe : MethodName := ⟨RX8, "canBe", "(I)Z"⟩
abbrev cX8_person : ByteArray := prog_10_method_31_code
def yX8_person : MethodName := ⟨RX8, "person", "(II)I"⟩
abbrev cX8_doing : ByteArray := prog_10_method_32_code
def yX8_doing : MethodName := ⟨RX8, "doing", "(II)I"⟩
abbrev cX8_occasion : ByteArray := prog_10_method_33_code
def yX8_occasion : MethodName := ⟨RX8, "occasion", "(II)I"⟩
abbrev cX8_remembers : ByteArray := prog_10_method_34_code
def yX8_remembers : MethodName := ⟨RX8, "remembers", "()V"⟩
abbrev cX8_take : ByteArray := prog_10_method_35_code
def yX8_take : MethodName := ⟨RX8, "take", "(I)I"⟩
abbrev cX8_pass : ByteArray := prog_10_method_36_code
def yX8_pass : MethodName := ⟨RX8, "pass", "(I)I"⟩
abbrev cX8_give : ByteArray := prog_10_method_37_code
def yX8_give : MethodName := ⟨RX8, "give", "(III)I"⟩
abbrev cX8_allCoupons : ByteArray := prog_10_method_38_code
def yX8_allCoupons : MethodName := ⟨RX8, "allCoupons", "()I"⟩
abbrev cX8_ration : ByteArray := prog_10_method_39_code
def yX8_ration : MethodName := ⟨RX8, "ration", "(I)I"⟩
abbrev cX8_undo : ByteArray := prog_10_method_40_code
def yX8_undo : MethodName := ⟨RX8, "undo", "()I"⟩
abbrev cX8_worthBy : ByteArray := prog_10_method_41_code
def yX8_worthBy : MethodName := ⟨RX8, "worthBy", "(II)I"⟩
abbrev cX8_bestBy : ByteArray := prog_10_method_42_code
def yX8_bestBy : MethodName := ⟨RX8, "bestBy", "(II)I"⟩
abbrev cX8_best : ByteArray := prog_10_method_43_code
def yX8_best : MethodName := ⟨RX8, "best", "(II)I"⟩
abbrev cX8_more : ByteArray := prog_10_method_44_code
def yX8_more : MethodName := ⟨RX8, "more", "(I)I"⟩
abbrev cX8_giveBest : ByteArray := prog_10_method_45_code
def yX8_giveBest : MethodName := ⟨RX8, "giveBest", "(I)I"⟩
abbrev cX8_findShares : ByteArray := prog_10_method_46_code
def yX8_findShares : MethodName := ⟨RX8, "findShares", "()V"⟩
abbrev cX8_shared : ByteArray := prog_10_method_47_code
def yX8_shared : MethodName := ⟨RX8, "shared", "(I)I"⟩
abbrev cX8_sufferedBy : ByteArray := prog_10_method_48_code
def yX8_sufferedBy : MethodName := ⟨RX8, "sufferedBy", "(I)I"⟩
abbrev cX8_rationFor : ByteArray := prog_10_method_49_code
def yX8_rationFor : MethodName := ⟨RX8, "rationFor", "(I)I"⟩
abbrev cX8_seen : ByteArray := prog_10_method_50_code
def yX8_seen : MethodName := ⟨RX8, "seen", "(III)I"⟩
abbrev cX8_forget : ByteArray := prog_10_method_51_code
def yX8_forget : MethodName := ⟨RX8, "forget", "()I"⟩
abbrev cX8_without : ByteArray := prog_10_method_52_code
def yX8_without : MethodName := ⟨RX8, "without", "()I"⟩
abbrev cX8_letGo : ByteArray := prog_10_method_53_code
def yX8_letGo : MethodName := ⟨RX8, "letGo", "(II)I"⟩
abbrev cX8_keepOne : ByteArray := prog_10_method_54_code
def yX8_keepOne : MethodName := ⟨RX8, "keepOne", "(III)I"⟩
abbrev cX8_net : ByteArray := prog_10_method_55_code
def yX8_net : MethodName := ⟨RX8, "net", "(I)I"⟩
abbrev cX8_heard : ByteArray := prog_10_method_56_code
def yX8_heard : MethodName := ⟨RX8, "heard", "(I)I"⟩
abbrev cX8_year : ByteArray := prog_10_method_57_code
def yX8_year : MethodName := ⟨RX8, "year", "(II)I"⟩
abbrev cX8_keep : ByteArray := prog_10_method_58_code
def yX8_keep : MethodName := ⟨RX8, "keep", "()I"⟩
abbrev cX8_back : ByteArray := prog_10_method_59_code
def yX8_back : MethodName := ⟨RX8, "back", "()I"⟩
abbrev cX8_takenMany : ByteArray := prog_10_method_60_code
def yX8_takenMany : MethodName := ⟨RX8, "takenMany", "()I"⟩
abbrev cX8_count : ByteArray := prog_10_method_61_code
def yX8_count : MethodName := ⟨RX8, "count", "(I)I"⟩
end
section
/-! A SMALL MACHINE that the kernel runs: values, cells, handlers, one an instruction; a run answers true when all that it meets is as it should be. Its soundness over the machine itself stands in the parts behind. -/
/-- int (as a number below 2^32, or any: it is taken modulo); cell of the world; long; int that is only named; long that is only named; another reference (0: null) -/
abbrev mV : Type := Nat ⊕ (Nat ⊕ (Nat ⊕ (Nat ⊕ (Nat ⊕ Nat))))
/-- array of numbers (kind, length, all its numbers in one, 32 bits each); object (class, fields); array of references (kind, places) -/
abbrev mC : Type := (Nat × Nat × Nat) ⊕ ((Nat × List mV) ⊕ (Nat × List mV))
abbrev mL : Type := List (Option mV)
/-- may cells be made; how many were, of how many slots, in this method; the cells -/
abbrev mH : Type := Bool × Nat × Nat × List mC
/-- facts of named numbers: what, of which two, is which -/
abbrev mF : Type := List (Nat × mV × mV × mV)
abbrev mK : Type := Option mV → List mC → Bool
abbrev mN : Type := mL → List mV → mH → Bool
abbrev mA : Type := Nat → List mV → Bool → List mC → mK → Bool
abbrev mI : Type := mF → mA → (Nat → mN) → mK → mN → mN
noncomputable def mm_f {α : Type} (n : Nat) (k : Nat → α) : α := Nat.rec (motive := fun _ => α) (k 0) (fun m _ => k (Nat.succ m)) n
theorem mm_f_eq {α : Type} (n : Nat) (k : Nat → α) : mm_f n k = k n := by cases n <;> rfl
noncomputable def mm_p (S : List mV) (k : mV → List mV → Bool) : Bool := List.rec (motive := fun _ => Bool) false (fun x xs _ => k x xs) S
theorem mm_p_s {S : List mV} {k : mV → List mV → Bool} (h : mm_p S k = true) : ∃ x xs, S = x :: xs ∧ k x xs = true := by
  cases S with
  | nil => cases h
  | cons x xs => exact ⟨x, xs, rfl, h⟩
noncomputable def mm_i (v : mV) (k : Nat → Bool) (o : Bool) : Bool := Sum.rec (motive := fun _ => Bool) k (fun _ => o) v
theorem mm_i_s {v : mV} {k : Nat → Bool} {o : Bool} (h : mm_i v k o = true) : (∃ n, v = .inl n ∧ k n = true) ∨ o = true := by
  rcases v with n | w
  · exact Or.inl ⟨n, rfl, h⟩
  · exact Or.inr h
noncomputable def mm_r (v : mV) (k : Nat → Bool) : Bool := Sum.rec (motive := fun _ => Bool) (fun _ => false) (fun w => Sum.rec (motive := fun _ => Bool) k (fun _ => false) w) v
theorem mm_r_s {v : mV} {k : Nat → Bool} (h : mm_r v k = true) : ∃ n, v = .inr (.inl n) ∧ k n = true := by
  rcases v with n | n | w
  · cases h
  · exact ⟨n, rfl, h⟩
  · cases h
noncomputable def mm_l (v : mV) (k : Nat → Bool) (o : Bool) : Bool := Sum.rec (motive := fun _ => Bool) (fun _ => o) (fun w => Sum.rec (motive := fun _ => Bool) (fun _ => o) (fun w => Sum.rec (motive := fun _ => Bool) k (fun _ => o) w) w) v
theorem mm_l_s {v : mV} {k : Nat → Bool} {o : Bool} (h : mm_l v k o = true) : (∃ n, v = .inr (.inr (.inl n)) ∧ k n = true) ∨ o = true := by
  rcases v with n | n | n | w
  · exact Or.inr h
  · exact Or.inr h
  · exact Or.inl ⟨n, rfl, h⟩
  · exact Or.inr h
/-- an int, known or named -/
noncomputable def mm_ci (v : mV) (b : Bool) : Bool := Sum.rec (motive := fun _ => Bool) (fun _ => b) (fun w => Sum.rec (motive := fun _ => Bool) (fun _ => false) (fun w => Sum.rec (motive := fun _ => Bool) (fun _ => false) (fun w => Sum.rec (motive := fun _ => Bool) (fun _ => b) (fun _ => false) w) w) w) v
/-- a long, known or named -/
noncomputable def mm_cl (v : mV) (b : Bool) : Bool := Sum.rec (motive := fun _ => Bool) (fun _ => false) (fun w => Sum.rec (motive := fun _ => Bool) (fun _ => false) (fun w => Sum.rec (motive := fun _ => Bool) (fun _ => b) (fun w => Sum.rec (motive := fun _ => Bool) (fun _ => false) (fun w => Sum.rec (motive := fun _ => Bool) (fun _ => b) (fun _ => false) w) w) w) w) v
/-- no long -/
noncomputable def mm_c1 (v : mV) (b : Bool) : Bool := Sum.rec (motive := fun _ => Bool) (fun _ => b) (fun w => Sum.rec (motive := fun _ => Bool) (fun _ => b) (fun w => Sum.rec (motive := fun _ => Bool) (fun _ => false) (fun w => Sum.rec (motive := fun _ => Bool) (fun _ => b) (fun w => Sum.rec (motive := fun _ => Bool) (fun _ => false) (fun _ => b) w) w) w) w) v
noncomputable def mm_n {α : Type} (l : List α) (i : Nat) (k : α → Bool) : Bool := List.rec (motive := fun _ => Nat → Bool) (fun _ => false) (fun x _ ih i => Nat.rec (motive := fun _ => Bool) (k x) (fun m _ => ih m) i) l i
theorem mm_n_s {α : Type} {l : List α} {i : Nat} {k : α → Bool} (h : mm_n l i k = true) : ∃ x, l[i]? = some x ∧ k x = true := by
  induction l generalizing i with
  | nil => cases h
  | cons a t ih =>
    cases i with
    | zero => exact ⟨a, rfl, h⟩
    | succ i => exact ih h
noncomputable def mm_u {α : Type} (l : List α) (i : Nat) (v : α) (k : List α → Bool) : Bool := List.rec (motive := fun _ => Nat → (List α → Bool) → Bool) (fun _ _ => false) (fun x xs ih i k => Nat.rec (motive := fun _ => Bool) (k (v :: xs)) (fun m _ => ih m (fun l => k (x :: l))) i) l i k
theorem mm_u_s {α : Type} {l : List α} {i : Nat} {v : α} {k : List α → Bool} (h : mm_u l i v k = true) : i < l.length ∧ k (l.set i v) = true := by
  induction l generalizing i k with
  | nil => cases h
  | cons a t ih =>
    cases i with
    | zero => exact ⟨Nat.succ_pos _, h⟩
    | succ i =>
      obtain ⟨h1, h2⟩ := ih (i := i) (k := fun l => k (a :: l)) h
      exact ⟨Nat.succ_lt_succ h1, h2⟩
/-- a local is stored: the one ahead of it may not be a long -/
noncomputable def mm_ls (l : mL) (i : Nat) (v : Option mV) (k : mL → Bool) : Bool := List.rec (motive := fun _ => Nat → (mL → Bool) → Bool) (fun _ _ => false) (fun x xs ih i k => Nat.rec (motive := fun _ => Bool) (k (v :: xs)) (fun m _ => Nat.rec (motive := fun _ => Bool) (Option.rec (motive := fun _ => Bool) (ih m (fun l => k (x :: l))) (fun w => mm_c1 w (ih m (fun l => k (x :: l)))) x) (fun _ _ => ih m (fun l => k (x :: l))) m) i) l i k
noncomputable def mm_b (b : Bool) (k : Bool) : Bool := Bool.rec (motive := fun _ => Bool) false k b
theorem mm_b_s {b k : Bool} (h : mm_b b k = true) : b = true ∧ k = true := by
  cases b
  · cases h
  · exact ⟨rfl, h⟩
noncomputable def mm_t (b : Bool) (x y : Bool) : Bool := Bool.rec (motive := fun _ => Bool) y x b
/-- the number at a place of an array -/
def mm_gt (M i : Nat) : Nat := Nat.mod (Nat.shiftRight M (Nat.mul 32 i)) 4294967296
def mm_st (M i v : Nat) : Nat := Nat.add (Nat.sub M (Nat.shiftLeft (mm_gt M i) (Nat.mul 32 i))) (Nat.shiftLeft (Nat.mod v 4294967296) (Nat.mul 32 i))
/-- an int's order -/
def mm_o (n : Nat) : Nat := Nat.mod (Nat.add n 2147483648) 4294967296
def mm_e (n : Nat) : Nat := Nat.mod n 4294967296
/-- equality of values -/
def mm_q : mV → mV → Bool
  | .inl a, .inl b => Nat.beq (mm_e a) (mm_e b)
  | .inr (.inl a), .inr (.inl b) => Nat.beq a b
  | .inr (.inr (.inl a)), .inr (.inr (.inl b)) => Nat.beq a b
  | .inr (.inr (.inr (.inl a))), .inr (.inr (.inr (.inl b))) => Nat.beq a b
  | .inr (.inr (.inr (.inr (.inl a)))), .inr (.inr (.inr (.inr (.inl b)))) => Nat.beq a b
  | .inr (.inr (.inr (.inr (.inr a)))), .inr (.inr (.inr (.inr (.inr b)))) => Nat.beq a b
  | _, _ => false
/-- a fact is looked up -/
noncomputable def mm_k (F : mF) (op : Nat) (a b : mV) (k : mV → Bool) : Bool := List.rec (motive := fun _ => Bool) false (fun q _ ih => mm_t (mm_t (Nat.beq q.1 op) (mm_t (mm_q q.2.1 a) (mm_q q.2.2.1 b) false) false) (k q.2.2.2) ih) F
/-- a comparison of two ints: 0 eq, 1 ne, 2 lt, 3 ge, 4 gt, 5 le -/
noncomputable def mm_cmp (c : Nat) (a b : Nat) : Bool := Nat.rec (motive := fun _ => Bool) (Nat.beq (mm_e a) (mm_e b)) (fun c _ => Nat.rec (motive := fun _ => Bool) (not (Nat.beq (mm_e a) (mm_e b))) (fun c _ => Nat.rec (motive := fun _ => Bool) (Nat.blt (mm_o a) (mm_o b)) (fun c _ => Nat.rec (motive := fun _ => Bool) (Nat.ble (mm_o b) (mm_o a)) (fun c _ => Nat.rec (motive := fun _ => Bool) (Nat.blt (mm_o b) (mm_o a)) (fun _ _ => Nat.ble (mm_o a) (mm_o b)) c) c) c) c) c
-- the handlers
noncomputable def h_const (n : Nat) : mI := fun _ _ _ _ nx L S h => nx L (.inl n :: S) h
noncomputable def h_lconst (n : Nat) : mI := fun _ _ _ _ nx L S h => nx L (.inr (.inr (.inl n)) :: S) h
noncomputable def h_iload (i : Nat) : mI := fun _ _ _ _ nx L S h => mm_n L i (fun o => Option.rec (motive := fun _ => Bool) false (fun v => mm_ci v (nx L (v :: S) h)) o)
noncomputable def h_lload (i : Nat) : mI := fun _ _ _ _ nx L S h => mm_n L i (fun o => Option.rec (motive := fun _ => Bool) false (fun v => mm_cl v (nx L (v :: S) h)) o)
noncomputable def h_aload (i : Nat) : mI := fun _ _ _ _ nx L S h => mm_n L i (fun o => Option.rec (motive := fun _ => Bool) false (fun v => mm_r v (fun _ => nx L (v :: S) h)) o)
noncomputable def h_istore (i : Nat) : mI := fun _ _ _ _ nx L S h => mm_p S (fun v S => mm_ci v (mm_ls L i (some v) (fun L => nx L S h)))
noncomputable def h_astore (i : Nat) : mI := fun _ _ _ _ nx L S h => mm_p S (fun v S => mm_r v (fun _ => mm_ls L i (some v) (fun L => nx L S h)))
noncomputable def h_lstore (i : Nat) : mI := fun _ _ _ _ nx L S h => mm_p S (fun v S => mm_cl v (mm_ls L i (some v) (fun L => mm_u L (Nat.succ i) none (fun L => nx L S h))))
noncomputable def h_iinc (i n : Nat) : mI := fun _ _ _ _ nx L S h => mm_n L i (fun o => Option.rec (motive := fun _ => Bool) false (fun v => mm_i v (fun a => mm_f (Nat.mod (Nat.add a n) 4294967296) (fun a => mm_ls L i (some (.inl a)) (fun L => nx L S h))) false) o)
noncomputable def h_iadd : mI := fun _ _ _ _ nx L S h => mm_p S (fun y S => mm_p S (fun x S => mm_i y (fun b => mm_i x (fun a => mm_f (Nat.mod (Nat.add a b) 4294967296) (fun n => nx L (.inl n :: S) h)) false) false))
noncomputable def h_isub : mI := fun _ _ _ _ nx L S h => mm_p S (fun y S => mm_p S (fun x S => mm_i y (fun b => mm_i x (fun a => mm_f (Nat.mod (Nat.sub (Nat.add (mm_e a) 4294967296) (mm_e b)) 4294967296) (fun n => nx L (.inl n :: S) h)) false) false))
noncomputable def h_imul : mI := fun F _ _ _ nx L S h => mm_p S (fun y S => mm_p S (fun x S => mm_i y (fun b => mm_i x (fun a => mm_f (Nat.mod (Nat.mul a b) 4294967296) (fun n => nx L (.inl n :: S) h)) (mm_k F 1 x y (fun v => nx L (v :: S) h))) (mm_k F 1 x y (fun v => nx L (v :: S) h))))
noncomputable def h_iand : mI := fun _ _ _ _ nx L S h => mm_p S (fun y S => mm_p S (fun x S => mm_i y (fun b => mm_i x (fun a => mm_f (Nat.land a b) (fun n => nx L (.inl n :: S) h)) false) false))
noncomputable def h_ior : mI := fun _ _ _ _ nx L S h => mm_p S (fun y S => mm_p S (fun x S => mm_i y (fun b => mm_i x (fun a => mm_f (Nat.lor a b) (fun n => nx L (.inl n :: S) h)) false) false))
noncomputable def h_ixor : mI := fun _ _ _ _ nx L S h => mm_p S (fun y S => mm_p S (fun x S => mm_i y (fun b => mm_i x (fun a => mm_f (Nat.xor a b) (fun n => nx L (.inl n :: S) h)) false) false))
noncomputable def h_irem : mI := fun F _ _ _ nx L S h => mm_p S (fun y S => mm_p S (fun x S => mm_i y (fun b => mm_i x (fun a => mm_b (Nat.ble a 2147483647) (mm_b (Nat.ble b 2147483647) (mm_b (Nat.ble 1 b) (mm_f (Nat.mod a b) (fun n => nx L (.inl n :: S) h))))) (mm_k F 8 x y (fun v => nx L (v :: S) h))) false))
noncomputable def h_ishl : mI := fun _ _ _ _ nx L S h => mm_p S (fun y S => mm_p S (fun x S => mm_i y (fun b => mm_i x (fun a => mm_b (Nat.ble b 31) (mm_f (Nat.mod (Nat.shiftLeft a b) 4294967296) (fun n => nx L (.inl n :: S) h))) false) false))
noncomputable def h_ishr : mI := fun _ _ _ _ nx L S h => mm_p S (fun y S => mm_p S (fun x S => mm_i y (fun b => mm_i x (fun a => mm_b (Nat.ble b 31) (mm_b (Nat.ble a 2147483647) (mm_f (Nat.shiftRight a b) (fun n => nx L (.inl n :: S) h)))) false) false))
noncomputable def h_iushr : mI := fun _ _ _ _ nx L S h => mm_p S (fun y S => mm_p S (fun x S => mm_i y (fun b => mm_i x (fun a => mm_b (Nat.ble b 31) (mm_b (Nat.ble a 4294967295) (mm_f (Nat.shiftRight a b) (fun n => nx L (.inl n :: S) h)))) false) false))
noncomputable def h_i2c : mI := fun _ _ _ _ nx L S h => mm_p S (fun x S => mm_i x (fun a => mm_f (Nat.mod a 65536) (fun n => nx L (.inl n :: S) h)) false)
/-- i2l, l2i and the longs' arithmetic: op 2, 7; 3 lmul, 4 ladd, 5 lrem, 6 ldiv, 9 lcmp; small known numbers only -/
noncomputable def h_i2l : mI := fun F _ _ _ nx L S h => mm_p S (fun x S => mm_i x (fun a => mm_b (Nat.ble a 2147483647) (nx L (.inr (.inr (.inl a)) :: S) h)) (mm_k F 2 x x (fun v => nx L (v :: S) h)))
noncomputable def h_l2i : mI := fun F _ _ _ nx L S h => mm_p S (fun x S => mm_l x (fun a => mm_f (Nat.mod a 4294967296) (fun n => nx L (.inl n :: S) h)) (mm_k F 7 x x (fun v => nx L (v :: S) h)))
noncomputable def h_lmul : mI := fun F _ _ _ nx L S h => mm_p S (fun y S => mm_p S (fun x S => mm_l y (fun b => mm_l x (fun a => mm_f (Nat.mod (Nat.mul a b) 18446744073709551616) (fun n => nx L (.inr (.inr (.inl n)) :: S) h)) (mm_k F 3 x y (fun v => nx L (v :: S) h))) (mm_k F 3 x y (fun v => nx L (v :: S) h))))
noncomputable def h_ladd : mI := fun F _ _ _ nx L S h => mm_p S (fun y S => mm_p S (fun x S => mm_l y (fun b => mm_l x (fun a => mm_f (Nat.mod (Nat.add a b) 18446744073709551616) (fun n => nx L (.inr (.inr (.inl n)) :: S) h)) (mm_k F 4 x y (fun v => nx L (v :: S) h))) (mm_k F 4 x y (fun v => nx L (v :: S) h))))
noncomputable def h_lrem : mI := fun F _ _ _ nx L S h => mm_p S (fun y S => mm_p S (fun x S => mm_k F 5 x y (fun v => nx L (v :: S) h)))
noncomputable def h_ldiv : mI := fun F _ _ _ nx L S h => mm_p S (fun y S => mm_p S (fun x S => mm_k F 6 x y (fun v => nx L (v :: S) h)))
noncomputable def h_lcmp : mI := fun F _ _ _ nx L S h => mm_p S (fun y S => mm_p S (fun x S => mm_k F 9 x y (fun v => nx L (v :: S) h)))
noncomputable def h_dup : mI := fun _ _ _ _ nx L S h => mm_p S (fun x S => mm_c1 x (nx L (x :: x :: S) h))
noncomputable def h_dup2 : mI := fun _ _ _ _ nx L S h => mm_p S (fun y S => mm_p S (fun x S => mm_c1 x (mm_c1 y (nx L (y :: x :: y :: x :: S) h))))
noncomputable def h_pop : mI := fun _ _ _ _ nx L S h => mm_p S (fun x S => mm_c1 x (nx L S h))
noncomputable def h_goto (l : Nat) : mI := fun _ _ j _ _ L S h => j l L S h
/-- behind a block's end: the next block -/
noncomputable def h_if (c l : Nat) : mI := fun F _ j _ nx L S h => mm_p S (fun x S => mm_i x (fun a => mm_t (mm_cmp c a 0) (j l L S h) (nx L S h)) (mm_k F (Nat.add 10 c) x (.inl 0) (fun v => mm_i v (fun b => Nat.rec (motive := fun _ => Bool) (nx L S h) (fun _ _ => j l L S h) b) false)))
noncomputable def h_icmp (c l : Nat) : mI := fun F _ j _ nx L S h => mm_p S (fun y S => mm_p S (fun x S => mm_i y (fun b => mm_i x (fun a => mm_t (mm_cmp c a b) (j l L S h) (nx L S h)) (mm_k F (Nat.add 10 c) x y (fun v => mm_i v (fun b => Nat.rec (motive := fun _ => Bool) (nx L S h) (fun _ _ => j l L S h) b) false))) (mm_k F (Nat.add 10 c) x y (fun v => mm_i v (fun b => Nat.rec (motive := fun _ => Bool) (nx L S h) (fun _ _ => j l L S h) b) false))))
/-- a switch: the default's label, the first number, the labels from it on -/
noncomputable def h_table (d lo : Nat) (ls : List Nat) : mI := fun F _ j _ _ L S h => mm_p S (fun x S => mm_i x (fun a => mm_t (Nat.ble a 2147483647) (mm_t (Nat.blt a lo) (j d L S h) (mm_t (Nat.blt (Nat.sub a lo) ls.length) (mm_n ls (Nat.sub a lo) (fun l => j l L S h)) (j d L S h))) (mm_b (Nat.ble a 4294967295) (j d L S h))) (mm_k F 12 x (.inl lo) (fun v => mm_i v (fun b => Nat.rec (motive := fun _ => Bool) (mm_k F 14 x (.inl (Nat.add lo (Nat.sub ls.length 1))) (fun v => mm_i v (fun b => Nat.rec (motive := fun _ => Bool) false (fun _ _ => j d L S h) b) false)) (fun _ _ => j d L S h) b) false)))
noncomputable def h_bad : mI := fun _ _ _ _ _ _ _ _ => false
noncomputable def mm_z (S : List mV) (b : Bool) : Bool := List.rec (motive := fun _ => Bool) b (fun _ _ _ => false) S
theorem mm_z_s {S : List mV} {b : Bool} (h : mm_z S b = true) : S = [] ∧ b = true := by
  cases S with
  | nil => exact ⟨rfl, h⟩
  | cons x xs => cases h
noncomputable def h_ireturn (mc ms : Nat) : mI := fun _ _ _ K _ _ S h => mm_p S (fun x S => mm_z S (mm_ci x (mm_b (Nat.beq h.2.1 mc) (mm_b (Nat.beq h.2.2.1 ms) (K (some x) h.2.2.2)))))
/-- of a boolean or a char: at most bd -/
noncomputable def h_zreturn (bd mc ms : Nat) : mI := fun _ _ _ K _ _ S h => mm_p S (fun x S => mm_z S (mm_i x (fun a => mm_b (Nat.ble a bd) (mm_b (Nat.beq h.2.1 mc) (mm_b (Nat.beq h.2.2.1 ms) (K (some x) h.2.2.2)))) false))
noncomputable def h_return (mc ms : Nat) : mI := fun _ _ _ K _ _ S h => mm_z S (mm_b (Nat.beq h.2.1 mc) (mm_b (Nat.beq h.2.2.1 ms) (K none h.2.2.2)))
/-- fields: of which class, which -/
noncomputable def mm_ob (c : mC) (k : Nat → List mV → Bool) : Bool := Sum.rec (motive := fun _ => Bool) (fun _ => false) (fun d => Sum.rec (motive := fun _ => Bool) (fun o => k o.1 o.2) (fun _ => false) d) c
noncomputable def mm_ar (c : mC) (k : Nat → Nat → Nat → Bool) : Bool := Sum.rec (motive := fun _ => Bool) (fun a => k a.1 a.2.1 a.2.2) (fun _ => false) c
noncomputable def mm_rr (c : mC) (k : Nat → List mV → Bool) : Bool := Sum.rec (motive := fun _ => Bool) (fun _ => false) (fun d => Sum.rec (motive := fun _ => Bool) (fun _ => false) (fun o => k o.1 o.2) d) c
noncomputable def h_getf (ci f : Nat) : mI := fun _ _ _ _ nx L S h => mm_p S (fun x S => mm_r x (fun a => mm_n h.2.2.2 a (fun c => mm_ob c (fun ci' fs => mm_b (Nat.beq ci' ci) (mm_n fs f (fun v => nx L (v :: S) h))))))
/-- ty: 0 an int field, 1 one of references -/
noncomputable def h_putf (ci f ty : Nat) : mI := fun _ _ _ _ nx L S h => mm_p S (fun v S => mm_p S (fun x S => mm_r x (fun a => mm_n h.2.2.2 a (fun c => mm_ob c (fun ci' fs => mm_b (Nat.beq ci' ci) (Nat.rec (motive := fun _ => Bool) (mm_ci v (mm_u fs f v (fun fs => mm_u h.2.2.2 a (.inr (.inl (ci, fs))) (fun hp => nx L S (h.1, h.2.1, h.2.2.1, hp))))) (fun _ _ => mm_r v (fun _ => mm_u fs f v (fun fs => mm_u h.2.2.2 a (.inr (.inl (ci, fs))) (fun hp => nx L S (h.1, h.2.1, h.2.2.1, hp))))) ty))))))
noncomputable def h_ald (ty : Nat) : mI := fun _ _ _ _ nx L S h => mm_p S (fun y S => mm_p S (fun x S => mm_i y (fun i => mm_r x (fun a => mm_n h.2.2.2 a (fun c => mm_ar c (fun ty' n M => mm_b (Nat.beq ty' ty) (mm_b (Nat.blt i n) (mm_b (Nat.ble n 65535) (mm_f (mm_gt M i) (fun v => nx L (.inl v :: S) h)))))))) false))
noncomputable def h_ast (ty : Nat) : mI := fun _ _ _ _ nx L S h => mm_p S (fun z S => mm_p S (fun y S => mm_p S (fun x S => mm_i z (fun v => mm_i y (fun i => mm_r x (fun a => mm_n h.2.2.2 a (fun c => mm_ar c (fun ty' n M => mm_b (Nat.beq ty' ty) (mm_b (Nat.blt i n) (mm_b (Nat.ble n 65535) (mm_b (Nat.rec (motive := fun _ => Bool) true (fun _ _ => Nat.ble v 65535) ty) (mm_f (mm_st M i v) (fun M => mm_u h.2.2.2 a (.inl (ty, n, M)) (fun hp => nx L S (h.1, h.2.1, h.2.2.1, hp))))))))))) false) false)))
noncomputable def h_aald : mI := fun _ _ _ _ nx L S h => mm_p S (fun y S => mm_p S (fun x S => mm_i y (fun i => mm_r x (fun a => mm_n h.2.2.2 a (fun c => mm_rr c (fun ty es => mm_b (Nat.ble ty 4) (mm_b (Nat.ble 2 ty) (mm_b (Nat.ble es.length 65535) (mm_n es i (fun v => mm_r v (fun _ => nx L (v :: S) h))))))))) false))
/-- a reference is stored into an array of kind ty, whose elements are of class ci -/
noncomputable def h_aast (ty ci : Nat) : mI := fun _ _ _ _ nx L S h => mm_p S (fun z S => mm_p S (fun y S => mm_p S (fun x S => mm_r z (fun q => mm_i y (fun i => mm_r x (fun a => mm_n h.2.2.2 q (fun c => mm_ob c (fun ci' _ => mm_b (Nat.beq ci' ci) (mm_n h.2.2.2 a (fun c => mm_rr c (fun ty' es => mm_b (Nat.beq ty' ty) (mm_b (Nat.ble es.length 65535) (mm_u es i z (fun es => mm_u h.2.2.2 a (.inr (.inr (ty, es))) (fun hp => nx L S (h.1, h.2.1, h.2.2.1, hp)))))))))))) false))))
noncomputable def h_alen : mI := fun _ _ _ _ nx L S h => mm_p S (fun x S => mm_r x (fun a => mm_n h.2.2.2 a (fun c => Sum.rec (motive := fun _ => Bool) (fun b => mm_b (Nat.ble b.1 4) (nx L (.inl b.2.1 :: S) h)) (fun d => Sum.rec (motive := fun _ => Bool) (fun _ => false) (fun o => mm_b (Nat.ble o.1 4) (mm_f o.2.length (fun n => nx L (.inl n :: S) h))) d) c)))
/-- the room for cells and slots of the method stands in the instruction -/
noncomputable def h_new (ci : Nat) (fs : List mV) (rc rs : Nat) : mI := fun _ _ _ _ nx L S h => mm_b h.1 (mm_f (Nat.succ h.2.1) (fun nc => mm_f (Nat.add h.2.2.1 fs.length) (fun ns => mm_b (Nat.ble nc rc) (mm_b (Nat.ble ns rs) (mm_f h.2.2.2.length (fun a => nx L (.inr (.inl a) :: S) (true, nc, ns, h.2.2.2 ++ [.inr (.inl (ci, fs))])))))))
noncomputable def h_newa (ty : Nat) (rc rs : Nat) : mI := fun _ _ _ _ nx L S h => mm_p S (fun x S => mm_i x (fun n => mm_b h.1 (mm_b (Nat.ble n 65535) (mm_f (Nat.succ h.2.1) (fun nc => mm_f (Nat.add h.2.2.1 n) (fun ns => mm_b (Nat.ble nc rc) (mm_b (Nat.ble ns rs) (mm_f h.2.2.2.length (fun a => nx L (.inr (.inl a) :: S) (true, nc, ns, h.2.2.2 ++ [.inl (ty, n, 0)])))))))))  false)
noncomputable def h_newq (ty : Nat) (rc rs : Nat) : mI := fun _ _ _ _ nx L S h => mm_p S (fun x S => mm_i x (fun n => mm_b h.1 (mm_b (Nat.ble n 65535) (mm_f (Nat.succ h.2.1) (fun nc => mm_f (Nat.add h.2.2.1 n) (fun ns => mm_b (Nat.ble nc rc) (mm_b (Nat.ble ns rs) (mm_f h.2.2.2.length (fun a => nx L (.inr (.inl a) :: S) (true, nc, ns, h.2.2.2 ++ [.inr (.inr (ty, List.replicate n (.inr (.inr (.inr (.inr (.inr 0)))))))])))))))))  false)
noncomputable def mm_rows (n k a : Nat) : List mC := List.replicate n (.inl (0, k, 0))
noncomputable def mm_refs (a : Nat) : Nat → List mV := fun n => (List.range n).map (fun i => .inr (.inl (a + i)))
noncomputable def h_mna (rc rs : Nat) : mI := fun _ _ _ _ nx L S h => mm_p S (fun y S => mm_p S (fun x S => mm_i y (fun k => mm_i x (fun n => mm_b h.1 (mm_b (Nat.ble n 65535) (mm_b (Nat.ble k 65535) (mm_f (Nat.add h.2.1 (Nat.succ n)) (fun nc => mm_f (Nat.add h.2.2.1 (Nat.add n (Nat.mul n k))) (fun ns => mm_b (Nat.ble nc rc) (mm_b (Nat.ble ns rs) (mm_f h.2.2.2.length (fun a => nx L (.inr (.inl a) :: S) (true, nc, ns, (h.2.2.2 ++ [.inr (.inr (4, mm_refs (a + 1) n))]) ++ mm_rows n k a)))))))))) false) false))
noncomputable def h_oinit : mI := fun _ _ _ _ nx L S h => mm_p S (fun x S => mm_r x (fun _ => mm_b (Nat.ble S.length 4) (nx L S h)))
/-- so many from the stack, the last one first -/
noncomputable def mm_pn (n : Nat) (S : List mV) (as : List mV) (k : List mV → List mV → Bool) : Bool := Nat.rec (motive := fun _ => List mV → List mV → Bool) (fun S as => k as S) (fun _ ih S as => mm_p S (fun x S => mm_c1 x (ih S (x :: as)))) n S as
/-- a call, rv: 0 of no answer, 1 of an int; ci: 0 static, 1 a constructor, k + 2: virtual, the receiver is of class k -/
noncomputable def h_call (y n rv ci : Nat) (mc ms rc rs : Nat) : mI := fun _ call _ _ nx L S h => mm_pn n S [] (fun as S => mm_b (Nat.ble S.length 4) (mm_f (Nat.add h.2.1 mc) (fun nc => mm_f (Nat.add h.2.2.1 ms) (fun ns => mm_b (Nat.ble nc rc) (mm_b (Nat.ble ns rs)
  (mm_b (Nat.rec (motive := fun _ => Bool) true (fun k _ => mm_p as (fun x _ => mm_r x (fun a => Nat.rec (motive := fun _ => Bool) true (fun k _ => mm_n h.2.2.2 a (fun c => mm_ob c (fun ci' _ => Nat.beq ci' k))) k))) ci)
    (call y as h.1 h.2.2.2 (fun v hp => Nat.rec (motive := fun _ => Bool) (Option.rec (motive := fun _ => Bool) (nx L S (h.1, nc, ns, hp)) (fun _ => false) v) (fun _ _ => Option.rec (motive := fun _ => Bool) false (fun v => mm_ci v (nx L (v :: S) (h.1, nc, ns, hp))) v) rv))))))))
/-- the text, as a constant: its length, its letters -/
noncomputable def h_str : mI := fun _ _ _ _ nx L S h => nx L (.inr (.inr (.inr (.inr (.inr 1)))) :: S) h
noncomputable def mm_sr (v : mV) (b : Bool) : Bool := mm_b (mm_q v (.inr (.inr (.inr (.inr (.inr 1)))))) b
noncomputable def h_slen (n : Nat) : mI := fun _ _ _ _ nx L S h => mm_p S (fun x S => mm_sr x (mm_b (Nat.ble S.length 4) (nx L (.inl n :: S) h)))
noncomputable def h_char (n M : Nat) : mI := fun _ _ _ _ nx L S h => mm_p S (fun y S => mm_p S (fun x S => mm_sr x (mm_i y (fun i => mm_b (Nat.blt i n) (mm_b (Nat.ble S.length 4) (mm_f (mm_gt M i) (fun v => nx L (.inl v :: S) h)))) false)))
noncomputable def bl (c : List mI) : mF → mA → (Nat → mN) → mK → mN := List.rec (motive := fun _ => mF → mA → (Nat → mN) → mK → mN) (fun _ _ _ _ _ _ _ => false) (fun i _ ih F a j K L S h => i F a j K (ih F a j K) L S h) c
noncomputable def mm_en (n : Nat) (as : List mV) (k : mL → Bool) : Bool := Nat.rec (motive := fun _ => List mV → (mL → Bool) → Bool) (fun as k => List.rec (motive := fun _ => Bool) (k []) (fun _ _ _ => false) as) (fun _ ih as k => List.rec (motive := fun _ => Bool) (ih [] (fun L => k (none :: L))) (fun a as _ => ih as (fun L => k (some a :: L))) as) n as k
/-- a frame's run: the facts, what calls do; so many jumps; the method's code by blocks, block, locals, stack, cells; what is asked of its end; what is asked where the jumps are at an end -/
noncomputable def fr (F : mF) (call : mA) (n : Nat) : (Nat → List mI) → Nat → mL → List mV → mH → mK → (Nat → mN) → Bool :=
  Nat.rec (motive := fun _ => (Nat → List mI) → Nat → mL → List mV → mH → mK → (Nat → mN) → Bool) (fun _ b L S h _ Z => Z b L S h)
    (fun _ ih cs b L S h K Z => bl (cs b) F call (fun b L S h => ih cs b L S h K Z) K L S h) n
/-- a call's run, d deep: every method's code, number of locals -/
noncomputable def ed (F : mF) (rc : Nat → Nat → List mI) (nl : Nat → Nat) (d : Nat) : mA :=
  Nat.rec (motive := fun _ => mA) (fun _ _ _ _ _ => false) (fun _ ih y as al hp K => mm_en (nl y) as (fun L => fr F ih 1000000 (rc y) 0 L [] (al, 0, 0, hp) K (fun _ _ _ _ => false))) d
end
section
/-! The program as the small machine runs it: by program out of the code that the claim bears. -/
def tx_M : Nat := 4595750799627909672895520109817179342376910322941544273845931433050619076453403390199923514579632973730648103941087199589719334166584047005148219747440939429357122888725197889420551022058628651995139922667679602019853701631522616296360840175558409618305081887310940247103096355603811346425153542209269514180863274744953868515844730742659602088876805283548568158206127385477212502060804866955421013096404139520618322538853857370565067740264283602208356887905066544067547436824273305420638241533936858749131596351649228213674411004728089194779899736407772317904899000893332634900768420076290611398481387074372847323858216703883409165659828285499011938414992594606395996209417999734794909456250554492027923359904184875981191611040426807496736876147951679039615724226806702817115505189261272920190165324683867489518199310023352751018763658496478932757598029900547908416946733373157311672858540516128664485308858512226545391387548171225875842580893338782529070825766963177473476414536893793300676524912119842320723638801065819895778861837025932762073127234796628336450485027266870902896
noncomputable def nth {α : Type} (x0 : α) (l : List α) (i : Nat) : α := List.rec (motive := fun _ => Nat → α) (fun _ => x0) (fun x _ ih i => Nat.rec (motive := fun _ => α) x (fun m _ => ih m) i) l i
/-- RudeCouponsModel.has(II)Z -/
noncomputable def rc_0_0 : List mI := [h_iload 0, h_iload 1, h_ishr, h_const 1, h_iand, h_const 1, h_icmp 1 1, h_const 1, h_goto 2]
noncomputable def rc_0_1 : List mI := [h_const 0, h_goto 2]
noncomputable def rc_0_2 : List mI := [h_zreturn 1 0 0]
noncomputable def rc_0 : Nat → List mI := nth [] [rc_0_0, rc_0_1, rc_0_2]
/-- RudeCouponsModel.whoOf(I)I -/
noncomputable def rc_1_0 : List mI := [h_aload 0, h_getf 8 5, h_const 3, h_iload 1, h_imul, h_const 1, h_iadd, h_ald 0, h_ireturn 0 0]
noncomputable def rc_1 : Nat → List mI := nth [] [rc_1_0]
/-- RudeCouponsModel.leaves(IIII)I -/
noncomputable def rc_2_0 : List mI := [h_aload 0, h_getf 8 3, h_const 3, h_iload 3, h_imul, h_const 1, h_iadd, h_ald 0, h_istore 5, h_aload 0, h_getf 8 1, h_const 3, h_iload 1, h_imul, h_ald 0, h_table 8 1 [1, 2, 5]]
noncomputable def rc_2_1 : List mI := [h_iload 2, h_const 2, h_iload 5, h_imul, h_isub, h_ireturn 0 0]
noncomputable def rc_2_2 : List mI := [h_iload 4, h_const 2, h_irem, h_if 1 3, h_iload 2, h_const 1, h_isub, h_goto 4]
noncomputable def rc_2_3 : List mI := [h_const 4294967295, h_goto 4]
noncomputable def rc_2_4 : List mI := [h_ireturn 0 0]
noncomputable def rc_2_5 : List mI := [h_iload 2, h_iload 5, h_isub, h_if 5 6, h_iload 2, h_iload 5, h_isub, h_goto 7]
noncomputable def rc_2_6 : List mI := [h_const 4294967295, h_goto 7]
noncomputable def rc_2_7 : List mI := [h_ireturn 0 0]
noncomputable def rc_2_8 : List mI := [h_iload 2, h_iload 5, h_isub, h_ireturn 0 0]
noncomputable def rc_2 : Nat → List mI := nth [] [rc_2_0, rc_2_1, rc_2_2, rc_2_3, rc_2_4, rc_2_5, rc_2_6, rc_2_7, rc_2_8]
/-- RudeCouponsModel.leavesBy(II)I -/
noncomputable def rc_3_0 : List mI := [h_aload 0, h_aload 0, h_iload 1, h_call 1 2 1 10 0 0 0 0, h_iload 2, h_aload 0, h_getf 8 5, h_const 3, h_iload 1, h_imul, h_const 2, h_iadd, h_ald 0, h_aload 0, h_getf 8 5, h_const 3, h_iload 1, h_imul, h_ald 0, h_call 2 5 1 10 0 0 0 0, h_ireturn 0 0]
noncomputable def rc_3 : Nat → List mI := nth [] [rc_3_0]
/-- RudeCouponsModel.worthOf(I)I -/
noncomputable def rc_4_0 : List mI := [h_aload 0, h_getf 8 3, h_const 3, h_aload 0, h_getf 8 5, h_const 3, h_iload 1, h_imul, h_const 2, h_iadd, h_ald 0, h_imul, h_ald 0, h_ireturn 0 0]
noncomputable def rc_4 : Nat → List mI := nth [] [rc_4_0]
/-- RudeCouponsModel.worthBy(II)I -/
noncomputable def rc_5_0 : List mI := [h_iload 2, h_istore 3, h_const 0, h_istore 4, h_const 0, h_istore 5, h_goto 1]
noncomputable def rc_5_1 : List mI := [h_iload 5, h_aload 0, h_getf 8 4, h_icmp 3 5, h_aload 0, h_getf 8 6, h_iload 5, h_ald 0, h_istore 6, h_iload 1, h_iload 6, h_call 0 2 1 0 0 0 0 0, h_if 0 4, h_iload 3, h_if 3 2, h_const 4294967295, h_goto 3]
noncomputable def rc_5_2 : List mI := [h_aload 0, h_iload 6, h_iload 3, h_call 3 3 1 10 0 0 0 0, h_goto 3]
noncomputable def rc_5_3 : List mI := [h_istore 3, h_iload 4, h_aload 0, h_iload 6, h_call 4 2 1 10 0 0 0 0, h_iadd, h_istore 4, h_goto 4]
noncomputable def rc_5_4 : List mI := [h_iinc 5 1, h_goto 1]
noncomputable def rc_5_5 : List mI := [h_iload 3, h_if 3 6, h_const 4294967295, h_goto 7]
noncomputable def rc_5_6 : List mI := [h_iload 4, h_goto 7]
noncomputable def rc_5_7 : List mI := [h_ireturn 0 0]
noncomputable def rc_5 : Nat → List mI := nth [] [rc_5_0, rc_5_1, rc_5_2, rc_5_3, rc_5_4, rc_5_5, rc_5_6, rc_5_7]
/-- RudeCouponsModel.bestBy(II)I -/
noncomputable def rc_6_0 : List mI := [h_const 0, h_istore 3, h_const 0, h_istore 4, h_goto 1]
noncomputable def rc_6_1 : List mI := [h_iload 4, h_aload 0, h_getf 8 4, h_icmp 3 4, h_iload 3, h_aload 0, h_iload 4, h_call 1 2 1 10 0 0 0 0, h_iload 1, h_icmp 1 2, h_aload 0, h_getf 8 5, h_const 3, h_iload 4, h_imul, h_ald 0, h_aload 0, h_getf 8 7, h_const 0, h_ald 0, h_icmp 2 2, h_aload 0, h_getf 8 7, h_const 1, h_ald 0, h_iload 4, h_call 0 2 1 0 0 0 0 0, h_if 1 2, h_const 1, h_iload 4, h_ishl, h_goto 3]
noncomputable def rc_6_2 : List mI := [h_const 0, h_goto 3]
noncomputable def rc_6_3 : List mI := [h_ior, h_istore 3, h_iinc 4 1, h_goto 1]
noncomputable def rc_6_4 : List mI := [h_const 4294967295, h_istore 4, h_const 0, h_istore 5, h_goto 5]
noncomputable def rc_6_5 : List mI := [h_iload 5, h_iload 3, h_icmp 4 12, h_iload 5, h_iload 3, h_const 4294967295, h_ixor, h_iand, h_if 1 6, h_aload 0, h_iload 5, h_iload 2, h_call 5 3 1 10 0 0 0 0, h_goto 7]
noncomputable def rc_6_6 : List mI := [h_const 4294967295, h_goto 7]
noncomputable def rc_6_7 : List mI := [h_istore 6, h_aload 0, h_iload 6, h_iload 4, h_icmp 5 8, h_iload 5, h_goto 9]
noncomputable def rc_6_8 : List mI := [h_aload 0, h_getf 8 24, h_goto 9]
noncomputable def rc_6_9 : List mI := [h_putf 8 24 0, h_iload 6, h_iload 4, h_icmp 5 10, h_iload 6, h_goto 11]
noncomputable def rc_6_10 : List mI := [h_iload 4, h_goto 11]
noncomputable def rc_6_11 : List mI := [h_istore 4, h_iinc 5 1, h_goto 5]
noncomputable def rc_6_12 : List mI := [h_iload 4, h_ireturn 0 0]
noncomputable def rc_6 : Nat → List mI := nth [] [rc_6_0, rc_6_1, rc_6_2, rc_6_3, rc_6_4, rc_6_5, rc_6_6, rc_6_7, rc_6_8, rc_6_9, rc_6_10, rc_6_11, rc_6_12]
/-- RudeCouponsModel.in(III)Z -/
noncomputable def rc_7_0 : List mI := [h_iload 0, h_iload 1, h_icmp 2 1, h_iload 0, h_iload 2, h_icmp 4 1, h_const 1, h_goto 2]
noncomputable def rc_7_1 : List mI := [h_const 0, h_goto 2]
noncomputable def rc_7_2 : List mI := [h_zreturn 1 0 0]
noncomputable def rc_7 : Nat → List mI := nth [] [rc_7_0, rc_7_1, rc_7_2]
/-- RudeCouponsModel.suffers(II)I -/
noncomputable def rc_8_0 : List mI := [h_aload 0, h_getf 8 3, h_const 3, h_iload 2, h_imul, h_const 2, h_iadd, h_ald 0, h_aload 0, h_getf 8 1, h_const 3, h_iload 1, h_imul, h_const 2, h_iadd, h_ald 0, h_isub, h_istore 3, h_iload 3, h_if 3 1, h_const 0, h_goto 2]
noncomputable def rc_8_1 : List mI := [h_iload 3, h_goto 2]
noncomputable def rc_8_2 : List mI := [h_ireturn 0 0]
noncomputable def rc_8 : Nat → List mI := nth [] [rc_8_0, rc_8_1, rc_8_2]
/-- RudeCouponsModel.isPerson(I)Z -/
noncomputable def rc_9_0 : List mI := [h_iload 1, h_const 0, h_aload 0, h_getf 8 0, h_const 1, h_isub, h_call 7 3 1 0 0 0 0 0, h_zreturn 1 0 0]
noncomputable def rc_9 : Nat → List mI := nth [] [rc_9_0]
/-- RudeCoupons$Book.leftAfter(IIII)I -/
noncomputable def rc_10_0 : List mI := [h_aload 0, h_getf 0 6, h_iload 2, h_ald 0, h_istore 5, h_aload 0, h_getf 0 1, h_iload 1, h_ald 0, h_const 1, h_icmp 1 1, h_iload 5, h_const 2, h_imul, h_istore 5, h_goto 2]
noncomputable def rc_10_1 : List mI := [h_aload 0, h_getf 0 1, h_iload 1, h_ald 0, h_const 2, h_icmp 1 2, h_const 1, h_istore 5, h_iload 3, h_const 2, h_irem, h_if 0 2, h_const 4294967294, h_ireturn 0 0]
noncomputable def rc_10_2 : List mI := [h_iload 4, h_iload 5, h_isub, h_istore 6, h_iload 6, h_aload 0, h_getf 0 1, h_iload 1, h_ald 0, h_const 3, h_icmp 1 3, h_const 1, h_goto 4]
noncomputable def rc_10_3 : List mI := [h_const 0, h_goto 4]
noncomputable def rc_10_4 : List mI := [h_icmp 2 5, h_iload 6, h_goto 6]
noncomputable def rc_10_5 : List mI := [h_const 4294967294, h_goto 6]
noncomputable def rc_10_6 : List mI := [h_ireturn 0 0]
noncomputable def rc_10 : Nat → List mI := nth [] [rc_10_0, rc_10_1, rc_10_2, rc_10_3, rc_10_4, rc_10_5, rc_10_6]
/-- RudeCoupons$Plans.addOccasion(LRudeCoupons$Book;II)V -/
noncomputable def rc_11_0 : List mI := [h_aload 1, h_getf 0 11, h_iload 3, h_ald 0, h_istore 4, h_const 15, h_istore 5, h_goto 1]
noncomputable def rc_11_1 : List mI := [h_iload 5, h_if 2 3, h_aload 1, h_iload 2, h_iload 4, h_aload 1, h_getf 0 9, h_iload 3, h_ald 0, h_iload 5, h_call 10 5 1 2 0 0 0 0, h_istore 6, h_iload 6, h_if 2 2, h_aload 0, h_getf 2 0, h_iload 2, h_aald, h_iload 6, h_ald 0, h_aload 1, h_getf 0 5, h_iload 4, h_ald 0, h_iadd, h_aload 0, h_getf 2 0, h_iload 2, h_aald, h_iload 5, h_ald 0, h_icmp 5 2, h_aload 0, h_getf 2 0, h_iload 2, h_aald, h_iload 5, h_aload 0, h_getf 2 0, h_iload 2, h_aald, h_iload 6, h_ald 0, h_aload 1, h_getf 0 5, h_iload 4, h_ald 0, h_iadd, h_ast 0, h_aload 0, h_getf 2 1, h_iload 2, h_aald, h_iload 5, h_aload 0, h_getf 2 1, h_iload 2, h_aald, h_iload 6, h_ald 0, h_const 1, h_iload 3, h_ishl, h_ior, h_ast 0, h_goto 2]
noncomputable def rc_11_2 : List mI := [h_iinc 5 4294967295, h_goto 1]
noncomputable def rc_11_3 : List mI := [h_return 0 0]
noncomputable def rc_11 : Nat → List mI := nth [] [rc_11_0, rc_11_1, rc_11_2, rc_11_3]
/-- RudeCoupons$Plans.withShare(III)I -/
noncomputable def rc_12_0 : List mI := [h_aload 0, h_getf 2 2, h_iload 1, h_const 1, h_iadd, h_aald, h_iload 3, h_iload 2, h_isub, h_ald 0, h_istore 4, h_iload 4, h_if 3 1, h_const 4294967292, h_goto 2]
noncomputable def rc_12_1 : List mI := [h_iload 4, h_aload 0, h_getf 2 0, h_iload 1, h_aald, h_iload 2, h_ald 0, h_iadd, h_goto 2]
noncomputable def rc_12_2 : List mI := [h_ireturn 0 0]
noncomputable def rc_12 : Nat → List mI := nth [] [rc_12_0, rc_12_1, rc_12_2]
/-- RudeCoupons$Plans.mostFrom(II)I -/
noncomputable def rc_13_0 : List mI := [h_const 4294967292, h_istore 3, h_const 0, h_istore 4, h_goto 1]
noncomputable def rc_13_1 : List mI := [h_iload 4, h_const 15, h_icmp 4 2, h_iload 4, h_iload 2, h_icmp 4 2, h_iload 3, h_aload 0, h_iload 1, h_iload 4, h_iload 2, h_call 12 4 1 4 0 0 0 0, h_call 136 2 1 0 0 0 0 0, h_istore 3, h_iinc 4 1, h_goto 1]
noncomputable def rc_13_2 : List mI := [h_iload 3, h_ireturn 0 0]
noncomputable def rc_13 : Nat → List mI := nth [] [rc_13_0, rc_13_1, rc_13_2]
/-- RudeCoupons$Standing.isTaken(I)Z -/
noncomputable def rc_14_0 : List mI := [h_aload 0, h_getf 6 1, h_iload 1, h_ishr, h_const 1, h_iand, h_const 1, h_icmp 1 1, h_const 1, h_goto 2]
noncomputable def rc_14_1 : List mI := [h_const 0, h_goto 2]
noncomputable def rc_14_2 : List mI := [h_zreturn 1 0 0]
noncomputable def rc_14 : Nat → List mI := nth [] [rc_14_0, rc_14_1, rc_14_2]
/-- RudeCoupons$Standing.isAhead(LRudeCoupons$Book;I)Z -/
noncomputable def rc_15_0 : List mI := [h_aload 1, h_getf 0 9, h_iload 2, h_ald 0, h_aload 0, h_getf 6 0, h_icmp 2 1, h_aload 0, h_iload 2, h_call 14 2 1 8 0 0 0 0, h_if 1 1, h_const 1, h_goto 2]
noncomputable def rc_15_1 : List mI := [h_const 0, h_goto 2]
noncomputable def rc_15_2 : List mI := [h_zreturn 1 0 0]
noncomputable def rc_15 : Nat → List mI := nth [] [rc_15_0, rc_15_1, rc_15_2]
/-- RudeCoupons.within(III)Z -/
noncomputable def rc_16_0 : List mI := [h_iload 0, h_iload 1, h_icmp 2 1, h_iload 0, h_iload 2, h_icmp 4 1, h_const 1, h_goto 2]
noncomputable def rc_16_1 : List mI := [h_const 0, h_goto 2]
noncomputable def rc_16_2 : List mI := [h_zreturn 1 0 0]
noncomputable def rc_16 : Nat → List mI := nth [] [rc_16_0, rc_16_1, rc_16_2]
/-- RudeCoupons$Book.<init>()V -/
noncomputable def rc_17_0 : List mI := [h_aload 0, h_oinit, h_aload 0, h_const 6, h_newa 0 10 76, h_putf 0 1 1, h_aload 0, h_const 6, h_newa 0 10 76, h_putf 0 2 1, h_aload 0, h_const 6, h_newa 0 10 76, h_putf 0 3 1, h_aload 0, h_const 6, h_newa 0 10 76, h_putf 0 5 1, h_aload 0, h_const 6, h_newa 0 10 76, h_putf 0 6 1, h_aload 0, h_const 6, h_newa 0 10 76, h_putf 0 7 1, h_aload 0, h_const 10, h_newa 0 10 76, h_putf 0 9 1, h_aload 0, h_const 10, h_newa 0 10 76, h_putf 0 10 1, h_aload 0, h_const 10, h_newa 0 10 76, h_putf 0 11 1, h_aload 0, h_const 10, h_newa 0 10 76, h_putf 0 12 1, h_return 10 76]
noncomputable def rc_17 : Nat → List mI := nth [] [rc_17_0]
/-- RudeCoupons$Book.clear()V -/
noncomputable def rc_18_0 : List mI := [h_aload 0, h_const 0, h_putf 0 0 0, h_aload 0, h_const 0, h_putf 0 4 0, h_aload 0, h_const 0, h_putf 0 8 0, h_return 0 0]
noncomputable def rc_18 : Nat → List mI := nth [] [rc_18_0]
/-- RudeCoupons$Book.add(CIII)Z -/
noncomputable def rc_19_0 : List mI := [h_iload 1, h_const 112, h_icmp 1 1, h_aload 0, h_iload 2, h_iload 3, h_iload 4, h_call 20 4 1 2 0 0 0 0, h_zreturn 1 0 0]
noncomputable def rc_19_1 : List mI := [h_iload 1, h_const 100, h_icmp 1 2, h_aload 0, h_iload 2, h_iload 3, h_iload 4, h_call 21 4 1 2 0 0 0 0, h_zreturn 1 0 0]
noncomputable def rc_19_2 : List mI := [h_iload 1, h_const 111, h_icmp 1 3, h_aload 0, h_iload 2, h_iload 3, h_iload 4, h_call 22 4 1 2 0 0 0 0, h_if 0 3, h_const 1, h_goto 4]
noncomputable def rc_19_3 : List mI := [h_const 0, h_goto 4]
noncomputable def rc_19_4 : List mI := [h_zreturn 1 0 0]
noncomputable def rc_19 : Nat → List mI := nth [] [rc_19_0, rc_19_1, rc_19_2, rc_19_3, rc_19_4]
/-- RudeCoupons$Book.addPerson(III)Z -/
noncomputable def rc_20_0 : List mI := [h_aload 0, h_getf 0 0, h_const 6, h_icmp 3 1, h_iload 1, h_const 0, h_const 3, h_call 16 3 1 0 0 0 0 0, h_if 0 1, h_iload 2, h_const 0, h_const 15, h_call 16 3 1 0 0 0 0 0, h_if 0 1, h_iload 3, h_const 0, h_const 9, h_call 16 3 1 0 0 0 0 0, h_if 1 2, h_goto 1]
noncomputable def rc_20_1 : List mI := [h_const 0, h_zreturn 1 0 0]
noncomputable def rc_20_2 : List mI := [h_aload 0, h_getf 0 1, h_aload 0, h_getf 0 0, h_iload 1, h_ast 0, h_aload 0, h_getf 0 2, h_aload 0, h_getf 0 0, h_iload 2, h_ast 0, h_aload 0, h_getf 0 3, h_aload 0, h_getf 0 0, h_iload 3, h_ast 0, h_aload 0, h_dup, h_getf 0 0, h_const 1, h_iadd, h_putf 0 0 0, h_const 1, h_zreturn 1 0 0]
noncomputable def rc_20 : Nat → List mI := nth [] [rc_20_0, rc_20_1, rc_20_2]
/-- RudeCoupons$Book.addDoing(III)Z -/
noncomputable def rc_21_0 : List mI := [h_aload 0, h_getf 0 4, h_const 6, h_icmp 3 1, h_iload 1, h_const 0, h_const 30, h_call 16 3 1 0 0 0 0 0, h_if 0 1, h_iload 2, h_const 1, h_const 3, h_call 16 3 1 0 0 0 0 0, h_if 0 1, h_iload 3, h_const 0, h_const 9, h_call 16 3 1 0 0 0 0 0, h_if 1 2, h_goto 1]
noncomputable def rc_21_1 : List mI := [h_const 0, h_zreturn 1 0 0]
noncomputable def rc_21_2 : List mI := [h_aload 0, h_getf 0 5, h_aload 0, h_getf 0 4, h_iload 1, h_ast 0, h_aload 0, h_getf 0 6, h_aload 0, h_getf 0 4, h_iload 2, h_ast 0, h_aload 0, h_getf 0 7, h_aload 0, h_getf 0 4, h_iload 3, h_ast 0, h_aload 0, h_dup, h_getf 0 4, h_const 1, h_iadd, h_putf 0 4 0, h_const 1, h_zreturn 1 0 0]
noncomputable def rc_21 : Nat → List mI := nth [] [rc_21_0, rc_21_1, rc_21_2]
/-- RudeCoupons$Book.addOccasion(III)Z -/
noncomputable def rc_22_0 : List mI := [h_aload 0, h_getf 0 8, h_const 10, h_icmp 3 1, h_iload 1, h_const 0, h_const 60, h_call 16 3 1 0 0 0 0 0, h_if 0 1, h_aload 0, h_iload 2, h_call 23 2 1 2 0 0 0 0, h_if 0 1, h_aload 0, h_iload 3, h_call 24 2 1 2 0 0 0 0, h_if 1 2, h_goto 1]
noncomputable def rc_22_1 : List mI := [h_const 0, h_zreturn 1 0 0]
noncomputable def rc_22_2 : List mI := [h_aload 0, h_getf 0 9, h_aload 0, h_getf 0 8, h_iload 1, h_ast 0, h_aload 0, h_getf 0 10, h_aload 0, h_getf 0 8, h_iload 2, h_ast 0, h_aload 0, h_getf 0 11, h_aload 0, h_getf 0 8, h_iload 3, h_ast 0, h_aload 0, h_getf 0 8, h_istore 4, h_goto 3]
noncomputable def rc_22_3 : List mI := [h_iload 4, h_if 5 4, h_aload 0, h_getf 0 9, h_aload 0, h_getf 0 12, h_iload 4, h_const 1, h_isub, h_ald 0, h_ald 0, h_iload 1, h_icmp 5 4, h_aload 0, h_getf 0 12, h_iload 4, h_aload 0, h_getf 0 12, h_iload 4, h_const 1, h_isub, h_ald 0, h_ast 0, h_iinc 4 4294967295, h_goto 3]
noncomputable def rc_22_4 : List mI := [h_aload 0, h_getf 0 12, h_iload 4, h_aload 0, h_getf 0 8, h_ast 0, h_aload 0, h_dup, h_getf 0 8, h_const 1, h_iadd, h_putf 0 8 0, h_const 1, h_zreturn 1 0 0]
noncomputable def rc_22 : Nat → List mI := nth [] [rc_22_0, rc_22_1, rc_22_2, rc_22_3, rc_22_4]
/-- RudeCoupons$Book.hasPerson(I)Z -/
noncomputable def rc_23_0 : List mI := [h_iload 1, h_if 2 1, h_iload 1, h_aload 0, h_getf 0 0, h_icmp 3 1, h_const 1, h_goto 2]
noncomputable def rc_23_1 : List mI := [h_const 0, h_goto 2]
noncomputable def rc_23_2 : List mI := [h_zreturn 1 0 0]
noncomputable def rc_23 : Nat → List mI := nth [] [rc_23_0, rc_23_1, rc_23_2]
/-- RudeCoupons$Book.hasDoing(I)Z -/
noncomputable def rc_24_0 : List mI := [h_iload 1, h_if 2 1, h_iload 1, h_aload 0, h_getf 0 4, h_icmp 3 1, h_const 1, h_goto 2]
noncomputable def rc_24_1 : List mI := [h_const 0, h_goto 2]
noncomputable def rc_24_2 : List mI := [h_zreturn 1 0 0]
noncomputable def rc_24 : Nat → List mI := nth [] [rc_24_0, rc_24_1, rc_24_2]
/-- RudeCoupons$Book.hasOccasion(I)Z -/
noncomputable def rc_25_0 : List mI := [h_iload 1, h_if 2 1, h_iload 1, h_aload 0, h_getf 0 8, h_icmp 3 1, h_const 1, h_goto 2]
noncomputable def rc_25_1 : List mI := [h_const 0, h_goto 2]
noncomputable def rc_25_2 : List mI := [h_zreturn 1 0 0]
noncomputable def rc_25 : Nat → List mI := nth [] [rc_25_0, rc_25_1, rc_25_2]
/-- RudeCoupons$Book.sufferingOf(III)I -/
noncomputable def rc_26_0 : List mI := [h_iload 1, h_iload 2, h_icmp 1 1, h_const 0, h_goto 2]
noncomputable def rc_26_1 : List mI := [h_const 0, h_aload 0, h_getf 0 7, h_iload 3, h_ald 0, h_aload 0, h_getf 0 3, h_iload 1, h_ald 0, h_isub, h_call 136 2 1 0 0 0 0 0, h_goto 2]
noncomputable def rc_26_2 : List mI := [h_ireturn 0 0]
noncomputable def rc_26 : Nat → List mI := nth [] [rc_26_0, rc_26_1, rc_26_2]
/-- RudeCoupons$Book.sufferingOfAll(II)I -/
noncomputable def rc_27_0 : List mI := [h_const 0, h_istore 3, h_const 0, h_istore 4, h_goto 1]
noncomputable def rc_27_1 : List mI := [h_iload 4, h_aload 0, h_getf 0 0, h_icmp 3 2, h_iload 3, h_aload 0, h_iload 4, h_iload 1, h_iload 2, h_call 26 4 1 2 0 0 0 0, h_iadd, h_istore 3, h_iinc 4 1, h_goto 1]
noncomputable def rc_27_2 : List mI := [h_iload 3, h_ireturn 0 0]
noncomputable def rc_27 : Nat → List mI := nth [] [rc_27_0, rc_27_1, rc_27_2]
/-- RudeCoupons$Letters.<init>()V -/
noncomputable def rc_28_0 : List mI := [h_aload 0, h_oinit, h_aload 0, h_const 200, h_newa 1 1 200, h_putf 1 0 1, h_return 1 200]
noncomputable def rc_28 : Nat → List mI := nth [] [rc_28_0]
/-- RudeCoupons$Letters.add(C)Z -/
noncomputable def rc_29_0 : List mI := [h_aload 0, h_getf 1 1, h_aload 0, h_getf 1 0, h_alen, h_icmp 2 1, h_const 0, h_zreturn 1 0 0]
noncomputable def rc_29_1 : List mI := [h_aload 0, h_getf 1 0, h_aload 0, h_getf 1 1, h_iload 1, h_ast 1, h_aload 0, h_dup, h_getf 1 1, h_const 1, h_iadd, h_putf 1 1 0, h_const 1, h_zreturn 1 0 0]
noncomputable def rc_29 : Nat → List mI := nth [] [rc_29_0, rc_29_1]
/-- RudeCoupons$Letters.at(I)C -/
noncomputable def rc_30_0 : List mI := [h_iload 1, h_if 2 1, h_iload 1, h_aload 0, h_getf 1 1, h_icmp 3 1, h_aload 0, h_getf 1 0, h_iload 1, h_ald 1, h_goto 2]
noncomputable def rc_30_1 : List mI := [h_const 0, h_goto 2]
noncomputable def rc_30_2 : List mI := [h_zreturn 65535 0 0]
noncomputable def rc_30 : Nat → List mI := nth [] [rc_30_0, rc_30_1, rc_30_2]
/-- RudeCoupons$Letters.copy(LRudeCoupons$Letters;)V -/
noncomputable def rc_31_0 : List mI := [h_const 0, h_istore 2, h_goto 1]
noncomputable def rc_31_1 : List mI := [h_iload 2, h_aload 1, h_getf 1 1, h_icmp 3 2, h_aload 0, h_getf 1 0, h_iload 2, h_aload 1, h_getf 1 0, h_iload 2, h_ald 1, h_ast 1, h_iinc 2 1, h_goto 1]
noncomputable def rc_31_2 : List mI := [h_aload 0, h_aload 1, h_getf 1 1, h_putf 1 1 0, h_return 0 0]
noncomputable def rc_31 : Nat → List mI := nth [] [rc_31_0, rc_31_1, rc_31_2]
/-- RudeCoupons$Plans.<init>()V -/
noncomputable def rc_32_0 : List mI := [h_aload 0, h_oinit, h_aload 0, h_const 6, h_const 16, h_mna 22 848, h_putf 2 0 1, h_aload 0, h_const 6, h_const 16, h_mna 22 848, h_putf 2 1 1, h_aload 0, h_const 7, h_const 91, h_mna 22 848, h_putf 2 2 1, h_return 22 848]
noncomputable def rc_32 : Nat → List mI := nth [] [rc_32_0]
/-- RudeCoupons$Plans.make(LRudeCoupons$Book;LRudeCoupons$Standing;I)V -/
noncomputable def rc_33_0 : List mI := [h_const 0, h_istore 4, h_goto 1]
noncomputable def rc_33_1 : List mI := [h_iload 4, h_const 15, h_icmp 4 2, h_aload 0, h_getf 2 0, h_iload 3, h_aald, h_iload 4, h_const 0, h_ast 0, h_aload 0, h_getf 2 1, h_iload 3, h_aald, h_iload 4, h_const 0, h_ast 0, h_iinc 4 1, h_goto 1]
noncomputable def rc_33_2 : List mI := [h_const 0, h_istore 4, h_goto 3]
noncomputable def rc_33_3 : List mI := [h_iload 4, h_aload 1, h_getf 0 8, h_icmp 3 5, h_aload 1, h_getf 0 10, h_iload 4, h_ald 0, h_iload 3, h_icmp 1 4, h_aload 2, h_aload 1, h_iload 4, h_call 15 3 1 8 0 0 0 0, h_if 0 4, h_aload 0, h_aload 1, h_iload 3, h_iload 4, h_call 11 4 0 4 0 0 0 0, h_goto 4]
noncomputable def rc_33_4 : List mI := [h_iinc 4 1, h_goto 3]
noncomputable def rc_33_5 : List mI := [h_return 0 0]
noncomputable def rc_33 : Nat → List mI := nth [] [rc_33_0, rc_33_1, rc_33_2, rc_33_3, rc_33_4, rc_33_5]
/-- RudeCoupons$Plans.gain(II)I -/
noncomputable def rc_34_0 : List mI := [h_iload 2, h_if 2 1, h_iload 2, h_const 15, h_icmp 3 1, h_aload 0, h_getf 2 0, h_iload 1, h_aald, h_iload 2, h_const 1, h_iadd, h_ald 0, h_aload 0, h_getf 2 0, h_iload 1, h_aald, h_iload 2, h_ald 0, h_isub, h_goto 2]
noncomputable def rc_34_1 : List mI := [h_const 0, h_goto 2]
noncomputable def rc_34_2 : List mI := [h_ireturn 0 0]
noncomputable def rc_34 : Nat → List mI := nth [] [rc_34_0, rc_34_1, rc_34_2]
/-- RudeCoupons$Plans.makeAll(LRudeCoupons$Book;LRudeCoupons$Standing;)V -/
noncomputable def rc_35_0 : List mI := [h_const 0, h_istore 3, h_goto 1]
noncomputable def rc_35_1 : List mI := [h_iload 3, h_aload 1, h_getf 0 0, h_icmp 3 2, h_aload 0, h_aload 1, h_aload 2, h_iload 3, h_call 33 4 0 4 0 0 0 0, h_iinc 3 1, h_goto 1]
noncomputable def rc_35_2 : List mI := [h_return 0 0]
noncomputable def rc_35 : Nat → List mI := nth [] [rc_35_0, rc_35_1, rc_35_2]
/-- RudeCoupons$Plans.partAll(II)V -/
noncomputable def rc_36_0 : List mI := [h_const 0, h_istore 3, h_goto 1]
noncomputable def rc_36_1 : List mI := [h_iload 3, h_iload 2, h_icmp 4 4, h_aload 0, h_getf 2 2, h_iload 1, h_aald, h_iload 3, h_iload 3, h_if 1 2, h_const 0, h_goto 3]
noncomputable def rc_36_2 : List mI := [h_const 4294967292, h_goto 3]
noncomputable def rc_36_3 : List mI := [h_ast 0, h_iinc 3 1, h_goto 1]
noncomputable def rc_36_4 : List mI := [h_iload 1, h_const 1, h_isub, h_istore 3, h_goto 5]
noncomputable def rc_36_5 : List mI := [h_iload 3, h_if 2 8, h_const 0, h_istore 4, h_goto 6]
noncomputable def rc_36_6 : List mI := [h_iload 4, h_iload 2, h_icmp 4 7, h_aload 0, h_getf 2 2, h_iload 3, h_aald, h_iload 4, h_aload 0, h_iload 3, h_iload 4, h_call 13 3 1 4 0 0 0 0, h_ast 0, h_iinc 4 1, h_goto 6]
noncomputable def rc_36_7 : List mI := [h_iinc 3 4294967295, h_goto 5]
noncomputable def rc_36_8 : List mI := [h_return 0 0]
noncomputable def rc_36 : Nat → List mI := nth [] [rc_36_0, rc_36_1, rc_36_2, rc_36_3, rc_36_4, rc_36_5, rc_36_6, rc_36_7, rc_36_8]
/-- RudeCoupons$Plans.shareOf(II)I -/
noncomputable def rc_37_0 : List mI := [h_iload 2, h_istore 3, h_const 0, h_istore 4, h_goto 1]
noncomputable def rc_37_1 : List mI := [h_iload 4, h_iload 1, h_icmp 3 2, h_iload 3, h_aload 0, h_iload 4, h_iload 3, h_call 38 3 1 4 0 0 0 0, h_isub, h_istore 3, h_iinc 4 1, h_goto 1]
noncomputable def rc_37_2 : List mI := [h_aload 0, h_iload 1, h_iload 3, h_call 38 3 1 4 0 0 0 0, h_ireturn 0 0]
noncomputable def rc_37 : Nat → List mI := nth [] [rc_37_0, rc_37_1, rc_37_2]
/-- RudeCoupons$Plans.greatestShare(II)I -/
noncomputable def rc_38_0 : List mI := [h_const 15, h_iload 2, h_call 137 2 1 0 0 0 0 0, h_istore 3, h_goto 1]
noncomputable def rc_38_1 : List mI := [h_iload 3, h_if 5 3, h_aload 0, h_iload 1, h_iload 3, h_iload 2, h_call 12 4 1 4 0 0 0 0, h_aload 0, h_getf 2 2, h_iload 1, h_aald, h_iload 2, h_ald 0, h_icmp 1 2, h_iload 3, h_ireturn 0 0]
noncomputable def rc_38_2 : List mI := [h_iinc 3 4294967295, h_goto 1]
noncomputable def rc_38_3 : List mI := [h_const 0, h_ireturn 0 0]
noncomputable def rc_38 : Nat → List mI := nth [] [rc_38_0, rc_38_1, rc_38_2, rc_38_3]
/-- RudeCoupons$Reader.<init>()V -/
noncomputable def rc_39_0 : List mI := [h_aload 0, h_oinit, h_aload 0, h_const 3, h_newa 0 1 3, h_putf 3 0 1, h_return 1 3]
noncomputable def rc_39 : Nat → List mI := nth [] [rc_39_0]
/-- RudeCoupons$Reader.readInto(LRudeCoupons$Book;LRudeCoupons$Letters;)I -/
noncomputable def rc_40_0 : List mI := [h_aload 1, h_call 18 1 0 2 0 0 0 0, h_const 0, h_istore 3, h_const 0, h_istore 4, h_goto 1]
noncomputable def rc_40_1 : List mI := [h_iload 4, h_const 200, h_icmp 3 3, h_iload 3, h_aload 2, h_getf 1 1, h_icmp 3 3, h_aload 0, h_aload 1, h_aload 2, h_iload 3, h_call 41 4 1 5 0 0 0 0, h_istore 5, h_iload 5, h_if 3 2, h_iload 3, h_ireturn 0 0]
noncomputable def rc_40_2 : List mI := [h_iload 5, h_istore 3, h_iinc 4 1, h_goto 1]
noncomputable def rc_40_3 : List mI := [h_const 4294967292, h_ireturn 0 0]
noncomputable def rc_40 : Nat → List mI := nth [] [rc_40_0, rc_40_1, rc_40_2, rc_40_3]
/-- RudeCoupons$Reader.readItem(LRudeCoupons$Book;LRudeCoupons$Letters;I)I -/
noncomputable def rc_41_0 : List mI := [h_iload 3, h_const 1, h_iadd, h_istore 4, h_const 0, h_istore 5, h_goto 1]
noncomputable def rc_41_1 : List mI := [h_iload 5, h_aload 0, h_getf 3 0, h_alen, h_icmp 3 8, h_aload 2, h_iload 4, h_call 42 2 1 0 0 0 0 0, h_istore 6, h_iload 6, h_if 1 2, h_const 4294967292, h_ireturn 0 0]
noncomputable def rc_41_2 : List mI := [h_aload 0, h_getf 3 0, h_iload 5, h_aload 2, h_iload 4, h_iload 6, h_call 44 3 1 0 0 0 0 0, h_ast 0, h_iload 4, h_iload 6, h_iadd, h_istore 4, h_iload 5, h_aload 0, h_getf 3 0, h_alen, h_const 1, h_isub, h_icmp 1 3, h_const 1, h_goto 4]
noncomputable def rc_41_3 : List mI := [h_const 0, h_goto 4]
noncomputable def rc_41_4 : List mI := [h_istore 7, h_aload 2, h_iload 4, h_call 30 2 1 3 0 0 0 0, h_iload 7, h_if 0 5, h_const 59, h_goto 6]
noncomputable def rc_41_5 : List mI := [h_const 44, h_goto 6]
noncomputable def rc_41_6 : List mI := [h_icmp 0 7, h_const 4294967292, h_ireturn 0 0]
noncomputable def rc_41_7 : List mI := [h_iinc 4 1, h_iinc 5 1, h_goto 1]
noncomputable def rc_41_8 : List mI := [h_aload 1, h_aload 2, h_iload 3, h_call 30 2 1 3 0 0 0 0, h_aload 0, h_getf 3 0, h_const 0, h_ald 0, h_aload 0, h_getf 3 0, h_const 1, h_ald 0, h_aload 0, h_getf 3 0, h_const 2, h_ald 0, h_call 19 5 1 2 0 0 0 0, h_if 0 9, h_iload 4, h_goto 10]
noncomputable def rc_41_9 : List mI := [h_const 4294967292, h_goto 10]
noncomputable def rc_41_10 : List mI := [h_ireturn 0 0]
noncomputable def rc_41 : Nat → List mI := nth [] [rc_41_0, rc_41_1, rc_41_2, rc_41_3, rc_41_4, rc_41_5, rc_41_6, rc_41_7, rc_41_8, rc_41_9, rc_41_10]
/-- RudeCoupons$Reader.figuresAt(LRudeCoupons$Letters;I)I -/
noncomputable def rc_42_0 : List mI := [h_aload 0, h_iload 1, h_call 30 2 1 3 0 0 0 0, h_call 43 1 1 0 0 0 0 0, h_if 1 1, h_const 0, h_ireturn 0 0]
noncomputable def rc_42_1 : List mI := [h_aload 0, h_iload 1, h_const 1, h_iadd, h_call 30 2 1 3 0 0 0 0, h_call 43 1 1 0 0 0 0 0, h_if 0 2, h_const 2, h_goto 3]
noncomputable def rc_42_2 : List mI := [h_const 1, h_goto 3]
noncomputable def rc_42_3 : List mI := [h_ireturn 0 0]
noncomputable def rc_42 : Nat → List mI := nth [] [rc_42_0, rc_42_1, rc_42_2, rc_42_3]
/-- RudeCoupons$Reader.isFigure(C)Z -/
noncomputable def rc_43_0 : List mI := [h_iload 0, h_const 48, h_icmp 2 1, h_iload 0, h_const 57, h_icmp 4 1, h_const 1, h_goto 2]
noncomputable def rc_43_1 : List mI := [h_const 0, h_goto 2]
noncomputable def rc_43_2 : List mI := [h_zreturn 1 0 0]
noncomputable def rc_43 : Nat → List mI := nth [] [rc_43_0, rc_43_1, rc_43_2]
/-- RudeCoupons$Reader.numberAt(LRudeCoupons$Letters;II)I -/
noncomputable def rc_44_0 : List mI := [h_aload 0, h_iload 1, h_call 30 2 1 3 0 0 0 0, h_const 48, h_isub, h_istore 3, h_iload 2, h_const 1, h_icmp 1 1, h_iload 3, h_goto 2]
noncomputable def rc_44_1 : List mI := [h_const 10, h_iload 3, h_imul, h_aload 0, h_iload 1, h_const 1, h_iadd, h_call 30 2 1 3 0 0 0 0, h_iadd, h_const 48, h_isub, h_goto 2]
noncomputable def rc_44_2 : List mI := [h_ireturn 0 0]
noncomputable def rc_44 : Nat → List mI := nth [] [rc_44_0, rc_44_1, rc_44_2]
/-- RudeCoupons$Shelf.<init>(I)V -/
noncomputable def rc_45_0 : List mI := [h_aload 0, h_oinit, h_aload 0, h_const 1, h_iload 1, h_call 136 2 1 0 0 0 41 248, h_newq 2 41 248, h_putf 4 0 1, h_const 0, h_istore 2, h_goto 1]
noncomputable def rc_45_1 : List mI := [h_iload 2, h_aload 0, h_getf 4 0, h_alen, h_icmp 3 2, h_aload 0, h_getf 4 0, h_iload 2, h_new 6 [.inl 0, .inl 0, .inr (.inr (.inr (.inr (.inr 0)))), .inr (.inr (.inr (.inr (.inr 0)))), .inr (.inr (.inr (.inr (.inr 0)))), .inr (.inr (.inr (.inr (.inr 0))))] 41 248, h_dup, h_call 52 1 0 1 4 24 41 248, h_aast 2 6, h_iinc 2 1, h_goto 1]
noncomputable def rc_45_2 : List mI := [h_return 41 248]
noncomputable def rc_45 : Nat → List mI := nth [] [rc_45_0, rc_45_1, rc_45_2]
/-- RudeCoupons$Shelf.put(LRudeCoupons$Standing;)V -/
noncomputable def rc_46_0 : List mI := [h_aload 0, h_getf 4 1, h_aload 0, h_getf 4 0, h_alen, h_icmp 2 1, h_aload 0, h_call 47 1 0 6 0 0 0 0, h_goto 1]
noncomputable def rc_46_1 : List mI := [h_aload 0, h_getf 4 0, h_aload 0, h_getf 4 1, h_aald, h_aload 1, h_call 54 2 0 8 0 0 0 0, h_aload 0, h_dup, h_getf 4 1, h_const 1, h_iadd, h_putf 4 1 0, h_return 0 0]
noncomputable def rc_46 : Nat → List mI := nth [] [rc_46_0, rc_46_1]
/-- RudeCoupons$Shelf.dropOldest()V -/
noncomputable def rc_47_0 : List mI := [h_aload 0, h_getf 4 0, h_const 0, h_aald, h_astore 1, h_const 1, h_istore 2, h_goto 1]
noncomputable def rc_47_1 : List mI := [h_iload 2, h_aload 0, h_getf 4 0, h_alen, h_icmp 3 2, h_aload 0, h_getf 4 0, h_iload 2, h_const 1, h_isub, h_aload 0, h_getf 4 0, h_iload 2, h_aald, h_aast 2 6, h_iinc 2 1, h_goto 1]
noncomputable def rc_47_2 : List mI := [h_aload 0, h_aload 0, h_getf 4 0, h_alen, h_const 1, h_isub, h_putf 4 1 0, h_aload 0, h_getf 4 0, h_aload 0, h_getf 4 1, h_aload 1, h_aast 2 6, h_return 0 0]
noncomputable def rc_47 : Nat → List mI := nth [] [rc_47_0, rc_47_1, rc_47_2]
/-- RudeCoupons$Shelf.takeInto(LRudeCoupons$Standing;)Z -/
noncomputable def rc_48_0 : List mI := [h_aload 0, h_getf 4 1, h_const 1, h_icmp 3 1, h_const 0, h_zreturn 1 0 0]
noncomputable def rc_48_1 : List mI := [h_aload 0, h_dup, h_getf 4 1, h_const 1, h_isub, h_putf 4 1 0, h_aload 1, h_aload 0, h_getf 4 0, h_aload 0, h_getf 4 1, h_aald, h_call 54 2 0 8 0 0 0 0, h_const 1, h_zreturn 1 0 0]
noncomputable def rc_48 : Nat → List mI := nth [] [rc_48_0, rc_48_1]
/-- RudeCoupons$Sightings.<init>()V -/
noncomputable def rc_49_0 : List mI := [h_aload 0, h_oinit, h_aload 0, h_const 8, h_newa 0 3 24, h_putf 5 0 1, h_aload 0, h_const 8, h_newa 0 3 24, h_putf 5 1 1, h_aload 0, h_const 8, h_newa 0 3 24, h_putf 5 2 1, h_return 3 24]
noncomputable def rc_49 : Nat → List mI := nth [] [rc_49_0]
/-- RudeCoupons$Sightings.add(III)Z -/
noncomputable def rc_50_0 : List mI := [h_aload 0, h_getf 5 3, h_const 8, h_icmp 2 1, h_const 0, h_zreturn 1 0 0]
noncomputable def rc_50_1 : List mI := [h_aload 0, h_getf 5 0, h_aload 0, h_getf 5 3, h_iload 1, h_ast 0, h_aload 0, h_getf 5 1, h_aload 0, h_getf 5 3, h_iload 2, h_ast 0, h_aload 0, h_getf 5 2, h_aload 0, h_getf 5 3, h_iload 3, h_ast 0, h_aload 0, h_dup, h_getf 5 3, h_const 1, h_iadd, h_putf 5 3 0, h_const 1, h_zreturn 1 0 0]
noncomputable def rc_50 : Nat → List mI := nth [] [rc_50_0, rc_50_1]
/-- RudeCoupons$Sightings.couldBe(LRudeCoupons$Book;I)Z -/
noncomputable def rc_51_0 : List mI := [h_aload 1, h_getf 0 2, h_iload 2, h_ald 0, h_istore 3, h_const 0, h_istore 4, h_goto 1]
noncomputable def rc_51_1 : List mI := [h_iload 4, h_aload 0, h_getf 5 3, h_icmp 3 3, h_aload 0, h_getf 5 0, h_iload 4, h_ald 0, h_iload 2, h_icmp 1 2, h_aload 1, h_iload 2, h_aload 0, h_getf 5 1, h_iload 4, h_ald 0, h_aload 0, h_getf 5 2, h_iload 4, h_ald 0, h_iload 3, h_call 10 5 1 2 0 0 0 0, h_istore 3, h_iload 3, h_if 3 2, h_const 0, h_zreturn 1 0 0]
noncomputable def rc_51_2 : List mI := [h_iinc 4 1, h_goto 1]
noncomputable def rc_51_3 : List mI := [h_const 1, h_zreturn 1 0 0]
noncomputable def rc_51 : Nat → List mI := nth [] [rc_51_0, rc_51_1, rc_51_2, rc_51_3]
/-- RudeCoupons$Standing.<init>()V -/
noncomputable def rc_52_0 : List mI := [h_aload 0, h_oinit, h_aload 0, h_const 6, h_newa 0 4 24, h_putf 6 2 1, h_aload 0, h_const 6, h_newa 0 4 24, h_putf 6 3 1, h_aload 0, h_const 6, h_newa 0 4 24, h_putf 6 4 1, h_aload 0, h_const 6, h_newa 0 4 24, h_putf 6 5 1, h_return 4 24]
noncomputable def rc_52 : Nat → List mI := nth [] [rc_52_0]
/-- RudeCoupons$Standing.begin(LRudeCoupons$Book;)V -/
noncomputable def rc_53_0 : List mI := [h_aload 0, h_const 0, h_putf 6 0 0, h_aload 0, h_const 0, h_putf 6 1 0, h_const 0, h_istore 2, h_goto 1]
noncomputable def rc_53_1 : List mI := [h_iload 2, h_const 6, h_icmp 3 4, h_aload 0, h_getf 6 2, h_iload 2, h_iload 2, h_aload 1, h_getf 0 0, h_icmp 3 2, h_aload 1, h_getf 0 2, h_iload 2, h_ald 0, h_goto 3]
noncomputable def rc_53_2 : List mI := [h_const 0, h_goto 3]
noncomputable def rc_53_3 : List mI := [h_ast 0, h_aload 0, h_getf 6 3, h_iload 2, h_const 0, h_ast 0, h_aload 0, h_getf 6 4, h_iload 2, h_const 0, h_ast 0, h_aload 0, h_getf 6 5, h_iload 2, h_const 0, h_ast 0, h_iinc 2 1, h_goto 1]
noncomputable def rc_53_4 : List mI := [h_return 0 0]
noncomputable def rc_53 : Nat → List mI := nth [] [rc_53_0, rc_53_1, rc_53_2, rc_53_3, rc_53_4]
/-- RudeCoupons$Standing.copy(LRudeCoupons$Standing;)V -/
noncomputable def rc_54_0 : List mI := [h_aload 0, h_aload 1, h_getf 6 0, h_putf 6 0 0, h_aload 0, h_aload 1, h_getf 6 1, h_putf 6 1 0, h_aload 1, h_getf 6 2, h_aload 0, h_getf 6 2, h_call 69 2 0 0 0 0 0 0, h_aload 1, h_getf 6 3, h_aload 0, h_getf 6 3, h_call 69 2 0 0 0 0 0 0, h_aload 1, h_getf 6 4, h_aload 0, h_getf 6 4, h_call 69 2 0 0 0 0 0 0, h_aload 1, h_getf 6 5, h_aload 0, h_getf 6 5, h_call 69 2 0 0 0 0 0 0, h_return 0 0]
noncomputable def rc_54 : Nat → List mI := nth [] [rc_54_0]
/-- RudeCoupons$Standing.couponsOfAll()I -/
noncomputable def rc_55_0 : List mI := [h_aload 0, h_getf 6 2, h_call 73 1 1 0 0 0 0 0, h_ireturn 0 0]
noncomputable def rc_55 : Nat → List mI := nth [] [rc_55_0]
/-- RudeCoupons$Standing.mostOfOne()I -/
noncomputable def rc_56_0 : List mI := [h_const 0, h_istore 1, h_const 0, h_istore 2, h_goto 1]
noncomputable def rc_56_1 : List mI := [h_iload 2, h_aload 0, h_getf 6 2, h_alen, h_icmp 3 2, h_iload 1, h_aload 0, h_getf 6 2, h_iload 2, h_ald 0, h_call 136 2 1 0 0 0 0 0, h_istore 1, h_iinc 2 1, h_goto 1]
noncomputable def rc_56_2 : List mI := [h_iload 1, h_ireturn 0 0]
noncomputable def rc_56 : Nat → List mI := nth [] [rc_56_0, rc_56_1, rc_56_2]
/-- RudeCoupons$Standing.sufferedByAll()I -/
noncomputable def rc_57_0 : List mI := [h_aload 0, h_getf 6 4, h_call 73 1 1 0 0 0 0 0, h_ireturn 0 0]
noncomputable def rc_57 : Nat → List mI := nth [] [rc_57_0]
/-- RudeCoupons.<init>()V -/
noncomputable def rc_58_0 : List mI := [h_aload 0, h_oinit, h_aload 0, h_new 1 [.inr (.inr (.inr (.inr (.inr 0)))), .inl 0] 118 2019, h_dup, h_call 28 1 0 1 1 200 118 2019, h_putf 7 0 1, h_aload 0, h_new 3 [.inr (.inr (.inr (.inr (.inr 0))))] 118 2019, h_dup, h_call 39 1 0 1 1 3 118 2019, h_putf 7 1 1, h_aload 0, h_new 6 [.inl 0, .inl 0, .inr (.inr (.inr (.inr (.inr 0)))), .inr (.inr (.inr (.inr (.inr 0)))), .inr (.inr (.inr (.inr (.inr 0)))), .inr (.inr (.inr (.inr (.inr 0))))] 118 2019, h_dup, h_call 52 1 0 1 4 24 118 2019, h_putf 7 2 1, h_aload 0, h_new 4 [.inr (.inr (.inr (.inr (.inr 0)))), .inl 0] 118 2019, h_dup, h_const 8, h_call 45 2 0 1 41 248 118 2019, h_putf 7 3 1, h_aload 0, h_new 4 [.inr (.inr (.inr (.inr (.inr 0)))), .inl 0] 118 2019, h_dup, h_const 2, h_call 139 2 0 1 11 62 118 2019, h_putf 7 4 1, h_aload 0, h_const 2, h_newq 3 118 2019, h_putf 7 5 1, h_aload 0, h_new 5 [.inr (.inr (.inr (.inr (.inr 0)))), .inr (.inr (.inr (.inr (.inr 0)))), .inr (.inr (.inr (.inr (.inr 0)))), .inl 0] 118 2019, h_dup, h_call 49 1 0 1 3 24 118 2019, h_putf 7 6 1, h_aload 0, h_new 2 [.inr (.inr (.inr (.inr (.inr 0)))), .inr (.inr (.inr (.inr (.inr 0)))), .inr (.inr (.inr (.inr (.inr 0))))] 118 2019, h_dup, h_call 32 1 0 1 22 848 118 2019, h_putf 7 7 1, h_aload 0, h_const 6, h_newa 0 118 2019, h_putf 7 8 1, h_aload 0, h_new 0 [.inl 0, .inr (.inr (.inr (.inr (.inr 0)))), .inr (.inr (.inr (.inr (.inr 0)))), .inr (.inr (.inr (.inr (.inr 0)))), .inl 0, .inr (.inr (.inr (.inr (.inr 0)))), .inr (.inr (.inr (.inr (.inr 0)))), .inr (.inr (.inr (.inr (.inr 0)))), .inl 0, .inr (.inr (.inr (.inr (.inr 0)))), .inr (.inr (.inr (.inr (.inr 0)))), .inr (.inr (.inr (.inr (.inr 0)))), .inr (.inr (.inr (.inr (.inr 0))))] 118 2019, h_dup, h_call 17 1 0 1 10 76 118 2019, h_putf 7 9 1, h_aload 0, h_new 0 [.inl 0, .inr (.inr (.inr (.inr (.inr 0)))), .inr (.inr (.inr (.inr (.inr 0)))), .inr (.inr (.inr (.inr (.inr 0)))), .inl 0, .inr (.inr (.inr (.inr (.inr 0)))), .inr (.inr (.inr (.inr (.inr 0)))), .inr (.inr (.inr (.inr (.inr 0)))), .inl 0, .inr (.inr (.inr (.inr (.inr 0)))), .inr (.inr (.inr (.inr (.inr 0)))), .inr (.inr (.inr (.inr (.inr 0)))), .inr (.inr (.inr (.inr (.inr 0))))] 118 2019, h_dup, h_call 17 1 0 1 10 76 118 2019, h_putf 7 10 1, h_const 0, h_istore 1, h_goto 1]
noncomputable def rc_58_1 : List mI := [h_iload 1, h_aload 0, h_getf 7 5, h_alen, h_icmp 3 2, h_aload 0, h_getf 7 5, h_iload 1, h_new 1 [.inr (.inr (.inr (.inr (.inr 0)))), .inl 0] 118 2019, h_dup, h_call 28 1 0 1 1 200 118 2019, h_aast 3 1, h_iinc 1 1, h_goto 1]
noncomputable def rc_58_2 : List mI := [h_const 0, h_istore 1, h_goto 3]
noncomputable def rc_58_3 : List mI := [h_iload 1, h_str, h_slen 113, h_icmp 3 4, h_aload 0, h_getf 7 0, h_str, h_iload 1, h_char 113 tx_M, h_call 29 2 1 3 0 0 118 2019, h_pop, h_iinc 1 1, h_goto 3]
noncomputable def rc_58_4 : List mI := [h_aload 0, h_call 59 1 1 9 0 0 118 2019, h_pop, h_aload 0, h_getf 7 0, h_const 0, h_putf 1 1 0, h_return 118 2019]
noncomputable def rc_58 : Nat → List mI := nth [] [rc_58_0, rc_58_1, rc_58_2, rc_58_3, rc_58_4]
/-- RudeCoupons.layText()I -/
noncomputable def rc_59_0 : List mI := [h_aload 0, h_getf 7 1, h_aload 0, h_getf 7 10, h_aload 0, h_getf 7 0, h_call 40 3 1 5 0 0 0 0, h_const 4294967292, h_icmp 1 1, h_aload 0, h_getf 7 10, h_getf 0 0, h_if 1 2, h_goto 1]
noncomputable def rc_59_1 : List mI := [h_const 4294967294, h_ireturn 0 0]
noncomputable def rc_59_2 : List mI := [h_aload 0, h_getf 7 10, h_astore 1, h_aload 0, h_aload 0, h_getf 7 9, h_putf 7 10 1, h_aload 0, h_aload 1, h_putf 7 9 1, h_aload 0, h_getf 7 2, h_aload 0, h_getf 7 9, h_call 53 2 0 8 0 0 0 0, h_aload 0, h_getf 7 3, h_const 0, h_putf 4 1 0, h_aload 0, h_getf 7 4, h_const 0, h_putf 4 1 0, h_aload 0, h_getf 7 6, h_const 0, h_putf 5 3 0, h_aload 0, h_getf 7 9, h_getf 0 0, h_ireturn 0 0]
noncomputable def rc_59 : Nat → List mI := nth [] [rc_59_0, rc_59_1, rc_59_2]
/-- RudeCoupons.write(I)I -/
noncomputable def rc_60_0 : List mI := [h_iload 1, h_const 32, h_const 126, h_call 16 3 1 0 0 0 0 0, h_if 1 1, h_const 4294967295, h_ireturn 0 0]
noncomputable def rc_60_1 : List mI := [h_aload 0, h_getf 7 0, h_iload 1, h_i2c, h_call 29 2 1 3 0 0 0 0, h_if 0 2, h_aload 0, h_getf 7 0, h_getf 1 1, h_goto 3]
noncomputable def rc_60_2 : List mI := [h_const 4294967293, h_goto 3]
noncomputable def rc_60_3 : List mI := [h_ireturn 0 0]
noncomputable def rc_60 : Nat → List mI := nth [] [rc_60_0, rc_60_1, rc_60_2, rc_60_3]
/-- RudeCoupons.wipe()I -/
noncomputable def rc_61_0 : List mI := [h_aload 0, h_getf 7 0, h_getf 1 1, h_istore 1, h_aload 0, h_getf 7 0, h_const 0, h_putf 1 1 0, h_iload 1, h_ireturn 0 0]
noncomputable def rc_61 : Nat → List mI := nth [] [rc_61_0]
/-- RudeCoupons.fault()I -/
noncomputable def rc_62_0 : List mI := [h_aload 0, h_getf 7 1, h_aload 0, h_getf 7 10, h_aload 0, h_getf 7 0, h_call 40 3 1 5 0 0 0 0, h_ireturn 0 0]
noncomputable def rc_62 : Nat → List mI := nth [] [rc_62_0]
/-- RudeCoupons.lay()I -/
noncomputable def rc_63_0 : List mI := [h_aload 0, h_call 59 1 1 9 0 0 0 0, h_ireturn 0 0]
noncomputable def rc_63 : Nat → List mI := nth [] [rc_63_0]
/-- RudeCoupons.person(II)I -/
noncomputable def rc_64_0 : List mI := [h_aload 0, h_getf 7 9, h_iload 1, h_call 23 2 1 2 0 0 0 0, h_if 1 1, h_const 4294967295, h_ireturn 0 0]
noncomputable def rc_64_1 : List mI := [h_iload 2, h_table 6 0 [2, 3, 4, 5]]
noncomputable def rc_64_2 : List mI := [h_aload 0, h_getf 7 9, h_getf 0 1, h_iload 1, h_ald 0, h_ireturn 0 0]
noncomputable def rc_64_3 : List mI := [h_aload 0, h_getf 7 2, h_getf 6 2, h_iload 1, h_ald 0, h_ireturn 0 0]
noncomputable def rc_64_4 : List mI := [h_aload 0, h_getf 7 9, h_getf 0 3, h_iload 1, h_ald 0, h_ireturn 0 0]
noncomputable def rc_64_5 : List mI := [h_aload 0, h_getf 7 2, h_getf 6 3, h_iload 1, h_ald 0, h_ireturn 0 0]
noncomputable def rc_64_6 : List mI := [h_const 4294967295, h_ireturn 0 0]
noncomputable def rc_64 : Nat → List mI := nth [] [rc_64_0, rc_64_1, rc_64_2, rc_64_3, rc_64_4, rc_64_5, rc_64_6]
/-- RudeCoupons.doing(II)I -/
noncomputable def rc_65_0 : List mI := [h_aload 0, h_getf 7 9, h_iload 1, h_call 24 2 1 2 0 0 0 0, h_if 1 1, h_const 4294967295, h_ireturn 0 0]
noncomputable def rc_65_1 : List mI := [h_iload 2, h_table 5 0 [2, 3, 4]]
noncomputable def rc_65_2 : List mI := [h_aload 0, h_getf 7 9, h_getf 0 5, h_iload 1, h_ald 0, h_ireturn 0 0]
noncomputable def rc_65_3 : List mI := [h_aload 0, h_getf 7 9, h_getf 0 6, h_iload 1, h_ald 0, h_ireturn 0 0]
noncomputable def rc_65_4 : List mI := [h_aload 0, h_getf 7 9, h_getf 0 7, h_iload 1, h_ald 0, h_ireturn 0 0]
noncomputable def rc_65_5 : List mI := [h_const 4294967295, h_ireturn 0 0]
noncomputable def rc_65 : Nat → List mI := nth [] [rc_65_0, rc_65_1, rc_65_2, rc_65_3, rc_65_4, rc_65_5]
/-- RudeCoupons.occasion(II)I -/
noncomputable def rc_66_0 : List mI := [h_aload 0, h_getf 7 9, h_iload 1, h_call 25 2 1 2 0 0 0 0, h_if 1 1, h_const 4294967295, h_ireturn 0 0]
noncomputable def rc_66_1 : List mI := [h_iload 2, h_table 11 0 [2, 3, 4, 5, 8]]
noncomputable def rc_66_2 : List mI := [h_aload 0, h_getf 7 9, h_getf 0 9, h_iload 1, h_ald 0, h_ireturn 0 0]
noncomputable def rc_66_3 : List mI := [h_aload 0, h_getf 7 9, h_getf 0 10, h_iload 1, h_ald 0, h_ireturn 0 0]
noncomputable def rc_66_4 : List mI := [h_aload 0, h_getf 7 9, h_getf 0 11, h_iload 1, h_ald 0, h_ireturn 0 0]
noncomputable def rc_66_5 : List mI := [h_aload 0, h_getf 7 2, h_iload 1, h_call 14 2 1 8 0 0 0 0, h_if 0 6, h_const 1, h_goto 7]
noncomputable def rc_66_6 : List mI := [h_const 0, h_goto 7]
noncomputable def rc_66_7 : List mI := [h_ireturn 0 0]
noncomputable def rc_66_8 : List mI := [h_aload 0, h_iload 1, h_call 67 2 1 9 0 0 0 0, h_if 2 9, h_const 1, h_goto 10]
noncomputable def rc_66_9 : List mI := [h_const 0, h_goto 10]
noncomputable def rc_66_10 : List mI := [h_ireturn 0 0]
noncomputable def rc_66_11 : List mI := [h_const 4294967295, h_ireturn 0 0]
noncomputable def rc_66 : Nat → List mI := nth [] [rc_66_0, rc_66_1, rc_66_2, rc_66_3, rc_66_4, rc_66_5, rc_66_6, rc_66_7, rc_66_8, rc_66_9, rc_66_10, rc_66_11]
/-- RudeCoupons.leftIfTaken(I)I -/
noncomputable def rc_67_0 : List mI := [h_aload 0, h_getf 7 2, h_iload 1, h_call 14 2 1 8 0 0 0 0, h_if 1 1, h_aload 0, h_getf 7 9, h_getf 0 9, h_iload 1, h_ald 0, h_aload 0, h_getf 7 2, h_getf 6 0, h_icmp 0 2, h_goto 1]
noncomputable def rc_67_1 : List mI := [h_const 4294967294, h_ireturn 0 0]
noncomputable def rc_67_2 : List mI := [h_aload 0, h_getf 7 9, h_getf 0 10, h_iload 1, h_ald 0, h_istore 2, h_aload 0, h_getf 7 9, h_iload 2, h_aload 0, h_getf 7 9, h_getf 0 11, h_iload 1, h_ald 0, h_aload 0, h_getf 7 2, h_getf 6 0, h_aload 0, h_getf 7 2, h_getf 6 2, h_iload 2, h_ald 0, h_call 10 5 1 2 0 0 0 0, h_ireturn 0 0]
noncomputable def rc_67 : Nat → List mI := nth [] [rc_67_0, rc_67_1, rc_67_2]
/-- RudeCoupons.take(I)I -/
noncomputable def rc_68_0 : List mI := [h_aload 0, h_getf 7 9, h_iload 1, h_call 25 2 1 2 0 0 0 0, h_if 1 1, h_const 4294967295, h_ireturn 0 0]
noncomputable def rc_68_1 : List mI := [h_aload 0, h_iload 1, h_call 67 2 1 9 0 0 0 0, h_istore 2, h_iload 2, h_if 3 2, h_const 4294967294, h_ireturn 0 0]
noncomputable def rc_68_2 : List mI := [h_aload 0, h_getf 7 3, h_aload 0, h_getf 7 2, h_call 46 2 0 6 0 0 0 0, h_aload 0, h_getf 7 9, h_getf 0 10, h_iload 1, h_ald 0, h_istore 3, h_aload 0, h_getf 7 9, h_getf 0 11, h_iload 1, h_ald 0, h_istore 4, h_aload 0, h_getf 7 2, h_dup, h_getf 6 1, h_const 1, h_iload 1, h_ishl, h_ior, h_putf 6 1 0, h_aload 0, h_getf 7 2, h_getf 6 2, h_iload 3, h_iload 2, h_ast 0, h_aload 0, h_getf 7 2, h_getf 6 3, h_iload 3, h_dup2, h_ald 0, h_aload 0, h_getf 7 9, h_getf 0 5, h_iload 4, h_ald 0, h_iadd, h_ast 0, h_const 0, h_istore 5, h_goto 3]
noncomputable def rc_68_3 : List mI := [h_iload 5, h_aload 0, h_getf 7 9, h_getf 0 0, h_icmp 3 4, h_aload 0, h_getf 7 2, h_getf 6 4, h_iload 5, h_dup2, h_ald 0, h_aload 0, h_getf 7 9, h_iload 5, h_iload 3, h_iload 4, h_call 26 4 1 2 0 0 0 0, h_iadd, h_ast 0, h_iinc 5 1, h_goto 3]
noncomputable def rc_68_4 : List mI := [h_iload 2, h_ireturn 0 0]
noncomputable def rc_68 : Nat → List mI := nth [] [rc_68_0, rc_68_1, rc_68_2, rc_68_3, rc_68_4]
/-- RudeCoupons.copyRow([I[I)V -/
noncomputable def rc_69_0 : List mI := [h_const 0, h_istore 2, h_goto 1]
noncomputable def rc_69_1 : List mI := [h_iload 2, h_aload 0, h_alen, h_icmp 3 2, h_iload 2, h_aload 1, h_alen, h_icmp 3 2, h_aload 1, h_iload 2, h_aload 0, h_iload 2, h_ald 0, h_ast 0, h_iinc 2 1, h_goto 1]
noncomputable def rc_69_2 : List mI := [h_return 0 0]
noncomputable def rc_69 : Nat → List mI := nth [] [rc_69_0, rc_69_1, rc_69_2]
/-- RudeCoupons.pass(I)I -/
noncomputable def rc_70_0 : List mI := [h_iload 1, h_const 1, h_const 30, h_call 16 3 1 0 0 0 0 0, h_if 1 1, h_const 4294967295, h_ireturn 0 0]
noncomputable def rc_70_1 : List mI := [h_aload 0, h_getf 7 2, h_getf 6 0, h_iload 1, h_iadd, h_const 99, h_icmp 5 2, h_const 4294967294, h_ireturn 0 0]
noncomputable def rc_70_2 : List mI := [h_aload 0, h_getf 7 3, h_aload 0, h_getf 7 2, h_call 46 2 0 6 0 0 0 0, h_aload 0, h_getf 7 2, h_dup, h_getf 6 0, h_iload 1, h_iadd, h_putf 6 0 0, h_aload 0, h_getf 7 2, h_getf 6 0, h_ireturn 0 0]
noncomputable def rc_70 : Nat → List mI := nth [] [rc_70_0, rc_70_1, rc_70_2]
/-- RudeCoupons.give(III)I -/
noncomputable def rc_71_0 : List mI := [h_aload 0, h_getf 7 9, h_iload 1, h_call 23 2 1 2 0 0 0 0, h_if 0 1, h_aload 0, h_getf 7 9, h_iload 2, h_call 23 2 1 2 0 0 0 0, h_if 0 1, h_iload 1, h_iload 2, h_icmp 0 1, h_iload 3, h_const 1, h_const 15, h_call 16 3 1 0 0 0 0 0, h_if 1 2, h_goto 1]
noncomputable def rc_71_1 : List mI := [h_const 4294967295, h_ireturn 0 0]
noncomputable def rc_71_2 : List mI := [h_aload 0, h_getf 7 2, h_getf 6 2, h_iload 1, h_ald 0, h_iload 3, h_icmp 3 3, h_const 4294967294, h_ireturn 0 0]
noncomputable def rc_71_3 : List mI := [h_aload 0, h_getf 7 2, h_getf 6 2, h_iload 2, h_ald 0, h_iload 3, h_iadd, h_const 15, h_icmp 5 4, h_const 4294967293, h_ireturn 0 0]
noncomputable def rc_71_4 : List mI := [h_aload 0, h_getf 7 3, h_aload 0, h_getf 7 2, h_call 46 2 0 6 0 0 0 0, h_aload 0, h_getf 7 2, h_getf 6 2, h_iload 1, h_dup2, h_ald 0, h_iload 3, h_isub, h_ast 0, h_aload 0, h_getf 7 2, h_getf 6 2, h_iload 2, h_dup2, h_ald 0, h_iload 3, h_iadd, h_ast 0, h_aload 0, h_getf 7 2, h_getf 6 5, h_iload 1, h_dup2, h_ald 0, h_iload 3, h_isub, h_ast 0, h_aload 0, h_getf 7 2, h_getf 6 5, h_iload 2, h_dup2, h_ald 0, h_iload 3, h_iadd, h_ast 0, h_aload 0, h_getf 7 2, h_getf 6 2, h_iload 1, h_ald 0, h_ireturn 0 0]
noncomputable def rc_71 : Nat → List mI := nth [] [rc_71_0, rc_71_1, rc_71_2, rc_71_3, rc_71_4]
/-- RudeCoupons.ration(I)I -/
noncomputable def rc_72_0 : List mI := [h_iload 1, h_const 0, h_const 15, h_call 16 3 1 0 0 0 0 0, h_if 1 1, h_const 4294967295, h_ireturn 0 0]
noncomputable def rc_72_1 : List mI := [h_aload 0, h_getf 7 3, h_aload 0, h_getf 7 2, h_call 46 2 0 6 0 0 0 0, h_aload 0, h_getf 7 2, h_call 55 1 1 8 0 0 0 0, h_istore 2, h_const 0, h_istore 3, h_goto 2]
noncomputable def rc_72_2 : List mI := [h_iload 3, h_aload 0, h_getf 7 9, h_getf 0 0, h_icmp 3 3, h_aload 0, h_getf 7 2, h_getf 6 2, h_iload 3, h_iload 1, h_ast 0, h_iinc 3 1, h_goto 2]
noncomputable def rc_72_3 : List mI := [h_iload 2, h_ireturn 0 0]
noncomputable def rc_72 : Nat → List mI := nth [] [rc_72_0, rc_72_1, rc_72_2, rc_72_3]
/-- RudeCoupons.sumOf([I)I -/
noncomputable def rc_73_0 : List mI := [h_const 0, h_istore 1, h_const 0, h_istore 2, h_goto 1]
noncomputable def rc_73_1 : List mI := [h_iload 2, h_aload 0, h_alen, h_icmp 3 2, h_iload 1, h_aload 0, h_iload 2, h_ald 0, h_iadd, h_istore 1, h_iinc 2 1, h_goto 1]
noncomputable def rc_73_2 : List mI := [h_iload 1, h_ireturn 0 0]
noncomputable def rc_73 : Nat → List mI := nth [] [rc_73_0, rc_73_1, rc_73_2]
/-- RudeCoupons.undo()I -/
noncomputable def rc_74_0 : List mI := [h_aload 0, h_getf 7 3, h_aload 0, h_getf 7 2, h_call 48 2 1 6 0 0 0 0, h_if 0 1, h_aload 0, h_getf 7 3, h_getf 4 1, h_goto 2]
noncomputable def rc_74_1 : List mI := [h_const 4294967294, h_goto 2]
noncomputable def rc_74_2 : List mI := [h_ireturn 0 0]
noncomputable def rc_74 : Nat → List mI := nth [] [rc_74_0, rc_74_1, rc_74_2]
/-- RudeCoupons.best(II)I -/
noncomputable def rc_75_0 : List mI := [h_aload 0, h_getf 7 9, h_iload 1, h_call 23 2 1 2 0 0 0 0, h_if 0 1, h_iload 2, h_const 0, h_const 1, h_call 16 3 1 0 0 0 0 0, h_if 1 2, h_goto 1]
noncomputable def rc_75_1 : List mI := [h_const 4294967295, h_ireturn 0 0]
noncomputable def rc_75_2 : List mI := [h_aload 0, h_getf 7 7, h_aload 0, h_getf 7 9, h_aload 0, h_getf 7 2, h_iload 1, h_call 33 4 0 4 0 0 0 0, h_aload 0, h_getf 7 2, h_getf 6 2, h_iload 1, h_ald 0, h_istore 3, h_iload 2, h_if 1 3, h_aload 0, h_getf 7 7, h_getf 2 0, h_iload 1, h_aald, h_iload 3, h_ald 0, h_goto 4]
noncomputable def rc_75_3 : List mI := [h_aload 0, h_getf 7 7, h_getf 2 1, h_iload 1, h_aald, h_iload 3, h_ald 0, h_goto 4]
noncomputable def rc_75_4 : List mI := [h_ireturn 0 0]
noncomputable def rc_75 : Nat → List mI := nth [] [rc_75_0, rc_75_1, rc_75_2, rc_75_3, rc_75_4]
/-- RudeCoupons.more(I)I -/
noncomputable def rc_76_0 : List mI := [h_aload 0, h_getf 7 9, h_iload 1, h_call 23 2 1 2 0 0 0 0, h_if 1 1, h_const 4294967295, h_ireturn 0 0]
noncomputable def rc_76_1 : List mI := [h_aload 0, h_getf 7 7, h_aload 0, h_getf 7 9, h_aload 0, h_getf 7 2, h_iload 1, h_call 33 4 0 4 0 0 0 0, h_aload 0, h_getf 7 7, h_iload 1, h_aload 0, h_getf 7 2, h_getf 6 2, h_iload 1, h_ald 0, h_call 34 3 1 4 0 0 0 0, h_ireturn 0 0]
noncomputable def rc_76 : Nat → List mI := nth [] [rc_76_0, rc_76_1]
/-- RudeCoupons.giveBest(I)I -/
noncomputable def rc_77_0 : List mI := [h_iload 1, h_const 0, h_const 1, h_call 16 3 1 0 0 0 0 0, h_if 1 1, h_const 4294967295, h_ireturn 0 0]
noncomputable def rc_77_1 : List mI := [h_aload 0, h_getf 7 7, h_aload 0, h_getf 7 9, h_aload 0, h_getf 7 2, h_call 35 3 0 4 0 0 0 0, h_const 0, h_istore 2, h_const 4294967292, h_istore 3, h_const 0, h_istore 4, h_goto 2]
noncomputable def rc_77_2 : List mI := [h_iload 4, h_aload 0, h_getf 7 9, h_getf 0 0, h_icmp 3 6, h_const 0, h_istore 5, h_goto 3]
noncomputable def rc_77_3 : List mI := [h_iload 5, h_aload 0, h_getf 7 9, h_getf 0 0, h_icmp 3 5, h_aload 0, h_iload 4, h_iload 5, h_call 78 3 1 9 0 0 0 0, h_istore 6, h_iload 6, h_iload 2, h_icmp 5 4, h_iload 6, h_istore 2, h_const 8, h_iload 4, h_imul, h_iload 5, h_iadd, h_istore 3, h_goto 4]
noncomputable def rc_77_4 : List mI := [h_iinc 5 1, h_goto 3]
noncomputable def rc_77_5 : List mI := [h_iinc 4 1, h_goto 2]
noncomputable def rc_77_6 : List mI := [h_iload 3, h_const 4294967292, h_icmp 1 7, h_const 4294967292, h_ireturn 0 0]
noncomputable def rc_77_7 : List mI := [h_iload 1, h_if 1 8, h_iload 3, h_goto 9]
noncomputable def rc_77_8 : List mI := [h_iload 2, h_goto 9]
noncomputable def rc_77_9 : List mI := [h_ireturn 0 0]
noncomputable def rc_77 : Nat → List mI := nth [] [rc_77_0, rc_77_1, rc_77_2, rc_77_3, rc_77_4, rc_77_5, rc_77_6, rc_77_7, rc_77_8, rc_77_9]
/-- RudeCoupons.growthByGiving(II)I -/
noncomputable def rc_78_0 : List mI := [h_iload 1, h_iload 2, h_icmp 0 1, h_aload 0, h_getf 7 2, h_getf 6 2, h_iload 1, h_ald 0, h_const 1, h_icmp 2 1, h_aload 0, h_getf 7 2, h_getf 6 2, h_iload 2, h_ald 0, h_const 15, h_icmp 2 2, h_goto 1]
noncomputable def rc_78_1 : List mI := [h_const 0, h_ireturn 0 0]
noncomputable def rc_78_2 : List mI := [h_aload 0, h_getf 7 7, h_iload 2, h_aload 0, h_getf 7 2, h_getf 6 2, h_iload 2, h_ald 0, h_call 34 3 1 4 0 0 0 0, h_aload 0, h_getf 7 7, h_iload 1, h_aload 0, h_getf 7 2, h_getf 6 2, h_iload 1, h_ald 0, h_const 1, h_isub, h_call 34 3 1 4 0 0 0 0, h_isub, h_ireturn 0 0]
noncomputable def rc_78 : Nat → List mI := nth [] [rc_78_0, rc_78_1, rc_78_2]
/-- RudeCoupons.shared(I)I -/
noncomputable def rc_79_0 : List mI := [h_iload 1, h_const 4294967295, h_icmp 0 1, h_aload 0, h_getf 7 9, h_iload 1, h_call 23 2 1 2 0 0 0 0, h_if 1 1, h_const 4294967295, h_ireturn 0 0]
noncomputable def rc_79_1 : List mI := [h_aload 0, h_getf 7 7, h_aload 0, h_getf 7 9, h_aload 0, h_getf 7 2, h_call 35 3 0 4 0 0 0 0, h_aload 0, h_getf 7 2, h_call 55 1 1 8 0 0 0 0, h_istore 2, h_aload 0, h_getf 7 7, h_aload 0, h_getf 7 9, h_getf 0 0, h_iload 2, h_call 36 3 0 4 0 0 0 0, h_iload 1, h_const 4294967295, h_icmp 1 2, h_aload 0, h_getf 7 7, h_getf 2 2, h_const 0, h_aald, h_iload 2, h_ald 0, h_goto 3]
noncomputable def rc_79_2 : List mI := [h_aload 0, h_getf 7 7, h_iload 1, h_iload 2, h_call 37 3 1 4 0 0 0 0, h_goto 3]
noncomputable def rc_79_3 : List mI := [h_ireturn 0 0]
noncomputable def rc_79 : Nat → List mI := nth [] [rc_79_0, rc_79_1, rc_79_2, rc_79_3]
/-- RudeCoupons.rationFor(I)I -/
noncomputable def rc_80_0 : List mI := [h_iload 1, h_const 0, h_const 999, h_call 16 3 1 0 0 0 0 0, h_if 1 1, h_const 4294967295, h_ireturn 0 0]
noncomputable def rc_80_1 : List mI := [h_aload 0, h_getf 7 7, h_aload 0, h_getf 7 9, h_aload 0, h_getf 7 2, h_call 35 3 0 4 0 0 0 0, h_const 15, h_istore 2, h_goto 2]
noncomputable def rc_80_2 : List mI := [h_iload 2, h_if 5 4, h_aload 0, h_iload 2, h_call 81 2 1 9 0 0 0 0, h_iload 1, h_icmp 4 3, h_iload 2, h_ireturn 0 0]
noncomputable def rc_80_3 : List mI := [h_iinc 2 4294967295, h_goto 2]
noncomputable def rc_80_4 : List mI := [h_const 0, h_ireturn 0 0]
noncomputable def rc_80 : Nat → List mI := nth [] [rc_80_0, rc_80_1, rc_80_2, rc_80_3, rc_80_4]
/-- RudeCoupons.sufferingUnder(I)I -/
noncomputable def rc_81_0 : List mI := [h_const 0, h_istore 2, h_const 0, h_istore 3, h_goto 1]
noncomputable def rc_81_1 : List mI := [h_iload 3, h_aload 0, h_getf 7 9, h_getf 0 8, h_icmp 3 3, h_aload 0, h_getf 7 9, h_getf 0 10, h_iload 3, h_ald 0, h_istore 4, h_aload 0, h_getf 7 7, h_getf 2 1, h_iload 4, h_aald, h_iload 1, h_ald 0, h_iload 3, h_ishr, h_const 1, h_iand, h_const 1, h_icmp 1 2, h_iload 2, h_aload 0, h_getf 7 9, h_iload 4, h_aload 0, h_getf 7 9, h_getf 0 11, h_iload 3, h_ald 0, h_call 27 3 1 2 0 0 0 0, h_iadd, h_istore 2, h_goto 2]
noncomputable def rc_81_2 : List mI := [h_iinc 3 1, h_goto 1]
noncomputable def rc_81_3 : List mI := [h_iload 2, h_ireturn 0 0]
noncomputable def rc_81 : Nat → List mI := nth [] [rc_81_0, rc_81_1, rc_81_2, rc_81_3]
/-- RudeCoupons.seen(III)I -/
noncomputable def rc_82_0 : List mI := [h_aload 0, h_getf 7 9, h_iload 1, h_call 23 2 1 2 0 0 0 0, h_if 0 1, h_aload 0, h_getf 7 9, h_iload 2, h_call 24 2 1 2 0 0 0 0, h_if 0 1, h_iload 3, h_const 0, h_const 99, h_call 16 3 1 0 0 0 0 0, h_if 1 2, h_goto 1]
noncomputable def rc_82_1 : List mI := [h_const 4294967295, h_ireturn 0 0]
noncomputable def rc_82_2 : List mI := [h_aload 0, h_getf 7 6, h_iload 1, h_iload 2, h_iload 3, h_call 50 4 1 7 0 0 0 0, h_if 0 3, h_aload 0, h_getf 7 6, h_getf 5 3, h_goto 4]
noncomputable def rc_82_3 : List mI := [h_const 4294967293, h_goto 4]
noncomputable def rc_82_4 : List mI := [h_ireturn 0 0]
noncomputable def rc_82 : Nat → List mI := nth [] [rc_82_0, rc_82_1, rc_82_2, rc_82_3, rc_82_4]
/-- RudeCoupons.forget()I -/
noncomputable def rc_83_0 : List mI := [h_aload 0, h_getf 7 6, h_getf 5 3, h_istore 1, h_aload 0, h_getf 7 6, h_const 0, h_putf 5 3 0, h_iload 1, h_ireturn 0 0]
noncomputable def rc_83 : Nat → List mI := nth [] [rc_83_0]
/-- RudeCoupons.without()I -/
noncomputable def rc_84_0 : List mI := [h_const 0, h_istore 1, h_const 0, h_istore 2, h_goto 1]
noncomputable def rc_84_1 : List mI := [h_iload 2, h_aload 0, h_getf 7 9, h_getf 0 0, h_icmp 3 3, h_aload 0, h_getf 7 6, h_aload 0, h_getf 7 9, h_iload 2, h_call 51 3 1 7 0 0 0 0, h_if 1 2, h_iload 1, h_const 1, h_iload 2, h_ishl, h_ior, h_istore 1, h_goto 2]
noncomputable def rc_84_2 : List mI := [h_iinc 2 1, h_goto 1]
noncomputable def rc_84_3 : List mI := [h_iload 1, h_ireturn 0 0]
noncomputable def rc_84 : Nat → List mI := nth [] [rc_84_0, rc_84_1, rc_84_2, rc_84_3]
/-- RudeCoupons.letGo(II)I -/
noncomputable def rc_85_0 : List mI := [h_iload 1, h_const 0, h_const 99, h_call 16 3 1 0 0 0 0 0, h_if 0 1, h_iload 2, h_const 0, h_const 1, h_call 16 3 1 0 0 0 0 0, h_if 1 2, h_goto 1]
noncomputable def rc_85_1 : List mI := [h_const 4294967295, h_ireturn 0 0]
noncomputable def rc_85_2 : List mI := [h_aload 0, h_getf 7 2, h_call 55 1 1 8 0 0 0 0, h_istore 3, h_iload 3, h_aload 0, h_getf 7 2, h_call 56 1 1 8 0 0 0 0, h_isub, h_istore 4, h_iload 1, h_iload 3, h_const 2, h_iload 4, h_imul, h_const 1, h_iadd, h_call 137 2 1 0 0 0 0 0, h_call 137 2 1 0 0 0 0 0, h_istore 5, h_iload 2, h_if 1 3, h_iload 5, h_goto 4]
noncomputable def rc_85_3 : List mI := [h_iload 3, h_iload 5, h_isub, h_goto 4]
noncomputable def rc_85_4 : List mI := [h_ireturn 0 0]
noncomputable def rc_85 : Nat → List mI := nth [] [rc_85_0, rc_85_1, rc_85_2, rc_85_3, rc_85_4]
/-- RudeCoupons.keepOne(III)I -/
noncomputable def rc_86_0 : List mI := [h_aload 0, h_getf 7 9, h_iload 1, h_call 23 2 1 2 0 0 0 0, h_if 0 1, h_iload 2, h_const 0, h_const 99, h_call 16 3 1 0 0 0 0 0, h_if 0 1, h_iload 3, h_const 0, h_const 10, h_call 16 3 1 0 0 0 0 0, h_if 1 2, h_goto 1]
noncomputable def rc_86_1 : List mI := [h_const 4294967295, h_ireturn 0 0]
noncomputable def rc_86_2 : List mI := [h_aload 0, h_getf 7 2, h_getf 6 2, h_iload 1, h_ald 0, h_istore 4, h_iload 4, h_const 1, h_icmp 3 3, h_const 4294967294, h_ireturn 0 0]
noncomputable def rc_86_3 : List mI := [h_aload 0, h_getf 7 7, h_aload 0, h_getf 7 9, h_aload 0, h_getf 7 2, h_iload 1, h_call 33 4 0 4 0 0 0 0, h_iload 2, h_iload 3, h_imul, h_const 10, h_aload 0, h_getf 7 7, h_iload 1, h_iload 4, h_const 1, h_isub, h_call 34 3 1 4 0 0 0 0, h_imul, h_icmp 5 4, h_const 1, h_goto 5]
noncomputable def rc_86_4 : List mI := [h_const 0, h_goto 5]
noncomputable def rc_86_5 : List mI := [h_ireturn 0 0]
noncomputable def rc_86 : Nat → List mI := nth [] [rc_86_0, rc_86_1, rc_86_2, rc_86_3, rc_86_4, rc_86_5]
/-- RudeCoupons.net(I)I -/
noncomputable def rc_87_0 : List mI := [h_aload 0, h_getf 7 9, h_iload 1, h_call 23 2 1 2 0 0 0 0, h_if 0 1, h_aload 0, h_getf 7 2, h_getf 6 5, h_iload 1, h_ald 0, h_const 10000, h_iadd, h_goto 2]
noncomputable def rc_87_1 : List mI := [h_const 4294967295, h_goto 2]
noncomputable def rc_87_2 : List mI := [h_ireturn 0 0]
noncomputable def rc_87 : Nat → List mI := nth [] [rc_87_0, rc_87_1, rc_87_2]
/-- RudeCoupons.heard(I)I -/
noncomputable def rc_88_0 : List mI := [h_iload 1, h_const 4294967295, h_icmp 1 1, h_aload 0, h_getf 7 2, h_call 57 1 1 8 0 0 0 0, h_ireturn 0 0]
noncomputable def rc_88_1 : List mI := [h_aload 0, h_getf 7 9, h_iload 1, h_call 23 2 1 2 0 0 0 0, h_if 0 2, h_aload 0, h_getf 7 2, h_getf 6 4, h_iload 1, h_ald 0, h_goto 3]
noncomputable def rc_88_2 : List mI := [h_const 4294967295, h_goto 3]
noncomputable def rc_88_3 : List mI := [h_ireturn 0 0]
noncomputable def rc_88 : Nat → List mI := nth [] [rc_88_0, rc_88_1, rc_88_2, rc_88_3]
/-- RudeCoupons.year(II)I -/
noncomputable def rc_89_0 : List mI := [h_iload 1, h_const 0, h_const 9999, h_call 16 3 1 0 0 0 0 0, h_if 0 1, h_iload 2, h_const 0, h_const 1, h_call 16 3 1 0 0 0 0 0, h_if 1 2, h_goto 1]
noncomputable def rc_89_1 : List mI := [h_const 4294967295, h_ireturn 0 0]
noncomputable def rc_89_2 : List mI := [h_aload 0, h_getf 7 2, h_getf 6 2, h_aload 0, h_getf 7 8, h_call 69 2 0 0 0 0 0 0, h_const 0, h_istore 3, h_const 0, h_istore 4, h_goto 3]
noncomputable def rc_89_3 : List mI := [h_iload 4, h_aload 0, h_getf 7 9, h_getf 0 8, h_icmp 3 5, h_aload 0, h_getf 7 9, h_getf 0 12, h_iload 4, h_ald 0, h_istore 5, h_aload 0, h_getf 7 9, h_getf 0 10, h_iload 5, h_ald 0, h_istore 6, h_aload 0, h_getf 7 9, h_iload 6, h_aload 0, h_getf 7 9, h_getf 0 11, h_iload 5, h_ald 0, h_aload 0, h_getf 7 9, h_getf 0 9, h_iload 5, h_ald 0, h_aload 0, h_getf 7 8, h_iload 6, h_ald 0, h_call 10 5 1 2 0 0 0 0, h_istore 7, h_iload 7, h_if 2 4, h_aload 0, h_getf 7 2, h_aload 0, h_getf 7 9, h_iload 5, h_call 15 3 1 8 0 0 0 0, h_if 0 4, h_iload 1, h_iload 5, h_call 90 2 1 0 0 0 0 0, h_if 0 4, h_aload 0, h_getf 7 8, h_iload 6, h_iload 7, h_ast 0, h_iload 3, h_aload 0, h_getf 7 9, h_getf 0 5, h_aload 0, h_getf 7 9, h_getf 0 11, h_iload 5, h_ald 0, h_ald 0, h_iadd, h_istore 3, h_goto 4]
noncomputable def rc_89_4 : List mI := [h_iinc 4 1, h_goto 3]
noncomputable def rc_89_5 : List mI := [h_iload 2, h_if 1 6, h_iload 3, h_goto 7]
noncomputable def rc_89_6 : List mI := [h_aload 0, h_getf 7 8, h_call 73 1 1 0 0 0 0 0, h_goto 7]
noncomputable def rc_89_7 : List mI := [h_ireturn 0 0]
noncomputable def rc_89 : Nat → List mI := nth [] [rc_89_0, rc_89_1, rc_89_2, rc_89_3, rc_89_4, rc_89_5, rc_89_6, rc_89_7]
/-- RudeCoupons.isDrawn(II)Z -/
noncomputable def rc_90_0 : List mI := [h_lconst 7919, h_iload 0, h_i2l, h_lmul, h_lconst 6151, h_iload 1, h_i2l, h_lmul, h_ladd, h_lconst 1, h_ladd, h_lstore 2, h_lload 2, h_lload 2, h_lmul, h_lconst 65521, h_lrem, h_lconst 8, h_ldiv, h_lstore 4, h_lload 4, h_lconst 4, h_lrem, h_lconst 0, h_lcmp, h_if 0 1, h_const 1, h_goto 2]
noncomputable def rc_90_1 : List mI := [h_const 0, h_goto 2]
noncomputable def rc_90_2 : List mI := [h_zreturn 1 0 0]
noncomputable def rc_90 : Nat → List mI := nth [] [rc_90_0, rc_90_1, rc_90_2]
/-- RudeCoupons.keep()I -/
noncomputable def rc_91_0 : List mI := [h_aload 0, h_getf 7 4, h_getf 4 1, h_istore 1, h_iload 1, h_const 2, h_icmp 2 1, h_const 4294967293, h_ireturn 0 0]
noncomputable def rc_91_1 : List mI := [h_aload 0, h_getf 7 4, h_aload 0, h_getf 7 2, h_call 46 2 0 6 0 0 0 0, h_aload 0, h_getf 7 5, h_iload 1, h_aald, h_aload 0, h_getf 7 0, h_call 31 2 0 3 0 0 0 0, h_aload 0, h_getf 7 4, h_getf 4 1, h_ireturn 0 0]
noncomputable def rc_91 : Nat → List mI := nth [] [rc_91_0, rc_91_1]
/-- RudeCoupons.back()I -/
noncomputable def rc_92_0 : List mI := [h_aload 0, h_getf 7 4, h_aload 0, h_getf 7 2, h_call 48 2 1 6 0 0 0 0, h_if 1 1, h_const 4294967294, h_ireturn 0 0]
noncomputable def rc_92_1 : List mI := [h_aload 0, h_getf 7 4, h_getf 4 1, h_aload 0, h_getf 7 5, h_alen, h_icmp 3 2, h_aload 0, h_getf 7 0, h_aload 0, h_getf 7 5, h_aload 0, h_getf 7 4, h_getf 4 1, h_aald, h_call 31 2 0 3 0 0 0 0, h_goto 2]
noncomputable def rc_92_2 : List mI := [h_aload 0, h_getf 7 3, h_const 0, h_putf 4 1 0, h_aload 0, h_getf 7 4, h_getf 4 1, h_ireturn 0 0]
noncomputable def rc_92 : Nat → List mI := nth [] [rc_92_0, rc_92_1, rc_92_2]
/-- RudeCoupons.count(I)I -/
noncomputable def rc_93_0 : List mI := [h_iload 1, h_table 11 0 [1, 2, 3, 4, 5, 6, 7, 8, 9, 10]]
noncomputable def rc_93_1 : List mI := [h_aload 0, h_getf 7 9, h_getf 0 0, h_ireturn 0 0]
noncomputable def rc_93_2 : List mI := [h_aload 0, h_getf 7 9, h_getf 0 4, h_ireturn 0 0]
noncomputable def rc_93_3 : List mI := [h_aload 0, h_getf 7 9, h_getf 0 8, h_ireturn 0 0]
noncomputable def rc_93_4 : List mI := [h_aload 0, h_getf 7 2, h_getf 6 0, h_ireturn 0 0]
noncomputable def rc_93_5 : List mI := [h_aload 0, h_getf 7 2, h_getf 6 1, h_call 138 1 1 0 0 0 0 0, h_ireturn 0 0]
noncomputable def rc_93_6 : List mI := [h_aload 0, h_getf 7 2, h_call 55 1 1 8 0 0 0 0, h_ireturn 0 0]
noncomputable def rc_93_7 : List mI := [h_aload 0, h_getf 7 6, h_getf 5 3, h_ireturn 0 0]
noncomputable def rc_93_8 : List mI := [h_aload 0, h_getf 7 3, h_getf 4 1, h_ireturn 0 0]
noncomputable def rc_93_9 : List mI := [h_aload 0, h_getf 7 4, h_getf 4 1, h_ireturn 0 0]
noncomputable def rc_93_10 : List mI := [h_aload 0, h_getf 7 0, h_getf 1 1, h_ireturn 0 0]
noncomputable def rc_93_11 : List mI := [h_const 4294967295, h_ireturn 0 0]
noncomputable def rc_93 : Nat → List mI := nth [] [rc_93_0, rc_93_1, rc_93_2, rc_93_3, rc_93_4, rc_93_5, rc_93_6, rc_93_7, rc_93_8, rc_93_9, rc_93_10, rc_93_11]
/-- RudeCouponsModel.<init>()V -/
noncomputable def rc_94_0 : List mI := [h_aload 0, h_oinit, h_aload 0, h_const 18, h_newa 0 16 1394, h_putf 8 1 1, h_aload 0, h_const 18, h_newa 0 16 1394, h_putf 8 3 1, h_aload 0, h_const 30, h_newa 0 16 1394, h_putf 8 5 1, h_aload 0, h_const 10, h_newa 0 16 1394, h_putf 8 6 1, h_aload 0, h_const 26, h_newa 0 16 1394, h_putf 8 7 1, h_aload 0, h_const 208, h_newa 0 16 1394, h_putf 8 9 1, h_aload 0, h_const 52, h_newa 0 16 1394, h_putf 8 11 1, h_aload 0, h_const 24, h_newa 0 16 1394, h_putf 8 13 1, h_aload 0, h_const 200, h_newa 0 16 1394, h_putf 8 14 1, h_aload 0, h_const 3, h_newa 0 16 1394, h_putf 8 17 1, h_aload 0, h_const 18, h_newa 0 16 1394, h_putf 8 19 1, h_aload 0, h_const 18, h_newa 0 16 1394, h_putf 8 21 1, h_aload 0, h_const 30, h_newa 0 16 1394, h_putf 8 23 1, h_aload 0, h_const 96, h_newa 0 16 1394, h_putf 8 25 1, h_aload 0, h_const 637, h_newa 0 16 1394, h_putf 8 26 1, h_aload 0, h_const 6, h_newa 0 16 1394, h_putf 8 27 1, h_aload 0, h_call 95 1 0 10 0 0 16 1394, h_aload 0, h_const 0, h_const 4, h_const 3, h_call 96 4 0 10 0 0 16 1394, h_aload 0, h_const 1, h_const 5, h_const 0, h_call 96 4 0 10 0 0 16 1394, h_aload 0, h_const 2, h_const 1, h_const 5, h_call 96 4 0 10 0 0 16 1394, h_aload 0, h_const 3, h_const 3, h_const 2, h_call 96 4 0 10 0 0 16 1394, h_aload 0, h_const 9, h_const 2, h_const 4, h_call 97 4 0 10 0 0 16 1394, h_aload 0, h_const 4, h_const 1, h_const 1, h_call 97 4 0 10 0 0 16 1394, h_aload 0, h_const 14, h_const 3, h_const 6, h_call 97 4 0 10 0 0 16 1394, h_aload 0, h_const 0, h_const 0, h_const 1, h_call 98 4 0 10 0 0 16 1394, h_aload 0, h_const 1, h_const 0, h_const 0, h_call 98 4 0 10 0 0 16 1394, h_aload 0, h_const 1, h_const 1, h_const 1, h_call 98 4 0 10 0 0 16 1394, h_aload 0, h_const 2, h_const 2, h_const 2, h_call 98 4 0 10 0 0 16 1394, h_aload 0, h_const 3, h_const 3, h_const 0, h_call 98 4 0 10 0 0 16 1394, h_aload 0, h_const 4, h_const 0, h_const 2, h_call 98 4 0 10 0 0 16 1394, h_aload 0, h_const 4, h_const 1, h_const 0, h_call 98 4 0 10 0 0 16 1394, h_aload 0, h_const 6, h_const 3, h_const 1, h_call 98 4 0 10 0 0 16 1394, h_aload 0, h_const 7, h_const 0, h_const 1, h_call 98 4 0 10 0 0 16 1394, h_aload 0, h_call 99 1 0 10 0 0 16 1394, h_return 16 1394]
noncomputable def rc_94 : Nat → List mI := nth [] [rc_94_0]
/-- RudeCouponsModel.clearTold()V -/
noncomputable def rc_95_0 : List mI := [h_aload 0, h_const 0, h_putf 8 18 0, h_aload 0, h_const 0, h_putf 8 20 0, h_aload 0, h_const 0, h_putf 8 22 0, h_return 0 0]
noncomputable def rc_95 : Nat → List mI := nth [] [rc_95_0]
/-- RudeCouponsModel.tellsPerson(III)V -/
noncomputable def rc_96_0 : List mI := [h_aload 0, h_getf 8 19, h_const 3, h_aload 0, h_getf 8 18, h_imul, h_iload 1, h_ast 0, h_aload 0, h_getf 8 19, h_const 3, h_aload 0, h_getf 8 18, h_imul, h_const 1, h_iadd, h_iload 2, h_ast 0, h_aload 0, h_getf 8 19, h_const 3, h_aload 0, h_getf 8 18, h_imul, h_const 2, h_iadd, h_iload 3, h_ast 0, h_aload 0, h_dup, h_getf 8 18, h_const 1, h_iadd, h_putf 8 18 0, h_return 0 0]
noncomputable def rc_96 : Nat → List mI := nth [] [rc_96_0]
/-- RudeCouponsModel.tellsDoing(III)V -/
noncomputable def rc_97_0 : List mI := [h_aload 0, h_getf 8 21, h_const 3, h_aload 0, h_getf 8 20, h_imul, h_iload 1, h_ast 0, h_aload 0, h_getf 8 21, h_const 3, h_aload 0, h_getf 8 20, h_imul, h_const 1, h_iadd, h_iload 2, h_ast 0, h_aload 0, h_getf 8 21, h_const 3, h_aload 0, h_getf 8 20, h_imul, h_const 2, h_iadd, h_iload 3, h_ast 0, h_aload 0, h_dup, h_getf 8 20, h_const 1, h_iadd, h_putf 8 20 0, h_return 0 0]
noncomputable def rc_97 : Nat → List mI := nth [] [rc_97_0]
/-- RudeCouponsModel.tellsOccasion(III)V -/
noncomputable def rc_98_0 : List mI := [h_aload 0, h_getf 8 23, h_const 3, h_aload 0, h_getf 8 22, h_imul, h_iload 1, h_ast 0, h_aload 0, h_getf 8 23, h_const 3, h_aload 0, h_getf 8 22, h_imul, h_const 1, h_iadd, h_iload 2, h_ast 0, h_aload 0, h_getf 8 23, h_const 3, h_aload 0, h_getf 8 22, h_imul, h_const 2, h_iadd, h_iload 3, h_ast 0, h_aload 0, h_dup, h_getf 8 22, h_const 1, h_iadd, h_putf 8 22 0, h_return 0 0]
noncomputable def rc_98 : Nat → List mI := nth [] [rc_98_0]
/-- RudeCouponsModel.settles()V -/
noncomputable def rc_99_0 : List mI := [h_aload 0, h_aload 0, h_getf 8 18, h_putf 8 0 0, h_aload 0, h_aload 0, h_getf 8 20, h_putf 8 2 0, h_aload 0, h_aload 0, h_getf 8 22, h_putf 8 4 0, h_aload 0, h_getf 8 1, h_const 0, h_aload 0, h_getf 8 19, h_const 0, h_const 18, h_call 100 5 0 0 0 0 0 0, h_aload 0, h_getf 8 3, h_const 0, h_aload 0, h_getf 8 21, h_const 0, h_const 18, h_call 100 5 0 0 0 0 0 0, h_aload 0, h_getf 8 5, h_const 0, h_aload 0, h_getf 8 23, h_const 0, h_const 30, h_call 100 5 0 0 0 0 0 0, h_const 0, h_istore 1, h_goto 1]
noncomputable def rc_99_1 : List mI := [h_iload 1, h_aload 0, h_getf 8 4, h_icmp 3 7, h_const 0, h_istore 2, h_const 0, h_istore 3, h_goto 2]
noncomputable def rc_99_2 : List mI := [h_iload 3, h_aload 0, h_getf 8 4, h_icmp 3 6, h_iload 2, h_aload 0, h_getf 8 5, h_const 3, h_iload 3, h_imul, h_ald 0, h_aload 0, h_getf 8 5, h_const 3, h_iload 1, h_imul, h_ald 0, h_icmp 2 3, h_aload 0, h_getf 8 5, h_const 3, h_iload 3, h_imul, h_ald 0, h_aload 0, h_getf 8 5, h_const 3, h_iload 1, h_imul, h_ald 0, h_icmp 1 4, h_iload 3, h_iload 1, h_icmp 3 4, h_goto 3]
noncomputable def rc_99_3 : List mI := [h_const 1, h_goto 5]
noncomputable def rc_99_4 : List mI := [h_const 0, h_goto 5]
noncomputable def rc_99_5 : List mI := [h_iadd, h_istore 2, h_iinc 3 1, h_goto 2]
noncomputable def rc_99_6 : List mI := [h_aload 0, h_getf 8 6, h_iload 2, h_iload 1, h_ast 0, h_iinc 1 1, h_goto 1]
noncomputable def rc_99_7 : List mI := [h_const 0, h_istore 1, h_goto 8]
noncomputable def rc_99_8 : List mI := [h_iload 1, h_const 26, h_icmp 3 9, h_aload 0, h_getf 8 7, h_iload 1, h_const 0, h_ast 0, h_iinc 1 1, h_goto 8]
noncomputable def rc_99_9 : List mI := [h_const 0, h_istore 1, h_goto 10]
noncomputable def rc_99_10 : List mI := [h_iload 1, h_aload 0, h_getf 8 0, h_icmp 3 11, h_aload 0, h_getf 8 7, h_const 2, h_iload 1, h_iadd, h_aload 0, h_getf 8 1, h_const 3, h_iload 1, h_imul, h_const 1, h_iadd, h_ald 0, h_ast 0, h_aload 0, h_getf 8 7, h_const 20, h_iload 1, h_iadd, h_const 10000, h_ast 0, h_iinc 1 1, h_goto 10]
noncomputable def rc_99_11 : List mI := [h_aload 0, h_const 0, h_putf 8 8 0, h_aload 0, h_const 0, h_putf 8 10 0, h_aload 0, h_const 0, h_putf 8 12 0, h_return 0 0]
noncomputable def rc_99 : Nat → List mI := nth [] [rc_99_0, rc_99_1, rc_99_2, rc_99_3, rc_99_4, rc_99_5, rc_99_6, rc_99_7, rc_99_8, rc_99_9, rc_99_10, rc_99_11]
/-- RudeCouponsModel.copies([II[III)V -/
noncomputable def rc_100_0 : List mI := [h_const 0, h_istore 5, h_goto 1]
noncomputable def rc_100_1 : List mI := [h_iload 5, h_iload 4, h_icmp 3 2, h_aload 0, h_iload 1, h_iload 5, h_iadd, h_aload 2, h_iload 3, h_iload 5, h_iadd, h_ald 0, h_ast 0, h_iinc 5 1, h_goto 1]
noncomputable def rc_100_2 : List mI := [h_return 0 0]
noncomputable def rc_100 : Nat → List mI := nth [] [rc_100_0, rc_100_1, rc_100_2]
/-- RudeCouponsModel.write(I)I -/
noncomputable def rc_101_0 : List mI := [h_iload 1, h_const 32, h_const 126, h_call 7 3 1 0 0 0 0 0, h_if 1 1, h_const 4294967295, h_ireturn 0 0]
noncomputable def rc_101_1 : List mI := [h_aload 0, h_getf 8 15, h_const 200, h_icmp 1 2, h_const 4294967293, h_ireturn 0 0]
noncomputable def rc_101_2 : List mI := [h_aload 0, h_getf 8 14, h_aload 0, h_getf 8 15, h_iload 1, h_ast 0, h_aload 0, h_dup, h_getf 8 15, h_const 1, h_iadd, h_putf 8 15 0, h_aload 0, h_getf 8 15, h_ireturn 0 0]
noncomputable def rc_101 : Nat → List mI := nth [] [rc_101_0, rc_101_1, rc_101_2]
/-- RudeCouponsModel.wipe()I -/
noncomputable def rc_102_0 : List mI := [h_aload 0, h_getf 8 15, h_istore 1, h_aload 0, h_const 0, h_putf 8 15 0, h_iload 1, h_ireturn 0 0]
noncomputable def rc_102 : Nat → List mI := nth [] [rc_102_0]
/-- RudeCouponsModel.fault()I -/
noncomputable def rc_103_0 : List mI := [h_aload 0, h_const 0, h_putf 8 16 0, h_aload 0, h_call 95 1 0 10 0 0 0 0, h_goto 1]
noncomputable def rc_103_1 : List mI := [h_aload 0, h_getf 8 16, h_aload 0, h_getf 8 15, h_icmp 3 3, h_aload 0, h_getf 8 16, h_istore 1, h_aload 0, h_bad, h_if 1 2, h_iload 1, h_ireturn 0 0]
noncomputable def rc_103_2 : List mI := [h_goto 1]
noncomputable def rc_103_3 : List mI := [h_const 4294967292, h_ireturn 0 0]
noncomputable def rc_103 : Nat → List mI := nth [] [rc_103_0, rc_103_1, rc_103_2, rc_103_3]
/-- RudeCouponsModel.lay()I -/
noncomputable def rc_104_0 : List mI := [h_aload 0, h_call 103 1 1 10 0 0 0 0, h_const 4294967292, h_icmp 1 1, h_aload 0, h_getf 8 18, h_if 1 2, h_goto 1]
noncomputable def rc_104_1 : List mI := [h_const 4294967294, h_ireturn 0 0]
noncomputable def rc_104_2 : List mI := [h_aload 0, h_call 99 1 0 10 0 0 0 0, h_aload 0, h_getf 8 0, h_ireturn 0 0]
noncomputable def rc_104 : Nat → List mI := nth [] [rc_104_0, rc_104_1, rc_104_2]
/-- RudeCouponsModel.person(II)I -/
noncomputable def rc_105_0 : List mI := [h_aload 0, h_iload 1, h_call 9 2 1 10 0 0 0 0, h_if 1 1, h_const 4294967295, h_ireturn 0 0]
noncomputable def rc_105_1 : List mI := [h_iload 2, h_table 6 0 [2, 3, 4, 5]]
noncomputable def rc_105_2 : List mI := [h_aload 0, h_getf 8 1, h_const 3, h_iload 1, h_imul, h_ald 0, h_ireturn 0 0]
noncomputable def rc_105_3 : List mI := [h_aload 0, h_getf 8 7, h_const 2, h_iload 1, h_iadd, h_ald 0, h_ireturn 0 0]
noncomputable def rc_105_4 : List mI := [h_aload 0, h_getf 8 1, h_const 3, h_iload 1, h_imul, h_const 2, h_iadd, h_ald 0, h_ireturn 0 0]
noncomputable def rc_105_5 : List mI := [h_aload 0, h_getf 8 7, h_const 8, h_iload 1, h_iadd, h_ald 0, h_ireturn 0 0]
noncomputable def rc_105_6 : List mI := [h_const 4294967295, h_ireturn 0 0]
noncomputable def rc_105 : Nat → List mI := nth [] [rc_105_0, rc_105_1, rc_105_2, rc_105_3, rc_105_4, rc_105_5, rc_105_6]
/-- RudeCouponsModel.doing(II)I -/
noncomputable def rc_106_0 : List mI := [h_iload 1, h_const 0, h_aload 0, h_getf 8 2, h_const 1, h_isub, h_call 7 3 1 0 0 0 0 0, h_if 0 1, h_iload 2, h_const 0, h_const 2, h_call 7 3 1 0 0 0 0 0, h_if 0 1, h_aload 0, h_getf 8 3, h_const 3, h_iload 1, h_imul, h_iload 2, h_iadd, h_ald 0, h_goto 2]
noncomputable def rc_106_1 : List mI := [h_const 4294967295, h_goto 2]
noncomputable def rc_106_2 : List mI := [h_ireturn 0 0]
noncomputable def rc_106 : Nat → List mI := nth [] [rc_106_0, rc_106_1, rc_106_2]
/-- RudeCouponsModel.occasion(II)I -/
noncomputable def rc_107_0 : List mI := [h_aload 0, h_iload 1, h_call 108 2 1 10 0 0 0 0, h_if 0 1, h_iload 2, h_const 0, h_const 4, h_call 7 3 1 0 0 0 0 0, h_if 1 2, h_goto 1]
noncomputable def rc_107_1 : List mI := [h_const 4294967295, h_ireturn 0 0]
noncomputable def rc_107_2 : List mI := [h_iload 2, h_const 3, h_icmp 3 3, h_aload 0, h_getf 8 5, h_const 3, h_iload 1, h_imul, h_iload 2, h_iadd, h_ald 0, h_goto 6]
noncomputable def rc_107_3 : List mI := [h_iload 2, h_const 3, h_icmp 1 4, h_aload 0, h_getf 8 7, h_const 1, h_ald 0, h_iload 1, h_ishr, h_const 1, h_iand, h_goto 6]
noncomputable def rc_107_4 : List mI := [h_aload 0, h_iload 1, h_call 109 2 1 10 0 0 0 0, h_if 0 5, h_const 1, h_goto 6]
noncomputable def rc_107_5 : List mI := [h_const 0, h_goto 6]
noncomputable def rc_107_6 : List mI := [h_ireturn 0 0]
noncomputable def rc_107 : Nat → List mI := nth [] [rc_107_0, rc_107_1, rc_107_2, rc_107_3, rc_107_4, rc_107_5, rc_107_6]
/-- RudeCouponsModel.isOccasion(I)Z -/
noncomputable def rc_108_0 : List mI := [h_iload 1, h_const 0, h_aload 0, h_getf 8 4, h_const 1, h_isub, h_call 7 3 1 0 0 0 0 0, h_zreturn 1 0 0]
noncomputable def rc_108 : Nat → List mI := nth [] [rc_108_0]
/-- RudeCouponsModel.canBe(I)Z -/
noncomputable def rc_109_0 : List mI := [h_aload 0, h_getf 8 5, h_const 3, h_iload 1, h_imul, h_ald 0, h_aload 0, h_getf 8 7, h_const 0, h_ald 0, h_icmp 1 1, h_aload 0, h_getf 8 7, h_const 1, h_ald 0, h_iload 1, h_call 0 2 1 0 0 0 0 0, h_if 1 1, h_aload 0, h_iload 1, h_aload 0, h_getf 8 7, h_const 2, h_aload 0, h_iload 1, h_call 1 2 1 10 0 0 0 0, h_iadd, h_ald 0, h_call 3 3 1 10 0 0 0 0, h_if 2 1, h_const 1, h_goto 2]
noncomputable def rc_109_1 : List mI := [h_const 0, h_goto 2]
noncomputable def rc_109_2 : List mI := [h_zreturn 1 0 0]
noncomputable def rc_109 : Nat → List mI := nth [] [rc_109_0, rc_109_1, rc_109_2]
/-- RudeCouponsModel.take(I)I -/
noncomputable def rc_110_0 : List mI := [h_aload 0, h_iload 1, h_call 108 2 1 10 0 0 0 0, h_if 1 1, h_const 4294967295, h_ireturn 0 0]
noncomputable def rc_110_1 : List mI := [h_aload 0, h_iload 1, h_call 109 2 1 10 0 0 0 0, h_if 1 2, h_const 4294967294, h_ireturn 0 0]
noncomputable def rc_110_2 : List mI := [h_aload 0, h_call 111 1 0 10 0 0 0 0, h_aload 0, h_iload 1, h_call 1 2 1 10 0 0 0 0, h_istore 2, h_aload 0, h_getf 8 7, h_const 1, h_dup2, h_ald 0, h_const 1, h_iload 1, h_ishl, h_ior, h_ast 0, h_aload 0, h_getf 8 7, h_const 2, h_iload 2, h_iadd, h_aload 0, h_iload 1, h_aload 0, h_getf 8 7, h_const 2, h_iload 2, h_iadd, h_ald 0, h_call 3 3 1 10 0 0 0 0, h_ast 0, h_aload 0, h_getf 8 7, h_const 8, h_iload 2, h_iadd, h_dup2, h_ald 0, h_aload 0, h_iload 1, h_call 4 2 1 10 0 0 0 0, h_iadd, h_ast 0, h_const 0, h_istore 3, h_goto 3]
noncomputable def rc_110_3 : List mI := [h_iload 3, h_aload 0, h_getf 8 0, h_icmp 3 6, h_aload 0, h_getf 8 7, h_const 14, h_iload 3, h_iadd, h_dup2, h_ald 0, h_iload 3, h_iload 2, h_icmp 1 4, h_const 0, h_goto 5]
noncomputable def rc_110_4 : List mI := [h_aload 0, h_iload 3, h_aload 0, h_getf 8 5, h_const 3, h_iload 1, h_imul, h_const 2, h_iadd, h_ald 0, h_call 8 3 1 10 0 0 0 0, h_goto 5]
noncomputable def rc_110_5 : List mI := [h_iadd, h_ast 0, h_iinc 3 1, h_goto 3]
noncomputable def rc_110_6 : List mI := [h_aload 0, h_getf 8 7, h_const 2, h_iload 2, h_iadd, h_ald 0, h_ireturn 0 0]
noncomputable def rc_110 : Nat → List mI := nth [] [rc_110_0, rc_110_1, rc_110_2, rc_110_3, rc_110_4, rc_110_5, rc_110_6]
/-- RudeCouponsModel.remembers()V -/
noncomputable def rc_111_0 : List mI := [h_aload 0, h_getf 8 8, h_const 8, h_icmp 1 3, h_const 0, h_istore 1, h_goto 1]
noncomputable def rc_111_1 : List mI := [h_iload 1, h_const 182, h_icmp 3 2, h_aload 0, h_getf 8 9, h_iload 1, h_aload 0, h_getf 8 9, h_iload 1, h_const 26, h_iadd, h_ald 0, h_ast 0, h_iinc 1 1, h_goto 1]
noncomputable def rc_111_2 : List mI := [h_aload 0, h_dup, h_getf 8 8, h_const 1, h_isub, h_putf 8 8 0, h_goto 3]
noncomputable def rc_111_3 : List mI := [h_aload 0, h_getf 8 9, h_const 26, h_aload 0, h_getf 8 8, h_imul, h_aload 0, h_getf 8 7, h_const 0, h_const 26, h_call 100 5 0 0 0 0 0 0, h_aload 0, h_dup, h_getf 8 8, h_const 1, h_iadd, h_putf 8 8 0, h_return 0 0]
noncomputable def rc_111 : Nat → List mI := nth [] [rc_111_0, rc_111_1, rc_111_2, rc_111_3]
/-- RudeCouponsModel.pass(I)I -/
noncomputable def rc_112_0 : List mI := [h_iload 1, h_const 1, h_const 30, h_call 7 3 1 0 0 0 0 0, h_if 1 1, h_const 4294967295, h_ireturn 0 0]
noncomputable def rc_112_1 : List mI := [h_aload 0, h_getf 8 7, h_const 0, h_ald 0, h_iload 1, h_iadd, h_const 99, h_icmp 5 2, h_const 4294967294, h_ireturn 0 0]
noncomputable def rc_112_2 : List mI := [h_aload 0, h_call 111 1 0 10 0 0 0 0, h_aload 0, h_getf 8 7, h_const 0, h_dup2, h_ald 0, h_iload 1, h_iadd, h_ast 0, h_aload 0, h_getf 8 7, h_const 0, h_ald 0, h_ireturn 0 0]
noncomputable def rc_112 : Nat → List mI := nth [] [rc_112_0, rc_112_1, rc_112_2]
/-- RudeCouponsModel.give(III)I -/
noncomputable def rc_113_0 : List mI := [h_aload 0, h_iload 1, h_call 9 2 1 10 0 0 0 0, h_if 0 1, h_aload 0, h_iload 2, h_call 9 2 1 10 0 0 0 0, h_if 0 1, h_iload 1, h_iload 2, h_icmp 0 1, h_iload 3, h_const 1, h_const 15, h_call 7 3 1 0 0 0 0 0, h_if 1 2, h_goto 1]
noncomputable def rc_113_1 : List mI := [h_const 4294967295, h_ireturn 0 0]
noncomputable def rc_113_2 : List mI := [h_aload 0, h_getf 8 7, h_const 2, h_iload 1, h_iadd, h_ald 0, h_iload 3, h_icmp 3 3, h_const 4294967294, h_ireturn 0 0]
noncomputable def rc_113_3 : List mI := [h_aload 0, h_getf 8 7, h_const 2, h_iload 2, h_iadd, h_ald 0, h_iload 3, h_iadd, h_const 15, h_icmp 5 4, h_const 4294967293, h_ireturn 0 0]
noncomputable def rc_113_4 : List mI := [h_aload 0, h_call 111 1 0 10 0 0 0 0, h_aload 0, h_getf 8 7, h_const 2, h_iload 1, h_iadd, h_dup2, h_ald 0, h_iload 3, h_isub, h_ast 0, h_aload 0, h_getf 8 7, h_const 2, h_iload 2, h_iadd, h_dup2, h_ald 0, h_iload 3, h_iadd, h_ast 0, h_aload 0, h_getf 8 7, h_const 20, h_iload 1, h_iadd, h_dup2, h_ald 0, h_iload 3, h_isub, h_ast 0, h_aload 0, h_getf 8 7, h_const 20, h_iload 2, h_iadd, h_dup2, h_ald 0, h_iload 3, h_iadd, h_ast 0, h_aload 0, h_getf 8 7, h_const 2, h_iload 1, h_iadd, h_ald 0, h_ireturn 0 0]
noncomputable def rc_113 : Nat → List mI := nth [] [rc_113_0, rc_113_1, rc_113_2, rc_113_3, rc_113_4]
/-- RudeCouponsModel.ration(I)I -/
noncomputable def rc_114_0 : List mI := [h_iload 1, h_const 0, h_const 15, h_call 7 3 1 0 0 0 0 0, h_if 1 1, h_const 4294967295, h_ireturn 0 0]
noncomputable def rc_114_1 : List mI := [h_aload 0, h_call 111 1 0 10 0 0 0 0, h_aload 0, h_call 115 1 1 10 0 0 0 0, h_istore 2, h_const 0, h_istore 3, h_goto 2]
noncomputable def rc_114_2 : List mI := [h_iload 3, h_aload 0, h_getf 8 0, h_icmp 3 3, h_aload 0, h_getf 8 7, h_const 2, h_iload 3, h_iadd, h_iload 1, h_ast 0, h_iinc 3 1, h_goto 2]
noncomputable def rc_114_3 : List mI := [h_iload 2, h_ireturn 0 0]
noncomputable def rc_114 : Nat → List mI := nth [] [rc_114_0, rc_114_1, rc_114_2, rc_114_3]
/-- RudeCouponsModel.allCoupons()I -/
noncomputable def rc_115_0 : List mI := [h_const 0, h_istore 1, h_const 0, h_istore 2, h_goto 1]
noncomputable def rc_115_1 : List mI := [h_iload 2, h_aload 0, h_getf 8 0, h_icmp 3 2, h_iload 1, h_aload 0, h_getf 8 7, h_const 2, h_iload 2, h_iadd, h_ald 0, h_iadd, h_istore 1, h_iinc 2 1, h_goto 1]
noncomputable def rc_115_2 : List mI := [h_iload 1, h_ireturn 0 0]
noncomputable def rc_115 : Nat → List mI := nth [] [rc_115_0, rc_115_1, rc_115_2]
/-- RudeCouponsModel.undo()I -/
noncomputable def rc_116_0 : List mI := [h_aload 0, h_getf 8 8, h_if 1 1, h_const 4294967294, h_ireturn 0 0]
noncomputable def rc_116_1 : List mI := [h_aload 0, h_dup, h_getf 8 8, h_const 1, h_isub, h_putf 8 8 0, h_aload 0, h_getf 8 7, h_const 0, h_aload 0, h_getf 8 9, h_const 26, h_aload 0, h_getf 8 8, h_imul, h_const 26, h_call 100 5 0 0 0 0 0 0, h_aload 0, h_getf 8 8, h_ireturn 0 0]
noncomputable def rc_116 : Nat → List mI := nth [] [rc_116_0, rc_116_1]
/-- RudeCouponsModel.best(II)I -/
noncomputable def rc_117_0 : List mI := [h_aload 0, h_iload 1, h_call 9 2 1 10 0 0 0 0, h_if 0 1, h_iload 2, h_const 0, h_const 1, h_call 7 3 1 0 0 0 0 0, h_if 1 2, h_goto 1]
noncomputable def rc_117_1 : List mI := [h_const 4294967295, h_ireturn 0 0]
noncomputable def rc_117_2 : List mI := [h_aload 0, h_iload 1, h_aload 0, h_getf 8 7, h_const 2, h_iload 1, h_iadd, h_ald 0, h_call 6 3 1 10 0 0 0 0, h_istore 3, h_iload 2, h_if 1 3, h_iload 3, h_goto 4]
noncomputable def rc_117_3 : List mI := [h_aload 0, h_getf 8 24, h_goto 4]
noncomputable def rc_117_4 : List mI := [h_ireturn 0 0]
noncomputable def rc_117 : Nat → List mI := nth [] [rc_117_0, rc_117_1, rc_117_2, rc_117_3, rc_117_4]
/-- RudeCouponsModel.more(I)I -/
noncomputable def rc_118_0 : List mI := [h_aload 0, h_iload 1, h_call 9 2 1 10 0 0 0 0, h_if 1 1, h_const 4294967295, h_ireturn 0 0]
noncomputable def rc_118_1 : List mI := [h_aload 0, h_getf 8 7, h_const 2, h_iload 1, h_iadd, h_ald 0, h_istore 2, h_iload 2, h_const 15, h_icmp 1 2, h_const 0, h_goto 3]
noncomputable def rc_118_2 : List mI := [h_aload 0, h_iload 1, h_iload 2, h_const 1, h_iadd, h_call 6 3 1 10 0 0 0 0, h_aload 0, h_iload 1, h_iload 2, h_call 6 3 1 10 0 0 0 0, h_isub, h_goto 3]
noncomputable def rc_118_3 : List mI := [h_ireturn 0 0]
noncomputable def rc_118 : Nat → List mI := nth [] [rc_118_0, rc_118_1, rc_118_2, rc_118_3]
/-- RudeCouponsModel.giveBest(I)I -/
noncomputable def rc_119_0 : List mI := [h_iload 1, h_const 0, h_const 1, h_call 7 3 1 0 0 0 0 0, h_if 1 1, h_const 4294967295, h_ireturn 0 0]
noncomputable def rc_119_1 : List mI := [h_const 4294967292, h_istore 2, h_const 4294967292, h_istore 3, h_const 0, h_istore 4, h_goto 2]
noncomputable def rc_119_2 : List mI := [h_iload 4, h_aload 0, h_getf 8 0, h_icmp 3 12, h_const 0, h_istore 5, h_goto 3]
noncomputable def rc_119_3 : List mI := [h_iload 5, h_aload 0, h_getf 8 0, h_icmp 3 11, h_iload 4, h_iload 5, h_icmp 0 10, h_aload 0, h_getf 8 7, h_const 2, h_iload 4, h_iadd, h_ald 0, h_if 5 10, h_aload 0, h_getf 8 7, h_const 2, h_iload 5, h_iadd, h_ald 0, h_const 15, h_icmp 3 10, h_aload 0, h_iload 4, h_aload 0, h_getf 8 7, h_const 2, h_iload 4, h_iadd, h_ald 0, h_call 6 3 1 10 0 0 0 0, h_aload 0, h_iload 5, h_aload 0, h_getf 8 7, h_const 2, h_iload 5, h_iadd, h_ald 0, h_call 6 3 1 10 0 0 0 0, h_iadd, h_istore 6, h_aload 0, h_iload 4, h_aload 0, h_getf 8 7, h_const 2, h_iload 4, h_iadd, h_ald 0, h_const 1, h_isub, h_call 6 3 1 10 0 0 0 0, h_aload 0, h_iload 5, h_aload 0, h_getf 8 7, h_const 2, h_iload 5, h_iadd, h_ald 0, h_const 1, h_iadd, h_call 6 3 1 10 0 0 0 0, h_iadd, h_istore 7, h_iload 7, h_iload 6, h_icmp 5 4, h_iload 7, h_iload 6, h_isub, h_iload 3, h_icmp 5 4, h_const 1, h_goto 5]
noncomputable def rc_119_4 : List mI := [h_const 0, h_goto 5]
noncomputable def rc_119_5 : List mI := [h_istore 8, h_iload 8, h_if 0 6, h_const 8, h_iload 4, h_imul, h_iload 5, h_iadd, h_goto 7]
noncomputable def rc_119_6 : List mI := [h_iload 2, h_goto 7]
noncomputable def rc_119_7 : List mI := [h_istore 2, h_iload 8, h_if 0 8, h_iload 7, h_iload 6, h_isub, h_goto 9]
noncomputable def rc_119_8 : List mI := [h_iload 3, h_goto 9]
noncomputable def rc_119_9 : List mI := [h_istore 3, h_goto 10]
noncomputable def rc_119_10 : List mI := [h_iinc 5 1, h_goto 3]
noncomputable def rc_119_11 : List mI := [h_iinc 4 1, h_goto 2]
noncomputable def rc_119_12 : List mI := [h_iload 1, h_if 1 13, h_iload 2, h_goto 14]
noncomputable def rc_119_13 : List mI := [h_iload 3, h_goto 14]
noncomputable def rc_119_14 : List mI := [h_ireturn 0 0]
noncomputable def rc_119 : Nat → List mI := nth [] [rc_119_0, rc_119_1, rc_119_2, rc_119_3, rc_119_4, rc_119_5, rc_119_6, rc_119_7, rc_119_8, rc_119_9, rc_119_10, rc_119_11, rc_119_12, rc_119_13, rc_119_14]
/-- RudeCouponsModel.shared(I)I -/
noncomputable def rc_120_0 : List mI := [h_iload 1, h_const 4294967295, h_aload 0, h_getf 8 0, h_const 1, h_isub, h_call 7 3 1 0 0 0 0 0, h_if 1 1, h_const 4294967295, h_ireturn 0 0]
noncomputable def rc_120_1 : List mI := [h_aload 0, h_call 121 1 0 10 0 0 0 0, h_aload 0, h_call 115 1 1 10 0 0 0 0, h_istore 2, h_iload 1, h_if 3 2, h_aload 0, h_getf 8 26, h_iload 2, h_ald 0, h_ireturn 0 0]
noncomputable def rc_120_2 : List mI := [h_const 0, h_istore 3, h_const 0, h_istore 4, h_goto 3]
noncomputable def rc_120_3 : List mI := [h_iload 4, h_iload 1, h_icmp 4 9, h_iload 2, h_const 15, h_icmp 3 4, h_iload 2, h_goto 5]
noncomputable def rc_120_4 : List mI := [h_const 15, h_goto 5]
noncomputable def rc_120_5 : List mI := [h_istore 3, h_goto 6]
noncomputable def rc_120_6 : List mI := [h_aload 0, h_getf 8 26, h_const 91, h_iload 4, h_const 1, h_iadd, h_imul, h_iload 2, h_iadd, h_iload 3, h_isub, h_ald 0, h_if 2 7, h_aload 0, h_getf 8 25, h_const 16, h_iload 4, h_imul, h_iload 3, h_iadd, h_ald 0, h_aload 0, h_getf 8 26, h_const 91, h_iload 4, h_const 1, h_iadd, h_imul, h_iload 2, h_iadd, h_iload 3, h_isub, h_ald 0, h_iadd, h_aload 0, h_getf 8 26, h_const 91, h_iload 4, h_imul, h_iload 2, h_iadd, h_ald 0, h_icmp 0 8, h_goto 7]
noncomputable def rc_120_7 : List mI := [h_iinc 3 4294967295, h_goto 6]
noncomputable def rc_120_8 : List mI := [h_iload 2, h_iload 3, h_isub, h_istore 2, h_iinc 4 1, h_goto 3]
noncomputable def rc_120_9 : List mI := [h_iload 3, h_ireturn 0 0]
noncomputable def rc_120 : Nat → List mI := nth [] [rc_120_0, rc_120_1, rc_120_2, rc_120_3, rc_120_4, rc_120_5, rc_120_6, rc_120_7, rc_120_8, rc_120_9]
/-- RudeCouponsModel.findShares()V -/
noncomputable def rc_121_0 : List mI := [h_const 0, h_istore 1, h_goto 1]
noncomputable def rc_121_1 : List mI := [h_iload 1, h_aload 0, h_getf 8 0, h_icmp 3 4, h_const 0, h_istore 2, h_goto 2]
noncomputable def rc_121_2 : List mI := [h_iload 2, h_const 15, h_icmp 4 3, h_aload 0, h_getf 8 25, h_const 16, h_iload 1, h_imul, h_iload 2, h_iadd, h_aload 0, h_iload 1, h_iload 2, h_call 6 3 1 10 0 0 0 0, h_ast 0, h_iinc 2 1, h_goto 2]
noncomputable def rc_121_3 : List mI := [h_iinc 1 1, h_goto 1]
noncomputable def rc_121_4 : List mI := [h_aload 0, h_getf 8 0, h_istore 1, h_goto 5]
noncomputable def rc_121_5 : List mI := [h_iload 1, h_if 2 14, h_const 0, h_istore 2, h_goto 6]
noncomputable def rc_121_6 : List mI := [h_iload 2, h_const 90, h_icmp 4 13, h_iload 1, h_aload 0, h_getf 8 0, h_icmp 1 7, h_iload 2, h_if 1 7, h_const 0, h_goto 8]
noncomputable def rc_121_7 : List mI := [h_const 4294967295, h_goto 8]
noncomputable def rc_121_8 : List mI := [h_istore 3, h_const 0, h_istore 4, h_goto 9]
noncomputable def rc_121_9 : List mI := [h_iload 4, h_const 15, h_icmp 4 12, h_iload 4, h_iload 2, h_icmp 4 12, h_iload 1, h_aload 0, h_getf 8 0, h_icmp 3 12, h_aload 0, h_getf 8 26, h_const 91, h_iload 1, h_const 1, h_iadd, h_imul, h_iload 2, h_iadd, h_iload 4, h_isub, h_ald 0, h_istore 5, h_iload 5, h_if 2 10, h_aload 0, h_getf 8 25, h_const 16, h_iload 1, h_imul, h_iload 4, h_iadd, h_ald 0, h_iload 5, h_iadd, h_iload 3, h_icmp 5 10, h_aload 0, h_getf 8 25, h_const 16, h_iload 1, h_imul, h_iload 4, h_iadd, h_ald 0, h_iload 5, h_iadd, h_goto 11]
noncomputable def rc_121_10 : List mI := [h_iload 3, h_goto 11]
noncomputable def rc_121_11 : List mI := [h_istore 3, h_iinc 4 1, h_goto 9]
noncomputable def rc_121_12 : List mI := [h_aload 0, h_getf 8 26, h_const 91, h_iload 1, h_imul, h_iload 2, h_iadd, h_iload 3, h_ast 0, h_iinc 2 1, h_goto 6]
noncomputable def rc_121_13 : List mI := [h_iinc 1 4294967295, h_goto 5]
noncomputable def rc_121_14 : List mI := [h_return 0 0]
noncomputable def rc_121 : Nat → List mI := nth [] [rc_121_0, rc_121_1, rc_121_2, rc_121_3, rc_121_4, rc_121_5, rc_121_6, rc_121_7, rc_121_8, rc_121_9, rc_121_10, rc_121_11, rc_121_12, rc_121_13, rc_121_14]
/-- RudeCouponsModel.rationFor(I)I -/
noncomputable def rc_122_0 : List mI := [h_iload 1, h_const 0, h_const 999, h_call 7 3 1 0 0 0 0 0, h_if 1 1, h_const 4294967295, h_ireturn 0 0]
noncomputable def rc_122_1 : List mI := [h_const 15, h_istore 2, h_goto 2]
noncomputable def rc_122_2 : List mI := [h_iload 2, h_if 5 4, h_aload 0, h_iload 2, h_call 123 2 1 10 0 0 0 0, h_iload 1, h_icmp 4 3, h_iload 2, h_ireturn 0 0]
noncomputable def rc_122_3 : List mI := [h_iinc 2 4294967295, h_goto 2]
noncomputable def rc_122_4 : List mI := [h_const 0, h_ireturn 0 0]
noncomputable def rc_122 : Nat → List mI := nth [] [rc_122_0, rc_122_1, rc_122_2, rc_122_3, rc_122_4]
/-- RudeCouponsModel.sufferedBy(I)I -/
noncomputable def rc_123_0 : List mI := [h_const 0, h_istore 2, h_const 0, h_istore 3, h_goto 1]
noncomputable def rc_123_1 : List mI := [h_iload 3, h_aload 0, h_getf 8 0, h_icmp 3 8, h_aload 0, h_iload 3, h_iload 1, h_call 6 3 1 10 0 0 0 0, h_istore 4, h_const 0, h_istore 5, h_goto 2]
noncomputable def rc_123_2 : List mI := [h_iload 5, h_aload 0, h_getf 8 4, h_icmp 3 7, h_iload 4, h_if 2 7, h_const 0, h_istore 6, h_goto 3]
noncomputable def rc_123_3 : List mI := [h_iload 6, h_aload 0, h_getf 8 0, h_icmp 3 6, h_iload 2, h_aload 0, h_getf 8 24, h_iload 5, h_call 0 2 1 0 0 0 0 0, h_if 0 4, h_iload 6, h_iload 3, h_icmp 0 4, h_aload 0, h_iload 6, h_aload 0, h_getf 8 5, h_const 3, h_iload 5, h_imul, h_const 2, h_iadd, h_ald 0, h_call 8 3 1 10 0 0 0 0, h_goto 5]
noncomputable def rc_123_4 : List mI := [h_const 0, h_goto 5]
noncomputable def rc_123_5 : List mI := [h_iadd, h_istore 2, h_iinc 6 1, h_goto 3]
noncomputable def rc_123_6 : List mI := [h_iinc 5 1, h_goto 2]
noncomputable def rc_123_7 : List mI := [h_iinc 3 1, h_goto 1]
noncomputable def rc_123_8 : List mI := [h_iload 2, h_ireturn 0 0]
noncomputable def rc_123 : Nat → List mI := nth [] [rc_123_0, rc_123_1, rc_123_2, rc_123_3, rc_123_4, rc_123_5, rc_123_6, rc_123_7, rc_123_8]
/-- RudeCouponsModel.seen(III)I -/
noncomputable def rc_124_0 : List mI := [h_aload 0, h_iload 1, h_call 9 2 1 10 0 0 0 0, h_if 0 1, h_iload 2, h_const 0, h_aload 0, h_getf 8 2, h_const 1, h_isub, h_call 7 3 1 0 0 0 0 0, h_if 0 1, h_iload 3, h_const 0, h_const 99, h_call 7 3 1 0 0 0 0 0, h_if 1 2, h_goto 1]
noncomputable def rc_124_1 : List mI := [h_const 4294967295, h_ireturn 0 0]
noncomputable def rc_124_2 : List mI := [h_aload 0, h_getf 8 12, h_const 8, h_icmp 1 3, h_const 4294967293, h_ireturn 0 0]
noncomputable def rc_124_3 : List mI := [h_aload 0, h_getf 8 13, h_const 3, h_aload 0, h_getf 8 12, h_imul, h_iload 1, h_ast 0, h_aload 0, h_getf 8 13, h_const 3, h_aload 0, h_getf 8 12, h_imul, h_const 1, h_iadd, h_iload 2, h_ast 0, h_aload 0, h_getf 8 13, h_const 3, h_aload 0, h_getf 8 12, h_imul, h_const 2, h_iadd, h_iload 3, h_ast 0, h_aload 0, h_dup, h_getf 8 12, h_const 1, h_iadd, h_putf 8 12 0, h_aload 0, h_getf 8 12, h_ireturn 0 0]
noncomputable def rc_124 : Nat → List mI := nth [] [rc_124_0, rc_124_1, rc_124_2, rc_124_3]
/-- RudeCouponsModel.forget()I -/
noncomputable def rc_125_0 : List mI := [h_aload 0, h_getf 8 12, h_istore 1, h_aload 0, h_const 0, h_putf 8 12 0, h_iload 1, h_ireturn 0 0]
noncomputable def rc_125 : Nat → List mI := nth [] [rc_125_0]
/-- RudeCouponsModel.without()I -/
noncomputable def rc_126_0 : List mI := [h_const 0, h_istore 1, h_const 0, h_istore 2, h_goto 1]
noncomputable def rc_126_1 : List mI := [h_iload 2, h_aload 0, h_getf 8 0, h_icmp 3 11, h_aload 0, h_getf 8 1, h_const 3, h_iload 2, h_imul, h_const 1, h_iadd, h_ald 0, h_istore 3, h_const 0, h_istore 4, h_goto 2]
noncomputable def rc_126_2 : List mI := [h_iload 4, h_const 99, h_icmp 4 8, h_const 0, h_istore 5, h_goto 3]
noncomputable def rc_126_3 : List mI := [h_iload 5, h_aload 0, h_getf 8 12, h_icmp 3 7, h_aload 0, h_getf 8 13, h_const 3, h_iload 5, h_imul, h_ald 0, h_iload 2, h_icmp 1 6, h_aload 0, h_getf 8 13, h_const 3, h_iload 5, h_imul, h_const 2, h_iadd, h_ald 0, h_iload 4, h_icmp 1 6, h_iload 3, h_if 3 4, h_const 4294967295, h_goto 5]
noncomputable def rc_126_4 : List mI := [h_aload 0, h_iload 2, h_iload 3, h_aload 0, h_getf 8 13, h_const 3, h_iload 5, h_imul, h_const 1, h_iadd, h_ald 0, h_iload 4, h_call 2 5 1 10 0 0 0 0, h_goto 5]
noncomputable def rc_126_5 : List mI := [h_istore 3, h_goto 6]
noncomputable def rc_126_6 : List mI := [h_iinc 5 1, h_goto 3]
noncomputable def rc_126_7 : List mI := [h_iinc 4 1, h_goto 2]
noncomputable def rc_126_8 : List mI := [h_iload 1, h_iload 3, h_if 3 9, h_const 1, h_iload 2, h_ishl, h_goto 10]
noncomputable def rc_126_9 : List mI := [h_const 0, h_goto 10]
noncomputable def rc_126_10 : List mI := [h_ior, h_istore 1, h_iinc 2 1, h_goto 1]
noncomputable def rc_126_11 : List mI := [h_iload 1, h_ireturn 0 0]
noncomputable def rc_126 : Nat → List mI := nth [] [rc_126_0, rc_126_1, rc_126_2, rc_126_3, rc_126_4, rc_126_5, rc_126_6, rc_126_7, rc_126_8, rc_126_9, rc_126_10, rc_126_11]
/-- RudeCouponsModel.letGo(II)I -/
noncomputable def rc_127_0 : List mI := [h_iload 1, h_const 0, h_const 99, h_call 7 3 1 0 0 0 0 0, h_if 0 1, h_iload 2, h_const 0, h_const 1, h_call 7 3 1 0 0 0 0 0, h_if 1 2, h_goto 1]
noncomputable def rc_127_1 : List mI := [h_const 4294967295, h_ireturn 0 0]
noncomputable def rc_127_2 : List mI := [h_aload 0, h_call 115 1 1 10 0 0 0 0, h_istore 3, h_const 0, h_istore 4, h_const 0, h_istore 5, h_goto 3]
noncomputable def rc_127_3 : List mI := [h_iload 5, h_aload 0, h_getf 8 0, h_icmp 3 6, h_aload 0, h_getf 8 7, h_const 2, h_iload 5, h_iadd, h_ald 0, h_iload 4, h_icmp 5 4, h_aload 0, h_getf 8 7, h_const 2, h_iload 5, h_iadd, h_ald 0, h_goto 5]
noncomputable def rc_127_4 : List mI := [h_iload 4, h_goto 5]
noncomputable def rc_127_5 : List mI := [h_istore 4, h_iinc 5 1, h_goto 3]
noncomputable def rc_127_6 : List mI := [h_iload 3, h_iload 4, h_isub, h_istore 5, h_iload 4, h_iload 5, h_const 1, h_iadd, h_icmp 5 7, h_const 2, h_iload 5, h_imul, h_const 1, h_iadd, h_goto 8]
noncomputable def rc_127_7 : List mI := [h_iload 3, h_goto 8]
noncomputable def rc_127_8 : List mI := [h_istore 6, h_iload 6, h_iload 1, h_icmp 3 9, h_iload 6, h_goto 10]
noncomputable def rc_127_9 : List mI := [h_iload 1, h_goto 10]
noncomputable def rc_127_10 : List mI := [h_istore 7, h_iload 2, h_if 1 11, h_iload 7, h_goto 12]
noncomputable def rc_127_11 : List mI := [h_iload 3, h_iload 7, h_isub, h_goto 12]
noncomputable def rc_127_12 : List mI := [h_ireturn 0 0]
noncomputable def rc_127 : Nat → List mI := nth [] [rc_127_0, rc_127_1, rc_127_2, rc_127_3, rc_127_4, rc_127_5, rc_127_6, rc_127_7, rc_127_8, rc_127_9, rc_127_10, rc_127_11, rc_127_12]
/-- RudeCouponsModel.keepOne(III)I -/
noncomputable def rc_128_0 : List mI := [h_aload 0, h_iload 1, h_call 9 2 1 10 0 0 0 0, h_if 0 1, h_iload 2, h_const 0, h_const 99, h_call 7 3 1 0 0 0 0 0, h_if 0 1, h_iload 3, h_const 0, h_const 10, h_call 7 3 1 0 0 0 0 0, h_if 1 2, h_goto 1]
noncomputable def rc_128_1 : List mI := [h_const 4294967295, h_ireturn 0 0]
noncomputable def rc_128_2 : List mI := [h_aload 0, h_getf 8 7, h_const 2, h_iload 1, h_iadd, h_ald 0, h_if 1 3, h_const 4294967294, h_ireturn 0 0]
noncomputable def rc_128_3 : List mI := [h_aload 0, h_iload 1, h_aload 0, h_getf 8 7, h_const 2, h_iload 1, h_iadd, h_ald 0, h_call 6 3 1 10 0 0 0 0, h_aload 0, h_iload 1, h_aload 0, h_getf 8 7, h_const 2, h_iload 1, h_iadd, h_ald 0, h_const 1, h_isub, h_call 6 3 1 10 0 0 0 0, h_isub, h_istore 4, h_iload 2, h_iload 3, h_imul, h_const 10, h_iload 4, h_imul, h_icmp 5 4, h_const 1, h_goto 5]
noncomputable def rc_128_4 : List mI := [h_const 0, h_goto 5]
noncomputable def rc_128_5 : List mI := [h_ireturn 0 0]
noncomputable def rc_128 : Nat → List mI := nth [] [rc_128_0, rc_128_1, rc_128_2, rc_128_3, rc_128_4, rc_128_5]
/-- RudeCouponsModel.net(I)I -/
noncomputable def rc_129_0 : List mI := [h_aload 0, h_iload 1, h_call 9 2 1 10 0 0 0 0, h_if 0 1, h_aload 0, h_getf 8 7, h_const 20, h_iload 1, h_iadd, h_ald 0, h_goto 2]
noncomputable def rc_129_1 : List mI := [h_const 4294967295, h_goto 2]
noncomputable def rc_129_2 : List mI := [h_ireturn 0 0]
noncomputable def rc_129 : Nat → List mI := nth [] [rc_129_0, rc_129_1, rc_129_2]
/-- RudeCouponsModel.heard(I)I -/
noncomputable def rc_130_0 : List mI := [h_iload 1, h_const 4294967295, h_aload 0, h_getf 8 0, h_const 1, h_isub, h_call 7 3 1 0 0 0 0 0, h_if 1 1, h_const 4294967295, h_ireturn 0 0]
noncomputable def rc_130_1 : List mI := [h_const 0, h_istore 2, h_const 0, h_istore 3, h_goto 2]
noncomputable def rc_130_2 : List mI := [h_iload 3, h_aload 0, h_getf 8 0, h_icmp 3 6, h_iload 2, h_iload 1, h_if 2 3, h_iload 1, h_iload 3, h_icmp 1 4, h_goto 3]
noncomputable def rc_130_3 : List mI := [h_aload 0, h_getf 8 7, h_const 14, h_iload 3, h_iadd, h_ald 0, h_goto 5]
noncomputable def rc_130_4 : List mI := [h_const 0, h_goto 5]
noncomputable def rc_130_5 : List mI := [h_iadd, h_istore 2, h_iinc 3 1, h_goto 2]
noncomputable def rc_130_6 : List mI := [h_iload 2, h_ireturn 0 0]
noncomputable def rc_130 : Nat → List mI := nth [] [rc_130_0, rc_130_1, rc_130_2, rc_130_3, rc_130_4, rc_130_5, rc_130_6]
/-- RudeCouponsModel.year(II)I -/
noncomputable def rc_131_0 : List mI := [h_iload 1, h_const 0, h_const 9999, h_call 7 3 1 0 0 0 0 0, h_if 0 1, h_iload 2, h_const 0, h_const 1, h_call 7 3 1 0 0 0 0 0, h_if 1 2, h_goto 1]
noncomputable def rc_131_1 : List mI := [h_const 4294967295, h_ireturn 0 0]
noncomputable def rc_131_2 : List mI := [h_const 0, h_istore 3, h_goto 3]
noncomputable def rc_131_3 : List mI := [h_iload 3, h_aload 0, h_getf 8 0, h_icmp 3 4, h_aload 0, h_getf 8 27, h_iload 3, h_aload 0, h_getf 8 7, h_const 2, h_iload 3, h_iadd, h_ald 0, h_ast 0, h_iinc 3 1, h_goto 3]
noncomputable def rc_131_4 : List mI := [h_const 0, h_istore 3, h_const 0, h_istore 4, h_goto 5]
noncomputable def rc_131_5 : List mI := [h_iload 4, h_aload 0, h_getf 8 4, h_icmp 3 12, h_aload 0, h_getf 8 6, h_iload 4, h_ald 0, h_istore 5, h_aload 0, h_iload 5, h_call 1 2 1 10 0 0 0 0, h_istore 6, h_lconst 7919, h_iload 1, h_i2l, h_lmul, h_lconst 6151, h_iload 5, h_i2l, h_lmul, h_ladd, h_lconst 1, h_ladd, h_lstore 7, h_lload 7, h_lload 7, h_lmul, h_lconst 65521, h_lrem, h_lconst 8, h_ldiv, h_l2i, h_istore 9, h_aload 0, h_iload 5, h_aload 0, h_getf 8 27, h_iload 6, h_ald 0, h_call 3 3 1 10 0 0 0 0, h_istore 10, h_aload 0, h_getf 8 5, h_const 3, h_iload 5, h_imul, h_ald 0, h_aload 0, h_getf 8 7, h_const 0, h_ald 0, h_icmp 2 6, h_aload 0, h_getf 8 7, h_const 1, h_ald 0, h_iload 5, h_call 0 2 1 0 0 0 0 0, h_if 1 6, h_iload 10, h_if 2 6, h_iload 9, h_const 4, h_irem, h_if 0 6, h_const 1, h_goto 7]
noncomputable def rc_131_6 : List mI := [h_const 0, h_goto 7]
noncomputable def rc_131_7 : List mI := [h_istore 11, h_iload 3, h_iload 11, h_if 0 8, h_aload 0, h_iload 5, h_call 4 2 1 10 0 0 0 0, h_goto 9]
noncomputable def rc_131_8 : List mI := [h_const 0, h_goto 9]
noncomputable def rc_131_9 : List mI := [h_iadd, h_istore 3, h_aload 0, h_getf 8 27, h_iload 6, h_iload 11, h_if 0 10, h_iload 10, h_goto 11]
noncomputable def rc_131_10 : List mI := [h_aload 0, h_getf 8 27, h_iload 6, h_ald 0, h_goto 11]
noncomputable def rc_131_11 : List mI := [h_ast 0, h_iinc 4 1, h_goto 5]
noncomputable def rc_131_12 : List mI := [h_const 0, h_istore 4, h_const 0, h_istore 5, h_goto 13]
noncomputable def rc_131_13 : List mI := [h_iload 5, h_aload 0, h_getf 8 0, h_icmp 3 14, h_iload 4, h_aload 0, h_getf 8 27, h_iload 5, h_ald 0, h_iadd, h_istore 4, h_iinc 5 1, h_goto 13]
noncomputable def rc_131_14 : List mI := [h_iload 2, h_if 1 15, h_iload 3, h_goto 16]
noncomputable def rc_131_15 : List mI := [h_iload 4, h_goto 16]
noncomputable def rc_131_16 : List mI := [h_ireturn 0 0]
noncomputable def rc_131 : Nat → List mI := nth [] [rc_131_0, rc_131_1, rc_131_2, rc_131_3, rc_131_4, rc_131_5, rc_131_6, rc_131_7, rc_131_8, rc_131_9, rc_131_10, rc_131_11, rc_131_12, rc_131_13, rc_131_14, rc_131_15, rc_131_16]
/-- RudeCouponsModel.keep()I -/
noncomputable def rc_132_0 : List mI := [h_aload 0, h_getf 8 10, h_const 2, h_icmp 1 1, h_const 4294967293, h_ireturn 0 0]
noncomputable def rc_132_1 : List mI := [h_aload 0, h_getf 8 11, h_const 26, h_aload 0, h_getf 8 10, h_imul, h_aload 0, h_getf 8 7, h_const 0, h_const 26, h_call 100 5 0 0 0 0 0 0, h_aload 0, h_dup, h_getf 8 10, h_const 1, h_iadd, h_putf 8 10 0, h_aload 0, h_getf 8 10, h_ireturn 0 0]
noncomputable def rc_132 : Nat → List mI := nth [] [rc_132_0, rc_132_1]
/-- RudeCouponsModel.back()I -/
noncomputable def rc_133_0 : List mI := [h_aload 0, h_getf 8 10, h_if 1 1, h_const 4294967294, h_ireturn 0 0]
noncomputable def rc_133_1 : List mI := [h_aload 0, h_dup, h_getf 8 10, h_const 1, h_isub, h_putf 8 10 0, h_aload 0, h_getf 8 7, h_const 0, h_aload 0, h_getf 8 11, h_const 26, h_aload 0, h_getf 8 10, h_imul, h_const 26, h_call 100 5 0 0 0 0 0 0, h_aload 0, h_const 0, h_putf 8 8 0, h_aload 0, h_getf 8 10, h_ireturn 0 0]
noncomputable def rc_133 : Nat → List mI := nth [] [rc_133_0, rc_133_1]
/-- RudeCouponsModel.count(I)I -/
noncomputable def rc_134_0 : List mI := [h_iload 1, h_table 11 0 [1, 2, 3, 4, 5, 6, 7, 8, 9, 10]]
noncomputable def rc_134_1 : List mI := [h_aload 0, h_getf 8 0, h_ireturn 0 0]
noncomputable def rc_134_2 : List mI := [h_aload 0, h_getf 8 2, h_ireturn 0 0]
noncomputable def rc_134_3 : List mI := [h_aload 0, h_getf 8 4, h_ireturn 0 0]
noncomputable def rc_134_4 : List mI := [h_aload 0, h_getf 8 7, h_const 0, h_ald 0, h_ireturn 0 0]
noncomputable def rc_134_5 : List mI := [h_aload 0, h_call 135 1 1 10 0 0 0 0, h_ireturn 0 0]
noncomputable def rc_134_6 : List mI := [h_aload 0, h_call 115 1 1 10 0 0 0 0, h_ireturn 0 0]
noncomputable def rc_134_7 : List mI := [h_aload 0, h_getf 8 12, h_ireturn 0 0]
noncomputable def rc_134_8 : List mI := [h_aload 0, h_getf 8 8, h_ireturn 0 0]
noncomputable def rc_134_9 : List mI := [h_aload 0, h_getf 8 10, h_ireturn 0 0]
noncomputable def rc_134_10 : List mI := [h_aload 0, h_getf 8 15, h_ireturn 0 0]
noncomputable def rc_134_11 : List mI := [h_const 4294967295, h_ireturn 0 0]
noncomputable def rc_134 : Nat → List mI := nth [] [rc_134_0, rc_134_1, rc_134_2, rc_134_3, rc_134_4, rc_134_5, rc_134_6, rc_134_7, rc_134_8, rc_134_9, rc_134_10, rc_134_11]
/-- RudeCouponsModel.takenMany()I -/
noncomputable def rc_135_0 : List mI := [h_const 0, h_istore 1, h_const 0, h_istore 2, h_goto 1]
noncomputable def rc_135_1 : List mI := [h_iload 2, h_aload 0, h_getf 8 4, h_icmp 3 2, h_iload 1, h_aload 0, h_getf 8 7, h_const 1, h_ald 0, h_iload 2, h_ishr, h_const 1, h_iand, h_iadd, h_istore 1, h_iinc 2 1, h_goto 1]
noncomputable def rc_135_2 : List mI := [h_iload 1, h_ireturn 0 0]
noncomputable def rc_135 : Nat → List mI := nth [] [rc_135_0, rc_135_1, rc_135_2]
/-- java/lang/Math.max(II)I -/
noncomputable def rc_136_0 : List mI := [h_iload 0, h_iload 1, h_icmp 2 1, h_iload 0, h_goto 2]
noncomputable def rc_136_1 : List mI := [h_iload 1, h_goto 2]
noncomputable def rc_136_2 : List mI := [h_ireturn 0 0]
noncomputable def rc_136 : Nat → List mI := nth [] [rc_136_0, rc_136_1, rc_136_2]
/-- java/lang/Math.min(II)I -/
noncomputable def rc_137_0 : List mI := [h_iload 0, h_iload 1, h_icmp 4 1, h_iload 0, h_goto 2]
noncomputable def rc_137_1 : List mI := [h_iload 1, h_goto 2]
noncomputable def rc_137_2 : List mI := [h_ireturn 0 0]
noncomputable def rc_137 : Nat → List mI := nth [] [rc_137_0, rc_137_1, rc_137_2]
/-- java/lang/Integer.bitCount(I)I -/
noncomputable def rc_138_0 : List mI := [h_iload 0, h_iload 0, h_const 1, h_iushr, h_const 1431655765, h_iand, h_isub, h_istore 0, h_iload 0, h_const 858993459, h_iand, h_iload 0, h_const 2, h_iushr, h_const 858993459, h_iand, h_iadd, h_istore 0, h_iload 0, h_iload 0, h_const 4, h_iushr, h_iadd, h_const 252645135, h_iand, h_istore 0, h_iload 0, h_iload 0, h_const 8, h_iushr, h_iadd, h_istore 0, h_iload 0, h_iload 0, h_const 16, h_iushr, h_iadd, h_istore 0, h_iload 0, h_const 63, h_iand, h_ireturn 0 0]
noncomputable def rc_138 : Nat → List mI := nth [] [rc_138_0]
/-- RudeCoupons$Shelf.<init>(I)V -/
noncomputable def rc_139_0 : List mI := [h_aload 0, h_oinit, h_aload 0, h_const 1, h_iload 1, h_call 136 2 1 0 0 0 11 62, h_newq 2 11 62, h_putf 4 0 1, h_const 0, h_istore 2, h_goto 1]
noncomputable def rc_139_1 : List mI := [h_iload 2, h_aload 0, h_getf 4 0, h_alen, h_icmp 3 2, h_aload 0, h_getf 4 0, h_iload 2, h_new 6 [.inl 0, .inl 0, .inr (.inr (.inr (.inr (.inr 0)))), .inr (.inr (.inr (.inr (.inr 0)))), .inr (.inr (.inr (.inr (.inr 0)))), .inr (.inr (.inr (.inr (.inr 0))))] 11 62, h_dup, h_call 52 1 0 1 4 24 11 62, h_aast 2 6, h_iinc 2 1, h_goto 1]
noncomputable def rc_139_2 : List mI := [h_return 11 62]
noncomputable def rc_139 : Nat → List mI := nth [] [rc_139_0, rc_139_1, rc_139_2]
noncomputable def rc : Nat → Nat → List mI := nth (fun _ => []) [rc_0, rc_1, rc_2, rc_3, rc_4, rc_5, rc_6, rc_7, rc_8, rc_9, rc_10, rc_11, rc_12, rc_13, rc_14, rc_15, rc_16, rc_17, rc_18, rc_19, rc_20, rc_21, rc_22, rc_23, rc_24, rc_25, rc_26, rc_27, rc_28, rc_29, rc_30, rc_31, rc_32, rc_33, rc_34, rc_35, rc_36, rc_37, rc_38, rc_39, rc_40, rc_41, rc_42, rc_43, rc_44, rc_45, rc_46, rc_47, rc_48, rc_49, rc_50, rc_51, rc_52, rc_53, rc_54, rc_55, rc_56, rc_57, rc_58, rc_59, rc_60, rc_61, rc_62, rc_63, rc_64, rc_65, rc_66, rc_67, rc_68, rc_69, rc_70, rc_71, rc_72, rc_73, rc_74, rc_75, rc_76, rc_77, rc_78, rc_79, rc_80, rc_81, rc_82, rc_83, rc_84, rc_85, rc_86, rc_87, rc_88, rc_89, rc_90, rc_91, rc_92, rc_93, rc_94, rc_95, rc_96, rc_97, rc_98, rc_99, rc_100, rc_101, rc_102, rc_103, rc_104, rc_105, rc_106, rc_107, rc_108, rc_109, rc_110, rc_111, rc_112, rc_113, rc_114, rc_115, rc_116, rc_117, rc_118, rc_119, rc_120, rc_121, rc_122, rc_123, rc_124, rc_125, rc_126, rc_127, rc_128, rc_129, rc_130, rc_131, rc_132, rc_133, rc_134, rc_135, rc_136, rc_137, rc_138, rc_139]
noncomputable def nl : Nat → Nat := nth 0 [2, 2, 6, 3, 2, 7, 7, 3, 4, 2, 7, 7, 5, 5, 2, 3, 3, 1, 1, 5, 4, 4, 5, 2, 2, 2, 4, 5, 1, 2, 2, 3, 1, 5, 3, 4, 5, 5, 4, 1, 6, 8, 2, 1, 4, 3, 2, 3, 2, 1, 4, 5, 1, 3, 2, 1, 3, 1, 2, 2, 2, 2, 1, 1, 3, 3, 3, 3, 6, 3, 2, 4, 4, 3, 1, 4, 2, 7, 3, 3, 3, 5, 4, 2, 3, 6, 5, 2, 2, 8, 6, 2, 1, 2, 1, 1, 4, 4, 4, 4, 6, 2, 2, 2, 1, 3, 3, 3, 2, 2, 4, 2, 2, 4, 4, 3, 1, 4, 3, 9, 5, 6, 3, 7, 4, 2, 6, 8, 5, 2, 4, 12, 1, 1, 2, 3, 2, 2, 1, 3]
end
section
/-! What the small machine's values and cells are in the machine; numbers -/
/-- where the world begins; named ints; named longs; where the text lies; whether cells may be made -/
abbrev mD : Type := Nat × (Nat → Int32) × (Nat → Int64) × Nat × Bool
abbrev mE : Type := va_G × (Nat → ClassId)
def dn (d : mD) : mV → Value
  | .inl n => .int (nI n)
  | .inr (.inl k) => .ref (d.1 + k)
  | .inr (.inr (.inl n)) => .long (lN n)
  | .inr (.inr (.inr (.inl k))) => .int (d.2.1 k)
  | .inr (.inr (.inr (.inr (.inl k)))) => .long (d.2.2.1 k)
  | .inr (.inr (.inr (.inr (.inr 0)))) => .null
  | .inr (.inr (.inr (.inr (.inr (_ + 1))))) => .ref d.2.2.2.1
theorem mm_ci_s {v : mV} {b : Bool} (d : mD) (h : mm_ci v b = true) : (∃ x : Int32, dn d v = .int x) ∧ b = true := by
  rcases v with n | n | n | n | n | n
  · exact ⟨⟨_, rfl⟩, h⟩
  · cases h
  · cases h
  · exact ⟨⟨_, rfl⟩, h⟩
  · cases h
  · cases h
theorem mm_cl_s {v : mV} {b : Bool} (d : mD) (h : mm_cl v b = true) : (∃ x : Int64, dn d v = .long x) ∧ b = true := by
  rcases v with n | n | n | n | n | n
  · cases h
  · cases h
  · exact ⟨⟨_, rfl⟩, h⟩
  · cases h
  · exact ⟨⟨_, rfl⟩, h⟩
  · cases h
theorem mm_c1_s {v : mV} {b : Bool} (d : mD) (h : mm_c1 v b = true) : (dn d v).category = 1 ∧ b = true := by
  rcases v with n | n | n | n | n | n
  · exact ⟨rfl, h⟩
  · exact ⟨rfl, h⟩
  · cases h
  · exact ⟨rfl, h⟩
  · cases h
  · cases n with
    | zero => exact ⟨rfl, h⟩
    | succ n => exact ⟨rfl, h⟩
theorem mm_t_s {b x y : Bool} (h : mm_t b x y = true) : (b = true ∧ x = true) ∨ (b = false ∧ y = true) := by
  cases b
  · exact Or.inr ⟨rfl, h⟩
  · exact Or.inl ⟨rfl, h⟩
theorem mm_f_s {n : Nat} {k : Nat → Bool} (h : mm_f n k = true) : k n = true := by rw [mm_f_eq] at h; exact h
theorem nI_md (n : Nat) : nI (Nat.mod n 4294967296) = nI n := by
  apply Int32.toBitVec_inj.1
  show BitVec.ofNat 32 (n % 4294967296) = BitVec.ofNat 32 n
  apply BitVec.eq_of_toNat_eq
  rw [BitVec.toNat_ofNat, BitVec.toNat_ofNat]
  exact Nat.mod_mod _ _
theorem nI_me (n : Nat) : nI (mm_e n) = nI n := nI_md n
theorem lN_md (n : Nat) : lN (Nat.mod n 18446744073709551616) = lN n := by
  apply Int64.toBitVec_inj.1
  show BitVec.ofNat 64 (n % 18446744073709551616) = BitVec.ofNat 64 n
  apply BitVec.eq_of_toNat_eq
  rw [BitVec.toNat_ofNat, BitVec.toNat_ofNat]
  exact Nat.mod_mod _ _
theorem nI_ti (n : Nat) : (nI n).toInt = (mm_o n : Int) - 2147483648 := by
  have h : (nI n).toInt = Int.bmod ((n % 4294967296 : Nat) : Int) (2 ^ 32) := by
    show (BitVec.ofNat 32 n).toInt = _
    rw [BitVec.toInt_eq_toNat_bmod, BitVec.toNat_ofNat]
  rw [h]
  show Int.bmod ((n % 4294967296 : Nat) : Int) (2 ^ 32) = (((n + 2147483648) % 4294967296 : Nat) : Int) - 2147483648
  rw [Int.bmod_def]
  split <;> omega
theorem mm_e_lt (n : Nat) : mm_e n < 4294967296 := Nat.mod_lt _ (by decide)
theorem nI_eqE (a b : Nat) : nI a = nI b ↔ mm_e a = mm_e b := by
  rw [← Int32.toInt_inj, nI_ti, nI_ti]
  show (((a + 2147483648) % 4294967296 : Nat) : Int) - 2147483648 = (((b + 2147483648) % 4294967296 : Nat) : Int) - 2147483648 ↔ a % 4294967296 = b % 4294967296
  omega
theorem nI_ltO (a b : Nat) : nI a < nI b ↔ mm_o a < mm_o b := by
  rw [Int32.lt_iff_toInt_lt, nI_ti, nI_ti]
  omega
theorem nI_leO (a b : Nat) : nI a ≤ nI b ↔ mm_o a ≤ mm_o b := by
  rw [Int32.le_iff_toInt_le, nI_ti, nI_ti]
  omega
theorem nI_subE (a b : Nat) : nI a - nI b = nI (Nat.mod (Nat.sub (Nat.add (mm_e a) 4294967296) (mm_e b)) 4294967296) := by
  rw [nI_md]
  show nI a - nI b = nI (mm_e a + 4294967296 - mm_e b)
  rw [← pk_sub (by have := mm_e_lt b; omega), nI_me, ← nI_add, nI_me, show nI 4294967296 = 0 from by decide, Int32.add_zero]
theorem gt_div (M k : Nat) : mm_gt M k = M / 2 ^ (32 * k) % 4294967296 := by
  show (M >>> (32 * k)) % 4294967296 = _
  rw [Nat.shiftRight_eq_div_pow]
/-- the numbers in one: what lies at a place, another being changed -/
theorem gt_key {i j : Nat} (r q w u : Nat) (hr : r < 2 ^ (32 * i)) (hw : w < 2 ^ 32) (hu : u < 2 ^ 32) (hne : j ≠ i) :
    (r + 2 ^ (32 * i) * (w + 2 ^ 32 * q)) / 2 ^ (32 * j) % 2 ^ 32 = (r + 2 ^ (32 * i) * (u + 2 ^ 32 * q)) / 2 ^ (32 * j) % 2 ^ 32 := by
  rcases Nat.lt_or_gt_of_ne hne with h | h
  · have hp : 2 ^ (32 * i) = 2 ^ (32 * j) * (2 ^ 32 * 2 ^ (32 * (i - j - 1))) := by
      rw [← Nat.pow_add, ← Nat.pow_add]
      congr 1
      omega
    have g : ∀ Y : Nat, (r + 2 ^ (32 * i) * Y) / 2 ^ (32 * j) % 2 ^ 32 = r / 2 ^ (32 * j) % 2 ^ 32 := by
      intro Y
      rw [hp, Nat.mul_assoc, Nat.add_mul_div_left _ _ (Nat.two_pow_pos _), Nat.mul_assoc, Nat.add_mul_mod_self_left]
    rw [g, g]
  · have hp : 2 ^ (32 * j) = 2 ^ (32 * i) * 2 ^ 32 * 2 ^ (32 * (j - i - 1)) := by
      rw [← Nat.pow_add, ← Nat.pow_add]
      congr 1
      omega
    have g : ∀ y : Nat, y < 2 ^ 32 → (r + 2 ^ (32 * i) * (y + 2 ^ 32 * q)) / 2 ^ (32 * j) = q / 2 ^ (32 * (j - i - 1)) := by
      intro y hy
      rw [hp, ← Nat.div_div_eq_div_mul, ← Nat.div_div_eq_div_mul, Nat.add_mul_div_left _ _ (Nat.two_pow_pos _), Nat.div_eq_of_lt hr, Nat.zero_add, Nat.add_mul_div_left _ _ (Nat.two_pow_pos _), Nat.div_eq_of_lt hy, Nat.zero_add]
    rw [g w hw, g u hu]
theorem gt_set (M i v j : Nat) : mm_gt (mm_st M i v) j = if j = i then Nat.mod v 4294967296 else mm_gt M j := by
  have hw : Nat.mod v 4294967296 < 2 ^ 32 := Nat.mod_lt _ (by decide)
  have e2 : mm_st M i v = M % 2 ^ (32 * i) + 2 ^ (32 * i) * (Nat.mod v 4294967296 + 2 ^ 32 * (M / 2 ^ (32 * i) / 2 ^ 32)) := by
    show M - (mm_gt M i) <<< (32 * i) + (Nat.mod v 4294967296) <<< (32 * i) = _
    rw [Nat.shiftLeft_eq, Nat.shiftLeft_eq, gt_div]
    generalize Nat.mod v 4294967296 = w
    have a1 := Nat.div_add_mod M (2 ^ (32 * i))
    have a2 := Nat.div_add_mod (M / 2 ^ (32 * i)) (2 ^ 32)
    generalize M / 2 ^ (32 * i) = q at *
    generalize M % 2 ^ (32 * i) = r at *
    generalize 2 ^ (32 * i) = P at *
    show M - q % 2 ^ 32 * P + w * P = _
    generalize q / 2 ^ 32 = q2 at *
    generalize q % 2 ^ 32 = r2 at *
    subst a2
    subst a1
    have t : P * (2 ^ 32 * q2 + r2) + r = (P * (2 ^ 32 * q2) + r) + r2 * P := by rw [Nat.mul_add, Nat.mul_comm P r2]; omega
    rw [t, Nat.add_sub_cancel, Nat.mul_add, Nat.mul_comm w P]
    omega
  have e3 : M = M % 2 ^ (32 * i) + 2 ^ (32 * i) * (M / 2 ^ (32 * i) % 2 ^ 32 + 2 ^ 32 * (M / 2 ^ (32 * i) / 2 ^ 32)) := by
    rw [Nat.mod_add_div, Nat.mod_add_div]
  rw [gt_div, e2]
  generalize Nat.mod v 4294967296 = w at hw
  have hr : M % 2 ^ (32 * i) < 2 ^ (32 * i) := Nat.mod_lt _ (Nat.two_pow_pos _)
  by_cases h : j = i
  · subst h
    rw [if_pos rfl, Nat.add_mul_div_left _ _ (Nat.two_pow_pos _), Nat.div_eq_of_lt hr, Nat.zero_add]
    show (w + 2 ^ 32 * _) % 2 ^ 32 = w
    rw [Nat.add_mul_mod_self_left, Nat.mod_eq_of_lt hw]
  · rw [if_neg h, gt_div]
    have k := gt_key (M % 2 ^ (32 * i)) (M / 2 ^ (32 * i) / 2 ^ 32) w (M / 2 ^ (32 * i) % 2 ^ 32) hr hw (Nat.mod_lt _ (by decide)) h
    rw [← e3] at k
    exact k
/-! locals -/
def lvo (d : mD) : Nat → mL → List (Nat × Value)
  | _, [] => []
  | i, none :: L => lvo d (i + 1) L
  | i, some v :: L => (i, dn d v) :: lvo d (i + 1) L
theorem lvo_mem {d : mD} {q : Nat × Value} : ∀ {L : mL} {i : Nat}, q ∈ lvo d i L ↔ ∃ (j : Nat) (v : mV), L[j]? = some (some v) ∧ q = (i + j, dn d v)
  | [], i => by simp [lvo]
  | none :: L, i => by
    show q ∈ lvo d (i + 1) L ↔ _
    rw [lvo_mem]
    constructor
    · rintro ⟨j, v, h, rfl⟩
      exact ⟨j + 1, v, h, by rw [show i + 1 + j = i + (j + 1) by omega]⟩
    · rintro ⟨j, v, h, rfl⟩
      cases j with
      | zero => cases h
      | succ j => exact ⟨j, v, h, by rw [show i + 1 + j = i + (j + 1) by omega]⟩
  | some w :: L, i => by
    show q ∈ (i, dn d w) :: lvo d (i + 1) L ↔ _
    rw [List.mem_cons, lvo_mem]
    constructor
    · rintro (rfl | ⟨j, v, h, rfl⟩)
      · exact ⟨0, w, rfl, rfl⟩
      · exact ⟨j + 1, v, h, by rw [show i + 1 + j = i + (j + 1) by omega]⟩
    · rintro ⟨j, v, h, rfl⟩
      cases j with
      | zero =>
        cases h
        exact Or.inl rfl
      | succ j => exact Or.inr ⟨j, v, h, by rw [show i + 1 + j = i + (j + 1) by omega]⟩
theorem lvo_get {d : mD} {ls : Array Slot} {nL i : Nat} {L : mL} {v : mV} (h : lv_has ls nL (lvo d 0 L)) (hv : L[i]? = some (some v)) : ls[i]? = some (.val (dn d v)) := by
  have := h.2.2 (0 + i, dn d v) (lvo_mem.mpr ⟨i, v, hv, rfl⟩)
  rw [Nat.zero_add] at this
  exact this
/-- a local was stored: what the ahead one is -/
theorem mm_ls_s {l : mL} {i : Nat} {v : Option mV} {k : mL → Bool} (d : mD) (h : mm_ls l i v k = true) : i < l.length ∧ k (l.set i v) = true ∧ ∀ w : mV, l[i - 1]? = some (some w) → i ≠ 0 → (dn d w).category = 1 := by
  induction l generalizing i k with
  | nil => cases h
  | cons a t ih =>
    cases i with
    | zero => exact ⟨Nat.succ_pos _, h, fun _ _ h => absurd rfl h⟩
    | succ i =>
      cases i with
      | zero =>
        have h2 : (∀ w : mV, a = some w → (dn d w).category = 1) ∧ mm_ls t 0 v (fun l => k (a :: l)) = true := by
          cases a with
          | none => exact ⟨(fun w q => by cases q), h⟩
          | some w =>
            obtain ⟨h1, h2⟩ := mm_c1_s d (v := w) h
            exact ⟨(fun w' q => by cases q; exact h1), h2⟩
        obtain ⟨g1, g2, -⟩ := ih (i := 0) (k := fun l => k (a :: l)) h2.2
        exact ⟨Nat.succ_lt_succ g1, g2, fun w hw _ => h2.1 w (Option.some.inj hw)⟩
      | succ i =>
        obtain ⟨g1, g2, g3⟩ := ih (i := i + 1) (k := fun l => k (a :: l)) h
        exact ⟨Nat.succ_lt_succ g1, g2, fun w hw _ => g3 w hw (Nat.succ_ne_zero _)⟩
theorem lvo_put {d : mD} {ls : Array Slot} {nL i : Nat} {L : mL} {v : mV} (hi : i < L.length) (ha : ∀ w : mV, L[i - 1]? = some (some w) → i ≠ 0 → (dn d w).category = 1)
    (h : lv_has ls nL ((i, dn d v) :: (lvo d 0 L).filter (fun q => !(q.1 == i) && !(q.1 + 1 == i && q.2.category == 2)))) : lv_has ls nL (lvo d 0 (L.set i (some v))) := by
  refine ⟨h.1, h.2.1, fun q hq => ?_⟩
  obtain ⟨j, w, hj, rfl⟩ := lvo_mem.mp hq
  rw [Nat.zero_add]
  by_cases e : j = i
  · subst e
    rw [List.getElem?_set_self hi] at hj
    cases hj
    exact h.2.2 (j, dn d v) List.mem_cons_self
  · rw [List.getElem?_set_ne (Ne.symm e)] at hj
    refine h.2.2 (j, dn d w) (List.mem_cons_of_mem _ (List.mem_filter.mpr ⟨lvo_mem.mpr ⟨j, w, hj, by rw [Nat.zero_add]⟩, ?_⟩))
    have e1 : (j == i) = false := by simpa using e
    by_cases e2 : j + 1 = i
    · have hc := ha w (by rw [show i - 1 = j by omega]; exact hj) (by omega)
      simp [e, hc]
    · simp [e, e2]
theorem lvo_put2 {d : mD} {ls : Array Slot} {nL i : Nat} {L : mL} {v : mV} (hi : i + 1 < L.length) (ha : ∀ w : mV, L[i - 1]? = some (some w) → i ≠ 0 → (dn d w).category = 1)
    (h : lv_has ls nL ((i, dn d v) :: (lvo d 0 L).filter (fun q => !(q.1 == i) && (!(q.1 == i + 1) && !(q.1 + 1 == i && q.2.category == 2))))) : lv_has ls nL (lvo d 0 ((L.set i (some v)).set (i + 1) none)) := by
  refine ⟨h.1, h.2.1, fun q hq => ?_⟩
  obtain ⟨j, w, hj, rfl⟩ := lvo_mem.mp hq
  rw [Nat.zero_add]
  by_cases e0 : j = i + 1
  · subst e0
    rw [List.getElem?_set_self (by rw [List.length_set]; exact hi)] at hj
    cases hj
  rw [List.getElem?_set_ne (Ne.symm e0)] at hj
  by_cases e : j = i
  · subst e
    rw [List.getElem?_set_self (by omega)] at hj
    cases hj
    exact h.2.2 (j, dn d v) List.mem_cons_self
  · rw [List.getElem?_set_ne (Ne.symm e)] at hj
    refine h.2.2 (j, dn d w) (List.mem_cons_of_mem _ (List.mem_filter.mpr ⟨lvo_mem.mpr ⟨j, w, hj, by rw [Nat.zero_add]⟩, ?_⟩))
    by_cases e2 : j + 1 = i
    · have hc := ha w (by rw [show i - 1 = j by omega]; exact hj) (by omega)
      simp [e, e0, hc]
    · simp [e, e0, e2]
/-! cells -/
def rf (d : mD) : Option mV → Option Nat
  | some (.inr (.inl k)) => some (d.1 + k)
  | _ => none
def ce (d : mD) (ca : Nat → ClassId) : mC → va_E
  | .inl (ty, n, M) => .inl (ca ty, n, .inl (fun j => nI (mm_gt M j)))
  | .inr (.inl (ci, fs)) => .inr (ci, fs.map (dn d))
  | .inr (.inr (ty, es)) => .inl (ca ty, es.length, .inr (.inr (.inr (.inr (fun j => rf d es[j]?)))))
def wo (d : mD) (ca : Nat → ClassId) : Nat → List mC → va_W
  | _, [] => []
  | b, c :: t => (b, ce d ca c) :: wo d ca (b + 1) t
theorem wo_get {d : mD} {ca : Nat → ClassId} : ∀ {hp : List mC} {b k : Nat}, (wo d ca b hp)[k]? = (hp[k]?).map (fun c => (b + k, ce d ca c))
  | [], b, k => by simp [wo]
  | c :: t, b, 0 => rfl
  | c :: t, b, k + 1 => by
    show (wo d ca (b + 1) t)[k]? = (t[k]?).map _
    rw [wo_get, show b + 1 + k = b + (k + 1) by omega]
theorem wo_at {d : mD} {ca : Nat → ClassId} {hp : List mC} {b k : Nat} {c : mC} (h : hp[k]? = some c) : (wo d ca b hp)[k]? = some (b + k, ce d ca c) := by rw [wo_get, h]; rfl
theorem wo_set {d : mD} {ca : Nat → ClassId} {c : mC} : ∀ {hp : List mC} {b k : Nat}, wo d ca b (hp.set k c) = (wo d ca b hp).set k (b + k, ce d ca c)
  | [], b, k => rfl
  | _ :: t, b, 0 => rfl
  | c0 :: t, b, k + 1 => by
    show (b, ce d ca c0) :: wo d ca (b + 1) (t.set k c) = (b, ce d ca c0) :: (wo d ca (b + 1) t).set k _
    rw [wo_set, show b + 1 + k = b + (k + 1) by omega]
theorem wo_app {d : mD} {ca : Nat → ClassId} {w : List mC} : ∀ {hp : List mC} {b : Nat}, wo d ca b (hp ++ w) = wo d ca b hp ++ wo d ca (b + hp.length) w
  | [], b => rfl
  | c :: t, b => by
    show (b, ce d ca c) :: wo d ca (b + 1) (t ++ w) = (b, ce d ca c) :: (wo d ca (b + 1) t ++ _)
    rw [wo_app, List.length_cons, show b + 1 + t.length = b + (t.length + 1) by omega]
theorem wo_D {d : mD} {ca : Nat → ClassId} {hp : List mC} : va_D (fun q => d.1 ≤ q) (wo d ca d.1 hp) := by
  refine ⟨fun i j x y hi hj hxy => ?_, fun k q hk => ?_⟩
  · rw [wo_get] at hi hj
    obtain ⟨c1, -, rfl⟩ := Option.map_eq_some_iff.mp hi
    obtain ⟨c2, -, rfl⟩ := Option.map_eq_some_iff.mp hj
    have : d.1 + i = d.1 + j := hxy
    omega
  · rw [wo_get] at hk
    obtain ⟨c1, -, rfl⟩ := Option.map_eq_some_iff.mp hk
    exact Nat.le_add_right _ _
/-- the classes of the worlds -/
abbrev xcl : List vw_C := [(RX0, TX0, 13), (RX1, TX1, 2), (RX2, TX2, 3), (RX3, TX3, 1), (RX4, TX4, 2), (RX5, TX5, 4), (RX6, TX6, 6), (RX7, TX7, 11), (RX8, TX8, 28)]
def xty : Nat → FieldType
  | 0 => .int
  | 1 => .char
  | 2 => .object "RudeCoupons$Standing"
  | 3 => .object "RudeCoupons$Letters"
  | _ => .array .int
def xtys (ca : Nat → ClassId) : List (ClassId × FieldType) := [(ca 0, .int), (ca 1, .char), (ca 2, .object "RudeCoupons$Standing"), (ca 3, .object "RudeCoupons$Letters"), (ca 4, .array .int)]
theorem xtys_at (ca : Nat → ClassId) {ty : Nat} (h : ty ≤ 4) : (xtys ca)[ty]? = some (ca ty, xty ty) := by
  rcases ty with _ | _ | _ | _ | _ | ty
  · rfl
  · rfl
  · rfl
  · rfl
  · rfl
  · omega
/-- the heap holds the world -/
def HR (d : mD) (E : mE) (s : State) (R : Room) (h : mH) (H : Heap) (locs : List Loc) (cells slots : Nat) : Prop :=
  va_P E.1 xcl (wo d E.2 d.1 h.2.2.2) H ∧ va_S (fun q => d.1 ≤ q) s.heap H locs ∧ (h.1 = d.2.2.2.2 ∧ (h.1 = true → s.heap.size + h.2.1 = d.1 + h.2.2.2.length)) ∧ cells = h.2.1 ∧ slots = h.2.2.1 ∧ h.2.1 ≤ R.cells ∧ h.2.2.1 ≤ R.slots
def OKs (p : Program) (l : Launch) (e : Env) (R : Room) (s : State) (m : MethodId) (args : Array Value) (below : List Frame) (meth : Method) (c : Code) (Q : State → Prop) (d : mD) (E : mE) (nL pc : Nat) (L : mL) (S : List mV) (h : mH) : Prop :=
  ∀ (ls : Array Slot) (H : Heap) (locs : List Loc) (cells slots : Nat), lv_has ls nL (lvo d 0 L) → HR d E s R h H locs cells slots → W p l e R s m args below meth c H locs cells slots Q (F0 m pc ls (S.map (dn d)))
def HS (OK : Nat → mL → List mV → mH → Prop) (F : mF) (cO : mA → Prop) (kO : mK → Prop) (pcs : Nat → Nat) (pc : Nat) (i : mI) (pc' : Nat) : Prop :=
  ∀ (call : mA) (j : Nat → mN) (K : mK) (nx : mN) (L : mL) (S : List mV) (h : mH), cO call → (∀ b L S h, j b L S h = true → OK (pcs b) L S h) → kO K → (∀ L S h, nx L S h = true → OK pc' L S h) → i F call j K nx L S h = true → OK pc L S h
/-- the facts of named numbers -/
def cmpP (c : Nat) (x y : Int32) : Prop := match c with
  | 0 => x = y
  | 1 => ¬ x = y
  | 2 => x < y
  | 3 => y ≤ x
  | 4 => y < x
  | _ => x ≤ y
def fsem (op : Nat) (a b r : Value) : Prop := match op with
  | 1 => ∃ x y : Int32, a = .int x ∧ b = .int y ∧ r = .int (x * y)
  | 2 => ∃ x : Int32, a = .int x ∧ r = .long x.toInt64
  | 3 => ∃ x y : Int64, a = .long x ∧ b = .long y ∧ r = .long (x * y)
  | 4 => ∃ x y : Int64, a = .long x ∧ b = .long y ∧ r = .long (x + y)
  | 5 => ∃ x y : Int64, a = .long x ∧ b = .long y ∧ ¬ y = 0 ∧ r = .long (x - x / y * y)
  | 6 => ∃ x y : Int64, a = .long x ∧ b = .long y ∧ ¬ y = 0 ∧ r = .long (x / y)
  | 7 => ∃ x : Int64, a = .long x ∧ r = .int x.toInt32
  | 8 => ∃ x y : Int32, a = .int x ∧ b = .int y ∧ ¬ y = 0 ∧ r = .int (x - x / y * y)
  | 9 => ∃ x y : Int64, a = .long x ∧ b = .long y ∧ r = .int (lg_cmp x y)
  | n => ∃ x y : Int32, a = .int x ∧ b = .int y ∧ ((cmpP (n - 10) x y ∧ r = .int 1) ∨ (¬ cmpP (n - 10) x y ∧ r = .int 0))
def FOK (d : mD) (F : mF) : Prop := ∀ q ∈ F, fsem q.1 (dn d q.2.1) (dn d q.2.2.1) (dn d q.2.2.2) ∧ (10 ≤ q.1 → q.2.2.2 = .inl 0 ∨ q.2.2.2 = .inl 1)
theorem mm_q_s {d : mD} {v w : mV} (h : mm_q v w = true) : dn d v = dn d w := by
  rcases v with a | a | a | a | a | a <;> rcases w with b | b | b | b | b | b <;> first | (cases h; done) | skip
  · have e : mm_e a = mm_e b := Nat.eq_of_beq_eq_true h
    show Value.int _ = Value.int _
    rw [(nI_eqE a b).mpr e]
  · have e : a = b := Nat.eq_of_beq_eq_true h
    rw [e]
  · have e : a = b := Nat.eq_of_beq_eq_true h
    rw [e]
  · have e : a = b := Nat.eq_of_beq_eq_true h
    rw [e]
  · have e : a = b := Nat.eq_of_beq_eq_true h
    rw [e]
  · have e : a = b := Nat.eq_of_beq_eq_true h
    rw [e]
theorem mm_k_s {d : mD} {F : mF} {op : Nat} {a b : mV} {k : mV → Bool} (hF : FOK d F) (h : mm_k F op a b k = true) : ∃ r, fsem op (dn d a) (dn d b) (dn d r) ∧ (10 ≤ op → r = .inl 0 ∨ r = .inl 1) ∧ k r = true := by
  induction F with
  | nil => cases h
  | cons q F ih =>
    rcases mm_t_s h with ⟨h1, h2⟩ | ⟨-, h2⟩
    · rcases mm_t_s h1 with ⟨g1, g2⟩ | ⟨-, g2⟩
      · rcases mm_t_s g2 with ⟨g3, g4⟩ | ⟨-, g4⟩
        · have e1 : q.1 = op := Nat.eq_of_beq_eq_true g1
          have hq := hF q List.mem_cons_self
          rw [mm_q_s g3, mm_q_s g4, e1] at hq
          exact ⟨_, hq.1, hq.2, h2⟩
        · cases g4
      · cases g2
    · exact ih (fun q hq => hF q (List.mem_cons_of_mem _ hq)) h2
theorem beq_iff (a b : Nat) : Nat.beq a b = true ↔ a = b := ⟨Nat.eq_of_beq_eq_true, fun h => by rw [h]; exact Nat.beq_refl b⟩
theorem mm_cmp_t (c a b : Nat) : mm_cmp c a b = true ↔ cmpP c (nI a) (nI b) := by
  rcases c with _ | _ | _ | _ | _ | c
  · exact (beq_iff _ _).trans (nI_eqE a b).symm
  · show (!(Nat.beq (mm_e a) (mm_e b))) = true ↔ ¬ nI a = nI b
    rw [nI_eqE, Bool.not_eq_true', ← Bool.not_eq_true, beq_iff]
  · show Nat.blt (mm_o a) (mm_o b) = true ↔ nI a < nI b
    rw [nI_ltO, Nat.blt_eq]
  · show Nat.ble (mm_o b) (mm_o a) = true ↔ nI b ≤ nI a
    rw [nI_leO, Nat.ble_eq]
  · show Nat.blt (mm_o b) (mm_o a) = true ↔ nI b < nI a
    rw [nI_ltO, Nat.blt_eq]
  · show Nat.ble (mm_o a) (mm_o b) = true ↔ nI a ≤ nI b
    rw [nI_leO, Nat.ble_eq]
theorem nx_and (a b : Nat) : nI a &&& nI b = nI (a &&& b) := by
  apply Int32.toBitVec_inj.1
  show BitVec.ofNat 32 a &&& BitVec.ofNat 32 b = BitVec.ofNat 32 (a &&& b)
  apply BitVec.eq_of_getLsbD_eq
  intro i hi
  simp [hi, Nat.testBit_and]
theorem nx_or9 (a b : Nat) : nI a ||| nI b = nI (a ||| b) := by
  apply Int32.toBitVec_inj.1
  show BitVec.ofNat 32 a ||| BitVec.ofNat 32 b = BitVec.ofNat 32 (a ||| b)
  apply BitVec.eq_of_getLsbD_eq
  intro i hi
  simp [hi, Nat.testBit_or]
theorem nx_xor9 (a b : Nat) : nI a ^^^ nI b = nI (a ^^^ b) := by
  apply Int32.toBitVec_inj.1
  show BitVec.ofNat 32 a ^^^ BitVec.ofNat 32 b = BitVec.ofNat 32 (a ^^^ b)
  apply BitVec.eq_of_getLsbD_eq
  intro i hi
  simp [hi, Nat.testBit_xor]
end
section
/-! A ROW A HANDLER: where the handler says true, the machine goes on as it should -/
section SND
variable {p : Program} {l : Launch} {e : Env} {R : Room} {s : State} {m : MethodId} {args : Array Value} {below : List Frame} {meth : Method} {c : Code} {Q : State → Prop}
variable {cc : ByteArray} {d : mD} {E : mE} {nL pc : Nat} {F : mF} {cO : mA → Prop} {kO : mK → Prop} {pcs : Nat → Nat}
theorem s_iconst (hx : p.tables.exec = Jvm.exec) (hb : c.code = cc) {z : Int} {k : Nat} (hd : decode cc pc = .ok (.iconst z, 1)) (hv : Int32.ofInt z = nI k) : HS (OKs p l e R s m args below meth c Q d E nL) F cO kO pcs pc (h_const k) (pc + 1) := by
  intro call j K nx L S h hcall hj hK hn hi ls H locs cells slots hl hH
  exact lv_iconst hx hb hd hv (hn _ _ _ hi ls H locs cells slots hl hH)
theorem s_bipush (hx : p.tables.exec = Jvm.exec) (hb : c.code = cc) {z : Int} {k : Nat} (hd : decode cc pc = .ok (.bipush z, 2)) (hv : (Int8.ofInt z).toInt32 = nI k) : HS (OKs p l e R s m args below meth c Q d E nL) F cO kO pcs pc (h_const k) (pc + 2) := by
  intro call j K nx L S h hcall hj hK hn hi ls H locs cells slots hl hH
  exact lv_bipush hx hb hd hv (hn _ _ _ hi ls H locs cells slots hl hH)
theorem s_sipush (hx : p.tables.exec = Jvm.exec) (hb : c.code = cc) {z : Int} {k : Nat} (hd : decode cc pc = .ok (.sipush z, 3)) (hv : (Int16.ofInt z).toInt32 = nI k) : HS (OKs p l e R s m args below meth c Q d E nL) F cO kO pcs pc (h_const k) (pc + 3) := by
  intro call j K nx L S h hcall hj hK hn hi ls H locs cells slots hl hH
  exact lv_sipush hx hb hd hv (hn _ _ _ hi ls H locs cells slots hl hH)
theorem s_lconst (hx : p.tables.exec = Jvm.exec) (hb : c.code = cc) {z : Fin 2} {k : Nat} (hd : decode cc pc = .ok (.lconst z, 1)) (hv : Int64.ofNat (z : Nat) = lN k) : HS (OKs p l e R s m args below meth c Q d E nL) F cO kO pcs pc (h_lconst k) (pc + 1) := by
  intro call j K nx L S h hcall hj hK hn hi ls H locs cells slots hl hH
  exact lv_lconst hx hb hd hv (hn _ _ _ hi ls H locs cells slots hl hH)
theorem s_ldc2 (hx : p.tables.exec = Jvm.exec) (hb : c.code = cc) {own : String} {index k : Nat} (hown : s.vm.findClass own = some m.cls) (hc : (Jvm.Cond.constantLong own index (lN k)).before args s = true) (hd : decode cc pc = .ok (.ldc2_w index, 3)) : HS (OKs p l e R s m args below meth c Q d E nL) F cO kO pcs pc (h_lconst k) (pc + 3) := by
  intro call j K nx L S h hcall hj hK hn hi ls H locs cells slots hl hH
  exact lv_ldc2 hx hb hown hc hd (hn _ _ _ hi ls H locs cells slots hl hH)
theorem s_ldcw (hx : p.tables.exec = Jvm.exec) (hb : c.code = cc) {own : String} {index k : Nat} (hown : s.vm.findClass own = some m.cls) (hc : (Jvm.Cond.constant own index (nI k)).before args s = true) (hd : decode cc pc = .ok (.ldc_w index, 3)) : HS (OKs p l e R s m args below meth c Q d E nL) F cO kO pcs pc (h_const k) (pc + 3) := by
  intro call j K nx L S h hcall hj hK hn hi ls H locs cells slots hl hH
  exact lv_ldcw hx hb hown hc hd (hn _ _ _ hi ls H locs cells slots hl hH)
theorem s_iload_n (hx : p.tables.exec = Jvm.exec) (hb : c.code = cc) {k : Fin 4} {i : Nat} (hd : decode cc pc = .ok (.iload_n k, 1)) (hk : (k : Nat) = i) : HS (OKs p l e R s m args below meth c Q d E nL) F cO kO pcs pc (h_iload i) (pc + 1) := by
  intro call j K nx L S h hcall hj hK hn hi ls H locs cells slots hl hH
  obtain ⟨o, ho, hi⟩ := mm_n_s hi
  cases o with
  | none => cases hi
  | some v =>
    obtain ⟨⟨x, hxv⟩, hi⟩ := mm_ci_s d hi
    have hg := lvo_get hl ho
    rw [hxv] at hg
    have k9 := hn _ _ _ hi ls H locs cells slots hl hH
    rw [List.map_cons, hxv] at k9
    exact lv_iload_n hx hb hd hk hg k9
theorem s_iload (hx : p.tables.exec = Jvm.exec) (hb : c.code = cc) {i : Nat} (hd : decode cc pc = .ok (.iload i, 2)) : HS (OKs p l e R s m args below meth c Q d E nL) F cO kO pcs pc (h_iload i) (pc + 2) := by
  intro call j K nx L S h hcall hj hK hn hi ls H locs cells slots hl hH
  obtain ⟨o, ho, hi⟩ := mm_n_s hi
  cases o with
  | none => cases hi
  | some v =>
    obtain ⟨⟨x, hxv⟩, hi⟩ := mm_ci_s d hi
    have hg := lvo_get hl ho
    rw [hxv] at hg
    have k9 := hn _ _ _ hi ls H locs cells slots hl hH
    rw [List.map_cons, hxv] at k9
    exact lv_iload hx hb hd hg k9
theorem s_lload_n (hx : p.tables.exec = Jvm.exec) (hb : c.code = cc) {k : Fin 4} {i : Nat} (hd : decode cc pc = .ok (.lload_n k, 1)) (hk : (k : Nat) = i) : HS (OKs p l e R s m args below meth c Q d E nL) F cO kO pcs pc (h_lload i) (pc + 1) := by
  intro call j K nx L S h hcall hj hK hn hi ls H locs cells slots hl hH
  obtain ⟨o, ho, hi⟩ := mm_n_s hi
  cases o with
  | none => cases hi
  | some v =>
    obtain ⟨⟨x, hxv⟩, hi⟩ := mm_cl_s d hi
    have hg := lvo_get hl ho
    rw [hxv] at hg
    have k9 := hn _ _ _ hi ls H locs cells slots hl hH
    rw [List.map_cons, hxv] at k9
    exact lv_lload_n hx hb hd hk hg k9
theorem s_lload (hx : p.tables.exec = Jvm.exec) (hb : c.code = cc) {i : Nat} (hd : decode cc pc = .ok (.lload i, 2)) : HS (OKs p l e R s m args below meth c Q d E nL) F cO kO pcs pc (h_lload i) (pc + 2) := by
  intro call j K nx L S h hcall hj hK hn hi ls H locs cells slots hl hH
  obtain ⟨o, ho, hi⟩ := mm_n_s hi
  cases o with
  | none => cases hi
  | some v =>
    obtain ⟨⟨x, hxv⟩, hi⟩ := mm_cl_s d hi
    have hg := lvo_get hl ho
    rw [hxv] at hg
    have k9 := hn _ _ _ hi ls H locs cells slots hl hH
    rw [List.map_cons, hxv] at k9
    exact lv_lload hx hb hd hg k9
theorem s_aload_n (hx : p.tables.exec = Jvm.exec) (hb : c.code = cc) {k : Fin 4} {i : Nat} (hd : decode cc pc = .ok (.aload_n k, 1)) (hk : (k : Nat) = i) : HS (OKs p l e R s m args below meth c Q d E nL) F cO kO pcs pc (h_aload i) (pc + 1) := by
  intro call j K nx L S h hcall hj hK hn hi ls H locs cells slots hl hH
  obtain ⟨o, ho, hi⟩ := mm_n_s hi
  cases o with
  | none => cases hi
  | some v =>
    obtain ⟨a, e9, hi9⟩ := mm_r_s hi
    clear hi
    subst e9
    have hi := hi9
    clear hi9
    exact lv_aload_n hx hb hd hk (lvo_get hl ho) (hn _ _ _ hi ls H locs cells slots hl hH)
theorem s_istore_n (hx : p.tables.exec = Jvm.exec) (hb : c.code = cc) {k : Fin 4} {i : Nat} (hd : decode cc pc = .ok (.istore_n k, 1)) (hk : (k : Nat) = i) (hin : i < nL) : HS (OKs p l e R s m args below meth c Q d E nL) F cO kO pcs pc (h_istore i) (pc + 1) := by
  intro call j K nx L S h hcall hj hK hn hi ls H locs cells slots hl hH
  obtain ⟨v, S, e9, hi9⟩ := mm_p_s hi
  clear hi
  subst e9
  have hi := hi9
  clear hi9
  obtain ⟨⟨x, hxv⟩, hi⟩ := mm_ci_s d hi
  obtain ⟨h1, h2, h3⟩ := mm_ls_s d hi
  rw [List.map_cons, hxv]
  refine lv_istore_n hx hb hd hk hl hin rfl (fun ls' hl' => hn _ _ _ h2 ls' H locs cells slots (lvo_put h1 h3 ?_) hH)
  rw [hxv]
  exact hl'
theorem s_lstore_n (hx : p.tables.exec = Jvm.exec) (hb : c.code = cc) {k : Fin 4} {i : Nat} (hd : decode cc pc = .ok (.lstore_n k, 1)) (hk : (k : Nat) = i) (hin : i + 1 < nL) : HS (OKs p l e R s m args below meth c Q d E nL) F cO kO pcs pc (h_lstore i) (pc + 1) := by
  intro call j K nx L S h hcall hj hK hn hi ls H locs cells slots hl hH
  obtain ⟨v, S, e9, hi9⟩ := mm_p_s hi
  clear hi
  subst e9
  have hi := hi9
  clear hi9
  obtain ⟨⟨x, hxv⟩, hi⟩ := mm_cl_s d hi
  obtain ⟨h1, h2, h3⟩ := mm_ls_s d hi
  obtain ⟨h4, h5⟩ := mm_u_s h2
  rw [List.length_set] at h4
  rw [List.map_cons, hxv]
  refine lv_lstore_n hx hb hd hk hl hin rfl (fun ls' hl' => hn _ _ _ h5 ls' H locs cells slots (lvo_put2 h4 h3 ?_) hH)
  rw [hxv]
  exact hl'
theorem s_istore (hx : p.tables.exec = Jvm.exec) (hb : c.code = cc) {i : Nat} (hd : decode cc pc = .ok (.istore i, 2)) (hin : i < nL) : HS (OKs p l e R s m args below meth c Q d E nL) F cO kO pcs pc (h_istore i) (pc + 2) := by
  intro call j K nx L S h hcall hj hK hn hi ls H locs cells slots hl hH
  obtain ⟨v, S, e9, hi9⟩ := mm_p_s hi
  clear hi
  subst e9
  have hi := hi9
  clear hi9
  obtain ⟨⟨x, hxv⟩, hi⟩ := mm_ci_s d hi
  obtain ⟨h1, h2, h3⟩ := mm_ls_s d hi
  rw [List.map_cons, hxv]
  refine lv_istore hx hb hd hl hin rfl (fun ls' hl' => hn _ _ _ h2 ls' H locs cells slots (lvo_put h1 h3 ?_) hH)
  rw [hxv]
  exact hl'
theorem s_lstore (hx : p.tables.exec = Jvm.exec) (hb : c.code = cc) {i : Nat} (hd : decode cc pc = .ok (.lstore i, 2)) (hin : i + 1 < nL) : HS (OKs p l e R s m args below meth c Q d E nL) F cO kO pcs pc (h_lstore i) (pc + 2) := by
  intro call j K nx L S h hcall hj hK hn hi ls H locs cells slots hl hH
  obtain ⟨v, S, e9, hi9⟩ := mm_p_s hi
  clear hi
  subst e9
  have hi := hi9
  clear hi9
  obtain ⟨⟨x, hxv⟩, hi⟩ := mm_cl_s d hi
  obtain ⟨h1, h2, h3⟩ := mm_ls_s d hi
  obtain ⟨h4, h5⟩ := mm_u_s h2
  rw [List.length_set] at h4
  rw [List.map_cons, hxv]
  refine lv_lstore hx hb hd hl hin rfl (fun ls' hl' => hn _ _ _ h5 ls' H locs cells slots (lvo_put2 h4 h3 ?_) hH)
  rw [hxv]
  exact hl'
theorem s_astore_n (hx : p.tables.exec = Jvm.exec) (hb : c.code = cc) {k : Fin 4} {i : Nat} (hd : decode cc pc = .ok (.astore_n k, 1)) (hk : (k : Nat) = i) (hin : i < nL) : HS (OKs p l e R s m args below meth c Q d E nL) F cO kO pcs pc (h_astore i) (pc + 1) := by
  intro call j K nx L S h hcall hj hK hn hi ls H locs cells slots hl hH
  obtain ⟨v, S, e9, hi9⟩ := mm_p_s hi
  clear hi
  subst e9
  have hi := hi9
  clear hi9
  obtain ⟨a, e9, hi9⟩ := mm_r_s hi
  clear hi
  subst e9
  have hi := hi9
  clear hi9
  obtain ⟨h1, h2, h3⟩ := mm_ls_s d hi
  exact lv_astore_n hx hb hd hk hl hin rfl (fun ls' hl' => hn _ _ _ h2 ls' H locs cells slots (lvo_put h1 h3 hl') hH)
theorem s_iinc (hx : p.tables.exec = Jvm.exec) (hb : c.code = cc) {i k : Nat} {z : Int} (hd : decode cc pc = .ok (.iinc i z, 3)) (hz : Int32.ofInt z = nI k) (hin : i < nL) : HS (OKs p l e R s m args below meth c Q d E nL) F cO kO pcs pc (h_iinc i k) (pc + 3) := by
  intro call j K nx L S h hcall hj hK hn hi ls H locs cells slots hl hH
  obtain ⟨o, ho, hi⟩ := mm_n_s hi
  cases o with
  | none => cases hi
  | some v =>
    rcases mm_i_s hi with ⟨a, e9, hi9⟩ | hi9
    · clear hi
      subst e9
      have hi := hi9
      clear hi9
      obtain ⟨h1, h2, h3⟩ := mm_ls_s d (mm_f_s hi)
      obtain ⟨j9, hj9⟩ := List.getElem?_of_mem (lvo_mem.mpr ⟨i, .inl a, ho, rfl⟩ : (0 + i, dn d (.inl a)) ∈ lvo d 0 L)
      rw [Nat.zero_add] at hj9
      exact lv_iinc (x := nI a) (v := nI (Nat.mod (Nat.add a k) 4294967296)) hx hb hd hl hj9 (by rw [hz, nI_md]; exact nI_add a k) hin rfl (fun ls' hl' => hn _ _ _ h2 ls' H locs cells slots (lvo_put h1 h3 hl') hH)
    · clear hi
      have hi := hi9
      clear hi9
      cases hi
theorem s_iadd (hx : p.tables.exec = Jvm.exec) (hb : c.code = cc) (hd : decode cc pc = .ok (.iadd, 1)) : HS (OKs p l e R s m args below meth c Q d E nL) F cO kO pcs pc h_iadd (pc + 1) := by
  intro call j K nx L S h hcall hj hK hn hi ls H locs cells slots hl hH
  obtain ⟨y, S, e9, hi9⟩ := mm_p_s hi
  clear hi
  subst e9
  have hi := hi9
  clear hi9
  obtain ⟨x, S, e9, hi9⟩ := mm_p_s hi
  clear hi
  subst e9
  have hi := hi9
  clear hi9
  rcases mm_i_s hi with ⟨b, e9, hi9⟩ | hi9
  · clear hi
    subst e9
    have hi := hi9
    clear hi9
    rcases mm_i_s hi with ⟨a, e9, hi9⟩ | hi9
    · clear hi
      subst e9
      have hi := hi9
      clear hi9
      have k9 := hn _ _ _ (mm_f_s hi) ls H locs cells slots hl hH
      rw [List.map_cons, show dn d (.inl _) = Value.int _ from rfl, nI_md, show Nat.add a b = a + b from rfl, ← nI_add] at k9
      exact lv_iadd hx hb hd k9
    · clear hi
      have hi := hi9
      clear hi9
      cases hi
  · clear hi
    have hi := hi9
    clear hi9
    cases hi
theorem s_isub (hx : p.tables.exec = Jvm.exec) (hb : c.code = cc) (hd : decode cc pc = .ok (.isub, 1)) : HS (OKs p l e R s m args below meth c Q d E nL) F cO kO pcs pc h_isub (pc + 1) := by
  intro call j K nx L S h hcall hj hK hn hi ls H locs cells slots hl hH
  obtain ⟨y, S, e9, hi9⟩ := mm_p_s hi
  clear hi
  subst e9
  have hi := hi9
  clear hi9
  obtain ⟨x, S, e9, hi9⟩ := mm_p_s hi
  clear hi
  subst e9
  have hi := hi9
  clear hi9
  rcases mm_i_s hi with ⟨b, e9, hi9⟩ | hi9
  · clear hi
    subst e9
    have hi := hi9
    clear hi9
    rcases mm_i_s hi with ⟨a, e9, hi9⟩ | hi9
    · clear hi
      subst e9
      have hi := hi9
      clear hi9
      have k9 := hn _ _ _ (mm_f_s hi) ls H locs cells slots hl hH
      rw [List.map_cons, show dn d (.inl _) = Value.int _ from rfl, ← nI_subE] at k9
      exact lv_isub hx hb hd k9
    · clear hi
      have hi := hi9
      clear hi9
      cases hi
  · clear hi
    have hi := hi9
    clear hi9
    cases hi
theorem s_imul (hx : p.tables.exec = Jvm.exec) (hb : c.code = cc) (hd : decode cc pc = .ok (.imul, 1)) (hF : FOK d F) : HS (OKs p l e R s m args below meth c Q d E nL) F cO kO pcs pc h_imul (pc + 1) := by
  intro call j K nx L S h hcall hj hK hn hi ls H locs cells slots hl hH
  obtain ⟨y, S, e9, hi9⟩ := mm_p_s hi
  clear hi
  subst e9
  have hi := hi9
  clear hi9
  obtain ⟨x, S, e9, hi9⟩ := mm_p_s hi
  clear hi
  subst e9
  have hi := hi9
  clear hi9
  rcases mm_i_s hi with ⟨b, e9, hi9⟩ | hi9
  · clear hi
    subst e9
    have hi := hi9
    clear hi9
    rcases mm_i_s hi with ⟨a, e9, hi9⟩ | hi9
    · clear hi
      subst e9
      have hi := hi9
      clear hi9
      have k9 := hn _ _ _ (mm_f_s hi) ls H locs cells slots hl hH
      rw [List.map_cons, show dn d (.inl _) = Value.int _ from rfl, nI_md, show Nat.mul a b = a * b from rfl, ← pk_mul] at k9
      exact lv_imul hx hb hd k9
    · clear hi
      have hi := hi9
      clear hi9
      obtain ⟨r, ⟨x', y', e1, e2, e3⟩, -, hi⟩ := mm_k_s hF hi
      have k9 := hn _ _ _ hi ls H locs cells slots hl hH
      rw [List.map_cons, e3] at k9
      rw [List.map_cons, List.map_cons, e1, e2]
      exact lv_imul hx hb hd k9
  · clear hi
    have hi := hi9
    clear hi9
    obtain ⟨r, ⟨x', y', e1, e2, e3⟩, -, hi⟩ := mm_k_s hF hi
    have k9 := hn _ _ _ hi ls H locs cells slots hl hH
    rw [List.map_cons, e3] at k9
    rw [List.map_cons, List.map_cons, e1, e2]
    exact lv_imul hx hb hd k9
theorem s_iand (hx : p.tables.exec = Jvm.exec) (hb : c.code = cc) (hd : decode cc pc = .ok (.iand, 1)) : HS (OKs p l e R s m args below meth c Q d E nL) F cO kO pcs pc h_iand (pc + 1) := by
  intro call j K nx L S h hcall hj hK hn hi ls H locs cells slots hl hH
  obtain ⟨y, S, e9, hi9⟩ := mm_p_s hi
  clear hi
  subst e9
  have hi := hi9
  clear hi9
  obtain ⟨x, S, e9, hi9⟩ := mm_p_s hi
  clear hi
  subst e9
  have hi := hi9
  clear hi9
  rcases mm_i_s hi with ⟨b, e9, hi9⟩ | hi9
  · clear hi
    subst e9
    have hi := hi9
    clear hi9
    rcases mm_i_s hi with ⟨a, e9, hi9⟩ | hi9
    · clear hi
      subst e9
      have hi := hi9
      clear hi9
      have k9 := hn _ _ _ (mm_f_s hi) ls H locs cells slots hl hH
      rw [List.map_cons, show dn d (.inl _) = Value.int _ from rfl, show Nat.land a b = a &&& b from rfl, ← nx_and] at k9
      exact lv_iand hx hb hd k9
    · clear hi
      have hi := hi9
      clear hi9
      cases hi
  · clear hi
    have hi := hi9
    clear hi9
    cases hi
theorem s_ior (hx : p.tables.exec = Jvm.exec) (hb : c.code = cc) (hd : decode cc pc = .ok (.ior, 1)) : HS (OKs p l e R s m args below meth c Q d E nL) F cO kO pcs pc h_ior (pc + 1) := by
  intro call j K nx L S h hcall hj hK hn hi ls H locs cells slots hl hH
  obtain ⟨y, S, e9, hi9⟩ := mm_p_s hi
  clear hi
  subst e9
  have hi := hi9
  clear hi9
  obtain ⟨x, S, e9, hi9⟩ := mm_p_s hi
  clear hi
  subst e9
  have hi := hi9
  clear hi9
  rcases mm_i_s hi with ⟨b, e9, hi9⟩ | hi9
  · clear hi
    subst e9
    have hi := hi9
    clear hi9
    rcases mm_i_s hi with ⟨a, e9, hi9⟩ | hi9
    · clear hi
      subst e9
      have hi := hi9
      clear hi9
      have k9 := hn _ _ _ (mm_f_s hi) ls H locs cells slots hl hH
      rw [List.map_cons, show dn d (.inl _) = Value.int _ from rfl, show Nat.lor a b = a ||| b from rfl, ← nx_or9] at k9
      exact lv_ior hx hb hd k9
    · clear hi
      have hi := hi9
      clear hi9
      cases hi
  · clear hi
    have hi := hi9
    clear hi9
    cases hi
theorem s_ixor (hx : p.tables.exec = Jvm.exec) (hb : c.code = cc) (hd : decode cc pc = .ok (.ixor, 1)) : HS (OKs p l e R s m args below meth c Q d E nL) F cO kO pcs pc h_ixor (pc + 1) := by
  intro call j K nx L S h hcall hj hK hn hi ls H locs cells slots hl hH
  obtain ⟨y, S, e9, hi9⟩ := mm_p_s hi
  clear hi
  subst e9
  have hi := hi9
  clear hi9
  obtain ⟨x, S, e9, hi9⟩ := mm_p_s hi
  clear hi
  subst e9
  have hi := hi9
  clear hi9
  rcases mm_i_s hi with ⟨b, e9, hi9⟩ | hi9
  · clear hi
    subst e9
    have hi := hi9
    clear hi9
    rcases mm_i_s hi with ⟨a, e9, hi9⟩ | hi9
    · clear hi
      subst e9
      have hi := hi9
      clear hi9
      have k9 := hn _ _ _ (mm_f_s hi) ls H locs cells slots hl hH
      rw [List.map_cons, show dn d (.inl _) = Value.int _ from rfl, show Nat.xor a b = a ^^^ b from rfl, ← nx_xor9] at k9
      exact lv_ixor hx hb hd k9
    · clear hi
      have hi := hi9
      clear hi9
      cases hi
  · clear hi
    have hi := hi9
    clear hi9
    cases hi
end SND
end
section
/-! more rows, a row a handler -/
theorem s_l9 : ∀ n, n < 32 → ((nI n &&& 31).toBitVec.smod 32).toNat = n := by decide +kernel
theorem s_u9 : ∀ n, n < 32 → (((nI n).toUInt32 &&& Int32.toUInt32 31).toBitVec % 32).toNat = n := by decide +kernel
theorem tn_nI (a : Nat) : (nI a).toBitVec.toNat = a % 4294967296 := by
  show (BitVec.ofNat 32 a).toNat = _
  rw [BitVec.toNat_ofNat]
theorem nI_shl (a b : Nat) (h : b ≤ 31) : nI a <<< (nI b &&& 31) = nI (Nat.mod (Nat.shiftLeft a b) 4294967296) := by
  apply Int32.toBitVec_inj.1
  apply BitVec.eq_of_toNat_eq
  rw [pk_shl _ _ b (s_l9 b (by omega)), tn_nI, tn_nI]
  show a % 4294967296 * 2 ^ b % 4294967296 = (a <<< b) % 4294967296 % 4294967296
  rw [Nat.shiftLeft_eq, Nat.mod_mod, Nat.mod_mul_mod]
theorem nI_shr (a b : Nat) (h : b ≤ 31) (ha : a ≤ 2147483647) : nI a >>> (nI b &&& 31) = nI (Nat.shiftRight a b) := by
  rw [pk_shrN (by omega) _ b (s_l9 b (by omega))]
  show _ = nI (a >>> b)
  rw [Nat.shiftRight_eq_div_pow]
theorem nI_ushr (a b : Nat) (h : b ≤ 31) (ha : a ≤ 4294967295) : ((nI a).toUInt32 >>> ((nI b).toUInt32 &&& Int32.toUInt32 31)).toInt32 = nI (Nat.shiftRight a b) := by
  rw [pk_ushrN (by omega) _ b (s_u9 b (by omega))]
  show _ = nI (a >>> b)
  rw [Nat.shiftRight_eq_div_pow]
theorem nI_i2c (a : Nat) : ((nI a).toUInt32 % 65536).toInt32 = nI (Nat.mod a 65536) := by
  rw [pk_char, tn_nI]
  show nI (a % 4294967296 % 65536) = nI (a % 65536)
  rw [Nat.mod_mod_of_dvd _ (by decide)]
section SND
variable {p : Program} {l : Launch} {e : Env} {R : Room} {s : State} {m : MethodId} {args : Array Value} {below : List Frame} {meth : Method} {c : Code} {Q : State → Prop}
variable {cc : ByteArray} {d : mD} {E : mE} {nL pc : Nat} {F : mF} {cO : mA → Prop} {kO : mK → Prop} {pcs : Nat → Nat}
theorem s_irem (hx : p.tables.exec = Jvm.exec) (hb : c.code = cc) (hd : decode cc pc = .ok (.irem, 1)) (hF : FOK d F) : HS (OKs p l e R s m args below meth c Q d E nL) F cO kO pcs pc h_irem (pc + 1) := by
  intro call j K nx L S h hcall hj hK hn hi ls H locs cells slots hl hH
  obtain ⟨y, S, e9, hi9⟩ := mm_p_s hi
  clear hi
  subst e9
  have hi := hi9
  clear hi9
  obtain ⟨x, S, e9, hi9⟩ := mm_p_s hi
  clear hi
  subst e9
  have hi := hi9
  clear hi9
  rcases mm_i_s hi with ⟨b, e9, hi9⟩ | hi9
  · clear hi
    subst e9
    have hi := hi9
    clear hi9
    rcases mm_i_s hi with ⟨a, e9, hi9⟩ | hi9
    · clear hi
      subst e9
      have hi := hi9
      clear hi9
      obtain ⟨g1, hi⟩ := mm_b_s hi
      obtain ⟨g2, hi⟩ := mm_b_s hi
      obtain ⟨g3, hi⟩ := mm_b_s hi
      have g1 := Nat.le_of_ble_eq_true g1
      have g2 := Nat.le_of_ble_eq_true g2
      have g3 := Nat.le_of_ble_eq_true g3
      have k9 := hn _ _ _ (mm_f_s hi) ls H locs cells slots hl hH
      rw [List.map_cons, show dn d (.inl _) = Value.int _ from rfl, show Nat.mod a b = a % b from rfl, ← pk_rem (by omega) (by omega) (by omega)] at k9
      exact lv_irem hx hb hd (nI_ne0 (by omega) (by omega)) k9
    · clear hi
      have hi := hi9
      clear hi9
      obtain ⟨r, ⟨x', y', e1, e2, e4, e3⟩, -, hi⟩ := mm_k_s hF hi
      have k9 := hn _ _ _ hi ls H locs cells slots hl hH
      rw [List.map_cons, e3] at k9
      rw [List.map_cons, List.map_cons, e1, e2]
      exact lv_irem hx hb hd e4 k9
  · clear hi
    have hi := hi9
    clear hi9
    cases hi
theorem s_ishl (hx : p.tables.exec = Jvm.exec) (hb : c.code = cc) (hd : decode cc pc = .ok (.ishl, 1)) : HS (OKs p l e R s m args below meth c Q d E nL) F cO kO pcs pc h_ishl (pc + 1) := by
  intro call j K nx L S h hcall hj hK hn hi ls H locs cells slots hl hH
  obtain ⟨y, S, e9, hi9⟩ := mm_p_s hi
  clear hi
  subst e9
  have hi := hi9
  clear hi9
  obtain ⟨x, S, e9, hi9⟩ := mm_p_s hi
  clear hi
  subst e9
  have hi := hi9
  clear hi9
  rcases mm_i_s hi with ⟨b, e9, hi9⟩ | hi9
  · clear hi
    subst e9
    have hi := hi9
    clear hi9
    rcases mm_i_s hi with ⟨a, e9, hi9⟩ | hi9
    · clear hi
      subst e9
      have hi := hi9
      clear hi9
      obtain ⟨g1, hi⟩ := mm_b_s hi
      have k9 := hn _ _ _ (mm_f_s hi) ls H locs cells slots hl hH
      rw [List.map_cons, show dn d (.inl _) = Value.int _ from rfl, ← nI_shl a b (Nat.le_of_ble_eq_true g1)] at k9
      exact lv_ishl hx hb hd k9
    · clear hi
      have hi := hi9
      clear hi9
      cases hi
  · clear hi
    have hi := hi9
    clear hi9
    cases hi
theorem s_ishr (hx : p.tables.exec = Jvm.exec) (hb : c.code = cc) (hd : decode cc pc = .ok (.ishr, 1)) : HS (OKs p l e R s m args below meth c Q d E nL) F cO kO pcs pc h_ishr (pc + 1) := by
  intro call j K nx L S h hcall hj hK hn hi ls H locs cells slots hl hH
  obtain ⟨y, S, e9, hi9⟩ := mm_p_s hi
  clear hi
  subst e9
  have hi := hi9
  clear hi9
  obtain ⟨x, S, e9, hi9⟩ := mm_p_s hi
  clear hi
  subst e9
  have hi := hi9
  clear hi9
  rcases mm_i_s hi with ⟨b, e9, hi9⟩ | hi9
  · clear hi
    subst e9
    have hi := hi9
    clear hi9
    rcases mm_i_s hi with ⟨a, e9, hi9⟩ | hi9
    · clear hi
      subst e9
      have hi := hi9
      clear hi9
      obtain ⟨g1, hi⟩ := mm_b_s hi
      obtain ⟨g2, hi⟩ := mm_b_s hi
      have k9 := hn _ _ _ (mm_f_s hi) ls H locs cells slots hl hH
      rw [List.map_cons, show dn d (.inl _) = Value.int _ from rfl, ← nI_shr a b (Nat.le_of_ble_eq_true g1) (Nat.le_of_ble_eq_true g2)] at k9
      exact lv_ishr hx hb hd k9
    · clear hi
      have hi := hi9
      clear hi9
      cases hi
  · clear hi
    have hi := hi9
    clear hi9
    cases hi
theorem s_iushr (hx : p.tables.exec = Jvm.exec) (hb : c.code = cc) (hd : decode cc pc = .ok (.iushr, 1)) : HS (OKs p l e R s m args below meth c Q d E nL) F cO kO pcs pc h_iushr (pc + 1) := by
  intro call j K nx L S h hcall hj hK hn hi ls H locs cells slots hl hH
  obtain ⟨y, S, e9, hi9⟩ := mm_p_s hi
  clear hi
  subst e9
  have hi := hi9
  clear hi9
  obtain ⟨x, S, e9, hi9⟩ := mm_p_s hi
  clear hi
  subst e9
  have hi := hi9
  clear hi9
  rcases mm_i_s hi with ⟨b, e9, hi9⟩ | hi9
  · clear hi
    subst e9
    have hi := hi9
    clear hi9
    rcases mm_i_s hi with ⟨a, e9, hi9⟩ | hi9
    · clear hi
      subst e9
      have hi := hi9
      clear hi9
      obtain ⟨g1, hi⟩ := mm_b_s hi
      obtain ⟨g2, hi⟩ := mm_b_s hi
      have k9 := hn _ _ _ (mm_f_s hi) ls H locs cells slots hl hH
      exact lv_iushr hx hb hd (nI_ushr a b (Nat.le_of_ble_eq_true g1) (Nat.le_of_ble_eq_true g2)) k9
    · clear hi
      have hi := hi9
      clear hi9
      cases hi
  · clear hi
    have hi := hi9
    clear hi9
    cases hi
theorem s_i2c (hx : p.tables.exec = Jvm.exec) (hb : c.code = cc) (hd : decode cc pc = .ok (.i2c, 1)) : HS (OKs p l e R s m args below meth c Q d E nL) F cO kO pcs pc h_i2c (pc + 1) := by
  intro call j K nx L S h hcall hj hK hn hi ls H locs cells slots hl hH
  obtain ⟨x, S, e9, hi9⟩ := mm_p_s hi
  clear hi
  subst e9
  have hi := hi9
  clear hi9
  rcases mm_i_s hi with ⟨a, e9, hi9⟩ | hi9
  · clear hi
    subst e9
    have hi := hi9
    clear hi9
    exact lv_i2c hx hb hd (nI_i2c a) (hn _ _ _ (mm_f_s hi) ls H locs cells slots hl hH)
  · clear hi
    have hi := hi9
    clear hi9
    cases hi
theorem s_i2l (hx : p.tables.exec = Jvm.exec) (hb : c.code = cc) (hd : decode cc pc = .ok (.i2l, 1)) (hF : FOK d F) : HS (OKs p l e R s m args below meth c Q d E nL) F cO kO pcs pc h_i2l (pc + 1) := by
  intro call j K nx L S h hcall hj hK hn hi ls H locs cells slots hl hH
  obtain ⟨x, S, e9, hi9⟩ := mm_p_s hi
  clear hi
  subst e9
  have hi := hi9
  clear hi9
  rcases mm_i_s hi with ⟨a, e9, hi9⟩ | hi9
  · clear hi
    subst e9
    have hi := hi9
    clear hi9
    obtain ⟨g1, hi⟩ := mm_b_s hi
    exact lv_i2l hx hb hd (nI_l (by have := Nat.le_of_ble_eq_true g1; omega)) (hn _ _ _ hi ls H locs cells slots hl hH)
  · clear hi
    have hi := hi9
    clear hi9
    obtain ⟨r, ⟨x', e1, e3⟩, -, hi⟩ := mm_k_s hF hi
    have k9 := hn _ _ _ hi ls H locs cells slots hl hH
    rw [List.map_cons, e3] at k9
    rw [List.map_cons, e1]
    exact lv_i2l hx hb hd rfl k9
theorem s_l2i (hx : p.tables.exec = Jvm.exec) (hb : c.code = cc) (hd : decode cc pc = .ok (.l2i, 1)) (hF : FOK d F) : HS (OKs p l e R s m args below meth c Q d E nL) F cO kO pcs pc h_l2i (pc + 1) := by
  intro call j K nx L S h hcall hj hK hn hi ls H locs cells slots hl hH
  obtain ⟨x, S, e9, hi9⟩ := mm_p_s hi
  clear hi
  subst e9
  have hi := hi9
  clear hi9
  rcases mm_l_s hi with ⟨a, e9, hi9⟩ | hi9
  · clear hi
    subst e9
    have hi := hi9
    clear hi9
    exact lv_l2i hx hb hd (by rw [nI_md]; exact lN_i a) (hn _ _ _ (mm_f_s hi) ls H locs cells slots hl hH)
  · clear hi
    have hi := hi9
    clear hi9
    obtain ⟨r, ⟨x', e1, e3⟩, -, hi⟩ := mm_k_s hF hi
    have k9 := hn _ _ _ hi ls H locs cells slots hl hH
    rw [List.map_cons, e3] at k9
    rw [List.map_cons, e1]
    exact lv_l2i hx hb hd rfl k9
theorem s_lmul (hx : p.tables.exec = Jvm.exec) (hb : c.code = cc) (hd : decode cc pc = .ok (.lmul, 1)) (hF : FOK d F) : HS (OKs p l e R s m args below meth c Q d E nL) F cO kO pcs pc h_lmul (pc + 1) := by
  intro call j K nx L S h hcall hj hK hn hi ls H locs cells slots hl hH
  obtain ⟨y, S, e9, hi9⟩ := mm_p_s hi
  clear hi
  subst e9
  have hi := hi9
  clear hi9
  obtain ⟨x, S, e9, hi9⟩ := mm_p_s hi
  clear hi
  subst e9
  have hi := hi9
  clear hi9
  rcases mm_l_s hi with ⟨b, e9, hi9⟩ | hi9
  · clear hi
    subst e9
    have hi := hi9
    clear hi9
    rcases mm_l_s hi with ⟨a, e9, hi9⟩ | hi9
    · clear hi
      subst e9
      have hi := hi9
      clear hi9
      have k9 := hn _ _ _ (mm_f_s hi) ls H locs cells slots hl hH
      rw [List.map_cons, show dn d (.inr (.inr (.inl _))) = Value.long _ from rfl, lN_md, show Nat.mul a b = a * b from rfl, ← lN_mul] at k9
      exact lv_lmul hx hb hd k9
    · clear hi
      have hi := hi9
      clear hi9
      obtain ⟨r, ⟨x', y', e1, e2, e3⟩, -, hi⟩ := mm_k_s hF hi
      have k9 := hn _ _ _ hi ls H locs cells slots hl hH
      rw [List.map_cons, e3] at k9
      rw [List.map_cons, List.map_cons, e1, e2]
      exact lv_lmul hx hb hd k9
  · clear hi
    have hi := hi9
    clear hi9
    obtain ⟨r, ⟨x', y', e1, e2, e3⟩, -, hi⟩ := mm_k_s hF hi
    have k9 := hn _ _ _ hi ls H locs cells slots hl hH
    rw [List.map_cons, e3] at k9
    rw [List.map_cons, List.map_cons, e1, e2]
    exact lv_lmul hx hb hd k9
theorem s_ladd (hx : p.tables.exec = Jvm.exec) (hb : c.code = cc) (hd : decode cc pc = .ok (.ladd, 1)) (hF : FOK d F) : HS (OKs p l e R s m args below meth c Q d E nL) F cO kO pcs pc h_ladd (pc + 1) := by
  intro call j K nx L S h hcall hj hK hn hi ls H locs cells slots hl hH
  obtain ⟨y, S, e9, hi9⟩ := mm_p_s hi
  clear hi
  subst e9
  have hi := hi9
  clear hi9
  obtain ⟨x, S, e9, hi9⟩ := mm_p_s hi
  clear hi
  subst e9
  have hi := hi9
  clear hi9
  rcases mm_l_s hi with ⟨b, e9, hi9⟩ | hi9
  · clear hi
    subst e9
    have hi := hi9
    clear hi9
    rcases mm_l_s hi with ⟨a, e9, hi9⟩ | hi9
    · clear hi
      subst e9
      have hi := hi9
      clear hi9
      have k9 := hn _ _ _ (mm_f_s hi) ls H locs cells slots hl hH
      rw [List.map_cons, show dn d (.inr (.inr (.inl _))) = Value.long _ from rfl, lN_md, show Nat.add a b = a + b from rfl, ← lN_add] at k9
      exact lv_ladd hx hb hd k9
    · clear hi
      have hi := hi9
      clear hi9
      obtain ⟨r, ⟨x', y', e1, e2, e3⟩, -, hi⟩ := mm_k_s hF hi
      have k9 := hn _ _ _ hi ls H locs cells slots hl hH
      rw [List.map_cons, e3] at k9
      rw [List.map_cons, List.map_cons, e1, e2]
      exact lv_ladd hx hb hd k9
  · clear hi
    have hi := hi9
    clear hi9
    obtain ⟨r, ⟨x', y', e1, e2, e3⟩, -, hi⟩ := mm_k_s hF hi
    have k9 := hn _ _ _ hi ls H locs cells slots hl hH
    rw [List.map_cons, e3] at k9
    rw [List.map_cons, List.map_cons, e1, e2]
    exact lv_ladd hx hb hd k9
theorem s_lrem (hx : p.tables.exec = Jvm.exec) (hb : c.code = cc) (hd : decode cc pc = .ok (.lrem, 1)) (hF : FOK d F) : HS (OKs p l e R s m args below meth c Q d E nL) F cO kO pcs pc h_lrem (pc + 1) := by
  intro call j K nx L S h hcall hj hK hn hi ls H locs cells slots hl hH
  obtain ⟨y, S, e9, hi9⟩ := mm_p_s hi
  clear hi
  subst e9
  have hi := hi9
  clear hi9
  obtain ⟨x, S, e9, hi9⟩ := mm_p_s hi
  clear hi
  subst e9
  have hi := hi9
  clear hi9
  obtain ⟨r, ⟨x', y', e1, e2, e4, e3⟩, -, hi⟩ := mm_k_s hF hi
  have k9 := hn _ _ _ hi ls H locs cells slots hl hH
  rw [List.map_cons, e3] at k9
  rw [List.map_cons, List.map_cons, e1, e2]
  exact lv_lrem hx hb hd e4 k9
theorem s_ldiv (hx : p.tables.exec = Jvm.exec) (hb : c.code = cc) (hd : decode cc pc = .ok (.ldiv, 1)) (hF : FOK d F) : HS (OKs p l e R s m args below meth c Q d E nL) F cO kO pcs pc h_ldiv (pc + 1) := by
  intro call j K nx L S h hcall hj hK hn hi ls H locs cells slots hl hH
  obtain ⟨y, S, e9, hi9⟩ := mm_p_s hi
  clear hi
  subst e9
  have hi := hi9
  clear hi9
  obtain ⟨x, S, e9, hi9⟩ := mm_p_s hi
  clear hi
  subst e9
  have hi := hi9
  clear hi9
  obtain ⟨r, ⟨x', y', e1, e2, e4, e3⟩, -, hi⟩ := mm_k_s hF hi
  have k9 := hn _ _ _ hi ls H locs cells slots hl hH
  rw [List.map_cons, e3] at k9
  rw [List.map_cons, List.map_cons, e1, e2]
  exact lv_ldiv hx hb hd e4 k9
theorem s_lcmp (hx : p.tables.exec = Jvm.exec) (hb : c.code = cc) (hd : decode cc pc = .ok (.lcmp, 1)) (hF : FOK d F) : HS (OKs p l e R s m args below meth c Q d E nL) F cO kO pcs pc h_lcmp (pc + 1) := by
  intro call j K nx L S h hcall hj hK hn hi ls H locs cells slots hl hH
  obtain ⟨y, S, e9, hi9⟩ := mm_p_s hi
  clear hi
  subst e9
  have hi := hi9
  clear hi9
  obtain ⟨x, S, e9, hi9⟩ := mm_p_s hi
  clear hi
  subst e9
  have hi := hi9
  clear hi9
  obtain ⟨r, ⟨x', y', e1, e2, e3⟩, -, hi⟩ := mm_k_s hF hi
  have k9 := hn _ _ _ hi ls H locs cells slots hl hH
  rw [List.map_cons, e3] at k9
  rw [List.map_cons, List.map_cons, e1, e2]
  exact W.lcmp hx hb hd k9
theorem s_dup (hx : p.tables.exec = Jvm.exec) (hb : c.code = cc) (hd : decode cc pc = .ok (.dup, 1)) : HS (OKs p l e R s m args below meth c Q d E nL) F cO kO pcs pc h_dup (pc + 1) := by
  intro call j K nx L S h hcall hj hK hn hi ls H locs cells slots hl hH
  obtain ⟨x, S, e9, hi9⟩ := mm_p_s hi
  clear hi
  subst e9
  have hi := hi9
  clear hi9
  obtain ⟨h1, hi⟩ := mm_c1_s d hi
  exact lv_dup hx hb hd h1 (hn _ _ _ hi ls H locs cells slots hl hH)
theorem s_dup2 (hx : p.tables.exec = Jvm.exec) (hb : c.code = cc) (hd : decode cc pc = .ok (.dup2, 1)) : HS (OKs p l e R s m args below meth c Q d E nL) F cO kO pcs pc h_dup2 (pc + 1) := by
  intro call j K nx L S h hcall hj hK hn hi ls H locs cells slots hl hH
  obtain ⟨y, S, e9, hi9⟩ := mm_p_s hi
  clear hi
  subst e9
  have hi := hi9
  clear hi9
  obtain ⟨x, S, e9, hi9⟩ := mm_p_s hi
  clear hi
  subst e9
  have hi := hi9
  clear hi9
  obtain ⟨h1, hi⟩ := mm_c1_s d hi
  obtain ⟨h2, hi⟩ := mm_c1_s d hi
  exact lv_dup2_11 hx hb hd h2 h1 (hn _ _ _ hi ls H locs cells slots hl hH)
theorem s_pop (hx : p.tables.exec = Jvm.exec) (hb : c.code = cc) (hd : decode cc pc = .ok (.pop, 1)) : HS (OKs p l e R s m args below meth c Q d E nL) F cO kO pcs pc h_pop (pc + 1) := by
  intro call j K nx L S h hcall hj hK hn hi ls H locs cells slots hl hH
  obtain ⟨x, S, e9, hi9⟩ := mm_p_s hi
  clear hi
  subst e9
  have hi := hi9
  clear hi9
  obtain ⟨h1, hi⟩ := mm_c1_s d hi
  exact lv_pop hx hb hd h1 (hn _ _ _ hi ls H locs cells slots hl hH)
theorem s_goto (hx : p.tables.exec = Jvm.exec) (hb : c.code = cc) {b pc' : Nat} (hd : decode cc pc = .ok (.goto ((pcs b : Int) - (pc : Int)), 3)) : HS (OKs p l e R s m args below meth c Q d E nL) F cO kO pcs pc (h_goto b) pc' := by
  intro call j K nx L S h hcall hj hK hn hi ls H locs cells slots hl hH
  exact lv_goto hx hb hd (by omega) (hj _ _ _ _ hi ls H locs cells slots hl hH)
theorem s_fall {b pc' : Nat} (he : pcs b = pc) : HS (OKs p l e R s m args below meth c Q d E nL) F cO kO pcs pc (h_goto b) pc' := by
  intro call j K nx L S h hcall hj hK hn hi ls H locs cells slots hl hH
  rw [← he]
  exact hj _ _ _ _ hi ls H locs cells slots hl hH
theorem s_bad {pc' : Nat} : HS (OKs p l e R s m args below meth c Q d E nL) F cO kO pcs pc h_bad pc' := by
  intro call j K nx L S h hcall hj hK hn hi ls H locs cells slots hl hH
  cases hi
theorem s_icmp_eq_sym (hx : p.tables.exec = Jvm.exec) (hb : c.code = cc) {b : Nat} (hd : decode cc pc = .ok (.if_icmp .eq ((pcs b : Int) - (pc : Int)), 3)) (hF : FOK d F) {j : Nat → mN} {nx : mN} {L : mL} {S : List mV} {h : mH} {x y : mV} (hj : ∀ b L S h, j b L S h = true → (OKs p l e R s m args below meth c Q d E nL) (pcs b) L S h) (hn : ∀ L S h, nx L S h = true → (OKs p l e R s m args below meth c Q d E nL) (pc + 3) L S h)
    (hi : mm_k F (Nat.add 10 0) x y (fun v => mm_i v (fun w => Nat.rec (motive := fun _ => Bool) (nx L S h) (fun _ _ => j b L S h) w) false) = true) : (OKs p l e R s m args below meth c Q d E nL) pc L (y :: x :: S) h := by
  intro ls H locs cells slots hl hH
  obtain ⟨r, ⟨x', y', e1, e2, e3⟩, e9, hi⟩ := mm_k_s (op := 10) hF hi
  rw [List.map_cons, List.map_cons, e1, e2]
  rcases e9 (by decide) with rfl | rfl
  · have e3 : ¬ cmpP 0 x' y' := by
      rcases e3 with ⟨-, q⟩ | ⟨q, -⟩
      · exact absurd (Value.int.inj q) (by decide)
      · exact q
    exact lv_icmp_eq (tgt := pcs b) hx hb hd (by omega) (fun q => absurd q e3) (fun _ => hn _ _ _ hi ls H locs cells slots hl hH)
  · have e3 : cmpP 0 x' y' := by
      rcases e3 with ⟨q, -⟩ | ⟨-, q⟩
      · exact q
      · exact absurd (Value.int.inj q) (by decide)
    exact lv_icmp_eq (tgt := pcs b) hx hb hd (by omega) (fun _ => hj _ _ _ _ hi ls H locs cells slots hl hH) (fun q => absurd e3 q)
theorem s_icmp_eq (hx : p.tables.exec = Jvm.exec) (hb : c.code = cc) {b' : Nat} (hd : decode cc pc = .ok (.if_icmp .eq ((pcs b' : Int) - (pc : Int)), 3)) (hF : FOK d F) : HS (OKs p l e R s m args below meth c Q d E nL) F cO kO pcs pc (h_icmp 0 b') (pc + 3) := by
  intro call j K nx L S h hcall hj hK hn hi ls H locs cells slots hl hH
  obtain ⟨y, S, e9, hi9⟩ := mm_p_s hi
  clear hi
  subst e9
  have hi := hi9
  clear hi9
  obtain ⟨x, S, e9, hi9⟩ := mm_p_s hi
  clear hi
  subst e9
  have hi := hi9
  clear hi9
  rcases mm_i_s hi with ⟨b, e9, hi9⟩ | hi9
  · clear hi
    subst e9
    have hi := hi9
    clear hi9
    rcases mm_i_s hi with ⟨a, e9, hi9⟩ | hi9
    · clear hi
      subst e9
      have hi := hi9
      clear hi9
      rcases mm_t_s hi with ⟨g, hi⟩ | ⟨g, hi⟩
      · have g9 := (mm_cmp_t 0 a b).mp g
        exact lv_icmp_eq (tgt := pcs b') hx hb hd (by omega) (fun _ => hj _ _ _ _ hi ls H locs cells slots hl hH) (fun q => absurd g9 q)
      · have g9 : ¬ cmpP 0 (nI a) (nI b) := fun q => by rw [(mm_cmp_t 0 a b).mpr q] at g; cases g
        exact lv_icmp_eq (tgt := pcs b') hx hb hd (by omega) (fun q => absurd q g9) (fun _ => hn _ _ _ hi ls H locs cells slots hl hH)
    · clear hi
      have hi := hi9
      clear hi9
      exact s_icmp_eq_sym hx hb hd hF hj hn hi ls H locs cells slots hl hH
  · clear hi
    have hi := hi9
    clear hi9
    exact s_icmp_eq_sym hx hb hd hF hj hn hi ls H locs cells slots hl hH
theorem s_if_eq_sym (hx : p.tables.exec = Jvm.exec) (hb : c.code = cc) {b : Nat} (hd : decode cc pc = .ok (.ifCond .eq ((pcs b : Int) - (pc : Int)), 3)) (hF : FOK d F) {j : Nat → mN} {nx : mN} {L : mL} {S : List mV} {h : mH} {x : mV} (hj : ∀ b L S h, j b L S h = true → (OKs p l e R s m args below meth c Q d E nL) (pcs b) L S h) (hn : ∀ L S h, nx L S h = true → (OKs p l e R s m args below meth c Q d E nL) (pc + 3) L S h)
    (hi : mm_k F (Nat.add 10 0) x (.inl 0) (fun v => mm_i v (fun w => Nat.rec (motive := fun _ => Bool) (nx L S h) (fun _ _ => j b L S h) w) false) = true) : (OKs p l e R s m args below meth c Q d E nL) pc L (x :: S) h := by
  intro ls H locs cells slots hl hH
  obtain ⟨r, ⟨x', y', e1, e2, e3⟩, e9, hi⟩ := mm_k_s (op := 10) hF hi
  obtain rfl : y' = 0 := (Value.int.inj e2).symm
  rw [List.map_cons, e1]
  rcases e9 (by decide) with rfl | rfl
  · have e3 : ¬ cmpP 0 x' 0 := by
      rcases e3 with ⟨-, q⟩ | ⟨q, -⟩
      · exact absurd (Value.int.inj q) (by decide)
      · exact q
    exact lv_if_eq (tgt := pcs b) hx hb hd (by omega) (fun q => absurd q e3) (fun _ => hn _ _ _ hi ls H locs cells slots hl hH)
  · have e3 : cmpP 0 x' 0 := by
      rcases e3 with ⟨q, -⟩ | ⟨-, q⟩
      · exact q
      · exact absurd (Value.int.inj q) (by decide)
    exact lv_if_eq (tgt := pcs b) hx hb hd (by omega) (fun _ => hj _ _ _ _ hi ls H locs cells slots hl hH) (fun q => absurd e3 q)
theorem s_if_eq (hx : p.tables.exec = Jvm.exec) (hb : c.code = cc) {b' : Nat} (hd : decode cc pc = .ok (.ifCond .eq ((pcs b' : Int) - (pc : Int)), 3)) (hF : FOK d F) : HS (OKs p l e R s m args below meth c Q d E nL) F cO kO pcs pc (h_if 0 b') (pc + 3) := by
  intro call j K nx L S h hcall hj hK hn hi ls H locs cells slots hl hH
  obtain ⟨x, S, e9, hi9⟩ := mm_p_s hi
  clear hi
  subst e9
  have hi := hi9
  clear hi9
  rcases mm_i_s hi with ⟨a, e9, hi9⟩ | hi9
  · clear hi
    subst e9
    have hi := hi9
    clear hi9
    rcases mm_t_s hi with ⟨g, hi⟩ | ⟨g, hi⟩
    · have g9 := (mm_cmp_t 0 a 0).mp g
      exact lv_if_eq (tgt := pcs b') hx hb hd (by omega) (fun _ => hj _ _ _ _ hi ls H locs cells slots hl hH) (fun q => absurd g9 q)
    · have g9 : ¬ cmpP 0 (nI a) (nI 0) := fun q => by rw [(mm_cmp_t 0 a 0).mpr q] at g; cases g
      exact lv_if_eq (tgt := pcs b') hx hb hd (by omega) (fun q => absurd q g9) (fun _ => hn _ _ _ hi ls H locs cells slots hl hH)
  · clear hi
    have hi := hi9
    clear hi9
    exact s_if_eq_sym hx hb hd hF hj hn hi ls H locs cells slots hl hH
theorem s_icmp_ne_sym (hx : p.tables.exec = Jvm.exec) (hb : c.code = cc) {b : Nat} (hd : decode cc pc = .ok (.if_icmp .ne ((pcs b : Int) - (pc : Int)), 3)) (hF : FOK d F) {j : Nat → mN} {nx : mN} {L : mL} {S : List mV} {h : mH} {x y : mV} (hj : ∀ b L S h, j b L S h = true → (OKs p l e R s m args below meth c Q d E nL) (pcs b) L S h) (hn : ∀ L S h, nx L S h = true → (OKs p l e R s m args below meth c Q d E nL) (pc + 3) L S h)
    (hi : mm_k F (Nat.add 10 1) x y (fun v => mm_i v (fun w => Nat.rec (motive := fun _ => Bool) (nx L S h) (fun _ _ => j b L S h) w) false) = true) : (OKs p l e R s m args below meth c Q d E nL) pc L (y :: x :: S) h := by
  intro ls H locs cells slots hl hH
  obtain ⟨r, ⟨x', y', e1, e2, e3⟩, e9, hi⟩ := mm_k_s (op := 11) hF hi
  rw [List.map_cons, List.map_cons, e1, e2]
  rcases e9 (by decide) with rfl | rfl
  · have e3 : ¬ cmpP 1 x' y' := by
      rcases e3 with ⟨-, q⟩ | ⟨q, -⟩
      · exact absurd (Value.int.inj q) (by decide)
      · exact q
    exact lv_icmp_ne (tgt := pcs b) hx hb hd (by omega) (fun q => absurd q e3) (fun _ => hn _ _ _ hi ls H locs cells slots hl hH)
  · have e3 : cmpP 1 x' y' := by
      rcases e3 with ⟨q, -⟩ | ⟨-, q⟩
      · exact q
      · exact absurd (Value.int.inj q) (by decide)
    exact lv_icmp_ne (tgt := pcs b) hx hb hd (by omega) (fun _ => hj _ _ _ _ hi ls H locs cells slots hl hH) (fun q => absurd q e3)
theorem s_icmp_ne (hx : p.tables.exec = Jvm.exec) (hb : c.code = cc) {b' : Nat} (hd : decode cc pc = .ok (.if_icmp .ne ((pcs b' : Int) - (pc : Int)), 3)) (hF : FOK d F) : HS (OKs p l e R s m args below meth c Q d E nL) F cO kO pcs pc (h_icmp 1 b') (pc + 3) := by
  intro call j K nx L S h hcall hj hK hn hi ls H locs cells slots hl hH
  obtain ⟨y, S, e9, hi9⟩ := mm_p_s hi
  clear hi
  subst e9
  have hi := hi9
  clear hi9
  obtain ⟨x, S, e9, hi9⟩ := mm_p_s hi
  clear hi
  subst e9
  have hi := hi9
  clear hi9
  rcases mm_i_s hi with ⟨b, e9, hi9⟩ | hi9
  · clear hi
    subst e9
    have hi := hi9
    clear hi9
    rcases mm_i_s hi with ⟨a, e9, hi9⟩ | hi9
    · clear hi
      subst e9
      have hi := hi9
      clear hi9
      rcases mm_t_s hi with ⟨g, hi⟩ | ⟨g, hi⟩
      · have g9 := (mm_cmp_t 1 a b).mp g
        exact lv_icmp_ne (tgt := pcs b') hx hb hd (by omega) (fun _ => hj _ _ _ _ hi ls H locs cells slots hl hH) (fun q => absurd q g9)
      · have g9 : ¬ cmpP 1 (nI a) (nI b) := fun q => by rw [(mm_cmp_t 1 a b).mpr q] at g; cases g
        exact lv_icmp_ne (tgt := pcs b') hx hb hd (by omega) (fun q => absurd q g9) (fun _ => hn _ _ _ hi ls H locs cells slots hl hH)
    · clear hi
      have hi := hi9
      clear hi9
      exact s_icmp_ne_sym hx hb hd hF hj hn hi ls H locs cells slots hl hH
  · clear hi
    have hi := hi9
    clear hi9
    exact s_icmp_ne_sym hx hb hd hF hj hn hi ls H locs cells slots hl hH
theorem s_if_ne_sym (hx : p.tables.exec = Jvm.exec) (hb : c.code = cc) {b : Nat} (hd : decode cc pc = .ok (.ifCond .ne ((pcs b : Int) - (pc : Int)), 3)) (hF : FOK d F) {j : Nat → mN} {nx : mN} {L : mL} {S : List mV} {h : mH} {x : mV} (hj : ∀ b L S h, j b L S h = true → (OKs p l e R s m args below meth c Q d E nL) (pcs b) L S h) (hn : ∀ L S h, nx L S h = true → (OKs p l e R s m args below meth c Q d E nL) (pc + 3) L S h)
    (hi : mm_k F (Nat.add 10 1) x (.inl 0) (fun v => mm_i v (fun w => Nat.rec (motive := fun _ => Bool) (nx L S h) (fun _ _ => j b L S h) w) false) = true) : (OKs p l e R s m args below meth c Q d E nL) pc L (x :: S) h := by
  intro ls H locs cells slots hl hH
  obtain ⟨r, ⟨x', y', e1, e2, e3⟩, e9, hi⟩ := mm_k_s (op := 11) hF hi
  obtain rfl : y' = 0 := (Value.int.inj e2).symm
  rw [List.map_cons, e1]
  rcases e9 (by decide) with rfl | rfl
  · have e3 : ¬ cmpP 1 x' 0 := by
      rcases e3 with ⟨-, q⟩ | ⟨q, -⟩
      · exact absurd (Value.int.inj q) (by decide)
      · exact q
    exact lv_if_ne (tgt := pcs b) hx hb hd (by omega) (fun q => absurd q e3) (fun _ => hn _ _ _ hi ls H locs cells slots hl hH)
  · have e3 : cmpP 1 x' 0 := by
      rcases e3 with ⟨q, -⟩ | ⟨-, q⟩
      · exact q
      · exact absurd (Value.int.inj q) (by decide)
    exact lv_if_ne (tgt := pcs b) hx hb hd (by omega) (fun _ => hj _ _ _ _ hi ls H locs cells slots hl hH) (fun q => absurd q e3)
theorem s_if_ne (hx : p.tables.exec = Jvm.exec) (hb : c.code = cc) {b' : Nat} (hd : decode cc pc = .ok (.ifCond .ne ((pcs b' : Int) - (pc : Int)), 3)) (hF : FOK d F) : HS (OKs p l e R s m args below meth c Q d E nL) F cO kO pcs pc (h_if 1 b') (pc + 3) := by
  intro call j K nx L S h hcall hj hK hn hi ls H locs cells slots hl hH
  obtain ⟨x, S, e9, hi9⟩ := mm_p_s hi
  clear hi
  subst e9
  have hi := hi9
  clear hi9
  rcases mm_i_s hi with ⟨a, e9, hi9⟩ | hi9
  · clear hi
    subst e9
    have hi := hi9
    clear hi9
    rcases mm_t_s hi with ⟨g, hi⟩ | ⟨g, hi⟩
    · have g9 := (mm_cmp_t 1 a 0).mp g
      exact lv_if_ne (tgt := pcs b') hx hb hd (by omega) (fun _ => hj _ _ _ _ hi ls H locs cells slots hl hH) (fun q => absurd q g9)
    · have g9 : ¬ cmpP 1 (nI a) (nI 0) := fun q => by rw [(mm_cmp_t 1 a 0).mpr q] at g; cases g
      exact lv_if_ne (tgt := pcs b') hx hb hd (by omega) (fun q => absurd q g9) (fun _ => hn _ _ _ hi ls H locs cells slots hl hH)
  · clear hi
    have hi := hi9
    clear hi9
    exact s_if_ne_sym hx hb hd hF hj hn hi ls H locs cells slots hl hH
theorem s_icmp_lt_sym (hx : p.tables.exec = Jvm.exec) (hb : c.code = cc) {b : Nat} (hd : decode cc pc = .ok (.if_icmp .lt ((pcs b : Int) - (pc : Int)), 3)) (hF : FOK d F) {j : Nat → mN} {nx : mN} {L : mL} {S : List mV} {h : mH} {x y : mV} (hj : ∀ b L S h, j b L S h = true → (OKs p l e R s m args below meth c Q d E nL) (pcs b) L S h) (hn : ∀ L S h, nx L S h = true → (OKs p l e R s m args below meth c Q d E nL) (pc + 3) L S h)
    (hi : mm_k F (Nat.add 10 2) x y (fun v => mm_i v (fun w => Nat.rec (motive := fun _ => Bool) (nx L S h) (fun _ _ => j b L S h) w) false) = true) : (OKs p l e R s m args below meth c Q d E nL) pc L (y :: x :: S) h := by
  intro ls H locs cells slots hl hH
  obtain ⟨r, ⟨x', y', e1, e2, e3⟩, e9, hi⟩ := mm_k_s (op := 12) hF hi
  rw [List.map_cons, List.map_cons, e1, e2]
  rcases e9 (by decide) with rfl | rfl
  · have e3 : ¬ cmpP 2 x' y' := by
      rcases e3 with ⟨-, q⟩ | ⟨q, -⟩
      · exact absurd (Value.int.inj q) (by decide)
      · exact q
    exact lv_icmp_lt (tgt := pcs b) hx hb hd (by omega) (fun q => absurd q e3) (fun _ => hn _ _ _ hi ls H locs cells slots hl hH)
  · have e3 : cmpP 2 x' y' := by
      rcases e3 with ⟨q, -⟩ | ⟨-, q⟩
      · exact q
      · exact absurd (Value.int.inj q) (by decide)
    exact lv_icmp_lt (tgt := pcs b) hx hb hd (by omega) (fun _ => hj _ _ _ _ hi ls H locs cells slots hl hH) (fun q => absurd e3 q)
theorem s_icmp_lt (hx : p.tables.exec = Jvm.exec) (hb : c.code = cc) {b' : Nat} (hd : decode cc pc = .ok (.if_icmp .lt ((pcs b' : Int) - (pc : Int)), 3)) (hF : FOK d F) : HS (OKs p l e R s m args below meth c Q d E nL) F cO kO pcs pc (h_icmp 2 b') (pc + 3) := by
  intro call j K nx L S h hcall hj hK hn hi ls H locs cells slots hl hH
  obtain ⟨y, S, e9, hi9⟩ := mm_p_s hi
  clear hi
  subst e9
  have hi := hi9
  clear hi9
  obtain ⟨x, S, e9, hi9⟩ := mm_p_s hi
  clear hi
  subst e9
  have hi := hi9
  clear hi9
  rcases mm_i_s hi with ⟨b, e9, hi9⟩ | hi9
  · clear hi
    subst e9
    have hi := hi9
    clear hi9
    rcases mm_i_s hi with ⟨a, e9, hi9⟩ | hi9
    · clear hi
      subst e9
      have hi := hi9
      clear hi9
      rcases mm_t_s hi with ⟨g, hi⟩ | ⟨g, hi⟩
      · have g9 := (mm_cmp_t 2 a b).mp g
        exact lv_icmp_lt (tgt := pcs b') hx hb hd (by omega) (fun _ => hj _ _ _ _ hi ls H locs cells slots hl hH) (fun q => absurd g9 q)
      · have g9 : ¬ cmpP 2 (nI a) (nI b) := fun q => by rw [(mm_cmp_t 2 a b).mpr q] at g; cases g
        exact lv_icmp_lt (tgt := pcs b') hx hb hd (by omega) (fun q => absurd q g9) (fun _ => hn _ _ _ hi ls H locs cells slots hl hH)
    · clear hi
      have hi := hi9
      clear hi9
      exact s_icmp_lt_sym hx hb hd hF hj hn hi ls H locs cells slots hl hH
  · clear hi
    have hi := hi9
    clear hi9
    exact s_icmp_lt_sym hx hb hd hF hj hn hi ls H locs cells slots hl hH
theorem s_if_lt_sym (hx : p.tables.exec = Jvm.exec) (hb : c.code = cc) {b : Nat} (hd : decode cc pc = .ok (.ifCond .lt ((pcs b : Int) - (pc : Int)), 3)) (hF : FOK d F) {j : Nat → mN} {nx : mN} {L : mL} {S : List mV} {h : mH} {x : mV} (hj : ∀ b L S h, j b L S h = true → (OKs p l e R s m args below meth c Q d E nL) (pcs b) L S h) (hn : ∀ L S h, nx L S h = true → (OKs p l e R s m args below meth c Q d E nL) (pc + 3) L S h)
    (hi : mm_k F (Nat.add 10 2) x (.inl 0) (fun v => mm_i v (fun w => Nat.rec (motive := fun _ => Bool) (nx L S h) (fun _ _ => j b L S h) w) false) = true) : (OKs p l e R s m args below meth c Q d E nL) pc L (x :: S) h := by
  intro ls H locs cells slots hl hH
  obtain ⟨r, ⟨x', y', e1, e2, e3⟩, e9, hi⟩ := mm_k_s (op := 12) hF hi
  obtain rfl : y' = 0 := (Value.int.inj e2).symm
  rw [List.map_cons, e1]
  rcases e9 (by decide) with rfl | rfl
  · have e3 : ¬ cmpP 2 x' 0 := by
      rcases e3 with ⟨-, q⟩ | ⟨q, -⟩
      · exact absurd (Value.int.inj q) (by decide)
      · exact q
    exact lv_if_lt (tgt := pcs b) hx hb hd (by omega) (fun q => absurd q e3) (fun _ => hn _ _ _ hi ls H locs cells slots hl hH)
  · have e3 : cmpP 2 x' 0 := by
      rcases e3 with ⟨q, -⟩ | ⟨-, q⟩
      · exact q
      · exact absurd (Value.int.inj q) (by decide)
    exact lv_if_lt (tgt := pcs b) hx hb hd (by omega) (fun _ => hj _ _ _ _ hi ls H locs cells slots hl hH) (fun q => absurd e3 q)
theorem s_if_lt (hx : p.tables.exec = Jvm.exec) (hb : c.code = cc) {b' : Nat} (hd : decode cc pc = .ok (.ifCond .lt ((pcs b' : Int) - (pc : Int)), 3)) (hF : FOK d F) : HS (OKs p l e R s m args below meth c Q d E nL) F cO kO pcs pc (h_if 2 b') (pc + 3) := by
  intro call j K nx L S h hcall hj hK hn hi ls H locs cells slots hl hH
  obtain ⟨x, S, e9, hi9⟩ := mm_p_s hi
  clear hi
  subst e9
  have hi := hi9
  clear hi9
  rcases mm_i_s hi with ⟨a, e9, hi9⟩ | hi9
  · clear hi
    subst e9
    have hi := hi9
    clear hi9
    rcases mm_t_s hi with ⟨g, hi⟩ | ⟨g, hi⟩
    · have g9 := (mm_cmp_t 2 a 0).mp g
      exact lv_if_lt (tgt := pcs b') hx hb hd (by omega) (fun _ => hj _ _ _ _ hi ls H locs cells slots hl hH) (fun q => absurd g9 q)
    · have g9 : ¬ cmpP 2 (nI a) (nI 0) := fun q => by rw [(mm_cmp_t 2 a 0).mpr q] at g; cases g
      exact lv_if_lt (tgt := pcs b') hx hb hd (by omega) (fun q => absurd q g9) (fun _ => hn _ _ _ hi ls H locs cells slots hl hH)
  · clear hi
    have hi := hi9
    clear hi9
    exact s_if_lt_sym hx hb hd hF hj hn hi ls H locs cells slots hl hH
theorem s_icmp_ge_sym (hx : p.tables.exec = Jvm.exec) (hb : c.code = cc) {b : Nat} (hd : decode cc pc = .ok (.if_icmp .ge ((pcs b : Int) - (pc : Int)), 3)) (hF : FOK d F) {j : Nat → mN} {nx : mN} {L : mL} {S : List mV} {h : mH} {x y : mV} (hj : ∀ b L S h, j b L S h = true → (OKs p l e R s m args below meth c Q d E nL) (pcs b) L S h) (hn : ∀ L S h, nx L S h = true → (OKs p l e R s m args below meth c Q d E nL) (pc + 3) L S h)
    (hi : mm_k F (Nat.add 10 3) x y (fun v => mm_i v (fun w => Nat.rec (motive := fun _ => Bool) (nx L S h) (fun _ _ => j b L S h) w) false) = true) : (OKs p l e R s m args below meth c Q d E nL) pc L (y :: x :: S) h := by
  intro ls H locs cells slots hl hH
  obtain ⟨r, ⟨x', y', e1, e2, e3⟩, e9, hi⟩ := mm_k_s (op := 13) hF hi
  rw [List.map_cons, List.map_cons, e1, e2]
  rcases e9 (by decide) with rfl | rfl
  · have e3 : ¬ cmpP 3 x' y' := by
      rcases e3 with ⟨-, q⟩ | ⟨q, -⟩
      · exact absurd (Value.int.inj q) (by decide)
      · exact q
    exact lv_icmp_ge (tgt := pcs b) hx hb hd (by omega) (fun q => absurd q e3) (fun _ => hn _ _ _ hi ls H locs cells slots hl hH)
  · have e3 : cmpP 3 x' y' := by
      rcases e3 with ⟨q, -⟩ | ⟨-, q⟩
      · exact q
      · exact absurd (Value.int.inj q) (by decide)
    exact lv_icmp_ge (tgt := pcs b) hx hb hd (by omega) (fun _ => hj _ _ _ _ hi ls H locs cells slots hl hH) (fun q => absurd e3 q)
theorem s_icmp_ge (hx : p.tables.exec = Jvm.exec) (hb : c.code = cc) {b' : Nat} (hd : decode cc pc = .ok (.if_icmp .ge ((pcs b' : Int) - (pc : Int)), 3)) (hF : FOK d F) : HS (OKs p l e R s m args below meth c Q d E nL) F cO kO pcs pc (h_icmp 3 b') (pc + 3) := by
  intro call j K nx L S h hcall hj hK hn hi ls H locs cells slots hl hH
  obtain ⟨y, S, e9, hi9⟩ := mm_p_s hi
  clear hi
  subst e9
  have hi := hi9
  clear hi9
  obtain ⟨x, S, e9, hi9⟩ := mm_p_s hi
  clear hi
  subst e9
  have hi := hi9
  clear hi9
  rcases mm_i_s hi with ⟨b, e9, hi9⟩ | hi9
  · clear hi
    subst e9
    have hi := hi9
    clear hi9
    rcases mm_i_s hi with ⟨a, e9, hi9⟩ | hi9
    · clear hi
      subst e9
      have hi := hi9
      clear hi9
      rcases mm_t_s hi with ⟨g, hi⟩ | ⟨g, hi⟩
      · have g9 := (mm_cmp_t 3 a b).mp g
        exact lv_icmp_ge (tgt := pcs b') hx hb hd (by omega) (fun _ => hj _ _ _ _ hi ls H locs cells slots hl hH) (fun q => absurd g9 q)
      · have g9 : ¬ cmpP 3 (nI a) (nI b) := fun q => by rw [(mm_cmp_t 3 a b).mpr q] at g; cases g
        exact lv_icmp_ge (tgt := pcs b') hx hb hd (by omega) (fun q => absurd q g9) (fun _ => hn _ _ _ hi ls H locs cells slots hl hH)
    · clear hi
      have hi := hi9
      clear hi9
      exact s_icmp_ge_sym hx hb hd hF hj hn hi ls H locs cells slots hl hH
  · clear hi
    have hi := hi9
    clear hi9
    exact s_icmp_ge_sym hx hb hd hF hj hn hi ls H locs cells slots hl hH
theorem s_if_ge_sym (hx : p.tables.exec = Jvm.exec) (hb : c.code = cc) {b : Nat} (hd : decode cc pc = .ok (.ifCond .ge ((pcs b : Int) - (pc : Int)), 3)) (hF : FOK d F) {j : Nat → mN} {nx : mN} {L : mL} {S : List mV} {h : mH} {x : mV} (hj : ∀ b L S h, j b L S h = true → (OKs p l e R s m args below meth c Q d E nL) (pcs b) L S h) (hn : ∀ L S h, nx L S h = true → (OKs p l e R s m args below meth c Q d E nL) (pc + 3) L S h)
    (hi : mm_k F (Nat.add 10 3) x (.inl 0) (fun v => mm_i v (fun w => Nat.rec (motive := fun _ => Bool) (nx L S h) (fun _ _ => j b L S h) w) false) = true) : (OKs p l e R s m args below meth c Q d E nL) pc L (x :: S) h := by
  intro ls H locs cells slots hl hH
  obtain ⟨r, ⟨x', y', e1, e2, e3⟩, e9, hi⟩ := mm_k_s (op := 13) hF hi
  obtain rfl : y' = 0 := (Value.int.inj e2).symm
  rw [List.map_cons, e1]
  rcases e9 (by decide) with rfl | rfl
  · have e3 : ¬ cmpP 3 x' 0 := by
      rcases e3 with ⟨-, q⟩ | ⟨q, -⟩
      · exact absurd (Value.int.inj q) (by decide)
      · exact q
    exact lv_if_ge (tgt := pcs b) hx hb hd (by omega) (fun q => absurd q e3) (fun _ => hn _ _ _ hi ls H locs cells slots hl hH)
  · have e3 : cmpP 3 x' 0 := by
      rcases e3 with ⟨q, -⟩ | ⟨-, q⟩
      · exact q
      · exact absurd (Value.int.inj q) (by decide)
    exact lv_if_ge (tgt := pcs b) hx hb hd (by omega) (fun _ => hj _ _ _ _ hi ls H locs cells slots hl hH) (fun q => absurd e3 q)
theorem s_if_ge (hx : p.tables.exec = Jvm.exec) (hb : c.code = cc) {b' : Nat} (hd : decode cc pc = .ok (.ifCond .ge ((pcs b' : Int) - (pc : Int)), 3)) (hF : FOK d F) : HS (OKs p l e R s m args below meth c Q d E nL) F cO kO pcs pc (h_if 3 b') (pc + 3) := by
  intro call j K nx L S h hcall hj hK hn hi ls H locs cells slots hl hH
  obtain ⟨x, S, e9, hi9⟩ := mm_p_s hi
  clear hi
  subst e9
  have hi := hi9
  clear hi9
  rcases mm_i_s hi with ⟨a, e9, hi9⟩ | hi9
  · clear hi
    subst e9
    have hi := hi9
    clear hi9
    rcases mm_t_s hi with ⟨g, hi⟩ | ⟨g, hi⟩
    · have g9 := (mm_cmp_t 3 a 0).mp g
      exact lv_if_ge (tgt := pcs b') hx hb hd (by omega) (fun _ => hj _ _ _ _ hi ls H locs cells slots hl hH) (fun q => absurd g9 q)
    · have g9 : ¬ cmpP 3 (nI a) (nI 0) := fun q => by rw [(mm_cmp_t 3 a 0).mpr q] at g; cases g
      exact lv_if_ge (tgt := pcs b') hx hb hd (by omega) (fun q => absurd q g9) (fun _ => hn _ _ _ hi ls H locs cells slots hl hH)
  · clear hi
    have hi := hi9
    clear hi9
    exact s_if_ge_sym hx hb hd hF hj hn hi ls H locs cells slots hl hH
theorem s_icmp_gt_sym (hx : p.tables.exec = Jvm.exec) (hb : c.code = cc) {b : Nat} (hd : decode cc pc = .ok (.if_icmp .gt ((pcs b : Int) - (pc : Int)), 3)) (hF : FOK d F) {j : Nat → mN} {nx : mN} {L : mL} {S : List mV} {h : mH} {x y : mV} (hj : ∀ b L S h, j b L S h = true → (OKs p l e R s m args below meth c Q d E nL) (pcs b) L S h) (hn : ∀ L S h, nx L S h = true → (OKs p l e R s m args below meth c Q d E nL) (pc + 3) L S h)
    (hi : mm_k F (Nat.add 10 4) x y (fun v => mm_i v (fun w => Nat.rec (motive := fun _ => Bool) (nx L S h) (fun _ _ => j b L S h) w) false) = true) : (OKs p l e R s m args below meth c Q d E nL) pc L (y :: x :: S) h := by
  intro ls H locs cells slots hl hH
  obtain ⟨r, ⟨x', y', e1, e2, e3⟩, e9, hi⟩ := mm_k_s (op := 14) hF hi
  rw [List.map_cons, List.map_cons, e1, e2]
  rcases e9 (by decide) with rfl | rfl
  · have e3 : ¬ cmpP 4 x' y' := by
      rcases e3 with ⟨-, q⟩ | ⟨q, -⟩
      · exact absurd (Value.int.inj q) (by decide)
      · exact q
    exact lv_icmp_gt (tgt := pcs b) hx hb hd (by omega) (fun q => absurd q e3) (fun _ => hn _ _ _ hi ls H locs cells slots hl hH)
  · have e3 : cmpP 4 x' y' := by
      rcases e3 with ⟨q, -⟩ | ⟨-, q⟩
      · exact q
      · exact absurd (Value.int.inj q) (by decide)
    exact lv_icmp_gt (tgt := pcs b) hx hb hd (by omega) (fun _ => hj _ _ _ _ hi ls H locs cells slots hl hH) (fun q => absurd e3 q)
theorem s_icmp_gt (hx : p.tables.exec = Jvm.exec) (hb : c.code = cc) {b' : Nat} (hd : decode cc pc = .ok (.if_icmp .gt ((pcs b' : Int) - (pc : Int)), 3)) (hF : FOK d F) : HS (OKs p l e R s m args below meth c Q d E nL) F cO kO pcs pc (h_icmp 4 b') (pc + 3) := by
  intro call j K nx L S h hcall hj hK hn hi ls H locs cells slots hl hH
  obtain ⟨y, S, e9, hi9⟩ := mm_p_s hi
  clear hi
  subst e9
  have hi := hi9
  clear hi9
  obtain ⟨x, S, e9, hi9⟩ := mm_p_s hi
  clear hi
  subst e9
  have hi := hi9
  clear hi9
  rcases mm_i_s hi with ⟨b, e9, hi9⟩ | hi9
  · clear hi
    subst e9
    have hi := hi9
    clear hi9
    rcases mm_i_s hi with ⟨a, e9, hi9⟩ | hi9
    · clear hi
      subst e9
      have hi := hi9
      clear hi9
      rcases mm_t_s hi with ⟨g, hi⟩ | ⟨g, hi⟩
      · have g9 := (mm_cmp_t 4 a b).mp g
        exact lv_icmp_gt (tgt := pcs b') hx hb hd (by omega) (fun _ => hj _ _ _ _ hi ls H locs cells slots hl hH) (fun q => absurd g9 q)
      · have g9 : ¬ cmpP 4 (nI a) (nI b) := fun q => by rw [(mm_cmp_t 4 a b).mpr q] at g; cases g
        exact lv_icmp_gt (tgt := pcs b') hx hb hd (by omega) (fun q => absurd q g9) (fun _ => hn _ _ _ hi ls H locs cells slots hl hH)
    · clear hi
      have hi := hi9
      clear hi9
      exact s_icmp_gt_sym hx hb hd hF hj hn hi ls H locs cells slots hl hH
  · clear hi
    have hi := hi9
    clear hi9
    exact s_icmp_gt_sym hx hb hd hF hj hn hi ls H locs cells slots hl hH
theorem s_if_gt_sym (hx : p.tables.exec = Jvm.exec) (hb : c.code = cc) {b : Nat} (hd : decode cc pc = .ok (.ifCond .gt ((pcs b : Int) - (pc : Int)), 3)) (hF : FOK d F) {j : Nat → mN} {nx : mN} {L : mL} {S : List mV} {h : mH} {x : mV} (hj : ∀ b L S h, j b L S h = true → (OKs p l e R s m args below meth c Q d E nL) (pcs b) L S h) (hn : ∀ L S h, nx L S h = true → (OKs p l e R s m args below meth c Q d E nL) (pc + 3) L S h)
    (hi : mm_k F (Nat.add 10 4) x (.inl 0) (fun v => mm_i v (fun w => Nat.rec (motive := fun _ => Bool) (nx L S h) (fun _ _ => j b L S h) w) false) = true) : (OKs p l e R s m args below meth c Q d E nL) pc L (x :: S) h := by
  intro ls H locs cells slots hl hH
  obtain ⟨r, ⟨x', y', e1, e2, e3⟩, e9, hi⟩ := mm_k_s (op := 14) hF hi
  obtain rfl : y' = 0 := (Value.int.inj e2).symm
  rw [List.map_cons, e1]
  rcases e9 (by decide) with rfl | rfl
  · have e3 : ¬ cmpP 4 x' 0 := by
      rcases e3 with ⟨-, q⟩ | ⟨q, -⟩
      · exact absurd (Value.int.inj q) (by decide)
      · exact q
    exact lv_if_gt (tgt := pcs b) hx hb hd (by omega) (fun q => absurd q e3) (fun _ => hn _ _ _ hi ls H locs cells slots hl hH)
  · have e3 : cmpP 4 x' 0 := by
      rcases e3 with ⟨q, -⟩ | ⟨-, q⟩
      · exact q
      · exact absurd (Value.int.inj q) (by decide)
    exact lv_if_gt (tgt := pcs b) hx hb hd (by omega) (fun _ => hj _ _ _ _ hi ls H locs cells slots hl hH) (fun q => absurd e3 q)
theorem s_if_gt (hx : p.tables.exec = Jvm.exec) (hb : c.code = cc) {b' : Nat} (hd : decode cc pc = .ok (.ifCond .gt ((pcs b' : Int) - (pc : Int)), 3)) (hF : FOK d F) : HS (OKs p l e R s m args below meth c Q d E nL) F cO kO pcs pc (h_if 4 b') (pc + 3) := by
  intro call j K nx L S h hcall hj hK hn hi ls H locs cells slots hl hH
  obtain ⟨x, S, e9, hi9⟩ := mm_p_s hi
  clear hi
  subst e9
  have hi := hi9
  clear hi9
  rcases mm_i_s hi with ⟨a, e9, hi9⟩ | hi9
  · clear hi
    subst e9
    have hi := hi9
    clear hi9
    rcases mm_t_s hi with ⟨g, hi⟩ | ⟨g, hi⟩
    · have g9 := (mm_cmp_t 4 a 0).mp g
      exact lv_if_gt (tgt := pcs b') hx hb hd (by omega) (fun _ => hj _ _ _ _ hi ls H locs cells slots hl hH) (fun q => absurd g9 q)
    · have g9 : ¬ cmpP 4 (nI a) (nI 0) := fun q => by rw [(mm_cmp_t 4 a 0).mpr q] at g; cases g
      exact lv_if_gt (tgt := pcs b') hx hb hd (by omega) (fun q => absurd q g9) (fun _ => hn _ _ _ hi ls H locs cells slots hl hH)
  · clear hi
    have hi := hi9
    clear hi9
    exact s_if_gt_sym hx hb hd hF hj hn hi ls H locs cells slots hl hH
theorem s_icmp_le_sym (hx : p.tables.exec = Jvm.exec) (hb : c.code = cc) {b : Nat} (hd : decode cc pc = .ok (.if_icmp .le ((pcs b : Int) - (pc : Int)), 3)) (hF : FOK d F) {j : Nat → mN} {nx : mN} {L : mL} {S : List mV} {h : mH} {x y : mV} (hj : ∀ b L S h, j b L S h = true → (OKs p l e R s m args below meth c Q d E nL) (pcs b) L S h) (hn : ∀ L S h, nx L S h = true → (OKs p l e R s m args below meth c Q d E nL) (pc + 3) L S h)
    (hi : mm_k F (Nat.add 10 5) x y (fun v => mm_i v (fun w => Nat.rec (motive := fun _ => Bool) (nx L S h) (fun _ _ => j b L S h) w) false) = true) : (OKs p l e R s m args below meth c Q d E nL) pc L (y :: x :: S) h := by
  intro ls H locs cells slots hl hH
  obtain ⟨r, ⟨x', y', e1, e2, e3⟩, e9, hi⟩ := mm_k_s (op := 15) hF hi
  rw [List.map_cons, List.map_cons, e1, e2]
  rcases e9 (by decide) with rfl | rfl
  · have e3 : ¬ cmpP 5 x' y' := by
      rcases e3 with ⟨-, q⟩ | ⟨q, -⟩
      · exact absurd (Value.int.inj q) (by decide)
      · exact q
    exact lv_icmp_le (tgt := pcs b) hx hb hd (by omega) (fun q => absurd q e3) (fun _ => hn _ _ _ hi ls H locs cells slots hl hH)
  · have e3 : cmpP 5 x' y' := by
      rcases e3 with ⟨q, -⟩ | ⟨-, q⟩
      · exact q
      · exact absurd (Value.int.inj q) (by decide)
    exact lv_icmp_le (tgt := pcs b) hx hb hd (by omega) (fun _ => hj _ _ _ _ hi ls H locs cells slots hl hH) (fun q => absurd e3 q)
theorem s_icmp_le (hx : p.tables.exec = Jvm.exec) (hb : c.code = cc) {b' : Nat} (hd : decode cc pc = .ok (.if_icmp .le ((pcs b' : Int) - (pc : Int)), 3)) (hF : FOK d F) : HS (OKs p l e R s m args below meth c Q d E nL) F cO kO pcs pc (h_icmp 5 b') (pc + 3) := by
  intro call j K nx L S h hcall hj hK hn hi ls H locs cells slots hl hH
  obtain ⟨y, S, e9, hi9⟩ := mm_p_s hi
  clear hi
  subst e9
  have hi := hi9
  clear hi9
  obtain ⟨x, S, e9, hi9⟩ := mm_p_s hi
  clear hi
  subst e9
  have hi := hi9
  clear hi9
  rcases mm_i_s hi with ⟨b, e9, hi9⟩ | hi9
  · clear hi
    subst e9
    have hi := hi9
    clear hi9
    rcases mm_i_s hi with ⟨a, e9, hi9⟩ | hi9
    · clear hi
      subst e9
      have hi := hi9
      clear hi9
      rcases mm_t_s hi with ⟨g, hi⟩ | ⟨g, hi⟩
      · have g9 := (mm_cmp_t 5 a b).mp g
        exact lv_icmp_le (tgt := pcs b') hx hb hd (by omega) (fun _ => hj _ _ _ _ hi ls H locs cells slots hl hH) (fun q => absurd g9 q)
      · have g9 : ¬ cmpP 5 (nI a) (nI b) := fun q => by rw [(mm_cmp_t 5 a b).mpr q] at g; cases g
        exact lv_icmp_le (tgt := pcs b') hx hb hd (by omega) (fun q => absurd q g9) (fun _ => hn _ _ _ hi ls H locs cells slots hl hH)
    · clear hi
      have hi := hi9
      clear hi9
      exact s_icmp_le_sym hx hb hd hF hj hn hi ls H locs cells slots hl hH
  · clear hi
    have hi := hi9
    clear hi9
    exact s_icmp_le_sym hx hb hd hF hj hn hi ls H locs cells slots hl hH
theorem s_if_le_sym (hx : p.tables.exec = Jvm.exec) (hb : c.code = cc) {b : Nat} (hd : decode cc pc = .ok (.ifCond .le ((pcs b : Int) - (pc : Int)), 3)) (hF : FOK d F) {j : Nat → mN} {nx : mN} {L : mL} {S : List mV} {h : mH} {x : mV} (hj : ∀ b L S h, j b L S h = true → (OKs p l e R s m args below meth c Q d E nL) (pcs b) L S h) (hn : ∀ L S h, nx L S h = true → (OKs p l e R s m args below meth c Q d E nL) (pc + 3) L S h)
    (hi : mm_k F (Nat.add 10 5) x (.inl 0) (fun v => mm_i v (fun w => Nat.rec (motive := fun _ => Bool) (nx L S h) (fun _ _ => j b L S h) w) false) = true) : (OKs p l e R s m args below meth c Q d E nL) pc L (x :: S) h := by
  intro ls H locs cells slots hl hH
  obtain ⟨r, ⟨x', y', e1, e2, e3⟩, e9, hi⟩ := mm_k_s (op := 15) hF hi
  obtain rfl : y' = 0 := (Value.int.inj e2).symm
  rw [List.map_cons, e1]
  rcases e9 (by decide) with rfl | rfl
  · have e3 : ¬ cmpP 5 x' 0 := by
      rcases e3 with ⟨-, q⟩ | ⟨q, -⟩
      · exact absurd (Value.int.inj q) (by decide)
      · exact q
    exact lv_if_le (tgt := pcs b) hx hb hd (by omega) (fun q => absurd q e3) (fun _ => hn _ _ _ hi ls H locs cells slots hl hH)
  · have e3 : cmpP 5 x' 0 := by
      rcases e3 with ⟨q, -⟩ | ⟨-, q⟩
      · exact q
      · exact absurd (Value.int.inj q) (by decide)
    exact lv_if_le (tgt := pcs b) hx hb hd (by omega) (fun _ => hj _ _ _ _ hi ls H locs cells slots hl hH) (fun q => absurd e3 q)
theorem s_if_le (hx : p.tables.exec = Jvm.exec) (hb : c.code = cc) {b' : Nat} (hd : decode cc pc = .ok (.ifCond .le ((pcs b' : Int) - (pc : Int)), 3)) (hF : FOK d F) : HS (OKs p l e R s m args below meth c Q d E nL) F cO kO pcs pc (h_if 5 b') (pc + 3) := by
  intro call j K nx L S h hcall hj hK hn hi ls H locs cells slots hl hH
  obtain ⟨x, S, e9, hi9⟩ := mm_p_s hi
  clear hi
  subst e9
  have hi := hi9
  clear hi9
  rcases mm_i_s hi with ⟨a, e9, hi9⟩ | hi9
  · clear hi
    subst e9
    have hi := hi9
    clear hi9
    rcases mm_t_s hi with ⟨g, hi⟩ | ⟨g, hi⟩
    · have g9 := (mm_cmp_t 5 a 0).mp g
      exact lv_if_le (tgt := pcs b') hx hb hd (by omega) (fun _ => hj _ _ _ _ hi ls H locs cells slots hl hH) (fun q => absurd g9 q)
    · have g9 : ¬ cmpP 5 (nI a) (nI 0) := fun q => by rw [(mm_cmp_t 5 a 0).mpr q] at g; cases g
      exact lv_if_le (tgt := pcs b') hx hb hd (by omega) (fun q => absurd q g9) (fun _ => hn _ _ _ hi ls H locs cells slots hl hH)
  · clear hi
    have hi := hi9
    clear hi9
    exact s_if_le_sym hx hb hd hF hj hn hi ls H locs cells slots hl hH
end SND
end
section
/-! rows of cells -/
theorem mm_ob_s {c : mC} {k : Nat → List mV → Bool} (h : mm_ob c k = true) : ∃ ci fs, c = .inr (.inl (ci, fs)) ∧ k ci fs = true := by
  rcases c with a | ⟨ci, fs⟩ | a
  · cases h
  · exact ⟨ci, fs, rfl, h⟩
  · cases h
theorem mm_ar_s {c : mC} {k : Nat → Nat → Nat → Bool} (h : mm_ar c k = true) : ∃ ty n M, c = .inl (ty, n, M) ∧ k ty n M = true := by
  rcases c with ⟨ty, n, M⟩ | a | a
  · exact ⟨ty, n, M, rfl, h⟩
  · cases h
  · cases h
theorem mm_rr_s {c : mC} {k : Nat → List mV → Bool} (h : mm_rr c k = true) : ∃ ty es, c = .inr (.inr (ty, es)) ∧ k ty es = true := by
  rcases c with a | a | ⟨ty, es⟩
  · cases h
  · cases h
  · exact ⟨ty, es, rfl, h⟩
theorem beq_s {a b : Nat} (h : Nat.beq a b = true) : a = b := Nat.eq_of_beq_eq_true h
theorem ble_s {a b : Nat} (h : Nat.ble a b = true) : a ≤ b := Nat.le_of_ble_eq_true h
theorem blt_s {a b : Nat} (h : Nat.blt a b = true) : a < b := Nat.le_of_ble_eq_true h
theorem nar_c (v : Nat) (h : v ≤ 65535) : vp_nar .char (nI v) = nI v := by
  have := (pk_charN (q := v) (by omega)).1
  unfold vp_nar
  rw [this]
section SND
variable {p : Program} {l : Launch} {e : Env} {R : Room} {s : State} {m : MethodId} {args : Array Value} {below : List Frame} {meth : Method} {c : Code} {Q : State → Prop}
variable {cc : ByteArray} {d : mD} {E : mE} {nL pc : Nat} {F : mF} {cO : mA → Prop} {kO : mK → Prop} {pcs : Nat → Nat}
/-- the world with another cell at a place -/
theorem HR.set {h : mH} {H H1 : Heap} {locs locs1 : List Loc} {cells slots a : Nat} {c0 : mC} (hH : HR d E s R h H locs cells slots) (hl : a < h.2.2.2.length) (hP : va_P E.1 xcl ((wo d E.2 d.1 h.2.2.2).set a (d.1 + a, ce d E.2 c0)) H1) (hS : va_S (fun q => d.1 ≤ q) s.heap H1 locs1) :
    HR d E s R (h.1, h.2.1, h.2.2.1, h.2.2.2.set a c0) H1 locs1 cells slots := by
  obtain ⟨h1, h2, h3, h4, h5, h6, h7⟩ := hH
  refine ⟨?_, hS, ⟨h3.1, fun q => ?_⟩, h4, h5, h6, h7⟩
  · show va_P E.1 xcl (wo d E.2 d.1 (h.2.2.2.set a c0)) H1
    rw [wo_set]
    exact hP
  · show s.heap.size + h.2.1 = d.1 + (h.2.2.2.set a c0).length
    rw [List.length_set]
    exact h3.2 q
theorem s_getf (hx : p.tables.exec = Jvm.exec) (hb : c.code = cc) {own C : String} {T : u_T} {N ci index k : Nat} {Ts : List Cond} (hts : ∀ w ∈ Ts, w.before args s = true) (hin : ∀ w ∈ u_ws C T N, w ∈ Ts) (hown : s.vm.findClass own = some m.cls) (hK : va_K E.1 xcl (xtys E.2) s) (hc : xcl[ci]? = some (C, T, N)) (hk : k < N) (hlink : (Cond.fieldLink own index (T k).1 (T k).2.1 (T k).2.2.1).before args s = true) (hd : decode cc pc = .ok (.getfield index, 3)) : HS (OKs p l e R s m args below meth c Q d E nL) F cO kO pcs pc (h_getf ci k) (pc + 3) := by
  intro call j K nx L S h hcall hj hK0 hn hi ls H locs cells slots hl hH
  obtain ⟨x, S, e9, hi9⟩ := mm_p_s hi
  clear hi
  subst e9
  have hi := hi9
  clear hi9
  obtain ⟨a, e9, hi9⟩ := mm_r_s hi
  clear hi
  subst e9
  have hi := hi9
  clear hi9
  obtain ⟨c0, hc0, hi9⟩ := mm_n_s hi
  clear hi
  have hi := hi9
  clear hi9
  obtain ⟨ci', fs, e9, hi9⟩ := mm_ob_s hi
  clear hi
  subst e9
  have hi := hi9
  clear hi9
  obtain ⟨g, hi9⟩ := mm_b_s hi
  clear hi
  have hi := hi9
  clear hi9
  obtain rfl := beq_s g
  obtain ⟨v, hv, hi9⟩ := mm_n_s hi
  clear hi
  have hi := hi9
  clear hi9
  exact va_get (D := E.1) (v := dn d v) hx hb hts hin hown hK hH.1 a (wo_at hc0) hc k hk hlink (fun _ h9 => h9) (by rw [List.getElem?_map, hv]; rfl) hd (hn _ _ _ hi ls H locs cells slots hl hH)
theorem s_putI (hx : p.tables.exec = Jvm.exec) (hb : c.code = cc) {own C : String} {T : u_T} {N ci index k : Nat} {Ts : List Cond} (hts : ∀ w ∈ Ts, w.before args s = true) (hin : ∀ w ∈ u_ws C T N, w ∈ Ts) (hown : s.vm.findClass own = some m.cls) (hK : va_K E.1 xcl (xtys E.2) s) (hc : xcl[ci]? = some (C, T, N)) (hk : k < N) (hlink : (Cond.fieldLink own index (T k).1 (T k).2.1 (T k).2.2.1).before args s = true) (ty0 : Nat → FieldType) (hty0 : ∀ k, k < N → parseFieldDescriptor (T k).2.2.1 = some (ty0 k)) (hnm : ∀ a, a < N → ∀ b, b < N → a ≠ b → (T a).2.1 ≠ (T b).2.1) (hd5 : parseFieldDescriptor (T k).2.2.1 = some .int) (hfin : (T k).2.2.2 = false) (hd : decode cc pc = .ok (.putfield index, 3)) : HS (OKs p l e R s m args below meth c Q d E nL) F cO kO pcs pc (h_putf ci k 0) (pc + 3) := by
  intro call j K nx L S h hcall hj hK0 hn hi ls H locs cells slots hl hH
  obtain ⟨v, S, e9, hi9⟩ := mm_p_s hi
  clear hi
  subst e9
  have hi := hi9
  clear hi9
  obtain ⟨x, S, e9, hi9⟩ := mm_p_s hi
  clear hi
  subst e9
  have hi := hi9
  clear hi9
  obtain ⟨a, e9, hi9⟩ := mm_r_s hi
  clear hi
  subst e9
  have hi := hi9
  clear hi9
  obtain ⟨c0, hc0, hi9⟩ := mm_n_s hi
  clear hi
  have hi := hi9
  clear hi9
  obtain ⟨ci', fs, e9, hi9⟩ := mm_ob_s hi
  clear hi
  subst e9
  have hi := hi9
  clear hi9
  obtain ⟨g, hi9⟩ := mm_b_s hi
  clear hi
  have hi := hi9
  clear hi9
  obtain rfl := beq_s g
  obtain ⟨⟨z, hz⟩, hi9⟩ := mm_ci_s d hi
  clear hi
  have hi := hi9
  clear hi9
  obtain ⟨h1, hi9⟩ := mm_u_s hi
  clear hi
  have hi := hi9
  clear hi9
  obtain ⟨h2, hi9⟩ := mm_u_s hi
  clear hi
  have hi := hi9
  clear hi9
  have hz1 : narrow .int (dn d v) = dn d v ∧ fits .int (dn d v) = true := by rw [hz]; exact ⟨rfl, rfl⟩
  refine va_put (D := E.1) (v := dn d v) (ty := .int) hx hb hts hin ty0 hty0 hnm hown hK hH.1 wo_D hH.2.1 a (wo_at hc0) hc k hk hlink (fun _ h9 => h9) hfin hd5 hz1.1 hz1.2 (by rw [List.length_map]; exact h1) hd (fun H1 locs1 hP _ hS => ?_)
  refine hn _ _ _ hi ls H1 locs1 cells slots hl (hH.set h2 ?_ hS)
  have e9 : ce d E.2 (.inr (.inl (ci', fs.set k v))) = .inr (ci', (fs.map (dn d)).set k (dn d v)) := by
    show Sum.inr (ci', (fs.set k v).map (dn d)) = _
    rw [List.map_set]
  rw [e9]
  exact hP
theorem s_putIF (hx : p.tables.exec = Jvm.exec) (hb : c.code = cc) {own C : String} {T : u_T} {N ci index k : Nat} {Ts : List Cond} (hts : ∀ w ∈ Ts, w.before args s = true) (hin : ∀ w ∈ u_ws C T N, w ∈ Ts) (hown : s.vm.findClass own = some m.cls) (hK : va_K E.1 xcl (xtys E.2) s) (hc : xcl[ci]? = some (C, T, N)) (hk : k < N) (hlink : (Cond.fieldLink own index (T k).1 (T k).2.1 (T k).2.2.1).before args s = true) (ty0 : Nat → FieldType) (hty0 : ∀ k, k < N → parseFieldDescriptor (T k).2.2.1 = some (ty0 k)) (hnm : ∀ a, a < N → ∀ b, b < N → a ≠ b → (T a).2.1 ≠ (T b).2.1) (hd5 : parseFieldDescriptor (T k).2.2.1 = some .int) (hfin : (T k).2.2.2 = true) (hin2 : meth.name = "<init>") (hdecl : (T k).1 = own) (hd : decode cc pc = .ok (.putfield index, 3)) : HS (OKs p l e R s m args below meth c Q d E nL) F cO kO pcs pc (h_putf ci k 0) (pc + 3) := by
  intro call j K nx L S h hcall hj hK0 hn hi ls H locs cells slots hl hH
  obtain ⟨v, S, e9, hi9⟩ := mm_p_s hi
  clear hi
  subst e9
  have hi := hi9
  clear hi9
  obtain ⟨x, S, e9, hi9⟩ := mm_p_s hi
  clear hi
  subst e9
  have hi := hi9
  clear hi9
  obtain ⟨a, e9, hi9⟩ := mm_r_s hi
  clear hi
  subst e9
  have hi := hi9
  clear hi9
  obtain ⟨c0, hc0, hi9⟩ := mm_n_s hi
  clear hi
  have hi := hi9
  clear hi9
  obtain ⟨ci', fs, e9, hi9⟩ := mm_ob_s hi
  clear hi
  subst e9
  have hi := hi9
  clear hi9
  obtain ⟨g, hi9⟩ := mm_b_s hi
  clear hi
  have hi := hi9
  clear hi9
  obtain rfl := beq_s g
  obtain ⟨⟨z, hz⟩, hi9⟩ := mm_ci_s d hi
  clear hi
  have hi := hi9
  clear hi9
  obtain ⟨h1, hi9⟩ := mm_u_s hi
  clear hi
  have hi := hi9
  clear hi9
  obtain ⟨h2, hi9⟩ := mm_u_s hi
  clear hi
  have hi := hi9
  clear hi9
  have hz1 : narrow .int (dn d v) = dn d v ∧ fits .int (dn d v) = true := by rw [hz]; exact ⟨rfl, rfl⟩
  refine va_putF (D := E.1) (v := dn d v) (ty := .int) hx hb hts hin ty0 hty0 hnm hown hK hH.1 wo_D hH.2.1 a (wo_at hc0) hc k hk hlink (fun _ h9 => h9) hfin hin2 hdecl hd5 hz1.1 hz1.2 (by rw [List.length_map]; exact h1) hd (fun H1 locs1 hP _ hS => ?_)
  refine hn _ _ _ hi ls H1 locs1 cells slots hl (hH.set h2 ?_ hS)
  have e9 : ce d E.2 (.inr (.inl (ci', fs.set k v))) = .inr (ci', (fs.map (dn d)).set k (dn d v)) := by
    show Sum.inr (ci', (fs.set k v).map (dn d)) = _
    rw [List.map_set]
  rw [e9]
  exact hP
theorem s_putR (hx : p.tables.exec = Jvm.exec) (hb : c.code = cc) {own C : String} {T : u_T} {N ci index k : Nat} {Ts : List Cond} (hts : ∀ w ∈ Ts, w.before args s = true) (hin : ∀ w ∈ u_ws C T N, w ∈ Ts) (hown : s.vm.findClass own = some m.cls) (hK : va_K E.1 xcl (xtys E.2) s) (hc : xcl[ci]? = some (C, T, N)) (hk : k < N) (hlink : (Cond.fieldLink own index (T k).1 (T k).2.1 (T k).2.2.1).before args s = true) (ty0 : Nat → FieldType) (hty0 : ∀ k, k < N → parseFieldDescriptor (T k).2.2.1 = some (ty0 k)) (hnm : ∀ a, a < N → ∀ b, b < N → a ≠ b → (T a).2.1 ≠ (T b).2.1) {ty : FieldType} (hd5 : parseFieldDescriptor (T k).2.2.1 = some ty) (hrf : ∀ a : Nat, narrow ty (.ref a) = .ref a ∧ fits ty (.ref a) = true) (hfin : (T k).2.2.2 = false) (hd : decode cc pc = .ok (.putfield index, 3)) : HS (OKs p l e R s m args below meth c Q d E nL) F cO kO pcs pc (h_putf ci k 1) (pc + 3) := by
  intro call j K nx L S h hcall hj hK0 hn hi ls H locs cells slots hl hH
  obtain ⟨v, S, e9, hi9⟩ := mm_p_s hi
  clear hi
  subst e9
  have hi := hi9
  clear hi9
  obtain ⟨x, S, e9, hi9⟩ := mm_p_s hi
  clear hi
  subst e9
  have hi := hi9
  clear hi9
  obtain ⟨a, e9, hi9⟩ := mm_r_s hi
  clear hi
  subst e9
  have hi := hi9
  clear hi9
  obtain ⟨c0, hc0, hi9⟩ := mm_n_s hi
  clear hi
  have hi := hi9
  clear hi9
  obtain ⟨ci', fs, e9, hi9⟩ := mm_ob_s hi
  clear hi
  subst e9
  have hi := hi9
  clear hi9
  obtain ⟨g, hi9⟩ := mm_b_s hi
  clear hi
  have hi := hi9
  clear hi9
  obtain rfl := beq_s g
  obtain ⟨z, e9, hi9⟩ := mm_r_s hi
  clear hi
  subst e9
  have hi := hi9
  clear hi9
  obtain ⟨h1, hi9⟩ := mm_u_s hi
  clear hi
  have hi := hi9
  clear hi9
  obtain ⟨h2, hi9⟩ := mm_u_s hi
  clear hi
  have hi := hi9
  clear hi9
  refine va_put (D := E.1) (v := .ref (d.1 + z)) (ty := ty) hx hb hts hin ty0 hty0 hnm hown hK hH.1 wo_D hH.2.1 a (wo_at hc0) hc k hk hlink (fun _ h9 => h9) hfin hd5 (hrf _).1 (hrf _).2 (by rw [List.length_map]; exact h1) hd (fun H1 locs1 hP _ hS => ?_)
  refine hn _ _ _ hi ls H1 locs1 cells slots hl (hH.set h2 ?_ hS)
  have e9 : ce d E.2 (.inr (.inl (ci', fs.set k (.inr (.inl z))))) = .inr (ci', (fs.map (dn d)).set k (dn d (.inr (.inl z)))) := by
    show Sum.inr (ci', (fs.set k (.inr (.inl z))).map (dn d)) = _
    rw [List.map_set]
  rw [e9]
  exact hP
theorem s_putRF (hx : p.tables.exec = Jvm.exec) (hb : c.code = cc) {own C : String} {T : u_T} {N ci index k : Nat} {Ts : List Cond} (hts : ∀ w ∈ Ts, w.before args s = true) (hin : ∀ w ∈ u_ws C T N, w ∈ Ts) (hown : s.vm.findClass own = some m.cls) (hK : va_K E.1 xcl (xtys E.2) s) (hc : xcl[ci]? = some (C, T, N)) (hk : k < N) (hlink : (Cond.fieldLink own index (T k).1 (T k).2.1 (T k).2.2.1).before args s = true) (ty0 : Nat → FieldType) (hty0 : ∀ k, k < N → parseFieldDescriptor (T k).2.2.1 = some (ty0 k)) (hnm : ∀ a, a < N → ∀ b, b < N → a ≠ b → (T a).2.1 ≠ (T b).2.1) {ty : FieldType} (hd5 : parseFieldDescriptor (T k).2.2.1 = some ty) (hrf : ∀ a : Nat, narrow ty (.ref a) = .ref a ∧ fits ty (.ref a) = true) (hfin : (T k).2.2.2 = true) (hin2 : meth.name = "<init>") (hdecl : (T k).1 = own) (hd : decode cc pc = .ok (.putfield index, 3)) : HS (OKs p l e R s m args below meth c Q d E nL) F cO kO pcs pc (h_putf ci k 1) (pc + 3) := by
  intro call j K nx L S h hcall hj hK0 hn hi ls H locs cells slots hl hH
  obtain ⟨v, S, e9, hi9⟩ := mm_p_s hi
  clear hi
  subst e9
  have hi := hi9
  clear hi9
  obtain ⟨x, S, e9, hi9⟩ := mm_p_s hi
  clear hi
  subst e9
  have hi := hi9
  clear hi9
  obtain ⟨a, e9, hi9⟩ := mm_r_s hi
  clear hi
  subst e9
  have hi := hi9
  clear hi9
  obtain ⟨c0, hc0, hi9⟩ := mm_n_s hi
  clear hi
  have hi := hi9
  clear hi9
  obtain ⟨ci', fs, e9, hi9⟩ := mm_ob_s hi
  clear hi
  subst e9
  have hi := hi9
  clear hi9
  obtain ⟨g, hi9⟩ := mm_b_s hi
  clear hi
  have hi := hi9
  clear hi9
  obtain rfl := beq_s g
  obtain ⟨z, e9, hi9⟩ := mm_r_s hi
  clear hi
  subst e9
  have hi := hi9
  clear hi9
  obtain ⟨h1, hi9⟩ := mm_u_s hi
  clear hi
  have hi := hi9
  clear hi9
  obtain ⟨h2, hi9⟩ := mm_u_s hi
  clear hi
  have hi := hi9
  clear hi9
  refine va_putF (D := E.1) (v := .ref (d.1 + z)) (ty := ty) hx hb hts hin ty0 hty0 hnm hown hK hH.1 wo_D hH.2.1 a (wo_at hc0) hc k hk hlink (fun _ h9 => h9) hfin hin2 hdecl hd5 (hrf _).1 (hrf _).2 (by rw [List.length_map]; exact h1) hd (fun H1 locs1 hP _ hS => ?_)
  refine hn _ _ _ hi ls H1 locs1 cells slots hl (hH.set h2 ?_ hS)
  have e9 : ce d E.2 (.inr (.inl (ci', fs.set k (.inr (.inl z))))) = .inr (ci', (fs.map (dn d)).set k (dn d (.inr (.inl z)))) := by
    show Sum.inr (ci', (fs.set k (.inr (.inl z))).map (dn d)) = _
    rw [List.map_set]
  rw [e9]
  exact hP
theorem s_ald0 (hx : p.tables.exec = Jvm.exec) (hb : c.code = cc) (hK : va_K E.1 xcl (xtys E.2) s) (hd : decode cc pc = .ok (.iaload, 1)) : HS (OKs p l e R s m args below meth c Q d E nL) F cO kO pcs pc (h_ald 0) (pc + 1) := by
  intro call j K nx L S h hcall hj hK0 hn hi ls H locs cells slots hl hH
  obtain ⟨y, S, e9, hi9⟩ := mm_p_s hi
  clear hi
  subst e9
  have hi := hi9
  clear hi9
  obtain ⟨x, S, e9, hi9⟩ := mm_p_s hi
  clear hi
  subst e9
  have hi := hi9
  clear hi9
  rcases mm_i_s hi with ⟨i, e9, hi9⟩ | hi9
  · clear hi
    subst e9
    have hi := hi9
    clear hi9
    obtain ⟨a, e9, hi9⟩ := mm_r_s hi
    clear hi
    subst e9
    have hi := hi9
    clear hi9
    obtain ⟨c0, hc0, hi9⟩ := mm_n_s hi
    clear hi
    have hi := hi9
    clear hi9
    obtain ⟨ty', n, M, e9, hi9⟩ := mm_ar_s hi
    clear hi
    subst e9
    have hi := hi9
    clear hi9
    obtain ⟨g, hi9⟩ := mm_b_s hi
    clear hi
    have hi := hi9
    clear hi9
    obtain rfl := beq_s g
    obtain ⟨g1, hi9⟩ := mm_b_s hi
    clear hi
    have hi := hi9
    clear hi9
    obtain ⟨g2, hi9⟩ := mm_b_s hi
    clear hi
    have hi := hi9
    clear hi9
    have g1 := blt_s g1
    have g2 := ble_s g2
    have k9 := hn _ _ _ (mm_f_s hi) ls H locs cells slots hl hH
    refine va_iald hx hb hK hH.1 a 0 (wo_at hc0) rfl (i := nI i) (vp_in_nI g1 (by omega)) hd ?_
    rw [nI_clamp (by omega)]
    exact k9
  · clear hi
    have hi := hi9
    clear hi9
    cases hi
theorem s_ast0 (hx : p.tables.exec = Jvm.exec) (hb : c.code = cc) (hK : va_K E.1 xcl (xtys E.2) s) (hd : decode cc pc = .ok (.iastore, 1)) : HS (OKs p l e R s m args below meth c Q d E nL) F cO kO pcs pc (h_ast 0) (pc + 1) := by
  intro call j K nx L S h hcall hj hK0 hn hi ls H locs cells slots hl hH
  obtain ⟨z, S, e9, hi9⟩ := mm_p_s hi
  clear hi
  subst e9
  have hi := hi9
  clear hi9
  obtain ⟨y, S, e9, hi9⟩ := mm_p_s hi
  clear hi
  subst e9
  have hi := hi9
  clear hi9
  obtain ⟨x, S, e9, hi9⟩ := mm_p_s hi
  clear hi
  subst e9
  have hi := hi9
  clear hi9
  rcases mm_i_s hi with ⟨v, e9, hi9⟩ | hi9
  · clear hi
    subst e9
    have hi := hi9
    clear hi9
    rcases mm_i_s hi with ⟨i, e9, hi9⟩ | hi9
    · clear hi
      subst e9
      have hi := hi9
      clear hi9
      obtain ⟨a, e9, hi9⟩ := mm_r_s hi
      clear hi
      subst e9
      have hi := hi9
      clear hi9
      obtain ⟨c0, hc0, hi9⟩ := mm_n_s hi
      clear hi
      have hi := hi9
      clear hi9
      obtain ⟨ty', n, M, e9, hi9⟩ := mm_ar_s hi
      clear hi
      subst e9
      have hi := hi9
      clear hi9
      obtain ⟨g, hi9⟩ := mm_b_s hi
      clear hi
      have hi := hi9
      clear hi9
      obtain rfl := beq_s g
      obtain ⟨g1, hi9⟩ := mm_b_s hi
      clear hi
      have hi := hi9
      clear hi9
      obtain ⟨g2, hi9⟩ := mm_b_s hi
      clear hi
      have hi := hi9
      clear hi9
      obtain ⟨g3, hi9⟩ := mm_b_s hi
      clear hi
      have hi := hi9
      clear hi9
      have g1 := blt_s g1
      have g2 := ble_s g2
      obtain ⟨h2, hi⟩ := mm_u_s (mm_f_s hi)
      refine va_iast hx hb hK hH.1 wo_D hH.2.1 a 0 (wo_at hc0) rfl (i := nI i) (x := nI v) (vp_in_nI g1 (by omega)) hd (fun H1 locs1 hP _ hS => ?_)
      rw [nI_clamp (by omega)] at hP
      refine hn _ _ _ hi ls H1 locs1 cells slots hl (hH.set h2 ?_ hS)
      have e9 : (fun j => nI (mm_gt (mm_st M i v) j)) = upd (fun j => nI (mm_gt M j)) i (nI v) := by
        funext q
        rw [gt_set]
        by_cases hq : q = i
        · subst hq
          rw [if_pos rfl, nI_md]
          simp [upd]
        · rw [if_neg hq]
          simp [upd, hq]
      rw [show ce d E.2 (.inl (0, n, mm_st M i v)) = .inl (E.2 0, n, .inl (fun j => nI (mm_gt (mm_st M i v) j))) from rfl, e9]
      exact hP
    · clear hi
      have hi := hi9
      clear hi9
      cases hi
  · clear hi
    have hi := hi9
    clear hi9
    cases hi
theorem s_ald1 (hx : p.tables.exec = Jvm.exec) (hb : c.code = cc) (hK : va_K E.1 xcl (xtys E.2) s) (hd : decode cc pc = .ok (.caload, 1)) : HS (OKs p l e R s m args below meth c Q d E nL) F cO kO pcs pc (h_ald 1) (pc + 1) := by
  intro call j K nx L S h hcall hj hK0 hn hi ls H locs cells slots hl hH
  obtain ⟨y, S, e9, hi9⟩ := mm_p_s hi
  clear hi
  subst e9
  have hi := hi9
  clear hi9
  obtain ⟨x, S, e9, hi9⟩ := mm_p_s hi
  clear hi
  subst e9
  have hi := hi9
  clear hi9
  rcases mm_i_s hi with ⟨i, e9, hi9⟩ | hi9
  · clear hi
    subst e9
    have hi := hi9
    clear hi9
    obtain ⟨a, e9, hi9⟩ := mm_r_s hi
    clear hi
    subst e9
    have hi := hi9
    clear hi9
    obtain ⟨c0, hc0, hi9⟩ := mm_n_s hi
    clear hi
    have hi := hi9
    clear hi9
    obtain ⟨ty', n, M, e9, hi9⟩ := mm_ar_s hi
    clear hi
    subst e9
    have hi := hi9
    clear hi9
    obtain ⟨g, hi9⟩ := mm_b_s hi
    clear hi
    have hi := hi9
    clear hi9
    obtain rfl := beq_s g
    obtain ⟨g1, hi9⟩ := mm_b_s hi
    clear hi
    have hi := hi9
    clear hi9
    obtain ⟨g2, hi9⟩ := mm_b_s hi
    clear hi
    have hi := hi9
    clear hi9
    have g1 := blt_s g1
    have g2 := ble_s g2
    have k9 := hn _ _ _ (mm_f_s hi) ls H locs cells slots hl hH
    refine va_cald hx hb hK hH.1 a 1 (wo_at hc0) rfl (i := nI i) (vp_in_nI g1 (by omega)) hd ?_
    rw [nI_clamp (by omega)]
    exact k9
  · clear hi
    have hi := hi9
    clear hi9
    cases hi
theorem s_ast1 (hx : p.tables.exec = Jvm.exec) (hb : c.code = cc) (hK : va_K E.1 xcl (xtys E.2) s) (hd : decode cc pc = .ok (.castore, 1)) : HS (OKs p l e R s m args below meth c Q d E nL) F cO kO pcs pc (h_ast 1) (pc + 1) := by
  intro call j K nx L S h hcall hj hK0 hn hi ls H locs cells slots hl hH
  obtain ⟨z, S, e9, hi9⟩ := mm_p_s hi
  clear hi
  subst e9
  have hi := hi9
  clear hi9
  obtain ⟨y, S, e9, hi9⟩ := mm_p_s hi
  clear hi
  subst e9
  have hi := hi9
  clear hi9
  obtain ⟨x, S, e9, hi9⟩ := mm_p_s hi
  clear hi
  subst e9
  have hi := hi9
  clear hi9
  rcases mm_i_s hi with ⟨v, e9, hi9⟩ | hi9
  · clear hi
    subst e9
    have hi := hi9
    clear hi9
    rcases mm_i_s hi with ⟨i, e9, hi9⟩ | hi9
    · clear hi
      subst e9
      have hi := hi9
      clear hi9
      obtain ⟨a, e9, hi9⟩ := mm_r_s hi
      clear hi
      subst e9
      have hi := hi9
      clear hi9
      obtain ⟨c0, hc0, hi9⟩ := mm_n_s hi
      clear hi
      have hi := hi9
      clear hi9
      obtain ⟨ty', n, M, e9, hi9⟩ := mm_ar_s hi
      clear hi
      subst e9
      have hi := hi9
      clear hi9
      obtain ⟨g, hi9⟩ := mm_b_s hi
      clear hi
      have hi := hi9
      clear hi9
      obtain rfl := beq_s g
      obtain ⟨g1, hi9⟩ := mm_b_s hi
      clear hi
      have hi := hi9
      clear hi9
      obtain ⟨g2, hi9⟩ := mm_b_s hi
      clear hi
      have hi := hi9
      clear hi9
      obtain ⟨g3, hi9⟩ := mm_b_s hi
      clear hi
      have hi := hi9
      clear hi9
      have g1 := blt_s g1
      have g2 := ble_s g2
      obtain ⟨h2, hi⟩ := mm_u_s (mm_f_s hi)
      refine va_cast hx hb hK hH.1 wo_D hH.2.1 a 1 (wo_at hc0) rfl (i := nI i) (x := nI v) (vp_in_nI g1 (by omega)) hd (fun H1 locs1 hP _ hS => ?_)
      rw [nI_clamp (by omega)] at hP
      refine hn _ _ _ hi ls H1 locs1 cells slots hl (hH.set h2 ?_ hS)
      have e9 : (fun j => nI (mm_gt (mm_st M i v) j)) = upd (fun j => nI (mm_gt M j)) i (vp_nar .char (nI v)) := by
        funext q
        rw [gt_set]
        by_cases hq : q = i
        · subst hq
          rw [if_pos rfl, nI_md, show vp_nar .char (nI v) = nI v from nar_c v (ble_s g3)]
          simp [upd]
        · rw [if_neg hq]
          simp [upd, hq]
      rw [show ce d E.2 (.inl (1, n, mm_st M i v)) = .inl (E.2 1, n, .inl (fun j => nI (mm_gt (mm_st M i v) j))) from rfl, e9]
      exact hP
    · clear hi
      have hi := hi9
      clear hi9
      cases hi
  · clear hi
    have hi := hi9
    clear hi9
    cases hi
theorem s_alen (hx : p.tables.exec = Jvm.exec) (hb : c.code = cc) (hK : va_K E.1 xcl (xtys E.2) s) (hd : decode cc pc = .ok (.arraylength, 1)) : HS (OKs p l e R s m args below meth c Q d E nL) F cO kO pcs pc h_alen (pc + 1) := by
  intro call j K nx L S h hcall hj hK0 hn hi ls H locs cells slots hl hH
  obtain ⟨x, S, e9, hi9⟩ := mm_p_s hi
  clear hi
  subst e9
  have hi := hi9
  clear hi9
  obtain ⟨a, e9, hi9⟩ := mm_r_s hi
  clear hi
  subst e9
  have hi := hi9
  clear hi9
  obtain ⟨c0, hc0, hi9⟩ := mm_n_s hi
  clear hi
  have hi := hi9
  clear hi9
  rcases c0 with ⟨ty, n, M⟩ | b | ⟨ty, es⟩
  · obtain ⟨g, hi9⟩ := mm_b_s hi
    clear hi
    have hi := hi9
    clear hi9
    exact va_alen (v := nI n) hx hb hK hH.1 a ty (wo_at hc0) (xtys_at E.2 (ble_s g)) rfl hd (hn _ _ _ hi ls H locs cells slots hl hH)
  · cases hi
  · obtain ⟨g, hi9⟩ := mm_b_s hi
    clear hi
    have hi := hi9
    clear hi9
    exact va_alen (v := nI es.length) hx hb hK hH.1 a ty (wo_at hc0) (xtys_at E.2 (ble_s g)) rfl hd (hn _ _ _ (mm_f_s hi) ls H locs cells slots hl hH)
theorem rf_at {es : List mV} {i v : Nat} (h : es[i]? = some (.inr (.inl v))) : rf d es[i]? = some (d.1 + v) := by rw [h]; rfl
theorem s_aald (hx : p.tables.exec = Jvm.exec) (hb : c.code = cc) (hK : va_K E.1 xcl (xtys E.2) s) (hd : decode cc pc = .ok (.aaload, 1)) : HS (OKs p l e R s m args below meth c Q d E nL) F cO kO pcs pc h_aald (pc + 1) := by
  intro call j K nx L S h hcall hj hK0 hn hi ls H locs cells slots hl hH
  obtain ⟨y, S, e9, hi9⟩ := mm_p_s hi
  clear hi
  subst e9
  have hi := hi9
  clear hi9
  obtain ⟨x, S, e9, hi9⟩ := mm_p_s hi
  clear hi
  subst e9
  have hi := hi9
  clear hi9
  rcases mm_i_s hi with ⟨i, e9, hi9⟩ | hi9
  · clear hi
    subst e9
    have hi := hi9
    clear hi9
    obtain ⟨a, e9, hi9⟩ := mm_r_s hi
    clear hi
    subst e9
    have hi := hi9
    clear hi9
    obtain ⟨c0, hc0, hi9⟩ := mm_n_s hi
    clear hi
    have hi := hi9
    clear hi9
    obtain ⟨ty, es, e9, hi9⟩ := mm_rr_s hi
    clear hi
    subst e9
    have hi := hi9
    clear hi9
    obtain ⟨g1, hi9⟩ := mm_b_s hi
    clear hi
    have hi := hi9
    clear hi9
    obtain ⟨g2, hi9⟩ := mm_b_s hi
    clear hi
    have hi := hi9
    clear hi9
    obtain ⟨g3, hi9⟩ := mm_b_s hi
    clear hi
    have hi := hi9
    clear hi9
    have g1 := ble_s g1
    have g2 := ble_s g2
    have g3 := ble_s g3
    obtain ⟨v, hv, hi9⟩ := mm_n_s hi
    clear hi
    have hi := hi9
    clear hi9
    obtain ⟨q, e9, hi9⟩ := mm_r_s hi
    clear hi
    subst e9
    have hi := hi9
    clear hi9
    have hlt : i < es.length := (List.getElem?_eq_some_iff.mp hv).1
    have hrt : (xty ty).isReference = true := by
      rcases ty with _ | _ | _ | _ | _ | ty
      · omega
      · omega
      · rfl
      · rfl
      · rfl
      · omega
    have k9 := hn _ _ _ hi ls H locs cells slots hl hH
    have hcell := hH.1 a _ (wo_at hc0)
    have hin : vp_in (nI i) es.length := vp_in_nI hlt (by omega)
    refine W.aald (v := .ref (d.1 + q)) (ty := xty ty) hx hb hcell ((hK.2 ty _ (xtys_at E.2 g1)).1 es.length (fun j => va_rf (rf d es[j]?))) hrt (fun q => by cases q) (by show ¬ (nI i < 0 ∨ (arrV _ _ _).slots.size ≤ _); rw [arrV_size]; exact hin) ?_ rfl rfl hd k9
    show (arrV _ _ _).slots[_]? = _
    rw [nI_clamp (by omega), arrV_read _ _ hlt]
    show some (va_rf (rf d es[i]?)) = _
    rw [rf_at (d := d) hv]
    rfl
  · clear hi
    have hi := hi9
    clear hi9
    cases hi
end SND
end
section
/-! a method's end, switches, arrays of references, making -/
/-- what a run's end is in the machine -/
def QcM (d : mD) (E : mE) (K : mK) (mc : Nat) : Array Value → State → Outcome → State → Prop := fun _ st oc t => ∃ (v : Option mV) (hp : List mC), K v hp = true ∧ oc = .returned (v.map (dn d)) ∧ va_P E.1 xcl (wo d E.2 d.1 hp) t.heap ∧ va_F (fun q => d.1 ≤ q) st t ∧ (d.2.2.2.2 = true → st.heap.size + mc = d.1 + hp.length)
theorem nar_z (a : Nat) (h : a ≤ 1) : narrow .boolean (.int (nI a)) = .int (nI a) := by
  rcases a with _ | _ | a
  · rfl
  · rfl
  · omega
theorem nar_c2 (a : Nat) (h : a ≤ 65535) : narrow .char (.int (nI a)) = .int (nI a) := (pk_charN (q := a) (by omega)).1
theorem def_ref {t : FieldType} (h : t.isReference = true) : defaultValue t = .null := by
  cases t <;> first | rfl | cases h
def kz : Option mV → Nat
  | some (.inl 0) => 0
  | some (.inr (.inr (.inr (.inr (.inr 0))))) => 1
  | _ => 2
theorem kz_0 {x : Option mV} (h : kz x = 0) : x = some (.inl 0) := by
  rcases x with _ | n | n | n | n | n | n
  · cases h
  · cases n with
    | zero => rfl
    | succ n => cases h
  · cases h
  · cases h
  · cases h
  · cases h
  · cases n with
    | zero => cases h
    | succ n => cases h
theorem kz_1 {x : Option mV} (h : kz x = 1) : x = some (.inr (.inr (.inr (.inr (.inr 0))))) := by
  rcases x with _ | n | n | n | n | n | n
  · cases h
  · cases n with
    | zero => cases h
    | succ n => cases h
  · cases h
  · cases h
  · cases h
  · cases h
  · cases n with
    | zero => rfl
    | succ n => cases h
theorem cat_sum (d : mD) (S : List mV) (h : S.length ≤ 4) : (((S.map (dn d)).map fun v => v.category).sum) ≤ 8 := by
  have h1 : ∀ S : List mV, (((S.map (dn d)).map fun v => v.category).sum) ≤ 2 * S.length := by
    intro S
    induction S with
    | nil => exact Nat.le_refl _
    | cons x S ih =>
      rw [List.map_cons, List.map_cons, List.sum_cons, List.length_cons]
      have := lv_cat (dn d x)
      omega
  have := h1 S
  omega
section SND
variable {p : Program} {l : Launch} {e : Env} {R : Room} {s : State} {m : MethodId} {args : Array Value} {below : List Frame} {meth : Method} {c : Code} {Q : State → Prop}
variable {cc : ByteArray} {d : mD} {E : mE} {nL pc : Nat} {F : mF} {cO : mA → Prop} {kO : mK → Prop} {pcs : Nat → Nat} {K0 : mK} {mc ms : Nat}
theorem s_ireturn (hx : p.tables.exec = Jvm.exec) (hb : c.code = cc) (hr : meth.sig.returnType = some .int) (hlocks : meth.locks = false) {pc' : Nat} (hd : decode cc pc = .ok (.ireturn, 1)) : HS (OKs p l e R s m args below meth c (MQ below (QcM d E K0 mc) args s mc ms (fun q => d.1 ≤ q)) d E nL) F cO (fun K => K = K0) pcs pc (h_ireturn mc ms) pc' := by
  intro call j K nx L S h hcall hj hK0 hn hi ls H locs cells slots hl hH
  obtain ⟨x, S, e9, hi9⟩ := mm_p_s hi
  clear hi
  subst e9
  have hi := hi9
  clear hi9
  obtain ⟨e8, hi9⟩ := mm_z_s hi
  clear hi
  have hi := hi9
  clear hi9
  subst e8
  obtain ⟨⟨z, hz⟩, hi9⟩ := mm_ci_s d hi
  clear hi
  have hi := hi9
  clear hi9
  obtain ⟨g1, hi9⟩ := mm_b_s hi
  clear hi
  have hi := hi9
  clear hi9
  obtain ⟨g2, hi9⟩ := mm_b_s hi
  clear hi
  have hi := hi9
  clear hi9
  have g1 := beq_s g1
  have g2 := beq_s g2
  obtain ⟨h1, h2, h3, h4, h5, h6, h7⟩ := hH
  have e1 : cells = mc := h4.trans g1
  have e2 : slots = ms := h5.trans g2
  subst e1
  subst e2
  subst hK0
  rw [List.map_cons, hz]
  exact W.iret (v := z) hx hb hr (fun t ht hW => ⟨some x, h.2.2.2, hi, by rw [Option.map_some, hz], by rw [ht]; exact h1, h2.F ht, fun q => by rw [← g1]; exact h3.2 (h3.1.trans q)⟩) h2.2.2 hd hlocks
theorem s_zreturn (hx : p.tables.exec = Jvm.exec) (hb : c.code = cc) {ty : FieldType} {bd : Nat} (hr : meth.sig.returnType = some ty) (hnar : ∀ a, a ≤ bd → narrow ty (.int (nI a)) = .int (nI a)) (hlocks : meth.locks = false) {pc' : Nat} (hd : decode cc pc = .ok (.ireturn, 1)) : HS (OKs p l e R s m args below meth c (MQ below (QcM d E K0 mc) args s mc ms (fun q => d.1 ≤ q)) d E nL) F cO (fun K => K = K0) pcs pc (h_zreturn bd mc ms) pc' := by
  intro call j K nx L S h hcall hj hK0 hn hi ls H locs cells slots hl hH
  obtain ⟨x, S, e9, hi9⟩ := mm_p_s hi
  clear hi
  subst e9
  have hi := hi9
  clear hi9
  obtain ⟨e8, hi9⟩ := mm_z_s hi
  clear hi
  have hi := hi9
  clear hi9
  subst e8
  rcases mm_i_s hi with ⟨a, e9, hi9⟩ | hi9
  · clear hi
    subst e9
    have hi := hi9
    clear hi9
    obtain ⟨g0, hi9⟩ := mm_b_s hi
    clear hi
    have hi := hi9
    clear hi9
    obtain ⟨g1, hi9⟩ := mm_b_s hi
    clear hi
    have hi := hi9
    clear hi9
    obtain ⟨g2, hi9⟩ := mm_b_s hi
    clear hi
    have hi := hi9
    clear hi9
    have g1 := beq_s g1
    have g2 := beq_s g2
    obtain ⟨h1, h2, h3, h4, h5, h6, h7⟩ := hH
    have e1 : cells = mc := h4.trans g1
    have e2 : slots = ms := h5.trans g2
    subst e1
    subst e2
    subst hK0
    exact W.zret (v := nI a) hx hb hr (hnar a (ble_s g0)) (fun t ht hW => ⟨some (.inl a), h.2.2.2, hi, rfl, by rw [ht]; exact h1, h2.F ht, fun q => by rw [← g1]; exact h3.2 (h3.1.trans q)⟩) h2.2.2 hd hlocks
  · clear hi
    have hi := hi9
    clear hi9
    cases hi
theorem s_return (hx : p.tables.exec = Jvm.exec) (hb : c.code = cc) (hr : meth.sig.returnType = none) (hlocks : meth.locks = false) {pc' : Nat} (hd : decode cc pc = .ok (.return_, 1)) : HS (OKs p l e R s m args below meth c (MQ below (QcM d E K0 mc) args s mc ms (fun q => d.1 ≤ q)) d E nL) F cO (fun K => K = K0) pcs pc (h_return mc ms) pc' := by
  intro call j K nx L S h hcall hj hK0 hn hi ls H locs cells slots hl hH
  obtain ⟨e8, hi9⟩ := mm_z_s hi
  clear hi
  have hi := hi9
  clear hi9
  subst e8
  obtain ⟨g1, hi9⟩ := mm_b_s hi
  clear hi
  have hi := hi9
  clear hi9
  obtain ⟨g2, hi9⟩ := mm_b_s hi
  clear hi
  have hi := hi9
  clear hi9
  have g1 := beq_s g1
  have g2 := beq_s g2
  obtain ⟨h1, h2, h3, h4, h5, h6, h7⟩ := hH
  have e1 : cells = mc := h4.trans g1
  have e2 : slots = ms := h5.trans g2
  subst e1
  subst e2
  subst hK0
  exact W.vret hx hb hr (fun t ht hW => ⟨none, h.2.2.2, hi, rfl, by rw [ht]; exact h1, h2.F ht, fun q => by rw [← g1]; exact h3.2 (h3.1.trans q)⟩) h2.2.2 hd hlocks
theorem s_table_sym {x' : Int32} {lo : Nat} (hlo : lo ≤ 65535) : (cmpP 2 x' (nI lo) → x'.toInt < (lo : Int)) ∧ (cmpP 4 x' (nI lo) → (lo : Int) < x'.toInt) := by
  have e := nI_toInt (n := lo) (by omega)
  constructor
  · intro h
    have := Int32.lt_iff_toInt_lt.mp (show x' < nI lo from h)
    rw [e] at this
    exact this
  · intro h
    have := Int32.lt_iff_toInt_lt.mp (show nI lo < x' from h)
    rw [e] at this
    exact this
theorem s_table (hx : p.tables.exec = Jvm.exec) (hb : c.code = cc) {b0 lo : Nat} {bs : List Nat} {hi' : Int} {offs : Array Int} {len pc' : Nat} (hd : decode cc pc = .ok (.tableswitch ((pcs b0 : Int) - (pc : Int)) (lo : Int) hi' offs, len)) (hhi : hi' = (lo : Int) + (bs.length : Int) - 1) (h0 : 0 < bs.length) (hle : lo + bs.length ≤ 65535) (ho : ∀ k, k < bs.length → offs[k]? = some ((pcs (bs.getD k 0) : Int) - (pc : Int))) (hF : FOK d F) : HS (OKs p l e R s m args below meth c Q d E nL) F cO kO pcs pc (h_table b0 lo bs) pc' := by
  intro call j K nx L S h hcall hj hK0 hn hi ls H locs cells slots hl hH
  obtain ⟨x, S, e9, hi9⟩ := mm_p_s hi
  clear hi
  subst e9
  have hi := hi9
  clear hi9
  rcases mm_i_s hi with ⟨a, e9, hi9⟩ | hi9
  · clear hi
    subst e9
    have hi := hi9
    clear hi9
    rcases mm_t_s hi with ⟨g, hi⟩ | ⟨g, hi⟩
    · have g := ble_s g
      have e1 : (nI a).toInt = (a : Int) := nI_toInt (by omega)
      rcases mm_t_s hi with ⟨g1, hi⟩ | ⟨g1, hi⟩
      · have g1 := blt_s g1
        exact lv_tableOut (tgt := pcs b0) hx hb hd (Or.inl (by rw [e1]; omega)) (by omega) (hj _ _ _ _ hi ls H locs cells slots hl hH)
      · have g1 : ¬ a < lo := fun q => by rw [show Nat.blt a lo = true from Nat.ble_eq_true_of_le q] at g1; cases g1
        rcases mm_t_s hi with ⟨g2, hi⟩ | ⟨g2, hi⟩
        · have g2 : a - lo < bs.length := blt_s g2
          obtain ⟨b, hb1, hi9⟩ := mm_n_s hi
          clear hi
          have hi := hi9
          clear hi9
          have hb2 : bs.getD (a - lo) 0 = b := by
            rw [List.getD_eq_getElem?_getD]
            show (bs[Nat.sub a lo]?).getD 0 = b
            rw [hb1]
            rfl
          have ho1 := ho (a - lo) g2
          rw [hb2] at ho1
          exact lv_tableIn (tgt := pcs b) hx hb hd (by rw [e1]; omega) (by rw [e1]; omega) (by rw [e1, show ((a : Int) - (lo : Int)).toNat = a - lo by omega]; exact ho1) (by omega) (hj _ _ _ _ hi ls H locs cells slots hl hH)
        · have g2 : ¬ a - lo < bs.length := fun q => by rw [show Nat.blt (Nat.sub a lo) bs.length = true from Nat.ble_eq_true_of_le q] at g2; cases g2
          exact lv_tableOut (tgt := pcs b0) hx hb hd (Or.inr (by rw [e1]; omega)) (by omega) (hj _ _ _ _ hi ls H locs cells slots hl hH)
    · obtain ⟨g1, hi9⟩ := mm_b_s hi
      clear hi
      have hi := hi9
      clear hi9
      have g1 := ble_s g1
      have g : ¬ a ≤ 2147483647 := fun q => by rw [Nat.ble_eq_true_of_le q] at g; cases g
      have e1 : (nI a).toInt = (a : Int) - 4294967296 := by
        rw [nI_ti]
        show (((a + 2147483648) % 4294967296 : Nat) : Int) - 2147483648 = _
        omega
      exact lv_tableOut (tgt := pcs b0) hx hb hd (Or.inl (by rw [e1]; omega)) (by omega) (hj _ _ _ _ hi ls H locs cells slots hl hH)
  · clear hi
    have hi := hi9
    clear hi9
    obtain ⟨r, ⟨x', y', e1, e2, e3⟩, e9, hi⟩ := mm_k_s (op := 12) hF hi
    obtain rfl : y' = nI lo := (Value.int.inj e2).symm
    rcases e9 (by decide) with rfl | rfl
    · obtain ⟨r, ⟨x2, y2, f1, f2, f3⟩, f9, hi⟩ := mm_k_s (op := 14) hF hi
      obtain rfl : y2 = nI (Nat.add lo (Nat.sub bs.length 1)) := (Value.int.inj f2).symm
      rcases f9 (by decide) with rfl | rfl
      · cases hi
      · have f4 : cmpP 4 x2 (nI (Nat.add lo (Nat.sub bs.length 1))) := by
          rcases f3 with ⟨q, -⟩ | ⟨-, q⟩
          · exact q
          · exact absurd (Value.int.inj q) (by decide)
        have f5 := (s_table_sym (x' := x2) (lo := Nat.add lo (Nat.sub bs.length 1)) (by show lo + (bs.length - 1) ≤ 65535; omega)).2 f4
        rw [List.map_cons, f1]
        exact lv_tableOut (tgt := pcs b0) hx hb hd (Or.inr (by
          have f6 : ((lo + (bs.length - 1) : Nat) : Int) < x2.toInt := f5
          omega)) (by omega) (hj _ _ _ _ hi ls H locs cells slots hl hH)
    · have e4 : cmpP 2 x' (nI lo) := by
        rcases e3 with ⟨q, -⟩ | ⟨-, q⟩
        · exact q
        · exact absurd (Value.int.inj q) (by decide)
      rw [List.map_cons, e1]
      exact lv_tableOut (tgt := pcs b0) hx hb hd (Or.inl ((s_table_sym (by omega)).1 e4)) (by omega) (hj _ _ _ _ hi ls H locs cells slots hl hH)
theorem rf_set {es : List mV} {i q : Nat} (hi : i < es.length) : (fun j => rf d (es.set i (.inr (.inl q)))[j]?) = va_up (fun j => rf d es[j]?) i (some (d.1 + q)) := by
  funext j
  unfold va_up
  by_cases h : j = i
  · subst h
    rw [if_pos rfl, List.getElem?_set_self hi]
    rfl
  · rw [if_neg h, List.getElem?_set_ne (Ne.symm h)]
theorem s_aast (hx : p.tables.exec = Jvm.exec) (hb : c.code = cc) {ty ci : Nat} {r : vw_C} (hK : va_K E.1 xcl (xtys E.2) s) (hty : ty ≤ 4) (hc : xcl[ci]? = some r) (hr : xty ty = .object r.1) (hd : decode cc pc = .ok (.aastore, 1)) : HS (OKs p l e R s m args below meth c Q d E nL) F cO kO pcs pc (h_aast ty ci) (pc + 1) := by
  intro call j K nx L S h hcall hj hK0 hn hi ls H locs cells slots hl hH
  obtain ⟨z, S, e9, hi9⟩ := mm_p_s hi
  clear hi
  subst e9
  have hi := hi9
  clear hi9
  obtain ⟨y, S, e9, hi9⟩ := mm_p_s hi
  clear hi
  subst e9
  have hi := hi9
  clear hi9
  obtain ⟨x, S, e9, hi9⟩ := mm_p_s hi
  clear hi
  subst e9
  have hi := hi9
  clear hi9
  obtain ⟨q, e9, hi9⟩ := mm_r_s hi
  clear hi
  subst e9
  have hi := hi9
  clear hi9
  rcases mm_i_s hi with ⟨i, e9, hi9⟩ | hi9
  · clear hi
    subst e9
    have hi := hi9
    clear hi9
    obtain ⟨a, e9, hi9⟩ := mm_r_s hi
    clear hi
    subst e9
    have hi := hi9
    clear hi9
    obtain ⟨c1, hc1, hi9⟩ := mm_n_s hi
    clear hi
    have hi := hi9
    clear hi9
    obtain ⟨ci', fs, e9, hi9⟩ := mm_ob_s hi
    clear hi
    subst e9
    have hi := hi9
    clear hi9
    obtain ⟨g, hi9⟩ := mm_b_s hi
    clear hi
    have hi := hi9
    clear hi9
    obtain rfl := beq_s g
    obtain ⟨c0, hc0, hi9⟩ := mm_n_s hi
    clear hi
    have hi := hi9
    clear hi9
    obtain ⟨ty', es, e9, hi9⟩ := mm_rr_s hi
    clear hi
    subst e9
    have hi := hi9
    clear hi9
    obtain ⟨g, hi9⟩ := mm_b_s hi
    clear hi
    have hi := hi9
    clear hi9
    obtain rfl := beq_s g
    obtain ⟨g3, hi9⟩ := mm_b_s hi
    clear hi
    have hi := hi9
    clear hi9
    have g3 := ble_s g3
    obtain ⟨h1, hi9⟩ := mm_u_s hi
    clear hi
    have hi := hi9
    clear hi9
    obtain ⟨h2, hi9⟩ := mm_u_s hi
    clear hi
    have hi := hi9
    clear hi9
    refine va_astq (r := r) hx hb hK hH.1 wo_D hH.2.1 a ty' q ci' (wo_at hc0) (by rw [xtys_at E.2 hty, hr]) (wo_at hc1) hc (i := nI i) (vp_in_nI h1 (by omega)) hd (fun H1 locs1 hP _ hS => ?_)
    rw [nI_clamp (by omega)] at hP
    refine hn _ _ _ hi ls H1 locs1 cells slots hl (hH.set h2 ?_ hS)
    rw [show ce d E.2 (.inr (.inr (ty', es.set i (.inr (.inl q))))) = .inl (E.2 ty', (es.set i (.inr (.inl q))).length, .inr (.inr (.inr (.inr (fun j => rf d (es.set i (.inr (.inl q)))[j]?))))) from rfl, rf_set h1, List.length_set]
    exact hP
  · clear hi
    have hi := hi9
    clear hi9
    cases hi
/-- the cell that came lies behind the world -/
theorem al_q {h : mH} {H1 : Heap} {q cells sl : Nat} {e0 : va_E} {T : State} {locs : List Loc} (hs : s.heap.size + h.2.1 = d.1 + h.2.2.2.length) (hc : cells = h.2.1) (hP : va_P E.1 xcl (wo d E.2 d.1 h.2.2.2 ++ [(q, e0)]) H1) (hD : va_D (fun q => d.1 ≤ q) (wo d E.2 d.1 h.2.2.2 ++ [(q, e0)])) (hT : T.heap = H1) (X : Stand p l e R s m args below meth c T locs (cells + 1) sl) : q = d.1 + h.2.2.2.length := by
  have wl : ∀ (hp : List mC) (b : Nat), (wo d E.2 b hp).length = hp.length := by
    intro hp
    induction hp with
    | nil => intro b; rfl
    | cons c t ih => intro b; show (wo d E.2 (b + 1) t).length + 1 = t.length + 1; rw [ih]
  have hk : (wo d E.2 d.1 h.2.2.2 ++ [(q, e0)])[h.2.2.2.length]? = some (q, e0) := by
    rw [List.getElem?_append_right (by rw [wl]; exact Nat.le_refl _), wl, Nat.sub_self]
    rfl
  have h1 := (hP _ _ hk).lt
  have h2 : T.heap.size ≤ s.heap.size + (cells + 1) := X.heapSize
  rw [hT] at h2
  have h3 : d.1 ≤ q := hD.2 _ _ hk
  by_cases hlt : q < d.1 + h.2.2.2.length
  · exfalso
    have hi : q - d.1 < h.2.2.2.length := by omega
    have hg : (wo d E.2 d.1 h.2.2.2 ++ [(q, e0)])[q - d.1]? = some (d.1 + (q - d.1), ce d E.2 h.2.2.2[q - d.1]) := by
      rw [List.getElem?_append_left (by rw [wl]; exact hi)]
      exact wo_at (List.getElem?_eq_getElem hi)
    have := hD.1 _ _ _ _ hg hk (by show d.1 + (q - d.1) = q; omega)
    omega
  · omega
/-- the world, longer by one -/
theorem HR.push {h : mH} {H H1 : Heap} {locs : List Loc} {cells slots nc ns : Nat} {c0 : mC} (hH : HR d E s R h H locs cells slots) (ht : h.1 = true) (hnc : nc = h.2.1 + 1) (h6 : nc ≤ R.cells) (h7 : ns ≤ R.slots) (hP : va_P E.1 xcl (wo d E.2 d.1 h.2.2.2 ++ [(d.1 + h.2.2.2.length, ce d E.2 c0)]) H1) (hS : va_S (fun q => d.1 ≤ q) s.heap H1 locs) :
    HR d E s R (true, nc, ns, h.2.2.2 ++ [c0]) H1 locs nc ns := by
  refine ⟨?_, hS, ⟨ht.symm.trans hH.2.2.1.1, fun _ => ?_⟩, rfl, rfl, h6, h7⟩
  · show va_P E.1 xcl (wo d E.2 d.1 (h.2.2.2 ++ [c0])) H1
    rw [wo_app]
    exact hP
  · show s.heap.size + nc = d.1 + (h.2.2.2 ++ [c0]).length
    have := hH.2.2.1.2 ht
    rw [List.length_append, hnc]
    show s.heap.size + (h.2.1 + 1) = d.1 + (h.2.2.2.length + 1)
    omega
theorem s_new (hx : p.tables.exec = Jvm.exec) (hb : c.code = cc) {own C : String} {T : u_T} {N ci index : Nat} {fs : List mV} {Ts : List Cond} (hts : ∀ w ∈ Ts, w.before args s = true) (hin : ∀ w ∈ u_ws C T N, w ∈ Ts) (ty : Nat → FieldType) (hty : ∀ k, k < N → parseFieldDescriptor (T k).2.2.1 = some (ty k)) (hown : s.vm.findClass own = some m.cls) (hcl : (Cond.classLink own index C).before args s = true) (hinst : (Cond.instantiable C N).before args s = true) (hini : (Cond.initialized C).before args s = true) (hK : va_K E.1 xcl (xtys E.2) s) (hc : xcl[ci]? = some (C, T, N)) (hb0 : d.1 ≤ s.heap.size)
    (hlen : fs.length = N) (hfs : ∀ j, j < N → (kz fs[j]? = 0 ∧ ty j = .int) ∨ (kz fs[j]? = 1 ∧ (ty j).isReference = true)) (hd : decode cc pc = .ok (.new index, 3)) : HS (OKs p l e R s m args below meth c Q d E nL) F cO kO pcs pc (h_new ci fs R.cells R.slots) (pc + 3) := by
  intro call j K nx L S h hcall hj hK0 hn hi ls H locs cells slots hl hH
  obtain ⟨g0, hi9⟩ := mm_b_s hi
  clear hi
  have hi := hi9
  clear hi9
  have hi := mm_f_s hi
  have hi := mm_f_s hi
  obtain ⟨g1, hi9⟩ := mm_b_s hi
  clear hi
  have hi := hi9
  clear hi9
  obtain ⟨g2, hi9⟩ := mm_b_s hi
  clear hi
  have hi := hi9
  clear hi9
  have hi := mm_f_s hi
  have g1 : h.2.1 + 1 ≤ R.cells := ble_s g1
  have g2 : h.2.2.1 + fs.length ≤ R.slots := ble_s g2
  have e1 := hH.2.2.2.1
  have e2 := hH.2.2.2.2.1
  refine va_new (ci := ci) (fs := fs.map (dn d)) hx hb hts hin ty hty hown hcl hinst hini hK hH.1 wo_D hH.2.1 (fun q h9 => Nat.le_trans hb0 h9) hc (fun j hj => ?_) (by rw [e1]; exact g1) (by rw [e2, ← hlen]; exact g2) hd (fun q H1 hP hD hS => ?_)
  · unfold vp_V
    rw [List.getD_eq_getElem?_getD, List.getElem?_map]
    rcases hfs j hj with ⟨h1, h2⟩ | ⟨h1, h2⟩
    · rw [kz_0 h1, h2]; rfl
    · rw [kz_1 h1, def_ref h2]; rfl
  · intro T9 hT9 X9
    have hq := al_q (hH.2.2.1.2 g0) e1 hP hD hT9 X9
    subst hq
    subst e1
    subst e2
    subst hlen
    exact hn _ _ _ hi ls H1 locs _ _ hl (hH.push g0 rfl g1 g2 hP hS) T9 hT9 X9
theorem s_newa0 (hx : p.tables.exec = Jvm.exec) (hb : c.code = cc) (harr : (Cond.arrayClass .int).before args s = true) (hK : va_K E.1 xcl (xtys E.2) s) (hb0 : d.1 ≤ s.heap.size) (hd : decode cc pc = .ok (.newarray .int, 2)) : HS (OKs p l e R s m args below meth c Q d E nL) F cO kO pcs pc (h_newa 0 R.cells R.slots) (pc + 2) := by
  intro call j K nx L S h hcall hj hK0 hn hi ls H locs cells slots hl hH
  obtain ⟨x, S, e9, hi9⟩ := mm_p_s hi
  clear hi
  subst e9
  have hi := hi9
  clear hi9
  rcases mm_i_s hi with ⟨n, e9, hi9⟩ | hi9
  · clear hi
    subst e9
    have hi := hi9
    clear hi9
    obtain ⟨g0, hi9⟩ := mm_b_s hi
    clear hi
    have hi := hi9
    clear hi9
    obtain ⟨g3, hi9⟩ := mm_b_s hi
    clear hi
    have hi := hi9
    clear hi9
    have g3 := ble_s g3
    have hi := mm_f_s hi
    have hi := mm_f_s hi
    obtain ⟨g1, hi9⟩ := mm_b_s hi
    clear hi
    have hi := hi9
    clear hi9
    obtain ⟨g2, hi9⟩ := mm_b_s hi
    clear hi
    have hi := hi9
    clear hi9
    have hi := mm_f_s hi
    have g1 : h.2.1 + 1 ≤ R.cells := ble_s g1
    have g2 : h.2.2.1 + n ≤ R.slots := ble_s g2
    have e1 := hH.2.2.2.1
    have e2 := hH.2.2.2.2.1
    refine va_newa (atype := .int) (ty := .int) (n := nI n) (N' := n) (a0 := (n, .inl (fun j => nI (mm_gt 0 j)))) hx hb harr rfl hK hH.1 wo_D hH.2.1 (fun q h9 => Nat.le_trans hb0 h9) (fun cA => ?_) (nI_pos (by omega)) (nI_clamp (by omega)) (by show n * 4 ≤ 536870912; omega) (by rw [e1]; exact g1) (by rw [e2]; exact g2) hd (fun q cA H1 hK2 hP hD hS => ?_)
    · rw [vp_cell_i]
      refine congrArg (arrV cA n) (funext fun j => ?_)
      rw [gt_div, Nat.zero_div]
      rfl
    · have hcA : cA = E.2 0 := by
        have h1 : va_RA s cA .int := (hK2.2 5 _ rfl).2
        have h2 : va_RA s (E.2 0) .int := (hK.2 0 _ rfl).2
        exact Option.some.inj (h1.symm.trans h2)
      subst hcA
      intro T9 hT9 X9
      have hq := al_q (hH.2.2.1.2 g0) e1 hP hD hT9 X9
      subst hq
      subst e1
      subst e2
      exact hn _ _ _ hi ls H1 locs _ _ hl (hH.push g0 rfl g1 g2 hP hS) T9 hT9 X9
  · clear hi
    have hi := hi9
    clear hi9
    cases hi
theorem s_newa1 (hx : p.tables.exec = Jvm.exec) (hb : c.code = cc) (harr : (Cond.arrayClass .char).before args s = true) (hK : va_K E.1 xcl (xtys E.2) s) (hb0 : d.1 ≤ s.heap.size) (hd : decode cc pc = .ok (.newarray .char, 2)) : HS (OKs p l e R s m args below meth c Q d E nL) F cO kO pcs pc (h_newa 1 R.cells R.slots) (pc + 2) := by
  intro call j K nx L S h hcall hj hK0 hn hi ls H locs cells slots hl hH
  obtain ⟨x, S, e9, hi9⟩ := mm_p_s hi
  clear hi
  subst e9
  have hi := hi9
  clear hi9
  rcases mm_i_s hi with ⟨n, e9, hi9⟩ | hi9
  · clear hi
    subst e9
    have hi := hi9
    clear hi9
    obtain ⟨g0, hi9⟩ := mm_b_s hi
    clear hi
    have hi := hi9
    clear hi9
    obtain ⟨g3, hi9⟩ := mm_b_s hi
    clear hi
    have hi := hi9
    clear hi9
    have g3 := ble_s g3
    have hi := mm_f_s hi
    have hi := mm_f_s hi
    obtain ⟨g1, hi9⟩ := mm_b_s hi
    clear hi
    have hi := hi9
    clear hi9
    obtain ⟨g2, hi9⟩ := mm_b_s hi
    clear hi
    have hi := hi9
    clear hi9
    have hi := mm_f_s hi
    have g1 : h.2.1 + 1 ≤ R.cells := ble_s g1
    have g2 : h.2.2.1 + n ≤ R.slots := ble_s g2
    have e1 := hH.2.2.2.1
    have e2 := hH.2.2.2.2.1
    refine va_newa (atype := .char) (ty := .char) (n := nI n) (N' := n) (a0 := (n, .inl (fun j => nI (mm_gt 0 j)))) hx hb harr rfl hK hH.1 wo_D hH.2.1 (fun q h9 => Nat.le_trans hb0 h9) (fun cA => ?_) (nI_pos (by omega)) (nI_clamp (by omega)) (by show n * 2 ≤ 536870912; omega) (by rw [e1]; exact g1) (by rw [e2]; exact g2) hd (fun q cA H1 hK2 hP hD hS => ?_)
    · rw [vp_cell_i]
      refine congrArg (arrV cA n) (funext fun j => ?_)
      rw [gt_div, Nat.zero_div]
      rfl
    · have hcA : cA = E.2 1 := by
        have h1 : va_RA s cA .char := (hK2.2 5 _ rfl).2
        have h2 : va_RA s (E.2 1) .char := (hK.2 1 _ rfl).2
        exact Option.some.inj (h1.symm.trans h2)
      subst hcA
      intro T9 hT9 X9
      have hq := al_q (hH.2.2.1.2 g0) e1 hP hD hT9 X9
      subst hq
      subst e1
      subst e2
      exact hn _ _ _ hi ls H1 locs _ _ hl (hH.push g0 rfl g1 g2 hP hS) T9 hT9 X9
  · clear hi
    have hi := hi9
    clear hi9
    cases hi
theorem s_newq (hx : p.tables.exec = Jvm.exec) (hb : c.code = cc) {ty : Nat} {own C : String} {index : Nat} (hown : s.vm.findClass own = some m.cls) (hclink : (Cond.classLink own index C).before args s = true) (hover : va_AO C s) (hty : ty ≤ 4) (hC : xty ty = .object C) (hK : va_K E.1 xcl (xtys E.2) s) (hb0 : d.1 ≤ s.heap.size) (hd : decode cc pc = .ok (.anewarray index, 3)) : HS (OKs p l e R s m args below meth c Q d E nL) F cO kO pcs pc (h_newq ty R.cells R.slots) (pc + 3) := by
  intro call j K nx L S h hcall hj hK0 hn hi ls H locs cells slots hl hH
  obtain ⟨x, S, e9, hi9⟩ := mm_p_s hi
  clear hi
  subst e9
  have hi := hi9
  clear hi9
  rcases mm_i_s hi with ⟨n, e9, hi9⟩ | hi9
  · clear hi
    subst e9
    have hi := hi9
    clear hi9
    obtain ⟨g0, hi9⟩ := mm_b_s hi
    clear hi
    have hi := hi9
    clear hi9
    obtain ⟨g3, hi9⟩ := mm_b_s hi
    clear hi
    have hi := hi9
    clear hi9
    have g3 := ble_s g3
    have hi := mm_f_s hi
    have hi := mm_f_s hi
    obtain ⟨g1, hi9⟩ := mm_b_s hi
    clear hi
    have hi := hi9
    clear hi9
    obtain ⟨g2, hi9⟩ := mm_b_s hi
    clear hi
    have hi := hi9
    clear hi9
    have hi := mm_f_s hi
    have g1 : h.2.1 + 1 ≤ R.cells := ble_s g1
    have g2 : h.2.2.1 + n ≤ R.slots := ble_s g2
    have e1 := hH.2.2.2.1
    have e2 := hH.2.2.2.2.1
    refine va_newq (n := nI n) (N' := n) hx hb hown hclink hover hK hH.1 wo_D hH.2.1 (fun q h9 => Nat.le_trans hb0 h9) (nI_pos (by omega)) (nI_clamp (by omega)) (by omega) (by rw [e1]; exact g1) (by rw [e2]; exact g2) hd (fun q cA H1 hK2 hP hD hS => ?_)
    have hcA : cA = E.2 ty := by
      have h1 : va_RA s cA (.object C) := (hK2.2 5 _ rfl).2
      have h2 := (hK.2 ty _ (xtys_at E.2 hty)).2
      rw [hC] at h2
      obtain ⟨_, _, -, -, -, k1⟩ := h1
      obtain ⟨_, _, -, -, -, k2⟩ := h2
      exact Option.some.inj (k1.symm.trans k2)
    subst hcA
    intro T9 hT9 X9
    have hq := al_q (hH.2.2.1.2 g0) e1 hP hD hT9 X9
    subst hq
    subst e1
    subst e2
    refine hn _ _ _ hi ls H1 locs _ _ hl (hH.push g0 rfl g1 g2 ?_ hS) T9 hT9 X9
    have e9 : ce d E.2 (.inr (.inr (ty, List.replicate n (.inr (.inr (.inr (.inr (.inr 0)))))))) = .inl (E.2 ty, n, .inr (.inr (.inr (.inr (fun _ => none))))) := by
      show Sum.inl (E.2 ty, (List.replicate n _).length, _) = _
      rw [List.length_replicate]
      congr 7
      funext j
      show rf d (List.replicate n _)[j]? = none
      rw [List.getElem?_replicate]
      split <;> rfl
    rw [e9]
    exact hP
  · clear hi
    have hi := hi9
    clear hi9
    cases hi
theorem s_oinit (hx : p.tables.exec = Jvm.exec) (hb : c.code = cc) (hml : c.maxLocals = nL) {own : String} {idx : Nat} (hown : s.vm.findClass own = some m.cls) (hlink : (Cond.methodLink own idx Lib.objectInit).before args s = true) (hinst : (Cond.instanceMethod Lib.objectInit).before args s = true) (hcode : (Cond.code Lib.objectInit ⟨#[0xb1]⟩ 1 none).before args s = true) (hf : 1 ≤ R.frames) (hlo : 20 ≤ R.locals) (hd : decode cc pc = .ok (.invokespecial idx, 3)) : HS (OKs p l e R s m args below meth c Q d E nL) F cO kO pcs pc h_oinit (pc + 3) := by
  intro call j K nx L S h hcall hj hK0 hn hi ls H locs cells slots hl hH
  obtain ⟨x, S, e9, hi9⟩ := mm_p_s hi
  clear hi
  subst e9
  have hi := hi9
  clear hi9
  obtain ⟨a, e9, hi9⟩ := mm_r_s hi
  clear hi
  subst e9
  have hi := hi9
  clear hi9
  obtain ⟨g, hi9⟩ := mm_b_s hi
  clear hi
  have hi := hi9
  clear hi9
  have g := cat_sum d S (ble_s g)
  refine W.objInit hx hb hown hlink hinst hcode (g := F0 m pc ls _) rfl (by rw [hml]; exact hl.1) rfl hd hf ?_ (hn _ _ _ hi ls H locs cells slots hl hH)
  have := lv_room (m := m) (pc := pc) (ls := ls) (rest := (Sum.inr (Sum.inl a) :: S).map (dn d)) (st := S.map (dn d)) g
  omega
end SND
end
section
/-! CALLS: what a run says of a method, as a contract; the tables that stay -/
def txS : String := "p0,4,3;p1,5,0;p2,1,5;p3,3,2;d9,2,4;d4,1,1;d14,3,6;o0,0,1;o1,0,0;o1,1,1;o2,2,2;o3,3,0;o4,0,2;o4,1,0;o6,3,1;o7,0,1;"
def txB : List Int32 := [112, 48, 44, 52, 44, 51, 59, 112, 49, 44, 53, 44, 48, 59, 112, 50, 44, 49, 44, 53, 59, 112, 51, 44, 51, 44, 50, 59, 100, 57, 44, 50, 44, 52, 59, 100, 52, 44, 49, 44, 49, 59, 100, 49, 52, 44, 51, 44, 54, 59, 111, 48, 44, 48, 44, 49, 59, 111, 49, 44, 48, 44, 48, 59, 111, 49, 44, 49, 44, 49, 59, 111, 50, 44, 50, 44, 50, 59, 111, 51, 44, 51, 44, 48, 59, 111, 52, 44, 48, 44, 50, 59, 111, 52, 44, 49, 44, 48, 59, 111, 54, 44, 51, 44, 49, 59, 111, 55, 44, 48, 44, 49, 59]
def nestW : List Cond := [.methodLinkNest "RudeCoupons" 9 ⟨"RudeCoupons$Letters", "<init>", "()V"⟩ "RudeCoupons", .methodLinkNest "RudeCoupons" 18 ⟨"RudeCoupons$Reader", "<init>", "()V"⟩ "RudeCoupons", .methodLinkNest "RudeCoupons" 25 ⟨"RudeCoupons$Standing", "<init>", "()V"⟩ "RudeCoupons", .methodLinkNest "RudeCoupons$Shelf" 21 ⟨"RudeCoupons$Standing", "<init>", "()V"⟩ "RudeCoupons", .methodLinkNest "RudeCoupons" 48 ⟨"RudeCoupons$Sightings", "<init>", "()V"⟩ "RudeCoupons", .methodLinkNest "RudeCoupons" 55 ⟨"RudeCoupons$Plans", "<init>", "()V"⟩ "RudeCoupons", .methodLinkNest "RudeCoupons" 66 ⟨"RudeCoupons$Book", "<init>", "()V"⟩ "RudeCoupons", .methodLinkNest "RudeCoupons$Book" 62 ⟨"RudeCoupons", "within", "(III)Z"⟩ "RudeCoupons", .methodLinkNest "RudeCoupons$Standing" 39 ⟨"RudeCoupons", "copyRow", "([I[I)V"⟩ "RudeCoupons", .methodLinkNest "RudeCoupons$Standing" 49 ⟨"RudeCoupons", "sumOf", "([I)I"⟩ "RudeCoupons"]
theorem nestW_k : ∀ w ∈ nestW, ∃ (a : String) (i : Nat) (x : MethodName) (h : String), w = .methodLinkNest a i x h := by
  intro w hw
  simp only [nestW, List.mem_cons, List.not_mem_nil, or_false] at hw
  rcases hw with rfl | rfl | rfl | rfl | rfl | rfl | rfl | rfl | rfl | rfl <;> exact ⟨_, _, _, _, rfl⟩
/-- the words that stay -/
def lw_g : List Cond := lw_tbl.filter goodWord
theorem lw_g_in {w : Cond} (h : w ∈ lw_g) : w ∈ lw_tbl := (List.mem_filter.mp h).1
theorem lw_g_good {y : MethodName} {bytes : ByteArray} {n : Nat} {r : Option FieldType} (h : Cond.code y bytes n r ∈ lw_g) : GoodIn lw_g (Cond.code y bytes n r :: lw_g) := by
  intro w hw
  rcases List.mem_cons.mp hw with rfl | hw
  · exact ⟨h, good_of_word (List.mem_filter.mp h).2⟩
  · exact ⟨hw, good_of_word (List.mem_filter.mp hw).2⟩
/-- arrays of int arrays -/
def va_AOI (U : State) : Prop := ∃ (comp cA : ClassId) (k : Class), U.vm.findClass (FieldType.array .int).toString = some comp ∧ U.vm.classes[cA]? = some k ∧ k.kind = .array comp (.array .int) ∧ U.vm.findClass ("[" ++ (FieldType.array .int).toString) = some cA
theorem va_AOI.moved {u U : State} (hvm : u.vm.Alike U.vm) (h : va_AOI u) : va_AOI U := by
  obtain ⟨comp, cA, k, h1, h2, h3, h4⟩ := h
  obtain ⟨k', hk', he⟩ := hvm.2.2 _ _ h2
  exact ⟨comp, cA, k', by rw [hvm.findClass]; exact h1, hk', by rw [he]; exact h3, by rw [hvm.findClass]; exact h4⟩
/-- the text, as a constant, and what its methods read -/
def TXok (d : mD) (U : State) : Prop := vk_R "RudeCoupons" 74 txS d.2.2.2.1 U ∧ (∃ aV : Nat, vk_S 1 [113] [txB] (fun _ => d.2.2.2.1) (fun _ => aV) (fun q => d.1 ≤ q) U U.heap) ∧ va_Z "java/lang/String" "COMPACT_STRINGS" "Z" (.int 1) (fun q => d.1 ≤ q) U U.heap ∧ va_Zq "jdk/internal/util/Preconditions" "SIOOBE_FORMATTER" "Ljava/util/function/BiFunction;" (fun q => d.1 ≤ q) U U.heap
theorem TXok.next {d : mD} {s U : State} (h : TXok d s) (hW : s.WarmedH U.vm) (hq : ∀ a : Nat, a < s.heap.size → ¬ d.1 ≤ a → U.heap[a]? = s.heap[a]?) : TXok d U := by
  obtain ⟨h1, ⟨aV, h2⟩, h3, h4⟩ := h
  exact ⟨h1.warm hW, ⟨aV, (h2.kept hq).moved hW.alike⟩, (h3.kept hq).moved hW.alike, (h4.kept hq).moved hW.alike⟩
theorem TXok.same {d : mD} {u U : State} (h : TXok d u) (hv : U.vm = u.vm) (hh : U.heap = u.heap) : TXok d U := by
  have ha : u.vm.Alike U.vm := by rw [hv]; exact Vm.Alike.refl _
  obtain ⟨h1, ⟨aV, h2⟩, h3, h4⟩ := h
  refine ⟨h1.same hv, ⟨aV, ?_⟩, ?_, ?_⟩
  · rw [hh]; exact h2.moved ha
  · rw [hh]; exact h3.moved ha
  · rw [hh]; exact h4.moved ha
def KN (d : mD) (E : mE) (U : State) : Prop := va_K E.1 xcl (xtys E.2) U ∧ (∀ w ∈ nestW, va_Nw w U) ∧ va_AO "RudeCoupons$Standing" U ∧ va_AO "RudeCoupons$Letters" U ∧ va_AOI U ∧ (d.2.2.2.2 = true → TXok d U)
theorem KN.next {d : mD} {E : mE} {s U : State} (h : KN d E s) (hW : s.WarmedH U.vm) (hq : ∀ a : Nat, a < s.heap.size → ¬ d.1 ≤ a → U.heap[a]? = s.heap[a]?) : KN d E U := by
  obtain ⟨h1, h2, h3, h4, h5, h6⟩ := h
  refine ⟨va_K.moved hW.alike h1, fun w hw => ?_, h3.moved hW.alike, h4.moved hW.alike, h5.moved hW.alike, fun q => (h6 q).next hW hq⟩
  obtain ⟨a, i, x, t, rfl⟩ := nestW_k w hw
  exact (h2 _ hw).warmM hW
theorem KN.same {d : mD} {E : mE} {u U : State} (h : KN d E u) (hv : U.vm = u.vm) (hh : U.heap = u.heap) : KN d E U := by
  have ha : u.vm.Alike U.vm := by rw [hv]; exact Vm.Alike.refl _
  obtain ⟨h1, h2, h3, h4, h5, h6⟩ := h
  refine ⟨va_K.moved ha h1, fun w hw => ?_, h3.moved ha, h4.moved ha, h5.moved ha, fun q => (h6 q).same hv hh⟩
  obtain ⟨a, i, x, t, rfl⟩ := nestW_k w hw
  exact (h2 _ hw).same rfl hv.symm
/-- a method's start -/
def PcM (d : mD) (E : mE) (as : List mV) (hp : List mC) : Array Value → State → Prop := fun v U => v = (as.map (dn d)).toArray ∧ KN d E U ∧ va_P E.1 xcl (wo d E.2 d.1 hp) U.heap ∧ (d.2.2.2.2 = true → U.heap.size = d.1 + hp.length) ∧ d.1 ≤ U.heap.size
theorem PcM.blind {d : mD} {E : mE} {as : List mV} {hp : List mC} : FrameBlind (PcM d E as hp) := fun a U g mk q => by
  obtain ⟨q0, q1, q2, q3, q4⟩ := q
  exact ⟨q0, q1.same (U := U.calling g mk a) rfl rfl, q2, q3, q4⟩
noncomputable def gY : Nat → MethodName := nth ⟨"", "", ""⟩ [⟨"RudeCouponsModel", "has", "(II)Z"⟩, ⟨"RudeCouponsModel", "whoOf", "(I)I"⟩, ⟨"RudeCouponsModel", "leaves", "(IIII)I"⟩, ⟨"RudeCouponsModel", "leavesBy", "(II)I"⟩, ⟨"RudeCouponsModel", "worthOf", "(I)I"⟩, ⟨"RudeCouponsModel", "worthBy", "(II)I"⟩, ⟨"RudeCouponsModel", "bestBy", "(II)I"⟩, ⟨"RudeCouponsModel", "in", "(III)Z"⟩, ⟨"RudeCouponsModel", "suffers", "(II)I"⟩, ⟨"RudeCouponsModel", "isPerson", "(I)Z"⟩, ⟨"RudeCoupons$Book", "leftAfter", "(IIII)I"⟩, ⟨"RudeCoupons$Plans", "addOccasion", "(LRudeCoupons$Book;II)V"⟩, ⟨"RudeCoupons$Plans", "withShare", "(III)I"⟩, ⟨"RudeCoupons$Plans", "mostFrom", "(II)I"⟩, ⟨"RudeCoupons$Standing", "isTaken", "(I)Z"⟩, ⟨"RudeCoupons$Standing", "isAhead", "(LRudeCoupons$Book;I)Z"⟩, ⟨"RudeCoupons", "within", "(III)Z"⟩, ⟨"RudeCoupons$Book", "<init>", "()V"⟩, ⟨"RudeCoupons$Book", "clear", "()V"⟩, ⟨"RudeCoupons$Book", "add", "(CIII)Z"⟩, ⟨"RudeCoupons$Book", "addPerson", "(III)Z"⟩, ⟨"RudeCoupons$Book", "addDoing", "(III)Z"⟩, ⟨"RudeCoupons$Book", "addOccasion", "(III)Z"⟩, ⟨"RudeCoupons$Book", "hasPerson", "(I)Z"⟩, ⟨"RudeCoupons$Book", "hasDoing", "(I)Z"⟩, ⟨"RudeCoupons$Book", "hasOccasion", "(I)Z"⟩, ⟨"RudeCoupons$Book", "sufferingOf", "(III)I"⟩, ⟨"RudeCoupons$Book", "sufferingOfAll", "(II)I"⟩, ⟨"RudeCoupons$Letters", "<init>", "()V"⟩, ⟨"RudeCoupons$Letters", "add", "(C)Z"⟩, ⟨"RudeCoupons$Letters", "at", "(I)C"⟩, ⟨"RudeCoupons$Letters", "copy", "(LRudeCoupons$Letters;)V"⟩, ⟨"RudeCoupons$Plans", "<init>", "()V"⟩, ⟨"RudeCoupons$Plans", "make", "(LRudeCoupons$Book;LRudeCoupons$Standing;I)V"⟩, ⟨"RudeCoupons$Plans", "gain", "(II)I"⟩, ⟨"RudeCoupons$Plans", "makeAll", "(LRudeCoupons$Book;LRudeCoupons$Standing;)V"⟩, ⟨"RudeCoupons$Plans", "partAll", "(II)V"⟩, ⟨"RudeCoupons$Plans", "shareOf", "(II)I"⟩, ⟨"RudeCoupons$Plans", "greatestShare", "(II)I"⟩, ⟨"RudeCoupons$Reader", "<init>", "()V"⟩, ⟨"RudeCoupons$Reader", "readInto", "(LRudeCoupons$Book;LRudeCoupons$Letters;)I"⟩, ⟨"RudeCoupons$Reader", "readItem", "(LRudeCoupons$Book;LRudeCoupons$Letters;I)I"⟩, ⟨"RudeCoupons$Reader", "figuresAt", "(LRudeCoupons$Letters;I)I"⟩, ⟨"RudeCoupons$Reader", "isFigure", "(C)Z"⟩, ⟨"RudeCoupons$Reader", "numberAt", "(LRudeCoupons$Letters;II)I"⟩, ⟨"RudeCoupons$Shelf", "<init>", "(I)V"⟩, ⟨"RudeCoupons$Shelf", "put", "(LRudeCoupons$Standing;)V"⟩, ⟨"RudeCoupons$Shelf", "dropOldest", "()V"⟩, ⟨"RudeCoupons$Shelf", "takeInto", "(LRudeCoupons$Standing;)Z"⟩, ⟨"RudeCoupons$Sightings", "<init>", "()V"⟩, ⟨"RudeCoupons$Sightings", "add", "(III)Z"⟩, ⟨"RudeCoupons$Sightings", "couldBe", "(LRudeCoupons$Book;I)Z"⟩, ⟨"RudeCoupons$Standing", "<init>", "()V"⟩, ⟨"RudeCoupons$Standing", "begin", "(LRudeCoupons$Book;)V"⟩, ⟨"RudeCoupons$Standing", "copy", "(LRudeCoupons$Standing;)V"⟩, ⟨"RudeCoupons$Standing", "couponsOfAll", "()I"⟩, ⟨"RudeCoupons$Standing", "mostOfOne", "()I"⟩, ⟨"RudeCoupons$Standing", "sufferedByAll", "()I"⟩, ⟨"RudeCoupons", "<init>", "()V"⟩, ⟨"RudeCoupons", "layText", "()I"⟩, ⟨"RudeCoupons", "write", "(I)I"⟩, ⟨"RudeCoupons", "wipe", "()I"⟩, ⟨"RudeCoupons", "fault", "()I"⟩, ⟨"RudeCoupons", "lay", "()I"⟩, ⟨"RudeCoupons", "person", "(II)I"⟩, ⟨"RudeCoupons", "doing", "(II)I"⟩, ⟨"RudeCoupons", "occasion", "(II)I"⟩, ⟨"RudeCoupons", "leftIfTaken", "(I)I"⟩, ⟨"RudeCoupons", "take", "(I)I"⟩, ⟨"RudeCoupons", "copyRow", "([I[I)V"⟩, ⟨"RudeCoupons", "pass", "(I)I"⟩, ⟨"RudeCoupons", "give", "(III)I"⟩, ⟨"RudeCoupons", "ration", "(I)I"⟩, ⟨"RudeCoupons", "sumOf", "([I)I"⟩, ⟨"RudeCoupons", "undo", "()I"⟩, ⟨"RudeCoupons", "best", "(II)I"⟩, ⟨"RudeCoupons", "more", "(I)I"⟩, ⟨"RudeCoupons", "giveBest", "(I)I"⟩, ⟨"RudeCoupons", "growthByGiving", "(II)I"⟩, ⟨"RudeCoupons", "shared", "(I)I"⟩, ⟨"RudeCoupons", "rationFor", "(I)I"⟩, ⟨"RudeCoupons", "sufferingUnder", "(I)I"⟩, ⟨"RudeCoupons", "seen", "(III)I"⟩, ⟨"RudeCoupons", "forget", "()I"⟩, ⟨"RudeCoupons", "without", "()I"⟩, ⟨"RudeCoupons", "letGo", "(II)I"⟩, ⟨"RudeCoupons", "keepOne", "(III)I"⟩, ⟨"RudeCoupons", "net", "(I)I"⟩, ⟨"RudeCoupons", "heard", "(I)I"⟩, ⟨"RudeCoupons", "year", "(II)I"⟩, ⟨"RudeCoupons", "isDrawn", "(II)Z"⟩, ⟨"RudeCoupons", "keep", "()I"⟩, ⟨"RudeCoupons", "back", "()I"⟩, ⟨"RudeCoupons", "count", "(I)I"⟩, ⟨"RudeCouponsModel", "<init>", "()V"⟩, ⟨"RudeCouponsModel", "clearTold", "()V"⟩, ⟨"RudeCouponsModel", "tellsPerson", "(III)V"⟩, ⟨"RudeCouponsModel", "tellsDoing", "(III)V"⟩, ⟨"RudeCouponsModel", "tellsOccasion", "(III)V"⟩, ⟨"RudeCouponsModel", "settles", "()V"⟩, ⟨"RudeCouponsModel", "copies", "([II[III)V"⟩, ⟨"RudeCouponsModel", "write", "(I)I"⟩, ⟨"RudeCouponsModel", "wipe", "()I"⟩, ⟨"RudeCouponsModel", "fault", "()I"⟩, ⟨"RudeCouponsModel", "lay", "()I"⟩, ⟨"RudeCouponsModel", "person", "(II)I"⟩, ⟨"RudeCouponsModel", "doing", "(II)I"⟩, ⟨"RudeCouponsModel", "occasion", "(II)I"⟩, ⟨"RudeCouponsModel", "isOccasion", "(I)Z"⟩, ⟨"RudeCouponsModel", "canBe", "(I)Z"⟩, ⟨"RudeCouponsModel", "take", "(I)I"⟩, ⟨"RudeCouponsModel", "remembers", "()V"⟩, ⟨"RudeCouponsModel", "pass", "(I)I"⟩, ⟨"RudeCouponsModel", "give", "(III)I"⟩, ⟨"RudeCouponsModel", "ration", "(I)I"⟩, ⟨"RudeCouponsModel", "allCoupons", "()I"⟩, ⟨"RudeCouponsModel", "undo", "()I"⟩, ⟨"RudeCouponsModel", "best", "(II)I"⟩, ⟨"RudeCouponsModel", "more", "(I)I"⟩, ⟨"RudeCouponsModel", "giveBest", "(I)I"⟩, ⟨"RudeCouponsModel", "shared", "(I)I"⟩, ⟨"RudeCouponsModel", "findShares", "()V"⟩, ⟨"RudeCouponsModel", "rationFor", "(I)I"⟩, ⟨"RudeCouponsModel", "sufferedBy", "(I)I"⟩, ⟨"RudeCouponsModel", "seen", "(III)I"⟩, ⟨"RudeCouponsModel", "forget", "()I"⟩, ⟨"RudeCouponsModel", "without", "()I"⟩, ⟨"RudeCouponsModel", "letGo", "(II)I"⟩, ⟨"RudeCouponsModel", "keepOne", "(III)I"⟩, ⟨"RudeCouponsModel", "net", "(I)I"⟩, ⟨"RudeCouponsModel", "heard", "(I)I"⟩, ⟨"RudeCouponsModel", "year", "(II)I"⟩, ⟨"RudeCouponsModel", "keep", "()I"⟩, ⟨"RudeCouponsModel", "back", "()I"⟩, ⟨"RudeCouponsModel", "count", "(I)I"⟩, ⟨"RudeCouponsModel", "takenMany", "()I"⟩, ⟨"java/lang/Math", "max", "(II)I"⟩, ⟨"java/lang/Math", "min", "(II)I"⟩, ⟨"java/lang/Integer", "bitCount", "(I)I"⟩, ⟨"RudeCoupons$Shelf", "<init>", "(I)V"⟩]
noncomputable def gB : Nat → ByteArray := nth ⟨#[]⟩ [prog_10_method_7_code, prog_10_method_27_code, prog_10_method_25_code, prog_10_method_28_code, prog_10_method_26_code, prog_10_method_41_code, prog_10_method_42_code, prog_10_method_6_code, prog_10_method_29_code, prog_10_method_8_code, prog_2_method_10_code, prog_4_method_3_code, prog_4_method_8_code, prog_4_method_7_code, prog_8_method_4_code, prog_8_method_5_code, prog_1_method_35_code, prog_2_method_1_code, prog_2_method_2_code, prog_2_method_6_code, prog_2_method_7_code, prog_2_method_8_code, prog_2_method_9_code, prog_2_method_3_code, prog_2_method_4_code, prog_2_method_5_code, prog_2_method_11_code, prog_2_method_12_code, prog_3_method_1_code, prog_3_method_2_code, prog_3_method_3_code, prog_3_method_4_code, prog_4_method_1_code, prog_4_method_2_code, prog_4_method_5_code, prog_4_method_4_code, prog_4_method_6_code, prog_4_method_9_code, prog_4_method_10_code, prog_5_method_1_code, prog_5_method_2_code, prog_5_method_3_code, prog_5_method_4_code, prog_5_method_6_code, prog_5_method_5_code, prog_6_method_1_code, prog_6_method_2_code, prog_6_method_3_code, prog_6_method_4_code, prog_7_method_1_code, prog_7_method_2_code, prog_7_method_3_code, prog_8_method_1_code, prog_8_method_2_code, prog_8_method_3_code, prog_8_method_6_code, prog_8_method_8_code, prog_8_method_7_code, prog_1_method_1_code, prog_1_method_30_code, prog_1_method_2_code, prog_1_method_3_code, prog_1_method_4_code, prog_1_method_5_code, prog_1_method_6_code, prog_1_method_7_code, prog_1_method_8_code, prog_1_method_31_code, prog_1_method_9_code, prog_1_method_37_code, prog_1_method_10_code, prog_1_method_11_code, prog_1_method_12_code, prog_1_method_36_code, prog_1_method_13_code, prog_1_method_14_code, prog_1_method_15_code, prog_1_method_16_code, prog_1_method_32_code, prog_1_method_17_code, prog_1_method_18_code, prog_1_method_33_code, prog_1_method_19_code, prog_1_method_20_code, prog_1_method_21_code, prog_1_method_22_code, prog_1_method_23_code, prog_1_method_24_code, prog_1_method_25_code, prog_1_method_26_code, prog_1_method_34_code, prog_1_method_27_code, prog_1_method_28_code, prog_1_method_29_code, prog_10_method_1_code, prog_10_method_16_code, prog_10_method_3_code, prog_10_method_4_code, prog_10_method_5_code, prog_10_method_24_code, prog_10_method_23_code, prog_10_method_10_code, prog_10_method_11_code, prog_10_method_21_code, prog_10_method_22_code, prog_10_method_31_code, prog_10_method_32_code, prog_10_method_33_code, prog_10_method_9_code, prog_10_method_30_code, prog_10_method_35_code, prog_10_method_34_code, prog_10_method_36_code, prog_10_method_37_code, prog_10_method_39_code, prog_10_method_38_code, prog_10_method_40_code, prog_10_method_43_code, prog_10_method_44_code, prog_10_method_45_code, prog_10_method_47_code, prog_10_method_46_code, prog_10_method_49_code, prog_10_method_48_code, prog_10_method_50_code, prog_10_method_51_code, prog_10_method_52_code, prog_10_method_53_code, prog_10_method_54_code, prog_10_method_55_code, prog_10_method_56_code, prog_10_method_57_code, prog_10_method_58_code, prog_10_method_59_code, prog_10_method_61_code, prog_10_method_60_code, prog_12_method_65_code, prog_12_method_69_code, prog_11_method_49_code, prog_6_method_1_code]
noncomputable def gT : Nat → Option FieldType := nth none [some .boolean, some .int, some .int, some .int, some .int, some .int, some .int, some .boolean, some .int, some .boolean, some .int, none, some .int, some .int, some .boolean, some .boolean, some .boolean, none, none, some .boolean, some .boolean, some .boolean, some .boolean, some .boolean, some .boolean, some .boolean, some .int, some .int, none, some .boolean, some .char, none, none, none, some .int, none, none, some .int, some .int, none, some .int, some .int, some .int, some .boolean, some .int, none, none, none, some .boolean, none, some .boolean, some .boolean, none, none, none, some .int, some .int, some .int, none, some .int, some .int, some .int, some .int, some .int, some .int, some .int, some .int, some .int, some .int, none, some .int, some .int, some .int, some .int, some .int, some .int, some .int, some .int, some .int, some .int, some .int, some .int, some .int, some .int, some .int, some .int, some .int, some .int, some .int, some .int, some .boolean, some .int, some .int, some .int, none, none, none, none, none, none, none, some .int, some .int, some .int, some .int, some .int, some .int, some .int, some .boolean, some .boolean, some .int, none, some .int, some .int, some .int, some .int, some .int, some .int, some .int, some .int, some .int, none, some .int, some .int, some .int, some .int, some .int, some .int, some .int, some .int, some .int, some .int, some .int, some .int, some .int, some .int, some .int, some .int, some .int, none]
noncomputable def gM : Nat → Room := nth { frames := 0, cells := 0, slots := 0, locals := 0 } [{ frames := 0, cells := 0, slots := 0, locals := 0 }, { frames := 0, cells := 0, slots := 0, locals := 0 }, { frames := 0, cells := 0, slots := 0, locals := 0 }, { frames := 1, cells := 0, slots := 0, locals := 25 }, { frames := 0, cells := 0, slots := 0, locals := 0 }, { frames := 2, cells := 0, slots := 0, locals := 47 }, { frames := 3, cells := 0, slots := 0, locals := 73 }, { frames := 0, cells := 0, slots := 0, locals := 0 }, { frames := 0, cells := 0, slots := 0, locals := 0 }, { frames := 1, cells := 0, slots := 0, locals := 22 }, { frames := 0, cells := 0, slots := 0, locals := 0 }, { frames := 1, cells := 0, slots := 0, locals := 26 }, { frames := 0, cells := 0, slots := 0, locals := 0 }, { frames := 1, cells := 0, slots := 0, locals := 24 }, { frames := 0, cells := 0, slots := 0, locals := 0 }, { frames := 1, cells := 0, slots := 0, locals := 21 }, { frames := 0, cells := 0, slots := 0, locals := 0 }, { frames := 1, cells := 10, slots := 76, locals := 20 }, { frames := 0, cells := 0, slots := 0, locals := 0 }, { frames := 2, cells := 0, slots := 0, locals := 46 }, { frames := 1, cells := 0, slots := 0, locals := 22 }, { frames := 1, cells := 0, slots := 0, locals := 22 }, { frames := 1, cells := 0, slots := 0, locals := 22 }, { frames := 0, cells := 0, slots := 0, locals := 0 }, { frames := 0, cells := 0, slots := 0, locals := 0 }, { frames := 0, cells := 0, slots := 0, locals := 0 }, { frames := 1, cells := 0, slots := 0, locals := 21 }, { frames := 2, cells := 0, slots := 0, locals := 44 }, { frames := 1, cells := 1, slots := 200, locals := 20 }, { frames := 0, cells := 0, slots := 0, locals := 0 }, { frames := 0, cells := 0, slots := 0, locals := 0 }, { frames := 0, cells := 0, slots := 0, locals := 0 }, { frames := 1, cells := 22, slots := 848, locals := 20 }, { frames := 2, cells := 0, slots := 0, locals := 52 }, { frames := 0, cells := 0, slots := 0, locals := 0 }, { frames := 3, cells := 0, slots := 0, locals := 76 }, { frames := 2, cells := 0, slots := 0, locals := 48 }, { frames := 2, cells := 0, slots := 0, locals := 47 }, { frames := 1, cells := 0, slots := 0, locals := 24 }, { frames := 1, cells := 1, slots := 3, locals := 20 }, { frames := 4, cells := 0, slots := 0, locals := 97 }, { frames := 3, cells := 0, slots := 0, locals := 70 }, { frames := 1, cells := 0, slots := 0, locals := 21 }, { frames := 0, cells := 0, slots := 0, locals := 0 }, { frames := 1, cells := 0, slots := 0, locals := 21 }, { frames := 2, cells := 41, slots := 248, locals := 40 }, { frames := 2, cells := 0, slots := 0, locals := 43 }, { frames := 0, cells := 0, slots := 0, locals := 0 }, { frames := 2, cells := 0, slots := 0, locals := 43 }, { frames := 1, cells := 3, slots := 24, locals := 20 }, { frames := 0, cells := 0, slots := 0, locals := 0 }, { frames := 1, cells := 0, slots := 0, locals := 26 }, { frames := 1, cells := 4, slots := 24, locals := 20 }, { frames := 0, cells := 0, slots := 0, locals := 0 }, { frames := 1, cells := 0, slots := 0, locals := 22 }, { frames := 1, cells := 0, slots := 0, locals := 22 }, { frames := 1, cells := 0, slots := 0, locals := 21 }, { frames := 1, cells := 0, slots := 0, locals := 22 }, { frames := 6, cells := 118, slots := 2019, locals := 143 }, { frames := 5, cells := 0, slots := 0, locals := 122 }, { frames := 1, cells := 0, slots := 0, locals := 22 }, { frames := 0, cells := 0, slots := 0, locals := 0 }, { frames := 5, cells := 0, slots := 0, locals := 122 }, { frames := 6, cells := 0, slots := 0, locals := 143 }, { frames := 1, cells := 0, slots := 0, locals := 21 }, { frames := 1, cells := 0, slots := 0, locals := 21 }, { frames := 2, cells := 0, slots := 0, locals := 48 }, { frames := 1, cells := 0, slots := 0, locals := 26 }, { frames := 3, cells := 0, slots := 0, locals := 64 }, { frames := 0, cells := 0, slots := 0, locals := 0 }, { frames := 3, cells := 0, slots := 0, locals := 64 }, { frames := 3, cells := 0, slots := 0, locals := 64 }, { frames := 3, cells := 0, slots := 0, locals := 64 }, { frames := 0, cells := 0, slots := 0, locals := 0 }, { frames := 3, cells := 0, slots := 0, locals := 64 }, { frames := 3, cells := 0, slots := 0, locals := 76 }, { frames := 3, cells := 0, slots := 0, locals := 76 }, { frames := 4, cells := 0, slots := 0, locals := 99 }, { frames := 1, cells := 0, slots := 0, locals := 22 }, { frames := 4, cells := 0, slots := 0, locals := 99 }, { frames := 4, cells := 0, slots := 0, locals := 99 }, { frames := 3, cells := 0, slots := 0, locals := 68 }, { frames := 1, cells := 0, slots := 0, locals := 23 }, { frames := 0, cells := 0, slots := 0, locals := 0 }, { frames := 2, cells := 0, slots := 0, locals := 50 }, { frames := 2, cells := 0, slots := 0, locals := 43 }, { frames := 3, cells := 0, slots := 0, locals := 76 }, { frames := 1, cells := 0, slots := 0, locals := 21 }, { frames := 2, cells := 0, slots := 0, locals := 42 }, { frames := 2, cells := 0, slots := 0, locals := 43 }, { frames := 0, cells := 0, slots := 0, locals := 0 }, { frames := 3, cells := 0, slots := 0, locals := 64 }, { frames := 3, cells := 0, slots := 0, locals := 64 }, { frames := 2, cells := 0, slots := 0, locals := 42 }, { frames := 2, cells := 16, slots := 1394, locals := 48 }, { frames := 0, cells := 0, slots := 0, locals := 0 }, { frames := 0, cells := 0, slots := 0, locals := 0 }, { frames := 0, cells := 0, slots := 0, locals := 0 }, { frames := 0, cells := 0, slots := 0, locals := 0 }, { frames := 1, cells := 0, slots := 0, locals := 25 }, { frames := 0, cells := 0, slots := 0, locals := 0 }, { frames := 1, cells := 0, slots := 0, locals := 22 }, { frames := 0, cells := 0, slots := 0, locals := 0 }, { frames := 1, cells := 0, slots := 0, locals := 20 }, { frames := 2, cells := 0, slots := 0, locals := 48 }, { frames := 2, cells := 0, slots := 0, locals := 43 }, { frames := 1, cells := 0, slots := 0, locals := 22 }, { frames := 3, cells := 0, slots := 0, locals := 68 }, { frames := 1, cells := 0, slots := 0, locals := 22 }, { frames := 2, cells := 0, slots := 0, locals := 47 }, { frames := 3, cells := 0, slots := 0, locals := 68 }, { frames := 1, cells := 0, slots := 0, locals := 25 }, { frames := 2, cells := 0, slots := 0, locals := 46 }, { frames := 2, cells := 0, slots := 0, locals := 46 }, { frames := 2, cells := 0, slots := 0, locals := 46 }, { frames := 0, cells := 0, slots := 0, locals := 0 }, { frames := 1, cells := 0, slots := 0, locals := 25 }, { frames := 4, cells := 0, slots := 0, locals := 99 }, { frames := 4, cells := 0, slots := 0, locals := 99 }, { frames := 4, cells := 0, slots := 0, locals := 99 }, { frames := 5, cells := 0, slots := 0, locals := 124 }, { frames := 4, cells := 0, slots := 0, locals := 99 }, { frames := 5, cells := 0, slots := 0, locals := 125 }, { frames := 4, cells := 0, slots := 0, locals := 99 }, { frames := 2, cells := 0, slots := 0, locals := 43 }, { frames := 0, cells := 0, slots := 0, locals := 0 }, { frames := 1, cells := 0, slots := 0, locals := 25 }, { frames := 1, cells := 0, slots := 0, locals := 22 }, { frames := 4, cells := 0, slots := 0, locals := 99 }, { frames := 2, cells := 0, slots := 0, locals := 43 }, { frames := 1, cells := 0, slots := 0, locals := 22 }, { frames := 2, cells := 0, slots := 0, locals := 47 }, { frames := 1, cells := 0, slots := 0, locals := 25 }, { frames := 1, cells := 0, slots := 0, locals := 25 }, { frames := 1, cells := 0, slots := 0, locals := 22 }, { frames := 0, cells := 0, slots := 0, locals := 0 }, { frames := 0, cells := 0, slots := 0, locals := 0 }, { frames := 0, cells := 0, slots := 0, locals := 0 }, { frames := 0, cells := 0, slots := 0, locals := 0 }, { frames := 2, cells := 11, slots := 62, locals := 40 }]
noncomputable def gP : Nat → Nat → Nat := nth (fun _ => 0) [nth 0 [0, 13, 14], nth 0 [0], nth 0 [0, 48, 55, 68, 69, 70, 84, 85, 86], nth 0 [0], nth 0 [0], nth 0 [0, 8, 43, 50, 62, 68, 76, 78], nth 0 [0, 5, 64, 65, 73, 79, 104, 105, 120, 124, 139, 141, 149], nth 0 [0, 14, 15], nth 0 [0, 30, 31], nth 0 [0], nth 0 [0, 27, 49, 72, 73, 81, 83], nth 0 [0, 12, 116, 122], nth 0 [0, 24, 35], nth 0 [0, 6, 38], nth 0 [0, 16, 17], nth 0 [0, 25, 26], nth 0 [0, 14, 15], nth 0 [0], nth 0 [0], nth 0 [0, 15, 30, 51, 52], nth 0 [0, 38, 40], nth 0 [0, 38, 40], nth 0 [0, 35, 37, 73, 118], nth 0 [0, 16, 17], nth 0 [0, 16, 17], nth 0 [0, 16, 17], nth 0 [0, 9, 26], nth 0 [0, 5, 31], nth 0 [0], nth 0 [0, 14], nth 0 [0, 21, 22], nth 0 [0, 2, 28], nth 0 [0], nth 0 [0, 3, 36, 39, 77, 83], nth 0 [0, 32, 33], nth 0 [0, 2, 23], nth 0 [0, 2, 22, 24, 31, 35, 42, 70, 76], nth 0 [0, 5, 27], nth 0 [0, 7, 31, 37], nth 0 [0], nth 0 [0, 9, 41, 50], nth 0 [0, 8, 34, 72, 73, 91, 93, 99, 108, 143, 145], nth 0 [0, 13, 30, 31], nth 0 [0, 16, 17], nth 0 [0, 18, 33], nth 0 [0, 18, 46], nth 0 [0, 16], nth 0 [0, 9, 38], nth 0 [0, 10], nth 0 [0], nth 0 [0, 11], nth 0 [0, 10, 57, 63], nth 0 [0], nth 0 [0, 12, 40, 41, 69], nth 0 [0], nth 0 [0], nth 0 [0, 4, 30], nth 0 [0], nth 0 [0, 124, 152, 154, 183], nth 0 [0, 30, 33], nth 0 [0, 13, 35, 37], nth 0 [0], nth 0 [0], nth 0 [0], nth 0 [0, 13, 44, 54, 64, 74, 84], nth 0 [0, 13, 40, 50, 60, 70], nth 0 [0, 13, 48, 58, 68, 78, 93, 94, 95, 107, 108, 109], nth 0 [0, 30, 33], nth 0 [0, 13, 26, 108, 151], nth 0 [0, 2, 26], nth 0 [0, 12, 29], nth 0 [0, 37, 39, 55, 74], nth 0 [0, 12, 33, 60], nth 0 [0, 4, 22], nth 0 [0, 24, 26], nth 0 [0, 20, 22, 66, 77], nth 0 [0, 13], nth 0 [0, 11, 34, 49, 89, 95, 101, 110, 118, 119], nth 0 [0, 32, 34], nth 0 [0, 18, 75, 84], nth 0 [0, 13, 31, 46, 52], nth 0 [0, 4, 67, 73], nth 0 [0, 32, 34, 57, 59], nth 0 [0], nth 0 [0, 4, 36, 42], nth 0 [0, 19, 21, 65, 69], nth 0 [0, 31, 33, 53, 94, 95], nth 0 [0, 27, 28], nth 0 [0, 13, 36, 37], nth 0 [0, 20, 22, 41, 175, 181, 189, 196], nth 0 [0, 44, 45], nth 0 [0, 16], nth 0 [0, 17, 51], nth 0 [0, 56, 64, 72, 80, 88, 99, 107, 115, 123, 131, 139], nth 0 [0], nth 0 [0], nth 0 [0], nth 0 [0], nth 0 [0], nth 0 [0, 71, 83, 135, 139, 140, 148, 161, 163, 182, 184, 228], nth 0 [0, 3, 28], nth 0 [0, 13, 26], nth 0 [0], nth 0 [0, 9, 34, 37], nth 0 [0, 16, 19], nth 0 [0, 10, 40, 49, 58, 69, 79], nth 0 [0, 36, 37], nth 0 [0, 17, 19, 37, 55, 67, 68], nth 0 [0], nth 0 [0, 54, 55], nth 0 [0, 10, 21, 83, 110, 125, 133], nth 0 [0, 11, 39, 49], nth 0 [0, 12, 28], nth 0 [0, 31, 33, 48, 66], nth 0 [0, 12, 23, 46], nth 0 [0, 4, 29], nth 0 [0, 10], nth 0 [0, 17, 19, 41, 45], nth 0 [0, 10, 29, 44], nth 0 [0, 11, 20, 32, 164, 165, 183, 184, 198, 199, 200, 206, 212, 220, 221], nth 0 [0, 16, 36, 41, 57, 59, 60, 123, 129, 139], nth 0 [0, 2, 12, 41, 47, 52, 58, 80, 81, 85, 166, 167, 174, 192, 198], nth 0 [0, 13, 16, 31, 37], nth 0 [0, 4, 23, 40, 88, 89, 97, 103, 109], nth 0 [0, 32, 34, 46], nth 0 [0], nth 0 [0, 4, 26, 36, 82, 101, 102, 108, 114, 125, 126, 134], nth 0 [0, 19, 21, 32, 67, 69, 77, 101, 102, 115, 116, 127, 131], nth 0 [0, 28, 30, 44, 90, 91], nth 0 [0, 20, 21], nth 0 [0, 16, 20, 38, 50, 51, 59], nth 0 [0, 20, 22, 24, 52, 57, 180, 181, 198, 199, 217, 224, 231, 237, 264, 272, 274], nth 0 [0, 11], nth 0 [0, 10], nth 0 [0, 56, 61, 66, 71, 78, 83, 88, 93, 98, 103, 108], nth 0 [0, 4, 31], nth 0 [0, 9, 10], nth 0 [0, 9, 10], nth 0 [0], nth 0 [0, 18, 46]]
noncomputable def gW (y : Nat) : List Cond := Cond.code (gY y) (gB y) (nl y) (gT y) :: lw_g
/-- what a run says of a method -/
def CM (l : Launch) (d : mD) (E : mE) (y : Nat) (as : List mV) (al : Bool) (hp : List mC) (K : mK) : Prop := al = d.2.2.2.2 → Met l (gY y) (gW y) (gM y) (PcM d E as hp) (QcM d E K (gM y).cells) (gM y).cells (gM y).slots (fun q => d.1 ≤ q)
def cOK (l : Launch) (d : mD) (E : mE) (call : mA) : Prop := ∀ (y : Nat) (as : List mV) (al : Bool) (hp : List mC) (K : mK), call y as al hp K = true → CM l d E y as al hp K
theorem mm_pn_s {n : Nat} : ∀ {S acc : List mV} {k : List mV → List mV → Bool}, mm_pn n S acc k = true → ∃ as S', S = as.reverse ++ S' ∧ as.length = n ∧ k (as ++ acc) S' = true := by
  induction n with
  | zero => exact fun {S acc k} h => ⟨[], S, rfl, rfl, h⟩
  | succ n ih =>
    intro S acc k h
    obtain ⟨x, S1, rfl, h1⟩ := mm_p_s h
    obtain ⟨-, h2⟩ := mm_c1_s (0, fun _ => 0, fun _ => 0, 0, false) h1
    obtain ⟨as, S', rfl, h3, h4⟩ := ih h2
    refine ⟨as ++ [x], S', ?_, by simp [h3], by rw [List.append_assoc]; exact h4⟩
    simp
section SND
variable {p : Program} {l : Launch} {e : Env} {R : Room} {s : State} {m : MethodId} {args : Array Value} {below : List Frame} {meth : Method} {c : Code} {Q : State → Prop}
variable {cc : ByteArray} {d : mD} {E : mE} {nL pc : Nat} {F : mF} {kO : mK → Prop} {pcs : Nat → Nat}
/-- what the receiver is: 0 none, 1 any, k + 2: of class k -/
def RV (s : State) (H : Heap) (As : List Value) : Nat → Prop
  | 0 => True
  | 1 => ∃ (b : Nat) (As' : List Value), As = .ref b :: As'
  | k + 2 => ∃ (b : Nat) (As' : List Value) (r : vw_C), As = .ref b :: As' ∧ xcl[k]? = some r ∧ ∃ cellB : Cell, H[b]? = some cellB ∧ cellB.vm.isStatics = false ∧ s.vm.findClass r.1 = some cellB.cls
/-- a call can be run by a contract -/
def RunK (p : Program) (l : Launch) (e : Env) (R : Room) (s : State) (m : MethodId) (args : Array Value) (below : List Frame) (meth : Method) (c : Code) (d : mD) (nL pc y n ci : Nat) : Prop :=
  ∀ (As rest : List Value) (ls : Array Slot) (H : Heap) (locs : List Loc) (cells slots : Nat) (Pc : Array Value → State → Prop) (Qc : Array Value → State → Outcome → State → Prop), Met l (gY y) (gW y) (gM y) Pc Qc (gM y).cells (gM y).slots (fun q => d.1 ≤ q) → As.length = n → ls.size = nL → (rest.map fun v => v.category).sum ≤ 8 → cells + (gM y).cells ≤ R.cells ∧ slots + (gM y).slots ≤ R.slots → FrameBlind Pc → (∀ U : State, U.heap = H → s.WarmedH U.vm → Pc As.toArray U) → RV s H As ci →
    va_Run p l e R s m args below meth c H locs cells slots (gM y).cells (gM y).slots (F0 m pc ls (As.reverse ++ rest)) rest (Qc As.toArray) (fun q => d.1 ≤ q)
theorem s_call {y n rv ci mc ms : Nat} (hmc : (gM y).cells = mc) (hms : (gM y).slots = ms) (hrun : RunK p l e R s m args below meth c d nL pc y n ci) (hKN : KN d E s) (hb0 : d.1 ≤ s.heap.size) : HS (OKs p l e R s m args below meth c Q d E nL) F (cOK l d E) kO pcs pc (h_call y n rv ci mc ms R.cells R.slots) (pc + 3) := by
  intro call j K nx L S h hcall hj hK0 hn hi ls H locs cells slots hl hH
  subst hmc
  subst hms
  obtain ⟨as, S', e9, hn9, hi9⟩ := mm_pn_s hi
  clear hi
  have hi := hi9
  clear hi9
  subst e9
  rw [List.append_nil] at hi
  obtain ⟨g, hi9⟩ := mm_b_s hi
  clear hi
  have hi := hi9
  clear hi9
  have hi := mm_f_s hi
  have hi := mm_f_s hi
  obtain ⟨g1, hi9⟩ := mm_b_s hi
  clear hi
  have hi := hi9
  clear hi9
  obtain ⟨g2, hi9⟩ := mm_b_s hi
  clear hi
  have hi := hi9
  clear hi9
  obtain ⟨g3, hi9⟩ := mm_b_s hi
  clear hi
  have hi := hi9
  clear hi9
  have g := cat_sum d S' (ble_s g)
  have g1 : h.2.1 + (gM y).cells ≤ R.cells := ble_s g1
  have g2 : h.2.2.1 + (gM y).slots ≤ R.slots := ble_s g2
  obtain ⟨h1, h2, h3, h4, h5, h6, h7⟩ := hH
  have hM := hcall _ _ _ _ _ hi h3.1
  have hrv : RV s H (as.map (dn d)) ci := by
    rcases ci with _ | _ | k
    · trivial
    · obtain ⟨x, xs, rfl, g3⟩ := mm_p_s g3
      obtain ⟨a, rfl, -⟩ := mm_r_s g3
      exact ⟨_, _, rfl⟩
    · obtain ⟨x, xs, rfl, g3⟩ := mm_p_s g3
      obtain ⟨a, rfl, g3⟩ := mm_r_s g3
      obtain ⟨c1, hc1, g3⟩ := mm_n_s g3
      obtain ⟨ci', fs, rfl, g3⟩ := mm_ob_s g3
      obtain rfl := beq_s g3
      have hat := h1 a _ (wo_at hc1)
      obtain ⟨r, hr, -⟩ := hat
      exact ⟨_, _, r, rfl, hr, va_recv hKN.1 h1 hr (wo_at hc1)⟩
  have hsz : ∀ T : State, T.heap = H → Stand p l e R s m args below meth c T locs cells slots → h.1 = true → H.size = d.1 + h.2.2.2.length := by
    intro T hT X q
    have k1 : T.heap.size ≤ s.heap.size + cells := X.heapSize
    rw [hT, h4] at k1
    have k2 := h3.2 q
    have k3 : d.1 + h.2.2.2.length ≤ H.size := by
      by_cases hz : h.2.2.2.length = 0
      · have := h2.1
        omega
      · have hlt : h.2.2.2.length - 1 < h.2.2.2.length := by omega
        have := (h1 _ _ (wo_at (List.getElem?_eq_getElem hlt))).lt
        have t9 : d.1 + (h.2.2.2.length - 1) < H.size := this
        omega
    omega
  intro T hT X
  rw [List.map_append, List.map_reverse]
  obtain ⟨v, st₀, t, T', L9, k0, X', kL, e1, e2, ⟨v', hp', kK, ko, kP, kF, ksz⟩, st⟩ := hrun (as.map (dn d)) (S'.map (dn d)) ls H locs cells slots (PcM d E as h.2.2.2) _ hM (by rw [List.length_map]; exact hn9) hl.1 g ⟨by rw [h4]; exact g1, by rw [h5]; exact g2⟩ PcM.blind (fun U hU hW => ⟨rfl, hKN.next hW (fun q a1 a2 => by rw [hU]; exact h2.2.1 q a1 a2), by rw [hU]; exact h1, fun q => by rw [hU]; exact hsz T hT X (h3.1.trans q), by rw [hU]; exact Nat.le_trans hb0 h2.1⟩) hrv T hT X
  have ev : v = v'.map (dn d) := by
    injection ko
  subst ev
  obtain ⟨f1, f2⟩ := kF
  rw [k0] at f1 f2 ksz
  have hH' : HR d E s R (h.1, h.2.1 + (gM y).cells, h.2.2.1 + (gM y).slots, hp') t.heap (locs ++ L9) (cells + (gM y).cells) (slots + (gM y).slots) := by
    refine ⟨kP, ⟨Nat.le_trans h2.1 f1, fun q a1 a2 => (f2 q (Nat.lt_of_lt_of_le a1 h2.1) a2).trans (h2.2.1 q a1 a2), fun q hq => ?_⟩, ⟨h3.1, fun q => ?_⟩, by rw [h4], by rw [h5], g1, g2⟩
    · rcases List.mem_append.mp hq with hq | hq
      · exact h2.2.2 q hq
      · exact kL q hq
    · show s.heap.size + (h.2.1 + (gM y).cells) = d.1 + hp'.length
      have a1 := h3.2 q
      have a2 := ksz (h3.1.symm.trans q)
      have a3 := hsz T hT X q
      omega
  cases rv with
  | zero =>
    cases v' with
    | none =>
      obtain ⟨t2, a1, b1⟩ := hn _ _ _ kK ls t.heap (locs ++ L9) _ _ hl hH' T' e1 X'
      exact ⟨t2, st t2 a1, b1⟩
    | some v' => cases kK
  | succ rv =>
    cases v' with
    | none => cases kK
    | some v' =>
      obtain ⟨-, kK⟩ := mm_ci_s d kK
      obtain ⟨t2, a1, b1⟩ := hn _ _ _ kK ls t.heap (locs ++ L9) _ _ hl hH' T' e1 X'
      exact ⟨t2, st t2 a1, b1⟩
theorem rk_V (hx : p.tables.exec = Jvm.exec) (hb : c.code = cc) (hml : c.maxLocals = nL) {own : String} {index y n : Nat} (hown : s.vm.findClass own = some m.cls) (hts : ∀ w ∈ lw_g, w.before args s = true) (hcode : Cond.code (gY y) (gB y) (nl y) (gT y) ∈ lw_g) {k : Nat} {r : vw_C} (hr : xcl[k]? = some r) (hC : (gY y).cls = r.1) (w1 : Cond.methodLink own index (gY y) ∈ lw_g) (w2 : Cond.instanceMethod (gY y) ∈ lw_g) (w3 : Cond.selects r.1 (gY y) (gY y) ∈ lw_g) (w4 : Cond.initialized (gY y).cls ∈ lw_g)
    (hp : (gY y).cls ≠ "java/lang/invoke/MethodHandle" ∧ (gY y).cls ≠ "java/lang/invoke/VarHandle" ∧ (parseMethodDescriptor (gY y).desc).map (fun d => d.parameters.length) = some n) (hR : (gM y).frames + 1 ≤ R.frames ∧ 8 + (nl y + 11) + (gM y).locals ≤ R.locals) (hd : decode cc pc = .ok (.invokevirtual index, 3)) : RunK p l e R s m args below meth c d nL pc y (n + 1) (k + 2) := by
  intro As rest ls H locs cells slots Pc Qc hM hlen hls hcat hroom hbl hpre hrv
  obtain ⟨b, As', r', rfl, hr', hcell⟩ := hrv
  obtain rfl : r' = r := Option.some.inj (hr'.symm.trans hr)
  have h0 := va_runV (As := As') (b := b) (rest := rest) (C := r'.1) (n := n) (bytes := gB y) (maxL := nl y) (ret := gT y) (locs := locs) (cells := cells) (slots := slots) (below := below) (meth := meth) (e := e) (g := F0 m pc ls ((Value.ref b :: As').reverse ++ rest)) ⟨hx, hb, hml, hown, hts⟩ hM ⟨callB_of n hts (lw_g_good hcode) rfl rfl rfl (hts _ w4) (hts _ w1) hp hR, hts _ w2, hts _ w3⟩ ⟨hbl, hcell, hpre⟩ rfl (by simpa using hlen) hls (by simp) (lv_room hcat) hd hroom
  exact h0
theorem rk_S (hx : p.tables.exec = Jvm.exec) (hb : c.code = cc) (hml : c.maxLocals = nL) {own : String} {index y n : Nat} (hown : s.vm.findClass own = some m.cls) (hts : ∀ w ∈ lw_g, w.before args s = true) (hcode : Cond.code (gY y) (gB y) (nl y) (gT y) ∈ lw_g) (w1 : Cond.methodLink own index (gY y) ∈ lw_g) (w2 : Cond.static (gY y) ∈ lw_g) (w4 : Cond.initialized (gY y).cls ∈ lw_g)
    (hp : (gY y).cls ≠ "java/lang/invoke/MethodHandle" ∧ (gY y).cls ≠ "java/lang/invoke/VarHandle" ∧ (parseMethodDescriptor (gY y).desc).map (fun d => d.parameters.length) = some n) (hR : (gM y).frames + 1 ≤ R.frames ∧ 8 + (nl y + 11) + (gM y).locals ≤ R.locals) (hd : decode cc pc = .ok (.invokestatic index, 3)) : RunK p l e R s m args below meth c d nL pc y n 0 := by
  intro As rest ls H locs cells slots Pc Qc hM hlen hls hcat hroom hbl hpre hrv
  exact va_runS (As := As) (rest := rest) (n := n) (bytes := gB y) (maxL := nl y) (ret := gT y) (g := F0 m pc ls (As.reverse ++ rest)) ⟨hx, hb, hml, hown, hts⟩ hM ⟨callB_of n hts (lw_g_good hcode) rfl rfl rfl (hts _ w4) (hts _ w1) hp hR, hts _ w2⟩ ⟨hbl, hpre⟩ rfl hlen hls rfl (lv_room hcat) hd hroom
theorem rk_SN (hx : p.tables.exec = Jvm.exec) (hb : c.code = cc) (hml : c.maxLocals = nL) {own : String} {index y n : Nat} (hown : s.vm.findClass own = some m.cls) (hts : ∀ w ∈ lw_g, w.before args s = true) (hcode : Cond.code (gY y) (gB y) (nl y) (gT y) ∈ lw_g) {host : String} (w1 : va_Nw (.methodLinkNest own index (gY y) host) s) (w2 : Cond.static (gY y) ∈ lw_g) (w4 : Cond.initialized (gY y).cls ∈ lw_g)
    (hp : (gY y).cls ≠ "java/lang/invoke/MethodHandle" ∧ (gY y).cls ≠ "java/lang/invoke/VarHandle" ∧ (parseMethodDescriptor (gY y).desc).map (fun d => d.parameters.length) = some n) (hR : (gM y).frames + 1 ≤ R.frames ∧ 8 + (nl y + 11) + (gM y).locals ≤ R.locals) (hd : decode cc pc = .ok (.invokestatic index, 3)) : RunK p l e R s m args below meth c d nL pc y n 0 := by
  intro As rest ls H locs cells slots Pc Qc hM hlen hls hcat hroom hbl hpre hrv
  exact va_runSN (As := As) (rest := rest) (n := n) (bytes := gB y) (maxL := nl y) (ret := gT y) (host := host) (g := F0 m pc ls (As.reverse ++ rest)) ⟨hx, hb, hml, hown, hts⟩ hM ⟨va_cnB n hts (lw_g_good hcode) rfl rfl rfl w1 (hts _ w4) hp hR, hts _ w2, trivial⟩ ⟨hbl, hpre⟩ rfl hlen hls rfl (lv_room hcat) hd hroom
theorem rk_IN (hx : p.tables.exec = Jvm.exec) (hb : c.code = cc) (hml : c.maxLocals = nL) {own : String} {index y n : Nat} (hown : s.vm.findClass own = some m.cls) (hts : ∀ w ∈ lw_g, w.before args s = true) (hcode : Cond.code (gY y) (gB y) (nl y) (gT y) ∈ lw_g) {host : String} (hT : gT y = none) (hini : (gY y).name = "<init>") (w1 : va_Nw (.methodLinkNest own index (gY y) host) s) (w2 : Cond.instanceMethod (gY y) ∈ lw_g) (w4 : Cond.initialized (gY y).cls ∈ lw_g)
    (hp : (gY y).cls ≠ "java/lang/invoke/MethodHandle" ∧ (gY y).cls ≠ "java/lang/invoke/VarHandle" ∧ (parseMethodDescriptor (gY y).desc).map (fun d => d.parameters.length) = some n) (hR : (gM y).frames + 1 ≤ R.frames ∧ 8 + (nl y + 11) + (gM y).locals ≤ R.locals) (hd : decode cc pc = .ok (.invokespecial index, 3)) : RunK p l e R s m args below meth c d nL pc y (n + 1) 1 := by
  intro As rest ls H locs cells slots Pc Qc hM hlen hls hcat hroom hbl hpre hrv
  obtain ⟨b, As', rfl⟩ := hrv
  rw [hT] at hcode
  have hw : gW y = Cond.code (gY y) (gB y) (nl y) none :: lw_g := by unfold gW; rw [hT]
  rw [hw] at hM
  exact va_runIN (As := As') (b := b) (rest := rest) (n := n) (bytes := gB y) (maxL := nl y) (host := host) (g := F0 m pc ls ((Value.ref b :: As').reverse ++ rest)) ⟨hx, hb, hml, hown, hts⟩ hM ⟨va_cnB n hts (lw_g_good hcode) rfl rfl rfl w1 (hts _ w4) hp hR, hini, hts _ w2⟩ ⟨hbl, hpre⟩ rfl (by simpa using hlen) hls (by simp) (lv_room hcat) hd hroom
theorem rk_I (hx : p.tables.exec = Jvm.exec) (hb : c.code = cc) (hml : c.maxLocals = nL) {own : String} {index y n : Nat} (hown : s.vm.findClass own = some m.cls) (hts : ∀ w ∈ lw_g, w.before args s = true) (hcode : Cond.code (gY y) (gB y) (nl y) (gT y) ∈ lw_g) (hT : gT y = none) (hini : (gY y).name = "<init>") (w1 : Cond.methodLink own index (gY y) ∈ lw_g) (w2 : Cond.instanceMethod (gY y) ∈ lw_g) (w4 : Cond.initialized (gY y).cls ∈ lw_g)
    (hp : (gY y).cls ≠ "java/lang/invoke/MethodHandle" ∧ (gY y).cls ≠ "java/lang/invoke/VarHandle" ∧ (parseMethodDescriptor (gY y).desc).map (fun d => d.parameters.length) = some n) (hR : (gM y).frames + 1 ≤ R.frames ∧ 8 + (nl y + 11) + (gM y).locals ≤ R.locals) (hd : decode cc pc = .ok (.invokespecial index, 3)) : RunK p l e R s m args below meth c d nL pc y (n + 1) 1 := by
  intro As rest ls H locs cells slots Pc Qc hM hlen hls hcat hroom hbl hpre hrv
  obtain ⟨b, As', rfl⟩ := hrv
  rw [hT] at hcode
  have hw : gW y = Cond.code (gY y) (gB y) (nl y) none :: lw_g := by unfold gW; rw [hT]
  rw [hw] at hM
  exact va_runI (As := As') (b := b) (rest := rest) (n := n) (bytes := gB y) (maxL := nl y) (g := F0 m pc ls ((Value.ref b :: As').reverse ++ rest)) ⟨hx, hb, hml, hown, hts⟩ hM ⟨callB_of n hts (lw_g_good hcode) rfl rfl rfl (hts _ w4) (hts _ w1) hp hR, hini, hts _ w2⟩ ⟨hbl, hpre⟩ rfl (by simpa using hlen) hls (by simp) (lv_room hcat) hd hroom
end SND
end
section
/-! WORDS, by program: each link, each method's code, kind and selection among the words that stay -/
def BS (OK : Nat → mL → List mV → mH → Prop) (F : mF) (cO : mA → Prop) (kO : mK → Prop) (pcs : Nat → Nat) (pc : Nat) (cs : List mI) : Prop :=
  ∀ (call : mA) (j : Nat → mN) (K : mK) (L : mL) (S : List mV) (h : mH), cO call → (∀ b L S h, j b L S h = true → OK (pcs b) L S h) → kO K → bl cs F call j K L S h = true → OK pc L S h
theorem bs_c {OK : Nat → mL → List mV → mH → Prop} {F : mF} {cO : mA → Prop} {kO : mK → Prop} {pcs : Nat → Nat} {pc pc' : Nat} {i : mI} {cs : List mI} (h1 : HS OK F cO kO pcs pc i pc') (h2 : BS OK F cO kO pcs pc' cs) : BS OK F cO kO pcs pc (i :: cs) :=
  fun call j K L S h hc hj hk hi => h1 call j K (bl cs F call j K) L S h hc hj hk (fun L S h hi => h2 call j K L S h hc hj hk hi) hi
theorem bs_n {OK : Nat → mL → List mV → mH → Prop} {F : mF} {cO : mA → Prop} {kO : mK → Prop} {pcs : Nat → Nat} {pc : Nat} : BS OK F cO kO pcs pc [] := fun _ _ _ _ _ _ _ _ _ hi => by cases hi
/-- what holds in a method's body -/
def CX (p : Program) (l : Launch) (s : State) (m : MethodId) (args : Array Value) (meth : Method) (c : Code) (d : mD) (E : mE) (F : mF) (y : Nat) : Prop :=
  p.tables.exec = Jvm.exec ∧ c.code = gB y ∧ c.maxLocals = nl y ∧ s.vm.findClass (gY y).cls = some m.cls ∧ (∀ w ∈ lw_g, w.before args s = true) ∧ meth.sig.returnType = gT y ∧ meth.locks = false ∧ meth.name = (gY y).name ∧ KN d E s ∧ d.1 ≤ s.heap.size ∧ FOK d F
def BB (p : Program) (l : Launch) (e : Env) (s : State) (m : MethodId) (args : Array Value) (below : List Frame) (meth : Method) (c : Code) (d : mD) (E : mE) (F : mF) (K0 : mK) (y pc : Nat) (cs : List mI) : Prop :=
  BS (OKs p l e (gM y) s m args below meth c (MQ below (QcM d E K0 (gM y).cells) args s (gM y).cells (gM y).slots (fun q => d.1 ≤ q)) d E (nl y)) F (cOK l d E) (fun K => K = K0) (gP y) pc cs
theorem wg {w : Cond} (i : Nat) (h : lw_tbl[i]? = some w) (hg : goodWord w = true) : w ∈ lw_g := List.mem_filter.mpr ⟨List.mem_of_getElem? h, hg⟩
theorem in_0 : ∀ w ∈ u_ws RX0 TX0 13, w ∈ lw_g := by decide +kernel
theorem in_1 : ∀ w ∈ u_ws RX1 TX1 2, w ∈ lw_g := by decide +kernel
theorem in_2 : ∀ w ∈ u_ws RX2 TX2 3, w ∈ lw_g := by decide +kernel
theorem in_3 : ∀ w ∈ u_ws RX3 TX3 1, w ∈ lw_g := by decide +kernel
theorem in_4 : ∀ w ∈ u_ws RX4 TX4 2, w ∈ lw_g := by decide +kernel
theorem in_5 : ∀ w ∈ u_ws RX5 TX5 4, w ∈ lw_g := by decide +kernel
theorem in_6 : ∀ w ∈ u_ws RX6 TX6 6, w ∈ lw_g := by decide +kernel
theorem in_7 : ∀ w ∈ u_ws RX7 TX7 11, w ∈ lw_g := by decide +kernel
theorem in_8 : ∀ w ∈ u_ws RX8 TX8 28, w ∈ lw_g := by decide +kernel
theorem lf_1_9 : Cond.fieldLink "RudeCoupons$Letters" 9 (TX1 0).1 (TX1 0).2.1 (TX1 0).2.2.1 ∈ lw_g := wg 61 (by decide +kernel) rfl
theorem lf_7_93 : Cond.fieldLink "RudeCoupons" 93 (TX1 1).1 (TX1 1).2.1 (TX1 1).2.2.1 ∈ lw_g := wg 62 (by decide +kernel) rfl
theorem lf_1_15 : Cond.fieldLink "RudeCoupons$Letters" 15 (TX1 1).1 (TX1 1).2.1 (TX1 1).2.2.1 ∈ lw_g := wg 63 (by decide +kernel) rfl
theorem lf_3_20 : Cond.fieldLink "RudeCoupons$Reader" 20 (TX1 1).1 (TX1 1).2.1 (TX1 1).2.2.1 ∈ lw_g := wg 64 (by decide +kernel) rfl
theorem lf_3_9 : Cond.fieldLink "RudeCoupons$Reader" 9 (TX3 0).1 (TX3 0).2.1 (TX3 0).2.2.1 ∈ lw_g := wg 77 (by decide +kernel) rfl
theorem lf_6_24 : Cond.fieldLink "RudeCoupons$Standing" 24 (TX6 0).1 (TX6 0).2.1 (TX6 0).2.2.1 ∈ lw_g := wg 88 (by decide +kernel) rfl
theorem lf_7_168 : Cond.fieldLink "RudeCoupons" 168 (TX6 0).1 (TX6 0).2.1 (TX6 0).2.2.1 ∈ lw_g := wg 89 (by decide +kernel) rfl
theorem lf_6_28 : Cond.fieldLink "RudeCoupons$Standing" 28 (TX6 1).1 (TX6 1).2.1 (TX6 1).2.2.1 ∈ lw_g := wg 90 (by decide +kernel) rfl
theorem lf_7_155 : Cond.fieldLink "RudeCoupons" 155 (TX6 1).1 (TX6 1).2.1 (TX6 1).2.2.1 ∈ lw_g := wg 91 (by decide +kernel) rfl
theorem lf_6_9 : Cond.fieldLink "RudeCoupons$Standing" 9 (TX6 2).1 (TX6 2).2.1 (TX6 2).2.2.1 ∈ lw_g := wg 92 (by decide +kernel) rfl
theorem lf_7_111 : Cond.fieldLink "RudeCoupons" 111 (TX6 2).1 (TX6 2).2.1 (TX6 2).2.2.1 ∈ lw_g := wg 93 (by decide +kernel) rfl
theorem lf_6_15 : Cond.fieldLink "RudeCoupons$Standing" 15 (TX6 3).1 (TX6 3).2.1 (TX6 3).2.2.1 ∈ lw_g := wg 94 (by decide +kernel) rfl
theorem lf_7_117 : Cond.fieldLink "RudeCoupons" 117 (TX6 3).1 (TX6 3).2.1 (TX6 3).2.2.1 ∈ lw_g := wg 95 (by decide +kernel) rfl
theorem lf_6_18 : Cond.fieldLink "RudeCoupons$Standing" 18 (TX6 4).1 (TX6 4).2.1 (TX6 4).2.2.1 ∈ lw_g := wg 96 (by decide +kernel) rfl
theorem lf_7_161 : Cond.fieldLink "RudeCoupons" 161 (TX6 4).1 (TX6 4).2.1 (TX6 4).2.2.1 ∈ lw_g := wg 97 (by decide +kernel) rfl
theorem lf_6_21 : Cond.fieldLink "RudeCoupons$Standing" 21 (TX6 5).1 (TX6 5).2.1 (TX6 5).2.2.1 ∈ lw_g := wg 98 (by decide +kernel) rfl
theorem lf_7_170 : Cond.fieldLink "RudeCoupons" 170 (TX6 5).1 (TX6 5).2.1 (TX6 5).2.2.1 ∈ lw_g := wg 99 (by decide +kernel) rfl
theorem lf_4_15 : Cond.fieldLink "RudeCoupons$Shelf" 15 (TX4 0).1 (TX4 0).2.1 (TX4 0).2.2.1 ∈ lw_g := wg 125 (by decide +kernel) rfl
theorem lf_4_22 : Cond.fieldLink "RudeCoupons$Shelf" 22 (TX4 1).1 (TX4 1).2.1 (TX4 1).2.2.1 ∈ lw_g := wg 126 (by decide +kernel) rfl
theorem lf_7_180 : Cond.fieldLink "RudeCoupons" 180 (TX4 1).1 (TX4 1).2.1 (TX4 1).2.2.1 ∈ lw_g := wg 127 (by decide +kernel) rfl
theorem lf_5_9 : Cond.fieldLink "RudeCoupons$Sightings" 9 (TX5 0).1 (TX5 0).2.1 (TX5 0).2.2.1 ∈ lw_g := wg 140 (by decide +kernel) rfl
theorem lf_5_15 : Cond.fieldLink "RudeCoupons$Sightings" 15 (TX5 1).1 (TX5 1).2.1 (TX5 1).2.2.1 ∈ lw_g := wg 141 (by decide +kernel) rfl
theorem lf_5_18 : Cond.fieldLink "RudeCoupons$Sightings" 18 (TX5 2).1 (TX5 2).2.1 (TX5 2).2.2.1 ∈ lw_g := wg 142 (by decide +kernel) rfl
theorem lf_5_21 : Cond.fieldLink "RudeCoupons$Sightings" 21 (TX5 3).1 (TX5 3).2.1 (TX5 3).2.2.1 ∈ lw_g := wg 143 (by decide +kernel) rfl
theorem lf_7_219 : Cond.fieldLink "RudeCoupons" 219 (TX5 3).1 (TX5 3).2.1 (TX5 3).2.2.1 ∈ lw_g := wg 144 (by decide +kernel) rfl
theorem lf_2_11 : Cond.fieldLink "RudeCoupons$Plans" 11 (TX2 0).1 (TX2 0).2.1 (TX2 0).2.2.1 ∈ lw_g := wg 162 (by decide +kernel) rfl
theorem lf_7_187 : Cond.fieldLink "RudeCoupons" 187 (TX2 0).1 (TX2 0).2.1 (TX2 0).2.2.1 ∈ lw_g := wg 163 (by decide +kernel) rfl
theorem lf_2_16 : Cond.fieldLink "RudeCoupons$Plans" 16 (TX2 1).1 (TX2 1).2.1 (TX2 1).2.2.1 ∈ lw_g := wg 164 (by decide +kernel) rfl
theorem lf_7_190 : Cond.fieldLink "RudeCoupons" 190 (TX2 1).1 (TX2 1).2.1 (TX2 1).2.2.1 ∈ lw_g := wg 165 (by decide +kernel) rfl
theorem lf_2_19 : Cond.fieldLink "RudeCoupons$Plans" 19 (TX2 2).1 (TX2 2).2.1 (TX2 2).2.2.1 ∈ lw_g := wg 166 (by decide +kernel) rfl
theorem lf_7_208 : Cond.fieldLink "RudeCoupons" 208 (TX2 2).1 (TX2 2).2.1 (TX2 2).2.2.1 ∈ lw_g := wg 167 (by decide +kernel) rfl
theorem lf_0_42 : Cond.fieldLink "RudeCoupons$Book" 42 (TX0 0).1 (TX0 0).2.1 (TX0 0).2.2.1 ∈ lw_g := wg 181 (by decide +kernel) rfl
theorem lf_6_31 : Cond.fieldLink "RudeCoupons$Standing" 31 (TX0 0).1 (TX0 0).2.1 (TX0 0).2.2.1 ∈ lw_g := wg 182 (by decide +kernel) rfl
theorem lf_2_54 : Cond.fieldLink "RudeCoupons$Plans" 54 (TX0 0).1 (TX0 0).2.1 (TX0 0).2.2.1 ∈ lw_g := wg 183 (by decide +kernel) rfl
theorem lf_7_158 : Cond.fieldLink "RudeCoupons" 158 (TX0 0).1 (TX0 0).2.1 (TX0 0).2.2.1 ∈ lw_g := wg 184 (by decide +kernel) rfl
theorem lf_0_9 : Cond.fieldLink "RudeCoupons$Book" 9 (TX0 1).1 (TX0 1).2.1 (TX0 1).2.2.1 ∈ lw_g := wg 185 (by decide +kernel) rfl
theorem lf_7_108 : Cond.fieldLink "RudeCoupons" 108 (TX0 1).1 (TX0 1).2.1 (TX0 1).2.2.1 ∈ lw_g := wg 186 (by decide +kernel) rfl
theorem lf_0_15 : Cond.fieldLink "RudeCoupons$Book" 15 (TX0 2).1 (TX0 2).2.1 (TX0 2).2.2.1 ∈ lw_g := wg 187 (by decide +kernel) rfl
theorem lf_6_36 : Cond.fieldLink "RudeCoupons$Standing" 36 (TX0 2).1 (TX0 2).2.1 (TX0 2).2.2.1 ∈ lw_g := wg 188 (by decide +kernel) rfl
theorem lf_5_25 : Cond.fieldLink "RudeCoupons$Sightings" 25 (TX0 2).1 (TX0 2).2.1 (TX0 2).2.2.1 ∈ lw_g := wg 189 (by decide +kernel) rfl
theorem lf_0_18 : Cond.fieldLink "RudeCoupons$Book" 18 (TX0 3).1 (TX0 3).2.1 (TX0 3).2.2.1 ∈ lw_g := wg 190 (by decide +kernel) rfl
theorem lf_7_114 : Cond.fieldLink "RudeCoupons" 114 (TX0 3).1 (TX0 3).2.1 (TX0 3).2.2.1 ∈ lw_g := wg 191 (by decide +kernel) rfl
theorem lf_0_46 : Cond.fieldLink "RudeCoupons$Book" 46 (TX0 4).1 (TX0 4).2.1 (TX0 4).2.2.1 ∈ lw_g := wg 192 (by decide +kernel) rfl
theorem lf_7_264 : Cond.fieldLink "RudeCoupons" 264 (TX0 4).1 (TX0 4).2.1 (TX0 4).2.2.1 ∈ lw_g := wg 193 (by decide +kernel) rfl
theorem lf_0_21 : Cond.fieldLink "RudeCoupons$Book" 21 (TX0 5).1 (TX0 5).2.1 (TX0 5).2.2.1 ∈ lw_g := wg 194 (by decide +kernel) rfl
theorem lf_2_52 : Cond.fieldLink "RudeCoupons$Plans" 52 (TX0 5).1 (TX0 5).2.1 (TX0 5).2.2.1 ∈ lw_g := wg 195 (by decide +kernel) rfl
theorem lf_7_123 : Cond.fieldLink "RudeCoupons" 123 (TX0 5).1 (TX0 5).2.1 (TX0 5).2.2.1 ∈ lw_g := wg 196 (by decide +kernel) rfl
theorem lf_0_24 : Cond.fieldLink "RudeCoupons$Book" 24 (TX0 6).1 (TX0 6).2.1 (TX0 6).2.2.1 ∈ lw_g := wg 197 (by decide +kernel) rfl
theorem lf_7_126 : Cond.fieldLink "RudeCoupons" 126 (TX0 6).1 (TX0 6).2.1 (TX0 6).2.2.1 ∈ lw_g := wg 198 (by decide +kernel) rfl
theorem lf_0_27 : Cond.fieldLink "RudeCoupons$Book" 27 (TX0 7).1 (TX0 7).2.1 (TX0 7).2.2.1 ∈ lw_g := wg 199 (by decide +kernel) rfl
theorem lf_7_129 : Cond.fieldLink "RudeCoupons" 129 (TX0 7).1 (TX0 7).2.1 (TX0 7).2.2.1 ∈ lw_g := wg 200 (by decide +kernel) rfl
theorem lf_0_49 : Cond.fieldLink "RudeCoupons$Book" 49 (TX0 8).1 (TX0 8).2.1 (TX0 8).2.2.1 ∈ lw_g := wg 201 (by decide +kernel) rfl
theorem lf_2_22 : Cond.fieldLink "RudeCoupons$Plans" 22 (TX0 8).1 (TX0 8).2.1 (TX0 8).2.2.1 ∈ lw_g := wg 202 (by decide +kernel) rfl
theorem lf_7_239 : Cond.fieldLink "RudeCoupons" 239 (TX0 8).1 (TX0 8).2.1 (TX0 8).2.2.1 ∈ lw_g := wg 203 (by decide +kernel) rfl
theorem lf_0_30 : Cond.fieldLink "RudeCoupons$Book" 30 (TX0 9).1 (TX0 9).2.1 (TX0 9).2.2.1 ∈ lw_g := wg 204 (by decide +kernel) rfl
theorem lf_2_45 : Cond.fieldLink "RudeCoupons$Plans" 45 (TX0 9).1 (TX0 9).2.1 (TX0 9).2.2.1 ∈ lw_g := wg 205 (by decide +kernel) rfl
theorem lf_6_43 : Cond.fieldLink "RudeCoupons$Standing" 43 (TX0 9).1 (TX0 9).2.1 (TX0 9).2.2.1 ∈ lw_g := wg 206 (by decide +kernel) rfl
theorem lf_7_135 : Cond.fieldLink "RudeCoupons" 135 (TX0 9).1 (TX0 9).2.1 (TX0 9).2.2.1 ∈ lw_g := wg 207 (by decide +kernel) rfl
theorem lf_0_33 : Cond.fieldLink "RudeCoupons$Book" 33 (TX0 10).1 (TX0 10).2.1 (TX0 10).2.2.1 ∈ lw_g := wg 208 (by decide +kernel) rfl
theorem lf_2_28 : Cond.fieldLink "RudeCoupons$Plans" 28 (TX0 10).1 (TX0 10).2.1 (TX0 10).2.2.1 ∈ lw_g := wg 209 (by decide +kernel) rfl
theorem lf_7_138 : Cond.fieldLink "RudeCoupons" 138 (TX0 10).1 (TX0 10).2.1 (TX0 10).2.2.1 ∈ lw_g := wg 210 (by decide +kernel) rfl
theorem lf_0_36 : Cond.fieldLink "RudeCoupons$Book" 36 (TX0 11).1 (TX0 11).2.1 (TX0 11).2.2.1 ∈ lw_g := wg 211 (by decide +kernel) rfl
theorem lf_2_42 : Cond.fieldLink "RudeCoupons$Plans" 42 (TX0 11).1 (TX0 11).2.1 (TX0 11).2.2.1 ∈ lw_g := wg 212 (by decide +kernel) rfl
theorem lf_7_141 : Cond.fieldLink "RudeCoupons" 141 (TX0 11).1 (TX0 11).2.1 (TX0 11).2.2.1 ∈ lw_g := wg 213 (by decide +kernel) rfl
theorem lf_0_39 : Cond.fieldLink "RudeCoupons$Book" 39 (TX0 12).1 (TX0 12).2.1 (TX0 12).2.2.1 ∈ lw_g := wg 214 (by decide +kernel) rfl
theorem lf_7_242 : Cond.fieldLink "RudeCoupons" 242 (TX0 12).1 (TX0 12).2.1 (TX0 12).2.2.1 ∈ lw_g := wg 215 (by decide +kernel) rfl
theorem lf_7_10 : Cond.fieldLink "RudeCoupons" 10 (TX7 0).1 (TX7 0).2.1 (TX7 0).2.2.1 ∈ lw_g := wg 356 (by decide +kernel) rfl
theorem lf_7_19 : Cond.fieldLink "RudeCoupons" 19 (TX7 1).1 (TX7 1).2.1 (TX7 1).2.2.1 ∈ lw_g := wg 357 (by decide +kernel) rfl
theorem lf_7_26 : Cond.fieldLink "RudeCoupons" 26 (TX7 2).1 (TX7 2).2.1 (TX7 2).2.2.1 ∈ lw_g := wg 358 (by decide +kernel) rfl
theorem lf_7_35 : Cond.fieldLink "RudeCoupons" 35 (TX7 3).1 (TX7 3).2.1 (TX7 3).2.2.1 ∈ lw_g := wg 359 (by decide +kernel) rfl
theorem lf_7_39 : Cond.fieldLink "RudeCoupons" 39 (TX7 4).1 (TX7 4).2.1 (TX7 4).2.2.1 ∈ lw_g := wg 360 (by decide +kernel) rfl
theorem lf_7_42 : Cond.fieldLink "RudeCoupons" 42 (TX7 5).1 (TX7 5).2.1 (TX7 5).2.2.1 ∈ lw_g := wg 361 (by decide +kernel) rfl
theorem lf_7_49 : Cond.fieldLink "RudeCoupons" 49 (TX7 6).1 (TX7 6).2.1 (TX7 6).2.2.1 ∈ lw_g := wg 362 (by decide +kernel) rfl
theorem lf_7_56 : Cond.fieldLink "RudeCoupons" 56 (TX7 7).1 (TX7 7).2.1 (TX7 7).2.2.1 ∈ lw_g := wg 363 (by decide +kernel) rfl
theorem lf_7_60 : Cond.fieldLink "RudeCoupons" 60 (TX7 8).1 (TX7 8).2.1 (TX7 8).2.2.1 ∈ lw_g := wg 364 (by decide +kernel) rfl
theorem lf_7_67 : Cond.fieldLink "RudeCoupons" 67 (TX7 9).1 (TX7 9).2.1 (TX7 9).2.2.1 ∈ lw_g := wg 365 (by decide +kernel) rfl
theorem lf_7_71 : Cond.fieldLink "RudeCoupons" 71 (TX7 10).1 (TX7 10).2.1 (TX7 10).2.2.1 ∈ lw_g := wg 366 (by decide +kernel) rfl
theorem lf_8_84 : Cond.fieldLink "RudeCouponsModel" 84 (TX8 0).1 (TX8 0).2.1 (TX8 0).2.2.1 ∈ lw_g := wg 682 (by decide +kernel) rfl
theorem lf_8_7 : Cond.fieldLink "RudeCouponsModel" 7 (TX8 1).1 (TX8 1).2.1 (TX8 1).2.2.1 ∈ lw_g := wg 683 (by decide +kernel) rfl
theorem lf_8_131 : Cond.fieldLink "RudeCouponsModel" 131 (TX8 2).1 (TX8 2).2.1 (TX8 2).2.2.1 ∈ lw_g := wg 684 (by decide +kernel) rfl
theorem lf_8_13 : Cond.fieldLink "RudeCouponsModel" 13 (TX8 3).1 (TX8 3).2.1 (TX8 3).2.2.1 ∈ lw_g := wg 685 (by decide +kernel) rfl
theorem lf_8_91 : Cond.fieldLink "RudeCouponsModel" 91 (TX8 4).1 (TX8 4).2.1 (TX8 4).2.2.1 ∈ lw_g := wg 686 (by decide +kernel) rfl
theorem lf_8_16 : Cond.fieldLink "RudeCouponsModel" 16 (TX8 5).1 (TX8 5).2.1 (TX8 5).2.2.1 ∈ lw_g := wg 687 (by decide +kernel) rfl
theorem lf_8_19 : Cond.fieldLink "RudeCouponsModel" 19 (TX8 6).1 (TX8 6).2.1 (TX8 6).2.2.1 ∈ lw_g := wg 688 (by decide +kernel) rfl
theorem lf_8_22 : Cond.fieldLink "RudeCouponsModel" 22 (TX8 7).1 (TX8 7).2.1 (TX8 7).2.2.1 ∈ lw_g := wg 689 (by decide +kernel) rfl
theorem lf_8_138 : Cond.fieldLink "RudeCouponsModel" 138 (TX8 8).1 (TX8 8).2.1 (TX8 8).2.2.1 ∈ lw_g := wg 690 (by decide +kernel) rfl
theorem lf_8_25 : Cond.fieldLink "RudeCouponsModel" 25 (TX8 9).1 (TX8 9).2.1 (TX8 9).2.2.1 ∈ lw_g := wg 691 (by decide +kernel) rfl
theorem lf_8_141 : Cond.fieldLink "RudeCouponsModel" 141 (TX8 10).1 (TX8 10).2.1 (TX8 10).2.2.1 ∈ lw_g := wg 692 (by decide +kernel) rfl
theorem lf_8_28 : Cond.fieldLink "RudeCouponsModel" 28 (TX8 11).1 (TX8 11).2.1 (TX8 11).2.2.1 ∈ lw_g := wg 693 (by decide +kernel) rfl
theorem lf_8_144 : Cond.fieldLink "RudeCouponsModel" 144 (TX8 12).1 (TX8 12).2.1 (TX8 12).2.2.1 ∈ lw_g := wg 694 (by decide +kernel) rfl
theorem lf_8_31 : Cond.fieldLink "RudeCouponsModel" 31 (TX8 13).1 (TX8 13).2.1 (TX8 13).2.2.1 ∈ lw_g := wg 695 (by decide +kernel) rfl
theorem lf_8_34 : Cond.fieldLink "RudeCouponsModel" 34 (TX8 14).1 (TX8 14).2.1 (TX8 14).2.2.1 ∈ lw_g := wg 696 (by decide +kernel) rfl
theorem lf_8_94 : Cond.fieldLink "RudeCouponsModel" 94 (TX8 15).1 (TX8 15).2.1 (TX8 15).2.2.1 ∈ lw_g := wg 697 (by decide +kernel) rfl
theorem lf_8_97 : Cond.fieldLink "RudeCouponsModel" 97 (TX8 16).1 (TX8 16).2.1 (TX8 16).2.2.1 ∈ lw_g := wg 698 (by decide +kernel) rfl
theorem lf_8_37 : Cond.fieldLink "RudeCouponsModel" 37 (TX8 17).1 (TX8 17).2.1 (TX8 17).2.2.1 ∈ lw_g := wg 699 (by decide +kernel) rfl
theorem lf_8_74 : Cond.fieldLink "RudeCouponsModel" 74 (TX8 18).1 (TX8 18).2.1 (TX8 18).2.2.1 ∈ lw_g := wg 700 (by decide +kernel) rfl
theorem lf_8_40 : Cond.fieldLink "RudeCouponsModel" 40 (TX8 19).1 (TX8 19).2.1 (TX8 19).2.2.1 ∈ lw_g := wg 701 (by decide +kernel) rfl
theorem lf_8_78 : Cond.fieldLink "RudeCouponsModel" 78 (TX8 20).1 (TX8 20).2.1 (TX8 20).2.2.1 ∈ lw_g := wg 702 (by decide +kernel) rfl
theorem lf_8_43 : Cond.fieldLink "RudeCouponsModel" 43 (TX8 21).1 (TX8 21).2.1 (TX8 21).2.2.1 ∈ lw_g := wg 703 (by decide +kernel) rfl
theorem lf_8_81 : Cond.fieldLink "RudeCouponsModel" 81 (TX8 22).1 (TX8 22).2.1 (TX8 22).2.2.1 ∈ lw_g := wg 704 (by decide +kernel) rfl
theorem lf_8_46 : Cond.fieldLink "RudeCouponsModel" 46 (TX8 23).1 (TX8 23).2.1 (TX8 23).2.2.1 ∈ lw_g := wg 705 (by decide +kernel) rfl
theorem lf_8_186 : Cond.fieldLink "RudeCouponsModel" 186 (TX8 24).1 (TX8 24).2.1 (TX8 24).2.2.1 ∈ lw_g := wg 706 (by decide +kernel) rfl
theorem lf_8_49 : Cond.fieldLink "RudeCouponsModel" 49 (TX8 25).1 (TX8 25).2.1 (TX8 25).2.2.1 ∈ lw_g := wg 707 (by decide +kernel) rfl
theorem lf_8_52 : Cond.fieldLink "RudeCouponsModel" 52 (TX8 26).1 (TX8 26).2.1 (TX8 26).2.2.1 ∈ lw_g := wg 708 (by decide +kernel) rfl
theorem lf_8_55 : Cond.fieldLink "RudeCouponsModel" 55 (TX8 27).1 (TX8 27).2.1 (TX8 27).2.2.1 ∈ lw_g := wg 709 (by decide +kernel) rfl
theorem wc_0 : Cond.code (gY 0) (gB 0) (nl 0) (gT 0) ∈ lw_g := wg 844 (by decide +kernel) rfl
theorem wk_0 : Cond.static (gY 0) ∈ lw_g := wg 843 (by decide +kernel) rfl
theorem wi_0 : Cond.initialized (gY 0).cls ∈ lw_g := wg 45 (by decide +kernel) rfl
theorem wp_0 : (gY 0).cls ≠ "java/lang/invoke/MethodHandle" ∧ (gY 0).cls ≠ "java/lang/invoke/VarHandle" ∧ (parseMethodDescriptor (gY 0).desc).map (fun d => d.parameters.length) = some 2 := by decide +kernel
theorem wc_1 : Cond.code (gY 1) (gB 1) (nl 1) (gT 1) ∈ lw_g := wg 848 (by decide +kernel) rfl
theorem wk_1 : Cond.instanceMethod (gY 1) ∈ lw_g := wg 847 (by decide +kernel) rfl
theorem wi_1 : Cond.initialized (gY 1).cls ∈ lw_g := wg 45 (by decide +kernel) rfl
theorem wv_1 : Cond.selects "RudeCouponsModel" (gY 1) (gY 1) ∈ lw_g := wg 19 (by decide +kernel) rfl
theorem wp_1 : (gY 1).cls ≠ "java/lang/invoke/MethodHandle" ∧ (gY 1).cls ≠ "java/lang/invoke/VarHandle" ∧ (parseMethodDescriptor (gY 1).desc).map (fun d => d.parameters.length) = some 1 := by decide +kernel
theorem wc_2 : Cond.code (gY 2) (gB 2) (nl 2) (gT 2) ∈ lw_g := wg 856 (by decide +kernel) rfl
theorem wk_2 : Cond.instanceMethod (gY 2) ∈ lw_g := wg 855 (by decide +kernel) rfl
theorem wi_2 : Cond.initialized (gY 2).cls ∈ lw_g := wg 45 (by decide +kernel) rfl
theorem wv_2 : Cond.selects "RudeCouponsModel" (gY 2) (gY 2) ∈ lw_g := wg 21 (by decide +kernel) rfl
theorem wp_2 : (gY 2).cls ≠ "java/lang/invoke/MethodHandle" ∧ (gY 2).cls ≠ "java/lang/invoke/VarHandle" ∧ (parseMethodDescriptor (gY 2).desc).map (fun d => d.parameters.length) = some 4 := by decide +kernel
theorem wc_3 : Cond.code (gY 3) (gB 3) (nl 3) (gT 3) ∈ lw_g := wg 852 (by decide +kernel) rfl
theorem wk_3 : Cond.instanceMethod (gY 3) ∈ lw_g := wg 851 (by decide +kernel) rfl
theorem wi_3 : Cond.initialized (gY 3).cls ∈ lw_g := wg 45 (by decide +kernel) rfl
theorem wv_3 : Cond.selects "RudeCouponsModel" (gY 3) (gY 3) ∈ lw_g := wg 20 (by decide +kernel) rfl
theorem wp_3 : (gY 3).cls ≠ "java/lang/invoke/MethodHandle" ∧ (gY 3).cls ≠ "java/lang/invoke/VarHandle" ∧ (parseMethodDescriptor (gY 3).desc).map (fun d => d.parameters.length) = some 2 := by decide +kernel
theorem wc_4 : Cond.code (gY 4) (gB 4) (nl 4) (gT 4) ∈ lw_g := wg 868 (by decide +kernel) rfl
theorem wk_4 : Cond.instanceMethod (gY 4) ∈ lw_g := wg 867 (by decide +kernel) rfl
theorem wi_4 : Cond.initialized (gY 4).cls ∈ lw_g := wg 45 (by decide +kernel) rfl
theorem wv_4 : Cond.selects "RudeCouponsModel" (gY 4) (gY 4) ∈ lw_g := wg 23 (by decide +kernel) rfl
theorem wp_4 : (gY 4).cls ≠ "java/lang/invoke/MethodHandle" ∧ (gY 4).cls ≠ "java/lang/invoke/VarHandle" ∧ (parseMethodDescriptor (gY 4).desc).map (fun d => d.parameters.length) = some 1 := by decide +kernel
theorem wc_5 : Cond.code (gY 5) (gB 5) (nl 5) (gT 5) ∈ lw_g := wg 904 (by decide +kernel) rfl
theorem wk_5 : Cond.instanceMethod (gY 5) ∈ lw_g := wg 903 (by decide +kernel) rfl
theorem wi_5 : Cond.initialized (gY 5).cls ∈ lw_g := wg 45 (by decide +kernel) rfl
theorem wv_5 : Cond.selects "RudeCouponsModel" (gY 5) (gY 5) ∈ lw_g := wg 27 (by decide +kernel) rfl
theorem wp_5 : (gY 5).cls ≠ "java/lang/invoke/MethodHandle" ∧ (gY 5).cls ≠ "java/lang/invoke/VarHandle" ∧ (parseMethodDescriptor (gY 5).desc).map (fun d => d.parameters.length) = some 2 := by decide +kernel
theorem wc_6 : Cond.code (gY 6) (gB 6) (nl 6) (gT 6) ∈ lw_g := wg 900 (by decide +kernel) rfl
theorem wk_6 : Cond.instanceMethod (gY 6) ∈ lw_g := wg 899 (by decide +kernel) rfl
theorem wi_6 : Cond.initialized (gY 6).cls ∈ lw_g := wg 45 (by decide +kernel) rfl
theorem wv_6 : Cond.selects "RudeCouponsModel" (gY 6) (gY 6) ∈ lw_g := wg 26 (by decide +kernel) rfl
theorem wp_6 : (gY 6).cls ≠ "java/lang/invoke/MethodHandle" ∧ (gY 6).cls ≠ "java/lang/invoke/VarHandle" ∧ (parseMethodDescriptor (gY 6).desc).map (fun d => d.parameters.length) = some 2 := by decide +kernel
theorem wc_7 : Cond.code (gY 7) (gB 7) (nl 7) (gT 7) ∈ lw_g := wg 773 (by decide +kernel) rfl
theorem wk_7 : Cond.static (gY 7) ∈ lw_g := wg 772 (by decide +kernel) rfl
theorem wi_7 : Cond.initialized (gY 7).cls ∈ lw_g := wg 45 (by decide +kernel) rfl
theorem wp_7 : (gY 7).cls ≠ "java/lang/invoke/MethodHandle" ∧ (gY 7).cls ≠ "java/lang/invoke/VarHandle" ∧ (parseMethodDescriptor (gY 7).desc).map (fun d => d.parameters.length) = some 3 := by decide +kernel
theorem wc_8 : Cond.code (gY 8) (gB 8) (nl 8) (gT 8) ∈ lw_g := wg 872 (by decide +kernel) rfl
theorem wk_8 : Cond.instanceMethod (gY 8) ∈ lw_g := wg 871 (by decide +kernel) rfl
theorem wi_8 : Cond.initialized (gY 8).cls ∈ lw_g := wg 45 (by decide +kernel) rfl
theorem wv_8 : Cond.selects "RudeCouponsModel" (gY 8) (gY 8) ∈ lw_g := wg 24 (by decide +kernel) rfl
theorem wp_8 : (gY 8).cls ≠ "java/lang/invoke/MethodHandle" ∧ (gY 8).cls ≠ "java/lang/invoke/VarHandle" ∧ (parseMethodDescriptor (gY 8).desc).map (fun d => d.parameters.length) = some 2 := by decide +kernel
theorem wc_9 : Cond.code (gY 9) (gB 9) (nl 9) (gT 9) ∈ lw_g := wg 825 (by decide +kernel) rfl
theorem wk_9 : Cond.instanceMethod (gY 9) ∈ lw_g := wg 824 (by decide +kernel) rfl
theorem wi_9 : Cond.initialized (gY 9).cls ∈ lw_g := wg 45 (by decide +kernel) rfl
theorem wv_9 : Cond.selects "RudeCouponsModel" (gY 9) (gY 9) ∈ lw_g := wg 16 (by decide +kernel) rfl
theorem wp_9 : (gY 9).cls ≠ "java/lang/invoke/MethodHandle" ∧ (gY 9).cls ≠ "java/lang/invoke/VarHandle" ∧ (parseMethodDescriptor (gY 9).desc).map (fun d => d.parameters.length) = some 1 := by decide +kernel
theorem wc_10 : Cond.code (gY 10) (gB 10) (nl 10) (gT 10) ∈ lw_g := wg 437 (by decide +kernel) rfl
theorem wk_10 : Cond.instanceMethod (gY 10) ∈ lw_g := wg 435 (by decide +kernel) rfl
theorem wi_10 : Cond.initialized (gY 10).cls ∈ lw_g := wg 40 (by decide +kernel) rfl
theorem wv_10 : Cond.selects "RudeCoupons$Book" (gY 10) (gY 10) ∈ lw_g := wg 436 (by decide +kernel) rfl
theorem wp_10 : (gY 10).cls ≠ "java/lang/invoke/MethodHandle" ∧ (gY 10).cls ≠ "java/lang/invoke/VarHandle" ∧ (parseMethodDescriptor (gY 10).desc).map (fun d => d.parameters.length) = some 4 := by decide +kernel
theorem wc_11 : Cond.code (gY 11) (gB 11) (nl 11) (gT 11) ∈ lw_g := wg 505 (by decide +kernel) rfl
theorem wk_11 : Cond.instanceMethod (gY 11) ∈ lw_g := wg 503 (by decide +kernel) rfl
theorem wi_11 : Cond.initialized (gY 11).cls ∈ lw_g := wg 39 (by decide +kernel) rfl
theorem wv_11 : Cond.selects "RudeCoupons$Plans" (gY 11) (gY 11) ∈ lw_g := wg 504 (by decide +kernel) rfl
theorem wp_11 : (gY 11).cls ≠ "java/lang/invoke/MethodHandle" ∧ (gY 11).cls ≠ "java/lang/invoke/VarHandle" ∧ (parseMethodDescriptor (gY 11).desc).map (fun d => d.parameters.length) = some 3 := by decide +kernel
theorem wc_12 : Cond.code (gY 12) (gB 12) (nl 12) (gT 12) ∈ lw_g := wg 543 (by decide +kernel) rfl
theorem wk_12 : Cond.instanceMethod (gY 12) ∈ lw_g := wg 541 (by decide +kernel) rfl
theorem wi_12 : Cond.initialized (gY 12).cls ∈ lw_g := wg 39 (by decide +kernel) rfl
theorem wv_12 : Cond.selects "RudeCoupons$Plans" (gY 12) (gY 12) ∈ lw_g := wg 542 (by decide +kernel) rfl
theorem wp_12 : (gY 12).cls ≠ "java/lang/invoke/MethodHandle" ∧ (gY 12).cls ≠ "java/lang/invoke/VarHandle" ∧ (parseMethodDescriptor (gY 12).desc).map (fun d => d.parameters.length) = some 3 := by decide +kernel
theorem wc_13 : Cond.code (gY 13) (gB 13) (nl 13) (gT 13) ∈ lw_g := wg 539 (by decide +kernel) rfl
theorem wk_13 : Cond.instanceMethod (gY 13) ∈ lw_g := wg 537 (by decide +kernel) rfl
theorem wi_13 : Cond.initialized (gY 13).cls ∈ lw_g := wg 39 (by decide +kernel) rfl
theorem wv_13 : Cond.selects "RudeCoupons$Plans" (gY 13) (gY 13) ∈ lw_g := wg 538 (by decide +kernel) rfl
theorem wp_13 : (gY 13).cls ≠ "java/lang/invoke/MethodHandle" ∧ (gY 13).cls ≠ "java/lang/invoke/VarHandle" ∧ (parseMethodDescriptor (gY 13).desc).map (fun d => d.parameters.length) = some 2 := by decide +kernel
theorem wc_14 : Cond.code (gY 14) (gB 14) (nl 14) (gT 14) ∈ lw_g := wg 429 (by decide +kernel) rfl
theorem wk_14 : Cond.instanceMethod (gY 14) ∈ lw_g := wg 427 (by decide +kernel) rfl
theorem wi_14 : Cond.initialized (gY 14).cls ∈ lw_g := wg 35 (by decide +kernel) rfl
theorem wv_14 : Cond.selects "RudeCoupons$Standing" (gY 14) (gY 14) ∈ lw_g := wg 428 (by decide +kernel) rfl
theorem wp_14 : (gY 14).cls ≠ "java/lang/invoke/MethodHandle" ∧ (gY 14).cls ≠ "java/lang/invoke/VarHandle" ∧ (parseMethodDescriptor (gY 14).desc).map (fun d => d.parameters.length) = some 1 := by decide +kernel
theorem wc_15 : Cond.code (gY 15) (gB 15) (nl 15) (gT 15) ∈ lw_g := wg 500 (by decide +kernel) rfl
theorem wk_15 : Cond.instanceMethod (gY 15) ∈ lw_g := wg 498 (by decide +kernel) rfl
theorem wi_15 : Cond.initialized (gY 15).cls ∈ lw_g := wg 35 (by decide +kernel) rfl
theorem wv_15 : Cond.selects "RudeCoupons$Standing" (gY 15) (gY 15) ∈ lw_g := wg 499 (by decide +kernel) rfl
theorem wp_15 : (gY 15).cls ≠ "java/lang/invoke/MethodHandle" ∧ (gY 15).cls ≠ "java/lang/invoke/VarHandle" ∧ (parseMethodDescriptor (gY 15).desc).map (fun d => d.parameters.length) = some 2 := by decide +kernel
theorem wc_16 : Cond.code (gY 16) (gB 16) (nl 16) (gT 16) ∈ lw_g := wg 335 (by decide +kernel) rfl
theorem wk_16 : Cond.static (gY 16) ∈ lw_g := wg 334 (by decide +kernel) rfl
theorem wi_16 : Cond.initialized (gY 16).cls ∈ lw_g := wg 32 (by decide +kernel) rfl
theorem wp_16 : (gY 16).cls ≠ "java/lang/invoke/MethodHandle" ∧ (gY 16).cls ≠ "java/lang/invoke/VarHandle" ∧ (parseMethodDescriptor (gY 16).desc).map (fun d => d.parameters.length) = some 3 := by decide +kernel
theorem wc_17 : Cond.code (gY 17) (gB 17) (nl 17) (gT 17) ∈ lw_g := wg 179 (by decide +kernel) rfl
theorem wk_17 : Cond.instanceMethod (gY 17) ∈ lw_g := wg 178 (by decide +kernel) rfl
theorem wi_17 : Cond.initialized (gY 17).cls ∈ lw_g := wg 40 (by decide +kernel) rfl
theorem wp_17 : (gY 17).cls ≠ "java/lang/invoke/MethodHandle" ∧ (gY 17).cls ≠ "java/lang/invoke/VarHandle" ∧ (parseMethodDescriptor (gY 17).desc).map (fun d => d.parameters.length) = some 0 := by decide +kernel
theorem wc_18 : Cond.code (gY 18) (gB 18) (nl 18) (gT 18) ∈ lw_g := wg 307 (by decide +kernel) rfl
theorem wk_18 : Cond.instanceMethod (gY 18) ∈ lw_g := wg 305 (by decide +kernel) rfl
theorem wi_18 : Cond.initialized (gY 18).cls ∈ lw_g := wg 40 (by decide +kernel) rfl
theorem wv_18 : Cond.selects "RudeCoupons$Book" (gY 18) (gY 18) ∈ lw_g := wg 306 (by decide +kernel) rfl
theorem wp_18 : (gY 18).cls ≠ "java/lang/invoke/MethodHandle" ∧ (gY 18).cls ≠ "java/lang/invoke/VarHandle" ∧ (parseMethodDescriptor (gY 18).desc).map (fun d => d.parameters.length) = some 0 := by decide +kernel
theorem wc_19 : Cond.code (gY 19) (gB 19) (nl 19) (gT 19) ∈ lw_g := wg 328 (by decide +kernel) rfl
theorem wk_19 : Cond.instanceMethod (gY 19) ∈ lw_g := wg 326 (by decide +kernel) rfl
theorem wi_19 : Cond.initialized (gY 19).cls ∈ lw_g := wg 40 (by decide +kernel) rfl
theorem wv_19 : Cond.selects "RudeCoupons$Book" (gY 19) (gY 19) ∈ lw_g := wg 327 (by decide +kernel) rfl
theorem wp_19 : (gY 19).cls ≠ "java/lang/invoke/MethodHandle" ∧ (gY 19).cls ≠ "java/lang/invoke/VarHandle" ∧ (parseMethodDescriptor (gY 19).desc).map (fun d => d.parameters.length) = some 4 := by decide +kernel
theorem wc_20 : Cond.code (gY 20) (gB 20) (nl 20) (gT 20) ∈ lw_g := wg 332 (by decide +kernel) rfl
theorem wk_20 : Cond.instanceMethod (gY 20) ∈ lw_g := wg 330 (by decide +kernel) rfl
theorem wi_20 : Cond.initialized (gY 20).cls ∈ lw_g := wg 40 (by decide +kernel) rfl
theorem wv_20 : Cond.selects "RudeCoupons$Book" (gY 20) (gY 20) ∈ lw_g := wg 331 (by decide +kernel) rfl
theorem wp_20 : (gY 20).cls ≠ "java/lang/invoke/MethodHandle" ∧ (gY 20).cls ≠ "java/lang/invoke/VarHandle" ∧ (parseMethodDescriptor (gY 20).desc).map (fun d => d.parameters.length) = some 3 := by decide +kernel
theorem wc_21 : Cond.code (gY 21) (gB 21) (nl 21) (gT 21) ∈ lw_g := wg 339 (by decide +kernel) rfl
theorem wk_21 : Cond.instanceMethod (gY 21) ∈ lw_g := wg 337 (by decide +kernel) rfl
theorem wi_21 : Cond.initialized (gY 21).cls ∈ lw_g := wg 40 (by decide +kernel) rfl
theorem wv_21 : Cond.selects "RudeCoupons$Book" (gY 21) (gY 21) ∈ lw_g := wg 338 (by decide +kernel) rfl
theorem wp_21 : (gY 21).cls ≠ "java/lang/invoke/MethodHandle" ∧ (gY 21).cls ≠ "java/lang/invoke/VarHandle" ∧ (parseMethodDescriptor (gY 21).desc).map (fun d => d.parameters.length) = some 3 := by decide +kernel
theorem wc_22 : Cond.code (gY 22) (gB 22) (nl 22) (gT 22) ∈ lw_g := wg 343 (by decide +kernel) rfl
theorem wk_22 : Cond.instanceMethod (gY 22) ∈ lw_g := wg 341 (by decide +kernel) rfl
theorem wi_22 : Cond.initialized (gY 22).cls ∈ lw_g := wg 40 (by decide +kernel) rfl
theorem wv_22 : Cond.selects "RudeCoupons$Book" (gY 22) (gY 22) ∈ lw_g := wg 342 (by decide +kernel) rfl
theorem wp_22 : (gY 22).cls ≠ "java/lang/invoke/MethodHandle" ∧ (gY 22).cls ≠ "java/lang/invoke/VarHandle" ∧ (parseMethodDescriptor (gY 22).desc).map (fun d => d.parameters.length) = some 3 := by decide +kernel
theorem wc_23 : Cond.code (gY 23) (gB 23) (nl 23) (gT 23) ∈ lw_g := wg 347 (by decide +kernel) rfl
theorem wk_23 : Cond.instanceMethod (gY 23) ∈ lw_g := wg 345 (by decide +kernel) rfl
theorem wi_23 : Cond.initialized (gY 23).cls ∈ lw_g := wg 40 (by decide +kernel) rfl
theorem wv_23 : Cond.selects "RudeCoupons$Book" (gY 23) (gY 23) ∈ lw_g := wg 346 (by decide +kernel) rfl
theorem wp_23 : (gY 23).cls ≠ "java/lang/invoke/MethodHandle" ∧ (gY 23).cls ≠ "java/lang/invoke/VarHandle" ∧ (parseMethodDescriptor (gY 23).desc).map (fun d => d.parameters.length) = some 1 := by decide +kernel
theorem wc_24 : Cond.code (gY 24) (gB 24) (nl 24) (gT 24) ∈ lw_g := wg 351 (by decide +kernel) rfl
theorem wk_24 : Cond.instanceMethod (gY 24) ∈ lw_g := wg 349 (by decide +kernel) rfl
theorem wi_24 : Cond.initialized (gY 24).cls ∈ lw_g := wg 40 (by decide +kernel) rfl
theorem wv_24 : Cond.selects "RudeCoupons$Book" (gY 24) (gY 24) ∈ lw_g := wg 350 (by decide +kernel) rfl
theorem wp_24 : (gY 24).cls ≠ "java/lang/invoke/MethodHandle" ∧ (gY 24).cls ≠ "java/lang/invoke/VarHandle" ∧ (parseMethodDescriptor (gY 24).desc).map (fun d => d.parameters.length) = some 1 := by decide +kernel
theorem wc_25 : Cond.code (gY 25) (gB 25) (nl 25) (gT 25) ∈ lw_g := wg 425 (by decide +kernel) rfl
theorem wk_25 : Cond.instanceMethod (gY 25) ∈ lw_g := wg 423 (by decide +kernel) rfl
theorem wi_25 : Cond.initialized (gY 25).cls ∈ lw_g := wg 40 (by decide +kernel) rfl
theorem wv_25 : Cond.selects "RudeCoupons$Book" (gY 25) (gY 25) ∈ lw_g := wg 424 (by decide +kernel) rfl
theorem wp_25 : (gY 25).cls ≠ "java/lang/invoke/MethodHandle" ∧ (gY 25).cls ≠ "java/lang/invoke/VarHandle" ∧ (parseMethodDescriptor (gY 25).desc).map (fun d => d.parameters.length) = some 1 := by decide +kernel
theorem wc_26 : Cond.code (gY 26) (gB 26) (nl 26) (gT 26) ∈ lw_g := wg 460 (by decide +kernel) rfl
theorem wk_26 : Cond.instanceMethod (gY 26) ∈ lw_g := wg 458 (by decide +kernel) rfl
theorem wi_26 : Cond.initialized (gY 26).cls ∈ lw_g := wg 40 (by decide +kernel) rfl
theorem wv_26 : Cond.selects "RudeCoupons$Book" (gY 26) (gY 26) ∈ lw_g := wg 459 (by decide +kernel) rfl
theorem wp_26 : (gY 26).cls ≠ "java/lang/invoke/MethodHandle" ∧ (gY 26).cls ≠ "java/lang/invoke/VarHandle" ∧ (parseMethodDescriptor (gY 26).desc).map (fun d => d.parameters.length) = some 3 := by decide +kernel
theorem wc_27 : Cond.code (gY 27) (gB 27) (nl 27) (gT 27) ∈ lw_g := wg 567 (by decide +kernel) rfl
theorem wk_27 : Cond.instanceMethod (gY 27) ∈ lw_g := wg 565 (by decide +kernel) rfl
theorem wi_27 : Cond.initialized (gY 27).cls ∈ lw_g := wg 40 (by decide +kernel) rfl
theorem wv_27 : Cond.selects "RudeCoupons$Book" (gY 27) (gY 27) ∈ lw_g := wg 566 (by decide +kernel) rfl
theorem wp_27 : (gY 27).cls ≠ "java/lang/invoke/MethodHandle" ∧ (gY 27).cls ≠ "java/lang/invoke/VarHandle" ∧ (parseMethodDescriptor (gY 27).desc).map (fun d => d.parameters.length) = some 2 := by decide +kernel
theorem wc_28 : Cond.code (gY 28) (gB 28) (nl 28) (gT 28) ∈ lw_g := wg 59 (by decide +kernel) rfl
theorem wk_28 : Cond.instanceMethod (gY 28) ∈ lw_g := wg 58 (by decide +kernel) rfl
theorem wi_28 : Cond.initialized (gY 28).cls ∈ lw_g := wg 33 (by decide +kernel) rfl
theorem wp_28 : (gY 28).cls ≠ "java/lang/invoke/MethodHandle" ∧ (gY 28).cls ≠ "java/lang/invoke/VarHandle" ∧ (parseMethodDescriptor (gY 28).desc).map (fun d => d.parameters.length) = some 0 := by decide +kernel
theorem wc_29 : Cond.code (gY 29) (gB 29) (nl 29) (gT 29) ∈ lw_g := wg 295 (by decide +kernel) rfl
theorem wk_29 : Cond.instanceMethod (gY 29) ∈ lw_g := wg 293 (by decide +kernel) rfl
theorem wi_29 : Cond.initialized (gY 29).cls ∈ lw_g := wg 33 (by decide +kernel) rfl
theorem wv_29 : Cond.selects "RudeCoupons$Letters" (gY 29) (gY 29) ∈ lw_g := wg 294 (by decide +kernel) rfl
theorem wp_29 : (gY 29).cls ≠ "java/lang/invoke/MethodHandle" ∧ (gY 29).cls ≠ "java/lang/invoke/VarHandle" ∧ (parseMethodDescriptor (gY 29).desc).map (fun d => d.parameters.length) = some 1 := by decide +kernel
theorem wc_30 : Cond.code (gY 30) (gB 30) (nl 30) (gT 30) ∈ lw_g := wg 318 (by decide +kernel) rfl
theorem wk_30 : Cond.instanceMethod (gY 30) ∈ lw_g := wg 316 (by decide +kernel) rfl
theorem wi_30 : Cond.initialized (gY 30).cls ∈ lw_g := wg 33 (by decide +kernel) rfl
theorem wv_30 : Cond.selects "RudeCoupons$Letters" (gY 30) (gY 30) ∈ lw_g := wg 317 (by decide +kernel) rfl
theorem wp_30 : (gY 30).cls ≠ "java/lang/invoke/MethodHandle" ∧ (gY 30).cls ≠ "java/lang/invoke/VarHandle" ∧ (parseMethodDescriptor (gY 30).desc).map (fun d => d.parameters.length) = some 1 := by decide +kernel
theorem wc_31 : Cond.code (gY 31) (gB 31) (nl 31) (gT 31) ∈ lw_g := wg 638 (by decide +kernel) rfl
theorem wk_31 : Cond.instanceMethod (gY 31) ∈ lw_g := wg 636 (by decide +kernel) rfl
theorem wi_31 : Cond.initialized (gY 31).cls ∈ lw_g := wg 33 (by decide +kernel) rfl
theorem wv_31 : Cond.selects "RudeCoupons$Letters" (gY 31) (gY 31) ∈ lw_g := wg 637 (by decide +kernel) rfl
theorem wp_31 : (gY 31).cls ≠ "java/lang/invoke/MethodHandle" ∧ (gY 31).cls ≠ "java/lang/invoke/VarHandle" ∧ (parseMethodDescriptor (gY 31).desc).map (fun d => d.parameters.length) = some 1 := by decide +kernel
theorem wc_32 : Cond.code (gY 32) (gB 32) (nl 32) (gT 32) ∈ lw_g := wg 158 (by decide +kernel) rfl
theorem wk_32 : Cond.instanceMethod (gY 32) ∈ lw_g := wg 157 (by decide +kernel) rfl
theorem wi_32 : Cond.initialized (gY 32).cls ∈ lw_g := wg 39 (by decide +kernel) rfl
theorem wp_32 : (gY 32).cls ≠ "java/lang/invoke/MethodHandle" ∧ (gY 32).cls ≠ "java/lang/invoke/VarHandle" ∧ (parseMethodDescriptor (gY 32).desc).map (fun d => d.parameters.length) = some 0 := by decide +kernel
theorem wc_33 : Cond.code (gY 33) (gB 33) (nl 33) (gT 33) ∈ lw_g := wg 496 (by decide +kernel) rfl
theorem wk_33 : Cond.instanceMethod (gY 33) ∈ lw_g := wg 494 (by decide +kernel) rfl
theorem wi_33 : Cond.initialized (gY 33).cls ∈ lw_g := wg 39 (by decide +kernel) rfl
theorem wv_33 : Cond.selects "RudeCoupons$Plans" (gY 33) (gY 33) ∈ lw_g := wg 495 (by decide +kernel) rfl
theorem wp_33 : (gY 33).cls ≠ "java/lang/invoke/MethodHandle" ∧ (gY 33).cls ≠ "java/lang/invoke/VarHandle" ∧ (parseMethodDescriptor (gY 33).desc).map (fun d => d.parameters.length) = some 3 := by decide +kernel
theorem wc_34 : Cond.code (gY 34) (gB 34) (nl 34) (gT 34) ∈ lw_g := wg 514 (by decide +kernel) rfl
theorem wk_34 : Cond.instanceMethod (gY 34) ∈ lw_g := wg 512 (by decide +kernel) rfl
theorem wi_34 : Cond.initialized (gY 34).cls ∈ lw_g := wg 39 (by decide +kernel) rfl
theorem wv_34 : Cond.selects "RudeCoupons$Plans" (gY 34) (gY 34) ∈ lw_g := wg 513 (by decide +kernel) rfl
theorem wp_34 : (gY 34).cls ≠ "java/lang/invoke/MethodHandle" ∧ (gY 34).cls ≠ "java/lang/invoke/VarHandle" ∧ (parseMethodDescriptor (gY 34).desc).map (fun d => d.parameters.length) = some 2 := by decide +kernel
theorem wc_35 : Cond.code (gY 35) (gB 35) (nl 35) (gT 35) ∈ lw_g := wg 522 (by decide +kernel) rfl
theorem wk_35 : Cond.instanceMethod (gY 35) ∈ lw_g := wg 520 (by decide +kernel) rfl
theorem wi_35 : Cond.initialized (gY 35).cls ∈ lw_g := wg 39 (by decide +kernel) rfl
theorem wv_35 : Cond.selects "RudeCoupons$Plans" (gY 35) (gY 35) ∈ lw_g := wg 521 (by decide +kernel) rfl
theorem wp_35 : (gY 35).cls ≠ "java/lang/invoke/MethodHandle" ∧ (gY 35).cls ≠ "java/lang/invoke/VarHandle" ∧ (parseMethodDescriptor (gY 35).desc).map (fun d => d.parameters.length) = some 2 := by decide +kernel
theorem wc_36 : Cond.code (gY 36) (gB 36) (nl 36) (gT 36) ∈ lw_g := wg 535 (by decide +kernel) rfl
theorem wk_36 : Cond.instanceMethod (gY 36) ∈ lw_g := wg 533 (by decide +kernel) rfl
theorem wi_36 : Cond.initialized (gY 36).cls ∈ lw_g := wg 39 (by decide +kernel) rfl
theorem wv_36 : Cond.selects "RudeCoupons$Plans" (gY 36) (gY 36) ∈ lw_g := wg 534 (by decide +kernel) rfl
theorem wp_36 : (gY 36).cls ≠ "java/lang/invoke/MethodHandle" ∧ (gY 36).cls ≠ "java/lang/invoke/VarHandle" ∧ (parseMethodDescriptor (gY 36).desc).map (fun d => d.parameters.length) = some 2 := by decide +kernel
theorem wc_37 : Cond.code (gY 37) (gB 37) (nl 37) (gT 37) ∈ lw_g := wg 548 (by decide +kernel) rfl
theorem wk_37 : Cond.instanceMethod (gY 37) ∈ lw_g := wg 546 (by decide +kernel) rfl
theorem wi_37 : Cond.initialized (gY 37).cls ∈ lw_g := wg 39 (by decide +kernel) rfl
theorem wv_37 : Cond.selects "RudeCoupons$Plans" (gY 37) (gY 37) ∈ lw_g := wg 547 (by decide +kernel) rfl
theorem wp_37 : (gY 37).cls ≠ "java/lang/invoke/MethodHandle" ∧ (gY 37).cls ≠ "java/lang/invoke/VarHandle" ∧ (parseMethodDescriptor (gY 37).desc).map (fun d => d.parameters.length) = some 2 := by decide +kernel
theorem wc_38 : Cond.code (gY 38) (gB 38) (nl 38) (gT 38) ∈ lw_g := wg 552 (by decide +kernel) rfl
theorem wk_38 : Cond.instanceMethod (gY 38) ∈ lw_g := wg 550 (by decide +kernel) rfl
theorem wi_38 : Cond.initialized (gY 38).cls ∈ lw_g := wg 39 (by decide +kernel) rfl
theorem wv_38 : Cond.selects "RudeCoupons$Plans" (gY 38) (gY 38) ∈ lw_g := wg 551 (by decide +kernel) rfl
theorem wp_38 : (gY 38).cls ≠ "java/lang/invoke/MethodHandle" ∧ (gY 38).cls ≠ "java/lang/invoke/VarHandle" ∧ (parseMethodDescriptor (gY 38).desc).map (fun d => d.parameters.length) = some 2 := by decide +kernel
theorem wc_39 : Cond.code (gY 39) (gB 39) (nl 39) (gT 39) ∈ lw_g := wg 75 (by decide +kernel) rfl
theorem wk_39 : Cond.instanceMethod (gY 39) ∈ lw_g := wg 74 (by decide +kernel) rfl
theorem wi_39 : Cond.initialized (gY 39).cls ∈ lw_g := wg 34 (by decide +kernel) rfl
theorem wp_39 : (gY 39).cls ≠ "java/lang/invoke/MethodHandle" ∧ (gY 39).cls ≠ "java/lang/invoke/VarHandle" ∧ (parseMethodDescriptor (gY 39).desc).map (fun d => d.parameters.length) = some 0 := by decide +kernel
theorem wc_40 : Cond.code (gY 40) (gB 40) (nl 40) (gT 40) ∈ lw_g := wg 303 (by decide +kernel) rfl
theorem wk_40 : Cond.instanceMethod (gY 40) ∈ lw_g := wg 301 (by decide +kernel) rfl
theorem wi_40 : Cond.initialized (gY 40).cls ∈ lw_g := wg 34 (by decide +kernel) rfl
theorem wv_40 : Cond.selects "RudeCoupons$Reader" (gY 40) (gY 40) ∈ lw_g := wg 302 (by decide +kernel) rfl
theorem wp_40 : (gY 40).cls ≠ "java/lang/invoke/MethodHandle" ∧ (gY 40).cls ≠ "java/lang/invoke/VarHandle" ∧ (parseMethodDescriptor (gY 40).desc).map (fun d => d.parameters.length) = some 2 := by decide +kernel
theorem wc_41 : Cond.code (gY 41) (gB 41) (nl 41) (gT 41) ∈ lw_g := wg 311 (by decide +kernel) rfl
theorem wk_41 : Cond.instanceMethod (gY 41) ∈ lw_g := wg 309 (by decide +kernel) rfl
theorem wi_41 : Cond.initialized (gY 41).cls ∈ lw_g := wg 34 (by decide +kernel) rfl
theorem wv_41 : Cond.selects "RudeCoupons$Reader" (gY 41) (gY 41) ∈ lw_g := wg 310 (by decide +kernel) rfl
theorem wp_41 : (gY 41).cls ≠ "java/lang/invoke/MethodHandle" ∧ (gY 41).cls ≠ "java/lang/invoke/VarHandle" ∧ (parseMethodDescriptor (gY 41).desc).map (fun d => d.parameters.length) = some 3 := by decide +kernel
theorem wc_42 : Cond.code (gY 42) (gB 42) (nl 42) (gT 42) ∈ lw_g := wg 314 (by decide +kernel) rfl
theorem wk_42 : Cond.static (gY 42) ∈ lw_g := wg 313 (by decide +kernel) rfl
theorem wi_42 : Cond.initialized (gY 42).cls ∈ lw_g := wg 34 (by decide +kernel) rfl
theorem wp_42 : (gY 42).cls ≠ "java/lang/invoke/MethodHandle" ∧ (gY 42).cls ≠ "java/lang/invoke/VarHandle" ∧ (parseMethodDescriptor (gY 42).desc).map (fun d => d.parameters.length) = some 2 := by decide +kernel
theorem wc_43 : Cond.code (gY 43) (gB 43) (nl 43) (gT 43) ∈ lw_g := wg 321 (by decide +kernel) rfl
theorem wk_43 : Cond.static (gY 43) ∈ lw_g := wg 320 (by decide +kernel) rfl
theorem wi_43 : Cond.initialized (gY 43).cls ∈ lw_g := wg 34 (by decide +kernel) rfl
theorem wp_43 : (gY 43).cls ≠ "java/lang/invoke/MethodHandle" ∧ (gY 43).cls ≠ "java/lang/invoke/VarHandle" ∧ (parseMethodDescriptor (gY 43).desc).map (fun d => d.parameters.length) = some 1 := by decide +kernel
theorem wc_44 : Cond.code (gY 44) (gB 44) (nl 44) (gT 44) ∈ lw_g := wg 324 (by decide +kernel) rfl
theorem wk_44 : Cond.static (gY 44) ∈ lw_g := wg 323 (by decide +kernel) rfl
theorem wi_44 : Cond.initialized (gY 44).cls ∈ lw_g := wg 34 (by decide +kernel) rfl
theorem wp_44 : (gY 44).cls ≠ "java/lang/invoke/MethodHandle" ∧ (gY 44).cls ≠ "java/lang/invoke/VarHandle" ∧ (parseMethodDescriptor (gY 44).desc).map (fun d => d.parameters.length) = some 3 := by decide +kernel
theorem wc_45 : Cond.code (gY 45) (gB 45) (nl 45) (gT 45) ∈ lw_g := wg 117 (by decide +kernel) rfl
theorem wk_45 : Cond.instanceMethod (gY 45) ∈ lw_g := wg 116 (by decide +kernel) rfl
theorem wi_45 : Cond.initialized (gY 45).cls ∈ lw_g := wg 36 (by decide +kernel) rfl
theorem wp_45 : (gY 45).cls ≠ "java/lang/invoke/MethodHandle" ∧ (gY 45).cls ≠ "java/lang/invoke/VarHandle" ∧ (parseMethodDescriptor (gY 45).desc).map (fun d => d.parameters.length) = some 1 := by decide +kernel
theorem wc_46 : Cond.code (gY 46) (gB 46) (nl 46) (gT 46) ∈ lw_g := wg 445 (by decide +kernel) rfl
theorem wk_46 : Cond.instanceMethod (gY 46) ∈ lw_g := wg 443 (by decide +kernel) rfl
theorem wi_46 : Cond.initialized (gY 46).cls ∈ lw_g := wg 36 (by decide +kernel) rfl
theorem wv_46 : Cond.selects "RudeCoupons$Shelf" (gY 46) (gY 46) ∈ lw_g := wg 444 (by decide +kernel) rfl
theorem wp_46 : (gY 46).cls ≠ "java/lang/invoke/MethodHandle" ∧ (gY 46).cls ≠ "java/lang/invoke/VarHandle" ∧ (parseMethodDescriptor (gY 46).desc).map (fun d => d.parameters.length) = some 1 := by decide +kernel
theorem wc_47 : Cond.code (gY 47) (gB 47) (nl 47) (gT 47) ∈ lw_g := wg 449 (by decide +kernel) rfl
theorem wk_47 : Cond.instanceMethod (gY 47) ∈ lw_g := wg 447 (by decide +kernel) rfl
theorem wi_47 : Cond.initialized (gY 47).cls ∈ lw_g := wg 36 (by decide +kernel) rfl
theorem wv_47 : Cond.selects "RudeCoupons$Shelf" (gY 47) (gY 47) ∈ lw_g := wg 448 (by decide +kernel) rfl
theorem wp_47 : (gY 47).cls ≠ "java/lang/invoke/MethodHandle" ∧ (gY 47).cls ≠ "java/lang/invoke/VarHandle" ∧ (parseMethodDescriptor (gY 47).desc).map (fun d => d.parameters.length) = some 0 := by decide +kernel
theorem wc_48 : Cond.code (gY 48) (gB 48) (nl 48) (gT 48) ∈ lw_g := wg 488 (by decide +kernel) rfl
theorem wk_48 : Cond.instanceMethod (gY 48) ∈ lw_g := wg 486 (by decide +kernel) rfl
theorem wi_48 : Cond.initialized (gY 48).cls ∈ lw_g := wg 36 (by decide +kernel) rfl
theorem wv_48 : Cond.selects "RudeCoupons$Shelf" (gY 48) (gY 48) ∈ lw_g := wg 487 (by decide +kernel) rfl
theorem wp_48 : (gY 48).cls ≠ "java/lang/invoke/MethodHandle" ∧ (gY 48).cls ≠ "java/lang/invoke/VarHandle" ∧ (parseMethodDescriptor (gY 48).desc).map (fun d => d.parameters.length) = some 1 := by decide +kernel
theorem wc_49 : Cond.code (gY 49) (gB 49) (nl 49) (gT 49) ∈ lw_g := wg 138 (by decide +kernel) rfl
theorem wk_49 : Cond.instanceMethod (gY 49) ∈ lw_g := wg 137 (by decide +kernel) rfl
theorem wi_49 : Cond.initialized (gY 49).cls ∈ lw_g := wg 38 (by decide +kernel) rfl
theorem wp_49 : (gY 49).cls ≠ "java/lang/invoke/MethodHandle" ∧ (gY 49).cls ≠ "java/lang/invoke/VarHandle" ∧ (parseMethodDescriptor (gY 49).desc).map (fun d => d.parameters.length) = some 0 := by decide +kernel
theorem wc_50 : Cond.code (gY 50) (gB 50) (nl 50) (gT 50) ∈ lw_g := wg 576 (by decide +kernel) rfl
theorem wk_50 : Cond.instanceMethod (gY 50) ∈ lw_g := wg 574 (by decide +kernel) rfl
theorem wi_50 : Cond.initialized (gY 50).cls ∈ lw_g := wg 38 (by decide +kernel) rfl
theorem wv_50 : Cond.selects "RudeCoupons$Sightings" (gY 50) (gY 50) ∈ lw_g := wg 575 (by decide +kernel) rfl
theorem wp_50 : (gY 50).cls ≠ "java/lang/invoke/MethodHandle" ∧ (gY 50).cls ≠ "java/lang/invoke/VarHandle" ∧ (parseMethodDescriptor (gY 50).desc).map (fun d => d.parameters.length) = some 3 := by decide +kernel
theorem wc_51 : Cond.code (gY 51) (gB 51) (nl 51) (gT 51) ∈ lw_g := wg 588 (by decide +kernel) rfl
theorem wk_51 : Cond.instanceMethod (gY 51) ∈ lw_g := wg 586 (by decide +kernel) rfl
theorem wi_51 : Cond.initialized (gY 51).cls ∈ lw_g := wg 38 (by decide +kernel) rfl
theorem wv_51 : Cond.selects "RudeCoupons$Sightings" (gY 51) (gY 51) ∈ lw_g := wg 587 (by decide +kernel) rfl
theorem wp_51 : (gY 51).cls ≠ "java/lang/invoke/MethodHandle" ∧ (gY 51).cls ≠ "java/lang/invoke/VarHandle" ∧ (parseMethodDescriptor (gY 51).desc).map (fun d => d.parameters.length) = some 2 := by decide +kernel
theorem wc_52 : Cond.code (gY 52) (gB 52) (nl 52) (gT 52) ∈ lw_g := wg 86 (by decide +kernel) rfl
theorem wk_52 : Cond.instanceMethod (gY 52) ∈ lw_g := wg 85 (by decide +kernel) rfl
theorem wi_52 : Cond.initialized (gY 52).cls ∈ lw_g := wg 35 (by decide +kernel) rfl
theorem wp_52 : (gY 52).cls ≠ "java/lang/invoke/MethodHandle" ∧ (gY 52).cls ≠ "java/lang/invoke/VarHandle" ∧ (parseMethodDescriptor (gY 52).desc).map (fun d => d.parameters.length) = some 0 := by decide +kernel
theorem wc_53 : Cond.code (gY 53) (gB 53) (nl 53) (gT 53) ∈ lw_g := wg 355 (by decide +kernel) rfl
theorem wk_53 : Cond.instanceMethod (gY 53) ∈ lw_g := wg 353 (by decide +kernel) rfl
theorem wi_53 : Cond.initialized (gY 53).cls ∈ lw_g := wg 35 (by decide +kernel) rfl
theorem wv_53 : Cond.selects "RudeCoupons$Standing" (gY 53) (gY 53) ∈ lw_g := wg 354 (by decide +kernel) rfl
theorem wp_53 : (gY 53).cls ≠ "java/lang/invoke/MethodHandle" ∧ (gY 53).cls ≠ "java/lang/invoke/VarHandle" ∧ (parseMethodDescriptor (gY 53).desc).map (fun d => d.parameters.length) = some 1 := by decide +kernel
theorem wc_54 : Cond.code (gY 54) (gB 54) (nl 54) (gT 54) ∈ lw_g := wg 453 (by decide +kernel) rfl
theorem wk_54 : Cond.instanceMethod (gY 54) ∈ lw_g := wg 451 (by decide +kernel) rfl
theorem wi_54 : Cond.initialized (gY 54).cls ∈ lw_g := wg 35 (by decide +kernel) rfl
theorem wv_54 : Cond.selects "RudeCoupons$Standing" (gY 54) (gY 54) ∈ lw_g := wg 452 (by decide +kernel) rfl
theorem wp_54 : (gY 54).cls ≠ "java/lang/invoke/MethodHandle" ∧ (gY 54).cls ≠ "java/lang/invoke/VarHandle" ∧ (parseMethodDescriptor (gY 54).desc).map (fun d => d.parameters.length) = some 1 := by decide +kernel
theorem wc_55 : Cond.code (gY 55) (gB 55) (nl 55) (gT 55) ∈ lw_g := wg 477 (by decide +kernel) rfl
theorem wk_55 : Cond.instanceMethod (gY 55) ∈ lw_g := wg 475 (by decide +kernel) rfl
theorem wi_55 : Cond.initialized (gY 55).cls ∈ lw_g := wg 35 (by decide +kernel) rfl
theorem wv_55 : Cond.selects "RudeCoupons$Standing" (gY 55) (gY 55) ∈ lw_g := wg 476 (by decide +kernel) rfl
theorem wp_55 : (gY 55).cls ≠ "java/lang/invoke/MethodHandle" ∧ (gY 55).cls ≠ "java/lang/invoke/VarHandle" ∧ (parseMethodDescriptor (gY 55).desc).map (fun d => d.parameters.length) = some 0 := by decide +kernel
theorem wc_56 : Cond.code (gY 56) (gB 56) (nl 56) (gT 56) ∈ lw_g := wg 597 (by decide +kernel) rfl
theorem wk_56 : Cond.instanceMethod (gY 56) ∈ lw_g := wg 595 (by decide +kernel) rfl
theorem wi_56 : Cond.initialized (gY 56).cls ∈ lw_g := wg 35 (by decide +kernel) rfl
theorem wv_56 : Cond.selects "RudeCoupons$Standing" (gY 56) (gY 56) ∈ lw_g := wg 596 (by decide +kernel) rfl
theorem wp_56 : (gY 56).cls ≠ "java/lang/invoke/MethodHandle" ∧ (gY 56).cls ≠ "java/lang/invoke/VarHandle" ∧ (parseMethodDescriptor (gY 56).desc).map (fun d => d.parameters.length) = some 0 := by decide +kernel
theorem wc_57 : Cond.code (gY 57) (gB 57) (nl 57) (gT 57) ∈ lw_g := wg 615 (by decide +kernel) rfl
theorem wk_57 : Cond.instanceMethod (gY 57) ∈ lw_g := wg 613 (by decide +kernel) rfl
theorem wi_57 : Cond.initialized (gY 57).cls ∈ lw_g := wg 35 (by decide +kernel) rfl
theorem wv_57 : Cond.selects "RudeCoupons$Standing" (gY 57) (gY 57) ∈ lw_g := wg 614 (by decide +kernel) rfl
theorem wp_57 : (gY 57).cls ≠ "java/lang/invoke/MethodHandle" ∧ (gY 57).cls ≠ "java/lang/invoke/VarHandle" ∧ (parseMethodDescriptor (gY 57).desc).map (fun d => d.parameters.length) = some 0 := by decide +kernel
theorem wc_58 : Cond.code (gY 58) (gB 58) (nl 58) (gT 58) ∈ lw_g := wg 51 (by decide +kernel) rfl
theorem wk_58 : Cond.instanceMethod (gY 58) ∈ lw_g := wg 50 (by decide +kernel) rfl
theorem wi_58 : Cond.initialized (gY 58).cls ∈ lw_g := wg 32 (by decide +kernel) rfl
theorem wp_58 : (gY 58).cls ≠ "java/lang/invoke/MethodHandle" ∧ (gY 58).cls ≠ "java/lang/invoke/VarHandle" ∧ (parseMethodDescriptor (gY 58).desc).map (fun d => d.parameters.length) = some 0 := by decide +kernel
theorem wc_59 : Cond.code (gY 59) (gB 59) (nl 59) (gT 59) ∈ lw_g := wg 299 (by decide +kernel) rfl
theorem wk_59 : Cond.instanceMethod (gY 59) ∈ lw_g := wg 298 (by decide +kernel) rfl
theorem wi_59 : Cond.initialized (gY 59).cls ∈ lw_g := wg 32 (by decide +kernel) rfl
theorem wv_59 : Cond.selects "RudeCoupons" (gY 59) (gY 59) ∈ lw_g := wg 0 (by decide +kernel) rfl
theorem wp_59 : (gY 59).cls ≠ "java/lang/invoke/MethodHandle" ∧ (gY 59).cls ≠ "java/lang/invoke/VarHandle" ∧ (parseMethodDescriptor (gY 59).desc).map (fun d => d.parameters.length) = some 0 := by decide +kernel
theorem wc_60 : Cond.code (gY 60) (gB 60) (nl 60) (gT 60) ∈ lw_g := wg 394 (by decide +kernel) rfl
theorem wk_60 : Cond.instanceMethod (gY 60) ∈ lw_g := wg 392 (by decide +kernel) rfl
theorem wi_60 : Cond.initialized (gY 60).cls ∈ lw_g := wg 32 (by decide +kernel) rfl
theorem wv_60 : Cond.selects "RudeCoupons" (gY 60) (gY 60) ∈ lw_g := wg 393 (by decide +kernel) rfl
theorem wp_60 : (gY 60).cls ≠ "java/lang/invoke/MethodHandle" ∧ (gY 60).cls ≠ "java/lang/invoke/VarHandle" ∧ (parseMethodDescriptor (gY 60).desc).map (fun d => d.parameters.length) = some 1 := by decide +kernel
theorem wc_61 : Cond.code (gY 61) (gB 61) (nl 61) (gT 61) ∈ lw_g := wg 399 (by decide +kernel) rfl
theorem wk_61 : Cond.instanceMethod (gY 61) ∈ lw_g := wg 397 (by decide +kernel) rfl
theorem wi_61 : Cond.initialized (gY 61).cls ∈ lw_g := wg 32 (by decide +kernel) rfl
theorem wv_61 : Cond.selects "RudeCoupons" (gY 61) (gY 61) ∈ lw_g := wg 398 (by decide +kernel) rfl
theorem wp_61 : (gY 61).cls ≠ "java/lang/invoke/MethodHandle" ∧ (gY 61).cls ≠ "java/lang/invoke/VarHandle" ∧ (parseMethodDescriptor (gY 61).desc).map (fun d => d.parameters.length) = some 0 := by decide +kernel
theorem wc_62 : Cond.code (gY 62) (gB 62) (nl 62) (gT 62) ∈ lw_g := wg 403 (by decide +kernel) rfl
theorem wk_62 : Cond.instanceMethod (gY 62) ∈ lw_g := wg 401 (by decide +kernel) rfl
theorem wi_62 : Cond.initialized (gY 62).cls ∈ lw_g := wg 32 (by decide +kernel) rfl
theorem wv_62 : Cond.selects "RudeCoupons" (gY 62) (gY 62) ∈ lw_g := wg 402 (by decide +kernel) rfl
theorem wp_62 : (gY 62).cls ≠ "java/lang/invoke/MethodHandle" ∧ (gY 62).cls ≠ "java/lang/invoke/VarHandle" ∧ (parseMethodDescriptor (gY 62).desc).map (fun d => d.parameters.length) = some 0 := by decide +kernel
theorem wc_63 : Cond.code (gY 63) (gB 63) (nl 63) (gT 63) ∈ lw_g := wg 407 (by decide +kernel) rfl
theorem wk_63 : Cond.instanceMethod (gY 63) ∈ lw_g := wg 405 (by decide +kernel) rfl
theorem wi_63 : Cond.initialized (gY 63).cls ∈ lw_g := wg 32 (by decide +kernel) rfl
theorem wv_63 : Cond.selects "RudeCoupons" (gY 63) (gY 63) ∈ lw_g := wg 406 (by decide +kernel) rfl
theorem wp_63 : (gY 63).cls ≠ "java/lang/invoke/MethodHandle" ∧ (gY 63).cls ≠ "java/lang/invoke/VarHandle" ∧ (parseMethodDescriptor (gY 63).desc).map (fun d => d.parameters.length) = some 0 := by decide +kernel
theorem wc_64 : Cond.code (gY 64) (gB 64) (nl 64) (gT 64) ∈ lw_g := wg 411 (by decide +kernel) rfl
theorem wk_64 : Cond.instanceMethod (gY 64) ∈ lw_g := wg 409 (by decide +kernel) rfl
theorem wi_64 : Cond.initialized (gY 64).cls ∈ lw_g := wg 32 (by decide +kernel) rfl
theorem wv_64 : Cond.selects "RudeCoupons" (gY 64) (gY 64) ∈ lw_g := wg 410 (by decide +kernel) rfl
theorem wp_64 : (gY 64).cls ≠ "java/lang/invoke/MethodHandle" ∧ (gY 64).cls ≠ "java/lang/invoke/VarHandle" ∧ (parseMethodDescriptor (gY 64).desc).map (fun d => d.parameters.length) = some 2 := by decide +kernel
theorem wc_65 : Cond.code (gY 65) (gB 65) (nl 65) (gT 65) ∈ lw_g := wg 416 (by decide +kernel) rfl
theorem wk_65 : Cond.instanceMethod (gY 65) ∈ lw_g := wg 414 (by decide +kernel) rfl
theorem wi_65 : Cond.initialized (gY 65).cls ∈ lw_g := wg 32 (by decide +kernel) rfl
theorem wv_65 : Cond.selects "RudeCoupons" (gY 65) (gY 65) ∈ lw_g := wg 415 (by decide +kernel) rfl
theorem wp_65 : (gY 65).cls ≠ "java/lang/invoke/MethodHandle" ∧ (gY 65).cls ≠ "java/lang/invoke/VarHandle" ∧ (parseMethodDescriptor (gY 65).desc).map (fun d => d.parameters.length) = some 2 := by decide +kernel
theorem wc_66 : Cond.code (gY 66) (gB 66) (nl 66) (gT 66) ∈ lw_g := wg 421 (by decide +kernel) rfl
theorem wk_66 : Cond.instanceMethod (gY 66) ∈ lw_g := wg 419 (by decide +kernel) rfl
theorem wi_66 : Cond.initialized (gY 66).cls ∈ lw_g := wg 32 (by decide +kernel) rfl
theorem wv_66 : Cond.selects "RudeCoupons" (gY 66) (gY 66) ∈ lw_g := wg 420 (by decide +kernel) rfl
theorem wp_66 : (gY 66).cls ≠ "java/lang/invoke/MethodHandle" ∧ (gY 66).cls ≠ "java/lang/invoke/VarHandle" ∧ (parseMethodDescriptor (gY 66).desc).map (fun d => d.parameters.length) = some 2 := by decide +kernel
theorem wc_67 : Cond.code (gY 67) (gB 67) (nl 67) (gT 67) ∈ lw_g := wg 433 (by decide +kernel) rfl
theorem wk_67 : Cond.instanceMethod (gY 67) ∈ lw_g := wg 432 (by decide +kernel) rfl
theorem wi_67 : Cond.initialized (gY 67).cls ∈ lw_g := wg 32 (by decide +kernel) rfl
theorem wv_67 : Cond.selects "RudeCoupons" (gY 67) (gY 67) ∈ lw_g := wg 1 (by decide +kernel) rfl
theorem wp_67 : (gY 67).cls ≠ "java/lang/invoke/MethodHandle" ∧ (gY 67).cls ≠ "java/lang/invoke/VarHandle" ∧ (parseMethodDescriptor (gY 67).desc).map (fun d => d.parameters.length) = some 1 := by decide +kernel
theorem wc_68 : Cond.code (gY 68) (gB 68) (nl 68) (gT 68) ∈ lw_g := wg 441 (by decide +kernel) rfl
theorem wk_68 : Cond.instanceMethod (gY 68) ∈ lw_g := wg 439 (by decide +kernel) rfl
theorem wi_68 : Cond.initialized (gY 68).cls ∈ lw_g := wg 32 (by decide +kernel) rfl
theorem wv_68 : Cond.selects "RudeCoupons" (gY 68) (gY 68) ∈ lw_g := wg 440 (by decide +kernel) rfl
theorem wp_68 : (gY 68).cls ≠ "java/lang/invoke/MethodHandle" ∧ (gY 68).cls ≠ "java/lang/invoke/VarHandle" ∧ (parseMethodDescriptor (gY 68).desc).map (fun d => d.parameters.length) = some 1 := by decide +kernel
theorem wc_69 : Cond.code (gY 69) (gB 69) (nl 69) (gT 69) ∈ lw_g := wg 456 (by decide +kernel) rfl
theorem wk_69 : Cond.static (gY 69) ∈ lw_g := wg 455 (by decide +kernel) rfl
theorem wi_69 : Cond.initialized (gY 69).cls ∈ lw_g := wg 32 (by decide +kernel) rfl
theorem wp_69 : (gY 69).cls ≠ "java/lang/invoke/MethodHandle" ∧ (gY 69).cls ≠ "java/lang/invoke/VarHandle" ∧ (parseMethodDescriptor (gY 69).desc).map (fun d => d.parameters.length) = some 2 := by decide +kernel
theorem wc_70 : Cond.code (gY 70) (gB 70) (nl 70) (gT 70) ∈ lw_g := wg 465 (by decide +kernel) rfl
theorem wk_70 : Cond.instanceMethod (gY 70) ∈ lw_g := wg 463 (by decide +kernel) rfl
theorem wi_70 : Cond.initialized (gY 70).cls ∈ lw_g := wg 32 (by decide +kernel) rfl
theorem wv_70 : Cond.selects "RudeCoupons" (gY 70) (gY 70) ∈ lw_g := wg 464 (by decide +kernel) rfl
theorem wp_70 : (gY 70).cls ≠ "java/lang/invoke/MethodHandle" ∧ (gY 70).cls ≠ "java/lang/invoke/VarHandle" ∧ (parseMethodDescriptor (gY 70).desc).map (fun d => d.parameters.length) = some 1 := by decide +kernel
theorem wc_71 : Cond.code (gY 71) (gB 71) (nl 71) (gT 71) ∈ lw_g := wg 469 (by decide +kernel) rfl
theorem wk_71 : Cond.instanceMethod (gY 71) ∈ lw_g := wg 467 (by decide +kernel) rfl
theorem wi_71 : Cond.initialized (gY 71).cls ∈ lw_g := wg 32 (by decide +kernel) rfl
theorem wv_71 : Cond.selects "RudeCoupons" (gY 71) (gY 71) ∈ lw_g := wg 468 (by decide +kernel) rfl
theorem wp_71 : (gY 71).cls ≠ "java/lang/invoke/MethodHandle" ∧ (gY 71).cls ≠ "java/lang/invoke/VarHandle" ∧ (parseMethodDescriptor (gY 71).desc).map (fun d => d.parameters.length) = some 3 := by decide +kernel
theorem wc_72 : Cond.code (gY 72) (gB 72) (nl 72) (gT 72) ∈ lw_g := wg 473 (by decide +kernel) rfl
theorem wk_72 : Cond.instanceMethod (gY 72) ∈ lw_g := wg 471 (by decide +kernel) rfl
theorem wi_72 : Cond.initialized (gY 72).cls ∈ lw_g := wg 32 (by decide +kernel) rfl
theorem wv_72 : Cond.selects "RudeCoupons" (gY 72) (gY 72) ∈ lw_g := wg 472 (by decide +kernel) rfl
theorem wp_72 : (gY 72).cls ≠ "java/lang/invoke/MethodHandle" ∧ (gY 72).cls ≠ "java/lang/invoke/VarHandle" ∧ (parseMethodDescriptor (gY 72).desc).map (fun d => d.parameters.length) = some 1 := by decide +kernel
theorem wc_73 : Cond.code (gY 73) (gB 73) (nl 73) (gT 73) ∈ lw_g := wg 480 (by decide +kernel) rfl
theorem wk_73 : Cond.static (gY 73) ∈ lw_g := wg 479 (by decide +kernel) rfl
theorem wi_73 : Cond.initialized (gY 73).cls ∈ lw_g := wg 32 (by decide +kernel) rfl
theorem wp_73 : (gY 73).cls ≠ "java/lang/invoke/MethodHandle" ∧ (gY 73).cls ≠ "java/lang/invoke/VarHandle" ∧ (parseMethodDescriptor (gY 73).desc).map (fun d => d.parameters.length) = some 1 := by decide +kernel
theorem wc_74 : Cond.code (gY 74) (gB 74) (nl 74) (gT 74) ∈ lw_g := wg 484 (by decide +kernel) rfl
theorem wk_74 : Cond.instanceMethod (gY 74) ∈ lw_g := wg 482 (by decide +kernel) rfl
theorem wi_74 : Cond.initialized (gY 74).cls ∈ lw_g := wg 32 (by decide +kernel) rfl
theorem wv_74 : Cond.selects "RudeCoupons" (gY 74) (gY 74) ∈ lw_g := wg 483 (by decide +kernel) rfl
theorem wp_74 : (gY 74).cls ≠ "java/lang/invoke/MethodHandle" ∧ (gY 74).cls ≠ "java/lang/invoke/VarHandle" ∧ (parseMethodDescriptor (gY 74).desc).map (fun d => d.parameters.length) = some 0 := by decide +kernel
theorem wc_75 : Cond.code (gY 75) (gB 75) (nl 75) (gT 75) ∈ lw_g := wg 492 (by decide +kernel) rfl
theorem wk_75 : Cond.instanceMethod (gY 75) ∈ lw_g := wg 490 (by decide +kernel) rfl
theorem wi_75 : Cond.initialized (gY 75).cls ∈ lw_g := wg 32 (by decide +kernel) rfl
theorem wv_75 : Cond.selects "RudeCoupons" (gY 75) (gY 75) ∈ lw_g := wg 491 (by decide +kernel) rfl
theorem wp_75 : (gY 75).cls ≠ "java/lang/invoke/MethodHandle" ∧ (gY 75).cls ≠ "java/lang/invoke/VarHandle" ∧ (parseMethodDescriptor (gY 75).desc).map (fun d => d.parameters.length) = some 2 := by decide +kernel
theorem wc_76 : Cond.code (gY 76) (gB 76) (nl 76) (gT 76) ∈ lw_g := wg 510 (by decide +kernel) rfl
theorem wk_76 : Cond.instanceMethod (gY 76) ∈ lw_g := wg 508 (by decide +kernel) rfl
theorem wi_76 : Cond.initialized (gY 76).cls ∈ lw_g := wg 32 (by decide +kernel) rfl
theorem wv_76 : Cond.selects "RudeCoupons" (gY 76) (gY 76) ∈ lw_g := wg 509 (by decide +kernel) rfl
theorem wp_76 : (gY 76).cls ≠ "java/lang/invoke/MethodHandle" ∧ (gY 76).cls ≠ "java/lang/invoke/VarHandle" ∧ (parseMethodDescriptor (gY 76).desc).map (fun d => d.parameters.length) = some 1 := by decide +kernel
theorem wc_77 : Cond.code (gY 77) (gB 77) (nl 77) (gT 77) ∈ lw_g := wg 518 (by decide +kernel) rfl
theorem wk_77 : Cond.instanceMethod (gY 77) ∈ lw_g := wg 516 (by decide +kernel) rfl
theorem wi_77 : Cond.initialized (gY 77).cls ∈ lw_g := wg 32 (by decide +kernel) rfl
theorem wv_77 : Cond.selects "RudeCoupons" (gY 77) (gY 77) ∈ lw_g := wg 517 (by decide +kernel) rfl
theorem wp_77 : (gY 77).cls ≠ "java/lang/invoke/MethodHandle" ∧ (gY 77).cls ≠ "java/lang/invoke/VarHandle" ∧ (parseMethodDescriptor (gY 77).desc).map (fun d => d.parameters.length) = some 1 := by decide +kernel
theorem wc_78 : Cond.code (gY 78) (gB 78) (nl 78) (gT 78) ∈ lw_g := wg 527 (by decide +kernel) rfl
theorem wk_78 : Cond.instanceMethod (gY 78) ∈ lw_g := wg 526 (by decide +kernel) rfl
theorem wi_78 : Cond.initialized (gY 78).cls ∈ lw_g := wg 32 (by decide +kernel) rfl
theorem wv_78 : Cond.selects "RudeCoupons" (gY 78) (gY 78) ∈ lw_g := wg 2 (by decide +kernel) rfl
theorem wp_78 : (gY 78).cls ≠ "java/lang/invoke/MethodHandle" ∧ (gY 78).cls ≠ "java/lang/invoke/VarHandle" ∧ (parseMethodDescriptor (gY 78).desc).map (fun d => d.parameters.length) = some 2 := by decide +kernel
theorem wc_79 : Cond.code (gY 79) (gB 79) (nl 79) (gT 79) ∈ lw_g := wg 531 (by decide +kernel) rfl
theorem wk_79 : Cond.instanceMethod (gY 79) ∈ lw_g := wg 529 (by decide +kernel) rfl
theorem wi_79 : Cond.initialized (gY 79).cls ∈ lw_g := wg 32 (by decide +kernel) rfl
theorem wv_79 : Cond.selects "RudeCoupons" (gY 79) (gY 79) ∈ lw_g := wg 530 (by decide +kernel) rfl
theorem wp_79 : (gY 79).cls ≠ "java/lang/invoke/MethodHandle" ∧ (gY 79).cls ≠ "java/lang/invoke/VarHandle" ∧ (parseMethodDescriptor (gY 79).desc).map (fun d => d.parameters.length) = some 1 := by decide +kernel
theorem wc_80 : Cond.code (gY 80) (gB 80) (nl 80) (gT 80) ∈ lw_g := wg 559 (by decide +kernel) rfl
theorem wk_80 : Cond.instanceMethod (gY 80) ∈ lw_g := wg 557 (by decide +kernel) rfl
theorem wi_80 : Cond.initialized (gY 80).cls ∈ lw_g := wg 32 (by decide +kernel) rfl
theorem wv_80 : Cond.selects "RudeCoupons" (gY 80) (gY 80) ∈ lw_g := wg 558 (by decide +kernel) rfl
theorem wp_80 : (gY 80).cls ≠ "java/lang/invoke/MethodHandle" ∧ (gY 80).cls ≠ "java/lang/invoke/VarHandle" ∧ (parseMethodDescriptor (gY 80).desc).map (fun d => d.parameters.length) = some 1 := by decide +kernel
theorem wc_81 : Cond.code (gY 81) (gB 81) (nl 81) (gT 81) ∈ lw_g := wg 563 (by decide +kernel) rfl
theorem wk_81 : Cond.instanceMethod (gY 81) ∈ lw_g := wg 562 (by decide +kernel) rfl
theorem wi_81 : Cond.initialized (gY 81).cls ∈ lw_g := wg 32 (by decide +kernel) rfl
theorem wv_81 : Cond.selects "RudeCoupons" (gY 81) (gY 81) ∈ lw_g := wg 3 (by decide +kernel) rfl
theorem wp_81 : (gY 81).cls ≠ "java/lang/invoke/MethodHandle" ∧ (gY 81).cls ≠ "java/lang/invoke/VarHandle" ∧ (parseMethodDescriptor (gY 81).desc).map (fun d => d.parameters.length) = some 1 := by decide +kernel
theorem wc_82 : Cond.code (gY 82) (gB 82) (nl 82) (gT 82) ∈ lw_g := wg 572 (by decide +kernel) rfl
theorem wk_82 : Cond.instanceMethod (gY 82) ∈ lw_g := wg 570 (by decide +kernel) rfl
theorem wi_82 : Cond.initialized (gY 82).cls ∈ lw_g := wg 32 (by decide +kernel) rfl
theorem wv_82 : Cond.selects "RudeCoupons" (gY 82) (gY 82) ∈ lw_g := wg 571 (by decide +kernel) rfl
theorem wp_82 : (gY 82).cls ≠ "java/lang/invoke/MethodHandle" ∧ (gY 82).cls ≠ "java/lang/invoke/VarHandle" ∧ (parseMethodDescriptor (gY 82).desc).map (fun d => d.parameters.length) = some 3 := by decide +kernel
theorem wc_83 : Cond.code (gY 83) (gB 83) (nl 83) (gT 83) ∈ lw_g := wg 580 (by decide +kernel) rfl
theorem wk_83 : Cond.instanceMethod (gY 83) ∈ lw_g := wg 578 (by decide +kernel) rfl
theorem wi_83 : Cond.initialized (gY 83).cls ∈ lw_g := wg 32 (by decide +kernel) rfl
theorem wv_83 : Cond.selects "RudeCoupons" (gY 83) (gY 83) ∈ lw_g := wg 579 (by decide +kernel) rfl
theorem wp_83 : (gY 83).cls ≠ "java/lang/invoke/MethodHandle" ∧ (gY 83).cls ≠ "java/lang/invoke/VarHandle" ∧ (parseMethodDescriptor (gY 83).desc).map (fun d => d.parameters.length) = some 0 := by decide +kernel
theorem wc_84 : Cond.code (gY 84) (gB 84) (nl 84) (gT 84) ∈ lw_g := wg 584 (by decide +kernel) rfl
theorem wk_84 : Cond.instanceMethod (gY 84) ∈ lw_g := wg 582 (by decide +kernel) rfl
theorem wi_84 : Cond.initialized (gY 84).cls ∈ lw_g := wg 32 (by decide +kernel) rfl
theorem wv_84 : Cond.selects "RudeCoupons" (gY 84) (gY 84) ∈ lw_g := wg 583 (by decide +kernel) rfl
theorem wp_84 : (gY 84).cls ≠ "java/lang/invoke/MethodHandle" ∧ (gY 84).cls ≠ "java/lang/invoke/VarHandle" ∧ (parseMethodDescriptor (gY 84).desc).map (fun d => d.parameters.length) = some 0 := by decide +kernel
theorem wc_85 : Cond.code (gY 85) (gB 85) (nl 85) (gT 85) ∈ lw_g := wg 593 (by decide +kernel) rfl
theorem wk_85 : Cond.instanceMethod (gY 85) ∈ lw_g := wg 591 (by decide +kernel) rfl
theorem wi_85 : Cond.initialized (gY 85).cls ∈ lw_g := wg 32 (by decide +kernel) rfl
theorem wv_85 : Cond.selects "RudeCoupons" (gY 85) (gY 85) ∈ lw_g := wg 592 (by decide +kernel) rfl
theorem wp_85 : (gY 85).cls ≠ "java/lang/invoke/MethodHandle" ∧ (gY 85).cls ≠ "java/lang/invoke/VarHandle" ∧ (parseMethodDescriptor (gY 85).desc).map (fun d => d.parameters.length) = some 2 := by decide +kernel
theorem wc_86 : Cond.code (gY 86) (gB 86) (nl 86) (gT 86) ∈ lw_g := wg 603 (by decide +kernel) rfl
theorem wk_86 : Cond.instanceMethod (gY 86) ∈ lw_g := wg 601 (by decide +kernel) rfl
theorem wi_86 : Cond.initialized (gY 86).cls ∈ lw_g := wg 32 (by decide +kernel) rfl
theorem wv_86 : Cond.selects "RudeCoupons" (gY 86) (gY 86) ∈ lw_g := wg 602 (by decide +kernel) rfl
theorem wp_86 : (gY 86).cls ≠ "java/lang/invoke/MethodHandle" ∧ (gY 86).cls ≠ "java/lang/invoke/VarHandle" ∧ (parseMethodDescriptor (gY 86).desc).map (fun d => d.parameters.length) = some 3 := by decide +kernel
theorem wc_87 : Cond.code (gY 87) (gB 87) (nl 87) (gT 87) ∈ lw_g := wg 607 (by decide +kernel) rfl
theorem wk_87 : Cond.instanceMethod (gY 87) ∈ lw_g := wg 605 (by decide +kernel) rfl
theorem wi_87 : Cond.initialized (gY 87).cls ∈ lw_g := wg 32 (by decide +kernel) rfl
theorem wv_87 : Cond.selects "RudeCoupons" (gY 87) (gY 87) ∈ lw_g := wg 606 (by decide +kernel) rfl
theorem wp_87 : (gY 87).cls ≠ "java/lang/invoke/MethodHandle" ∧ (gY 87).cls ≠ "java/lang/invoke/VarHandle" ∧ (parseMethodDescriptor (gY 87).desc).map (fun d => d.parameters.length) = some 1 := by decide +kernel
theorem wc_88 : Cond.code (gY 88) (gB 88) (nl 88) (gT 88) ∈ lw_g := wg 611 (by decide +kernel) rfl
theorem wk_88 : Cond.instanceMethod (gY 88) ∈ lw_g := wg 609 (by decide +kernel) rfl
theorem wi_88 : Cond.initialized (gY 88).cls ∈ lw_g := wg 32 (by decide +kernel) rfl
theorem wv_88 : Cond.selects "RudeCoupons" (gY 88) (gY 88) ∈ lw_g := wg 610 (by decide +kernel) rfl
theorem wp_88 : (gY 88).cls ≠ "java/lang/invoke/MethodHandle" ∧ (gY 88).cls ≠ "java/lang/invoke/VarHandle" ∧ (parseMethodDescriptor (gY 88).desc).map (fun d => d.parameters.length) = some 1 := by decide +kernel
theorem wc_89 : Cond.code (gY 89) (gB 89) (nl 89) (gT 89) ∈ lw_g := wg 619 (by decide +kernel) rfl
theorem wk_89 : Cond.instanceMethod (gY 89) ∈ lw_g := wg 617 (by decide +kernel) rfl
theorem wi_89 : Cond.initialized (gY 89).cls ∈ lw_g := wg 32 (by decide +kernel) rfl
theorem wv_89 : Cond.selects "RudeCoupons" (gY 89) (gY 89) ∈ lw_g := wg 618 (by decide +kernel) rfl
theorem wp_89 : (gY 89).cls ≠ "java/lang/invoke/MethodHandle" ∧ (gY 89).cls ≠ "java/lang/invoke/VarHandle" ∧ (parseMethodDescriptor (gY 89).desc).map (fun d => d.parameters.length) = some 2 := by decide +kernel
theorem wc_90 : Cond.code (gY 90) (gB 90) (nl 90) (gT 90) ∈ lw_g := wg 624 (by decide +kernel) rfl
theorem wk_90 : Cond.static (gY 90) ∈ lw_g := wg 623 (by decide +kernel) rfl
theorem wi_90 : Cond.initialized (gY 90).cls ∈ lw_g := wg 32 (by decide +kernel) rfl
theorem wp_90 : (gY 90).cls ≠ "java/lang/invoke/MethodHandle" ∧ (gY 90).cls ≠ "java/lang/invoke/VarHandle" ∧ (parseMethodDescriptor (gY 90).desc).map (fun d => d.parameters.length) = some 2 := by decide +kernel
theorem wc_91 : Cond.code (gY 91) (gB 91) (nl 91) (gT 91) ∈ lw_g := wg 634 (by decide +kernel) rfl
theorem wk_91 : Cond.instanceMethod (gY 91) ∈ lw_g := wg 632 (by decide +kernel) rfl
theorem wi_91 : Cond.initialized (gY 91).cls ∈ lw_g := wg 32 (by decide +kernel) rfl
theorem wv_91 : Cond.selects "RudeCoupons" (gY 91) (gY 91) ∈ lw_g := wg 633 (by decide +kernel) rfl
theorem wp_91 : (gY 91).cls ≠ "java/lang/invoke/MethodHandle" ∧ (gY 91).cls ≠ "java/lang/invoke/VarHandle" ∧ (parseMethodDescriptor (gY 91).desc).map (fun d => d.parameters.length) = some 0 := by decide +kernel
theorem wc_92 : Cond.code (gY 92) (gB 92) (nl 92) (gT 92) ∈ lw_g := wg 642 (by decide +kernel) rfl
theorem wk_92 : Cond.instanceMethod (gY 92) ∈ lw_g := wg 640 (by decide +kernel) rfl
theorem wi_92 : Cond.initialized (gY 92).cls ∈ lw_g := wg 32 (by decide +kernel) rfl
theorem wv_92 : Cond.selects "RudeCoupons" (gY 92) (gY 92) ∈ lw_g := wg 641 (by decide +kernel) rfl
theorem wp_92 : (gY 92).cls ≠ "java/lang/invoke/MethodHandle" ∧ (gY 92).cls ≠ "java/lang/invoke/VarHandle" ∧ (parseMethodDescriptor (gY 92).desc).map (fun d => d.parameters.length) = some 0 := by decide +kernel
theorem wc_93 : Cond.code (gY 93) (gB 93) (nl 93) (gT 93) ∈ lw_g := wg 646 (by decide +kernel) rfl
theorem wk_93 : Cond.instanceMethod (gY 93) ∈ lw_g := wg 644 (by decide +kernel) rfl
theorem wi_93 : Cond.initialized (gY 93).cls ∈ lw_g := wg 32 (by decide +kernel) rfl
theorem wv_93 : Cond.selects "RudeCoupons" (gY 93) (gY 93) ∈ lw_g := wg 645 (by decide +kernel) rfl
theorem wp_93 : (gY 93).cls ≠ "java/lang/invoke/MethodHandle" ∧ (gY 93).cls ≠ "java/lang/invoke/VarHandle" ∧ (parseMethodDescriptor (gY 93).desc).map (fun d => d.parameters.length) = some 1 := by decide +kernel
theorem wc_94 : Cond.code (gY 94) (gB 94) (nl 94) (gT 94) ∈ lw_g := wg 657 (by decide +kernel) rfl
theorem wk_94 : Cond.instanceMethod (gY 94) ∈ lw_g := wg 656 (by decide +kernel) rfl
theorem wi_94 : Cond.initialized (gY 94).cls ∈ lw_g := wg 45 (by decide +kernel) rfl
theorem wp_94 : (gY 94).cls ≠ "java/lang/invoke/MethodHandle" ∧ (gY 94).cls ≠ "java/lang/invoke/VarHandle" ∧ (parseMethodDescriptor (gY 94).desc).map (fun d => d.parameters.length) = some 0 := by decide +kernel
theorem wc_95 : Cond.code (gY 95) (gB 95) (nl 95) (gT 95) ∈ lw_g := wg 662 (by decide +kernel) rfl
theorem wk_95 : Cond.instanceMethod (gY 95) ∈ lw_g := wg 661 (by decide +kernel) rfl
theorem wi_95 : Cond.initialized (gY 95).cls ∈ lw_g := wg 45 (by decide +kernel) rfl
theorem wv_95 : Cond.selects "RudeCouponsModel" (gY 95) (gY 95) ∈ lw_g := wg 4 (by decide +kernel) rfl
theorem wp_95 : (gY 95).cls ≠ "java/lang/invoke/MethodHandle" ∧ (gY 95).cls ≠ "java/lang/invoke/VarHandle" ∧ (parseMethodDescriptor (gY 95).desc).map (fun d => d.parameters.length) = some 0 := by decide +kernel
theorem wc_96 : Cond.code (gY 96) (gB 96) (nl 96) (gT 96) ∈ lw_g := wg 666 (by decide +kernel) rfl
theorem wk_96 : Cond.instanceMethod (gY 96) ∈ lw_g := wg 665 (by decide +kernel) rfl
theorem wi_96 : Cond.initialized (gY 96).cls ∈ lw_g := wg 45 (by decide +kernel) rfl
theorem wv_96 : Cond.selects "RudeCouponsModel" (gY 96) (gY 96) ∈ lw_g := wg 5 (by decide +kernel) rfl
theorem wp_96 : (gY 96).cls ≠ "java/lang/invoke/MethodHandle" ∧ (gY 96).cls ≠ "java/lang/invoke/VarHandle" ∧ (parseMethodDescriptor (gY 96).desc).map (fun d => d.parameters.length) = some 3 := by decide +kernel
theorem wc_97 : Cond.code (gY 97) (gB 97) (nl 97) (gT 97) ∈ lw_g := wg 670 (by decide +kernel) rfl
theorem wk_97 : Cond.instanceMethod (gY 97) ∈ lw_g := wg 669 (by decide +kernel) rfl
theorem wi_97 : Cond.initialized (gY 97).cls ∈ lw_g := wg 45 (by decide +kernel) rfl
theorem wv_97 : Cond.selects "RudeCouponsModel" (gY 97) (gY 97) ∈ lw_g := wg 6 (by decide +kernel) rfl
theorem wp_97 : (gY 97).cls ≠ "java/lang/invoke/MethodHandle" ∧ (gY 97).cls ≠ "java/lang/invoke/VarHandle" ∧ (parseMethodDescriptor (gY 97).desc).map (fun d => d.parameters.length) = some 3 := by decide +kernel
theorem wc_98 : Cond.code (gY 98) (gB 98) (nl 98) (gT 98) ∈ lw_g := wg 674 (by decide +kernel) rfl
theorem wk_98 : Cond.instanceMethod (gY 98) ∈ lw_g := wg 673 (by decide +kernel) rfl
theorem wi_98 : Cond.initialized (gY 98).cls ∈ lw_g := wg 45 (by decide +kernel) rfl
theorem wv_98 : Cond.selects "RudeCouponsModel" (gY 98) (gY 98) ∈ lw_g := wg 7 (by decide +kernel) rfl
theorem wp_98 : (gY 98).cls ≠ "java/lang/invoke/MethodHandle" ∧ (gY 98).cls ≠ "java/lang/invoke/VarHandle" ∧ (parseMethodDescriptor (gY 98).desc).map (fun d => d.parameters.length) = some 3 := by decide +kernel
theorem wc_99 : Cond.code (gY 99) (gB 99) (nl 99) (gT 99) ∈ lw_g := wg 678 (by decide +kernel) rfl
theorem wk_99 : Cond.instanceMethod (gY 99) ∈ lw_g := wg 677 (by decide +kernel) rfl
theorem wi_99 : Cond.initialized (gY 99).cls ∈ lw_g := wg 45 (by decide +kernel) rfl
theorem wv_99 : Cond.selects "RudeCouponsModel" (gY 99) (gY 99) ∈ lw_g := wg 8 (by decide +kernel) rfl
theorem wp_99 : (gY 99).cls ≠ "java/lang/invoke/MethodHandle" ∧ (gY 99).cls ≠ "java/lang/invoke/VarHandle" ∧ (parseMethodDescriptor (gY 99).desc).map (fun d => d.parameters.length) = some 0 := by decide +kernel
theorem wc_100 : Cond.code (gY 100) (gB 100) (nl 100) (gT 100) ∈ lw_g := wg 681 (by decide +kernel) rfl
theorem wk_100 : Cond.static (gY 100) ∈ lw_g := wg 680 (by decide +kernel) rfl
theorem wi_100 : Cond.initialized (gY 100).cls ∈ lw_g := wg 45 (by decide +kernel) rfl
theorem wp_100 : (gY 100).cls ≠ "java/lang/invoke/MethodHandle" ∧ (gY 100).cls ≠ "java/lang/invoke/VarHandle" ∧ (parseMethodDescriptor (gY 100).desc).map (fun d => d.parameters.length) = some 5 := by decide +kernel
theorem wc_101 : Cond.code (gY 101) (gB 101) (nl 101) (gT 101) ∈ lw_g := wg 770 (by decide +kernel) rfl
theorem wk_101 : Cond.instanceMethod (gY 101) ∈ lw_g := wg 768 (by decide +kernel) rfl
theorem wi_101 : Cond.initialized (gY 101).cls ∈ lw_g := wg 45 (by decide +kernel) rfl
theorem wv_101 : Cond.selects "RudeCouponsModel" (gY 101) (gY 101) ∈ lw_g := wg 769 (by decide +kernel) rfl
theorem wp_101 : (gY 101).cls ≠ "java/lang/invoke/MethodHandle" ∧ (gY 101).cls ≠ "java/lang/invoke/VarHandle" ∧ (parseMethodDescriptor (gY 101).desc).map (fun d => d.parameters.length) = some 1 := by decide +kernel
theorem wc_102 : Cond.code (gY 102) (gB 102) (nl 102) (gT 102) ∈ lw_g := wg 777 (by decide +kernel) rfl
theorem wk_102 : Cond.instanceMethod (gY 102) ∈ lw_g := wg 775 (by decide +kernel) rfl
theorem wi_102 : Cond.initialized (gY 102).cls ∈ lw_g := wg 45 (by decide +kernel) rfl
theorem wv_102 : Cond.selects "RudeCouponsModel" (gY 102) (gY 102) ∈ lw_g := wg 776 (by decide +kernel) rfl
theorem wp_102 : (gY 102).cls ≠ "java/lang/invoke/MethodHandle" ∧ (gY 102).cls ≠ "java/lang/invoke/VarHandle" ∧ (parseMethodDescriptor (gY 102).desc).map (fun d => d.parameters.length) = some 0 := by decide +kernel
theorem wc_103 : Cond.code (gY 103) (gB 103) (nl 103) (gT 103) ∈ lw_g := wg 781 (by decide +kernel) rfl
theorem wk_103 : Cond.instanceMethod (gY 103) ∈ lw_g := wg 779 (by decide +kernel) rfl
theorem wi_103 : Cond.initialized (gY 103).cls ∈ lw_g := wg 45 (by decide +kernel) rfl
theorem wv_103 : Cond.selects "RudeCouponsModel" (gY 103) (gY 103) ∈ lw_g := wg 780 (by decide +kernel) rfl
theorem wp_103 : (gY 103).cls ≠ "java/lang/invoke/MethodHandle" ∧ (gY 103).cls ≠ "java/lang/invoke/VarHandle" ∧ (parseMethodDescriptor (gY 103).desc).map (fun d => d.parameters.length) = some 0 := by decide +kernel
theorem wc_104 : Cond.code (gY 104) (gB 104) (nl 104) (gT 104) ∈ lw_g := wg 816 (by decide +kernel) rfl
theorem wk_104 : Cond.instanceMethod (gY 104) ∈ lw_g := wg 814 (by decide +kernel) rfl
theorem wi_104 : Cond.initialized (gY 104).cls ∈ lw_g := wg 45 (by decide +kernel) rfl
theorem wv_104 : Cond.selects "RudeCouponsModel" (gY 104) (gY 104) ∈ lw_g := wg 815 (by decide +kernel) rfl
theorem wp_104 : (gY 104).cls ≠ "java/lang/invoke/MethodHandle" ∧ (gY 104).cls ≠ "java/lang/invoke/VarHandle" ∧ (parseMethodDescriptor (gY 104).desc).map (fun d => d.parameters.length) = some 0 := by decide +kernel
theorem wc_105 : Cond.code (gY 105) (gB 105) (nl 105) (gT 105) ∈ lw_g := wg 821 (by decide +kernel) rfl
theorem wk_105 : Cond.instanceMethod (gY 105) ∈ lw_g := wg 819 (by decide +kernel) rfl
theorem wi_105 : Cond.initialized (gY 105).cls ∈ lw_g := wg 45 (by decide +kernel) rfl
theorem wv_105 : Cond.selects "RudeCouponsModel" (gY 105) (gY 105) ∈ lw_g := wg 820 (by decide +kernel) rfl
theorem wp_105 : (gY 105).cls ≠ "java/lang/invoke/MethodHandle" ∧ (gY 105).cls ≠ "java/lang/invoke/VarHandle" ∧ (parseMethodDescriptor (gY 105).desc).map (fun d => d.parameters.length) = some 2 := by decide +kernel
theorem wc_106 : Cond.code (gY 106) (gB 106) (nl 106) (gT 106) ∈ lw_g := wg 829 (by decide +kernel) rfl
theorem wk_106 : Cond.instanceMethod (gY 106) ∈ lw_g := wg 827 (by decide +kernel) rfl
theorem wi_106 : Cond.initialized (gY 106).cls ∈ lw_g := wg 45 (by decide +kernel) rfl
theorem wv_106 : Cond.selects "RudeCouponsModel" (gY 106) (gY 106) ∈ lw_g := wg 828 (by decide +kernel) rfl
theorem wp_106 : (gY 106).cls ≠ "java/lang/invoke/MethodHandle" ∧ (gY 106).cls ≠ "java/lang/invoke/VarHandle" ∧ (parseMethodDescriptor (gY 106).desc).map (fun d => d.parameters.length) = some 2 := by decide +kernel
theorem wc_107 : Cond.code (gY 107) (gB 107) (nl 107) (gT 107) ∈ lw_g := wg 833 (by decide +kernel) rfl
theorem wk_107 : Cond.instanceMethod (gY 107) ∈ lw_g := wg 831 (by decide +kernel) rfl
theorem wi_107 : Cond.initialized (gY 107).cls ∈ lw_g := wg 45 (by decide +kernel) rfl
theorem wv_107 : Cond.selects "RudeCouponsModel" (gY 107) (gY 107) ∈ lw_g := wg 832 (by decide +kernel) rfl
theorem wp_107 : (gY 107).cls ≠ "java/lang/invoke/MethodHandle" ∧ (gY 107).cls ≠ "java/lang/invoke/VarHandle" ∧ (parseMethodDescriptor (gY 107).desc).map (fun d => d.parameters.length) = some 2 := by decide +kernel
theorem wc_108 : Cond.code (gY 108) (gB 108) (nl 108) (gT 108) ∈ lw_g := wg 837 (by decide +kernel) rfl
theorem wk_108 : Cond.instanceMethod (gY 108) ∈ lw_g := wg 836 (by decide +kernel) rfl
theorem wi_108 : Cond.initialized (gY 108).cls ∈ lw_g := wg 45 (by decide +kernel) rfl
theorem wv_108 : Cond.selects "RudeCouponsModel" (gY 108) (gY 108) ∈ lw_g := wg 17 (by decide +kernel) rfl
theorem wp_108 : (gY 108).cls ≠ "java/lang/invoke/MethodHandle" ∧ (gY 108).cls ≠ "java/lang/invoke/VarHandle" ∧ (parseMethodDescriptor (gY 108).desc).map (fun d => d.parameters.length) = some 1 := by decide +kernel
theorem wc_109 : Cond.code (gY 109) (gB 109) (nl 109) (gT 109) ∈ lw_g := wg 841 (by decide +kernel) rfl
theorem wk_109 : Cond.instanceMethod (gY 109) ∈ lw_g := wg 840 (by decide +kernel) rfl
theorem wi_109 : Cond.initialized (gY 109).cls ∈ lw_g := wg 45 (by decide +kernel) rfl
theorem wv_109 : Cond.selects "RudeCouponsModel" (gY 109) (gY 109) ∈ lw_g := wg 18 (by decide +kernel) rfl
theorem wp_109 : (gY 109).cls ≠ "java/lang/invoke/MethodHandle" ∧ (gY 109).cls ≠ "java/lang/invoke/VarHandle" ∧ (parseMethodDescriptor (gY 109).desc).map (fun d => d.parameters.length) = some 1 := by decide +kernel
theorem wc_110 : Cond.code (gY 110) (gB 110) (nl 110) (gT 110) ∈ lw_g := wg 860 (by decide +kernel) rfl
theorem wk_110 : Cond.instanceMethod (gY 110) ∈ lw_g := wg 858 (by decide +kernel) rfl
theorem wi_110 : Cond.initialized (gY 110).cls ∈ lw_g := wg 45 (by decide +kernel) rfl
theorem wv_110 : Cond.selects "RudeCouponsModel" (gY 110) (gY 110) ∈ lw_g := wg 859 (by decide +kernel) rfl
theorem wp_110 : (gY 110).cls ≠ "java/lang/invoke/MethodHandle" ∧ (gY 110).cls ≠ "java/lang/invoke/VarHandle" ∧ (parseMethodDescriptor (gY 110).desc).map (fun d => d.parameters.length) = some 1 := by decide +kernel
theorem wc_111 : Cond.code (gY 111) (gB 111) (nl 111) (gT 111) ∈ lw_g := wg 864 (by decide +kernel) rfl
theorem wk_111 : Cond.instanceMethod (gY 111) ∈ lw_g := wg 863 (by decide +kernel) rfl
theorem wi_111 : Cond.initialized (gY 111).cls ∈ lw_g := wg 45 (by decide +kernel) rfl
theorem wv_111 : Cond.selects "RudeCouponsModel" (gY 111) (gY 111) ∈ lw_g := wg 22 (by decide +kernel) rfl
theorem wp_111 : (gY 111).cls ≠ "java/lang/invoke/MethodHandle" ∧ (gY 111).cls ≠ "java/lang/invoke/VarHandle" ∧ (parseMethodDescriptor (gY 111).desc).map (fun d => d.parameters.length) = some 0 := by decide +kernel
theorem wc_112 : Cond.code (gY 112) (gB 112) (nl 112) (gT 112) ∈ lw_g := wg 876 (by decide +kernel) rfl
theorem wk_112 : Cond.instanceMethod (gY 112) ∈ lw_g := wg 874 (by decide +kernel) rfl
theorem wi_112 : Cond.initialized (gY 112).cls ∈ lw_g := wg 45 (by decide +kernel) rfl
theorem wv_112 : Cond.selects "RudeCouponsModel" (gY 112) (gY 112) ∈ lw_g := wg 875 (by decide +kernel) rfl
theorem wp_112 : (gY 112).cls ≠ "java/lang/invoke/MethodHandle" ∧ (gY 112).cls ≠ "java/lang/invoke/VarHandle" ∧ (parseMethodDescriptor (gY 112).desc).map (fun d => d.parameters.length) = some 1 := by decide +kernel
theorem wc_113 : Cond.code (gY 113) (gB 113) (nl 113) (gT 113) ∈ lw_g := wg 880 (by decide +kernel) rfl
theorem wk_113 : Cond.instanceMethod (gY 113) ∈ lw_g := wg 878 (by decide +kernel) rfl
theorem wi_113 : Cond.initialized (gY 113).cls ∈ lw_g := wg 45 (by decide +kernel) rfl
theorem wv_113 : Cond.selects "RudeCouponsModel" (gY 113) (gY 113) ∈ lw_g := wg 879 (by decide +kernel) rfl
theorem wp_113 : (gY 113).cls ≠ "java/lang/invoke/MethodHandle" ∧ (gY 113).cls ≠ "java/lang/invoke/VarHandle" ∧ (parseMethodDescriptor (gY 113).desc).map (fun d => d.parameters.length) = some 3 := by decide +kernel
theorem wc_114 : Cond.code (gY 114) (gB 114) (nl 114) (gT 114) ∈ lw_g := wg 884 (by decide +kernel) rfl
theorem wk_114 : Cond.instanceMethod (gY 114) ∈ lw_g := wg 882 (by decide +kernel) rfl
theorem wi_114 : Cond.initialized (gY 114).cls ∈ lw_g := wg 45 (by decide +kernel) rfl
theorem wv_114 : Cond.selects "RudeCouponsModel" (gY 114) (gY 114) ∈ lw_g := wg 883 (by decide +kernel) rfl
theorem wp_114 : (gY 114).cls ≠ "java/lang/invoke/MethodHandle" ∧ (gY 114).cls ≠ "java/lang/invoke/VarHandle" ∧ (parseMethodDescriptor (gY 114).desc).map (fun d => d.parameters.length) = some 1 := by decide +kernel
theorem wc_115 : Cond.code (gY 115) (gB 115) (nl 115) (gT 115) ∈ lw_g := wg 888 (by decide +kernel) rfl
theorem wk_115 : Cond.instanceMethod (gY 115) ∈ lw_g := wg 887 (by decide +kernel) rfl
theorem wi_115 : Cond.initialized (gY 115).cls ∈ lw_g := wg 45 (by decide +kernel) rfl
theorem wv_115 : Cond.selects "RudeCouponsModel" (gY 115) (gY 115) ∈ lw_g := wg 25 (by decide +kernel) rfl
theorem wp_115 : (gY 115).cls ≠ "java/lang/invoke/MethodHandle" ∧ (gY 115).cls ≠ "java/lang/invoke/VarHandle" ∧ (parseMethodDescriptor (gY 115).desc).map (fun d => d.parameters.length) = some 0 := by decide +kernel
theorem wc_116 : Cond.code (gY 116) (gB 116) (nl 116) (gT 116) ∈ lw_g := wg 892 (by decide +kernel) rfl
theorem wk_116 : Cond.instanceMethod (gY 116) ∈ lw_g := wg 890 (by decide +kernel) rfl
theorem wi_116 : Cond.initialized (gY 116).cls ∈ lw_g := wg 45 (by decide +kernel) rfl
theorem wv_116 : Cond.selects "RudeCouponsModel" (gY 116) (gY 116) ∈ lw_g := wg 891 (by decide +kernel) rfl
theorem wp_116 : (gY 116).cls ≠ "java/lang/invoke/MethodHandle" ∧ (gY 116).cls ≠ "java/lang/invoke/VarHandle" ∧ (parseMethodDescriptor (gY 116).desc).map (fun d => d.parameters.length) = some 0 := by decide +kernel
theorem wc_117 : Cond.code (gY 117) (gB 117) (nl 117) (gT 117) ∈ lw_g := wg 896 (by decide +kernel) rfl
theorem wk_117 : Cond.instanceMethod (gY 117) ∈ lw_g := wg 894 (by decide +kernel) rfl
theorem wi_117 : Cond.initialized (gY 117).cls ∈ lw_g := wg 45 (by decide +kernel) rfl
theorem wv_117 : Cond.selects "RudeCouponsModel" (gY 117) (gY 117) ∈ lw_g := wg 895 (by decide +kernel) rfl
theorem wp_117 : (gY 117).cls ≠ "java/lang/invoke/MethodHandle" ∧ (gY 117).cls ≠ "java/lang/invoke/VarHandle" ∧ (parseMethodDescriptor (gY 117).desc).map (fun d => d.parameters.length) = some 2 := by decide +kernel
theorem wc_118 : Cond.code (gY 118) (gB 118) (nl 118) (gT 118) ∈ lw_g := wg 908 (by decide +kernel) rfl
theorem wk_118 : Cond.instanceMethod (gY 118) ∈ lw_g := wg 906 (by decide +kernel) rfl
theorem wi_118 : Cond.initialized (gY 118).cls ∈ lw_g := wg 45 (by decide +kernel) rfl
theorem wv_118 : Cond.selects "RudeCouponsModel" (gY 118) (gY 118) ∈ lw_g := wg 907 (by decide +kernel) rfl
theorem wp_118 : (gY 118).cls ≠ "java/lang/invoke/MethodHandle" ∧ (gY 118).cls ≠ "java/lang/invoke/VarHandle" ∧ (parseMethodDescriptor (gY 118).desc).map (fun d => d.parameters.length) = some 1 := by decide +kernel
theorem wc_119 : Cond.code (gY 119) (gB 119) (nl 119) (gT 119) ∈ lw_g := wg 912 (by decide +kernel) rfl
theorem wk_119 : Cond.instanceMethod (gY 119) ∈ lw_g := wg 910 (by decide +kernel) rfl
theorem wi_119 : Cond.initialized (gY 119).cls ∈ lw_g := wg 45 (by decide +kernel) rfl
theorem wv_119 : Cond.selects "RudeCouponsModel" (gY 119) (gY 119) ∈ lw_g := wg 911 (by decide +kernel) rfl
theorem wp_119 : (gY 119).cls ≠ "java/lang/invoke/MethodHandle" ∧ (gY 119).cls ≠ "java/lang/invoke/VarHandle" ∧ (parseMethodDescriptor (gY 119).desc).map (fun d => d.parameters.length) = some 1 := by decide +kernel
theorem wc_120 : Cond.code (gY 120) (gB 120) (nl 120) (gT 120) ∈ lw_g := wg 916 (by decide +kernel) rfl
theorem wk_120 : Cond.instanceMethod (gY 120) ∈ lw_g := wg 914 (by decide +kernel) rfl
theorem wi_120 : Cond.initialized (gY 120).cls ∈ lw_g := wg 45 (by decide +kernel) rfl
theorem wv_120 : Cond.selects "RudeCouponsModel" (gY 120) (gY 120) ∈ lw_g := wg 915 (by decide +kernel) rfl
theorem wp_120 : (gY 120).cls ≠ "java/lang/invoke/MethodHandle" ∧ (gY 120).cls ≠ "java/lang/invoke/VarHandle" ∧ (parseMethodDescriptor (gY 120).desc).map (fun d => d.parameters.length) = some 1 := by decide +kernel
theorem wc_121 : Cond.code (gY 121) (gB 121) (nl 121) (gT 121) ∈ lw_g := wg 920 (by decide +kernel) rfl
theorem wk_121 : Cond.instanceMethod (gY 121) ∈ lw_g := wg 919 (by decide +kernel) rfl
theorem wi_121 : Cond.initialized (gY 121).cls ∈ lw_g := wg 45 (by decide +kernel) rfl
theorem wv_121 : Cond.selects "RudeCouponsModel" (gY 121) (gY 121) ∈ lw_g := wg 28 (by decide +kernel) rfl
theorem wp_121 : (gY 121).cls ≠ "java/lang/invoke/MethodHandle" ∧ (gY 121).cls ≠ "java/lang/invoke/VarHandle" ∧ (parseMethodDescriptor (gY 121).desc).map (fun d => d.parameters.length) = some 0 := by decide +kernel
theorem wc_122 : Cond.code (gY 122) (gB 122) (nl 122) (gT 122) ∈ lw_g := wg 924 (by decide +kernel) rfl
theorem wk_122 : Cond.instanceMethod (gY 122) ∈ lw_g := wg 922 (by decide +kernel) rfl
theorem wi_122 : Cond.initialized (gY 122).cls ∈ lw_g := wg 45 (by decide +kernel) rfl
theorem wv_122 : Cond.selects "RudeCouponsModel" (gY 122) (gY 122) ∈ lw_g := wg 923 (by decide +kernel) rfl
theorem wp_122 : (gY 122).cls ≠ "java/lang/invoke/MethodHandle" ∧ (gY 122).cls ≠ "java/lang/invoke/VarHandle" ∧ (parseMethodDescriptor (gY 122).desc).map (fun d => d.parameters.length) = some 1 := by decide +kernel
theorem wc_123 : Cond.code (gY 123) (gB 123) (nl 123) (gT 123) ∈ lw_g := wg 928 (by decide +kernel) rfl
theorem wk_123 : Cond.instanceMethod (gY 123) ∈ lw_g := wg 927 (by decide +kernel) rfl
theorem wi_123 : Cond.initialized (gY 123).cls ∈ lw_g := wg 45 (by decide +kernel) rfl
theorem wv_123 : Cond.selects "RudeCouponsModel" (gY 123) (gY 123) ∈ lw_g := wg 29 (by decide +kernel) rfl
theorem wp_123 : (gY 123).cls ≠ "java/lang/invoke/MethodHandle" ∧ (gY 123).cls ≠ "java/lang/invoke/VarHandle" ∧ (parseMethodDescriptor (gY 123).desc).map (fun d => d.parameters.length) = some 1 := by decide +kernel
theorem wc_124 : Cond.code (gY 124) (gB 124) (nl 124) (gT 124) ∈ lw_g := wg 932 (by decide +kernel) rfl
theorem wk_124 : Cond.instanceMethod (gY 124) ∈ lw_g := wg 930 (by decide +kernel) rfl
theorem wi_124 : Cond.initialized (gY 124).cls ∈ lw_g := wg 45 (by decide +kernel) rfl
theorem wv_124 : Cond.selects "RudeCouponsModel" (gY 124) (gY 124) ∈ lw_g := wg 931 (by decide +kernel) rfl
theorem wp_124 : (gY 124).cls ≠ "java/lang/invoke/MethodHandle" ∧ (gY 124).cls ≠ "java/lang/invoke/VarHandle" ∧ (parseMethodDescriptor (gY 124).desc).map (fun d => d.parameters.length) = some 3 := by decide +kernel
theorem wc_125 : Cond.code (gY 125) (gB 125) (nl 125) (gT 125) ∈ lw_g := wg 936 (by decide +kernel) rfl
theorem wk_125 : Cond.instanceMethod (gY 125) ∈ lw_g := wg 934 (by decide +kernel) rfl
theorem wi_125 : Cond.initialized (gY 125).cls ∈ lw_g := wg 45 (by decide +kernel) rfl
theorem wv_125 : Cond.selects "RudeCouponsModel" (gY 125) (gY 125) ∈ lw_g := wg 935 (by decide +kernel) rfl
theorem wp_125 : (gY 125).cls ≠ "java/lang/invoke/MethodHandle" ∧ (gY 125).cls ≠ "java/lang/invoke/VarHandle" ∧ (parseMethodDescriptor (gY 125).desc).map (fun d => d.parameters.length) = some 0 := by decide +kernel
theorem wc_126 : Cond.code (gY 126) (gB 126) (nl 126) (gT 126) ∈ lw_g := wg 940 (by decide +kernel) rfl
theorem wk_126 : Cond.instanceMethod (gY 126) ∈ lw_g := wg 938 (by decide +kernel) rfl
theorem wi_126 : Cond.initialized (gY 126).cls ∈ lw_g := wg 45 (by decide +kernel) rfl
theorem wv_126 : Cond.selects "RudeCouponsModel" (gY 126) (gY 126) ∈ lw_g := wg 939 (by decide +kernel) rfl
theorem wp_126 : (gY 126).cls ≠ "java/lang/invoke/MethodHandle" ∧ (gY 126).cls ≠ "java/lang/invoke/VarHandle" ∧ (parseMethodDescriptor (gY 126).desc).map (fun d => d.parameters.length) = some 0 := by decide +kernel
theorem wc_127 : Cond.code (gY 127) (gB 127) (nl 127) (gT 127) ∈ lw_g := wg 944 (by decide +kernel) rfl
theorem wk_127 : Cond.instanceMethod (gY 127) ∈ lw_g := wg 942 (by decide +kernel) rfl
theorem wi_127 : Cond.initialized (gY 127).cls ∈ lw_g := wg 45 (by decide +kernel) rfl
theorem wv_127 : Cond.selects "RudeCouponsModel" (gY 127) (gY 127) ∈ lw_g := wg 943 (by decide +kernel) rfl
theorem wp_127 : (gY 127).cls ≠ "java/lang/invoke/MethodHandle" ∧ (gY 127).cls ≠ "java/lang/invoke/VarHandle" ∧ (parseMethodDescriptor (gY 127).desc).map (fun d => d.parameters.length) = some 2 := by decide +kernel
theorem wc_128 : Cond.code (gY 128) (gB 128) (nl 128) (gT 128) ∈ lw_g := wg 948 (by decide +kernel) rfl
theorem wk_128 : Cond.instanceMethod (gY 128) ∈ lw_g := wg 946 (by decide +kernel) rfl
theorem wi_128 : Cond.initialized (gY 128).cls ∈ lw_g := wg 45 (by decide +kernel) rfl
theorem wv_128 : Cond.selects "RudeCouponsModel" (gY 128) (gY 128) ∈ lw_g := wg 947 (by decide +kernel) rfl
theorem wp_128 : (gY 128).cls ≠ "java/lang/invoke/MethodHandle" ∧ (gY 128).cls ≠ "java/lang/invoke/VarHandle" ∧ (parseMethodDescriptor (gY 128).desc).map (fun d => d.parameters.length) = some 3 := by decide +kernel
theorem wc_129 : Cond.code (gY 129) (gB 129) (nl 129) (gT 129) ∈ lw_g := wg 952 (by decide +kernel) rfl
theorem wk_129 : Cond.instanceMethod (gY 129) ∈ lw_g := wg 950 (by decide +kernel) rfl
theorem wi_129 : Cond.initialized (gY 129).cls ∈ lw_g := wg 45 (by decide +kernel) rfl
theorem wv_129 : Cond.selects "RudeCouponsModel" (gY 129) (gY 129) ∈ lw_g := wg 951 (by decide +kernel) rfl
theorem wp_129 : (gY 129).cls ≠ "java/lang/invoke/MethodHandle" ∧ (gY 129).cls ≠ "java/lang/invoke/VarHandle" ∧ (parseMethodDescriptor (gY 129).desc).map (fun d => d.parameters.length) = some 1 := by decide +kernel
theorem wc_130 : Cond.code (gY 130) (gB 130) (nl 130) (gT 130) ∈ lw_g := wg 956 (by decide +kernel) rfl
theorem wk_130 : Cond.instanceMethod (gY 130) ∈ lw_g := wg 954 (by decide +kernel) rfl
theorem wi_130 : Cond.initialized (gY 130).cls ∈ lw_g := wg 45 (by decide +kernel) rfl
theorem wv_130 : Cond.selects "RudeCouponsModel" (gY 130) (gY 130) ∈ lw_g := wg 955 (by decide +kernel) rfl
theorem wp_130 : (gY 130).cls ≠ "java/lang/invoke/MethodHandle" ∧ (gY 130).cls ≠ "java/lang/invoke/VarHandle" ∧ (parseMethodDescriptor (gY 130).desc).map (fun d => d.parameters.length) = some 1 := by decide +kernel
theorem wc_131 : Cond.code (gY 131) (gB 131) (nl 131) (gT 131) ∈ lw_g := wg 960 (by decide +kernel) rfl
theorem wk_131 : Cond.instanceMethod (gY 131) ∈ lw_g := wg 958 (by decide +kernel) rfl
theorem wi_131 : Cond.initialized (gY 131).cls ∈ lw_g := wg 45 (by decide +kernel) rfl
theorem wv_131 : Cond.selects "RudeCouponsModel" (gY 131) (gY 131) ∈ lw_g := wg 959 (by decide +kernel) rfl
theorem wp_131 : (gY 131).cls ≠ "java/lang/invoke/MethodHandle" ∧ (gY 131).cls ≠ "java/lang/invoke/VarHandle" ∧ (parseMethodDescriptor (gY 131).desc).map (fun d => d.parameters.length) = some 2 := by decide +kernel
theorem wc_132 : Cond.code (gY 132) (gB 132) (nl 132) (gT 132) ∈ lw_g := wg 968 (by decide +kernel) rfl
theorem wk_132 : Cond.instanceMethod (gY 132) ∈ lw_g := wg 966 (by decide +kernel) rfl
theorem wi_132 : Cond.initialized (gY 132).cls ∈ lw_g := wg 45 (by decide +kernel) rfl
theorem wv_132 : Cond.selects "RudeCouponsModel" (gY 132) (gY 132) ∈ lw_g := wg 967 (by decide +kernel) rfl
theorem wp_132 : (gY 132).cls ≠ "java/lang/invoke/MethodHandle" ∧ (gY 132).cls ≠ "java/lang/invoke/VarHandle" ∧ (parseMethodDescriptor (gY 132).desc).map (fun d => d.parameters.length) = some 0 := by decide +kernel
theorem wc_133 : Cond.code (gY 133) (gB 133) (nl 133) (gT 133) ∈ lw_g := wg 972 (by decide +kernel) rfl
theorem wk_133 : Cond.instanceMethod (gY 133) ∈ lw_g := wg 970 (by decide +kernel) rfl
theorem wi_133 : Cond.initialized (gY 133).cls ∈ lw_g := wg 45 (by decide +kernel) rfl
theorem wv_133 : Cond.selects "RudeCouponsModel" (gY 133) (gY 133) ∈ lw_g := wg 971 (by decide +kernel) rfl
theorem wp_133 : (gY 133).cls ≠ "java/lang/invoke/MethodHandle" ∧ (gY 133).cls ≠ "java/lang/invoke/VarHandle" ∧ (parseMethodDescriptor (gY 133).desc).map (fun d => d.parameters.length) = some 0 := by decide +kernel
theorem wc_134 : Cond.code (gY 134) (gB 134) (nl 134) (gT 134) ∈ lw_g := wg 976 (by decide +kernel) rfl
theorem wk_134 : Cond.instanceMethod (gY 134) ∈ lw_g := wg 974 (by decide +kernel) rfl
theorem wi_134 : Cond.initialized (gY 134).cls ∈ lw_g := wg 45 (by decide +kernel) rfl
theorem wv_134 : Cond.selects "RudeCouponsModel" (gY 134) (gY 134) ∈ lw_g := wg 975 (by decide +kernel) rfl
theorem wp_134 : (gY 134).cls ≠ "java/lang/invoke/MethodHandle" ∧ (gY 134).cls ≠ "java/lang/invoke/VarHandle" ∧ (parseMethodDescriptor (gY 134).desc).map (fun d => d.parameters.length) = some 1 := by decide +kernel
theorem wc_135 : Cond.code (gY 135) (gB 135) (nl 135) (gT 135) ∈ lw_g := wg 980 (by decide +kernel) rfl
theorem wk_135 : Cond.instanceMethod (gY 135) ∈ lw_g := wg 979 (by decide +kernel) rfl
theorem wi_135 : Cond.initialized (gY 135).cls ∈ lw_g := wg 45 (by decide +kernel) rfl
theorem wv_135 : Cond.selects "RudeCouponsModel" (gY 135) (gY 135) ∈ lw_g := wg 30 (by decide +kernel) rfl
theorem wp_135 : (gY 135).cls ≠ "java/lang/invoke/MethodHandle" ∧ (gY 135).cls ≠ "java/lang/invoke/VarHandle" ∧ (parseMethodDescriptor (gY 135).desc).map (fun d => d.parameters.length) = some 0 := by decide +kernel
theorem wc_136 : Cond.code (gY 136) (gB 136) (nl 136) (gT 136) ∈ lw_g := wg 121 (by decide +kernel) rfl
theorem wk_136 : Cond.static (gY 136) ∈ lw_g := wg 120 (by decide +kernel) rfl
theorem wi_136 : Cond.initialized (gY 136).cls ∈ lw_g := wg 37 (by decide +kernel) rfl
theorem wp_136 : (gY 136).cls ≠ "java/lang/invoke/MethodHandle" ∧ (gY 136).cls ≠ "java/lang/invoke/VarHandle" ∧ (parseMethodDescriptor (gY 136).desc).map (fun d => d.parameters.length) = some 2 := by decide +kernel
theorem wc_137 : Cond.code (gY 137) (gB 137) (nl 137) (gT 137) ∈ lw_g := wg 555 (by decide +kernel) rfl
theorem wk_137 : Cond.static (gY 137) ∈ lw_g := wg 554 (by decide +kernel) rfl
theorem wi_137 : Cond.initialized (gY 137).cls ∈ lw_g := wg 37 (by decide +kernel) rfl
theorem wp_137 : (gY 137).cls ≠ "java/lang/invoke/MethodHandle" ∧ (gY 137).cls ≠ "java/lang/invoke/VarHandle" ∧ (parseMethodDescriptor (gY 137).desc).map (fun d => d.parameters.length) = some 2 := by decide +kernel
theorem wc_138 : Cond.code (gY 138) (gB 138) (nl 138) (gT 138) ∈ lw_g := wg 649 (by decide +kernel) rfl
theorem wk_138 : Cond.static (gY 138) ∈ lw_g := wg 648 (by decide +kernel) rfl
theorem wi_138 : Cond.initialized (gY 138).cls ∈ lw_g := wg 46 (by decide +kernel) rfl
theorem wp_138 : (gY 138).cls ≠ "java/lang/invoke/MethodHandle" ∧ (gY 138).cls ≠ "java/lang/invoke/VarHandle" ∧ (parseMethodDescriptor (gY 138).desc).map (fun d => d.parameters.length) = some 1 := by decide +kernel
theorem wc_139 : Cond.code (gY 139) (gB 139) (nl 139) (gT 139) ∈ lw_g := wg 117 (by decide +kernel) rfl
theorem wk_139 : Cond.instanceMethod (gY 139) ∈ lw_g := wg 116 (by decide +kernel) rfl
theorem wi_139 : Cond.initialized (gY 139).cls ∈ lw_g := wg 36 (by decide +kernel) rfl
theorem wp_139 : (gY 139).cls ≠ "java/lang/invoke/MethodHandle" ∧ (gY 139).cls ≠ "java/lang/invoke/VarHandle" ∧ (parseMethodDescriptor (gY 139).desc).map (fun d => d.parameters.length) = some 1 := by decide +kernel
theorem lc_9_7 : Cond.classLink "RudeCouponsLaw" 7 "RudeCoupons" ∈ lw_g := wg 47 (by decide +kernel) rfl
theorem lm_9_9 : Cond.methodLink "RudeCouponsLaw" 9 (gY 58) ∈ lw_g := wg 49 (by decide +kernel) rfl
theorem lo_7 : Cond.methodLink "RudeCoupons" 1 Lib.objectInit ∈ lw_g := wg 52 (by decide +kernel) rfl
theorem lc_7_7 : Cond.classLink "RudeCoupons" 7 "RudeCoupons$Letters" ∈ lw_g := wg 55 (by decide +kernel) rfl
theorem ln_7_9 : Cond.methodLinkNest "RudeCoupons" 9 (gY 28) "RudeCoupons" ∈ nestW := by decide +kernel
theorem lo_1 : Cond.methodLink "RudeCoupons$Letters" 3 Lib.objectInit ∈ lw_g := wg 60 (by decide +kernel) rfl
theorem lc_7_16 : Cond.classLink "RudeCoupons" 16 "RudeCoupons$Reader" ∈ lw_g := wg 71 (by decide +kernel) rfl
theorem ln_7_18 : Cond.methodLinkNest "RudeCoupons" 18 (gY 39) "RudeCoupons" ∈ nestW := by decide +kernel
theorem lo_3 : Cond.methodLink "RudeCoupons$Reader" 3 Lib.objectInit ∈ lw_g := wg 76 (by decide +kernel) rfl
theorem lc_7_23 : Cond.classLink "RudeCoupons" 23 "RudeCoupons$Standing" ∈ lw_g := wg 82 (by decide +kernel) rfl
theorem ln_7_25 : Cond.methodLinkNest "RudeCoupons" 25 (gY 52) "RudeCoupons" ∈ nestW := by decide +kernel
theorem lo_6 : Cond.methodLink "RudeCoupons$Standing" 3 Lib.objectInit ∈ lw_g := wg 87 (by decide +kernel) rfl
theorem lc_7_30 : Cond.classLink "RudeCoupons" 30 "RudeCoupons$Shelf" ∈ lw_g := wg 113 (by decide +kernel) rfl
theorem lm_7_32 : Cond.methodLink "RudeCoupons" 32 (gY 45) ∈ lw_g := wg 115 (by decide +kernel) rfl
theorem lm_7_32b : Cond.methodLink "RudeCoupons" 32 (gY 139) ∈ lw_g := wg 115 (by decide +kernel) rfl
theorem lo_4 : Cond.methodLink "RudeCoupons$Shelf" 1 Lib.objectInit ∈ lw_g := wg 118 (by decide +kernel) rfl
theorem lm_4_7 : Cond.methodLink "RudeCoupons$Shelf" 7 (gY 136) ∈ lw_g := wg 119 (by decide +kernel) rfl
theorem lc_4_13 : Cond.classLink "RudeCoupons$Shelf" 13 "RudeCoupons$Standing" ∈ lw_g := wg 122 (by decide +kernel) rfl
theorem ln_4_21 : Cond.methodLinkNest "RudeCoupons$Shelf" 21 (gY 52) "RudeCoupons" ∈ nestW := by decide +kernel
theorem lc_7_46 : Cond.classLink "RudeCoupons" 46 "RudeCoupons$Sightings" ∈ lw_g := wg 134 (by decide +kernel) rfl
theorem ln_7_48 : Cond.methodLinkNest "RudeCoupons" 48 (gY 49) "RudeCoupons" ∈ nestW := by decide +kernel
theorem lo_5 : Cond.methodLink "RudeCoupons$Sightings" 3 Lib.objectInit ∈ lw_g := wg 139 (by decide +kernel) rfl
theorem lc_7_53 : Cond.classLink "RudeCoupons" 53 "RudeCoupons$Plans" ∈ lw_g := wg 154 (by decide +kernel) rfl
theorem ln_7_55 : Cond.methodLinkNest "RudeCoupons" 55 (gY 32) "RudeCoupons" ∈ nestW := by decide +kernel
theorem lo_2 : Cond.methodLink "RudeCoupons$Plans" 3 Lib.objectInit ∈ lw_g := wg 159 (by decide +kernel) rfl
theorem lc_7_64 : Cond.classLink "RudeCoupons" 64 "RudeCoupons$Book" ∈ lw_g := wg 175 (by decide +kernel) rfl
theorem ln_7_66 : Cond.methodLinkNest "RudeCoupons" 66 (gY 17) "RudeCoupons" ∈ nestW := by decide +kernel
theorem lo_0 : Cond.methodLink "RudeCoupons$Book" 3 Lib.objectInit ∈ lw_g := wg 180 (by decide +kernel) rfl
theorem lm_7_86 : Cond.methodLink "RudeCoupons" 86 (gY 29) ∈ lw_g := wg 292 (by decide +kernel) rfl
theorem lm_7_90 : Cond.methodLink "RudeCoupons" 90 (gY 59) ∈ lw_g := wg 296 (by decide +kernel) rfl
theorem lm_7_100 : Cond.methodLink "RudeCoupons" 100 (gY 40) ∈ lw_g := wg 300 (by decide +kernel) rfl
theorem lm_3_15 : Cond.methodLink "RudeCoupons$Reader" 15 (gY 18) ∈ lw_g := wg 304 (by decide +kernel) rfl
theorem lm_3_26 : Cond.methodLink "RudeCoupons$Reader" 26 (gY 41) ∈ lw_g := wg 308 (by decide +kernel) rfl
theorem lm_3_30 : Cond.methodLink "RudeCoupons$Reader" 30 (gY 42) ∈ lw_g := wg 312 (by decide +kernel) rfl
theorem lm_3_38 : Cond.methodLink "RudeCoupons$Reader" 38 (gY 30) ∈ lw_g := wg 315 (by decide +kernel) rfl
theorem lm_3_46 : Cond.methodLink "RudeCoupons$Reader" 46 (gY 43) ∈ lw_g := wg 319 (by decide +kernel) rfl
theorem lm_3_34 : Cond.methodLink "RudeCoupons$Reader" 34 (gY 44) ∈ lw_g := wg 322 (by decide +kernel) rfl
theorem lm_3_42 : Cond.methodLink "RudeCoupons$Reader" 42 (gY 19) ∈ lw_g := wg 325 (by decide +kernel) rfl
theorem lm_0_52 : Cond.methodLink "RudeCoupons$Book" 52 (gY 20) ∈ lw_g := wg 329 (by decide +kernel) rfl
theorem ln_0_62 : Cond.methodLinkNest "RudeCoupons$Book" 62 (gY 16) "RudeCoupons" ∈ nestW := by decide +kernel
theorem lm_0_56 : Cond.methodLink "RudeCoupons$Book" 56 (gY 21) ∈ lw_g := wg 336 (by decide +kernel) rfl
theorem lm_0_59 : Cond.methodLink "RudeCoupons$Book" 59 (gY 22) ∈ lw_g := wg 340 (by decide +kernel) rfl
theorem lm_0_65 : Cond.methodLink "RudeCoupons$Book" 65 (gY 23) ∈ lw_g := wg 344 (by decide +kernel) rfl
theorem lm_0_69 : Cond.methodLink "RudeCoupons$Book" 69 (gY 24) ∈ lw_g := wg 348 (by decide +kernel) rfl
theorem lm_7_272 : Cond.methodLink "RudeCoupons" 272 (gY 53) ∈ lw_g := wg 352 (by decide +kernel) rfl
theorem lm_9_13 : Cond.methodLink "RudeCouponsLaw" 13 (gY 60) ∈ lw_g := wg 391 (by decide +kernel) rfl
theorem lm_7_96 : Cond.methodLink "RudeCoupons" 96 (gY 16) ∈ lw_g := wg 395 (by decide +kernel) rfl
theorem lm_9_18 : Cond.methodLink "RudeCouponsLaw" 18 (gY 61) ∈ lw_g := wg 396 (by decide +kernel) rfl
theorem lm_9_23 : Cond.methodLink "RudeCouponsLaw" 23 (gY 62) ∈ lw_g := wg 400 (by decide +kernel) rfl
theorem lm_9_27 : Cond.methodLink "RudeCouponsLaw" 27 (gY 63) ∈ lw_g := wg 404 (by decide +kernel) rfl
theorem lm_9_31 : Cond.methodLink "RudeCouponsLaw" 31 (gY 64) ∈ lw_g := wg 408 (by decide +kernel) rfl
theorem lm_7_104 : Cond.methodLink "RudeCoupons" 104 (gY 23) ∈ lw_g := wg 412 (by decide +kernel) rfl
theorem lm_9_36 : Cond.methodLink "RudeCouponsLaw" 36 (gY 65) ∈ lw_g := wg 413 (by decide +kernel) rfl
theorem lm_7_120 : Cond.methodLink "RudeCoupons" 120 (gY 24) ∈ lw_g := wg 417 (by decide +kernel) rfl
theorem lm_9_40 : Cond.methodLink "RudeCouponsLaw" 40 (gY 66) ∈ lw_g := wg 418 (by decide +kernel) rfl
theorem lm_7_132 : Cond.methodLink "RudeCoupons" 132 (gY 25) ∈ lw_g := wg 422 (by decide +kernel) rfl
theorem lm_7_144 : Cond.methodLink "RudeCoupons" 144 (gY 14) ∈ lw_g := wg 426 (by decide +kernel) rfl
theorem lm_7_147 : Cond.methodLink "RudeCoupons" 147 (gY 67) ∈ lw_g := wg 430 (by decide +kernel) rfl
theorem lm_7_245 : Cond.methodLink "RudeCoupons" 245 (gY 10) ∈ lw_g := wg 434 (by decide +kernel) rfl
theorem lm_9_44 : Cond.methodLink "RudeCouponsLaw" 44 (gY 68) ∈ lw_g := wg 438 (by decide +kernel) rfl
theorem lm_7_151 : Cond.methodLink "RudeCoupons" 151 (gY 46) ∈ lw_g := wg 442 (by decide +kernel) rfl
theorem lm_4_26 : Cond.methodLink "RudeCoupons$Shelf" 26 (gY 47) ∈ lw_g := wg 446 (by decide +kernel) rfl
theorem lm_4_29 : Cond.methodLink "RudeCoupons$Shelf" 29 (gY 54) ∈ lw_g := wg 450 (by decide +kernel) rfl
theorem ln_6_39 : Cond.methodLinkNest "RudeCoupons$Standing" 39 (gY 69) "RudeCoupons" ∈ nestW := by decide +kernel
theorem lm_7_164 : Cond.methodLink "RudeCoupons" 164 (gY 26) ∈ lw_g := wg 457 (by decide +kernel) rfl
theorem lm_0_72 : Cond.methodLink "RudeCoupons$Book" 72 (gY 136) ∈ lw_g := wg 461 (by decide +kernel) rfl
theorem lm_9_48 : Cond.methodLink "RudeCouponsLaw" 48 (gY 70) ∈ lw_g := wg 462 (by decide +kernel) rfl
theorem lm_9_52 : Cond.methodLink "RudeCouponsLaw" 52 (gY 71) ∈ lw_g := wg 466 (by decide +kernel) rfl
theorem lm_9_57 : Cond.methodLink "RudeCouponsLaw" 57 (gY 72) ∈ lw_g := wg 470 (by decide +kernel) rfl
theorem lm_7_173 : Cond.methodLink "RudeCoupons" 173 (gY 55) ∈ lw_g := wg 474 (by decide +kernel) rfl
theorem ln_6_49 : Cond.methodLinkNest "RudeCoupons$Standing" 49 (gY 73) "RudeCoupons" ∈ nestW := by decide +kernel
theorem lm_9_61 : Cond.methodLink "RudeCouponsLaw" 61 (gY 74) ∈ lw_g := wg 481 (by decide +kernel) rfl
theorem lm_7_176 : Cond.methodLink "RudeCoupons" 176 (gY 48) ∈ lw_g := wg 485 (by decide +kernel) rfl
theorem lm_9_65 : Cond.methodLink "RudeCouponsLaw" 65 (gY 75) ∈ lw_g := wg 489 (by decide +kernel) rfl
theorem lm_7_183 : Cond.methodLink "RudeCoupons" 183 (gY 33) ∈ lw_g := wg 493 (by decide +kernel) rfl
theorem lm_2_32 : Cond.methodLink "RudeCoupons$Plans" 32 (gY 15) ∈ lw_g := wg 497 (by decide +kernel) rfl
theorem lm_6_45 : Cond.methodLink "RudeCoupons$Standing" 45 (gY 14) ∈ lw_g := wg 501 (by decide +kernel) rfl
theorem lm_2_38 : Cond.methodLink "RudeCoupons$Plans" 38 (gY 11) ∈ lw_g := wg 502 (by decide +kernel) rfl
theorem lm_2_48 : Cond.methodLink "RudeCoupons$Plans" 48 (gY 10) ∈ lw_g := wg 506 (by decide +kernel) rfl
theorem lm_9_69 : Cond.methodLink "RudeCouponsLaw" 69 (gY 76) ∈ lw_g := wg 507 (by decide +kernel) rfl
theorem lm_7_193 : Cond.methodLink "RudeCoupons" 193 (gY 34) ∈ lw_g := wg 511 (by decide +kernel) rfl
theorem lm_9_73 : Cond.methodLink "RudeCouponsLaw" 73 (gY 77) ∈ lw_g := wg 515 (by decide +kernel) rfl
theorem lm_7_197 : Cond.methodLink "RudeCoupons" 197 (gY 35) ∈ lw_g := wg 519 (by decide +kernel) rfl
theorem lm_2_57 : Cond.methodLink "RudeCoupons$Plans" 57 (gY 33) ∈ lw_g := wg 523 (by decide +kernel) rfl
theorem lm_7_201 : Cond.methodLink "RudeCoupons" 201 (gY 78) ∈ lw_g := wg 524 (by decide +kernel) rfl
theorem lm_9_77 : Cond.methodLink "RudeCouponsLaw" 77 (gY 79) ∈ lw_g := wg 528 (by decide +kernel) rfl
theorem lm_7_204 : Cond.methodLink "RudeCoupons" 204 (gY 36) ∈ lw_g := wg 532 (by decide +kernel) rfl
theorem lm_2_61 : Cond.methodLink "RudeCoupons$Plans" 61 (gY 13) ∈ lw_g := wg 536 (by decide +kernel) rfl
theorem lm_2_65 : Cond.methodLink "RudeCoupons$Plans" 65 (gY 12) ∈ lw_g := wg 540 (by decide +kernel) rfl
theorem lm_2_69 : Cond.methodLink "RudeCoupons$Plans" 69 (gY 136) ∈ lw_g := wg 544 (by decide +kernel) rfl
theorem lm_7_211 : Cond.methodLink "RudeCoupons" 211 (gY 37) ∈ lw_g := wg 545 (by decide +kernel) rfl
theorem lm_2_74 : Cond.methodLink "RudeCoupons$Plans" 74 (gY 38) ∈ lw_g := wg 549 (by decide +kernel) rfl
theorem lm_2_77 : Cond.methodLink "RudeCoupons$Plans" 77 (gY 137) ∈ lw_g := wg 553 (by decide +kernel) rfl
theorem lm_9_81 : Cond.methodLink "RudeCouponsLaw" 81 (gY 80) ∈ lw_g := wg 556 (by decide +kernel) rfl
theorem lm_7_214 : Cond.methodLink "RudeCoupons" 214 (gY 81) ∈ lw_g := wg 560 (by decide +kernel) rfl
theorem lm_7_276 : Cond.methodLink "RudeCoupons" 276 (gY 27) ∈ lw_g := wg 564 (by decide +kernel) rfl
theorem lm_0_78 : Cond.methodLink "RudeCoupons$Book" 78 (gY 26) ∈ lw_g := wg 568 (by decide +kernel) rfl
theorem lm_9_85 : Cond.methodLink "RudeCouponsLaw" 85 (gY 82) ∈ lw_g := wg 569 (by decide +kernel) rfl
theorem lm_7_217 : Cond.methodLink "RudeCoupons" 217 (gY 50) ∈ lw_g := wg 573 (by decide +kernel) rfl
theorem lm_9_89 : Cond.methodLink "RudeCouponsLaw" 89 (gY 83) ∈ lw_g := wg 577 (by decide +kernel) rfl
theorem lm_9_93 : Cond.methodLink "RudeCouponsLaw" 93 (gY 84) ∈ lw_g := wg 581 (by decide +kernel) rfl
theorem lm_7_220 : Cond.methodLink "RudeCoupons" 220 (gY 51) ∈ lw_g := wg 585 (by decide +kernel) rfl
theorem lm_5_30 : Cond.methodLink "RudeCoupons$Sightings" 30 (gY 10) ∈ lw_g := wg 589 (by decide +kernel) rfl
theorem lm_9_97 : Cond.methodLink "RudeCouponsLaw" 97 (gY 85) ∈ lw_g := wg 590 (by decide +kernel) rfl
theorem lm_7_224 : Cond.methodLink "RudeCoupons" 224 (gY 56) ∈ lw_g := wg 594 (by decide +kernel) rfl
theorem lm_6_53 : Cond.methodLink "RudeCoupons$Standing" 53 (gY 136) ∈ lw_g := wg 598 (by decide +kernel) rfl
theorem lm_7_227 : Cond.methodLink "RudeCoupons" 227 (gY 137) ∈ lw_g := wg 599 (by decide +kernel) rfl
theorem lm_9_101 : Cond.methodLink "RudeCouponsLaw" 101 (gY 86) ∈ lw_g := wg 600 (by decide +kernel) rfl
theorem lm_9_105 : Cond.methodLink "RudeCouponsLaw" 105 (gY 87) ∈ lw_g := wg 604 (by decide +kernel) rfl
theorem lm_9_109 : Cond.methodLink "RudeCouponsLaw" 109 (gY 88) ∈ lw_g := wg 608 (by decide +kernel) rfl
theorem lm_7_232 : Cond.methodLink "RudeCoupons" 232 (gY 57) ∈ lw_g := wg 612 (by decide +kernel) rfl
theorem lm_9_113 : Cond.methodLink "RudeCouponsLaw" 113 (gY 89) ∈ lw_g := wg 616 (by decide +kernel) rfl
theorem lm_7_235 : Cond.methodLink "RudeCoupons" 235 (gY 69) ∈ lw_g := wg 620 (by decide +kernel) rfl
theorem lm_7_249 : Cond.methodLink "RudeCoupons" 249 (gY 15) ∈ lw_g := wg 621 (by decide +kernel) rfl
theorem lm_7_252 : Cond.methodLink "RudeCoupons" 252 (gY 90) ∈ lw_g := wg 622 (by decide +kernel) rfl
theorem ll_7_279 : Cond.constantLong "RudeCoupons" 279 (lN 7919) ∈ lw_g := wg 625 (by decide +kernel) rfl
theorem ll_7_281 : Cond.constantLong "RudeCoupons" 281 (lN 6151) ∈ lw_g := wg 626 (by decide +kernel) rfl
theorem ll_7_283 : Cond.constantLong "RudeCoupons" 283 (lN 65521) ∈ lw_g := wg 627 (by decide +kernel) rfl
theorem ll_7_285 : Cond.constantLong "RudeCoupons" 285 (lN 8) ∈ lw_g := wg 628 (by decide +kernel) rfl
theorem ll_7_287 : Cond.constantLong "RudeCoupons" 287 (lN 4) ∈ lw_g := wg 629 (by decide +kernel) rfl
theorem lm_7_256 : Cond.methodLink "RudeCoupons" 256 (gY 73) ∈ lw_g := wg 630 (by decide +kernel) rfl
theorem lm_9_117 : Cond.methodLink "RudeCouponsLaw" 117 (gY 91) ∈ lw_g := wg 631 (by decide +kernel) rfl
theorem lm_7_260 : Cond.methodLink "RudeCoupons" 260 (gY 31) ∈ lw_g := wg 635 (by decide +kernel) rfl
theorem lm_9_121 : Cond.methodLink "RudeCouponsLaw" 121 (gY 92) ∈ lw_g := wg 639 (by decide +kernel) rfl
theorem lm_9_125 : Cond.methodLink "RudeCouponsLaw" 125 (gY 93) ∈ lw_g := wg 643 (by decide +kernel) rfl
theorem lm_7_267 : Cond.methodLink "RudeCoupons" 267 (gY 138) ∈ lw_g := wg 647 (by decide +kernel) rfl
theorem li_11_265 : Cond.constant "java/lang/Integer" 265 (nI 1431655765) ∈ lw_g := wg 650 (by decide +kernel) rfl
theorem li_11_266 : Cond.constant "java/lang/Integer" 266 (nI 858993459) ∈ lw_g := wg 651 (by decide +kernel) rfl
theorem li_11_267 : Cond.constant "java/lang/Integer" 267 (nI 252645135) ∈ lw_g := wg 652 (by decide +kernel) rfl
theorem lc_9_10 : Cond.classLink "RudeCouponsLaw" 10 "RudeCouponsModel" ∈ lw_g := wg 653 (by decide +kernel) rfl
theorem lm_9_12 : Cond.methodLink "RudeCouponsLaw" 12 (gY 94) ∈ lw_g := wg 655 (by decide +kernel) rfl
theorem lo_8 : Cond.methodLink "RudeCouponsModel" 1 Lib.objectInit ∈ lw_g := wg 658 (by decide +kernel) rfl
theorem lm_8_58 : Cond.methodLink "RudeCouponsModel" 58 (gY 95) ∈ lw_g := wg 659 (by decide +kernel) rfl
theorem lm_8_61 : Cond.methodLink "RudeCouponsModel" 61 (gY 96) ∈ lw_g := wg 663 (by decide +kernel) rfl
theorem lm_8_65 : Cond.methodLink "RudeCouponsModel" 65 (gY 97) ∈ lw_g := wg 667 (by decide +kernel) rfl
theorem lm_8_68 : Cond.methodLink "RudeCouponsModel" 68 (gY 98) ∈ lw_g := wg 671 (by decide +kernel) rfl
theorem lm_8_71 : Cond.methodLink "RudeCouponsModel" 71 (gY 99) ∈ lw_g := wg 675 (by decide +kernel) rfl
theorem lm_8_134 : Cond.methodLink "RudeCouponsModel" 134 (gY 100) ∈ lw_g := wg 679 (by decide +kernel) rfl
theorem lm_9_17 : Cond.methodLink "RudeCouponsLaw" 17 (gY 101) ∈ lw_g := wg 767 (by decide +kernel) rfl
theorem lm_8_87 : Cond.methodLink "RudeCouponsModel" 87 (gY 7) ∈ lw_g := wg 771 (by decide +kernel) rfl
theorem lm_9_22 : Cond.methodLink "RudeCouponsLaw" 22 (gY 102) ∈ lw_g := wg 774 (by decide +kernel) rfl
theorem lm_9_26 : Cond.methodLink "RudeCouponsLaw" 26 (gY 103) ∈ lw_g := wg 778 (by decide +kernel) rfl
theorem lm_9_30 : Cond.methodLink "RudeCouponsLaw" 30 (gY 104) ∈ lw_g := wg 813 (by decide +kernel) rfl
theorem lm_8_127 : Cond.methodLink "RudeCouponsModel" 127 (gY 103) ∈ lw_g := wg 817 (by decide +kernel) rfl
theorem lm_9_35 : Cond.methodLink "RudeCouponsLaw" 35 (gY 105) ∈ lw_g := wg 818 (by decide +kernel) rfl
theorem lm_8_162 : Cond.methodLink "RudeCouponsModel" 162 (gY 9) ∈ lw_g := wg 822 (by decide +kernel) rfl
theorem lm_9_39 : Cond.methodLink "RudeCouponsLaw" 39 (gY 106) ∈ lw_g := wg 826 (by decide +kernel) rfl
theorem lm_9_43 : Cond.methodLink "RudeCouponsLaw" 43 (gY 107) ∈ lw_g := wg 830 (by decide +kernel) rfl
theorem lm_8_165 : Cond.methodLink "RudeCouponsModel" 165 (gY 108) ∈ lw_g := wg 834 (by decide +kernel) rfl
theorem lm_8_168 : Cond.methodLink "RudeCouponsModel" 168 (gY 109) ∈ lw_g := wg 838 (by decide +kernel) rfl
theorem lm_8_154 : Cond.methodLink "RudeCouponsModel" 154 (gY 0) ∈ lw_g := wg 842 (by decide +kernel) rfl
theorem lm_8_147 : Cond.methodLink "RudeCouponsModel" 147 (gY 1) ∈ lw_g := wg 845 (by decide +kernel) rfl
theorem lm_8_158 : Cond.methodLink "RudeCouponsModel" 158 (gY 3) ∈ lw_g := wg 849 (by decide +kernel) rfl
theorem lm_8_150 : Cond.methodLink "RudeCouponsModel" 150 (gY 2) ∈ lw_g := wg 853 (by decide +kernel) rfl
theorem lm_9_47 : Cond.methodLink "RudeCouponsLaw" 47 (gY 110) ∈ lw_g := wg 857 (by decide +kernel) rfl
theorem lm_8_171 : Cond.methodLink "RudeCouponsModel" 171 (gY 111) ∈ lw_g := wg 861 (by decide +kernel) rfl
theorem lm_8_174 : Cond.methodLink "RudeCouponsModel" 174 (gY 4) ∈ lw_g := wg 865 (by decide +kernel) rfl
theorem lm_8_177 : Cond.methodLink "RudeCouponsModel" 177 (gY 8) ∈ lw_g := wg 869 (by decide +kernel) rfl
theorem lm_9_51 : Cond.methodLink "RudeCouponsLaw" 51 (gY 112) ∈ lw_g := wg 873 (by decide +kernel) rfl
theorem lm_9_56 : Cond.methodLink "RudeCouponsLaw" 56 (gY 113) ∈ lw_g := wg 877 (by decide +kernel) rfl
theorem lm_9_60 : Cond.methodLink "RudeCouponsLaw" 60 (gY 114) ∈ lw_g := wg 881 (by decide +kernel) rfl
theorem lm_8_180 : Cond.methodLink "RudeCouponsModel" 180 (gY 115) ∈ lw_g := wg 885 (by decide +kernel) rfl
theorem lm_9_64 : Cond.methodLink "RudeCouponsLaw" 64 (gY 116) ∈ lw_g := wg 889 (by decide +kernel) rfl
theorem lm_9_68 : Cond.methodLink "RudeCouponsLaw" 68 (gY 117) ∈ lw_g := wg 893 (by decide +kernel) rfl
theorem lm_8_189 : Cond.methodLink "RudeCouponsModel" 189 (gY 6) ∈ lw_g := wg 897 (by decide +kernel) rfl
theorem lm_8_183 : Cond.methodLink "RudeCouponsModel" 183 (gY 5) ∈ lw_g := wg 901 (by decide +kernel) rfl
theorem lm_9_72 : Cond.methodLink "RudeCouponsLaw" 72 (gY 118) ∈ lw_g := wg 905 (by decide +kernel) rfl
theorem lm_9_76 : Cond.methodLink "RudeCouponsLaw" 76 (gY 119) ∈ lw_g := wg 909 (by decide +kernel) rfl
theorem lm_9_80 : Cond.methodLink "RudeCouponsLaw" 80 (gY 120) ∈ lw_g := wg 913 (by decide +kernel) rfl
theorem lm_8_192 : Cond.methodLink "RudeCouponsModel" 192 (gY 121) ∈ lw_g := wg 917 (by decide +kernel) rfl
theorem lm_9_84 : Cond.methodLink "RudeCouponsLaw" 84 (gY 122) ∈ lw_g := wg 921 (by decide +kernel) rfl
theorem lm_8_195 : Cond.methodLink "RudeCouponsModel" 195 (gY 123) ∈ lw_g := wg 925 (by decide +kernel) rfl
theorem lm_9_88 : Cond.methodLink "RudeCouponsLaw" 88 (gY 124) ∈ lw_g := wg 929 (by decide +kernel) rfl
theorem lm_9_92 : Cond.methodLink "RudeCouponsLaw" 92 (gY 125) ∈ lw_g := wg 933 (by decide +kernel) rfl
theorem lm_9_96 : Cond.methodLink "RudeCouponsLaw" 96 (gY 126) ∈ lw_g := wg 937 (by decide +kernel) rfl
theorem lm_9_100 : Cond.methodLink "RudeCouponsLaw" 100 (gY 127) ∈ lw_g := wg 941 (by decide +kernel) rfl
theorem lm_9_104 : Cond.methodLink "RudeCouponsLaw" 104 (gY 128) ∈ lw_g := wg 945 (by decide +kernel) rfl
theorem lm_9_108 : Cond.methodLink "RudeCouponsLaw" 108 (gY 129) ∈ lw_g := wg 949 (by decide +kernel) rfl
theorem lm_9_112 : Cond.methodLink "RudeCouponsLaw" 112 (gY 130) ∈ lw_g := wg 953 (by decide +kernel) rfl
theorem lm_9_116 : Cond.methodLink "RudeCouponsLaw" 116 (gY 131) ∈ lw_g := wg 957 (by decide +kernel) rfl
theorem ll_8_198 : Cond.constantLong "RudeCouponsModel" 198 (lN 7919) ∈ lw_g := wg 961 (by decide +kernel) rfl
theorem ll_8_200 : Cond.constantLong "RudeCouponsModel" 200 (lN 6151) ∈ lw_g := wg 962 (by decide +kernel) rfl
theorem ll_8_202 : Cond.constantLong "RudeCouponsModel" 202 (lN 65521) ∈ lw_g := wg 963 (by decide +kernel) rfl
theorem ll_8_204 : Cond.constantLong "RudeCouponsModel" 204 (lN 8) ∈ lw_g := wg 964 (by decide +kernel) rfl
theorem lm_9_120 : Cond.methodLink "RudeCouponsLaw" 120 (gY 132) ∈ lw_g := wg 965 (by decide +kernel) rfl
theorem lm_9_124 : Cond.methodLink "RudeCouponsLaw" 124 (gY 133) ∈ lw_g := wg 969 (by decide +kernel) rfl
theorem lm_9_128 : Cond.methodLink "RudeCouponsLaw" 128 (gY 134) ∈ lw_g := wg 973 (by decide +kernel) rfl
theorem lm_8_206 : Cond.methodLink "RudeCouponsModel" 206 (gY 135) ∈ lw_g := wg 977 (by decide +kernel) rfl
theorem wn_0 : Cond.instantiable RX0 13 ∈ lw_g := wg 176 (by decide +kernel) rfl
theorem wz_0 : Cond.initialized RX0 ∈ lw_g := wg 40 (by decide +kernel) rfl
theorem wn_1 : Cond.instantiable RX1 2 ∈ lw_g := wg 56 (by decide +kernel) rfl
theorem wz_1 : Cond.initialized RX1 ∈ lw_g := wg 33 (by decide +kernel) rfl
theorem wn_2 : Cond.instantiable RX2 3 ∈ lw_g := wg 155 (by decide +kernel) rfl
theorem wz_2 : Cond.initialized RX2 ∈ lw_g := wg 39 (by decide +kernel) rfl
theorem wn_3 : Cond.instantiable RX3 1 ∈ lw_g := wg 72 (by decide +kernel) rfl
theorem wz_3 : Cond.initialized RX3 ∈ lw_g := wg 34 (by decide +kernel) rfl
theorem wn_4 : Cond.instantiable RX4 2 ∈ lw_g := wg 114 (by decide +kernel) rfl
theorem wz_4 : Cond.initialized RX4 ∈ lw_g := wg 36 (by decide +kernel) rfl
theorem wn_5 : Cond.instantiable RX5 4 ∈ lw_g := wg 135 (by decide +kernel) rfl
theorem wz_5 : Cond.initialized RX5 ∈ lw_g := wg 38 (by decide +kernel) rfl
theorem wn_6 : Cond.instantiable RX6 6 ∈ lw_g := wg 83 (by decide +kernel) rfl
theorem wz_6 : Cond.initialized RX6 ∈ lw_g := wg 35 (by decide +kernel) rfl
theorem wn_7 : Cond.instantiable RX7 11 ∈ lw_g := wg 48 (by decide +kernel) rfl
theorem wz_7 : Cond.initialized RX7 ∈ lw_g := wg 32 (by decide +kernel) rfl
theorem wn_8 : Cond.instantiable RX8 28 ∈ lw_g := wg 654 (by decide +kernel) rfl
theorem wz_8 : Cond.initialized RX8 ∈ lw_g := wg 45 (by decide +kernel) rfl
theorem wa_0 : Cond.arrayClass .int ∈ lw_g := wg 81 (by decide +kernel) rfl
theorem wa_1 : Cond.arrayClass .char ∈ lw_g := wg 70 (by decide +kernel) rfl
theorem wo_1 : Cond.instanceMethod Lib.objectInit ∈ lw_g := wg 53 (by decide +kernel) rfl
theorem wo_2 : Cond.code Lib.objectInit ⟨#[0xb1]⟩ 1 none ∈ lw_g := wg 54 (by decide +kernel) rfl
end
section
theorem df_0 : ∀ j, j < 13 → (kz ([.inl 0, .inr (.inr (.inr (.inr (.inr 0)))), .inr (.inr (.inr (.inr (.inr 0)))), .inr (.inr (.inr (.inr (.inr 0)))), .inl 0, .inr (.inr (.inr (.inr (.inr 0)))), .inr (.inr (.inr (.inr (.inr 0)))), .inr (.inr (.inr (.inr (.inr 0)))), .inl 0, .inr (.inr (.inr (.inr (.inr 0)))), .inr (.inr (.inr (.inr (.inr 0)))), .inr (.inr (.inr (.inr (.inr 0)))), .inr (.inr (.inr (.inr (.inr 0))))] : List mV)[j]? = 0 ∧ tyX0 j = .int) ∨ (kz ([.inl 0, .inr (.inr (.inr (.inr (.inr 0)))), .inr (.inr (.inr (.inr (.inr 0)))), .inr (.inr (.inr (.inr (.inr 0)))), .inl 0, .inr (.inr (.inr (.inr (.inr 0)))), .inr (.inr (.inr (.inr (.inr 0)))), .inr (.inr (.inr (.inr (.inr 0)))), .inl 0, .inr (.inr (.inr (.inr (.inr 0)))), .inr (.inr (.inr (.inr (.inr 0)))), .inr (.inr (.inr (.inr (.inr 0)))), .inr (.inr (.inr (.inr (.inr 0))))] : List mV)[j]? = 1 ∧ (tyX0 j).isReference = true) := by decide +kernel
theorem df_1 : ∀ j, j < 2 → (kz ([.inr (.inr (.inr (.inr (.inr 0)))), .inl 0] : List mV)[j]? = 0 ∧ tyX1 j = .int) ∨ (kz ([.inr (.inr (.inr (.inr (.inr 0)))), .inl 0] : List mV)[j]? = 1 ∧ (tyX1 j).isReference = true) := by decide +kernel
theorem df_2 : ∀ j, j < 3 → (kz ([.inr (.inr (.inr (.inr (.inr 0)))), .inr (.inr (.inr (.inr (.inr 0)))), .inr (.inr (.inr (.inr (.inr 0))))] : List mV)[j]? = 0 ∧ tyX2 j = .int) ∨ (kz ([.inr (.inr (.inr (.inr (.inr 0)))), .inr (.inr (.inr (.inr (.inr 0)))), .inr (.inr (.inr (.inr (.inr 0))))] : List mV)[j]? = 1 ∧ (tyX2 j).isReference = true) := by decide +kernel
theorem df_3 : ∀ j, j < 1 → (kz ([.inr (.inr (.inr (.inr (.inr 0))))] : List mV)[j]? = 0 ∧ tyX3 j = .int) ∨ (kz ([.inr (.inr (.inr (.inr (.inr 0))))] : List mV)[j]? = 1 ∧ (tyX3 j).isReference = true) := by decide +kernel
theorem df_4 : ∀ j, j < 2 → (kz ([.inr (.inr (.inr (.inr (.inr 0)))), .inl 0] : List mV)[j]? = 0 ∧ tyX4 j = .int) ∨ (kz ([.inr (.inr (.inr (.inr (.inr 0)))), .inl 0] : List mV)[j]? = 1 ∧ (tyX4 j).isReference = true) := by decide +kernel
theorem df_5 : ∀ j, j < 4 → (kz ([.inr (.inr (.inr (.inr (.inr 0)))), .inr (.inr (.inr (.inr (.inr 0)))), .inr (.inr (.inr (.inr (.inr 0)))), .inl 0] : List mV)[j]? = 0 ∧ tyX5 j = .int) ∨ (kz ([.inr (.inr (.inr (.inr (.inr 0)))), .inr (.inr (.inr (.inr (.inr 0)))), .inr (.inr (.inr (.inr (.inr 0)))), .inl 0] : List mV)[j]? = 1 ∧ (tyX5 j).isReference = true) := by decide +kernel
theorem df_6 : ∀ j, j < 6 → (kz ([.inl 0, .inl 0, .inr (.inr (.inr (.inr (.inr 0)))), .inr (.inr (.inr (.inr (.inr 0)))), .inr (.inr (.inr (.inr (.inr 0)))), .inr (.inr (.inr (.inr (.inr 0))))] : List mV)[j]? = 0 ∧ tyX6 j = .int) ∨ (kz ([.inl 0, .inl 0, .inr (.inr (.inr (.inr (.inr 0)))), .inr (.inr (.inr (.inr (.inr 0)))), .inr (.inr (.inr (.inr (.inr 0)))), .inr (.inr (.inr (.inr (.inr 0))))] : List mV)[j]? = 1 ∧ (tyX6 j).isReference = true) := by decide +kernel
theorem df_7 : ∀ j, j < 11 → (kz ([.inr (.inr (.inr (.inr (.inr 0)))), .inr (.inr (.inr (.inr (.inr 0)))), .inr (.inr (.inr (.inr (.inr 0)))), .inr (.inr (.inr (.inr (.inr 0)))), .inr (.inr (.inr (.inr (.inr 0)))), .inr (.inr (.inr (.inr (.inr 0)))), .inr (.inr (.inr (.inr (.inr 0)))), .inr (.inr (.inr (.inr (.inr 0)))), .inr (.inr (.inr (.inr (.inr 0)))), .inr (.inr (.inr (.inr (.inr 0)))), .inr (.inr (.inr (.inr (.inr 0))))] : List mV)[j]? = 0 ∧ tyX7 j = .int) ∨ (kz ([.inr (.inr (.inr (.inr (.inr 0)))), .inr (.inr (.inr (.inr (.inr 0)))), .inr (.inr (.inr (.inr (.inr 0)))), .inr (.inr (.inr (.inr (.inr 0)))), .inr (.inr (.inr (.inr (.inr 0)))), .inr (.inr (.inr (.inr (.inr 0)))), .inr (.inr (.inr (.inr (.inr 0)))), .inr (.inr (.inr (.inr (.inr 0)))), .inr (.inr (.inr (.inr (.inr 0)))), .inr (.inr (.inr (.inr (.inr 0)))), .inr (.inr (.inr (.inr (.inr 0))))] : List mV)[j]? = 1 ∧ (tyX7 j).isReference = true) := by decide +kernel
theorem df_8 : ∀ j, j < 28 → (kz ([.inl 0, .inr (.inr (.inr (.inr (.inr 0)))), .inl 0, .inr (.inr (.inr (.inr (.inr 0)))), .inl 0, .inr (.inr (.inr (.inr (.inr 0)))), .inr (.inr (.inr (.inr (.inr 0)))), .inr (.inr (.inr (.inr (.inr 0)))), .inl 0, .inr (.inr (.inr (.inr (.inr 0)))), .inl 0, .inr (.inr (.inr (.inr (.inr 0)))), .inl 0, .inr (.inr (.inr (.inr (.inr 0)))), .inr (.inr (.inr (.inr (.inr 0)))), .inl 0, .inl 0, .inr (.inr (.inr (.inr (.inr 0)))), .inl 0, .inr (.inr (.inr (.inr (.inr 0)))), .inl 0, .inr (.inr (.inr (.inr (.inr 0)))), .inl 0, .inr (.inr (.inr (.inr (.inr 0)))), .inl 0, .inr (.inr (.inr (.inr (.inr 0)))), .inr (.inr (.inr (.inr (.inr 0)))), .inr (.inr (.inr (.inr (.inr 0))))] : List mV)[j]? = 0 ∧ tyX8 j = .int) ∨ (kz ([.inl 0, .inr (.inr (.inr (.inr (.inr 0)))), .inl 0, .inr (.inr (.inr (.inr (.inr 0)))), .inl 0, .inr (.inr (.inr (.inr (.inr 0)))), .inr (.inr (.inr (.inr (.inr 0)))), .inr (.inr (.inr (.inr (.inr 0)))), .inl 0, .inr (.inr (.inr (.inr (.inr 0)))), .inl 0, .inr (.inr (.inr (.inr (.inr 0)))), .inl 0, .inr (.inr (.inr (.inr (.inr 0)))), .inr (.inr (.inr (.inr (.inr 0)))), .inl 0, .inl 0, .inr (.inr (.inr (.inr (.inr 0)))), .inl 0, .inr (.inr (.inr (.inr (.inr 0)))), .inl 0, .inr (.inr (.inr (.inr (.inr 0)))), .inl 0, .inr (.inr (.inr (.inr (.inr 0)))), .inl 0, .inr (.inr (.inr (.inr (.inr 0)))), .inr (.inr (.inr (.inr (.inr 0)))), .inr (.inr (.inr (.inr (.inr 0))))] : List mV)[j]? = 1 ∧ (tyX8 j).isReference = true) := by decide +kernel
end
