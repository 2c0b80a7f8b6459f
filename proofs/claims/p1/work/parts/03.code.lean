/-! The program as the small machine runs it: by program out of the code that the claim bears. -/
def tx_M : Nat := 4595750799627909672895520109817179342376910322941544273845931433050619076453403390199923514579632973730648103941087199589719334166584047005148219747440939429357122888725197889420551022058628651995139922667679602019853701631522616296360840175558409618305081887310940247103096355603811346425153542209269514180863274744953868515844730742659602088876805283548568158206127385477212502060804866955421013096404139520618322538853857370565067740264283602208356887905066544067547436824273305420638241533936858749131596351649228213674411004728089194779899736407772317904899000893332634900768420076290611398481387074372847323858216703883409165659828285499011938414992594606395996209417999734794909456250554492027923359904184875981191611040426807496736876147951679039615724226806702817115505189261272920190165324683867489518199310023352751018763658496478932757598029900547908416946733373157311672858540516128664485308858512226545391387548171225875842580893338782529070825766963177473476414536893793300676524912119842320723638801065819895778861837025932762073127234796628336450485027266870902896
/-- RudeCoupons$Book.<init>()V -/
noncomputable def rc_0_0 : List mI := [h_aload 0, h_oinit, h_aload 0, h_const 6, h_newa 0 10 76, h_putf 0 1 1, h_aload 0, h_const 6, h_newa 0 10 76, h_putf 0 2 1, h_aload 0, h_const 6, h_newa 0 10 76, h_putf 0 3 1, h_aload 0, h_const 6, h_newa 0 10 76, h_putf 0 5 1, h_aload 0, h_const 6, h_newa 0 10 76, h_putf 0 6 1, h_aload 0, h_const 6, h_newa 0 10 76, h_putf 0 7 1, h_aload 0, h_const 10, h_newa 0 10 76, h_putf 0 9 1, h_aload 0, h_const 10, h_newa 0 10 76, h_putf 0 10 1, h_aload 0, h_const 10, h_newa 0 10 76, h_putf 0 11 1, h_aload 0, h_const 10, h_newa 0 10 76, h_putf 0 12 1, h_return 10 76]
noncomputable def rc_0 : Nat → List mI := fun b => rc_0_0
/-- RudeCoupons$Book.clear()V -/
noncomputable def rc_1_0 : List mI := [h_aload 0, h_const 0, h_putf 0 0 0, h_aload 0, h_const 0, h_putf 0 4 0, h_aload 0, h_const 0, h_putf 0 8 0, h_return 0 0]
noncomputable def rc_1 : Nat → List mI := fun b => rc_1_0
/-- RudeCoupons$Book.add(CIII)Z -/
noncomputable def rc_2_0 : List mI := [h_iload 1, h_const 112, h_icmp 1 1, h_aload 0, h_iload 2, h_iload 3, h_iload 4, h_call 3 4 1 2 0 0 0 0, h_zreturn 1 0 0]
noncomputable def rc_2_1 : List mI := [h_iload 1, h_const 100, h_icmp 1 2, h_aload 0, h_iload 2, h_iload 3, h_iload 4, h_call 4 4 1 2 0 0 0 0, h_zreturn 1 0 0]
noncomputable def rc_2_2 : List mI := [h_iload 1, h_const 111, h_icmp 1 3, h_aload 0, h_iload 2, h_iload 3, h_iload 4, h_call 5 4 1 2 0 0 0 0, h_if 0 3, h_const 1, h_goto 4]
noncomputable def rc_2_3 : List mI := [h_const 0, h_goto 4]
noncomputable def rc_2_4 : List mI := [h_zreturn 1 0 0]
noncomputable def rc_2 : Nat → List mI := fun b => (Bool.rec (motive := fun _ => List mI) (Bool.rec (motive := fun _ => List mI) (Bool.rec (motive := fun _ => List mI) rc_2_4 rc_2_3 (Nat.blt b 4)) rc_2_2 (Nat.blt b 3)) (Bool.rec (motive := fun _ => List mI) rc_2_1 rc_2_0 (Nat.blt b 1)) (Nat.blt b 2))
/-- RudeCoupons$Book.addPerson(III)Z -/
noncomputable def rc_3_0 : List mI := [h_aload 0, h_getf 0 0, h_const 6, h_icmp 3 1, h_iload 1, h_const 0, h_const 3, h_call 49 3 1 0 0 0 0 0, h_if 0 1, h_iload 2, h_const 0, h_const 15, h_call 49 3 1 0 0 0 0 0, h_if 0 1, h_iload 3, h_const 0, h_const 9, h_call 49 3 1 0 0 0 0 0, h_if 1 2, h_goto 1]
noncomputable def rc_3_1 : List mI := [h_const 0, h_zreturn 1 0 0]
noncomputable def rc_3_2 : List mI := [h_aload 0, h_getf 0 1, h_aload 0, h_getf 0 0, h_iload 1, h_ast 0, h_aload 0, h_getf 0 2, h_aload 0, h_getf 0 0, h_iload 2, h_ast 0, h_aload 0, h_getf 0 3, h_aload 0, h_getf 0 0, h_iload 3, h_ast 0, h_aload 0, h_dup, h_getf 0 0, h_const 1, h_iadd, h_putf 0 0 0, h_const 1, h_zreturn 1 0 0]
noncomputable def rc_3 : Nat → List mI := fun b => (Bool.rec (motive := fun _ => List mI) (Bool.rec (motive := fun _ => List mI) rc_3_2 rc_3_1 (Nat.blt b 2)) rc_3_0 (Nat.blt b 1))
/-- RudeCoupons$Book.addDoing(III)Z -/
noncomputable def rc_4_0 : List mI := [h_aload 0, h_getf 0 4, h_const 6, h_icmp 3 1, h_iload 1, h_const 0, h_const 30, h_call 49 3 1 0 0 0 0 0, h_if 0 1, h_iload 2, h_const 1, h_const 3, h_call 49 3 1 0 0 0 0 0, h_if 0 1, h_iload 3, h_const 0, h_const 9, h_call 49 3 1 0 0 0 0 0, h_if 1 2, h_goto 1]
noncomputable def rc_4_1 : List mI := [h_const 0, h_zreturn 1 0 0]
noncomputable def rc_4_2 : List mI := [h_aload 0, h_getf 0 5, h_aload 0, h_getf 0 4, h_iload 1, h_ast 0, h_aload 0, h_getf 0 6, h_aload 0, h_getf 0 4, h_iload 2, h_ast 0, h_aload 0, h_getf 0 7, h_aload 0, h_getf 0 4, h_iload 3, h_ast 0, h_aload 0, h_dup, h_getf 0 4, h_const 1, h_iadd, h_putf 0 4 0, h_const 1, h_zreturn 1 0 0]
noncomputable def rc_4 : Nat → List mI := fun b => (Bool.rec (motive := fun _ => List mI) (Bool.rec (motive := fun _ => List mI) rc_4_2 rc_4_1 (Nat.blt b 2)) rc_4_0 (Nat.blt b 1))
/-- RudeCoupons$Book.addOccasion(III)Z -/
noncomputable def rc_5_0 : List mI := [h_aload 0, h_getf 0 8, h_const 10, h_icmp 3 1, h_iload 1, h_const 0, h_const 60, h_call 49 3 1 0 0 0 0 0, h_if 0 1, h_aload 0, h_iload 2, h_call 6 2 1 2 0 0 0 0, h_if 0 1, h_aload 0, h_iload 3, h_call 7 2 1 2 0 0 0 0, h_if 1 2, h_goto 1]
noncomputable def rc_5_1 : List mI := [h_const 0, h_zreturn 1 0 0]
noncomputable def rc_5_2 : List mI := [h_aload 0, h_getf 0 9, h_aload 0, h_getf 0 8, h_iload 1, h_ast 0, h_aload 0, h_getf 0 10, h_aload 0, h_getf 0 8, h_iload 2, h_ast 0, h_aload 0, h_getf 0 11, h_aload 0, h_getf 0 8, h_iload 3, h_ast 0, h_aload 0, h_getf 0 8, h_istore 4, h_goto 3]
noncomputable def rc_5_3 : List mI := [h_iload 4, h_if 5 4, h_aload 0, h_getf 0 9, h_aload 0, h_getf 0 12, h_iload 4, h_const 1, h_isub, h_ald 0, h_ald 0, h_iload 1, h_icmp 5 4, h_aload 0, h_getf 0 12, h_iload 4, h_aload 0, h_getf 0 12, h_iload 4, h_const 1, h_isub, h_ald 0, h_ast 0, h_iinc 4 4294967295, h_goto 3]
noncomputable def rc_5_4 : List mI := [h_aload 0, h_getf 0 12, h_iload 4, h_aload 0, h_getf 0 8, h_ast 0, h_aload 0, h_dup, h_getf 0 8, h_const 1, h_iadd, h_putf 0 8 0, h_const 1, h_zreturn 1 0 0]
noncomputable def rc_5 : Nat → List mI := fun b => (Bool.rec (motive := fun _ => List mI) (Bool.rec (motive := fun _ => List mI) (Bool.rec (motive := fun _ => List mI) rc_5_4 rc_5_3 (Nat.blt b 4)) rc_5_2 (Nat.blt b 3)) (Bool.rec (motive := fun _ => List mI) rc_5_1 rc_5_0 (Nat.blt b 1)) (Nat.blt b 2))
/-- RudeCoupons$Book.hasPerson(I)Z -/
noncomputable def rc_6_0 : List mI := [h_iload 1, h_if 2 1, h_iload 1, h_aload 0, h_getf 0 0, h_icmp 3 1, h_const 1, h_goto 2]
noncomputable def rc_6_1 : List mI := [h_const 0, h_goto 2]
noncomputable def rc_6_2 : List mI := [h_zreturn 1 0 0]
noncomputable def rc_6 : Nat → List mI := fun b => (Bool.rec (motive := fun _ => List mI) (Bool.rec (motive := fun _ => List mI) rc_6_2 rc_6_1 (Nat.blt b 2)) rc_6_0 (Nat.blt b 1))
/-- RudeCoupons$Book.hasDoing(I)Z -/
noncomputable def rc_7_0 : List mI := [h_iload 1, h_if 2 1, h_iload 1, h_aload 0, h_getf 0 4, h_icmp 3 1, h_const 1, h_goto 2]
noncomputable def rc_7_1 : List mI := [h_const 0, h_goto 2]
noncomputable def rc_7_2 : List mI := [h_zreturn 1 0 0]
noncomputable def rc_7 : Nat → List mI := fun b => (Bool.rec (motive := fun _ => List mI) (Bool.rec (motive := fun _ => List mI) rc_7_2 rc_7_1 (Nat.blt b 2)) rc_7_0 (Nat.blt b 1))
/-- RudeCoupons$Book.hasOccasion(I)Z -/
noncomputable def rc_8_0 : List mI := [h_iload 1, h_if 2 1, h_iload 1, h_aload 0, h_getf 0 8, h_icmp 3 1, h_const 1, h_goto 2]
noncomputable def rc_8_1 : List mI := [h_const 0, h_goto 2]
noncomputable def rc_8_2 : List mI := [h_zreturn 1 0 0]
noncomputable def rc_8 : Nat → List mI := fun b => (Bool.rec (motive := fun _ => List mI) (Bool.rec (motive := fun _ => List mI) rc_8_2 rc_8_1 (Nat.blt b 2)) rc_8_0 (Nat.blt b 1))
/-- RudeCoupons$Book.leftAfter(IIII)I -/
noncomputable def rc_9_0 : List mI := [h_aload 0, h_getf 0 6, h_iload 2, h_ald 0, h_istore 5, h_aload 0, h_getf 0 1, h_iload 1, h_ald 0, h_const 1, h_icmp 1 1, h_iload 5, h_const 2, h_imul, h_istore 5, h_goto 2]
noncomputable def rc_9_1 : List mI := [h_aload 0, h_getf 0 1, h_iload 1, h_ald 0, h_const 2, h_icmp 1 2, h_const 1, h_istore 5, h_iload 3, h_const 2, h_irem, h_if 0 2, h_const 4294967294, h_ireturn 0 0]
noncomputable def rc_9_2 : List mI := [h_iload 4, h_iload 5, h_isub, h_istore 6, h_iload 6, h_aload 0, h_getf 0 1, h_iload 1, h_ald 0, h_const 3, h_icmp 1 3, h_const 1, h_goto 4]
noncomputable def rc_9_3 : List mI := [h_const 0, h_goto 4]
noncomputable def rc_9_4 : List mI := [h_icmp 2 5, h_iload 6, h_goto 6]
noncomputable def rc_9_5 : List mI := [h_const 4294967294, h_goto 6]
noncomputable def rc_9_6 : List mI := [h_ireturn 0 0]
noncomputable def rc_9 : Nat → List mI := fun b => (Bool.rec (motive := fun _ => List mI) (Bool.rec (motive := fun _ => List mI) (Bool.rec (motive := fun _ => List mI) rc_9_6 rc_9_5 (Nat.blt b 6)) (Bool.rec (motive := fun _ => List mI) rc_9_4 rc_9_3 (Nat.blt b 4)) (Nat.blt b 5)) (Bool.rec (motive := fun _ => List mI) (Bool.rec (motive := fun _ => List mI) rc_9_2 rc_9_1 (Nat.blt b 2)) rc_9_0 (Nat.blt b 1)) (Nat.blt b 3))
/-- RudeCoupons$Book.sufferingOf(III)I -/
noncomputable def rc_10_0 : List mI := [h_iload 1, h_iload 2, h_icmp 1 1, h_const 0, h_goto 2]
noncomputable def rc_10_1 : List mI := [h_const 0, h_aload 0, h_getf 0 7, h_iload 3, h_ald 0, h_aload 0, h_getf 0 3, h_iload 1, h_ald 0, h_isub, h_call 144 2 1 0 0 0 0 0, h_goto 2]
noncomputable def rc_10_2 : List mI := [h_ireturn 0 0]
noncomputable def rc_10 : Nat → List mI := fun b => (Bool.rec (motive := fun _ => List mI) (Bool.rec (motive := fun _ => List mI) rc_10_2 rc_10_1 (Nat.blt b 2)) rc_10_0 (Nat.blt b 1))
/-- RudeCoupons$Book.sufferingOfAll(II)I -/
noncomputable def rc_11_0 : List mI := [h_const 0, h_istore 3, h_const 0, h_istore 4, h_goto 1]
noncomputable def rc_11_1 : List mI := [h_iload 4, h_aload 0, h_getf 0 0, h_icmp 3 2, h_iload 3, h_aload 0, h_iload 4, h_iload 1, h_iload 2, h_call 10 4 1 2 0 0 0 0, h_iadd, h_istore 3, h_iinc 4 1, h_goto 1]
noncomputable def rc_11_2 : List mI := [h_iload 3, h_ireturn 0 0]
noncomputable def rc_11 : Nat → List mI := fun b => (Bool.rec (motive := fun _ => List mI) (Bool.rec (motive := fun _ => List mI) rc_11_2 rc_11_1 (Nat.blt b 2)) rc_11_0 (Nat.blt b 1))
/-- RudeCoupons$Letters.<init>()V -/
noncomputable def rc_12_0 : List mI := [h_aload 0, h_oinit, h_aload 0, h_const 200, h_newa 1 1 200, h_putf 1 0 1, h_return 1 200]
noncomputable def rc_12 : Nat → List mI := fun b => rc_12_0
/-- RudeCoupons$Letters.add(C)Z -/
noncomputable def rc_13_0 : List mI := [h_aload 0, h_getf 1 1, h_aload 0, h_getf 1 0, h_alen, h_icmp 2 1, h_const 0, h_zreturn 1 0 0]
noncomputable def rc_13_1 : List mI := [h_aload 0, h_getf 1 0, h_aload 0, h_getf 1 1, h_iload 1, h_ast 1, h_aload 0, h_dup, h_getf 1 1, h_const 1, h_iadd, h_putf 1 1 0, h_const 1, h_zreturn 1 0 0]
noncomputable def rc_13 : Nat → List mI := fun b => (Bool.rec (motive := fun _ => List mI) rc_13_1 rc_13_0 (Nat.blt b 1))
/-- RudeCoupons$Letters.at(I)C -/
noncomputable def rc_14_0 : List mI := [h_iload 1, h_if 2 1, h_iload 1, h_aload 0, h_getf 1 1, h_icmp 3 1, h_aload 0, h_getf 1 0, h_iload 1, h_ald 1, h_goto 2]
noncomputable def rc_14_1 : List mI := [h_const 0, h_goto 2]
noncomputable def rc_14_2 : List mI := [h_zreturn 65535 0 0]
noncomputable def rc_14 : Nat → List mI := fun b => (Bool.rec (motive := fun _ => List mI) (Bool.rec (motive := fun _ => List mI) rc_14_2 rc_14_1 (Nat.blt b 2)) rc_14_0 (Nat.blt b 1))
/-- RudeCoupons$Letters.copy(LRudeCoupons$Letters;)V -/
noncomputable def rc_15_0 : List mI := [h_const 0, h_istore 2, h_goto 1]
noncomputable def rc_15_1 : List mI := [h_iload 2, h_aload 1, h_getf 1 1, h_icmp 3 2, h_aload 0, h_getf 1 0, h_iload 2, h_aload 1, h_getf 1 0, h_iload 2, h_ald 1, h_ast 1, h_iinc 2 1, h_goto 1]
noncomputable def rc_15_2 : List mI := [h_aload 0, h_aload 1, h_getf 1 1, h_putf 1 1 0, h_return 0 0]
noncomputable def rc_15 : Nat → List mI := fun b => (Bool.rec (motive := fun _ => List mI) (Bool.rec (motive := fun _ => List mI) rc_15_2 rc_15_1 (Nat.blt b 2)) rc_15_0 (Nat.blt b 1))
/-- RudeCoupons$Plans.<init>()V -/
noncomputable def rc_16_0 : List mI := [h_aload 0, h_oinit, h_aload 0, h_const 6, h_const 16, h_mna 22 848, h_putf 2 0 1, h_aload 0, h_const 6, h_const 16, h_mna 22 848, h_putf 2 1 1, h_aload 0, h_const 7, h_const 91, h_mna 22 848, h_putf 2 2 1, h_return 22 848]
noncomputable def rc_16 : Nat → List mI := fun b => rc_16_0
/-- RudeCoupons$Plans.make(LRudeCoupons$Book;LRudeCoupons$Standing;I)V -/
noncomputable def rc_17_0 : List mI := [h_const 0, h_istore 4, h_goto 1]
noncomputable def rc_17_1 : List mI := [h_iload 4, h_const 15, h_icmp 4 2, h_aload 0, h_getf 2 0, h_iload 3, h_aald, h_iload 4, h_const 0, h_ast 0, h_aload 0, h_getf 2 1, h_iload 3, h_aald, h_iload 4, h_const 0, h_ast 0, h_iinc 4 1, h_goto 1]
noncomputable def rc_17_2 : List mI := [h_const 0, h_istore 4, h_goto 3]
noncomputable def rc_17_3 : List mI := [h_iload 4, h_aload 1, h_getf 0 8, h_icmp 3 5, h_aload 1, h_getf 0 10, h_iload 4, h_ald 0, h_iload 3, h_icmp 1 4, h_aload 2, h_aload 1, h_iload 4, h_call 44 3 1 8 0 0 0 0, h_if 0 4, h_aload 0, h_aload 1, h_iload 3, h_iload 4, h_call 18 4 0 4 0 0 0 0, h_goto 4]
noncomputable def rc_17_4 : List mI := [h_iinc 4 1, h_goto 3]
noncomputable def rc_17_5 : List mI := [h_return 0 0]
noncomputable def rc_17 : Nat → List mI := fun b => (Bool.rec (motive := fun _ => List mI) (Bool.rec (motive := fun _ => List mI) (Bool.rec (motive := fun _ => List mI) rc_17_5 rc_17_4 (Nat.blt b 5)) rc_17_3 (Nat.blt b 4)) (Bool.rec (motive := fun _ => List mI) (Bool.rec (motive := fun _ => List mI) rc_17_2 rc_17_1 (Nat.blt b 2)) rc_17_0 (Nat.blt b 1)) (Nat.blt b 3))
/-- RudeCoupons$Plans.addOccasion(LRudeCoupons$Book;II)V -/
noncomputable def rc_18_0 : List mI := [h_aload 1, h_getf 0 11, h_iload 3, h_ald 0, h_istore 4, h_const 15, h_istore 5, h_goto 1]
noncomputable def rc_18_1 : List mI := [h_iload 5, h_if 2 3, h_aload 1, h_iload 2, h_iload 4, h_aload 1, h_getf 0 9, h_iload 3, h_ald 0, h_iload 5, h_call 9 5 1 2 0 0 0 0, h_istore 6, h_iload 6, h_if 2 2, h_aload 0, h_getf 2 0, h_iload 2, h_aald, h_iload 6, h_ald 0, h_aload 1, h_getf 0 5, h_iload 4, h_ald 0, h_iadd, h_aload 0, h_getf 2 0, h_iload 2, h_aald, h_iload 5, h_ald 0, h_icmp 5 2, h_aload 0, h_getf 2 0, h_iload 2, h_aald, h_iload 5, h_aload 0, h_getf 2 0, h_iload 2, h_aald, h_iload 6, h_ald 0, h_aload 1, h_getf 0 5, h_iload 4, h_ald 0, h_iadd, h_ast 0, h_aload 0, h_getf 2 1, h_iload 2, h_aald, h_iload 5, h_aload 0, h_getf 2 1, h_iload 2, h_aald, h_iload 6, h_ald 0, h_const 1, h_iload 3, h_ishl, h_ior, h_ast 0, h_goto 2]
noncomputable def rc_18_2 : List mI := [h_iinc 5 4294967295, h_goto 1]
noncomputable def rc_18_3 : List mI := [h_return 0 0]
noncomputable def rc_18 : Nat → List mI := fun b => (Bool.rec (motive := fun _ => List mI) (Bool.rec (motive := fun _ => List mI) rc_18_3 rc_18_2 (Nat.blt b 3)) (Bool.rec (motive := fun _ => List mI) rc_18_1 rc_18_0 (Nat.blt b 1)) (Nat.blt b 2))
/-- RudeCoupons$Plans.gain(II)I -/
noncomputable def rc_19_0 : List mI := [h_iload 2, h_if 2 1, h_iload 2, h_const 15, h_icmp 3 1, h_aload 0, h_getf 2 0, h_iload 1, h_aald, h_iload 2, h_const 1, h_iadd, h_ald 0, h_aload 0, h_getf 2 0, h_iload 1, h_aald, h_iload 2, h_ald 0, h_isub, h_goto 2]
noncomputable def rc_19_1 : List mI := [h_const 0, h_goto 2]
noncomputable def rc_19_2 : List mI := [h_ireturn 0 0]
noncomputable def rc_19 : Nat → List mI := fun b => (Bool.rec (motive := fun _ => List mI) (Bool.rec (motive := fun _ => List mI) rc_19_2 rc_19_1 (Nat.blt b 2)) rc_19_0 (Nat.blt b 1))
/-- RudeCoupons$Plans.makeAll(LRudeCoupons$Book;LRudeCoupons$Standing;)V -/
noncomputable def rc_20_0 : List mI := [h_const 0, h_istore 3, h_goto 1]
noncomputable def rc_20_1 : List mI := [h_iload 3, h_aload 1, h_getf 0 0, h_icmp 3 2, h_aload 0, h_aload 1, h_aload 2, h_iload 3, h_call 17 4 0 4 0 0 0 0, h_iinc 3 1, h_goto 1]
noncomputable def rc_20_2 : List mI := [h_return 0 0]
noncomputable def rc_20 : Nat → List mI := fun b => (Bool.rec (motive := fun _ => List mI) (Bool.rec (motive := fun _ => List mI) rc_20_2 rc_20_1 (Nat.blt b 2)) rc_20_0 (Nat.blt b 1))
/-- RudeCoupons$Plans.partAll(II)V -/
noncomputable def rc_21_0 : List mI := [h_const 0, h_istore 3, h_goto 1]
noncomputable def rc_21_1 : List mI := [h_iload 3, h_iload 2, h_icmp 4 4, h_aload 0, h_getf 2 2, h_iload 1, h_aald, h_iload 3, h_iload 3, h_if 1 2, h_const 0, h_goto 3]
noncomputable def rc_21_2 : List mI := [h_const 4294967292, h_goto 3]
noncomputable def rc_21_3 : List mI := [h_ast 0, h_iinc 3 1, h_goto 1]
noncomputable def rc_21_4 : List mI := [h_iload 1, h_const 1, h_isub, h_istore 3, h_goto 5]
noncomputable def rc_21_5 : List mI := [h_iload 3, h_if 2 8, h_const 0, h_istore 4, h_goto 6]
noncomputable def rc_21_6 : List mI := [h_iload 4, h_iload 2, h_icmp 4 7, h_aload 0, h_getf 2 2, h_iload 3, h_aald, h_iload 4, h_aload 0, h_iload 3, h_iload 4, h_call 22 3 1 4 0 0 0 0, h_ast 0, h_iinc 4 1, h_goto 6]
noncomputable def rc_21_7 : List mI := [h_iinc 3 4294967295, h_goto 5]
noncomputable def rc_21_8 : List mI := [h_return 0 0]
noncomputable def rc_21 : Nat → List mI := fun b => (Bool.rec (motive := fun _ => List mI) (Bool.rec (motive := fun _ => List mI) (Bool.rec (motive := fun _ => List mI) (Bool.rec (motive := fun _ => List mI) rc_21_8 rc_21_7 (Nat.blt b 8)) rc_21_6 (Nat.blt b 7)) (Bool.rec (motive := fun _ => List mI) rc_21_5 rc_21_4 (Nat.blt b 5)) (Nat.blt b 6)) (Bool.rec (motive := fun _ => List mI) (Bool.rec (motive := fun _ => List mI) rc_21_3 rc_21_2 (Nat.blt b 3)) (Bool.rec (motive := fun _ => List mI) rc_21_1 rc_21_0 (Nat.blt b 1)) (Nat.blt b 2)) (Nat.blt b 4))
/-- RudeCoupons$Plans.mostFrom(II)I -/
noncomputable def rc_22_0 : List mI := [h_const 4294967292, h_istore 3, h_const 0, h_istore 4, h_goto 1]
noncomputable def rc_22_1 : List mI := [h_iload 4, h_const 15, h_icmp 4 2, h_iload 4, h_iload 2, h_icmp 4 2, h_iload 3, h_aload 0, h_iload 1, h_iload 4, h_iload 2, h_call 23 4 1 4 0 0 0 0, h_call 144 2 1 0 0 0 0 0, h_istore 3, h_iinc 4 1, h_goto 1]
noncomputable def rc_22_2 : List mI := [h_iload 3, h_ireturn 0 0]
noncomputable def rc_22 : Nat → List mI := fun b => (Bool.rec (motive := fun _ => List mI) (Bool.rec (motive := fun _ => List mI) rc_22_2 rc_22_1 (Nat.blt b 2)) rc_22_0 (Nat.blt b 1))
/-- RudeCoupons$Plans.withShare(III)I -/
noncomputable def rc_23_0 : List mI := [h_aload 0, h_getf 2 2, h_iload 1, h_const 1, h_iadd, h_aald, h_iload 3, h_iload 2, h_isub, h_ald 0, h_istore 4, h_iload 4, h_if 3 1, h_const 4294967292, h_goto 2]
noncomputable def rc_23_1 : List mI := [h_iload 4, h_aload 0, h_getf 2 0, h_iload 1, h_aald, h_iload 2, h_ald 0, h_iadd, h_goto 2]
noncomputable def rc_23_2 : List mI := [h_ireturn 0 0]
noncomputable def rc_23 : Nat → List mI := fun b => (Bool.rec (motive := fun _ => List mI) (Bool.rec (motive := fun _ => List mI) rc_23_2 rc_23_1 (Nat.blt b 2)) rc_23_0 (Nat.blt b 1))
/-- RudeCoupons$Plans.shareOf(II)I -/
noncomputable def rc_24_0 : List mI := [h_iload 2, h_istore 3, h_const 0, h_istore 4, h_goto 1]
noncomputable def rc_24_1 : List mI := [h_iload 4, h_iload 1, h_icmp 3 2, h_iload 3, h_aload 0, h_iload 4, h_iload 3, h_call 25 3 1 4 0 0 0 0, h_isub, h_istore 3, h_iinc 4 1, h_goto 1]
noncomputable def rc_24_2 : List mI := [h_aload 0, h_iload 1, h_iload 3, h_call 25 3 1 4 0 0 0 0, h_ireturn 0 0]
noncomputable def rc_24 : Nat → List mI := fun b => (Bool.rec (motive := fun _ => List mI) (Bool.rec (motive := fun _ => List mI) rc_24_2 rc_24_1 (Nat.blt b 2)) rc_24_0 (Nat.blt b 1))
/-- RudeCoupons$Plans.greatestShare(II)I -/
noncomputable def rc_25_0 : List mI := [h_const 15, h_iload 2, h_call 145 2 1 0 0 0 0 0, h_istore 3, h_goto 1]
noncomputable def rc_25_1 : List mI := [h_iload 3, h_if 5 3, h_aload 0, h_iload 1, h_iload 3, h_iload 2, h_call 23 4 1 4 0 0 0 0, h_aload 0, h_getf 2 2, h_iload 1, h_aald, h_iload 2, h_ald 0, h_icmp 1 2, h_iload 3, h_ireturn 0 0]
noncomputable def rc_25_2 : List mI := [h_iinc 3 4294967295, h_goto 1]
noncomputable def rc_25_3 : List mI := [h_const 0, h_ireturn 0 0]
noncomputable def rc_25 : Nat → List mI := fun b => (Bool.rec (motive := fun _ => List mI) (Bool.rec (motive := fun _ => List mI) rc_25_3 rc_25_2 (Nat.blt b 3)) (Bool.rec (motive := fun _ => List mI) rc_25_1 rc_25_0 (Nat.blt b 1)) (Nat.blt b 2))
/-- RudeCoupons$Reader.<init>()V -/
noncomputable def rc_26_0 : List mI := [h_aload 0, h_oinit, h_aload 0, h_const 3, h_newa 0 1 3, h_putf 3 0 1, h_return 1 3]
noncomputable def rc_26 : Nat → List mI := fun b => rc_26_0
/-- RudeCoupons$Reader.readInto(LRudeCoupons$Book;LRudeCoupons$Letters;)I -/
noncomputable def rc_27_0 : List mI := [h_aload 1, h_call 1 1 0 2 0 0 0 0, h_const 0, h_istore 3, h_const 0, h_istore 4, h_goto 1]
noncomputable def rc_27_1 : List mI := [h_iload 4, h_const 200, h_icmp 3 3, h_iload 3, h_aload 2, h_getf 1 1, h_icmp 3 3, h_aload 0, h_aload 1, h_aload 2, h_iload 3, h_call 28 4 1 5 0 0 0 0, h_istore 5, h_iload 5, h_if 3 2, h_iload 3, h_ireturn 0 0]
noncomputable def rc_27_2 : List mI := [h_iload 5, h_istore 3, h_iinc 4 1, h_goto 1]
noncomputable def rc_27_3 : List mI := [h_const 4294967292, h_ireturn 0 0]
noncomputable def rc_27 : Nat → List mI := fun b => (Bool.rec (motive := fun _ => List mI) (Bool.rec (motive := fun _ => List mI) rc_27_3 rc_27_2 (Nat.blt b 3)) (Bool.rec (motive := fun _ => List mI) rc_27_1 rc_27_0 (Nat.blt b 1)) (Nat.blt b 2))
/-- RudeCoupons$Reader.readItem(LRudeCoupons$Book;LRudeCoupons$Letters;I)I -/
noncomputable def rc_28_0 : List mI := [h_iload 3, h_const 1, h_iadd, h_istore 4, h_const 0, h_istore 5, h_goto 1]
noncomputable def rc_28_1 : List mI := [h_iload 5, h_aload 0, h_getf 3 0, h_alen, h_icmp 3 8, h_aload 2, h_iload 4, h_call 29 2 1 0 0 0 0 0, h_istore 6, h_iload 6, h_if 1 2, h_const 4294967292, h_ireturn 0 0]
noncomputable def rc_28_2 : List mI := [h_aload 0, h_getf 3 0, h_iload 5, h_aload 2, h_iload 4, h_iload 6, h_call 31 3 1 0 0 0 0 0, h_ast 0, h_iload 4, h_iload 6, h_iadd, h_istore 4, h_iload 5, h_aload 0, h_getf 3 0, h_alen, h_const 1, h_isub, h_icmp 1 3, h_const 1, h_goto 4]
noncomputable def rc_28_3 : List mI := [h_const 0, h_goto 4]
noncomputable def rc_28_4 : List mI := [h_istore 7, h_aload 2, h_iload 4, h_call 14 2 1 3 0 0 0 0, h_iload 7, h_if 0 5, h_const 59, h_goto 6]
noncomputable def rc_28_5 : List mI := [h_const 44, h_goto 6]
noncomputable def rc_28_6 : List mI := [h_icmp 0 7, h_const 4294967292, h_ireturn 0 0]
noncomputable def rc_28_7 : List mI := [h_iinc 4 1, h_iinc 5 1, h_goto 1]
noncomputable def rc_28_8 : List mI := [h_aload 1, h_aload 2, h_iload 3, h_call 14 2 1 3 0 0 0 0, h_aload 0, h_getf 3 0, h_const 0, h_ald 0, h_aload 0, h_getf 3 0, h_const 1, h_ald 0, h_aload 0, h_getf 3 0, h_const 2, h_ald 0, h_call 2 5 1 2 0 0 0 0, h_if 0 9, h_iload 4, h_goto 10]
noncomputable def rc_28_9 : List mI := [h_const 4294967292, h_goto 10]
noncomputable def rc_28_10 : List mI := [h_ireturn 0 0]
noncomputable def rc_28 : Nat → List mI := fun b => (Bool.rec (motive := fun _ => List mI) (Bool.rec (motive := fun _ => List mI) (Bool.rec (motive := fun _ => List mI) (Bool.rec (motive := fun _ => List mI) rc_28_10 rc_28_9 (Nat.blt b 10)) rc_28_8 (Nat.blt b 9)) (Bool.rec (motive := fun _ => List mI) (Bool.rec (motive := fun _ => List mI) rc_28_7 rc_28_6 (Nat.blt b 7)) rc_28_5 (Nat.blt b 6)) (Nat.blt b 8)) (Bool.rec (motive := fun _ => List mI) (Bool.rec (motive := fun _ => List mI) (Bool.rec (motive := fun _ => List mI) rc_28_4 rc_28_3 (Nat.blt b 4)) rc_28_2 (Nat.blt b 3)) (Bool.rec (motive := fun _ => List mI) rc_28_1 rc_28_0 (Nat.blt b 1)) (Nat.blt b 2)) (Nat.blt b 5))
/-- RudeCoupons$Reader.figuresAt(LRudeCoupons$Letters;I)I -/
noncomputable def rc_29_0 : List mI := [h_aload 0, h_iload 1, h_call 14 2 1 3 0 0 0 0, h_call 30 1 1 0 0 0 0 0, h_if 1 1, h_const 0, h_ireturn 0 0]
noncomputable def rc_29_1 : List mI := [h_aload 0, h_iload 1, h_const 1, h_iadd, h_call 14 2 1 3 0 0 0 0, h_call 30 1 1 0 0 0 0 0, h_if 0 2, h_const 2, h_goto 3]
noncomputable def rc_29_2 : List mI := [h_const 1, h_goto 3]
noncomputable def rc_29_3 : List mI := [h_ireturn 0 0]
noncomputable def rc_29 : Nat → List mI := fun b => (Bool.rec (motive := fun _ => List mI) (Bool.rec (motive := fun _ => List mI) rc_29_3 rc_29_2 (Nat.blt b 3)) (Bool.rec (motive := fun _ => List mI) rc_29_1 rc_29_0 (Nat.blt b 1)) (Nat.blt b 2))
/-- RudeCoupons$Reader.isFigure(C)Z -/
noncomputable def rc_30_0 : List mI := [h_iload 0, h_const 48, h_icmp 2 1, h_iload 0, h_const 57, h_icmp 4 1, h_const 1, h_goto 2]
noncomputable def rc_30_1 : List mI := [h_const 0, h_goto 2]
noncomputable def rc_30_2 : List mI := [h_zreturn 1 0 0]
noncomputable def rc_30 : Nat → List mI := fun b => (Bool.rec (motive := fun _ => List mI) (Bool.rec (motive := fun _ => List mI) rc_30_2 rc_30_1 (Nat.blt b 2)) rc_30_0 (Nat.blt b 1))
/-- RudeCoupons$Reader.numberAt(LRudeCoupons$Letters;II)I -/
noncomputable def rc_31_0 : List mI := [h_aload 0, h_iload 1, h_call 14 2 1 3 0 0 0 0, h_const 48, h_isub, h_istore 3, h_iload 2, h_const 1, h_icmp 1 1, h_iload 3, h_goto 2]
noncomputable def rc_31_1 : List mI := [h_const 10, h_iload 3, h_imul, h_aload 0, h_iload 1, h_const 1, h_iadd, h_call 14 2 1 3 0 0 0 0, h_iadd, h_const 48, h_isub, h_goto 2]
noncomputable def rc_31_2 : List mI := [h_ireturn 0 0]
noncomputable def rc_31 : Nat → List mI := fun b => (Bool.rec (motive := fun _ => List mI) (Bool.rec (motive := fun _ => List mI) rc_31_2 rc_31_1 (Nat.blt b 2)) rc_31_0 (Nat.blt b 1))
/-- RudeCoupons$Shelf.<init>(I)V -/
noncomputable def rc_32_0 : List mI := [h_aload 0, h_oinit, h_aload 0, h_const 1, h_iload 1, h_call 144 2 1 0 0 0 41 248, h_newq 2 41 248, h_putf 4 0 1, h_const 0, h_istore 2, h_goto 1]
noncomputable def rc_32_1 : List mI := [h_iload 2, h_aload 0, h_getf 4 0, h_alen, h_icmp 3 2, h_aload 0, h_getf 4 0, h_iload 2, h_new 6 [.inl 0, .inl 0, .inr (.inr (.inr (.inr (.inr 0)))), .inr (.inr (.inr (.inr (.inr 0)))), .inr (.inr (.inr (.inr (.inr 0)))), .inr (.inr (.inr (.inr (.inr 0))))] 41 248, h_dup, h_call 39 1 0 1 4 24 41 248, h_aast 2 6, h_iinc 2 1, h_goto 1]
noncomputable def rc_32_2 : List mI := [h_return 41 248]
noncomputable def rc_32 : Nat → List mI := fun b => (Bool.rec (motive := fun _ => List mI) (Bool.rec (motive := fun _ => List mI) rc_32_2 rc_32_1 (Nat.blt b 2)) rc_32_0 (Nat.blt b 1))
/-- RudeCoupons$Shelf.put(LRudeCoupons$Standing;)V -/
noncomputable def rc_33_0 : List mI := [h_aload 0, h_getf 4 1, h_aload 0, h_getf 4 0, h_alen, h_icmp 2 1, h_aload 0, h_call 34 1 0 6 0 0 0 0, h_goto 1]
noncomputable def rc_33_1 : List mI := [h_aload 0, h_getf 4 0, h_aload 0, h_getf 4 1, h_aald, h_aload 1, h_call 42 2 0 8 0 0 0 0, h_aload 0, h_dup, h_getf 4 1, h_const 1, h_iadd, h_putf 4 1 0, h_return 0 0]
noncomputable def rc_33 : Nat → List mI := fun b => (Bool.rec (motive := fun _ => List mI) rc_33_1 rc_33_0 (Nat.blt b 1))
/-- RudeCoupons$Shelf.dropOldest()V -/
noncomputable def rc_34_0 : List mI := [h_aload 0, h_getf 4 0, h_const 0, h_aald, h_astore 1, h_const 1, h_istore 2, h_goto 1]
noncomputable def rc_34_1 : List mI := [h_iload 2, h_aload 0, h_getf 4 0, h_alen, h_icmp 3 2, h_aload 0, h_getf 4 0, h_iload 2, h_const 1, h_isub, h_aload 0, h_getf 4 0, h_iload 2, h_aald, h_aast 2 6, h_iinc 2 1, h_goto 1]
noncomputable def rc_34_2 : List mI := [h_aload 0, h_aload 0, h_getf 4 0, h_alen, h_const 1, h_isub, h_putf 4 1 0, h_aload 0, h_getf 4 0, h_aload 0, h_getf 4 1, h_aload 1, h_aast 2 6, h_return 0 0]
noncomputable def rc_34 : Nat → List mI := fun b => (Bool.rec (motive := fun _ => List mI) (Bool.rec (motive := fun _ => List mI) rc_34_2 rc_34_1 (Nat.blt b 2)) rc_34_0 (Nat.blt b 1))
/-- RudeCoupons$Shelf.takeInto(LRudeCoupons$Standing;)Z -/
noncomputable def rc_35_0 : List mI := [h_aload 0, h_getf 4 1, h_const 1, h_icmp 3 1, h_const 0, h_zreturn 1 0 0]
noncomputable def rc_35_1 : List mI := [h_aload 0, h_dup, h_getf 4 1, h_const 1, h_isub, h_putf 4 1 0, h_aload 1, h_aload 0, h_getf 4 0, h_aload 0, h_getf 4 1, h_aald, h_call 42 2 0 8 0 0 0 0, h_const 1, h_zreturn 1 0 0]
noncomputable def rc_35 : Nat → List mI := fun b => (Bool.rec (motive := fun _ => List mI) rc_35_1 rc_35_0 (Nat.blt b 1))
/-- RudeCoupons$Sightings.<init>()V -/
noncomputable def rc_36_0 : List mI := [h_aload 0, h_oinit, h_aload 0, h_const 8, h_newa 0 3 24, h_putf 5 0 1, h_aload 0, h_const 8, h_newa 0 3 24, h_putf 5 1 1, h_aload 0, h_const 8, h_newa 0 3 24, h_putf 5 2 1, h_return 3 24]
noncomputable def rc_36 : Nat → List mI := fun b => rc_36_0
/-- RudeCoupons$Sightings.add(III)Z -/
noncomputable def rc_37_0 : List mI := [h_aload 0, h_getf 5 3, h_const 8, h_icmp 2 1, h_const 0, h_zreturn 1 0 0]
noncomputable def rc_37_1 : List mI := [h_aload 0, h_getf 5 0, h_aload 0, h_getf 5 3, h_iload 1, h_ast 0, h_aload 0, h_getf 5 1, h_aload 0, h_getf 5 3, h_iload 2, h_ast 0, h_aload 0, h_getf 5 2, h_aload 0, h_getf 5 3, h_iload 3, h_ast 0, h_aload 0, h_dup, h_getf 5 3, h_const 1, h_iadd, h_putf 5 3 0, h_const 1, h_zreturn 1 0 0]
noncomputable def rc_37 : Nat → List mI := fun b => (Bool.rec (motive := fun _ => List mI) rc_37_1 rc_37_0 (Nat.blt b 1))
/-- RudeCoupons$Sightings.couldBe(LRudeCoupons$Book;I)Z -/
noncomputable def rc_38_0 : List mI := [h_aload 1, h_getf 0 2, h_iload 2, h_ald 0, h_istore 3, h_const 0, h_istore 4, h_goto 1]
noncomputable def rc_38_1 : List mI := [h_iload 4, h_aload 0, h_getf 5 3, h_icmp 3 3, h_aload 0, h_getf 5 0, h_iload 4, h_ald 0, h_iload 2, h_icmp 1 2, h_aload 1, h_iload 2, h_aload 0, h_getf 5 1, h_iload 4, h_ald 0, h_aload 0, h_getf 5 2, h_iload 4, h_ald 0, h_iload 3, h_call 9 5 1 2 0 0 0 0, h_istore 3, h_iload 3, h_if 3 2, h_const 0, h_zreturn 1 0 0]
noncomputable def rc_38_2 : List mI := [h_iinc 4 1, h_goto 1]
noncomputable def rc_38_3 : List mI := [h_const 1, h_zreturn 1 0 0]
noncomputable def rc_38 : Nat → List mI := fun b => (Bool.rec (motive := fun _ => List mI) (Bool.rec (motive := fun _ => List mI) rc_38_3 rc_38_2 (Nat.blt b 3)) (Bool.rec (motive := fun _ => List mI) rc_38_1 rc_38_0 (Nat.blt b 1)) (Nat.blt b 2))
/-- RudeCoupons$Standing.<init>()V -/
noncomputable def rc_39_0 : List mI := [h_aload 0, h_oinit, h_aload 0, h_const 6, h_newa 0 4 24, h_putf 6 2 1, h_aload 0, h_const 6, h_newa 0 4 24, h_putf 6 3 1, h_aload 0, h_const 6, h_newa 0 4 24, h_putf 6 4 1, h_aload 0, h_const 6, h_newa 0 4 24, h_putf 6 5 1, h_return 4 24]
noncomputable def rc_39 : Nat → List mI := fun b => rc_39_0
/-- RudeCoupons$Standing.begin(LRudeCoupons$Book;)V -/
noncomputable def rc_40_0 : List mI := [h_aload 0, h_const 0, h_putf 6 0 0, h_aload 0, h_const 0, h_putf 6 1 0, h_const 0, h_istore 2, h_goto 1]
noncomputable def rc_40_1 : List mI := [h_iload 2, h_const 6, h_icmp 3 4, h_aload 0, h_getf 6 2, h_iload 2, h_iload 2, h_aload 1, h_getf 0 0, h_icmp 3 2, h_aload 1, h_getf 0 2, h_iload 2, h_ald 0, h_goto 3]
noncomputable def rc_40_2 : List mI := [h_const 0, h_goto 3]
noncomputable def rc_40_3 : List mI := [h_ast 0, h_aload 0, h_getf 6 3, h_iload 2, h_const 0, h_ast 0, h_aload 0, h_getf 6 4, h_iload 2, h_const 0, h_ast 0, h_aload 0, h_getf 6 5, h_iload 2, h_const 0, h_ast 0, h_iinc 2 1, h_goto 1]
noncomputable def rc_40_4 : List mI := [h_return 0 0]
noncomputable def rc_40 : Nat → List mI := fun b => (Bool.rec (motive := fun _ => List mI) (Bool.rec (motive := fun _ => List mI) (Bool.rec (motive := fun _ => List mI) rc_40_4 rc_40_3 (Nat.blt b 4)) rc_40_2 (Nat.blt b 3)) (Bool.rec (motive := fun _ => List mI) rc_40_1 rc_40_0 (Nat.blt b 1)) (Nat.blt b 2))
/-- RudeCoupons$Standing.isTaken(I)Z -/
noncomputable def rc_41_0 : List mI := [h_aload 0, h_getf 6 1, h_iload 1, h_ishr, h_const 1, h_iand, h_const 1, h_icmp 1 1, h_const 1, h_goto 2]
noncomputable def rc_41_1 : List mI := [h_const 0, h_goto 2]
noncomputable def rc_41_2 : List mI := [h_zreturn 1 0 0]
noncomputable def rc_41 : Nat → List mI := fun b => (Bool.rec (motive := fun _ => List mI) (Bool.rec (motive := fun _ => List mI) rc_41_2 rc_41_1 (Nat.blt b 2)) rc_41_0 (Nat.blt b 1))
/-- RudeCoupons$Standing.copy(LRudeCoupons$Standing;)V -/
noncomputable def rc_42_0 : List mI := [h_aload 0, h_aload 1, h_getf 6 0, h_putf 6 0 0, h_aload 0, h_aload 1, h_getf 6 1, h_putf 6 1 0, h_aload 1, h_getf 6 2, h_aload 0, h_getf 6 2, h_call 59 2 0 0 0 0 0 0, h_aload 1, h_getf 6 3, h_aload 0, h_getf 6 3, h_call 59 2 0 0 0 0 0 0, h_aload 1, h_getf 6 4, h_aload 0, h_getf 6 4, h_call 59 2 0 0 0 0 0 0, h_aload 1, h_getf 6 5, h_aload 0, h_getf 6 5, h_call 59 2 0 0 0 0 0 0, h_return 0 0]
noncomputable def rc_42 : Nat → List mI := fun b => rc_42_0
/-- RudeCoupons$Standing.couponsOfAll()I -/
noncomputable def rc_43_0 : List mI := [h_aload 0, h_getf 6 2, h_call 63 1 1 0 0 0 0 0, h_ireturn 0 0]
noncomputable def rc_43 : Nat → List mI := fun b => rc_43_0
/-- RudeCoupons$Standing.isAhead(LRudeCoupons$Book;I)Z -/
noncomputable def rc_44_0 : List mI := [h_aload 1, h_getf 0 9, h_iload 2, h_ald 0, h_aload 0, h_getf 6 0, h_icmp 2 1, h_aload 0, h_iload 2, h_call 41 2 1 8 0 0 0 0, h_if 1 1, h_const 1, h_goto 2]
noncomputable def rc_44_1 : List mI := [h_const 0, h_goto 2]
noncomputable def rc_44_2 : List mI := [h_zreturn 1 0 0]
noncomputable def rc_44 : Nat → List mI := fun b => (Bool.rec (motive := fun _ => List mI) (Bool.rec (motive := fun _ => List mI) rc_44_2 rc_44_1 (Nat.blt b 2)) rc_44_0 (Nat.blt b 1))
/-- RudeCoupons$Standing.mostOfOne()I -/
noncomputable def rc_45_0 : List mI := [h_const 0, h_istore 1, h_const 0, h_istore 2, h_goto 1]
noncomputable def rc_45_1 : List mI := [h_iload 2, h_aload 0, h_getf 6 2, h_alen, h_icmp 3 2, h_iload 1, h_aload 0, h_getf 6 2, h_iload 2, h_ald 0, h_call 144 2 1 0 0 0 0 0, h_istore 1, h_iinc 2 1, h_goto 1]
noncomputable def rc_45_2 : List mI := [h_iload 1, h_ireturn 0 0]
noncomputable def rc_45 : Nat → List mI := fun b => (Bool.rec (motive := fun _ => List mI) (Bool.rec (motive := fun _ => List mI) rc_45_2 rc_45_1 (Nat.blt b 2)) rc_45_0 (Nat.blt b 1))
/-- RudeCoupons$Standing.sufferedByAll()I -/
noncomputable def rc_46_0 : List mI := [h_aload 0, h_getf 6 4, h_call 63 1 1 0 0 0 0 0, h_ireturn 0 0]
noncomputable def rc_46 : Nat → List mI := fun b => rc_46_0
/-- RudeCoupons.<init>()V -/
noncomputable def rc_47_0 : List mI := [h_aload 0, h_oinit, h_aload 0, h_new 1 [.inr (.inr (.inr (.inr (.inr 0)))), .inl 0] 118 2019, h_dup, h_call 12 1 0 1 1 200 118 2019, h_putf 7 0 1, h_aload 0, h_new 3 [.inr (.inr (.inr (.inr (.inr 0))))] 118 2019, h_dup, h_call 26 1 0 1 1 3 118 2019, h_putf 7 1 1, h_aload 0, h_new 6 [.inl 0, .inl 0, .inr (.inr (.inr (.inr (.inr 0)))), .inr (.inr (.inr (.inr (.inr 0)))), .inr (.inr (.inr (.inr (.inr 0)))), .inr (.inr (.inr (.inr (.inr 0))))] 118 2019, h_dup, h_call 39 1 0 1 4 24 118 2019, h_putf 7 2 1, h_aload 0, h_new 4 [.inr (.inr (.inr (.inr (.inr 0)))), .inl 0] 118 2019, h_dup, h_const 8, h_call 32 2 0 1 41 248 118 2019, h_putf 7 3 1, h_aload 0, h_new 4 [.inr (.inr (.inr (.inr (.inr 0)))), .inl 0] 118 2019, h_dup, h_const 2, h_call 147 2 0 1 11 62 118 2019, h_putf 7 4 1, h_aload 0, h_const 2, h_newq 3 118 2019, h_putf 7 5 1, h_aload 0, h_new 5 [.inr (.inr (.inr (.inr (.inr 0)))), .inr (.inr (.inr (.inr (.inr 0)))), .inr (.inr (.inr (.inr (.inr 0)))), .inl 0] 118 2019, h_dup, h_call 36 1 0 1 3 24 118 2019, h_putf 7 6 1, h_aload 0, h_new 2 [.inr (.inr (.inr (.inr (.inr 0)))), .inr (.inr (.inr (.inr (.inr 0)))), .inr (.inr (.inr (.inr (.inr 0))))] 118 2019, h_dup, h_call 16 1 0 1 22 848 118 2019, h_putf 7 7 1, h_aload 0, h_const 6, h_newa 0 118 2019, h_putf 7 8 1, h_aload 0, h_new 0 [.inl 0, .inr (.inr (.inr (.inr (.inr 0)))), .inr (.inr (.inr (.inr (.inr 0)))), .inr (.inr (.inr (.inr (.inr 0)))), .inl 0, .inr (.inr (.inr (.inr (.inr 0)))), .inr (.inr (.inr (.inr (.inr 0)))), .inr (.inr (.inr (.inr (.inr 0)))), .inl 0, .inr (.inr (.inr (.inr (.inr 0)))), .inr (.inr (.inr (.inr (.inr 0)))), .inr (.inr (.inr (.inr (.inr 0)))), .inr (.inr (.inr (.inr (.inr 0))))] 118 2019, h_dup, h_call 0 1 0 1 10 76 118 2019, h_putf 7 9 1, h_aload 0, h_new 0 [.inl 0, .inr (.inr (.inr (.inr (.inr 0)))), .inr (.inr (.inr (.inr (.inr 0)))), .inr (.inr (.inr (.inr (.inr 0)))), .inl 0, .inr (.inr (.inr (.inr (.inr 0)))), .inr (.inr (.inr (.inr (.inr 0)))), .inr (.inr (.inr (.inr (.inr 0)))), .inl 0, .inr (.inr (.inr (.inr (.inr 0)))), .inr (.inr (.inr (.inr (.inr 0)))), .inr (.inr (.inr (.inr (.inr 0)))), .inr (.inr (.inr (.inr (.inr 0))))] 118 2019, h_dup, h_call 0 1 0 1 10 76 118 2019, h_putf 7 10 1, h_const 0, h_istore 1, h_goto 1]
noncomputable def rc_47_1 : List mI := [h_iload 1, h_aload 0, h_getf 7 5, h_alen, h_icmp 3 2, h_aload 0, h_getf 7 5, h_iload 1, h_new 1 [.inr (.inr (.inr (.inr (.inr 0)))), .inl 0] 118 2019, h_dup, h_call 12 1 0 1 1 200 118 2019, h_aast 3 1, h_iinc 1 1, h_goto 1]
noncomputable def rc_47_2 : List mI := [h_const 0, h_istore 1, h_goto 3]
noncomputable def rc_47_3 : List mI := [h_iload 1, h_str, h_slen 113, h_icmp 3 4, h_aload 0, h_getf 7 0, h_str, h_iload 1, h_char 113 tx_M, h_call 13 2 1 3 0 0 118 2019, h_pop, h_iinc 1 1, h_goto 3]
noncomputable def rc_47_4 : List mI := [h_aload 0, h_call 48 1 1 9 0 0 118 2019, h_pop, h_aload 0, h_getf 7 0, h_const 0, h_putf 1 1 0, h_return 118 2019]
noncomputable def rc_47 : Nat → List mI := fun b => (Bool.rec (motive := fun _ => List mI) (Bool.rec (motive := fun _ => List mI) (Bool.rec (motive := fun _ => List mI) rc_47_4 rc_47_3 (Nat.blt b 4)) rc_47_2 (Nat.blt b 3)) (Bool.rec (motive := fun _ => List mI) rc_47_1 rc_47_0 (Nat.blt b 1)) (Nat.blt b 2))
/-- RudeCoupons.layText()I -/
noncomputable def rc_48_0 : List mI := [h_aload 0, h_getf 7 1, h_aload 0, h_getf 7 10, h_aload 0, h_getf 7 0, h_call 27 3 1 5 0 0 0 0, h_const 4294967292, h_icmp 1 1, h_aload 0, h_getf 7 10, h_getf 0 0, h_if 1 2, h_goto 1]
noncomputable def rc_48_1 : List mI := [h_const 4294967294, h_ireturn 0 0]
noncomputable def rc_48_2 : List mI := [h_aload 0, h_getf 7 10, h_astore 1, h_aload 0, h_aload 0, h_getf 7 9, h_putf 7 10 1, h_aload 0, h_aload 1, h_putf 7 9 1, h_aload 0, h_getf 7 2, h_aload 0, h_getf 7 9, h_call 40 2 0 8 0 0 0 0, h_aload 0, h_getf 7 3, h_const 0, h_putf 4 1 0, h_aload 0, h_getf 7 4, h_const 0, h_putf 4 1 0, h_aload 0, h_getf 7 6, h_const 0, h_putf 5 3 0, h_aload 0, h_getf 7 9, h_getf 0 0, h_ireturn 0 0]
noncomputable def rc_48 : Nat → List mI := fun b => (Bool.rec (motive := fun _ => List mI) (Bool.rec (motive := fun _ => List mI) rc_48_2 rc_48_1 (Nat.blt b 2)) rc_48_0 (Nat.blt b 1))
/-- RudeCoupons.within(III)Z -/
noncomputable def rc_49_0 : List mI := [h_iload 0, h_iload 1, h_icmp 2 1, h_iload 0, h_iload 2, h_icmp 4 1, h_const 1, h_goto 2]
noncomputable def rc_49_1 : List mI := [h_const 0, h_goto 2]
noncomputable def rc_49_2 : List mI := [h_zreturn 1 0 0]
noncomputable def rc_49 : Nat → List mI := fun b => (Bool.rec (motive := fun _ => List mI) (Bool.rec (motive := fun _ => List mI) rc_49_2 rc_49_1 (Nat.blt b 2)) rc_49_0 (Nat.blt b 1))
/-- RudeCoupons.write(I)I -/
noncomputable def rc_50_0 : List mI := [h_iload 1, h_const 32, h_const 126, h_call 49 3 1 0 0 0 0 0, h_if 1 1, h_const 4294967295, h_ireturn 0 0]
noncomputable def rc_50_1 : List mI := [h_aload 0, h_getf 7 0, h_iload 1, h_i2c, h_call 13 2 1 3 0 0 0 0, h_if 0 2, h_aload 0, h_getf 7 0, h_getf 1 1, h_goto 3]
noncomputable def rc_50_2 : List mI := [h_const 4294967293, h_goto 3]
noncomputable def rc_50_3 : List mI := [h_ireturn 0 0]
noncomputable def rc_50 : Nat → List mI := fun b => (Bool.rec (motive := fun _ => List mI) (Bool.rec (motive := fun _ => List mI) rc_50_3 rc_50_2 (Nat.blt b 3)) (Bool.rec (motive := fun _ => List mI) rc_50_1 rc_50_0 (Nat.blt b 1)) (Nat.blt b 2))
/-- RudeCoupons.wipe()I -/
noncomputable def rc_51_0 : List mI := [h_aload 0, h_getf 7 0, h_getf 1 1, h_istore 1, h_aload 0, h_getf 7 0, h_const 0, h_putf 1 1 0, h_iload 1, h_ireturn 0 0]
noncomputable def rc_51 : Nat → List mI := fun b => rc_51_0
/-- RudeCoupons.fault()I -/
noncomputable def rc_52_0 : List mI := [h_aload 0, h_getf 7 1, h_aload 0, h_getf 7 10, h_aload 0, h_getf 7 0, h_call 27 3 1 5 0 0 0 0, h_ireturn 0 0]
noncomputable def rc_52 : Nat → List mI := fun b => rc_52_0
/-- RudeCoupons.lay()I -/
noncomputable def rc_53_0 : List mI := [h_aload 0, h_call 48 1 1 9 0 0 0 0, h_ireturn 0 0]
noncomputable def rc_53 : Nat → List mI := fun b => rc_53_0
/-- RudeCoupons.person(II)I -/
noncomputable def rc_54_0 : List mI := [h_aload 0, h_getf 7 9, h_iload 1, h_call 6 2 1 2 0 0 0 0, h_if 1 1, h_const 4294967295, h_ireturn 0 0]
noncomputable def rc_54_1 : List mI := [h_iload 2, h_table 6 0 [2, 3, 4, 5]]
noncomputable def rc_54_2 : List mI := [h_aload 0, h_getf 7 9, h_getf 0 1, h_iload 1, h_ald 0, h_ireturn 0 0]
noncomputable def rc_54_3 : List mI := [h_aload 0, h_getf 7 2, h_getf 6 2, h_iload 1, h_ald 0, h_ireturn 0 0]
noncomputable def rc_54_4 : List mI := [h_aload 0, h_getf 7 9, h_getf 0 3, h_iload 1, h_ald 0, h_ireturn 0 0]
noncomputable def rc_54_5 : List mI := [h_aload 0, h_getf 7 2, h_getf 6 3, h_iload 1, h_ald 0, h_ireturn 0 0]
noncomputable def rc_54_6 : List mI := [h_const 4294967295, h_ireturn 0 0]
noncomputable def rc_54 : Nat → List mI := fun b => (Bool.rec (motive := fun _ => List mI) (Bool.rec (motive := fun _ => List mI) (Bool.rec (motive := fun _ => List mI) rc_54_6 rc_54_5 (Nat.blt b 6)) (Bool.rec (motive := fun _ => List mI) rc_54_4 rc_54_3 (Nat.blt b 4)) (Nat.blt b 5)) (Bool.rec (motive := fun _ => List mI) (Bool.rec (motive := fun _ => List mI) rc_54_2 rc_54_1 (Nat.blt b 2)) rc_54_0 (Nat.blt b 1)) (Nat.blt b 3))
/-- RudeCoupons.doing(II)I -/
noncomputable def rc_55_0 : List mI := [h_aload 0, h_getf 7 9, h_iload 1, h_call 7 2 1 2 0 0 0 0, h_if 1 1, h_const 4294967295, h_ireturn 0 0]
noncomputable def rc_55_1 : List mI := [h_iload 2, h_table 5 0 [2, 3, 4]]
noncomputable def rc_55_2 : List mI := [h_aload 0, h_getf 7 9, h_getf 0 5, h_iload 1, h_ald 0, h_ireturn 0 0]
noncomputable def rc_55_3 : List mI := [h_aload 0, h_getf 7 9, h_getf 0 6, h_iload 1, h_ald 0, h_ireturn 0 0]
noncomputable def rc_55_4 : List mI := [h_aload 0, h_getf 7 9, h_getf 0 7, h_iload 1, h_ald 0, h_ireturn 0 0]
noncomputable def rc_55_5 : List mI := [h_const 4294967295, h_ireturn 0 0]
noncomputable def rc_55 : Nat → List mI := fun b => (Bool.rec (motive := fun _ => List mI) (Bool.rec (motive := fun _ => List mI) (Bool.rec (motive := fun _ => List mI) rc_55_5 rc_55_4 (Nat.blt b 5)) rc_55_3 (Nat.blt b 4)) (Bool.rec (motive := fun _ => List mI) (Bool.rec (motive := fun _ => List mI) rc_55_2 rc_55_1 (Nat.blt b 2)) rc_55_0 (Nat.blt b 1)) (Nat.blt b 3))
/-- RudeCoupons.occasion(II)I -/
noncomputable def rc_56_0 : List mI := [h_aload 0, h_getf 7 9, h_iload 1, h_call 8 2 1 2 0 0 0 0, h_if 1 1, h_const 4294967295, h_ireturn 0 0]
noncomputable def rc_56_1 : List mI := [h_iload 2, h_table 11 0 [2, 3, 4, 5, 8]]
noncomputable def rc_56_2 : List mI := [h_aload 0, h_getf 7 9, h_getf 0 9, h_iload 1, h_ald 0, h_ireturn 0 0]
noncomputable def rc_56_3 : List mI := [h_aload 0, h_getf 7 9, h_getf 0 10, h_iload 1, h_ald 0, h_ireturn 0 0]
noncomputable def rc_56_4 : List mI := [h_aload 0, h_getf 7 9, h_getf 0 11, h_iload 1, h_ald 0, h_ireturn 0 0]
noncomputable def rc_56_5 : List mI := [h_aload 0, h_getf 7 2, h_iload 1, h_call 41 2 1 8 0 0 0 0, h_if 0 6, h_const 1, h_goto 7]
noncomputable def rc_56_6 : List mI := [h_const 0, h_goto 7]
noncomputable def rc_56_7 : List mI := [h_ireturn 0 0]
noncomputable def rc_56_8 : List mI := [h_aload 0, h_iload 1, h_call 57 2 1 9 0 0 0 0, h_if 2 9, h_const 1, h_goto 10]
noncomputable def rc_56_9 : List mI := [h_const 0, h_goto 10]
noncomputable def rc_56_10 : List mI := [h_ireturn 0 0]
noncomputable def rc_56_11 : List mI := [h_const 4294967295, h_ireturn 0 0]
noncomputable def rc_56 : Nat → List mI := fun b => (Bool.rec (motive := fun _ => List mI) (Bool.rec (motive := fun _ => List mI) (Bool.rec (motive := fun _ => List mI) (Bool.rec (motive := fun _ => List mI) rc_56_11 rc_56_10 (Nat.blt b 11)) rc_56_9 (Nat.blt b 10)) (Bool.rec (motive := fun _ => List mI) (Bool.rec (motive := fun _ => List mI) rc_56_8 rc_56_7 (Nat.blt b 8)) rc_56_6 (Nat.blt b 7)) (Nat.blt b 9)) (Bool.rec (motive := fun _ => List mI) (Bool.rec (motive := fun _ => List mI) (Bool.rec (motive := fun _ => List mI) rc_56_5 rc_56_4 (Nat.blt b 5)) rc_56_3 (Nat.blt b 4)) (Bool.rec (motive := fun _ => List mI) (Bool.rec (motive := fun _ => List mI) rc_56_2 rc_56_1 (Nat.blt b 2)) rc_56_0 (Nat.blt b 1)) (Nat.blt b 3)) (Nat.blt b 6))
/-- RudeCoupons.leftIfTaken(I)I -/
noncomputable def rc_57_0 : List mI := [h_aload 0, h_getf 7 2, h_iload 1, h_call 41 2 1 8 0 0 0 0, h_if 1 1, h_aload 0, h_getf 7 9, h_getf 0 9, h_iload 1, h_ald 0, h_aload 0, h_getf 7 2, h_getf 6 0, h_icmp 0 2, h_goto 1]
noncomputable def rc_57_1 : List mI := [h_const 4294967294, h_ireturn 0 0]
noncomputable def rc_57_2 : List mI := [h_aload 0, h_getf 7 9, h_getf 0 10, h_iload 1, h_ald 0, h_istore 2, h_aload 0, h_getf 7 9, h_iload 2, h_aload 0, h_getf 7 9, h_getf 0 11, h_iload 1, h_ald 0, h_aload 0, h_getf 7 2, h_getf 6 0, h_aload 0, h_getf 7 2, h_getf 6 2, h_iload 2, h_ald 0, h_call 9 5 1 2 0 0 0 0, h_ireturn 0 0]
noncomputable def rc_57 : Nat → List mI := fun b => (Bool.rec (motive := fun _ => List mI) (Bool.rec (motive := fun _ => List mI) rc_57_2 rc_57_1 (Nat.blt b 2)) rc_57_0 (Nat.blt b 1))
/-- RudeCoupons.take(I)I -/
noncomputable def rc_58_0 : List mI := [h_aload 0, h_getf 7 9, h_iload 1, h_call 8 2 1 2 0 0 0 0, h_if 1 1, h_const 4294967295, h_ireturn 0 0]
noncomputable def rc_58_1 : List mI := [h_aload 0, h_iload 1, h_call 57 2 1 9 0 0 0 0, h_istore 2, h_iload 2, h_if 3 2, h_const 4294967294, h_ireturn 0 0]
noncomputable def rc_58_2 : List mI := [h_aload 0, h_getf 7 3, h_aload 0, h_getf 7 2, h_call 33 2 0 6 0 0 0 0, h_aload 0, h_getf 7 9, h_getf 0 10, h_iload 1, h_ald 0, h_istore 3, h_aload 0, h_getf 7 9, h_getf 0 11, h_iload 1, h_ald 0, h_istore 4, h_aload 0, h_getf 7 2, h_dup, h_getf 6 1, h_const 1, h_iload 1, h_ishl, h_ior, h_putf 6 1 0, h_aload 0, h_getf 7 2, h_getf 6 2, h_iload 3, h_iload 2, h_ast 0, h_aload 0, h_getf 7 2, h_getf 6 3, h_iload 3, h_dup2, h_ald 0, h_aload 0, h_getf 7 9, h_getf 0 5, h_iload 4, h_ald 0, h_iadd, h_ast 0, h_const 0, h_istore 5, h_goto 3]
noncomputable def rc_58_3 : List mI := [h_iload 5, h_aload 0, h_getf 7 9, h_getf 0 0, h_icmp 3 4, h_aload 0, h_getf 7 2, h_getf 6 4, h_iload 5, h_dup2, h_ald 0, h_aload 0, h_getf 7 9, h_iload 5, h_iload 3, h_iload 4, h_call 10 4 1 2 0 0 0 0, h_iadd, h_ast 0, h_iinc 5 1, h_goto 3]
noncomputable def rc_58_4 : List mI := [h_iload 2, h_ireturn 0 0]
noncomputable def rc_58 : Nat → List mI := fun b => (Bool.rec (motive := fun _ => List mI) (Bool.rec (motive := fun _ => List mI) (Bool.rec (motive := fun _ => List mI) rc_58_4 rc_58_3 (Nat.blt b 4)) rc_58_2 (Nat.blt b 3)) (Bool.rec (motive := fun _ => List mI) rc_58_1 rc_58_0 (Nat.blt b 1)) (Nat.blt b 2))
/-- RudeCoupons.copyRow([I[I)V -/
noncomputable def rc_59_0 : List mI := [h_const 0, h_istore 2, h_goto 1]
noncomputable def rc_59_1 : List mI := [h_iload 2, h_aload 0, h_alen, h_icmp 3 2, h_iload 2, h_aload 1, h_alen, h_icmp 3 2, h_aload 1, h_iload 2, h_aload 0, h_iload 2, h_ald 0, h_ast 0, h_iinc 2 1, h_goto 1]
noncomputable def rc_59_2 : List mI := [h_return 0 0]
noncomputable def rc_59 : Nat → List mI := fun b => (Bool.rec (motive := fun _ => List mI) (Bool.rec (motive := fun _ => List mI) rc_59_2 rc_59_1 (Nat.blt b 2)) rc_59_0 (Nat.blt b 1))
/-- RudeCoupons.pass(I)I -/
noncomputable def rc_60_0 : List mI := [h_iload 1, h_const 1, h_const 30, h_call 49 3 1 0 0 0 0 0, h_if 1 1, h_const 4294967295, h_ireturn 0 0]
noncomputable def rc_60_1 : List mI := [h_aload 0, h_getf 7 2, h_getf 6 0, h_iload 1, h_iadd, h_const 99, h_icmp 5 2, h_const 4294967294, h_ireturn 0 0]
noncomputable def rc_60_2 : List mI := [h_aload 0, h_getf 7 3, h_aload 0, h_getf 7 2, h_call 33 2 0 6 0 0 0 0, h_aload 0, h_getf 7 2, h_dup, h_getf 6 0, h_iload 1, h_iadd, h_putf 6 0 0, h_aload 0, h_getf 7 2, h_getf 6 0, h_ireturn 0 0]
noncomputable def rc_60 : Nat → List mI := fun b => (Bool.rec (motive := fun _ => List mI) (Bool.rec (motive := fun _ => List mI) rc_60_2 rc_60_1 (Nat.blt b 2)) rc_60_0 (Nat.blt b 1))
/-- RudeCoupons.give(III)I -/
noncomputable def rc_61_0 : List mI := [h_aload 0, h_getf 7 9, h_iload 1, h_call 6 2 1 2 0 0 0 0, h_if 0 1, h_aload 0, h_getf 7 9, h_iload 2, h_call 6 2 1 2 0 0 0 0, h_if 0 1, h_iload 1, h_iload 2, h_icmp 0 1, h_iload 3, h_const 1, h_const 15, h_call 49 3 1 0 0 0 0 0, h_if 1 2, h_goto 1]
noncomputable def rc_61_1 : List mI := [h_const 4294967295, h_ireturn 0 0]
noncomputable def rc_61_2 : List mI := [h_aload 0, h_getf 7 2, h_getf 6 2, h_iload 1, h_ald 0, h_iload 3, h_icmp 3 3, h_const 4294967294, h_ireturn 0 0]
noncomputable def rc_61_3 : List mI := [h_aload 0, h_getf 7 2, h_getf 6 2, h_iload 2, h_ald 0, h_iload 3, h_iadd, h_const 15, h_icmp 5 4, h_const 4294967293, h_ireturn 0 0]
noncomputable def rc_61_4 : List mI := [h_aload 0, h_getf 7 3, h_aload 0, h_getf 7 2, h_call 33 2 0 6 0 0 0 0, h_aload 0, h_getf 7 2, h_getf 6 2, h_iload 1, h_dup2, h_ald 0, h_iload 3, h_isub, h_ast 0, h_aload 0, h_getf 7 2, h_getf 6 2, h_iload 2, h_dup2, h_ald 0, h_iload 3, h_iadd, h_ast 0, h_aload 0, h_getf 7 2, h_getf 6 5, h_iload 1, h_dup2, h_ald 0, h_iload 3, h_isub, h_ast 0, h_aload 0, h_getf 7 2, h_getf 6 5, h_iload 2, h_dup2, h_ald 0, h_iload 3, h_iadd, h_ast 0, h_aload 0, h_getf 7 2, h_getf 6 2, h_iload 1, h_ald 0, h_ireturn 0 0]
noncomputable def rc_61 : Nat → List mI := fun b => (Bool.rec (motive := fun _ => List mI) (Bool.rec (motive := fun _ => List mI) (Bool.rec (motive := fun _ => List mI) rc_61_4 rc_61_3 (Nat.blt b 4)) rc_61_2 (Nat.blt b 3)) (Bool.rec (motive := fun _ => List mI) rc_61_1 rc_61_0 (Nat.blt b 1)) (Nat.blt b 2))
/-- RudeCoupons.ration(I)I -/
noncomputable def rc_62_0 : List mI := [h_iload 1, h_const 0, h_const 15, h_call 49 3 1 0 0 0 0 0, h_if 1 1, h_const 4294967295, h_ireturn 0 0]
noncomputable def rc_62_1 : List mI := [h_aload 0, h_getf 7 3, h_aload 0, h_getf 7 2, h_call 33 2 0 6 0 0 0 0, h_aload 0, h_getf 7 2, h_call 43 1 1 8 0 0 0 0, h_istore 2, h_const 0, h_istore 3, h_goto 2]
noncomputable def rc_62_2 : List mI := [h_iload 3, h_aload 0, h_getf 7 9, h_getf 0 0, h_icmp 3 3, h_aload 0, h_getf 7 2, h_getf 6 2, h_iload 3, h_iload 1, h_ast 0, h_iinc 3 1, h_goto 2]
noncomputable def rc_62_3 : List mI := [h_iload 2, h_ireturn 0 0]
noncomputable def rc_62 : Nat → List mI := fun b => (Bool.rec (motive := fun _ => List mI) (Bool.rec (motive := fun _ => List mI) rc_62_3 rc_62_2 (Nat.blt b 3)) (Bool.rec (motive := fun _ => List mI) rc_62_1 rc_62_0 (Nat.blt b 1)) (Nat.blt b 2))
/-- RudeCoupons.sumOf([I)I -/
noncomputable def rc_63_0 : List mI := [h_const 0, h_istore 1, h_const 0, h_istore 2, h_goto 1]
noncomputable def rc_63_1 : List mI := [h_iload 2, h_aload 0, h_alen, h_icmp 3 2, h_iload 1, h_aload 0, h_iload 2, h_ald 0, h_iadd, h_istore 1, h_iinc 2 1, h_goto 1]
noncomputable def rc_63_2 : List mI := [h_iload 1, h_ireturn 0 0]
noncomputable def rc_63 : Nat → List mI := fun b => (Bool.rec (motive := fun _ => List mI) (Bool.rec (motive := fun _ => List mI) rc_63_2 rc_63_1 (Nat.blt b 2)) rc_63_0 (Nat.blt b 1))
/-- RudeCoupons.undo()I -/
noncomputable def rc_64_0 : List mI := [h_aload 0, h_getf 7 3, h_aload 0, h_getf 7 2, h_call 35 2 1 6 0 0 0 0, h_if 0 1, h_aload 0, h_getf 7 3, h_getf 4 1, h_goto 2]
noncomputable def rc_64_1 : List mI := [h_const 4294967294, h_goto 2]
noncomputable def rc_64_2 : List mI := [h_ireturn 0 0]
noncomputable def rc_64 : Nat → List mI := fun b => (Bool.rec (motive := fun _ => List mI) (Bool.rec (motive := fun _ => List mI) rc_64_2 rc_64_1 (Nat.blt b 2)) rc_64_0 (Nat.blt b 1))
/-- RudeCoupons.best(II)I -/
noncomputable def rc_65_0 : List mI := [h_aload 0, h_getf 7 9, h_iload 1, h_call 6 2 1 2 0 0 0 0, h_if 0 1, h_iload 2, h_const 0, h_const 1, h_call 49 3 1 0 0 0 0 0, h_if 1 2, h_goto 1]
noncomputable def rc_65_1 : List mI := [h_const 4294967295, h_ireturn 0 0]
noncomputable def rc_65_2 : List mI := [h_aload 0, h_getf 7 7, h_aload 0, h_getf 7 9, h_aload 0, h_getf 7 2, h_iload 1, h_call 17 4 0 4 0 0 0 0, h_aload 0, h_getf 7 2, h_getf 6 2, h_iload 1, h_ald 0, h_istore 3, h_iload 2, h_if 1 3, h_aload 0, h_getf 7 7, h_getf 2 0, h_iload 1, h_aald, h_iload 3, h_ald 0, h_goto 4]
noncomputable def rc_65_3 : List mI := [h_aload 0, h_getf 7 7, h_getf 2 1, h_iload 1, h_aald, h_iload 3, h_ald 0, h_goto 4]
noncomputable def rc_65_4 : List mI := [h_ireturn 0 0]
noncomputable def rc_65 : Nat → List mI := fun b => (Bool.rec (motive := fun _ => List mI) (Bool.rec (motive := fun _ => List mI) (Bool.rec (motive := fun _ => List mI) rc_65_4 rc_65_3 (Nat.blt b 4)) rc_65_2 (Nat.blt b 3)) (Bool.rec (motive := fun _ => List mI) rc_65_1 rc_65_0 (Nat.blt b 1)) (Nat.blt b 2))
/-- RudeCoupons.more(I)I -/
noncomputable def rc_66_0 : List mI := [h_aload 0, h_getf 7 9, h_iload 1, h_call 6 2 1 2 0 0 0 0, h_if 1 1, h_const 4294967295, h_ireturn 0 0]
noncomputable def rc_66_1 : List mI := [h_aload 0, h_getf 7 7, h_aload 0, h_getf 7 9, h_aload 0, h_getf 7 2, h_iload 1, h_call 17 4 0 4 0 0 0 0, h_aload 0, h_getf 7 7, h_iload 1, h_aload 0, h_getf 7 2, h_getf 6 2, h_iload 1, h_ald 0, h_call 19 3 1 4 0 0 0 0, h_ireturn 0 0]
noncomputable def rc_66 : Nat → List mI := fun b => (Bool.rec (motive := fun _ => List mI) rc_66_1 rc_66_0 (Nat.blt b 1))
/-- RudeCoupons.giveBest(I)I -/
noncomputable def rc_67_0 : List mI := [h_iload 1, h_const 0, h_const 1, h_call 49 3 1 0 0 0 0 0, h_if 1 1, h_const 4294967295, h_ireturn 0 0]
noncomputable def rc_67_1 : List mI := [h_aload 0, h_getf 7 7, h_aload 0, h_getf 7 9, h_aload 0, h_getf 7 2, h_call 20 3 0 4 0 0 0 0, h_const 0, h_istore 2, h_const 4294967292, h_istore 3, h_const 0, h_istore 4, h_goto 2]
noncomputable def rc_67_2 : List mI := [h_iload 4, h_aload 0, h_getf 7 9, h_getf 0 0, h_icmp 3 6, h_const 0, h_istore 5, h_goto 3]
noncomputable def rc_67_3 : List mI := [h_iload 5, h_aload 0, h_getf 7 9, h_getf 0 0, h_icmp 3 5, h_aload 0, h_iload 4, h_iload 5, h_call 68 3 1 9 0 0 0 0, h_istore 6, h_iload 6, h_iload 2, h_icmp 5 4, h_iload 6, h_istore 2, h_const 8, h_iload 4, h_imul, h_iload 5, h_iadd, h_istore 3, h_goto 4]
noncomputable def rc_67_4 : List mI := [h_iinc 5 1, h_goto 3]
noncomputable def rc_67_5 : List mI := [h_iinc 4 1, h_goto 2]
noncomputable def rc_67_6 : List mI := [h_iload 3, h_const 4294967292, h_icmp 1 7, h_const 4294967292, h_ireturn 0 0]
noncomputable def rc_67_7 : List mI := [h_iload 1, h_if 1 8, h_iload 3, h_goto 9]
noncomputable def rc_67_8 : List mI := [h_iload 2, h_goto 9]
noncomputable def rc_67_9 : List mI := [h_ireturn 0 0]
noncomputable def rc_67 : Nat → List mI := fun b => (Bool.rec (motive := fun _ => List mI) (Bool.rec (motive := fun _ => List mI) (Bool.rec (motive := fun _ => List mI) (Bool.rec (motive := fun _ => List mI) rc_67_9 rc_67_8 (Nat.blt b 9)) rc_67_7 (Nat.blt b 8)) (Bool.rec (motive := fun _ => List mI) rc_67_6 rc_67_5 (Nat.blt b 6)) (Nat.blt b 7)) (Bool.rec (motive := fun _ => List mI) (Bool.rec (motive := fun _ => List mI) (Bool.rec (motive := fun _ => List mI) rc_67_4 rc_67_3 (Nat.blt b 4)) rc_67_2 (Nat.blt b 3)) (Bool.rec (motive := fun _ => List mI) rc_67_1 rc_67_0 (Nat.blt b 1)) (Nat.blt b 2)) (Nat.blt b 5))
/-- RudeCoupons.growthByGiving(II)I -/
noncomputable def rc_68_0 : List mI := [h_iload 1, h_iload 2, h_icmp 0 1, h_aload 0, h_getf 7 2, h_getf 6 2, h_iload 1, h_ald 0, h_const 1, h_icmp 2 1, h_aload 0, h_getf 7 2, h_getf 6 2, h_iload 2, h_ald 0, h_const 15, h_icmp 2 2, h_goto 1]
noncomputable def rc_68_1 : List mI := [h_const 0, h_ireturn 0 0]
noncomputable def rc_68_2 : List mI := [h_aload 0, h_getf 7 7, h_iload 2, h_aload 0, h_getf 7 2, h_getf 6 2, h_iload 2, h_ald 0, h_call 19 3 1 4 0 0 0 0, h_aload 0, h_getf 7 7, h_iload 1, h_aload 0, h_getf 7 2, h_getf 6 2, h_iload 1, h_ald 0, h_const 1, h_isub, h_call 19 3 1 4 0 0 0 0, h_isub, h_ireturn 0 0]
noncomputable def rc_68 : Nat → List mI := fun b => (Bool.rec (motive := fun _ => List mI) (Bool.rec (motive := fun _ => List mI) rc_68_2 rc_68_1 (Nat.blt b 2)) rc_68_0 (Nat.blt b 1))
/-- RudeCoupons.shared(I)I -/
noncomputable def rc_69_0 : List mI := [h_iload 1, h_const 4294967295, h_icmp 0 1, h_aload 0, h_getf 7 9, h_iload 1, h_call 6 2 1 2 0 0 0 0, h_if 1 1, h_const 4294967295, h_ireturn 0 0]
noncomputable def rc_69_1 : List mI := [h_aload 0, h_getf 7 7, h_aload 0, h_getf 7 9, h_aload 0, h_getf 7 2, h_call 20 3 0 4 0 0 0 0, h_aload 0, h_getf 7 2, h_call 43 1 1 8 0 0 0 0, h_istore 2, h_aload 0, h_getf 7 7, h_aload 0, h_getf 7 9, h_getf 0 0, h_iload 2, h_call 21 3 0 4 0 0 0 0, h_iload 1, h_const 4294967295, h_icmp 1 2, h_aload 0, h_getf 7 7, h_getf 2 2, h_const 0, h_aald, h_iload 2, h_ald 0, h_goto 3]
noncomputable def rc_69_2 : List mI := [h_aload 0, h_getf 7 7, h_iload 1, h_iload 2, h_call 24 3 1 4 0 0 0 0, h_goto 3]
noncomputable def rc_69_3 : List mI := [h_ireturn 0 0]
noncomputable def rc_69 : Nat → List mI := fun b => (Bool.rec (motive := fun _ => List mI) (Bool.rec (motive := fun _ => List mI) rc_69_3 rc_69_2 (Nat.blt b 3)) (Bool.rec (motive := fun _ => List mI) rc_69_1 rc_69_0 (Nat.blt b 1)) (Nat.blt b 2))
/-- RudeCoupons.rationFor(I)I -/
noncomputable def rc_70_0 : List mI := [h_iload 1, h_const 0, h_const 999, h_call 49 3 1 0 0 0 0 0, h_if 1 1, h_const 4294967295, h_ireturn 0 0]
noncomputable def rc_70_1 : List mI := [h_aload 0, h_getf 7 7, h_aload 0, h_getf 7 9, h_aload 0, h_getf 7 2, h_call 20 3 0 4 0 0 0 0, h_const 15, h_istore 2, h_goto 2]
noncomputable def rc_70_2 : List mI := [h_iload 2, h_if 5 4, h_aload 0, h_iload 2, h_call 71 2 1 9 0 0 0 0, h_iload 1, h_icmp 4 3, h_iload 2, h_ireturn 0 0]
noncomputable def rc_70_3 : List mI := [h_iinc 2 4294967295, h_goto 2]
noncomputable def rc_70_4 : List mI := [h_const 0, h_ireturn 0 0]
noncomputable def rc_70 : Nat → List mI := fun b => (Bool.rec (motive := fun _ => List mI) (Bool.rec (motive := fun _ => List mI) (Bool.rec (motive := fun _ => List mI) rc_70_4 rc_70_3 (Nat.blt b 4)) rc_70_2 (Nat.blt b 3)) (Bool.rec (motive := fun _ => List mI) rc_70_1 rc_70_0 (Nat.blt b 1)) (Nat.blt b 2))
/-- RudeCoupons.sufferingUnder(I)I -/
noncomputable def rc_71_0 : List mI := [h_const 0, h_istore 2, h_const 0, h_istore 3, h_goto 1]
noncomputable def rc_71_1 : List mI := [h_iload 3, h_aload 0, h_getf 7 9, h_getf 0 8, h_icmp 3 3, h_aload 0, h_getf 7 9, h_getf 0 10, h_iload 3, h_ald 0, h_istore 4, h_aload 0, h_getf 7 7, h_getf 2 1, h_iload 4, h_aald, h_iload 1, h_ald 0, h_iload 3, h_ishr, h_const 1, h_iand, h_const 1, h_icmp 1 2, h_iload 2, h_aload 0, h_getf 7 9, h_iload 4, h_aload 0, h_getf 7 9, h_getf 0 11, h_iload 3, h_ald 0, h_call 11 3 1 2 0 0 0 0, h_iadd, h_istore 2, h_goto 2]
noncomputable def rc_71_2 : List mI := [h_iinc 3 1, h_goto 1]
noncomputable def rc_71_3 : List mI := [h_iload 2, h_ireturn 0 0]
noncomputable def rc_71 : Nat → List mI := fun b => (Bool.rec (motive := fun _ => List mI) (Bool.rec (motive := fun _ => List mI) rc_71_3 rc_71_2 (Nat.blt b 3)) (Bool.rec (motive := fun _ => List mI) rc_71_1 rc_71_0 (Nat.blt b 1)) (Nat.blt b 2))
/-- RudeCoupons.seen(III)I -/
noncomputable def rc_72_0 : List mI := [h_aload 0, h_getf 7 9, h_iload 1, h_call 6 2 1 2 0 0 0 0, h_if 0 1, h_aload 0, h_getf 7 9, h_iload 2, h_call 7 2 1 2 0 0 0 0, h_if 0 1, h_iload 3, h_const 0, h_const 99, h_call 49 3 1 0 0 0 0 0, h_if 1 2, h_goto 1]
noncomputable def rc_72_1 : List mI := [h_const 4294967295, h_ireturn 0 0]
noncomputable def rc_72_2 : List mI := [h_aload 0, h_getf 7 6, h_iload 1, h_iload 2, h_iload 3, h_call 37 4 1 7 0 0 0 0, h_if 0 3, h_aload 0, h_getf 7 6, h_getf 5 3, h_goto 4]
noncomputable def rc_72_3 : List mI := [h_const 4294967293, h_goto 4]
noncomputable def rc_72_4 : List mI := [h_ireturn 0 0]
noncomputable def rc_72 : Nat → List mI := fun b => (Bool.rec (motive := fun _ => List mI) (Bool.rec (motive := fun _ => List mI) (Bool.rec (motive := fun _ => List mI) rc_72_4 rc_72_3 (Nat.blt b 4)) rc_72_2 (Nat.blt b 3)) (Bool.rec (motive := fun _ => List mI) rc_72_1 rc_72_0 (Nat.blt b 1)) (Nat.blt b 2))
/-- RudeCoupons.forget()I -/
noncomputable def rc_73_0 : List mI := [h_aload 0, h_getf 7 6, h_getf 5 3, h_istore 1, h_aload 0, h_getf 7 6, h_const 0, h_putf 5 3 0, h_iload 1, h_ireturn 0 0]
noncomputable def rc_73 : Nat → List mI := fun b => rc_73_0
/-- RudeCoupons.without()I -/
noncomputable def rc_74_0 : List mI := [h_const 0, h_istore 1, h_const 0, h_istore 2, h_goto 1]
noncomputable def rc_74_1 : List mI := [h_iload 2, h_aload 0, h_getf 7 9, h_getf 0 0, h_icmp 3 3, h_aload 0, h_getf 7 6, h_aload 0, h_getf 7 9, h_iload 2, h_call 38 3 1 7 0 0 0 0, h_if 1 2, h_iload 1, h_const 1, h_iload 2, h_ishl, h_ior, h_istore 1, h_goto 2]
noncomputable def rc_74_2 : List mI := [h_iinc 2 1, h_goto 1]
noncomputable def rc_74_3 : List mI := [h_iload 1, h_ireturn 0 0]
noncomputable def rc_74 : Nat → List mI := fun b => (Bool.rec (motive := fun _ => List mI) (Bool.rec (motive := fun _ => List mI) rc_74_3 rc_74_2 (Nat.blt b 3)) (Bool.rec (motive := fun _ => List mI) rc_74_1 rc_74_0 (Nat.blt b 1)) (Nat.blt b 2))
/-- RudeCoupons.letGo(II)I -/
noncomputable def rc_75_0 : List mI := [h_iload 1, h_const 0, h_const 99, h_call 49 3 1 0 0 0 0 0, h_if 0 1, h_iload 2, h_const 0, h_const 1, h_call 49 3 1 0 0 0 0 0, h_if 1 2, h_goto 1]
noncomputable def rc_75_1 : List mI := [h_const 4294967295, h_ireturn 0 0]
noncomputable def rc_75_2 : List mI := [h_aload 0, h_getf 7 2, h_call 43 1 1 8 0 0 0 0, h_istore 3, h_iload 3, h_aload 0, h_getf 7 2, h_call 45 1 1 8 0 0 0 0, h_isub, h_istore 4, h_iload 1, h_iload 3, h_const 2, h_iload 4, h_imul, h_const 1, h_iadd, h_call 145 2 1 0 0 0 0 0, h_call 145 2 1 0 0 0 0 0, h_istore 5, h_iload 2, h_if 1 3, h_iload 5, h_goto 4]
noncomputable def rc_75_3 : List mI := [h_iload 3, h_iload 5, h_isub, h_goto 4]
noncomputable def rc_75_4 : List mI := [h_ireturn 0 0]
noncomputable def rc_75 : Nat → List mI := fun b => (Bool.rec (motive := fun _ => List mI) (Bool.rec (motive := fun _ => List mI) (Bool.rec (motive := fun _ => List mI) rc_75_4 rc_75_3 (Nat.blt b 4)) rc_75_2 (Nat.blt b 3)) (Bool.rec (motive := fun _ => List mI) rc_75_1 rc_75_0 (Nat.blt b 1)) (Nat.blt b 2))
/-- RudeCoupons.keepOne(III)I -/
noncomputable def rc_76_0 : List mI := [h_aload 0, h_getf 7 9, h_iload 1, h_call 6 2 1 2 0 0 0 0, h_if 0 1, h_iload 2, h_const 0, h_const 99, h_call 49 3 1 0 0 0 0 0, h_if 0 1, h_iload 3, h_const 0, h_const 10, h_call 49 3 1 0 0 0 0 0, h_if 1 2, h_goto 1]
noncomputable def rc_76_1 : List mI := [h_const 4294967295, h_ireturn 0 0]
noncomputable def rc_76_2 : List mI := [h_aload 0, h_getf 7 2, h_getf 6 2, h_iload 1, h_ald 0, h_istore 4, h_iload 4, h_const 1, h_icmp 3 3, h_const 4294967294, h_ireturn 0 0]
noncomputable def rc_76_3 : List mI := [h_aload 0, h_getf 7 7, h_aload 0, h_getf 7 9, h_aload 0, h_getf 7 2, h_iload 1, h_call 17 4 0 4 0 0 0 0, h_iload 2, h_iload 3, h_imul, h_const 10, h_aload 0, h_getf 7 7, h_iload 1, h_iload 4, h_const 1, h_isub, h_call 19 3 1 4 0 0 0 0, h_imul, h_icmp 5 4, h_const 1, h_goto 5]
noncomputable def rc_76_4 : List mI := [h_const 0, h_goto 5]
noncomputable def rc_76_5 : List mI := [h_ireturn 0 0]
noncomputable def rc_76 : Nat → List mI := fun b => (Bool.rec (motive := fun _ => List mI) (Bool.rec (motive := fun _ => List mI) (Bool.rec (motive := fun _ => List mI) rc_76_5 rc_76_4 (Nat.blt b 5)) rc_76_3 (Nat.blt b 4)) (Bool.rec (motive := fun _ => List mI) (Bool.rec (motive := fun _ => List mI) rc_76_2 rc_76_1 (Nat.blt b 2)) rc_76_0 (Nat.blt b 1)) (Nat.blt b 3))
/-- RudeCoupons.net(I)I -/
noncomputable def rc_77_0 : List mI := [h_aload 0, h_getf 7 9, h_iload 1, h_call 6 2 1 2 0 0 0 0, h_if 0 1, h_aload 0, h_getf 7 2, h_getf 6 5, h_iload 1, h_ald 0, h_const 10000, h_iadd, h_goto 2]
noncomputable def rc_77_1 : List mI := [h_const 4294967295, h_goto 2]
noncomputable def rc_77_2 : List mI := [h_ireturn 0 0]
noncomputable def rc_77 : Nat → List mI := fun b => (Bool.rec (motive := fun _ => List mI) (Bool.rec (motive := fun _ => List mI) rc_77_2 rc_77_1 (Nat.blt b 2)) rc_77_0 (Nat.blt b 1))
/-- RudeCoupons.heard(I)I -/
noncomputable def rc_78_0 : List mI := [h_iload 1, h_const 4294967295, h_icmp 1 1, h_aload 0, h_getf 7 2, h_call 46 1 1 8 0 0 0 0, h_ireturn 0 0]
noncomputable def rc_78_1 : List mI := [h_aload 0, h_getf 7 9, h_iload 1, h_call 6 2 1 2 0 0 0 0, h_if 0 2, h_aload 0, h_getf 7 2, h_getf 6 4, h_iload 1, h_ald 0, h_goto 3]
noncomputable def rc_78_2 : List mI := [h_const 4294967295, h_goto 3]
noncomputable def rc_78_3 : List mI := [h_ireturn 0 0]
noncomputable def rc_78 : Nat → List mI := fun b => (Bool.rec (motive := fun _ => List mI) (Bool.rec (motive := fun _ => List mI) rc_78_3 rc_78_2 (Nat.blt b 3)) (Bool.rec (motive := fun _ => List mI) rc_78_1 rc_78_0 (Nat.blt b 1)) (Nat.blt b 2))
/-- RudeCoupons.year(II)I -/
noncomputable def rc_79_0 : List mI := [h_iload 1, h_const 0, h_const 9999, h_call 49 3 1 0 0 0 0 0, h_if 0 1, h_iload 2, h_const 0, h_const 1, h_call 49 3 1 0 0 0 0 0, h_if 1 2, h_goto 1]
noncomputable def rc_79_1 : List mI := [h_const 4294967295, h_ireturn 0 0]
noncomputable def rc_79_2 : List mI := [h_aload 0, h_getf 7 2, h_getf 6 2, h_aload 0, h_getf 7 8, h_call 59 2 0 0 0 0 0 0, h_const 0, h_istore 3, h_const 0, h_istore 4, h_goto 3]
noncomputable def rc_79_3 : List mI := [h_iload 4, h_aload 0, h_getf 7 9, h_getf 0 8, h_icmp 3 5, h_aload 0, h_getf 7 9, h_getf 0 12, h_iload 4, h_ald 0, h_istore 5, h_aload 0, h_getf 7 9, h_getf 0 10, h_iload 5, h_ald 0, h_istore 6, h_aload 0, h_getf 7 9, h_iload 6, h_aload 0, h_getf 7 9, h_getf 0 11, h_iload 5, h_ald 0, h_aload 0, h_getf 7 9, h_getf 0 9, h_iload 5, h_ald 0, h_aload 0, h_getf 7 8, h_iload 6, h_ald 0, h_call 9 5 1 2 0 0 0 0, h_istore 7, h_iload 7, h_if 2 4, h_aload 0, h_getf 7 2, h_aload 0, h_getf 7 9, h_iload 5, h_call 44 3 1 8 0 0 0 0, h_if 0 4, h_iload 1, h_iload 5, h_call 80 2 1 0 0 0 0 0, h_if 0 4, h_aload 0, h_getf 7 8, h_iload 6, h_iload 7, h_ast 0, h_iload 3, h_aload 0, h_getf 7 9, h_getf 0 5, h_aload 0, h_getf 7 9, h_getf 0 11, h_iload 5, h_ald 0, h_ald 0, h_iadd, h_istore 3, h_goto 4]
noncomputable def rc_79_4 : List mI := [h_iinc 4 1, h_goto 3]
noncomputable def rc_79_5 : List mI := [h_iload 2, h_if 1 6, h_iload 3, h_goto 7]
noncomputable def rc_79_6 : List mI := [h_aload 0, h_getf 7 8, h_call 63 1 1 0 0 0 0 0, h_goto 7]
noncomputable def rc_79_7 : List mI := [h_ireturn 0 0]
noncomputable def rc_79 : Nat → List mI := fun b => (Bool.rec (motive := fun _ => List mI) (Bool.rec (motive := fun _ => List mI) (Bool.rec (motive := fun _ => List mI) rc_79_7 rc_79_6 (Nat.blt b 7)) (Bool.rec (motive := fun _ => List mI) rc_79_5 rc_79_4 (Nat.blt b 5)) (Nat.blt b 6)) (Bool.rec (motive := fun _ => List mI) (Bool.rec (motive := fun _ => List mI) rc_79_3 rc_79_2 (Nat.blt b 3)) (Bool.rec (motive := fun _ => List mI) rc_79_1 rc_79_0 (Nat.blt b 1)) (Nat.blt b 2)) (Nat.blt b 4))
/-- RudeCoupons.isDrawn(II)Z -/
noncomputable def rc_80_0 : List mI := [h_lconst 7919, h_iload 0, h_i2l, h_lmul, h_lconst 6151, h_iload 1, h_i2l, h_lmul, h_ladd, h_lconst 1, h_ladd, h_lstore 2, h_lload 2, h_lload 2, h_lmul, h_lconst 65521, h_lrem, h_lconst 8, h_ldiv, h_lstore 4, h_lload 4, h_lconst 4, h_lrem, h_lconst 0, h_lcmp, h_if 0 1, h_const 1, h_goto 2]
noncomputable def rc_80_1 : List mI := [h_const 0, h_goto 2]
noncomputable def rc_80_2 : List mI := [h_zreturn 1 0 0]
noncomputable def rc_80 : Nat → List mI := fun b => (Bool.rec (motive := fun _ => List mI) (Bool.rec (motive := fun _ => List mI) rc_80_2 rc_80_1 (Nat.blt b 2)) rc_80_0 (Nat.blt b 1))
/-- RudeCoupons.keep()I -/
noncomputable def rc_81_0 : List mI := [h_aload 0, h_getf 7 4, h_getf 4 1, h_istore 1, h_iload 1, h_const 2, h_icmp 2 1, h_const 4294967293, h_ireturn 0 0]
noncomputable def rc_81_1 : List mI := [h_aload 0, h_getf 7 4, h_aload 0, h_getf 7 2, h_call 33 2 0 6 0 0 0 0, h_aload 0, h_getf 7 5, h_iload 1, h_aald, h_aload 0, h_getf 7 0, h_call 15 2 0 3 0 0 0 0, h_aload 0, h_getf 7 4, h_getf 4 1, h_ireturn 0 0]
noncomputable def rc_81 : Nat → List mI := fun b => (Bool.rec (motive := fun _ => List mI) rc_81_1 rc_81_0 (Nat.blt b 1))
/-- RudeCoupons.back()I -/
noncomputable def rc_82_0 : List mI := [h_aload 0, h_getf 7 4, h_aload 0, h_getf 7 2, h_call 35 2 1 6 0 0 0 0, h_if 1 1, h_const 4294967294, h_ireturn 0 0]
noncomputable def rc_82_1 : List mI := [h_aload 0, h_getf 7 4, h_getf 4 1, h_aload 0, h_getf 7 5, h_alen, h_icmp 3 2, h_aload 0, h_getf 7 0, h_aload 0, h_getf 7 5, h_aload 0, h_getf 7 4, h_getf 4 1, h_aald, h_call 15 2 0 3 0 0 0 0, h_goto 2]
noncomputable def rc_82_2 : List mI := [h_aload 0, h_getf 7 3, h_const 0, h_putf 4 1 0, h_aload 0, h_getf 7 4, h_getf 4 1, h_ireturn 0 0]
noncomputable def rc_82 : Nat → List mI := fun b => (Bool.rec (motive := fun _ => List mI) (Bool.rec (motive := fun _ => List mI) rc_82_2 rc_82_1 (Nat.blt b 2)) rc_82_0 (Nat.blt b 1))
/-- RudeCoupons.count(I)I -/
noncomputable def rc_83_0 : List mI := [h_iload 1, h_table 11 0 [1, 2, 3, 4, 5, 6, 7, 8, 9, 10]]
noncomputable def rc_83_1 : List mI := [h_aload 0, h_getf 7 9, h_getf 0 0, h_ireturn 0 0]
noncomputable def rc_83_2 : List mI := [h_aload 0, h_getf 7 9, h_getf 0 4, h_ireturn 0 0]
noncomputable def rc_83_3 : List mI := [h_aload 0, h_getf 7 9, h_getf 0 8, h_ireturn 0 0]
noncomputable def rc_83_4 : List mI := [h_aload 0, h_getf 7 2, h_getf 6 0, h_ireturn 0 0]
noncomputable def rc_83_5 : List mI := [h_aload 0, h_getf 7 2, h_getf 6 1, h_call 146 1 1 0 0 0 0 0, h_ireturn 0 0]
noncomputable def rc_83_6 : List mI := [h_aload 0, h_getf 7 2, h_call 43 1 1 8 0 0 0 0, h_ireturn 0 0]
noncomputable def rc_83_7 : List mI := [h_aload 0, h_getf 7 6, h_getf 5 3, h_ireturn 0 0]
noncomputable def rc_83_8 : List mI := [h_aload 0, h_getf 7 3, h_getf 4 1, h_ireturn 0 0]
noncomputable def rc_83_9 : List mI := [h_aload 0, h_getf 7 4, h_getf 4 1, h_ireturn 0 0]
noncomputable def rc_83_10 : List mI := [h_aload 0, h_getf 7 0, h_getf 1 1, h_ireturn 0 0]
noncomputable def rc_83_11 : List mI := [h_const 4294967295, h_ireturn 0 0]
noncomputable def rc_83 : Nat → List mI := fun b => (Bool.rec (motive := fun _ => List mI) (Bool.rec (motive := fun _ => List mI) (Bool.rec (motive := fun _ => List mI) (Bool.rec (motive := fun _ => List mI) rc_83_11 rc_83_10 (Nat.blt b 11)) rc_83_9 (Nat.blt b 10)) (Bool.rec (motive := fun _ => List mI) (Bool.rec (motive := fun _ => List mI) rc_83_8 rc_83_7 (Nat.blt b 8)) rc_83_6 (Nat.blt b 7)) (Nat.blt b 9)) (Bool.rec (motive := fun _ => List mI) (Bool.rec (motive := fun _ => List mI) (Bool.rec (motive := fun _ => List mI) rc_83_5 rc_83_4 (Nat.blt b 5)) rc_83_3 (Nat.blt b 4)) (Bool.rec (motive := fun _ => List mI) (Bool.rec (motive := fun _ => List mI) rc_83_2 rc_83_1 (Nat.blt b 2)) rc_83_0 (Nat.blt b 1)) (Nat.blt b 3)) (Nat.blt b 6))
/-- RudeCouponsModel.<init>()V -/
noncomputable def rc_84_0 : List mI := [h_aload 0, h_oinit, h_aload 0, h_const 18, h_newa 0 16 1394, h_putf 8 1 1, h_aload 0, h_const 18, h_newa 0 16 1394, h_putf 8 3 1, h_aload 0, h_const 30, h_newa 0 16 1394, h_putf 8 5 1, h_aload 0, h_const 10, h_newa 0 16 1394, h_putf 8 6 1, h_aload 0, h_const 26, h_newa 0 16 1394, h_putf 8 7 1, h_aload 0, h_const 208, h_newa 0 16 1394, h_putf 8 9 1, h_aload 0, h_const 52, h_newa 0 16 1394, h_putf 8 11 1, h_aload 0, h_const 24, h_newa 0 16 1394, h_putf 8 13 1, h_aload 0, h_const 200, h_newa 0 16 1394, h_putf 8 14 1, h_aload 0, h_const 3, h_newa 0 16 1394, h_putf 8 17 1, h_aload 0, h_const 18, h_newa 0 16 1394, h_putf 8 19 1, h_aload 0, h_const 18, h_newa 0 16 1394, h_putf 8 21 1, h_aload 0, h_const 30, h_newa 0 16 1394, h_putf 8 23 1, h_aload 0, h_const 96, h_newa 0 16 1394, h_putf 8 25 1, h_aload 0, h_const 637, h_newa 0 16 1394, h_putf 8 26 1, h_aload 0, h_const 6, h_newa 0 16 1394, h_putf 8 27 1, h_aload 0, h_call 85 1 0 10 0 0 16 1394, h_aload 0, h_const 0, h_const 4, h_const 3, h_call 86 4 0 10 0 0 16 1394, h_aload 0, h_const 1, h_const 5, h_const 0, h_call 86 4 0 10 0 0 16 1394, h_aload 0, h_const 2, h_const 1, h_const 5, h_call 86 4 0 10 0 0 16 1394, h_aload 0, h_const 3, h_const 3, h_const 2, h_call 86 4 0 10 0 0 16 1394, h_aload 0, h_const 9, h_const 2, h_const 4, h_call 87 4 0 10 0 0 16 1394, h_aload 0, h_const 4, h_const 1, h_const 1, h_call 87 4 0 10 0 0 16 1394, h_aload 0, h_const 14, h_const 3, h_const 6, h_call 87 4 0 10 0 0 16 1394, h_aload 0, h_const 0, h_const 0, h_const 1, h_call 88 4 0 10 0 0 16 1394, h_aload 0, h_const 1, h_const 0, h_const 0, h_call 88 4 0 10 0 0 16 1394, h_aload 0, h_const 1, h_const 1, h_const 1, h_call 88 4 0 10 0 0 16 1394, h_aload 0, h_const 2, h_const 2, h_const 2, h_call 88 4 0 10 0 0 16 1394, h_aload 0, h_const 3, h_const 3, h_const 0, h_call 88 4 0 10 0 0 16 1394, h_aload 0, h_const 4, h_const 0, h_const 2, h_call 88 4 0 10 0 0 16 1394, h_aload 0, h_const 4, h_const 1, h_const 0, h_call 88 4 0 10 0 0 16 1394, h_aload 0, h_const 6, h_const 3, h_const 1, h_call 88 4 0 10 0 0 16 1394, h_aload 0, h_const 7, h_const 0, h_const 1, h_call 88 4 0 10 0 0 16 1394, h_aload 0, h_call 89 1 0 10 0 0 16 1394, h_return 16 1394]
noncomputable def rc_84 : Nat → List mI := fun b => rc_84_0
/-- RudeCouponsModel.clearTold()V -/
noncomputable def rc_85_0 : List mI := [h_aload 0, h_const 0, h_putf 8 18 0, h_aload 0, h_const 0, h_putf 8 20 0, h_aload 0, h_const 0, h_putf 8 22 0, h_return 0 0]
noncomputable def rc_85 : Nat → List mI := fun b => rc_85_0
/-- RudeCouponsModel.tellsPerson(III)V -/
noncomputable def rc_86_0 : List mI := [h_aload 0, h_getf 8 19, h_const 3, h_aload 0, h_getf 8 18, h_imul, h_iload 1, h_ast 0, h_aload 0, h_getf 8 19, h_const 3, h_aload 0, h_getf 8 18, h_imul, h_const 1, h_iadd, h_iload 2, h_ast 0, h_aload 0, h_getf 8 19, h_const 3, h_aload 0, h_getf 8 18, h_imul, h_const 2, h_iadd, h_iload 3, h_ast 0, h_aload 0, h_dup, h_getf 8 18, h_const 1, h_iadd, h_putf 8 18 0, h_return 0 0]
noncomputable def rc_86 : Nat → List mI := fun b => rc_86_0
/-- RudeCouponsModel.tellsDoing(III)V -/
noncomputable def rc_87_0 : List mI := [h_aload 0, h_getf 8 21, h_const 3, h_aload 0, h_getf 8 20, h_imul, h_iload 1, h_ast 0, h_aload 0, h_getf 8 21, h_const 3, h_aload 0, h_getf 8 20, h_imul, h_const 1, h_iadd, h_iload 2, h_ast 0, h_aload 0, h_getf 8 21, h_const 3, h_aload 0, h_getf 8 20, h_imul, h_const 2, h_iadd, h_iload 3, h_ast 0, h_aload 0, h_dup, h_getf 8 20, h_const 1, h_iadd, h_putf 8 20 0, h_return 0 0]
noncomputable def rc_87 : Nat → List mI := fun b => rc_87_0
/-- RudeCouponsModel.tellsOccasion(III)V -/
noncomputable def rc_88_0 : List mI := [h_aload 0, h_getf 8 23, h_const 3, h_aload 0, h_getf 8 22, h_imul, h_iload 1, h_ast 0, h_aload 0, h_getf 8 23, h_const 3, h_aload 0, h_getf 8 22, h_imul, h_const 1, h_iadd, h_iload 2, h_ast 0, h_aload 0, h_getf 8 23, h_const 3, h_aload 0, h_getf 8 22, h_imul, h_const 2, h_iadd, h_iload 3, h_ast 0, h_aload 0, h_dup, h_getf 8 22, h_const 1, h_iadd, h_putf 8 22 0, h_return 0 0]
noncomputable def rc_88 : Nat → List mI := fun b => rc_88_0
/-- RudeCouponsModel.settles()V -/
noncomputable def rc_89_0 : List mI := [h_aload 0, h_aload 0, h_getf 8 18, h_putf 8 0 0, h_aload 0, h_aload 0, h_getf 8 20, h_putf 8 2 0, h_aload 0, h_aload 0, h_getf 8 22, h_putf 8 4 0, h_aload 0, h_getf 8 1, h_const 0, h_aload 0, h_getf 8 19, h_const 0, h_const 18, h_call 90 5 0 0 0 0 0 0, h_aload 0, h_getf 8 3, h_const 0, h_aload 0, h_getf 8 21, h_const 0, h_const 18, h_call 90 5 0 0 0 0 0 0, h_aload 0, h_getf 8 5, h_const 0, h_aload 0, h_getf 8 23, h_const 0, h_const 30, h_call 90 5 0 0 0 0 0 0, h_const 0, h_istore 1, h_goto 1]
noncomputable def rc_89_1 : List mI := [h_iload 1, h_aload 0, h_getf 8 4, h_icmp 3 7, h_const 0, h_istore 2, h_const 0, h_istore 3, h_goto 2]
noncomputable def rc_89_2 : List mI := [h_iload 3, h_aload 0, h_getf 8 4, h_icmp 3 6, h_iload 2, h_aload 0, h_getf 8 5, h_const 3, h_iload 3, h_imul, h_ald 0, h_aload 0, h_getf 8 5, h_const 3, h_iload 1, h_imul, h_ald 0, h_icmp 2 3, h_aload 0, h_getf 8 5, h_const 3, h_iload 3, h_imul, h_ald 0, h_aload 0, h_getf 8 5, h_const 3, h_iload 1, h_imul, h_ald 0, h_icmp 1 4, h_iload 3, h_iload 1, h_icmp 3 4, h_goto 3]
noncomputable def rc_89_3 : List mI := [h_const 1, h_goto 5]
noncomputable def rc_89_4 : List mI := [h_const 0, h_goto 5]
noncomputable def rc_89_5 : List mI := [h_iadd, h_istore 2, h_iinc 3 1, h_goto 2]
noncomputable def rc_89_6 : List mI := [h_aload 0, h_getf 8 6, h_iload 2, h_iload 1, h_ast 0, h_iinc 1 1, h_goto 1]
noncomputable def rc_89_7 : List mI := [h_const 0, h_istore 1, h_goto 8]
noncomputable def rc_89_8 : List mI := [h_iload 1, h_const 26, h_icmp 3 9, h_aload 0, h_getf 8 7, h_iload 1, h_const 0, h_ast 0, h_iinc 1 1, h_goto 8]
noncomputable def rc_89_9 : List mI := [h_const 0, h_istore 1, h_goto 10]
noncomputable def rc_89_10 : List mI := [h_iload 1, h_aload 0, h_getf 8 0, h_icmp 3 11, h_aload 0, h_getf 8 7, h_const 2, h_iload 1, h_iadd, h_aload 0, h_getf 8 1, h_const 3, h_iload 1, h_imul, h_const 1, h_iadd, h_ald 0, h_ast 0, h_aload 0, h_getf 8 7, h_const 20, h_iload 1, h_iadd, h_const 10000, h_ast 0, h_iinc 1 1, h_goto 10]
noncomputable def rc_89_11 : List mI := [h_aload 0, h_const 0, h_putf 8 8 0, h_aload 0, h_const 0, h_putf 8 10 0, h_aload 0, h_const 0, h_putf 8 12 0, h_return 0 0]
noncomputable def rc_89 : Nat → List mI := fun b => (Bool.rec (motive := fun _ => List mI) (Bool.rec (motive := fun _ => List mI) (Bool.rec (motive := fun _ => List mI) (Bool.rec (motive := fun _ => List mI) rc_89_11 rc_89_10 (Nat.blt b 11)) rc_89_9 (Nat.blt b 10)) (Bool.rec (motive := fun _ => List mI) (Bool.rec (motive := fun _ => List mI) rc_89_8 rc_89_7 (Nat.blt b 8)) rc_89_6 (Nat.blt b 7)) (Nat.blt b 9)) (Bool.rec (motive := fun _ => List mI) (Bool.rec (motive := fun _ => List mI) (Bool.rec (motive := fun _ => List mI) rc_89_5 rc_89_4 (Nat.blt b 5)) rc_89_3 (Nat.blt b 4)) (Bool.rec (motive := fun _ => List mI) (Bool.rec (motive := fun _ => List mI) rc_89_2 rc_89_1 (Nat.blt b 2)) rc_89_0 (Nat.blt b 1)) (Nat.blt b 3)) (Nat.blt b 6))
/-- RudeCouponsModel.copies([II[III)V -/
noncomputable def rc_90_0 : List mI := [h_const 0, h_istore 5, h_goto 1]
noncomputable def rc_90_1 : List mI := [h_iload 5, h_iload 4, h_icmp 3 2, h_aload 0, h_iload 1, h_iload 5, h_iadd, h_aload 2, h_iload 3, h_iload 5, h_iadd, h_ald 0, h_ast 0, h_iinc 5 1, h_goto 1]
noncomputable def rc_90_2 : List mI := [h_return 0 0]
noncomputable def rc_90 : Nat → List mI := fun b => (Bool.rec (motive := fun _ => List mI) (Bool.rec (motive := fun _ => List mI) rc_90_2 rc_90_1 (Nat.blt b 2)) rc_90_0 (Nat.blt b 1))
/-- RudeCouponsModel.write(I)I -/
noncomputable def rc_91_0 : List mI := [h_iload 1, h_const 32, h_const 126, h_call 92 3 1 0 0 0 0 0, h_if 1 1, h_const 4294967295, h_ireturn 0 0]
noncomputable def rc_91_1 : List mI := [h_aload 0, h_getf 8 15, h_const 200, h_icmp 1 2, h_const 4294967293, h_ireturn 0 0]
noncomputable def rc_91_2 : List mI := [h_aload 0, h_getf 8 14, h_aload 0, h_getf 8 15, h_iload 1, h_ast 0, h_aload 0, h_dup, h_getf 8 15, h_const 1, h_iadd, h_putf 8 15 0, h_aload 0, h_getf 8 15, h_ireturn 0 0]
noncomputable def rc_91 : Nat → List mI := fun b => (Bool.rec (motive := fun _ => List mI) (Bool.rec (motive := fun _ => List mI) rc_91_2 rc_91_1 (Nat.blt b 2)) rc_91_0 (Nat.blt b 1))
/-- RudeCouponsModel.in(III)Z -/
noncomputable def rc_92_0 : List mI := [h_iload 0, h_iload 1, h_icmp 2 1, h_iload 0, h_iload 2, h_icmp 4 1, h_const 1, h_goto 2]
noncomputable def rc_92_1 : List mI := [h_const 0, h_goto 2]
noncomputable def rc_92_2 : List mI := [h_zreturn 1 0 0]
noncomputable def rc_92 : Nat → List mI := fun b => (Bool.rec (motive := fun _ => List mI) (Bool.rec (motive := fun _ => List mI) rc_92_2 rc_92_1 (Nat.blt b 2)) rc_92_0 (Nat.blt b 1))
/-- RudeCouponsModel.wipe()I -/
noncomputable def rc_93_0 : List mI := [h_aload 0, h_getf 8 15, h_istore 1, h_aload 0, h_const 0, h_putf 8 15 0, h_iload 1, h_ireturn 0 0]
noncomputable def rc_93 : Nat → List mI := fun b => rc_93_0
/-- RudeCouponsModel.fault()I -/
noncomputable def rc_94_0 : List mI := [h_aload 0, h_const 0, h_putf 8 16 0, h_aload 0, h_call 85 1 0 10 0 0 0 0, h_goto 1]
noncomputable def rc_94_1 : List mI := [h_aload 0, h_getf 8 16, h_aload 0, h_getf 8 15, h_icmp 3 3, h_aload 0, h_getf 8 16, h_istore 1, h_aload 0, h_bad, h_if 1 2, h_iload 1, h_ireturn 0 0]
noncomputable def rc_94_2 : List mI := [h_goto 1]
noncomputable def rc_94_3 : List mI := [h_const 4294967292, h_ireturn 0 0]
noncomputable def rc_94 : Nat → List mI := fun b => (Bool.rec (motive := fun _ => List mI) (Bool.rec (motive := fun _ => List mI) rc_94_3 rc_94_2 (Nat.blt b 3)) (Bool.rec (motive := fun _ => List mI) rc_94_1 rc_94_0 (Nat.blt b 1)) (Nat.blt b 2))
/-- RudeCouponsModel.lay()I -/
noncomputable def rc_103_0 : List mI := [h_aload 0, h_call 94 1 1 10 0 0 0 0, h_const 4294967292, h_icmp 1 1, h_aload 0, h_getf 8 18, h_if 1 2, h_goto 1]
noncomputable def rc_103_1 : List mI := [h_const 4294967294, h_ireturn 0 0]
noncomputable def rc_103_2 : List mI := [h_aload 0, h_call 89 1 0 10 0 0 0 0, h_aload 0, h_getf 8 0, h_ireturn 0 0]
noncomputable def rc_103 : Nat → List mI := fun b => (Bool.rec (motive := fun _ => List mI) (Bool.rec (motive := fun _ => List mI) rc_103_2 rc_103_1 (Nat.blt b 2)) rc_103_0 (Nat.blt b 1))
/-- RudeCouponsModel.person(II)I -/
noncomputable def rc_104_0 : List mI := [h_aload 0, h_iload 1, h_call 105 2 1 10 0 0 0 0, h_if 1 1, h_const 4294967295, h_ireturn 0 0]
noncomputable def rc_104_1 : List mI := [h_iload 2, h_table 6 0 [2, 3, 4, 5]]
noncomputable def rc_104_2 : List mI := [h_aload 0, h_getf 8 1, h_const 3, h_iload 1, h_imul, h_ald 0, h_ireturn 0 0]
noncomputable def rc_104_3 : List mI := [h_aload 0, h_getf 8 7, h_const 2, h_iload 1, h_iadd, h_ald 0, h_ireturn 0 0]
noncomputable def rc_104_4 : List mI := [h_aload 0, h_getf 8 1, h_const 3, h_iload 1, h_imul, h_const 2, h_iadd, h_ald 0, h_ireturn 0 0]
noncomputable def rc_104_5 : List mI := [h_aload 0, h_getf 8 7, h_const 8, h_iload 1, h_iadd, h_ald 0, h_ireturn 0 0]
noncomputable def rc_104_6 : List mI := [h_const 4294967295, h_ireturn 0 0]
noncomputable def rc_104 : Nat → List mI := fun b => (Bool.rec (motive := fun _ => List mI) (Bool.rec (motive := fun _ => List mI) (Bool.rec (motive := fun _ => List mI) rc_104_6 rc_104_5 (Nat.blt b 6)) (Bool.rec (motive := fun _ => List mI) rc_104_4 rc_104_3 (Nat.blt b 4)) (Nat.blt b 5)) (Bool.rec (motive := fun _ => List mI) (Bool.rec (motive := fun _ => List mI) rc_104_2 rc_104_1 (Nat.blt b 2)) rc_104_0 (Nat.blt b 1)) (Nat.blt b 3))
/-- RudeCouponsModel.isPerson(I)Z -/
noncomputable def rc_105_0 : List mI := [h_iload 1, h_const 0, h_aload 0, h_getf 8 0, h_const 1, h_isub, h_call 92 3 1 0 0 0 0 0, h_zreturn 1 0 0]
noncomputable def rc_105 : Nat → List mI := fun b => rc_105_0
/-- RudeCouponsModel.doing(II)I -/
noncomputable def rc_106_0 : List mI := [h_iload 1, h_const 0, h_aload 0, h_getf 8 2, h_const 1, h_isub, h_call 92 3 1 0 0 0 0 0, h_if 0 1, h_iload 2, h_const 0, h_const 2, h_call 92 3 1 0 0 0 0 0, h_if 0 1, h_aload 0, h_getf 8 3, h_const 3, h_iload 1, h_imul, h_iload 2, h_iadd, h_ald 0, h_goto 2]
noncomputable def rc_106_1 : List mI := [h_const 4294967295, h_goto 2]
noncomputable def rc_106_2 : List mI := [h_ireturn 0 0]
noncomputable def rc_106 : Nat → List mI := fun b => (Bool.rec (motive := fun _ => List mI) (Bool.rec (motive := fun _ => List mI) rc_106_2 rc_106_1 (Nat.blt b 2)) rc_106_0 (Nat.blt b 1))
/-- RudeCouponsModel.occasion(II)I -/
noncomputable def rc_107_0 : List mI := [h_aload 0, h_iload 1, h_call 108 2 1 10 0 0 0 0, h_if 0 1, h_iload 2, h_const 0, h_const 4, h_call 92 3 1 0 0 0 0 0, h_if 1 2, h_goto 1]
noncomputable def rc_107_1 : List mI := [h_const 4294967295, h_ireturn 0 0]
noncomputable def rc_107_2 : List mI := [h_iload 2, h_const 3, h_icmp 3 3, h_aload 0, h_getf 8 5, h_const 3, h_iload 1, h_imul, h_iload 2, h_iadd, h_ald 0, h_goto 6]
noncomputable def rc_107_3 : List mI := [h_iload 2, h_const 3, h_icmp 1 4, h_aload 0, h_getf 8 7, h_const 1, h_ald 0, h_iload 1, h_ishr, h_const 1, h_iand, h_goto 6]
noncomputable def rc_107_4 : List mI := [h_aload 0, h_iload 1, h_call 109 2 1 10 0 0 0 0, h_if 0 5, h_const 1, h_goto 6]
noncomputable def rc_107_5 : List mI := [h_const 0, h_goto 6]
noncomputable def rc_107_6 : List mI := [h_ireturn 0 0]
noncomputable def rc_107 : Nat → List mI := fun b => (Bool.rec (motive := fun _ => List mI) (Bool.rec (motive := fun _ => List mI) (Bool.rec (motive := fun _ => List mI) rc_107_6 rc_107_5 (Nat.blt b 6)) (Bool.rec (motive := fun _ => List mI) rc_107_4 rc_107_3 (Nat.blt b 4)) (Nat.blt b 5)) (Bool.rec (motive := fun _ => List mI) (Bool.rec (motive := fun _ => List mI) rc_107_2 rc_107_1 (Nat.blt b 2)) rc_107_0 (Nat.blt b 1)) (Nat.blt b 3))
/-- RudeCouponsModel.isOccasion(I)Z -/
noncomputable def rc_108_0 : List mI := [h_iload 1, h_const 0, h_aload 0, h_getf 8 4, h_const 1, h_isub, h_call 92 3 1 0 0 0 0 0, h_zreturn 1 0 0]
noncomputable def rc_108 : Nat → List mI := fun b => rc_108_0
/-- RudeCouponsModel.canBe(I)Z -/
noncomputable def rc_109_0 : List mI := [h_aload 0, h_getf 8 5, h_const 3, h_iload 1, h_imul, h_ald 0, h_aload 0, h_getf 8 7, h_const 0, h_ald 0, h_icmp 1 1, h_aload 0, h_getf 8 7, h_const 1, h_ald 0, h_iload 1, h_call 110 2 1 0 0 0 0 0, h_if 1 1, h_aload 0, h_iload 1, h_aload 0, h_getf 8 7, h_const 2, h_aload 0, h_iload 1, h_call 111 2 1 10 0 0 0 0, h_iadd, h_ald 0, h_call 112 3 1 10 0 0 0 0, h_if 2 1, h_const 1, h_goto 2]
noncomputable def rc_109_1 : List mI := [h_const 0, h_goto 2]
noncomputable def rc_109_2 : List mI := [h_zreturn 1 0 0]
noncomputable def rc_109 : Nat → List mI := fun b => (Bool.rec (motive := fun _ => List mI) (Bool.rec (motive := fun _ => List mI) rc_109_2 rc_109_1 (Nat.blt b 2)) rc_109_0 (Nat.blt b 1))
/-- RudeCouponsModel.has(II)Z -/
noncomputable def rc_110_0 : List mI := [h_iload 0, h_iload 1, h_ishr, h_const 1, h_iand, h_const 1, h_icmp 1 1, h_const 1, h_goto 2]
noncomputable def rc_110_1 : List mI := [h_const 0, h_goto 2]
noncomputable def rc_110_2 : List mI := [h_zreturn 1 0 0]
noncomputable def rc_110 : Nat → List mI := fun b => (Bool.rec (motive := fun _ => List mI) (Bool.rec (motive := fun _ => List mI) rc_110_2 rc_110_1 (Nat.blt b 2)) rc_110_0 (Nat.blt b 1))
/-- RudeCouponsModel.whoOf(I)I -/
noncomputable def rc_111_0 : List mI := [h_aload 0, h_getf 8 5, h_const 3, h_iload 1, h_imul, h_const 1, h_iadd, h_ald 0, h_ireturn 0 0]
noncomputable def rc_111 : Nat → List mI := fun b => rc_111_0
/-- RudeCouponsModel.leavesBy(II)I -/
noncomputable def rc_112_0 : List mI := [h_aload 0, h_aload 0, h_iload 1, h_call 111 2 1 10 0 0 0 0, h_iload 2, h_aload 0, h_getf 8 5, h_const 3, h_iload 1, h_imul, h_const 2, h_iadd, h_ald 0, h_aload 0, h_getf 8 5, h_const 3, h_iload 1, h_imul, h_ald 0, h_call 113 5 1 10 0 0 0 0, h_ireturn 0 0]
noncomputable def rc_112 : Nat → List mI := fun b => rc_112_0
/-- RudeCouponsModel.leaves(IIII)I -/
noncomputable def rc_113_0 : List mI := [h_aload 0, h_getf 8 3, h_const 3, h_iload 3, h_imul, h_const 1, h_iadd, h_ald 0, h_istore 5, h_aload 0, h_getf 8 1, h_const 3, h_iload 1, h_imul, h_ald 0, h_table 8 1 [1, 2, 5]]
noncomputable def rc_113_1 : List mI := [h_iload 2, h_const 2, h_iload 5, h_imul, h_isub, h_ireturn 0 0]
noncomputable def rc_113_2 : List mI := [h_iload 4, h_const 2, h_irem, h_if 1 3, h_iload 2, h_const 1, h_isub, h_goto 4]
noncomputable def rc_113_3 : List mI := [h_const 4294967295, h_goto 4]
noncomputable def rc_113_4 : List mI := [h_ireturn 0 0]
noncomputable def rc_113_5 : List mI := [h_iload 2, h_iload 5, h_isub, h_if 5 6, h_iload 2, h_iload 5, h_isub, h_goto 7]
noncomputable def rc_113_6 : List mI := [h_const 4294967295, h_goto 7]
noncomputable def rc_113_7 : List mI := [h_ireturn 0 0]
noncomputable def rc_113_8 : List mI := [h_iload 2, h_iload 5, h_isub, h_ireturn 0 0]
noncomputable def rc_113 : Nat → List mI := fun b => (Bool.rec (motive := fun _ => List mI) (Bool.rec (motive := fun _ => List mI) (Bool.rec (motive := fun _ => List mI) (Bool.rec (motive := fun _ => List mI) rc_113_8 rc_113_7 (Nat.blt b 8)) rc_113_6 (Nat.blt b 7)) (Bool.rec (motive := fun _ => List mI) rc_113_5 rc_113_4 (Nat.blt b 5)) (Nat.blt b 6)) (Bool.rec (motive := fun _ => List mI) (Bool.rec (motive := fun _ => List mI) rc_113_3 rc_113_2 (Nat.blt b 3)) (Bool.rec (motive := fun _ => List mI) rc_113_1 rc_113_0 (Nat.blt b 1)) (Nat.blt b 2)) (Nat.blt b 4))
/-- RudeCouponsModel.take(I)I -/
noncomputable def rc_114_0 : List mI := [h_aload 0, h_iload 1, h_call 108 2 1 10 0 0 0 0, h_if 1 1, h_const 4294967295, h_ireturn 0 0]
noncomputable def rc_114_1 : List mI := [h_aload 0, h_iload 1, h_call 109 2 1 10 0 0 0 0, h_if 1 2, h_const 4294967294, h_ireturn 0 0]
noncomputable def rc_114_2 : List mI := [h_aload 0, h_call 115 1 0 10 0 0 0 0, h_aload 0, h_iload 1, h_call 111 2 1 10 0 0 0 0, h_istore 2, h_aload 0, h_getf 8 7, h_const 1, h_dup2, h_ald 0, h_const 1, h_iload 1, h_ishl, h_ior, h_ast 0, h_aload 0, h_getf 8 7, h_const 2, h_iload 2, h_iadd, h_aload 0, h_iload 1, h_aload 0, h_getf 8 7, h_const 2, h_iload 2, h_iadd, h_ald 0, h_call 112 3 1 10 0 0 0 0, h_ast 0, h_aload 0, h_getf 8 7, h_const 8, h_iload 2, h_iadd, h_dup2, h_ald 0, h_aload 0, h_iload 1, h_call 116 2 1 10 0 0 0 0, h_iadd, h_ast 0, h_const 0, h_istore 3, h_goto 3]
noncomputable def rc_114_3 : List mI := [h_iload 3, h_aload 0, h_getf 8 0, h_icmp 3 6, h_aload 0, h_getf 8 7, h_const 14, h_iload 3, h_iadd, h_dup2, h_ald 0, h_iload 3, h_iload 2, h_icmp 1 4, h_const 0, h_goto 5]
noncomputable def rc_114_4 : List mI := [h_aload 0, h_iload 3, h_aload 0, h_getf 8 5, h_const 3, h_iload 1, h_imul, h_const 2, h_iadd, h_ald 0, h_call 117 3 1 10 0 0 0 0, h_goto 5]
noncomputable def rc_114_5 : List mI := [h_iadd, h_ast 0, h_iinc 3 1, h_goto 3]
noncomputable def rc_114_6 : List mI := [h_aload 0, h_getf 8 7, h_const 2, h_iload 2, h_iadd, h_ald 0, h_ireturn 0 0]
noncomputable def rc_114 : Nat → List mI := fun b => (Bool.rec (motive := fun _ => List mI) (Bool.rec (motive := fun _ => List mI) (Bool.rec (motive := fun _ => List mI) rc_114_6 rc_114_5 (Nat.blt b 6)) (Bool.rec (motive := fun _ => List mI) rc_114_4 rc_114_3 (Nat.blt b 4)) (Nat.blt b 5)) (Bool.rec (motive := fun _ => List mI) (Bool.rec (motive := fun _ => List mI) rc_114_2 rc_114_1 (Nat.blt b 2)) rc_114_0 (Nat.blt b 1)) (Nat.blt b 3))
/-- RudeCouponsModel.remembers()V -/
noncomputable def rc_115_0 : List mI := [h_aload 0, h_getf 8 8, h_const 8, h_icmp 1 3, h_const 0, h_istore 1, h_goto 1]
noncomputable def rc_115_1 : List mI := [h_iload 1, h_const 182, h_icmp 3 2, h_aload 0, h_getf 8 9, h_iload 1, h_aload 0, h_getf 8 9, h_iload 1, h_const 26, h_iadd, h_ald 0, h_ast 0, h_iinc 1 1, h_goto 1]
noncomputable def rc_115_2 : List mI := [h_aload 0, h_dup, h_getf 8 8, h_const 1, h_isub, h_putf 8 8 0, h_goto 3]
noncomputable def rc_115_3 : List mI := [h_aload 0, h_getf 8 9, h_const 26, h_aload 0, h_getf 8 8, h_imul, h_aload 0, h_getf 8 7, h_const 0, h_const 26, h_call 90 5 0 0 0 0 0 0, h_aload 0, h_dup, h_getf 8 8, h_const 1, h_iadd, h_putf 8 8 0, h_return 0 0]
noncomputable def rc_115 : Nat → List mI := fun b => (Bool.rec (motive := fun _ => List mI) (Bool.rec (motive := fun _ => List mI) rc_115_3 rc_115_2 (Nat.blt b 3)) (Bool.rec (motive := fun _ => List mI) rc_115_1 rc_115_0 (Nat.blt b 1)) (Nat.blt b 2))
/-- RudeCouponsModel.worthOf(I)I -/
noncomputable def rc_116_0 : List mI := [h_aload 0, h_getf 8 3, h_const 3, h_aload 0, h_getf 8 5, h_const 3, h_iload 1, h_imul, h_const 2, h_iadd, h_ald 0, h_imul, h_ald 0, h_ireturn 0 0]
noncomputable def rc_116 : Nat → List mI := fun b => rc_116_0
/-- RudeCouponsModel.suffers(II)I -/
noncomputable def rc_117_0 : List mI := [h_aload 0, h_getf 8 3, h_const 3, h_iload 2, h_imul, h_const 2, h_iadd, h_ald 0, h_aload 0, h_getf 8 1, h_const 3, h_iload 1, h_imul, h_const 2, h_iadd, h_ald 0, h_isub, h_istore 3, h_iload 3, h_if 3 1, h_const 0, h_goto 2]
noncomputable def rc_117_1 : List mI := [h_iload 3, h_goto 2]
noncomputable def rc_117_2 : List mI := [h_ireturn 0 0]
noncomputable def rc_117 : Nat → List mI := fun b => (Bool.rec (motive := fun _ => List mI) (Bool.rec (motive := fun _ => List mI) rc_117_2 rc_117_1 (Nat.blt b 2)) rc_117_0 (Nat.blt b 1))
/-- RudeCouponsModel.pass(I)I -/
noncomputable def rc_118_0 : List mI := [h_iload 1, h_const 1, h_const 30, h_call 92 3 1 0 0 0 0 0, h_if 1 1, h_const 4294967295, h_ireturn 0 0]
noncomputable def rc_118_1 : List mI := [h_aload 0, h_getf 8 7, h_const 0, h_ald 0, h_iload 1, h_iadd, h_const 99, h_icmp 5 2, h_const 4294967294, h_ireturn 0 0]
noncomputable def rc_118_2 : List mI := [h_aload 0, h_call 115 1 0 10 0 0 0 0, h_aload 0, h_getf 8 7, h_const 0, h_dup2, h_ald 0, h_iload 1, h_iadd, h_ast 0, h_aload 0, h_getf 8 7, h_const 0, h_ald 0, h_ireturn 0 0]
noncomputable def rc_118 : Nat → List mI := fun b => (Bool.rec (motive := fun _ => List mI) (Bool.rec (motive := fun _ => List mI) rc_118_2 rc_118_1 (Nat.blt b 2)) rc_118_0 (Nat.blt b 1))
/-- RudeCouponsModel.give(III)I -/
noncomputable def rc_119_0 : List mI := [h_aload 0, h_iload 1, h_call 105 2 1 10 0 0 0 0, h_if 0 1, h_aload 0, h_iload 2, h_call 105 2 1 10 0 0 0 0, h_if 0 1, h_iload 1, h_iload 2, h_icmp 0 1, h_iload 3, h_const 1, h_const 15, h_call 92 3 1 0 0 0 0 0, h_if 1 2, h_goto 1]
noncomputable def rc_119_1 : List mI := [h_const 4294967295, h_ireturn 0 0]
noncomputable def rc_119_2 : List mI := [h_aload 0, h_getf 8 7, h_const 2, h_iload 1, h_iadd, h_ald 0, h_iload 3, h_icmp 3 3, h_const 4294967294, h_ireturn 0 0]
noncomputable def rc_119_3 : List mI := [h_aload 0, h_getf 8 7, h_const 2, h_iload 2, h_iadd, h_ald 0, h_iload 3, h_iadd, h_const 15, h_icmp 5 4, h_const 4294967293, h_ireturn 0 0]
noncomputable def rc_119_4 : List mI := [h_aload 0, h_call 115 1 0 10 0 0 0 0, h_aload 0, h_getf 8 7, h_const 2, h_iload 1, h_iadd, h_dup2, h_ald 0, h_iload 3, h_isub, h_ast 0, h_aload 0, h_getf 8 7, h_const 2, h_iload 2, h_iadd, h_dup2, h_ald 0, h_iload 3, h_iadd, h_ast 0, h_aload 0, h_getf 8 7, h_const 20, h_iload 1, h_iadd, h_dup2, h_ald 0, h_iload 3, h_isub, h_ast 0, h_aload 0, h_getf 8 7, h_const 20, h_iload 2, h_iadd, h_dup2, h_ald 0, h_iload 3, h_iadd, h_ast 0, h_aload 0, h_getf 8 7, h_const 2, h_iload 1, h_iadd, h_ald 0, h_ireturn 0 0]
noncomputable def rc_119 : Nat → List mI := fun b => (Bool.rec (motive := fun _ => List mI) (Bool.rec (motive := fun _ => List mI) (Bool.rec (motive := fun _ => List mI) rc_119_4 rc_119_3 (Nat.blt b 4)) rc_119_2 (Nat.blt b 3)) (Bool.rec (motive := fun _ => List mI) rc_119_1 rc_119_0 (Nat.blt b 1)) (Nat.blt b 2))
/-- RudeCouponsModel.ration(I)I -/
noncomputable def rc_120_0 : List mI := [h_iload 1, h_const 0, h_const 15, h_call 92 3 1 0 0 0 0 0, h_if 1 1, h_const 4294967295, h_ireturn 0 0]
noncomputable def rc_120_1 : List mI := [h_aload 0, h_call 115 1 0 10 0 0 0 0, h_aload 0, h_call 121 1 1 10 0 0 0 0, h_istore 2, h_const 0, h_istore 3, h_goto 2]
noncomputable def rc_120_2 : List mI := [h_iload 3, h_aload 0, h_getf 8 0, h_icmp 3 3, h_aload 0, h_getf 8 7, h_const 2, h_iload 3, h_iadd, h_iload 1, h_ast 0, h_iinc 3 1, h_goto 2]
noncomputable def rc_120_3 : List mI := [h_iload 2, h_ireturn 0 0]
noncomputable def rc_120 : Nat → List mI := fun b => (Bool.rec (motive := fun _ => List mI) (Bool.rec (motive := fun _ => List mI) rc_120_3 rc_120_2 (Nat.blt b 3)) (Bool.rec (motive := fun _ => List mI) rc_120_1 rc_120_0 (Nat.blt b 1)) (Nat.blt b 2))
/-- RudeCouponsModel.allCoupons()I -/
noncomputable def rc_121_0 : List mI := [h_const 0, h_istore 1, h_const 0, h_istore 2, h_goto 1]
noncomputable def rc_121_1 : List mI := [h_iload 2, h_aload 0, h_getf 8 0, h_icmp 3 2, h_iload 1, h_aload 0, h_getf 8 7, h_const 2, h_iload 2, h_iadd, h_ald 0, h_iadd, h_istore 1, h_iinc 2 1, h_goto 1]
noncomputable def rc_121_2 : List mI := [h_iload 1, h_ireturn 0 0]
noncomputable def rc_121 : Nat → List mI := fun b => (Bool.rec (motive := fun _ => List mI) (Bool.rec (motive := fun _ => List mI) rc_121_2 rc_121_1 (Nat.blt b 2)) rc_121_0 (Nat.blt b 1))
/-- RudeCouponsModel.undo()I -/
noncomputable def rc_122_0 : List mI := [h_aload 0, h_getf 8 8, h_if 1 1, h_const 4294967294, h_ireturn 0 0]
noncomputable def rc_122_1 : List mI := [h_aload 0, h_dup, h_getf 8 8, h_const 1, h_isub, h_putf 8 8 0, h_aload 0, h_getf 8 7, h_const 0, h_aload 0, h_getf 8 9, h_const 26, h_aload 0, h_getf 8 8, h_imul, h_const 26, h_call 90 5 0 0 0 0 0 0, h_aload 0, h_getf 8 8, h_ireturn 0 0]
noncomputable def rc_122 : Nat → List mI := fun b => (Bool.rec (motive := fun _ => List mI) rc_122_1 rc_122_0 (Nat.blt b 1))
/-- RudeCouponsModel.best(II)I -/
noncomputable def rc_123_0 : List mI := [h_aload 0, h_iload 1, h_call 105 2 1 10 0 0 0 0, h_if 0 1, h_iload 2, h_const 0, h_const 1, h_call 92 3 1 0 0 0 0 0, h_if 1 2, h_goto 1]
noncomputable def rc_123_1 : List mI := [h_const 4294967295, h_ireturn 0 0]
noncomputable def rc_123_2 : List mI := [h_aload 0, h_iload 1, h_aload 0, h_getf 8 7, h_const 2, h_iload 1, h_iadd, h_ald 0, h_call 124 3 1 10 0 0 0 0, h_istore 3, h_iload 2, h_if 1 3, h_iload 3, h_goto 4]
noncomputable def rc_123_3 : List mI := [h_aload 0, h_getf 8 24, h_goto 4]
noncomputable def rc_123_4 : List mI := [h_ireturn 0 0]
noncomputable def rc_123 : Nat → List mI := fun b => (Bool.rec (motive := fun _ => List mI) (Bool.rec (motive := fun _ => List mI) (Bool.rec (motive := fun _ => List mI) rc_123_4 rc_123_3 (Nat.blt b 4)) rc_123_2 (Nat.blt b 3)) (Bool.rec (motive := fun _ => List mI) rc_123_1 rc_123_0 (Nat.blt b 1)) (Nat.blt b 2))
/-- RudeCouponsModel.bestBy(II)I -/
noncomputable def rc_124_0 : List mI := [h_const 0, h_istore 3, h_const 0, h_istore 4, h_goto 1]
noncomputable def rc_124_1 : List mI := [h_iload 4, h_aload 0, h_getf 8 4, h_icmp 3 4, h_iload 3, h_aload 0, h_iload 4, h_call 111 2 1 10 0 0 0 0, h_iload 1, h_icmp 1 2, h_aload 0, h_getf 8 5, h_const 3, h_iload 4, h_imul, h_ald 0, h_aload 0, h_getf 8 7, h_const 0, h_ald 0, h_icmp 2 2, h_aload 0, h_getf 8 7, h_const 1, h_ald 0, h_iload 4, h_call 110 2 1 0 0 0 0 0, h_if 1 2, h_const 1, h_iload 4, h_ishl, h_goto 3]
noncomputable def rc_124_2 : List mI := [h_const 0, h_goto 3]
noncomputable def rc_124_3 : List mI := [h_ior, h_istore 3, h_iinc 4 1, h_goto 1]
noncomputable def rc_124_4 : List mI := [h_const 4294967295, h_istore 4, h_const 0, h_istore 5, h_goto 5]
noncomputable def rc_124_5 : List mI := [h_iload 5, h_iload 3, h_icmp 4 12, h_iload 5, h_iload 3, h_const 4294967295, h_ixor, h_iand, h_if 1 6, h_aload 0, h_iload 5, h_iload 2, h_call 125 3 1 10 0 0 0 0, h_goto 7]
noncomputable def rc_124_6 : List mI := [h_const 4294967295, h_goto 7]
noncomputable def rc_124_7 : List mI := [h_istore 6, h_aload 0, h_iload 6, h_iload 4, h_icmp 5 8, h_iload 5, h_goto 9]
noncomputable def rc_124_8 : List mI := [h_aload 0, h_getf 8 24, h_goto 9]
noncomputable def rc_124_9 : List mI := [h_putf 8 24 0, h_iload 6, h_iload 4, h_icmp 5 10, h_iload 6, h_goto 11]
noncomputable def rc_124_10 : List mI := [h_iload 4, h_goto 11]
noncomputable def rc_124_11 : List mI := [h_istore 4, h_iinc 5 1, h_goto 5]
noncomputable def rc_124_12 : List mI := [h_iload 4, h_ireturn 0 0]
noncomputable def rc_124 : Nat → List mI := fun b => (Bool.rec (motive := fun _ => List mI) (Bool.rec (motive := fun _ => List mI) (Bool.rec (motive := fun _ => List mI) (Bool.rec (motive := fun _ => List mI) rc_124_12 rc_124_11 (Nat.blt b 12)) (Bool.rec (motive := fun _ => List mI) rc_124_10 rc_124_9 (Nat.blt b 10)) (Nat.blt b 11)) (Bool.rec (motive := fun _ => List mI) (Bool.rec (motive := fun _ => List mI) rc_124_8 rc_124_7 (Nat.blt b 8)) rc_124_6 (Nat.blt b 7)) (Nat.blt b 9)) (Bool.rec (motive := fun _ => List mI) (Bool.rec (motive := fun _ => List mI) (Bool.rec (motive := fun _ => List mI) rc_124_5 rc_124_4 (Nat.blt b 5)) rc_124_3 (Nat.blt b 4)) (Bool.rec (motive := fun _ => List mI) (Bool.rec (motive := fun _ => List mI) rc_124_2 rc_124_1 (Nat.blt b 2)) rc_124_0 (Nat.blt b 1)) (Nat.blt b 3)) (Nat.blt b 6))
/-- RudeCouponsModel.worthBy(II)I -/
noncomputable def rc_125_0 : List mI := [h_iload 2, h_istore 3, h_const 0, h_istore 4, h_const 0, h_istore 5, h_goto 1]
noncomputable def rc_125_1 : List mI := [h_iload 5, h_aload 0, h_getf 8 4, h_icmp 3 5, h_aload 0, h_getf 8 6, h_iload 5, h_ald 0, h_istore 6, h_iload 1, h_iload 6, h_call 110 2 1 0 0 0 0 0, h_if 0 4, h_iload 3, h_if 3 2, h_const 4294967295, h_goto 3]
noncomputable def rc_125_2 : List mI := [h_aload 0, h_iload 6, h_iload 3, h_call 112 3 1 10 0 0 0 0, h_goto 3]
noncomputable def rc_125_3 : List mI := [h_istore 3, h_iload 4, h_aload 0, h_iload 6, h_call 116 2 1 10 0 0 0 0, h_iadd, h_istore 4, h_goto 4]
noncomputable def rc_125_4 : List mI := [h_iinc 5 1, h_goto 1]
noncomputable def rc_125_5 : List mI := [h_iload 3, h_if 3 6, h_const 4294967295, h_goto 7]
noncomputable def rc_125_6 : List mI := [h_iload 4, h_goto 7]
noncomputable def rc_125_7 : List mI := [h_ireturn 0 0]
noncomputable def rc_125 : Nat → List mI := fun b => (Bool.rec (motive := fun _ => List mI) (Bool.rec (motive := fun _ => List mI) (Bool.rec (motive := fun _ => List mI) rc_125_7 rc_125_6 (Nat.blt b 7)) (Bool.rec (motive := fun _ => List mI) rc_125_5 rc_125_4 (Nat.blt b 5)) (Nat.blt b 6)) (Bool.rec (motive := fun _ => List mI) (Bool.rec (motive := fun _ => List mI) rc_125_3 rc_125_2 (Nat.blt b 3)) (Bool.rec (motive := fun _ => List mI) rc_125_1 rc_125_0 (Nat.blt b 1)) (Nat.blt b 2)) (Nat.blt b 4))
/-- RudeCouponsModel.more(I)I -/
noncomputable def rc_126_0 : List mI := [h_aload 0, h_iload 1, h_call 105 2 1 10 0 0 0 0, h_if 1 1, h_const 4294967295, h_ireturn 0 0]
noncomputable def rc_126_1 : List mI := [h_aload 0, h_getf 8 7, h_const 2, h_iload 1, h_iadd, h_ald 0, h_istore 2, h_iload 2, h_const 15, h_icmp 1 2, h_const 0, h_goto 3]
noncomputable def rc_126_2 : List mI := [h_aload 0, h_iload 1, h_iload 2, h_const 1, h_iadd, h_call 124 3 1 10 0 0 0 0, h_aload 0, h_iload 1, h_iload 2, h_call 124 3 1 10 0 0 0 0, h_isub, h_goto 3]
noncomputable def rc_126_3 : List mI := [h_ireturn 0 0]
noncomputable def rc_126 : Nat → List mI := fun b => (Bool.rec (motive := fun _ => List mI) (Bool.rec (motive := fun _ => List mI) rc_126_3 rc_126_2 (Nat.blt b 3)) (Bool.rec (motive := fun _ => List mI) rc_126_1 rc_126_0 (Nat.blt b 1)) (Nat.blt b 2))
/-- RudeCouponsModel.giveBest(I)I -/
noncomputable def rc_127_0 : List mI := [h_iload 1, h_const 0, h_const 1, h_call 92 3 1 0 0 0 0 0, h_if 1 1, h_const 4294967295, h_ireturn 0 0]
noncomputable def rc_127_1 : List mI := [h_const 4294967292, h_istore 2, h_const 4294967292, h_istore 3, h_const 0, h_istore 4, h_goto 2]
noncomputable def rc_127_2 : List mI := [h_iload 4, h_aload 0, h_getf 8 0, h_icmp 3 12, h_const 0, h_istore 5, h_goto 3]
noncomputable def rc_127_3 : List mI := [h_iload 5, h_aload 0, h_getf 8 0, h_icmp 3 11, h_iload 4, h_iload 5, h_icmp 0 10, h_aload 0, h_getf 8 7, h_const 2, h_iload 4, h_iadd, h_ald 0, h_if 5 10, h_aload 0, h_getf 8 7, h_const 2, h_iload 5, h_iadd, h_ald 0, h_const 15, h_icmp 3 10, h_aload 0, h_iload 4, h_aload 0, h_getf 8 7, h_const 2, h_iload 4, h_iadd, h_ald 0, h_call 124 3 1 10 0 0 0 0, h_aload 0, h_iload 5, h_aload 0, h_getf 8 7, h_const 2, h_iload 5, h_iadd, h_ald 0, h_call 124 3 1 10 0 0 0 0, h_iadd, h_istore 6, h_aload 0, h_iload 4, h_aload 0, h_getf 8 7, h_const 2, h_iload 4, h_iadd, h_ald 0, h_const 1, h_isub, h_call 124 3 1 10 0 0 0 0, h_aload 0, h_iload 5, h_aload 0, h_getf 8 7, h_const 2, h_iload 5, h_iadd, h_ald 0, h_const 1, h_iadd, h_call 124 3 1 10 0 0 0 0, h_iadd, h_istore 7, h_iload 7, h_iload 6, h_icmp 5 4, h_iload 7, h_iload 6, h_isub, h_iload 3, h_icmp 5 4, h_const 1, h_goto 5]
noncomputable def rc_127_4 : List mI := [h_const 0, h_goto 5]
noncomputable def rc_127_5 : List mI := [h_istore 8, h_iload 8, h_if 0 6, h_const 8, h_iload 4, h_imul, h_iload 5, h_iadd, h_goto 7]
noncomputable def rc_127_6 : List mI := [h_iload 2, h_goto 7]
noncomputable def rc_127_7 : List mI := [h_istore 2, h_iload 8, h_if 0 8, h_iload 7, h_iload 6, h_isub, h_goto 9]
noncomputable def rc_127_8 : List mI := [h_iload 3, h_goto 9]
noncomputable def rc_127_9 : List mI := [h_istore 3, h_goto 10]
noncomputable def rc_127_10 : List mI := [h_iinc 5 1, h_goto 3]
noncomputable def rc_127_11 : List mI := [h_iinc 4 1, h_goto 2]
noncomputable def rc_127_12 : List mI := [h_iload 1, h_if 1 13, h_iload 2, h_goto 14]
noncomputable def rc_127_13 : List mI := [h_iload 3, h_goto 14]
noncomputable def rc_127_14 : List mI := [h_ireturn 0 0]
noncomputable def rc_127 : Nat → List mI := fun b => (Bool.rec (motive := fun _ => List mI) (Bool.rec (motive := fun _ => List mI) (Bool.rec (motive := fun _ => List mI) (Bool.rec (motive := fun _ => List mI) rc_127_14 rc_127_13 (Nat.blt b 14)) (Bool.rec (motive := fun _ => List mI) rc_127_12 rc_127_11 (Nat.blt b 12)) (Nat.blt b 13)) (Bool.rec (motive := fun _ => List mI) (Bool.rec (motive := fun _ => List mI) rc_127_10 rc_127_9 (Nat.blt b 10)) (Bool.rec (motive := fun _ => List mI) rc_127_8 rc_127_7 (Nat.blt b 8)) (Nat.blt b 9)) (Nat.blt b 11)) (Bool.rec (motive := fun _ => List mI) (Bool.rec (motive := fun _ => List mI) (Bool.rec (motive := fun _ => List mI) rc_127_6 rc_127_5 (Nat.blt b 6)) (Bool.rec (motive := fun _ => List mI) rc_127_4 rc_127_3 (Nat.blt b 4)) (Nat.blt b 5)) (Bool.rec (motive := fun _ => List mI) (Bool.rec (motive := fun _ => List mI) rc_127_2 rc_127_1 (Nat.blt b 2)) rc_127_0 (Nat.blt b 1)) (Nat.blt b 3)) (Nat.blt b 7))
/-- RudeCouponsModel.shared(I)I -/
noncomputable def rc_128_0 : List mI := [h_iload 1, h_const 4294967295, h_aload 0, h_getf 8 0, h_const 1, h_isub, h_call 92 3 1 0 0 0 0 0, h_if 1 1, h_const 4294967295, h_ireturn 0 0]
noncomputable def rc_128_1 : List mI := [h_aload 0, h_call 129 1 0 10 0 0 0 0, h_aload 0, h_call 121 1 1 10 0 0 0 0, h_istore 2, h_iload 1, h_if 3 2, h_aload 0, h_getf 8 26, h_iload 2, h_ald 0, h_ireturn 0 0]
noncomputable def rc_128_2 : List mI := [h_const 0, h_istore 3, h_const 0, h_istore 4, h_goto 3]
noncomputable def rc_128_3 : List mI := [h_iload 4, h_iload 1, h_icmp 4 9, h_iload 2, h_const 15, h_icmp 3 4, h_iload 2, h_goto 5]
noncomputable def rc_128_4 : List mI := [h_const 15, h_goto 5]
noncomputable def rc_128_5 : List mI := [h_istore 3, h_goto 6]
noncomputable def rc_128_6 : List mI := [h_aload 0, h_getf 8 26, h_const 91, h_iload 4, h_const 1, h_iadd, h_imul, h_iload 2, h_iadd, h_iload 3, h_isub, h_ald 0, h_if 2 7, h_aload 0, h_getf 8 25, h_const 16, h_iload 4, h_imul, h_iload 3, h_iadd, h_ald 0, h_aload 0, h_getf 8 26, h_const 91, h_iload 4, h_const 1, h_iadd, h_imul, h_iload 2, h_iadd, h_iload 3, h_isub, h_ald 0, h_iadd, h_aload 0, h_getf 8 26, h_const 91, h_iload 4, h_imul, h_iload 2, h_iadd, h_ald 0, h_icmp 0 8, h_goto 7]
noncomputable def rc_128_7 : List mI := [h_iinc 3 4294967295, h_goto 6]
noncomputable def rc_128_8 : List mI := [h_iload 2, h_iload 3, h_isub, h_istore 2, h_iinc 4 1, h_goto 3]
noncomputable def rc_128_9 : List mI := [h_iload 3, h_ireturn 0 0]
noncomputable def rc_128 : Nat → List mI := fun b => (Bool.rec (motive := fun _ => List mI) (Bool.rec (motive := fun _ => List mI) (Bool.rec (motive := fun _ => List mI) (Bool.rec (motive := fun _ => List mI) rc_128_9 rc_128_8 (Nat.blt b 9)) rc_128_7 (Nat.blt b 8)) (Bool.rec (motive := fun _ => List mI) rc_128_6 rc_128_5 (Nat.blt b 6)) (Nat.blt b 7)) (Bool.rec (motive := fun _ => List mI) (Bool.rec (motive := fun _ => List mI) (Bool.rec (motive := fun _ => List mI) rc_128_4 rc_128_3 (Nat.blt b 4)) rc_128_2 (Nat.blt b 3)) (Bool.rec (motive := fun _ => List mI) rc_128_1 rc_128_0 (Nat.blt b 1)) (Nat.blt b 2)) (Nat.blt b 5))
/-- RudeCouponsModel.findShares()V -/
noncomputable def rc_129_0 : List mI := [h_const 0, h_istore 1, h_goto 1]
noncomputable def rc_129_1 : List mI := [h_iload 1, h_aload 0, h_getf 8 0, h_icmp 3 4, h_const 0, h_istore 2, h_goto 2]
noncomputable def rc_129_2 : List mI := [h_iload 2, h_const 15, h_icmp 4 3, h_aload 0, h_getf 8 25, h_const 16, h_iload 1, h_imul, h_iload 2, h_iadd, h_aload 0, h_iload 1, h_iload 2, h_call 124 3 1 10 0 0 0 0, h_ast 0, h_iinc 2 1, h_goto 2]
noncomputable def rc_129_3 : List mI := [h_iinc 1 1, h_goto 1]
noncomputable def rc_129_4 : List mI := [h_aload 0, h_getf 8 0, h_istore 1, h_goto 5]
noncomputable def rc_129_5 : List mI := [h_iload 1, h_if 2 14, h_const 0, h_istore 2, h_goto 6]
noncomputable def rc_129_6 : List mI := [h_iload 2, h_const 90, h_icmp 4 13, h_iload 1, h_aload 0, h_getf 8 0, h_icmp 1 7, h_iload 2, h_if 1 7, h_const 0, h_goto 8]
noncomputable def rc_129_7 : List mI := [h_const 4294967295, h_goto 8]
noncomputable def rc_129_8 : List mI := [h_istore 3, h_const 0, h_istore 4, h_goto 9]
noncomputable def rc_129_9 : List mI := [h_iload 4, h_const 15, h_icmp 4 12, h_iload 4, h_iload 2, h_icmp 4 12, h_iload 1, h_aload 0, h_getf 8 0, h_icmp 3 12, h_aload 0, h_getf 8 26, h_const 91, h_iload 1, h_const 1, h_iadd, h_imul, h_iload 2, h_iadd, h_iload 4, h_isub, h_ald 0, h_istore 5, h_iload 5, h_if 2 10, h_aload 0, h_getf 8 25, h_const 16, h_iload 1, h_imul, h_iload 4, h_iadd, h_ald 0, h_iload 5, h_iadd, h_iload 3, h_icmp 5 10, h_aload 0, h_getf 8 25, h_const 16, h_iload 1, h_imul, h_iload 4, h_iadd, h_ald 0, h_iload 5, h_iadd, h_goto 11]
noncomputable def rc_129_10 : List mI := [h_iload 3, h_goto 11]
noncomputable def rc_129_11 : List mI := [h_istore 3, h_iinc 4 1, h_goto 9]
noncomputable def rc_129_12 : List mI := [h_aload 0, h_getf 8 26, h_const 91, h_iload 1, h_imul, h_iload 2, h_iadd, h_iload 3, h_ast 0, h_iinc 2 1, h_goto 6]
noncomputable def rc_129_13 : List mI := [h_iinc 1 4294967295, h_goto 5]
noncomputable def rc_129_14 : List mI := [h_return 0 0]
noncomputable def rc_129 : Nat → List mI := fun b => (Bool.rec (motive := fun _ => List mI) (Bool.rec (motive := fun _ => List mI) (Bool.rec (motive := fun _ => List mI) (Bool.rec (motive := fun _ => List mI) rc_129_14 rc_129_13 (Nat.blt b 14)) (Bool.rec (motive := fun _ => List mI) rc_129_12 rc_129_11 (Nat.blt b 12)) (Nat.blt b 13)) (Bool.rec (motive := fun _ => List mI) (Bool.rec (motive := fun _ => List mI) rc_129_10 rc_129_9 (Nat.blt b 10)) (Bool.rec (motive := fun _ => List mI) rc_129_8 rc_129_7 (Nat.blt b 8)) (Nat.blt b 9)) (Nat.blt b 11)) (Bool.rec (motive := fun _ => List mI) (Bool.rec (motive := fun _ => List mI) (Bool.rec (motive := fun _ => List mI) rc_129_6 rc_129_5 (Nat.blt b 6)) (Bool.rec (motive := fun _ => List mI) rc_129_4 rc_129_3 (Nat.blt b 4)) (Nat.blt b 5)) (Bool.rec (motive := fun _ => List mI) (Bool.rec (motive := fun _ => List mI) rc_129_2 rc_129_1 (Nat.blt b 2)) rc_129_0 (Nat.blt b 1)) (Nat.blt b 3)) (Nat.blt b 7))
/-- RudeCouponsModel.rationFor(I)I -/
noncomputable def rc_130_0 : List mI := [h_iload 1, h_const 0, h_const 999, h_call 92 3 1 0 0 0 0 0, h_if 1 1, h_const 4294967295, h_ireturn 0 0]
noncomputable def rc_130_1 : List mI := [h_const 15, h_istore 2, h_goto 2]
noncomputable def rc_130_2 : List mI := [h_iload 2, h_if 5 4, h_aload 0, h_iload 2, h_call 131 2 1 10 0 0 0 0, h_iload 1, h_icmp 4 3, h_iload 2, h_ireturn 0 0]
noncomputable def rc_130_3 : List mI := [h_iinc 2 4294967295, h_goto 2]
noncomputable def rc_130_4 : List mI := [h_const 0, h_ireturn 0 0]
noncomputable def rc_130 : Nat → List mI := fun b => (Bool.rec (motive := fun _ => List mI) (Bool.rec (motive := fun _ => List mI) (Bool.rec (motive := fun _ => List mI) rc_130_4 rc_130_3 (Nat.blt b 4)) rc_130_2 (Nat.blt b 3)) (Bool.rec (motive := fun _ => List mI) rc_130_1 rc_130_0 (Nat.blt b 1)) (Nat.blt b 2))
/-- RudeCouponsModel.sufferedBy(I)I -/
noncomputable def rc_131_0 : List mI := [h_const 0, h_istore 2, h_const 0, h_istore 3, h_goto 1]
noncomputable def rc_131_1 : List mI := [h_iload 3, h_aload 0, h_getf 8 0, h_icmp 3 8, h_aload 0, h_iload 3, h_iload 1, h_call 124 3 1 10 0 0 0 0, h_istore 4, h_const 0, h_istore 5, h_goto 2]
noncomputable def rc_131_2 : List mI := [h_iload 5, h_aload 0, h_getf 8 4, h_icmp 3 7, h_iload 4, h_if 2 7, h_const 0, h_istore 6, h_goto 3]
noncomputable def rc_131_3 : List mI := [h_iload 6, h_aload 0, h_getf 8 0, h_icmp 3 6, h_iload 2, h_aload 0, h_getf 8 24, h_iload 5, h_call 110 2 1 0 0 0 0 0, h_if 0 4, h_iload 6, h_iload 3, h_icmp 0 4, h_aload 0, h_iload 6, h_aload 0, h_getf 8 5, h_const 3, h_iload 5, h_imul, h_const 2, h_iadd, h_ald 0, h_call 117 3 1 10 0 0 0 0, h_goto 5]
noncomputable def rc_131_4 : List mI := [h_const 0, h_goto 5]
noncomputable def rc_131_5 : List mI := [h_iadd, h_istore 2, h_iinc 6 1, h_goto 3]
noncomputable def rc_131_6 : List mI := [h_iinc 5 1, h_goto 2]
noncomputable def rc_131_7 : List mI := [h_iinc 3 1, h_goto 1]
noncomputable def rc_131_8 : List mI := [h_iload 2, h_ireturn 0 0]
noncomputable def rc_131 : Nat → List mI := fun b => (Bool.rec (motive := fun _ => List mI) (Bool.rec (motive := fun _ => List mI) (Bool.rec (motive := fun _ => List mI) (Bool.rec (motive := fun _ => List mI) rc_131_8 rc_131_7 (Nat.blt b 8)) rc_131_6 (Nat.blt b 7)) (Bool.rec (motive := fun _ => List mI) rc_131_5 rc_131_4 (Nat.blt b 5)) (Nat.blt b 6)) (Bool.rec (motive := fun _ => List mI) (Bool.rec (motive := fun _ => List mI) rc_131_3 rc_131_2 (Nat.blt b 3)) (Bool.rec (motive := fun _ => List mI) rc_131_1 rc_131_0 (Nat.blt b 1)) (Nat.blt b 2)) (Nat.blt b 4))
/-- RudeCouponsModel.seen(III)I -/
noncomputable def rc_132_0 : List mI := [h_aload 0, h_iload 1, h_call 105 2 1 10 0 0 0 0, h_if 0 1, h_iload 2, h_const 0, h_aload 0, h_getf 8 2, h_const 1, h_isub, h_call 92 3 1 0 0 0 0 0, h_if 0 1, h_iload 3, h_const 0, h_const 99, h_call 92 3 1 0 0 0 0 0, h_if 1 2, h_goto 1]
noncomputable def rc_132_1 : List mI := [h_const 4294967295, h_ireturn 0 0]
noncomputable def rc_132_2 : List mI := [h_aload 0, h_getf 8 12, h_const 8, h_icmp 1 3, h_const 4294967293, h_ireturn 0 0]
noncomputable def rc_132_3 : List mI := [h_aload 0, h_getf 8 13, h_const 3, h_aload 0, h_getf 8 12, h_imul, h_iload 1, h_ast 0, h_aload 0, h_getf 8 13, h_const 3, h_aload 0, h_getf 8 12, h_imul, h_const 1, h_iadd, h_iload 2, h_ast 0, h_aload 0, h_getf 8 13, h_const 3, h_aload 0, h_getf 8 12, h_imul, h_const 2, h_iadd, h_iload 3, h_ast 0, h_aload 0, h_dup, h_getf 8 12, h_const 1, h_iadd, h_putf 8 12 0, h_aload 0, h_getf 8 12, h_ireturn 0 0]
noncomputable def rc_132 : Nat → List mI := fun b => (Bool.rec (motive := fun _ => List mI) (Bool.rec (motive := fun _ => List mI) rc_132_3 rc_132_2 (Nat.blt b 3)) (Bool.rec (motive := fun _ => List mI) rc_132_1 rc_132_0 (Nat.blt b 1)) (Nat.blt b 2))
/-- RudeCouponsModel.forget()I -/
noncomputable def rc_133_0 : List mI := [h_aload 0, h_getf 8 12, h_istore 1, h_aload 0, h_const 0, h_putf 8 12 0, h_iload 1, h_ireturn 0 0]
noncomputable def rc_133 : Nat → List mI := fun b => rc_133_0
/-- RudeCouponsModel.without()I -/
noncomputable def rc_134_0 : List mI := [h_const 0, h_istore 1, h_const 0, h_istore 2, h_goto 1]
noncomputable def rc_134_1 : List mI := [h_iload 2, h_aload 0, h_getf 8 0, h_icmp 3 11, h_aload 0, h_getf 8 1, h_const 3, h_iload 2, h_imul, h_const 1, h_iadd, h_ald 0, h_istore 3, h_const 0, h_istore 4, h_goto 2]
noncomputable def rc_134_2 : List mI := [h_iload 4, h_const 99, h_icmp 4 8, h_const 0, h_istore 5, h_goto 3]
noncomputable def rc_134_3 : List mI := [h_iload 5, h_aload 0, h_getf 8 12, h_icmp 3 7, h_aload 0, h_getf 8 13, h_const 3, h_iload 5, h_imul, h_ald 0, h_iload 2, h_icmp 1 6, h_aload 0, h_getf 8 13, h_const 3, h_iload 5, h_imul, h_const 2, h_iadd, h_ald 0, h_iload 4, h_icmp 1 6, h_iload 3, h_if 3 4, h_const 4294967295, h_goto 5]
noncomputable def rc_134_4 : List mI := [h_aload 0, h_iload 2, h_iload 3, h_aload 0, h_getf 8 13, h_const 3, h_iload 5, h_imul, h_const 1, h_iadd, h_ald 0, h_iload 4, h_call 113 5 1 10 0 0 0 0, h_goto 5]
noncomputable def rc_134_5 : List mI := [h_istore 3, h_goto 6]
noncomputable def rc_134_6 : List mI := [h_iinc 5 1, h_goto 3]
noncomputable def rc_134_7 : List mI := [h_iinc 4 1, h_goto 2]
noncomputable def rc_134_8 : List mI := [h_iload 1, h_iload 3, h_if 3 9, h_const 1, h_iload 2, h_ishl, h_goto 10]
noncomputable def rc_134_9 : List mI := [h_const 0, h_goto 10]
noncomputable def rc_134_10 : List mI := [h_ior, h_istore 1, h_iinc 2 1, h_goto 1]
noncomputable def rc_134_11 : List mI := [h_iload 1, h_ireturn 0 0]
noncomputable def rc_134 : Nat → List mI := fun b => (Bool.rec (motive := fun _ => List mI) (Bool.rec (motive := fun _ => List mI) (Bool.rec (motive := fun _ => List mI) (Bool.rec (motive := fun _ => List mI) rc_134_11 rc_134_10 (Nat.blt b 11)) rc_134_9 (Nat.blt b 10)) (Bool.rec (motive := fun _ => List mI) (Bool.rec (motive := fun _ => List mI) rc_134_8 rc_134_7 (Nat.blt b 8)) rc_134_6 (Nat.blt b 7)) (Nat.blt b 9)) (Bool.rec (motive := fun _ => List mI) (Bool.rec (motive := fun _ => List mI) (Bool.rec (motive := fun _ => List mI) rc_134_5 rc_134_4 (Nat.blt b 5)) rc_134_3 (Nat.blt b 4)) (Bool.rec (motive := fun _ => List mI) (Bool.rec (motive := fun _ => List mI) rc_134_2 rc_134_1 (Nat.blt b 2)) rc_134_0 (Nat.blt b 1)) (Nat.blt b 3)) (Nat.blt b 6))
/-- RudeCouponsModel.letGo(II)I -/
noncomputable def rc_135_0 : List mI := [h_iload 1, h_const 0, h_const 99, h_call 92 3 1 0 0 0 0 0, h_if 0 1, h_iload 2, h_const 0, h_const 1, h_call 92 3 1 0 0 0 0 0, h_if 1 2, h_goto 1]
noncomputable def rc_135_1 : List mI := [h_const 4294967295, h_ireturn 0 0]
noncomputable def rc_135_2 : List mI := [h_aload 0, h_call 121 1 1 10 0 0 0 0, h_istore 3, h_const 0, h_istore 4, h_const 0, h_istore 5, h_goto 3]
noncomputable def rc_135_3 : List mI := [h_iload 5, h_aload 0, h_getf 8 0, h_icmp 3 6, h_aload 0, h_getf 8 7, h_const 2, h_iload 5, h_iadd, h_ald 0, h_iload 4, h_icmp 5 4, h_aload 0, h_getf 8 7, h_const 2, h_iload 5, h_iadd, h_ald 0, h_goto 5]
noncomputable def rc_135_4 : List mI := [h_iload 4, h_goto 5]
noncomputable def rc_135_5 : List mI := [h_istore 4, h_iinc 5 1, h_goto 3]
noncomputable def rc_135_6 : List mI := [h_iload 3, h_iload 4, h_isub, h_istore 5, h_iload 4, h_iload 5, h_const 1, h_iadd, h_icmp 5 7, h_const 2, h_iload 5, h_imul, h_const 1, h_iadd, h_goto 8]
noncomputable def rc_135_7 : List mI := [h_iload 3, h_goto 8]
noncomputable def rc_135_8 : List mI := [h_istore 6, h_iload 6, h_iload 1, h_icmp 3 9, h_iload 6, h_goto 10]
noncomputable def rc_135_9 : List mI := [h_iload 1, h_goto 10]
noncomputable def rc_135_10 : List mI := [h_istore 7, h_iload 2, h_if 1 11, h_iload 7, h_goto 12]
noncomputable def rc_135_11 : List mI := [h_iload 3, h_iload 7, h_isub, h_goto 12]
noncomputable def rc_135_12 : List mI := [h_ireturn 0 0]
noncomputable def rc_135 : Nat → List mI := fun b => (Bool.rec (motive := fun _ => List mI) (Bool.rec (motive := fun _ => List mI) (Bool.rec (motive := fun _ => List mI) (Bool.rec (motive := fun _ => List mI) rc_135_12 rc_135_11 (Nat.blt b 12)) (Bool.rec (motive := fun _ => List mI) rc_135_10 rc_135_9 (Nat.blt b 10)) (Nat.blt b 11)) (Bool.rec (motive := fun _ => List mI) (Bool.rec (motive := fun _ => List mI) rc_135_8 rc_135_7 (Nat.blt b 8)) rc_135_6 (Nat.blt b 7)) (Nat.blt b 9)) (Bool.rec (motive := fun _ => List mI) (Bool.rec (motive := fun _ => List mI) (Bool.rec (motive := fun _ => List mI) rc_135_5 rc_135_4 (Nat.blt b 5)) rc_135_3 (Nat.blt b 4)) (Bool.rec (motive := fun _ => List mI) (Bool.rec (motive := fun _ => List mI) rc_135_2 rc_135_1 (Nat.blt b 2)) rc_135_0 (Nat.blt b 1)) (Nat.blt b 3)) (Nat.blt b 6))
/-- RudeCouponsModel.keepOne(III)I -/
noncomputable def rc_136_0 : List mI := [h_aload 0, h_iload 1, h_call 105 2 1 10 0 0 0 0, h_if 0 1, h_iload 2, h_const 0, h_const 99, h_call 92 3 1 0 0 0 0 0, h_if 0 1, h_iload 3, h_const 0, h_const 10, h_call 92 3 1 0 0 0 0 0, h_if 1 2, h_goto 1]
noncomputable def rc_136_1 : List mI := [h_const 4294967295, h_ireturn 0 0]
noncomputable def rc_136_2 : List mI := [h_aload 0, h_getf 8 7, h_const 2, h_iload 1, h_iadd, h_ald 0, h_if 1 3, h_const 4294967294, h_ireturn 0 0]
noncomputable def rc_136_3 : List mI := [h_aload 0, h_iload 1, h_aload 0, h_getf 8 7, h_const 2, h_iload 1, h_iadd, h_ald 0, h_call 124 3 1 10 0 0 0 0, h_aload 0, h_iload 1, h_aload 0, h_getf 8 7, h_const 2, h_iload 1, h_iadd, h_ald 0, h_const 1, h_isub, h_call 124 3 1 10 0 0 0 0, h_isub, h_istore 4, h_iload 2, h_iload 3, h_imul, h_const 10, h_iload 4, h_imul, h_icmp 5 4, h_const 1, h_goto 5]
noncomputable def rc_136_4 : List mI := [h_const 0, h_goto 5]
noncomputable def rc_136_5 : List mI := [h_ireturn 0 0]
noncomputable def rc_136 : Nat → List mI := fun b => (Bool.rec (motive := fun _ => List mI) (Bool.rec (motive := fun _ => List mI) (Bool.rec (motive := fun _ => List mI) rc_136_5 rc_136_4 (Nat.blt b 5)) rc_136_3 (Nat.blt b 4)) (Bool.rec (motive := fun _ => List mI) (Bool.rec (motive := fun _ => List mI) rc_136_2 rc_136_1 (Nat.blt b 2)) rc_136_0 (Nat.blt b 1)) (Nat.blt b 3))
/-- RudeCouponsModel.net(I)I -/
noncomputable def rc_137_0 : List mI := [h_aload 0, h_iload 1, h_call 105 2 1 10 0 0 0 0, h_if 0 1, h_aload 0, h_getf 8 7, h_const 20, h_iload 1, h_iadd, h_ald 0, h_goto 2]
noncomputable def rc_137_1 : List mI := [h_const 4294967295, h_goto 2]
noncomputable def rc_137_2 : List mI := [h_ireturn 0 0]
noncomputable def rc_137 : Nat → List mI := fun b => (Bool.rec (motive := fun _ => List mI) (Bool.rec (motive := fun _ => List mI) rc_137_2 rc_137_1 (Nat.blt b 2)) rc_137_0 (Nat.blt b 1))
/-- RudeCouponsModel.heard(I)I -/
noncomputable def rc_138_0 : List mI := [h_iload 1, h_const 4294967295, h_aload 0, h_getf 8 0, h_const 1, h_isub, h_call 92 3 1 0 0 0 0 0, h_if 1 1, h_const 4294967295, h_ireturn 0 0]
noncomputable def rc_138_1 : List mI := [h_const 0, h_istore 2, h_const 0, h_istore 3, h_goto 2]
noncomputable def rc_138_2 : List mI := [h_iload 3, h_aload 0, h_getf 8 0, h_icmp 3 6, h_iload 2, h_iload 1, h_if 2 3, h_iload 1, h_iload 3, h_icmp 1 4, h_goto 3]
noncomputable def rc_138_3 : List mI := [h_aload 0, h_getf 8 7, h_const 14, h_iload 3, h_iadd, h_ald 0, h_goto 5]
noncomputable def rc_138_4 : List mI := [h_const 0, h_goto 5]
noncomputable def rc_138_5 : List mI := [h_iadd, h_istore 2, h_iinc 3 1, h_goto 2]
noncomputable def rc_138_6 : List mI := [h_iload 2, h_ireturn 0 0]
noncomputable def rc_138 : Nat → List mI := fun b => (Bool.rec (motive := fun _ => List mI) (Bool.rec (motive := fun _ => List mI) (Bool.rec (motive := fun _ => List mI) rc_138_6 rc_138_5 (Nat.blt b 6)) (Bool.rec (motive := fun _ => List mI) rc_138_4 rc_138_3 (Nat.blt b 4)) (Nat.blt b 5)) (Bool.rec (motive := fun _ => List mI) (Bool.rec (motive := fun _ => List mI) rc_138_2 rc_138_1 (Nat.blt b 2)) rc_138_0 (Nat.blt b 1)) (Nat.blt b 3))
/-- RudeCouponsModel.year(II)I -/
noncomputable def rc_139_0 : List mI := [h_iload 1, h_const 0, h_const 9999, h_call 92 3 1 0 0 0 0 0, h_if 0 1, h_iload 2, h_const 0, h_const 1, h_call 92 3 1 0 0 0 0 0, h_if 1 2, h_goto 1]
noncomputable def rc_139_1 : List mI := [h_const 4294967295, h_ireturn 0 0]
noncomputable def rc_139_2 : List mI := [h_const 0, h_istore 3, h_goto 3]
noncomputable def rc_139_3 : List mI := [h_iload 3, h_aload 0, h_getf 8 0, h_icmp 3 4, h_aload 0, h_getf 8 27, h_iload 3, h_aload 0, h_getf 8 7, h_const 2, h_iload 3, h_iadd, h_ald 0, h_ast 0, h_iinc 3 1, h_goto 3]
noncomputable def rc_139_4 : List mI := [h_const 0, h_istore 3, h_const 0, h_istore 4, h_goto 5]
noncomputable def rc_139_5 : List mI := [h_iload 4, h_aload 0, h_getf 8 4, h_icmp 3 12, h_aload 0, h_getf 8 6, h_iload 4, h_ald 0, h_istore 5, h_aload 0, h_iload 5, h_call 111 2 1 10 0 0 0 0, h_istore 6, h_lconst 7919, h_iload 1, h_i2l, h_lmul, h_lconst 6151, h_iload 5, h_i2l, h_lmul, h_ladd, h_lconst 1, h_ladd, h_lstore 7, h_lload 7, h_lload 7, h_lmul, h_lconst 65521, h_lrem, h_lconst 8, h_ldiv, h_l2i, h_istore 9, h_aload 0, h_iload 5, h_aload 0, h_getf 8 27, h_iload 6, h_ald 0, h_call 112 3 1 10 0 0 0 0, h_istore 10, h_aload 0, h_getf 8 5, h_const 3, h_iload 5, h_imul, h_ald 0, h_aload 0, h_getf 8 7, h_const 0, h_ald 0, h_icmp 2 6, h_aload 0, h_getf 8 7, h_const 1, h_ald 0, h_iload 5, h_call 110 2 1 0 0 0 0 0, h_if 1 6, h_iload 10, h_if 2 6, h_iload 9, h_const 4, h_irem, h_if 0 6, h_const 1, h_goto 7]
noncomputable def rc_139_6 : List mI := [h_const 0, h_goto 7]
noncomputable def rc_139_7 : List mI := [h_istore 11, h_iload 3, h_iload 11, h_if 0 8, h_aload 0, h_iload 5, h_call 116 2 1 10 0 0 0 0, h_goto 9]
noncomputable def rc_139_8 : List mI := [h_const 0, h_goto 9]
noncomputable def rc_139_9 : List mI := [h_iadd, h_istore 3, h_aload 0, h_getf 8 27, h_iload 6, h_iload 11, h_if 0 10, h_iload 10, h_goto 11]
noncomputable def rc_139_10 : List mI := [h_aload 0, h_getf 8 27, h_iload 6, h_ald 0, h_goto 11]
noncomputable def rc_139_11 : List mI := [h_ast 0, h_iinc 4 1, h_goto 5]
noncomputable def rc_139_12 : List mI := [h_const 0, h_istore 4, h_const 0, h_istore 5, h_goto 13]
noncomputable def rc_139_13 : List mI := [h_iload 5, h_aload 0, h_getf 8 0, h_icmp 3 14, h_iload 4, h_aload 0, h_getf 8 27, h_iload 5, h_ald 0, h_iadd, h_istore 4, h_iinc 5 1, h_goto 13]
noncomputable def rc_139_14 : List mI := [h_iload 2, h_if 1 15, h_iload 3, h_goto 16]
noncomputable def rc_139_15 : List mI := [h_iload 4, h_goto 16]
noncomputable def rc_139_16 : List mI := [h_ireturn 0 0]
noncomputable def rc_139 : Nat → List mI := fun b => (Bool.rec (motive := fun _ => List mI) (Bool.rec (motive := fun _ => List mI) (Bool.rec (motive := fun _ => List mI) (Bool.rec (motive := fun _ => List mI) (Bool.rec (motive := fun _ => List mI) rc_139_16 rc_139_15 (Nat.blt b 16)) rc_139_14 (Nat.blt b 15)) (Bool.rec (motive := fun _ => List mI) rc_139_13 rc_139_12 (Nat.blt b 13)) (Nat.blt b 14)) (Bool.rec (motive := fun _ => List mI) (Bool.rec (motive := fun _ => List mI) rc_139_11 rc_139_10 (Nat.blt b 11)) (Bool.rec (motive := fun _ => List mI) rc_139_9 rc_139_8 (Nat.blt b 9)) (Nat.blt b 10)) (Nat.blt b 12)) (Bool.rec (motive := fun _ => List mI) (Bool.rec (motive := fun _ => List mI) (Bool.rec (motive := fun _ => List mI) rc_139_7 rc_139_6 (Nat.blt b 7)) (Bool.rec (motive := fun _ => List mI) rc_139_5 rc_139_4 (Nat.blt b 5)) (Nat.blt b 6)) (Bool.rec (motive := fun _ => List mI) (Bool.rec (motive := fun _ => List mI) rc_139_3 rc_139_2 (Nat.blt b 3)) (Bool.rec (motive := fun _ => List mI) rc_139_1 rc_139_0 (Nat.blt b 1)) (Nat.blt b 2)) (Nat.blt b 4)) (Nat.blt b 8))
/-- RudeCouponsModel.keep()I -/
noncomputable def rc_140_0 : List mI := [h_aload 0, h_getf 8 10, h_const 2, h_icmp 1 1, h_const 4294967293, h_ireturn 0 0]
noncomputable def rc_140_1 : List mI := [h_aload 0, h_getf 8 11, h_const 26, h_aload 0, h_getf 8 10, h_imul, h_aload 0, h_getf 8 7, h_const 0, h_const 26, h_call 90 5 0 0 0 0 0 0, h_aload 0, h_dup, h_getf 8 10, h_const 1, h_iadd, h_putf 8 10 0, h_aload 0, h_getf 8 10, h_ireturn 0 0]
noncomputable def rc_140 : Nat → List mI := fun b => (Bool.rec (motive := fun _ => List mI) rc_140_1 rc_140_0 (Nat.blt b 1))
/-- RudeCouponsModel.back()I -/
noncomputable def rc_141_0 : List mI := [h_aload 0, h_getf 8 10, h_if 1 1, h_const 4294967294, h_ireturn 0 0]
noncomputable def rc_141_1 : List mI := [h_aload 0, h_dup, h_getf 8 10, h_const 1, h_isub, h_putf 8 10 0, h_aload 0, h_getf 8 7, h_const 0, h_aload 0, h_getf 8 11, h_const 26, h_aload 0, h_getf 8 10, h_imul, h_const 26, h_call 90 5 0 0 0 0 0 0, h_aload 0, h_const 0, h_putf 8 8 0, h_aload 0, h_getf 8 10, h_ireturn 0 0]
noncomputable def rc_141 : Nat → List mI := fun b => (Bool.rec (motive := fun _ => List mI) rc_141_1 rc_141_0 (Nat.blt b 1))
/-- RudeCouponsModel.count(I)I -/
noncomputable def rc_142_0 : List mI := [h_iload 1, h_table 11 0 [1, 2, 3, 4, 5, 6, 7, 8, 9, 10]]
noncomputable def rc_142_1 : List mI := [h_aload 0, h_getf 8 0, h_ireturn 0 0]
noncomputable def rc_142_2 : List mI := [h_aload 0, h_getf 8 2, h_ireturn 0 0]
noncomputable def rc_142_3 : List mI := [h_aload 0, h_getf 8 4, h_ireturn 0 0]
noncomputable def rc_142_4 : List mI := [h_aload 0, h_getf 8 7, h_const 0, h_ald 0, h_ireturn 0 0]
noncomputable def rc_142_5 : List mI := [h_aload 0, h_call 143 1 1 10 0 0 0 0, h_ireturn 0 0]
noncomputable def rc_142_6 : List mI := [h_aload 0, h_call 121 1 1 10 0 0 0 0, h_ireturn 0 0]
noncomputable def rc_142_7 : List mI := [h_aload 0, h_getf 8 12, h_ireturn 0 0]
noncomputable def rc_142_8 : List mI := [h_aload 0, h_getf 8 8, h_ireturn 0 0]
noncomputable def rc_142_9 : List mI := [h_aload 0, h_getf 8 10, h_ireturn 0 0]
noncomputable def rc_142_10 : List mI := [h_aload 0, h_getf 8 15, h_ireturn 0 0]
noncomputable def rc_142_11 : List mI := [h_const 4294967295, h_ireturn 0 0]
noncomputable def rc_142 : Nat → List mI := fun b => (Bool.rec (motive := fun _ => List mI) (Bool.rec (motive := fun _ => List mI) (Bool.rec (motive := fun _ => List mI) (Bool.rec (motive := fun _ => List mI) rc_142_11 rc_142_10 (Nat.blt b 11)) rc_142_9 (Nat.blt b 10)) (Bool.rec (motive := fun _ => List mI) (Bool.rec (motive := fun _ => List mI) rc_142_8 rc_142_7 (Nat.blt b 8)) rc_142_6 (Nat.blt b 7)) (Nat.blt b 9)) (Bool.rec (motive := fun _ => List mI) (Bool.rec (motive := fun _ => List mI) (Bool.rec (motive := fun _ => List mI) rc_142_5 rc_142_4 (Nat.blt b 5)) rc_142_3 (Nat.blt b 4)) (Bool.rec (motive := fun _ => List mI) (Bool.rec (motive := fun _ => List mI) rc_142_2 rc_142_1 (Nat.blt b 2)) rc_142_0 (Nat.blt b 1)) (Nat.blt b 3)) (Nat.blt b 6))
/-- RudeCouponsModel.takenMany()I -/
noncomputable def rc_143_0 : List mI := [h_const 0, h_istore 1, h_const 0, h_istore 2, h_goto 1]
noncomputable def rc_143_1 : List mI := [h_iload 2, h_aload 0, h_getf 8 4, h_icmp 3 2, h_iload 1, h_aload 0, h_getf 8 7, h_const 1, h_ald 0, h_iload 2, h_ishr, h_const 1, h_iand, h_iadd, h_istore 1, h_iinc 2 1, h_goto 1]
noncomputable def rc_143_2 : List mI := [h_iload 1, h_ireturn 0 0]
noncomputable def rc_143 : Nat → List mI := fun b => (Bool.rec (motive := fun _ => List mI) (Bool.rec (motive := fun _ => List mI) rc_143_2 rc_143_1 (Nat.blt b 2)) rc_143_0 (Nat.blt b 1))
/-- java/lang/Math.max(II)I -/
noncomputable def rc_144_0 : List mI := [h_iload 0, h_iload 1, h_icmp 2 1, h_iload 0, h_goto 2]
noncomputable def rc_144_1 : List mI := [h_iload 1, h_goto 2]
noncomputable def rc_144_2 : List mI := [h_ireturn 0 0]
noncomputable def rc_144 : Nat → List mI := fun b => (Bool.rec (motive := fun _ => List mI) (Bool.rec (motive := fun _ => List mI) rc_144_2 rc_144_1 (Nat.blt b 2)) rc_144_0 (Nat.blt b 1))
/-- java/lang/Math.min(II)I -/
noncomputable def rc_145_0 : List mI := [h_iload 0, h_iload 1, h_icmp 4 1, h_iload 0, h_goto 2]
noncomputable def rc_145_1 : List mI := [h_iload 1, h_goto 2]
noncomputable def rc_145_2 : List mI := [h_ireturn 0 0]
noncomputable def rc_145 : Nat → List mI := fun b => (Bool.rec (motive := fun _ => List mI) (Bool.rec (motive := fun _ => List mI) rc_145_2 rc_145_1 (Nat.blt b 2)) rc_145_0 (Nat.blt b 1))
/-- java/lang/Integer.bitCount(I)I -/
noncomputable def rc_146_0 : List mI := [h_iload 0, h_iload 0, h_const 1, h_iushr, h_const 1431655765, h_iand, h_isub, h_istore 0, h_iload 0, h_const 858993459, h_iand, h_iload 0, h_const 2, h_iushr, h_const 858993459, h_iand, h_iadd, h_istore 0, h_iload 0, h_iload 0, h_const 4, h_iushr, h_iadd, h_const 252645135, h_iand, h_istore 0, h_iload 0, h_iload 0, h_const 8, h_iushr, h_iadd, h_istore 0, h_iload 0, h_iload 0, h_const 16, h_iushr, h_iadd, h_istore 0, h_iload 0, h_const 63, h_iand, h_ireturn 0 0]
noncomputable def rc_146 : Nat → List mI := fun b => rc_146_0
/-- RudeCoupons$Shelf.<init>(I)V -/
noncomputable def rc_147_0 : List mI := [h_aload 0, h_oinit, h_aload 0, h_const 1, h_iload 1, h_call 144 2 1 0 0 0 11 62, h_newq 2 11 62, h_putf 4 0 1, h_const 0, h_istore 2, h_goto 1]
noncomputable def rc_147_1 : List mI := [h_iload 2, h_aload 0, h_getf 4 0, h_alen, h_icmp 3 2, h_aload 0, h_getf 4 0, h_iload 2, h_new 6 [.inl 0, .inl 0, .inr (.inr (.inr (.inr (.inr 0)))), .inr (.inr (.inr (.inr (.inr 0)))), .inr (.inr (.inr (.inr (.inr 0)))), .inr (.inr (.inr (.inr (.inr 0))))] 11 62, h_dup, h_call 39 1 0 1 4 24 11 62, h_aast 2 6, h_iinc 2 1, h_goto 1]
noncomputable def rc_147_2 : List mI := [h_return 11 62]
noncomputable def rc_147 : Nat → List mI := fun b => (Bool.rec (motive := fun _ => List mI) (Bool.rec (motive := fun _ => List mI) rc_147_2 rc_147_1 (Nat.blt b 2)) rc_147_0 (Nat.blt b 1))
noncomputable def rc : Nat → Nat → List mI := fun y => (Bool.rec (motive := fun _ => Nat → List mI) (Bool.rec (motive := fun _ => Nat → List mI) (Bool.rec (motive := fun _ => Nat → List mI) (Bool.rec (motive := fun _ => Nat → List mI) (Bool.rec (motive := fun _ => Nat → List mI) (Bool.rec (motive := fun _ => Nat → List mI) (Bool.rec (motive := fun _ => Nat → List mI) (Bool.rec (motive := fun _ => Nat → List mI) rc_147 rc_146 (Nat.blt y 147)) rc_145 (Nat.blt y 146)) (Bool.rec (motive := fun _ => Nat → List mI) rc_144 rc_143 (Nat.blt y 144)) (Nat.blt y 145)) (Bool.rec (motive := fun _ => Nat → List mI) (Bool.rec (motive := fun _ => Nat → List mI) rc_142 rc_141 (Nat.blt y 142)) (Bool.rec (motive := fun _ => Nat → List mI) rc_140 rc_139 (Nat.blt y 140)) (Nat.blt y 141)) (Nat.blt y 143)) (Bool.rec (motive := fun _ => Nat → List mI) (Bool.rec (motive := fun _ => Nat → List mI) (Bool.rec (motive := fun _ => Nat → List mI) (Bool.rec (motive := fun _ => Nat → List mI) rc_138 rc_137 (Nat.blt y 138)) rc_136 (Nat.blt y 137)) (Bool.rec (motive := fun _ => Nat → List mI) rc_135 rc_134 (Nat.blt y 135)) (Nat.blt y 136)) (Bool.rec (motive := fun _ => Nat → List mI) (Bool.rec (motive := fun _ => Nat → List mI) rc_133 rc_132 (Nat.blt y 133)) (Bool.rec (motive := fun _ => Nat → List mI) rc_131 rc_130 (Nat.blt y 131)) (Nat.blt y 132)) (Nat.blt y 134)) (Nat.blt y 139)) (Bool.rec (motive := fun _ => Nat → List mI) (Bool.rec (motive := fun _ => Nat → List mI) (Bool.rec (motive := fun _ => Nat → List mI) (Bool.rec (motive := fun _ => Nat → List mI) (Bool.rec (motive := fun _ => Nat → List mI) rc_129 rc_128 (Nat.blt y 129)) rc_127 (Nat.blt y 128)) (Bool.rec (motive := fun _ => Nat → List mI) rc_126 rc_125 (Nat.blt y 126)) (Nat.blt y 127)) (Bool.rec (motive := fun _ => Nat → List mI) (Bool.rec (motive := fun _ => Nat → List mI) rc_124 rc_123 (Nat.blt y 124)) (Bool.rec (motive := fun _ => Nat → List mI) rc_122 rc_121 (Nat.blt y 122)) (Nat.blt y 123)) (Nat.blt y 125)) (Bool.rec (motive := fun _ => Nat → List mI) (Bool.rec (motive := fun _ => Nat → List mI) (Bool.rec (motive := fun _ => Nat → List mI) rc_120 rc_119 (Nat.blt y 120)) (Bool.rec (motive := fun _ => Nat → List mI) rc_118 rc_117 (Nat.blt y 118)) (Nat.blt y 119)) (Bool.rec (motive := fun _ => Nat → List mI) (Bool.rec (motive := fun _ => Nat → List mI) rc_116 rc_115 (Nat.blt y 116)) (Bool.rec (motive := fun _ => Nat → List mI) rc_114 rc_113 (Nat.blt y 114)) (Nat.blt y 115)) (Nat.blt y 117)) (Nat.blt y 121)) (Nat.blt y 130)) (Bool.rec (motive := fun _ => Nat → List mI) (Bool.rec (motive := fun _ => Nat → List mI) (Bool.rec (motive := fun _ => Nat → List mI) (Bool.rec (motive := fun _ => Nat → List mI) (Bool.rec (motive := fun _ => Nat → List mI) (Bool.rec (motive := fun _ => Nat → List mI) rc_112 rc_111 (Nat.blt y 112)) rc_110 (Nat.blt y 111)) (Bool.rec (motive := fun _ => Nat → List mI) rc_109 rc_108 (Nat.blt y 109)) (Nat.blt y 110)) (Bool.rec (motive := fun _ => Nat → List mI) (Bool.rec (motive := fun _ => Nat → List mI) rc_107 rc_106 (Nat.blt y 107)) (Bool.rec (motive := fun _ => Nat → List mI) rc_105 rc_104 (Nat.blt y 105)) (Nat.blt y 106)) (Nat.blt y 108)) (Bool.rec (motive := fun _ => Nat → List mI) (Bool.rec (motive := fun _ => Nat → List mI) (Bool.rec (motive := fun _ => Nat → List mI) (Bool.rec (motive := fun _ => Nat → List mI) rc_103 rc_94 (Nat.blt y 103)) rc_93 (Nat.blt y 94)) (Bool.rec (motive := fun _ => Nat → List mI) rc_92 rc_91 (Nat.blt y 92)) (Nat.blt y 93)) (Bool.rec (motive := fun _ => Nat → List mI) (Bool.rec (motive := fun _ => Nat → List mI) rc_90 rc_89 (Nat.blt y 90)) (Bool.rec (motive := fun _ => Nat → List mI) rc_88 rc_87 (Nat.blt y 88)) (Nat.blt y 89)) (Nat.blt y 91)) (Nat.blt y 104)) (Bool.rec (motive := fun _ => Nat → List mI) (Bool.rec (motive := fun _ => Nat → List mI) (Bool.rec (motive := fun _ => Nat → List mI) (Bool.rec (motive := fun _ => Nat → List mI) (Bool.rec (motive := fun _ => Nat → List mI) rc_86 rc_85 (Nat.blt y 86)) rc_84 (Nat.blt y 85)) (Bool.rec (motive := fun _ => Nat → List mI) rc_83 rc_82 (Nat.blt y 83)) (Nat.blt y 84)) (Bool.rec (motive := fun _ => Nat → List mI) (Bool.rec (motive := fun _ => Nat → List mI) rc_81 rc_80 (Nat.blt y 81)) (Bool.rec (motive := fun _ => Nat → List mI) rc_79 rc_78 (Nat.blt y 79)) (Nat.blt y 80)) (Nat.blt y 82)) (Bool.rec (motive := fun _ => Nat → List mI) (Bool.rec (motive := fun _ => Nat → List mI) (Bool.rec (motive := fun _ => Nat → List mI) rc_77 rc_76 (Nat.blt y 77)) (Bool.rec (motive := fun _ => Nat → List mI) rc_75 rc_74 (Nat.blt y 75)) (Nat.blt y 76)) (Bool.rec (motive := fun _ => Nat → List mI) (Bool.rec (motive := fun _ => Nat → List mI) rc_73 rc_72 (Nat.blt y 73)) (Bool.rec (motive := fun _ => Nat → List mI) rc_71 rc_70 (Nat.blt y 71)) (Nat.blt y 72)) (Nat.blt y 74)) (Nat.blt y 78)) (Nat.blt y 87)) (Nat.blt y 113)) (Bool.rec (motive := fun _ => Nat → List mI) (Bool.rec (motive := fun _ => Nat → List mI) (Bool.rec (motive := fun _ => Nat → List mI) (Bool.rec (motive := fun _ => Nat → List mI) (Bool.rec (motive := fun _ => Nat → List mI) (Bool.rec (motive := fun _ => Nat → List mI) (Bool.rec (motive := fun _ => Nat → List mI) rc_69 rc_68 (Nat.blt y 69)) rc_67 (Nat.blt y 68)) (Bool.rec (motive := fun _ => Nat → List mI) rc_66 rc_65 (Nat.blt y 66)) (Nat.blt y 67)) (Bool.rec (motive := fun _ => Nat → List mI) (Bool.rec (motive := fun _ => Nat → List mI) rc_64 rc_63 (Nat.blt y 64)) (Bool.rec (motive := fun _ => Nat → List mI) rc_62 rc_61 (Nat.blt y 62)) (Nat.blt y 63)) (Nat.blt y 65)) (Bool.rec (motive := fun _ => Nat → List mI) (Bool.rec (motive := fun _ => Nat → List mI) (Bool.rec (motive := fun _ => Nat → List mI) (Bool.rec (motive := fun _ => Nat → List mI) rc_60 rc_59 (Nat.blt y 60)) rc_58 (Nat.blt y 59)) (Bool.rec (motive := fun _ => Nat → List mI) rc_57 rc_56 (Nat.blt y 57)) (Nat.blt y 58)) (Bool.rec (motive := fun _ => Nat → List mI) (Bool.rec (motive := fun _ => Nat → List mI) rc_55 rc_54 (Nat.blt y 55)) (Bool.rec (motive := fun _ => Nat → List mI) rc_53 rc_52 (Nat.blt y 53)) (Nat.blt y 54)) (Nat.blt y 56)) (Nat.blt y 61)) (Bool.rec (motive := fun _ => Nat → List mI) (Bool.rec (motive := fun _ => Nat → List mI) (Bool.rec (motive := fun _ => Nat → List mI) (Bool.rec (motive := fun _ => Nat → List mI) (Bool.rec (motive := fun _ => Nat → List mI) rc_51 rc_50 (Nat.blt y 51)) rc_49 (Nat.blt y 50)) (Bool.rec (motive := fun _ => Nat → List mI) rc_48 rc_47 (Nat.blt y 48)) (Nat.blt y 49)) (Bool.rec (motive := fun _ => Nat → List mI) (Bool.rec (motive := fun _ => Nat → List mI) rc_46 rc_45 (Nat.blt y 46)) (Bool.rec (motive := fun _ => Nat → List mI) rc_44 rc_43 (Nat.blt y 44)) (Nat.blt y 45)) (Nat.blt y 47)) (Bool.rec (motive := fun _ => Nat → List mI) (Bool.rec (motive := fun _ => Nat → List mI) (Bool.rec (motive := fun _ => Nat → List mI) rc_42 rc_41 (Nat.blt y 42)) (Bool.rec (motive := fun _ => Nat → List mI) rc_40 rc_39 (Nat.blt y 40)) (Nat.blt y 41)) (Bool.rec (motive := fun _ => Nat → List mI) (Bool.rec (motive := fun _ => Nat → List mI) rc_38 rc_37 (Nat.blt y 38)) (Bool.rec (motive := fun _ => Nat → List mI) rc_36 rc_35 (Nat.blt y 36)) (Nat.blt y 37)) (Nat.blt y 39)) (Nat.blt y 43)) (Nat.blt y 52)) (Bool.rec (motive := fun _ => Nat → List mI) (Bool.rec (motive := fun _ => Nat → List mI) (Bool.rec (motive := fun _ => Nat → List mI) (Bool.rec (motive := fun _ => Nat → List mI) (Bool.rec (motive := fun _ => Nat → List mI) (Bool.rec (motive := fun _ => Nat → List mI) rc_34 rc_33 (Nat.blt y 34)) rc_32 (Nat.blt y 33)) (Bool.rec (motive := fun _ => Nat → List mI) rc_31 rc_30 (Nat.blt y 31)) (Nat.blt y 32)) (Bool.rec (motive := fun _ => Nat → List mI) (Bool.rec (motive := fun _ => Nat → List mI) rc_29 rc_28 (Nat.blt y 29)) (Bool.rec (motive := fun _ => Nat → List mI) rc_27 rc_26 (Nat.blt y 27)) (Nat.blt y 28)) (Nat.blt y 30)) (Bool.rec (motive := fun _ => Nat → List mI) (Bool.rec (motive := fun _ => Nat → List mI) (Bool.rec (motive := fun _ => Nat → List mI) (Bool.rec (motive := fun _ => Nat → List mI) rc_25 rc_24 (Nat.blt y 25)) rc_23 (Nat.blt y 24)) (Bool.rec (motive := fun _ => Nat → List mI) rc_22 rc_21 (Nat.blt y 22)) (Nat.blt y 23)) (Bool.rec (motive := fun _ => Nat → List mI) (Bool.rec (motive := fun _ => Nat → List mI) rc_20 rc_19 (Nat.blt y 20)) (Bool.rec (motive := fun _ => Nat → List mI) rc_18 rc_17 (Nat.blt y 18)) (Nat.blt y 19)) (Nat.blt y 21)) (Nat.blt y 26)) (Bool.rec (motive := fun _ => Nat → List mI) (Bool.rec (motive := fun _ => Nat → List mI) (Bool.rec (motive := fun _ => Nat → List mI) (Bool.rec (motive := fun _ => Nat → List mI) (Bool.rec (motive := fun _ => Nat → List mI) rc_16 rc_15 (Nat.blt y 16)) rc_14 (Nat.blt y 15)) (Bool.rec (motive := fun _ => Nat → List mI) rc_13 rc_12 (Nat.blt y 13)) (Nat.blt y 14)) (Bool.rec (motive := fun _ => Nat → List mI) (Bool.rec (motive := fun _ => Nat → List mI) rc_11 rc_10 (Nat.blt y 11)) (Bool.rec (motive := fun _ => Nat → List mI) rc_9 rc_8 (Nat.blt y 9)) (Nat.blt y 10)) (Nat.blt y 12)) (Bool.rec (motive := fun _ => Nat → List mI) (Bool.rec (motive := fun _ => Nat → List mI) (Bool.rec (motive := fun _ => Nat → List mI) rc_7 rc_6 (Nat.blt y 7)) (Bool.rec (motive := fun _ => Nat → List mI) rc_5 rc_4 (Nat.blt y 5)) (Nat.blt y 6)) (Bool.rec (motive := fun _ => Nat → List mI) (Bool.rec (motive := fun _ => Nat → List mI) rc_3 rc_2 (Nat.blt y 3)) (Bool.rec (motive := fun _ => Nat → List mI) rc_1 rc_0 (Nat.blt y 1)) (Nat.blt y 2)) (Nat.blt y 4)) (Nat.blt y 8)) (Nat.blt y 17)) (Nat.blt y 35)) (Nat.blt y 70))
noncomputable def nl : Nat → Nat := fun y => (Bool.rec (motive := fun _ => Nat) (Bool.rec (motive := fun _ => Nat) (Bool.rec (motive := fun _ => Nat) (Bool.rec (motive := fun _ => Nat) (Bool.rec (motive := fun _ => Nat) (Bool.rec (motive := fun _ => Nat) (Bool.rec (motive := fun _ => Nat) (Bool.rec (motive := fun _ => Nat) 3 1 (Nat.blt y 147)) 2 (Nat.blt y 146)) (Bool.rec (motive := fun _ => Nat) 2 3 (Nat.blt y 144)) (Nat.blt y 145)) (Bool.rec (motive := fun _ => Nat) (Bool.rec (motive := fun _ => Nat) 2 1 (Nat.blt y 142)) (Bool.rec (motive := fun _ => Nat) 1 12 (Nat.blt y 140)) (Nat.blt y 141)) (Nat.blt y 143)) (Bool.rec (motive := fun _ => Nat) (Bool.rec (motive := fun _ => Nat) (Bool.rec (motive := fun _ => Nat) (Bool.rec (motive := fun _ => Nat) 4 2 (Nat.blt y 138)) 5 (Nat.blt y 137)) (Bool.rec (motive := fun _ => Nat) 8 6 (Nat.blt y 135)) (Nat.blt y 136)) (Bool.rec (motive := fun _ => Nat) (Bool.rec (motive := fun _ => Nat) 2 4 (Nat.blt y 133)) (Bool.rec (motive := fun _ => Nat) 7 3 (Nat.blt y 131)) (Nat.blt y 132)) (Nat.blt y 134)) (Nat.blt y 139)) (Bool.rec (motive := fun _ => Nat) (Bool.rec (motive := fun _ => Nat) (Bool.rec (motive := fun _ => Nat) (Bool.rec (motive := fun _ => Nat) (Bool.rec (motive := fun _ => Nat) 6 5 (Nat.blt y 129)) 9 (Nat.blt y 128)) (Bool.rec (motive := fun _ => Nat) 3 7 (Nat.blt y 126)) (Nat.blt y 127)) (Bool.rec (motive := fun _ => Nat) (Bool.rec (motive := fun _ => Nat) 7 4 (Nat.blt y 124)) (Bool.rec (motive := fun _ => Nat) 1 3 (Nat.blt y 122)) (Nat.blt y 123)) (Nat.blt y 125)) (Bool.rec (motive := fun _ => Nat) (Bool.rec (motive := fun _ => Nat) (Bool.rec (motive := fun _ => Nat) 4 4 (Nat.blt y 120)) (Bool.rec (motive := fun _ => Nat) 2 4 (Nat.blt y 118)) (Nat.blt y 119)) (Bool.rec (motive := fun _ => Nat) (Bool.rec (motive := fun _ => Nat) 2 2 (Nat.blt y 116)) (Bool.rec (motive := fun _ => Nat) 4 6 (Nat.blt y 114)) (Nat.blt y 115)) (Nat.blt y 117)) (Nat.blt y 121)) (Nat.blt y 130)) (Bool.rec (motive := fun _ => Nat) (Bool.rec (motive := fun _ => Nat) (Bool.rec (motive := fun _ => Nat) (Bool.rec (motive := fun _ => Nat) (Bool.rec (motive := fun _ => Nat) (Bool.rec (motive := fun _ => Nat) 3 2 (Nat.blt y 112)) 2 (Nat.blt y 111)) (Bool.rec (motive := fun _ => Nat) 2 2 (Nat.blt y 109)) (Nat.blt y 110)) (Bool.rec (motive := fun _ => Nat) (Bool.rec (motive := fun _ => Nat) 3 3 (Nat.blt y 107)) (Bool.rec (motive := fun _ => Nat) 2 3 (Nat.blt y 105)) (Nat.blt y 106)) (Nat.blt y 108)) (Bool.rec (motive := fun _ => Nat) (Bool.rec (motive := fun _ => Nat) (Bool.rec (motive := fun _ => Nat) (Bool.rec (motive := fun _ => Nat) 1 2 (Nat.blt y 103)) 2 (Nat.blt y 94)) (Bool.rec (motive := fun _ => Nat) 3 2 (Nat.blt y 92)) (Nat.blt y 93)) (Bool.rec (motive := fun _ => Nat) (Bool.rec (motive := fun _ => Nat) 6 4 (Nat.blt y 90)) (Bool.rec (motive := fun _ => Nat) 4 4 (Nat.blt y 88)) (Nat.blt y 89)) (Nat.blt y 91)) (Nat.blt y 104)) (Bool.rec (motive := fun _ => Nat) (Bool.rec (motive := fun _ => Nat) (Bool.rec (motive := fun _ => Nat) (Bool.rec (motive := fun _ => Nat) (Bool.rec (motive := fun _ => Nat) 4 1 (Nat.blt y 86)) 1 (Nat.blt y 85)) (Bool.rec (motive := fun _ => Nat) 2 1 (Nat.blt y 83)) (Nat.blt y 84)) (Bool.rec (motive := fun _ => Nat) (Bool.rec (motive := fun _ => Nat) 2 6 (Nat.blt y 81)) (Bool.rec (motive := fun _ => Nat) 8 2 (Nat.blt y 79)) (Nat.blt y 80)) (Nat.blt y 82)) (Bool.rec (motive := fun _ => Nat) (Bool.rec (motive := fun _ => Nat) (Bool.rec (motive := fun _ => Nat) 2 5 (Nat.blt y 77)) (Bool.rec (motive := fun _ => Nat) 6 3 (Nat.blt y 75)) (Nat.blt y 76)) (Bool.rec (motive := fun _ => Nat) (Bool.rec (motive := fun _ => Nat) 2 4 (Nat.blt y 73)) (Bool.rec (motive := fun _ => Nat) 5 3 (Nat.blt y 71)) (Nat.blt y 72)) (Nat.blt y 74)) (Nat.blt y 78)) (Nat.blt y 87)) (Nat.blt y 113)) (Bool.rec (motive := fun _ => Nat) (Bool.rec (motive := fun _ => Nat) (Bool.rec (motive := fun _ => Nat) (Bool.rec (motive := fun _ => Nat) (Bool.rec (motive := fun _ => Nat) (Bool.rec (motive := fun _ => Nat) (Bool.rec (motive := fun _ => Nat) 3 3 (Nat.blt y 69)) 7 (Nat.blt y 68)) (Bool.rec (motive := fun _ => Nat) 2 4 (Nat.blt y 66)) (Nat.blt y 67)) (Bool.rec (motive := fun _ => Nat) (Bool.rec (motive := fun _ => Nat) 1 3 (Nat.blt y 64)) (Bool.rec (motive := fun _ => Nat) 4 4 (Nat.blt y 62)) (Nat.blt y 63)) (Nat.blt y 65)) (Bool.rec (motive := fun _ => Nat) (Bool.rec (motive := fun _ => Nat) (Bool.rec (motive := fun _ => Nat) (Bool.rec (motive := fun _ => Nat) 2 3 (Nat.blt y 60)) 6 (Nat.blt y 59)) (Bool.rec (motive := fun _ => Nat) 3 3 (Nat.blt y 57)) (Nat.blt y 58)) (Bool.rec (motive := fun _ => Nat) (Bool.rec (motive := fun _ => Nat) 3 3 (Nat.blt y 55)) (Bool.rec (motive := fun _ => Nat) 1 1 (Nat.blt y 53)) (Nat.blt y 54)) (Nat.blt y 56)) (Nat.blt y 61)) (Bool.rec (motive := fun _ => Nat) (Bool.rec (motive := fun _ => Nat) (Bool.rec (motive := fun _ => Nat) (Bool.rec (motive := fun _ => Nat) (Bool.rec (motive := fun _ => Nat) 2 2 (Nat.blt y 51)) 3 (Nat.blt y 50)) (Bool.rec (motive := fun _ => Nat) 2 2 (Nat.blt y 48)) (Nat.blt y 49)) (Bool.rec (motive := fun _ => Nat) (Bool.rec (motive := fun _ => Nat) 1 3 (Nat.blt y 46)) (Bool.rec (motive := fun _ => Nat) 3 1 (Nat.blt y 44)) (Nat.blt y 45)) (Nat.blt y 47)) (Bool.rec (motive := fun _ => Nat) (Bool.rec (motive := fun _ => Nat) (Bool.rec (motive := fun _ => Nat) 2 2 (Nat.blt y 42)) (Bool.rec (motive := fun _ => Nat) 3 1 (Nat.blt y 40)) (Nat.blt y 41)) (Bool.rec (motive := fun _ => Nat) (Bool.rec (motive := fun _ => Nat) 5 4 (Nat.blt y 38)) (Bool.rec (motive := fun _ => Nat) 1 2 (Nat.blt y 36)) (Nat.blt y 37)) (Nat.blt y 39)) (Nat.blt y 43)) (Nat.blt y 52)) (Bool.rec (motive := fun _ => Nat) (Bool.rec (motive := fun _ => Nat) (Bool.rec (motive := fun _ => Nat) (Bool.rec (motive := fun _ => Nat) (Bool.rec (motive := fun _ => Nat) (Bool.rec (motive := fun _ => Nat) 3 2 (Nat.blt y 34)) 3 (Nat.blt y 33)) (Bool.rec (motive := fun _ => Nat) 4 1 (Nat.blt y 31)) (Nat.blt y 32)) (Bool.rec (motive := fun _ => Nat) (Bool.rec (motive := fun _ => Nat) 2 8 (Nat.blt y 29)) (Bool.rec (motive := fun _ => Nat) 6 1 (Nat.blt y 27)) (Nat.blt y 28)) (Nat.blt y 30)) (Bool.rec (motive := fun _ => Nat) (Bool.rec (motive := fun _ => Nat) (Bool.rec (motive := fun _ => Nat) (Bool.rec (motive := fun _ => Nat) 4 5 (Nat.blt y 25)) 5 (Nat.blt y 24)) (Bool.rec (motive := fun _ => Nat) 5 5 (Nat.blt y 22)) (Nat.blt y 23)) (Bool.rec (motive := fun _ => Nat) (Bool.rec (motive := fun _ => Nat) 4 3 (Nat.blt y 20)) (Bool.rec (motive := fun _ => Nat) 7 5 (Nat.blt y 18)) (Nat.blt y 19)) (Nat.blt y 21)) (Nat.blt y 26)) (Bool.rec (motive := fun _ => Nat) (Bool.rec (motive := fun _ => Nat) (Bool.rec (motive := fun _ => Nat) (Bool.rec (motive := fun _ => Nat) (Bool.rec (motive := fun _ => Nat) 1 3 (Nat.blt y 16)) 2 (Nat.blt y 15)) (Bool.rec (motive := fun _ => Nat) 2 1 (Nat.blt y 13)) (Nat.blt y 14)) (Bool.rec (motive := fun _ => Nat) (Bool.rec (motive := fun _ => Nat) 5 4 (Nat.blt y 11)) (Bool.rec (motive := fun _ => Nat) 7 2 (Nat.blt y 9)) (Nat.blt y 10)) (Nat.blt y 12)) (Bool.rec (motive := fun _ => Nat) (Bool.rec (motive := fun _ => Nat) (Bool.rec (motive := fun _ => Nat) 2 2 (Nat.blt y 7)) (Bool.rec (motive := fun _ => Nat) 5 4 (Nat.blt y 5)) (Nat.blt y 6)) (Bool.rec (motive := fun _ => Nat) (Bool.rec (motive := fun _ => Nat) 4 5 (Nat.blt y 3)) (Bool.rec (motive := fun _ => Nat) 1 1 (Nat.blt y 1)) (Nat.blt y 2)) (Nat.blt y 4)) (Nat.blt y 8)) (Nat.blt y 17)) (Nat.blt y 35)) (Nat.blt y 70))
