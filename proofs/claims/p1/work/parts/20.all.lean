/-! ASSEMBLY: every run is a contract -/
def MS (y : Nat) : Prop := ∀ {p : Program} {l : Launch} {e : Env} {s : State} {m : MethodId} {args : Array Value} {below : List Frame} {meth : Method} {c : Code} {d : mD} {E : mE} {F : mF} {K0 : mK}, CX p l s m args meth c d E F y → ∀ b, BB p l e s m args below meth c d E F K0 y (gP y b) (rc y b)
def MA (y : Nat) : Prop := (∀ b, rc y b = []) ∨ (MS y ∧ gP y 0 = 0 ∧ plainName (gY y).cls = true)
theorem ms_0 : MS 0 := fun {p l e s m args below meth c d E F K0} C b => match b with
  | 0 => b_0_0 C
  | 1 => b_0_1 C
  | 2 => b_0_2 C
  | _ + 3 => bs_n
theorem ms_1 : MS 1 := fun {p l e s m args below meth c d E F K0} C b => match b with
  | 0 => b_1_0 C
  | _ + 1 => bs_n
theorem ms_2 : MS 2 := fun {p l e s m args below meth c d E F K0} C b => match b with
  | 0 => b_2_0 C
  | 1 => b_2_1 C
  | 2 => b_2_2 C
  | 3 => b_2_3 C
  | 4 => b_2_4 C
  | 5 => b_2_5 C
  | 6 => b_2_6 C
  | 7 => b_2_7 C
  | 8 => b_2_8 C
  | _ + 9 => bs_n
theorem ms_3 : MS 3 := fun {p l e s m args below meth c d E F K0} C b => match b with
  | 0 => b_3_0 C
  | _ + 1 => bs_n
theorem ms_4 : MS 4 := fun {p l e s m args below meth c d E F K0} C b => match b with
  | 0 => b_4_0 C
  | _ + 1 => bs_n
theorem ms_5 : MS 5 := fun {p l e s m args below meth c d E F K0} C b => match b with
  | 0 => b_5_0 C
  | 1 => b_5_1 C
  | 2 => b_5_2 C
  | 3 => b_5_3 C
  | 4 => b_5_4 C
  | 5 => b_5_5 C
  | 6 => b_5_6 C
  | 7 => b_5_7 C
  | _ + 8 => bs_n
theorem ms_6 : MS 6 := fun {p l e s m args below meth c d E F K0} C b => match b with
  | 0 => b_6_0 C
  | 1 => b_6_1 C
  | 2 => b_6_2 C
  | 3 => b_6_3 C
  | 4 => b_6_4 C
  | 5 => b_6_5 C
  | 6 => b_6_6 C
  | 7 => b_6_7 C
  | 8 => b_6_8 C
  | 9 => b_6_9 C
  | 10 => b_6_10 C
  | 11 => b_6_11 C
  | 12 => b_6_12 C
  | _ + 13 => bs_n
theorem ms_7 : MS 7 := fun {p l e s m args below meth c d E F K0} C b => match b with
  | 0 => b_7_0 C
  | 1 => b_7_1 C
  | 2 => b_7_2 C
  | _ + 3 => bs_n
theorem ms_8 : MS 8 := fun {p l e s m args below meth c d E F K0} C b => match b with
  | 0 => b_8_0 C
  | 1 => b_8_1 C
  | 2 => b_8_2 C
  | _ + 3 => bs_n
theorem ms_9 : MS 9 := fun {p l e s m args below meth c d E F K0} C b => match b with
  | 0 => b_9_0 C
  | _ + 1 => bs_n
theorem ms_10 : MS 10 := fun {p l e s m args below meth c d E F K0} C b => match b with
  | 0 => b_10_0 C
  | 1 => b_10_1 C
  | 2 => b_10_2 C
  | 3 => b_10_3 C
  | 4 => b_10_4 C
  | 5 => b_10_5 C
  | 6 => b_10_6 C
  | _ + 7 => bs_n
theorem ms_11 : MS 11 := fun {p l e s m args below meth c d E F K0} C b => match b with
  | 0 => b_11_0 C
  | 1 => b_11_1 C
  | 2 => b_11_2 C
  | 3 => b_11_3 C
  | _ + 4 => bs_n
theorem ms_12 : MS 12 := fun {p l e s m args below meth c d E F K0} C b => match b with
  | 0 => b_12_0 C
  | 1 => b_12_1 C
  | 2 => b_12_2 C
  | _ + 3 => bs_n
theorem ms_13 : MS 13 := fun {p l e s m args below meth c d E F K0} C b => match b with
  | 0 => b_13_0 C
  | 1 => b_13_1 C
  | 2 => b_13_2 C
  | _ + 3 => bs_n
theorem ms_14 : MS 14 := fun {p l e s m args below meth c d E F K0} C b => match b with
  | 0 => b_14_0 C
  | 1 => b_14_1 C
  | 2 => b_14_2 C
  | _ + 3 => bs_n
theorem ms_15 : MS 15 := fun {p l e s m args below meth c d E F K0} C b => match b with
  | 0 => b_15_0 C
  | 1 => b_15_1 C
  | 2 => b_15_2 C
  | _ + 3 => bs_n
theorem ms_16 : MS 16 := fun {p l e s m args below meth c d E F K0} C b => match b with
  | 0 => b_16_0 C
  | 1 => b_16_1 C
  | 2 => b_16_2 C
  | _ + 3 => bs_n
theorem ms_17 : MS 17 := fun {p l e s m args below meth c d E F K0} C b => match b with
  | 0 => b_17_0 C
  | _ + 1 => bs_n
theorem ms_18 : MS 18 := fun {p l e s m args below meth c d E F K0} C b => match b with
  | 0 => b_18_0 C
  | _ + 1 => bs_n
theorem ms_19 : MS 19 := fun {p l e s m args below meth c d E F K0} C b => match b with
  | 0 => b_19_0 C
  | 1 => b_19_1 C
  | 2 => b_19_2 C
  | 3 => b_19_3 C
  | 4 => b_19_4 C
  | _ + 5 => bs_n
theorem ms_20 : MS 20 := fun {p l e s m args below meth c d E F K0} C b => match b with
  | 0 => b_20_0 C
  | 1 => b_20_1 C
  | 2 => b_20_2 C
  | _ + 3 => bs_n
theorem ms_21 : MS 21 := fun {p l e s m args below meth c d E F K0} C b => match b with
  | 0 => b_21_0 C
  | 1 => b_21_1 C
  | 2 => b_21_2 C
  | _ + 3 => bs_n
theorem ms_22 : MS 22 := fun {p l e s m args below meth c d E F K0} C b => match b with
  | 0 => b_22_0 C
  | 1 => b_22_1 C
  | 2 => b_22_2 C
  | 3 => b_22_3 C
  | 4 => b_22_4 C
  | _ + 5 => bs_n
theorem ms_23 : MS 23 := fun {p l e s m args below meth c d E F K0} C b => match b with
  | 0 => b_23_0 C
  | 1 => b_23_1 C
  | 2 => b_23_2 C
  | _ + 3 => bs_n
theorem ms_24 : MS 24 := fun {p l e s m args below meth c d E F K0} C b => match b with
  | 0 => b_24_0 C
  | 1 => b_24_1 C
  | 2 => b_24_2 C
  | _ + 3 => bs_n
theorem ms_25 : MS 25 := fun {p l e s m args below meth c d E F K0} C b => match b with
  | 0 => b_25_0 C
  | 1 => b_25_1 C
  | 2 => b_25_2 C
  | _ + 3 => bs_n
theorem ms_26 : MS 26 := fun {p l e s m args below meth c d E F K0} C b => match b with
  | 0 => b_26_0 C
  | 1 => b_26_1 C
  | 2 => b_26_2 C
  | _ + 3 => bs_n
theorem ms_27 : MS 27 := fun {p l e s m args below meth c d E F K0} C b => match b with
  | 0 => b_27_0 C
  | 1 => b_27_1 C
  | 2 => b_27_2 C
  | _ + 3 => bs_n
theorem ms_28 : MS 28 := fun {p l e s m args below meth c d E F K0} C b => match b with
  | 0 => b_28_0 C
  | _ + 1 => bs_n
theorem ms_29 : MS 29 := fun {p l e s m args below meth c d E F K0} C b => match b with
  | 0 => b_29_0 C
  | 1 => b_29_1 C
  | _ + 2 => bs_n
theorem ms_30 : MS 30 := fun {p l e s m args below meth c d E F K0} C b => match b with
  | 0 => b_30_0 C
  | 1 => b_30_1 C
  | 2 => b_30_2 C
  | _ + 3 => bs_n
theorem ms_31 : MS 31 := fun {p l e s m args below meth c d E F K0} C b => match b with
  | 0 => b_31_0 C
  | 1 => b_31_1 C
  | 2 => b_31_2 C
  | _ + 3 => bs_n
theorem ms_32 : MS 32 := fun {p l e s m args below meth c d E F K0} C b => match b with
  | 0 => b_32_0 C
  | _ + 1 => bs_n
theorem ms_33 : MS 33 := fun {p l e s m args below meth c d E F K0} C b => match b with
  | 0 => b_33_0 C
  | 1 => b_33_1 C
  | 2 => b_33_2 C
  | 3 => b_33_3 C
  | 4 => b_33_4 C
  | 5 => b_33_5 C
  | _ + 6 => bs_n
theorem ms_34 : MS 34 := fun {p l e s m args below meth c d E F K0} C b => match b with
  | 0 => b_34_0 C
  | 1 => b_34_1 C
  | 2 => b_34_2 C
  | _ + 3 => bs_n
theorem ms_35 : MS 35 := fun {p l e s m args below meth c d E F K0} C b => match b with
  | 0 => b_35_0 C
  | 1 => b_35_1 C
  | 2 => b_35_2 C
  | _ + 3 => bs_n
theorem ms_36 : MS 36 := fun {p l e s m args below meth c d E F K0} C b => match b with
  | 0 => b_36_0 C
  | 1 => b_36_1 C
  | 2 => b_36_2 C
  | 3 => b_36_3 C
  | 4 => b_36_4 C
  | 5 => b_36_5 C
  | 6 => b_36_6 C
  | 7 => b_36_7 C
  | 8 => b_36_8 C
  | _ + 9 => bs_n
theorem ms_37 : MS 37 := fun {p l e s m args below meth c d E F K0} C b => match b with
  | 0 => b_37_0 C
  | 1 => b_37_1 C
  | 2 => b_37_2 C
  | _ + 3 => bs_n
theorem ms_38 : MS 38 := fun {p l e s m args below meth c d E F K0} C b => match b with
  | 0 => b_38_0 C
  | 1 => b_38_1 C
  | 2 => b_38_2 C
  | 3 => b_38_3 C
  | _ + 4 => bs_n
theorem ms_39 : MS 39 := fun {p l e s m args below meth c d E F K0} C b => match b with
  | 0 => b_39_0 C
  | _ + 1 => bs_n
theorem ms_40 : MS 40 := fun {p l e s m args below meth c d E F K0} C b => match b with
  | 0 => b_40_0 C
  | 1 => b_40_1 C
  | 2 => b_40_2 C
  | 3 => b_40_3 C
  | _ + 4 => bs_n
theorem ms_41 : MS 41 := fun {p l e s m args below meth c d E F K0} C b => match b with
  | 0 => b_41_0 C
  | 1 => b_41_1 C
  | 2 => b_41_2 C
  | 3 => b_41_3 C
  | 4 => b_41_4 C
  | 5 => b_41_5 C
  | 6 => b_41_6 C
  | 7 => b_41_7 C
  | 8 => b_41_8 C
  | 9 => b_41_9 C
  | 10 => b_41_10 C
  | _ + 11 => bs_n
theorem ms_42 : MS 42 := fun {p l e s m args below meth c d E F K0} C b => match b with
  | 0 => b_42_0 C
  | 1 => b_42_1 C
  | 2 => b_42_2 C
  | 3 => b_42_3 C
  | _ + 4 => bs_n
theorem ms_43 : MS 43 := fun {p l e s m args below meth c d E F K0} C b => match b with
  | 0 => b_43_0 C
  | 1 => b_43_1 C
  | 2 => b_43_2 C
  | _ + 3 => bs_n
theorem ms_44 : MS 44 := fun {p l e s m args below meth c d E F K0} C b => match b with
  | 0 => b_44_0 C
  | 1 => b_44_1 C
  | 2 => b_44_2 C
  | _ + 3 => bs_n
theorem ms_45 : MS 45 := fun {p l e s m args below meth c d E F K0} C b => match b with
  | 0 => b_45_0 C
  | 1 => b_45_1 C
  | 2 => b_45_2 C
  | _ + 3 => bs_n
theorem ms_46 : MS 46 := fun {p l e s m args below meth c d E F K0} C b => match b with
  | 0 => b_46_0 C
  | 1 => b_46_1 C
  | _ + 2 => bs_n
theorem ms_47 : MS 47 := fun {p l e s m args below meth c d E F K0} C b => match b with
  | 0 => b_47_0 C
  | 1 => b_47_1 C
  | 2 => b_47_2 C
  | _ + 3 => bs_n
theorem ms_48 : MS 48 := fun {p l e s m args below meth c d E F K0} C b => match b with
  | 0 => b_48_0 C
  | 1 => b_48_1 C
  | _ + 2 => bs_n
theorem ms_49 : MS 49 := fun {p l e s m args below meth c d E F K0} C b => match b with
  | 0 => b_49_0 C
  | _ + 1 => bs_n
theorem ms_50 : MS 50 := fun {p l e s m args below meth c d E F K0} C b => match b with
  | 0 => b_50_0 C
  | 1 => b_50_1 C
  | _ + 2 => bs_n
theorem ms_51 : MS 51 := fun {p l e s m args below meth c d E F K0} C b => match b with
  | 0 => b_51_0 C
  | 1 => b_51_1 C
  | 2 => b_51_2 C
  | 3 => b_51_3 C
  | _ + 4 => bs_n
theorem ms_52 : MS 52 := fun {p l e s m args below meth c d E F K0} C b => match b with
  | 0 => b_52_0 C
  | _ + 1 => bs_n
theorem ms_53 : MS 53 := fun {p l e s m args below meth c d E F K0} C b => match b with
  | 0 => b_53_0 C
  | 1 => b_53_1 C
  | 2 => b_53_2 C
  | 3 => b_53_3 C
  | 4 => b_53_4 C
  | _ + 5 => bs_n
theorem ms_54 : MS 54 := fun {p l e s m args below meth c d E F K0} C b => match b with
  | 0 => b_54_0 C
  | _ + 1 => bs_n
theorem ms_55 : MS 55 := fun {p l e s m args below meth c d E F K0} C b => match b with
  | 0 => b_55_0 C
  | _ + 1 => bs_n
theorem ms_56 : MS 56 := fun {p l e s m args below meth c d E F K0} C b => match b with
  | 0 => b_56_0 C
  | 1 => b_56_1 C
  | 2 => b_56_2 C
  | _ + 3 => bs_n
theorem ms_57 : MS 57 := fun {p l e s m args below meth c d E F K0} C b => match b with
  | 0 => b_57_0 C
  | _ + 1 => bs_n
theorem ms_58 : MS 58 := fun {p l e s m args below meth c d E F K0} C b => match b with
  | 0 => b_58_0 C
  | 1 => b_58_1 C
  | 2 => b_58_2 C
  | 3 => b_58_3 C
  | 4 => b_58_4 C
  | _ + 5 => bs_n
theorem ms_59 : MS 59 := fun {p l e s m args below meth c d E F K0} C b => match b with
  | 0 => b_59_0 C
  | 1 => b_59_1 C
  | 2 => b_59_2 C
  | _ + 3 => bs_n
theorem ms_60 : MS 60 := fun {p l e s m args below meth c d E F K0} C b => match b with
  | 0 => b_60_0 C
  | 1 => b_60_1 C
  | 2 => b_60_2 C
  | 3 => b_60_3 C
  | _ + 4 => bs_n
theorem ms_61 : MS 61 := fun {p l e s m args below meth c d E F K0} C b => match b with
  | 0 => b_61_0 C
  | _ + 1 => bs_n
theorem ms_62 : MS 62 := fun {p l e s m args below meth c d E F K0} C b => match b with
  | 0 => b_62_0 C
  | _ + 1 => bs_n
theorem ms_63 : MS 63 := fun {p l e s m args below meth c d E F K0} C b => match b with
  | 0 => b_63_0 C
  | _ + 1 => bs_n
theorem ms_64 : MS 64 := fun {p l e s m args below meth c d E F K0} C b => match b with
  | 0 => b_64_0 C
  | 1 => b_64_1 C
  | 2 => b_64_2 C
  | 3 => b_64_3 C
  | 4 => b_64_4 C
  | 5 => b_64_5 C
  | 6 => b_64_6 C
  | _ + 7 => bs_n
theorem ms_65 : MS 65 := fun {p l e s m args below meth c d E F K0} C b => match b with
  | 0 => b_65_0 C
  | 1 => b_65_1 C
  | 2 => b_65_2 C
  | 3 => b_65_3 C
  | 4 => b_65_4 C
  | 5 => b_65_5 C
  | _ + 6 => bs_n
theorem ms_66 : MS 66 := fun {p l e s m args below meth c d E F K0} C b => match b with
  | 0 => b_66_0 C
  | 1 => b_66_1 C
  | 2 => b_66_2 C
  | 3 => b_66_3 C
  | 4 => b_66_4 C
  | 5 => b_66_5 C
  | 6 => b_66_6 C
  | 7 => b_66_7 C
  | 8 => b_66_8 C
  | 9 => b_66_9 C
  | 10 => b_66_10 C
  | 11 => b_66_11 C
  | _ + 12 => bs_n
theorem ms_67 : MS 67 := fun {p l e s m args below meth c d E F K0} C b => match b with
  | 0 => b_67_0 C
  | 1 => b_67_1 C
  | 2 => b_67_2 C
  | _ + 3 => bs_n
theorem ms_68 : MS 68 := fun {p l e s m args below meth c d E F K0} C b => match b with
  | 0 => b_68_0 C
  | 1 => b_68_1 C
  | 2 => b_68_2 C
  | 3 => b_68_3 C
  | 4 => b_68_4 C
  | _ + 5 => bs_n
theorem ms_69 : MS 69 := fun {p l e s m args below meth c d E F K0} C b => match b with
  | 0 => b_69_0 C
  | 1 => b_69_1 C
  | 2 => b_69_2 C
  | _ + 3 => bs_n
theorem ms_70 : MS 70 := fun {p l e s m args below meth c d E F K0} C b => match b with
  | 0 => b_70_0 C
  | 1 => b_70_1 C
  | 2 => b_70_2 C
  | _ + 3 => bs_n
theorem ms_71 : MS 71 := fun {p l e s m args below meth c d E F K0} C b => match b with
  | 0 => b_71_0 C
  | 1 => b_71_1 C
  | 2 => b_71_2 C
  | 3 => b_71_3 C
  | 4 => b_71_4 C
  | _ + 5 => bs_n
theorem ms_72 : MS 72 := fun {p l e s m args below meth c d E F K0} C b => match b with
  | 0 => b_72_0 C
  | 1 => b_72_1 C
  | 2 => b_72_2 C
  | 3 => b_72_3 C
  | _ + 4 => bs_n
theorem ms_73 : MS 73 := fun {p l e s m args below meth c d E F K0} C b => match b with
  | 0 => b_73_0 C
  | 1 => b_73_1 C
  | 2 => b_73_2 C
  | _ + 3 => bs_n
theorem ms_74 : MS 74 := fun {p l e s m args below meth c d E F K0} C b => match b with
  | 0 => b_74_0 C
  | 1 => b_74_1 C
  | 2 => b_74_2 C
  | _ + 3 => bs_n
theorem ms_75 : MS 75 := fun {p l e s m args below meth c d E F K0} C b => match b with
  | 0 => b_75_0 C
  | 1 => b_75_1 C
  | 2 => b_75_2 C
  | 3 => b_75_3 C
  | 4 => b_75_4 C
  | _ + 5 => bs_n
theorem ms_76 : MS 76 := fun {p l e s m args below meth c d E F K0} C b => match b with
  | 0 => b_76_0 C
  | 1 => b_76_1 C
  | _ + 2 => bs_n
theorem ms_77 : MS 77 := fun {p l e s m args below meth c d E F K0} C b => match b with
  | 0 => b_77_0 C
  | 1 => b_77_1 C
  | 2 => b_77_2 C
  | 3 => b_77_3 C
  | 4 => b_77_4 C
  | 5 => b_77_5 C
  | 6 => b_77_6 C
  | 7 => b_77_7 C
  | 8 => b_77_8 C
  | 9 => b_77_9 C
  | _ + 10 => bs_n
theorem ms_78 : MS 78 := fun {p l e s m args below meth c d E F K0} C b => match b with
  | 0 => b_78_0 C
  | 1 => b_78_1 C
  | 2 => b_78_2 C
  | _ + 3 => bs_n
theorem ms_79 : MS 79 := fun {p l e s m args below meth c d E F K0} C b => match b with
  | 0 => b_79_0 C
  | 1 => b_79_1 C
  | 2 => b_79_2 C
  | 3 => b_79_3 C
  | _ + 4 => bs_n
theorem ms_80 : MS 80 := fun {p l e s m args below meth c d E F K0} C b => match b with
  | 0 => b_80_0 C
  | 1 => b_80_1 C
  | 2 => b_80_2 C
  | 3 => b_80_3 C
  | 4 => b_80_4 C
  | _ + 5 => bs_n
theorem ms_81 : MS 81 := fun {p l e s m args below meth c d E F K0} C b => match b with
  | 0 => b_81_0 C
  | 1 => b_81_1 C
  | 2 => b_81_2 C
  | 3 => b_81_3 C
  | _ + 4 => bs_n
theorem ms_82 : MS 82 := fun {p l e s m args below meth c d E F K0} C b => match b with
  | 0 => b_82_0 C
  | 1 => b_82_1 C
  | 2 => b_82_2 C
  | 3 => b_82_3 C
  | 4 => b_82_4 C
  | _ + 5 => bs_n
theorem ms_83 : MS 83 := fun {p l e s m args below meth c d E F K0} C b => match b with
  | 0 => b_83_0 C
  | _ + 1 => bs_n
theorem ms_84 : MS 84 := fun {p l e s m args below meth c d E F K0} C b => match b with
  | 0 => b_84_0 C
  | 1 => b_84_1 C
  | 2 => b_84_2 C
  | 3 => b_84_3 C
  | _ + 4 => bs_n
theorem ms_85 : MS 85 := fun {p l e s m args below meth c d E F K0} C b => match b with
  | 0 => b_85_0 C
  | 1 => b_85_1 C
  | 2 => b_85_2 C
  | 3 => b_85_3 C
  | 4 => b_85_4 C
  | _ + 5 => bs_n
theorem ms_86 : MS 86 := fun {p l e s m args below meth c d E F K0} C b => match b with
  | 0 => b_86_0 C
  | 1 => b_86_1 C
  | 2 => b_86_2 C
  | 3 => b_86_3 C
  | 4 => b_86_4 C
  | 5 => b_86_5 C
  | _ + 6 => bs_n
theorem ms_87 : MS 87 := fun {p l e s m args below meth c d E F K0} C b => match b with
  | 0 => b_87_0 C
  | 1 => b_87_1 C
  | 2 => b_87_2 C
  | _ + 3 => bs_n
theorem ms_88 : MS 88 := fun {p l e s m args below meth c d E F K0} C b => match b with
  | 0 => b_88_0 C
  | 1 => b_88_1 C
  | 2 => b_88_2 C
  | 3 => b_88_3 C
  | _ + 4 => bs_n
theorem ms_89 : MS 89 := fun {p l e s m args below meth c d E F K0} C b => match b with
  | 0 => b_89_0 C
  | 1 => b_89_1 C
  | 2 => b_89_2 C
  | 3 => b_89_3 C
  | 4 => b_89_4 C
  | 5 => b_89_5 C
  | 6 => b_89_6 C
  | 7 => b_89_7 C
  | _ + 8 => bs_n
theorem ms_90 : MS 90 := fun {p l e s m args below meth c d E F K0} C b => match b with
  | 0 => b_90_0 C
  | 1 => b_90_1 C
  | 2 => b_90_2 C
  | _ + 3 => bs_n
theorem ms_91 : MS 91 := fun {p l e s m args below meth c d E F K0} C b => match b with
  | 0 => b_91_0 C
  | 1 => b_91_1 C
  | _ + 2 => bs_n
theorem ms_92 : MS 92 := fun {p l e s m args below meth c d E F K0} C b => match b with
  | 0 => b_92_0 C
  | 1 => b_92_1 C
  | 2 => b_92_2 C
  | _ + 3 => bs_n
theorem ms_93 : MS 93 := fun {p l e s m args below meth c d E F K0} C b => match b with
  | 0 => b_93_0 C
  | 1 => b_93_1 C
  | 2 => b_93_2 C
  | 3 => b_93_3 C
  | 4 => b_93_4 C
  | 5 => b_93_5 C
  | 6 => b_93_6 C
  | 7 => b_93_7 C
  | 8 => b_93_8 C
  | 9 => b_93_9 C
  | 10 => b_93_10 C
  | 11 => b_93_11 C
  | _ + 12 => bs_n
theorem ms_94 : MS 94 := fun {p l e s m args below meth c d E F K0} C b => match b with
  | 0 => b_94_0 C
  | _ + 1 => bs_n
theorem ms_95 : MS 95 := fun {p l e s m args below meth c d E F K0} C b => match b with
  | 0 => b_95_0 C
  | _ + 1 => bs_n
theorem ms_96 : MS 96 := fun {p l e s m args below meth c d E F K0} C b => match b with
  | 0 => b_96_0 C
  | _ + 1 => bs_n
theorem ms_97 : MS 97 := fun {p l e s m args below meth c d E F K0} C b => match b with
  | 0 => b_97_0 C
  | _ + 1 => bs_n
theorem ms_98 : MS 98 := fun {p l e s m args below meth c d E F K0} C b => match b with
  | 0 => b_98_0 C
  | _ + 1 => bs_n
theorem ms_99 : MS 99 := fun {p l e s m args below meth c d E F K0} C b => match b with
  | 0 => b_99_0 C
  | 1 => b_99_1 C
  | 2 => b_99_2 C
  | 3 => b_99_3 C
  | 4 => b_99_4 C
  | 5 => b_99_5 C
  | 6 => b_99_6 C
  | 7 => b_99_7 C
  | 8 => b_99_8 C
  | 9 => b_99_9 C
  | 10 => b_99_10 C
  | 11 => b_99_11 C
  | _ + 12 => bs_n
theorem ms_100 : MS 100 := fun {p l e s m args below meth c d E F K0} C b => match b with
  | 0 => b_100_0 C
  | 1 => b_100_1 C
  | 2 => b_100_2 C
  | _ + 3 => bs_n
theorem ms_101 : MS 101 := fun {p l e s m args below meth c d E F K0} C b => match b with
  | 0 => b_101_0 C
  | 1 => b_101_1 C
  | 2 => b_101_2 C
  | _ + 3 => bs_n
theorem ms_102 : MS 102 := fun {p l e s m args below meth c d E F K0} C b => match b with
  | 0 => b_102_0 C
  | _ + 1 => bs_n
theorem ms_103 : MS 103 := fun {p l e s m args below meth c d E F K0} C b => match b with
  | 0 => b_103_0 C
  | 1 => b_103_1 C
  | 2 => b_103_2 C
  | 3 => b_103_3 C
  | _ + 4 => bs_n
theorem ms_104 : MS 104 := fun {p l e s m args below meth c d E F K0} C b => match b with
  | 0 => b_104_0 C
  | 1 => b_104_1 C
  | 2 => b_104_2 C
  | _ + 3 => bs_n
theorem ms_105 : MS 105 := fun {p l e s m args below meth c d E F K0} C b => match b with
  | 0 => b_105_0 C
  | 1 => b_105_1 C
  | 2 => b_105_2 C
  | 3 => b_105_3 C
  | 4 => b_105_4 C
  | 5 => b_105_5 C
  | 6 => b_105_6 C
  | _ + 7 => bs_n
theorem ms_106 : MS 106 := fun {p l e s m args below meth c d E F K0} C b => match b with
  | 0 => b_106_0 C
  | 1 => b_106_1 C
  | 2 => b_106_2 C
  | _ + 3 => bs_n
theorem ms_107 : MS 107 := fun {p l e s m args below meth c d E F K0} C b => match b with
  | 0 => b_107_0 C
  | 1 => b_107_1 C
  | 2 => b_107_2 C
  | 3 => b_107_3 C
  | 4 => b_107_4 C
  | 5 => b_107_5 C
  | 6 => b_107_6 C
  | _ + 7 => bs_n
theorem ms_108 : MS 108 := fun {p l e s m args below meth c d E F K0} C b => match b with
  | 0 => b_108_0 C
  | _ + 1 => bs_n
theorem ms_109 : MS 109 := fun {p l e s m args below meth c d E F K0} C b => match b with
  | 0 => b_109_0 C
  | 1 => b_109_1 C
  | 2 => b_109_2 C
  | _ + 3 => bs_n
theorem ms_110 : MS 110 := fun {p l e s m args below meth c d E F K0} C b => match b with
  | 0 => b_110_0 C
  | 1 => b_110_1 C
  | 2 => b_110_2 C
  | 3 => b_110_3 C
  | 4 => b_110_4 C
  | 5 => b_110_5 C
  | 6 => b_110_6 C
  | _ + 7 => bs_n
theorem ms_111 : MS 111 := fun {p l e s m args below meth c d E F K0} C b => match b with
  | 0 => b_111_0 C
  | 1 => b_111_1 C
  | 2 => b_111_2 C
  | 3 => b_111_3 C
  | _ + 4 => bs_n
theorem ms_112 : MS 112 := fun {p l e s m args below meth c d E F K0} C b => match b with
  | 0 => b_112_0 C
  | 1 => b_112_1 C
  | 2 => b_112_2 C
  | _ + 3 => bs_n
theorem ms_113 : MS 113 := fun {p l e s m args below meth c d E F K0} C b => match b with
  | 0 => b_113_0 C
  | 1 => b_113_1 C
  | 2 => b_113_2 C
  | 3 => b_113_3 C
  | 4 => b_113_4 C
  | _ + 5 => bs_n
theorem ms_114 : MS 114 := fun {p l e s m args below meth c d E F K0} C b => match b with
  | 0 => b_114_0 C
  | 1 => b_114_1 C
  | 2 => b_114_2 C
  | 3 => b_114_3 C
  | _ + 4 => bs_n
theorem ms_115 : MS 115 := fun {p l e s m args below meth c d E F K0} C b => match b with
  | 0 => b_115_0 C
  | 1 => b_115_1 C
  | 2 => b_115_2 C
  | _ + 3 => bs_n
theorem ms_116 : MS 116 := fun {p l e s m args below meth c d E F K0} C b => match b with
  | 0 => b_116_0 C
  | 1 => b_116_1 C
  | _ + 2 => bs_n
theorem ms_117 : MS 117 := fun {p l e s m args below meth c d E F K0} C b => match b with
  | 0 => b_117_0 C
  | 1 => b_117_1 C
  | 2 => b_117_2 C
  | 3 => b_117_3 C
  | 4 => b_117_4 C
  | _ + 5 => bs_n
theorem ms_118 : MS 118 := fun {p l e s m args below meth c d E F K0} C b => match b with
  | 0 => b_118_0 C
  | 1 => b_118_1 C
  | 2 => b_118_2 C
  | 3 => b_118_3 C
  | _ + 4 => bs_n
theorem ms_119 : MS 119 := fun {p l e s m args below meth c d E F K0} C b => match b with
  | 0 => b_119_0 C
  | 1 => b_119_1 C
  | 2 => b_119_2 C
  | 3 => b_119_3 C
  | 4 => b_119_4 C
  | 5 => b_119_5 C
  | 6 => b_119_6 C
  | 7 => b_119_7 C
  | 8 => b_119_8 C
  | 9 => b_119_9 C
  | 10 => b_119_10 C
  | 11 => b_119_11 C
  | 12 => b_119_12 C
  | 13 => b_119_13 C
  | 14 => b_119_14 C
  | _ + 15 => bs_n
theorem ms_120 : MS 120 := fun {p l e s m args below meth c d E F K0} C b => match b with
  | 0 => b_120_0 C
  | 1 => b_120_1 C
  | 2 => b_120_2 C
  | 3 => b_120_3 C
  | 4 => b_120_4 C
  | 5 => b_120_5 C
  | 6 => b_120_6 C
  | 7 => b_120_7 C
  | 8 => b_120_8 C
  | 9 => b_120_9 C
  | _ + 10 => bs_n
theorem ms_121 : MS 121 := fun {p l e s m args below meth c d E F K0} C b => match b with
  | 0 => b_121_0 C
  | 1 => b_121_1 C
  | 2 => b_121_2 C
  | 3 => b_121_3 C
  | 4 => b_121_4 C
  | 5 => b_121_5 C
  | 6 => b_121_6 C
  | 7 => b_121_7 C
  | 8 => b_121_8 C
  | 9 => b_121_9 C
  | 10 => b_121_10 C
  | 11 => b_121_11 C
  | 12 => b_121_12 C
  | 13 => b_121_13 C
  | 14 => b_121_14 C
  | _ + 15 => bs_n
theorem ms_122 : MS 122 := fun {p l e s m args below meth c d E F K0} C b => match b with
  | 0 => b_122_0 C
  | 1 => b_122_1 C
  | 2 => b_122_2 C
  | 3 => b_122_3 C
  | 4 => b_122_4 C
  | _ + 5 => bs_n
theorem ms_123 : MS 123 := fun {p l e s m args below meth c d E F K0} C b => match b with
  | 0 => b_123_0 C
  | 1 => b_123_1 C
  | 2 => b_123_2 C
  | 3 => b_123_3 C
  | 4 => b_123_4 C
  | 5 => b_123_5 C
  | 6 => b_123_6 C
  | 7 => b_123_7 C
  | 8 => b_123_8 C
  | _ + 9 => bs_n
theorem ms_124 : MS 124 := fun {p l e s m args below meth c d E F K0} C b => match b with
  | 0 => b_124_0 C
  | 1 => b_124_1 C
  | 2 => b_124_2 C
  | 3 => b_124_3 C
  | _ + 4 => bs_n
theorem ms_125 : MS 125 := fun {p l e s m args below meth c d E F K0} C b => match b with
  | 0 => b_125_0 C
  | _ + 1 => bs_n
theorem ms_126 : MS 126 := fun {p l e s m args below meth c d E F K0} C b => match b with
  | 0 => b_126_0 C
  | 1 => b_126_1 C
  | 2 => b_126_2 C
  | 3 => b_126_3 C
  | 4 => b_126_4 C
  | 5 => b_126_5 C
  | 6 => b_126_6 C
  | 7 => b_126_7 C
  | 8 => b_126_8 C
  | 9 => b_126_9 C
  | 10 => b_126_10 C
  | 11 => b_126_11 C
  | _ + 12 => bs_n
theorem ms_127 : MS 127 := fun {p l e s m args below meth c d E F K0} C b => match b with
  | 0 => b_127_0 C
  | 1 => b_127_1 C
  | 2 => b_127_2 C
  | 3 => b_127_3 C
  | 4 => b_127_4 C
  | 5 => b_127_5 C
  | 6 => b_127_6 C
  | 7 => b_127_7 C
  | 8 => b_127_8 C
  | 9 => b_127_9 C
  | 10 => b_127_10 C
  | 11 => b_127_11 C
  | 12 => b_127_12 C
  | _ + 13 => bs_n
theorem ms_128 : MS 128 := fun {p l e s m args below meth c d E F K0} C b => match b with
  | 0 => b_128_0 C
  | 1 => b_128_1 C
  | 2 => b_128_2 C
  | 3 => b_128_3 C
  | 4 => b_128_4 C
  | 5 => b_128_5 C
  | _ + 6 => bs_n
theorem ms_129 : MS 129 := fun {p l e s m args below meth c d E F K0} C b => match b with
  | 0 => b_129_0 C
  | 1 => b_129_1 C
  | 2 => b_129_2 C
  | _ + 3 => bs_n
theorem ms_130 : MS 130 := fun {p l e s m args below meth c d E F K0} C b => match b with
  | 0 => b_130_0 C
  | 1 => b_130_1 C
  | 2 => b_130_2 C
  | 3 => b_130_3 C
  | 4 => b_130_4 C
  | 5 => b_130_5 C
  | 6 => b_130_6 C
  | _ + 7 => bs_n
theorem ms_131 : MS 131 := fun {p l e s m args below meth c d E F K0} C b => match b with
  | 0 => b_131_0 C
  | 1 => b_131_1 C
  | 2 => b_131_2 C
  | 3 => b_131_3 C
  | 4 => b_131_4 C
  | 5 => b_131_5 C
  | 6 => b_131_6 C
  | 7 => b_131_7 C
  | 8 => b_131_8 C
  | 9 => b_131_9 C
  | 10 => b_131_10 C
  | 11 => b_131_11 C
  | 12 => b_131_12 C
  | 13 => b_131_13 C
  | 14 => b_131_14 C
  | 15 => b_131_15 C
  | 16 => b_131_16 C
  | _ + 17 => bs_n
theorem ms_132 : MS 132 := fun {p l e s m args below meth c d E F K0} C b => match b with
  | 0 => b_132_0 C
  | 1 => b_132_1 C
  | _ + 2 => bs_n
theorem ms_133 : MS 133 := fun {p l e s m args below meth c d E F K0} C b => match b with
  | 0 => b_133_0 C
  | 1 => b_133_1 C
  | _ + 2 => bs_n
theorem ms_134 : MS 134 := fun {p l e s m args below meth c d E F K0} C b => match b with
  | 0 => b_134_0 C
  | 1 => b_134_1 C
  | 2 => b_134_2 C
  | 3 => b_134_3 C
  | 4 => b_134_4 C
  | 5 => b_134_5 C
  | 6 => b_134_6 C
  | 7 => b_134_7 C
  | 8 => b_134_8 C
  | 9 => b_134_9 C
  | 10 => b_134_10 C
  | 11 => b_134_11 C
  | _ + 12 => bs_n
theorem ms_135 : MS 135 := fun {p l e s m args below meth c d E F K0} C b => match b with
  | 0 => b_135_0 C
  | 1 => b_135_1 C
  | 2 => b_135_2 C
  | _ + 3 => bs_n
theorem ms_138 : MS 138 := fun {p l e s m args below meth c d E F K0} C b => match b with
  | 0 => b_138_0 C
  | _ + 1 => bs_n
theorem ms_139 : MS 139 := fun {p l e s m args below meth c d E F K0} C b => match b with
  | 0 => b_139_0 C
  | 1 => b_139_1 C
  | 2 => b_139_2 C
  | _ + 3 => bs_n
theorem all_ms : ∀ y, y < 140 → MA y
  | 0, _ => Or.inr ⟨ms_0, rfl, by decide +kernel⟩
  | 1, _ => Or.inr ⟨ms_1, rfl, by decide +kernel⟩
  | 2, _ => Or.inr ⟨ms_2, rfl, by decide +kernel⟩
  | 3, _ => Or.inr ⟨ms_3, rfl, by decide +kernel⟩
  | 4, _ => Or.inr ⟨ms_4, rfl, by decide +kernel⟩
  | 5, _ => Or.inr ⟨ms_5, rfl, by decide +kernel⟩
  | 6, _ => Or.inr ⟨ms_6, rfl, by decide +kernel⟩
  | 7, _ => Or.inr ⟨ms_7, rfl, by decide +kernel⟩
  | 8, _ => Or.inr ⟨ms_8, rfl, by decide +kernel⟩
  | 9, _ => Or.inr ⟨ms_9, rfl, by decide +kernel⟩
  | 10, _ => Or.inr ⟨ms_10, rfl, by decide +kernel⟩
  | 11, _ => Or.inr ⟨ms_11, rfl, by decide +kernel⟩
  | 12, _ => Or.inr ⟨ms_12, rfl, by decide +kernel⟩
  | 13, _ => Or.inr ⟨ms_13, rfl, by decide +kernel⟩
  | 14, _ => Or.inr ⟨ms_14, rfl, by decide +kernel⟩
  | 15, _ => Or.inr ⟨ms_15, rfl, by decide +kernel⟩
  | 16, _ => Or.inr ⟨ms_16, rfl, by decide +kernel⟩
  | 17, _ => Or.inr ⟨ms_17, rfl, by decide +kernel⟩
  | 18, _ => Or.inr ⟨ms_18, rfl, by decide +kernel⟩
  | 19, _ => Or.inr ⟨ms_19, rfl, by decide +kernel⟩
  | 20, _ => Or.inr ⟨ms_20, rfl, by decide +kernel⟩
  | 21, _ => Or.inr ⟨ms_21, rfl, by decide +kernel⟩
  | 22, _ => Or.inr ⟨ms_22, rfl, by decide +kernel⟩
  | 23, _ => Or.inr ⟨ms_23, rfl, by decide +kernel⟩
  | 24, _ => Or.inr ⟨ms_24, rfl, by decide +kernel⟩
  | 25, _ => Or.inr ⟨ms_25, rfl, by decide +kernel⟩
  | 26, _ => Or.inr ⟨ms_26, rfl, by decide +kernel⟩
  | 27, _ => Or.inr ⟨ms_27, rfl, by decide +kernel⟩
  | 28, _ => Or.inr ⟨ms_28, rfl, by decide +kernel⟩
  | 29, _ => Or.inr ⟨ms_29, rfl, by decide +kernel⟩
  | 30, _ => Or.inr ⟨ms_30, rfl, by decide +kernel⟩
  | 31, _ => Or.inr ⟨ms_31, rfl, by decide +kernel⟩
  | 32, _ => Or.inr ⟨ms_32, rfl, by decide +kernel⟩
  | 33, _ => Or.inr ⟨ms_33, rfl, by decide +kernel⟩
  | 34, _ => Or.inr ⟨ms_34, rfl, by decide +kernel⟩
  | 35, _ => Or.inr ⟨ms_35, rfl, by decide +kernel⟩
  | 36, _ => Or.inr ⟨ms_36, rfl, by decide +kernel⟩
  | 37, _ => Or.inr ⟨ms_37, rfl, by decide +kernel⟩
  | 38, _ => Or.inr ⟨ms_38, rfl, by decide +kernel⟩
  | 39, _ => Or.inr ⟨ms_39, rfl, by decide +kernel⟩
  | 40, _ => Or.inr ⟨ms_40, rfl, by decide +kernel⟩
  | 41, _ => Or.inr ⟨ms_41, rfl, by decide +kernel⟩
  | 42, _ => Or.inr ⟨ms_42, rfl, by decide +kernel⟩
  | 43, _ => Or.inr ⟨ms_43, rfl, by decide +kernel⟩
  | 44, _ => Or.inr ⟨ms_44, rfl, by decide +kernel⟩
  | 45, _ => Or.inr ⟨ms_45, rfl, by decide +kernel⟩
  | 46, _ => Or.inr ⟨ms_46, rfl, by decide +kernel⟩
  | 47, _ => Or.inr ⟨ms_47, rfl, by decide +kernel⟩
  | 48, _ => Or.inr ⟨ms_48, rfl, by decide +kernel⟩
  | 49, _ => Or.inr ⟨ms_49, rfl, by decide +kernel⟩
  | 50, _ => Or.inr ⟨ms_50, rfl, by decide +kernel⟩
  | 51, _ => Or.inr ⟨ms_51, rfl, by decide +kernel⟩
  | 52, _ => Or.inr ⟨ms_52, rfl, by decide +kernel⟩
  | 53, _ => Or.inr ⟨ms_53, rfl, by decide +kernel⟩
  | 54, _ => Or.inr ⟨ms_54, rfl, by decide +kernel⟩
  | 55, _ => Or.inr ⟨ms_55, rfl, by decide +kernel⟩
  | 56, _ => Or.inr ⟨ms_56, rfl, by decide +kernel⟩
  | 57, _ => Or.inr ⟨ms_57, rfl, by decide +kernel⟩
  | 58, _ => Or.inr ⟨ms_58, rfl, by decide +kernel⟩
  | 59, _ => Or.inr ⟨ms_59, rfl, by decide +kernel⟩
  | 60, _ => Or.inr ⟨ms_60, rfl, by decide +kernel⟩
  | 61, _ => Or.inr ⟨ms_61, rfl, by decide +kernel⟩
  | 62, _ => Or.inr ⟨ms_62, rfl, by decide +kernel⟩
  | 63, _ => Or.inr ⟨ms_63, rfl, by decide +kernel⟩
  | 64, _ => Or.inr ⟨ms_64, rfl, by decide +kernel⟩
  | 65, _ => Or.inr ⟨ms_65, rfl, by decide +kernel⟩
  | 66, _ => Or.inr ⟨ms_66, rfl, by decide +kernel⟩
  | 67, _ => Or.inr ⟨ms_67, rfl, by decide +kernel⟩
  | 68, _ => Or.inr ⟨ms_68, rfl, by decide +kernel⟩
  | 69, _ => Or.inr ⟨ms_69, rfl, by decide +kernel⟩
  | 70, _ => Or.inr ⟨ms_70, rfl, by decide +kernel⟩
  | 71, _ => Or.inr ⟨ms_71, rfl, by decide +kernel⟩
  | 72, _ => Or.inr ⟨ms_72, rfl, by decide +kernel⟩
  | 73, _ => Or.inr ⟨ms_73, rfl, by decide +kernel⟩
  | 74, _ => Or.inr ⟨ms_74, rfl, by decide +kernel⟩
  | 75, _ => Or.inr ⟨ms_75, rfl, by decide +kernel⟩
  | 76, _ => Or.inr ⟨ms_76, rfl, by decide +kernel⟩
  | 77, _ => Or.inr ⟨ms_77, rfl, by decide +kernel⟩
  | 78, _ => Or.inr ⟨ms_78, rfl, by decide +kernel⟩
  | 79, _ => Or.inr ⟨ms_79, rfl, by decide +kernel⟩
  | 80, _ => Or.inr ⟨ms_80, rfl, by decide +kernel⟩
  | 81, _ => Or.inr ⟨ms_81, rfl, by decide +kernel⟩
  | 82, _ => Or.inr ⟨ms_82, rfl, by decide +kernel⟩
  | 83, _ => Or.inr ⟨ms_83, rfl, by decide +kernel⟩
  | 84, _ => Or.inr ⟨ms_84, rfl, by decide +kernel⟩
  | 85, _ => Or.inr ⟨ms_85, rfl, by decide +kernel⟩
  | 86, _ => Or.inr ⟨ms_86, rfl, by decide +kernel⟩
  | 87, _ => Or.inr ⟨ms_87, rfl, by decide +kernel⟩
  | 88, _ => Or.inr ⟨ms_88, rfl, by decide +kernel⟩
  | 89, _ => Or.inr ⟨ms_89, rfl, by decide +kernel⟩
  | 90, _ => Or.inr ⟨ms_90, rfl, by decide +kernel⟩
  | 91, _ => Or.inr ⟨ms_91, rfl, by decide +kernel⟩
  | 92, _ => Or.inr ⟨ms_92, rfl, by decide +kernel⟩
  | 93, _ => Or.inr ⟨ms_93, rfl, by decide +kernel⟩
  | 94, _ => Or.inr ⟨ms_94, rfl, by decide +kernel⟩
  | 95, _ => Or.inr ⟨ms_95, rfl, by decide +kernel⟩
  | 96, _ => Or.inr ⟨ms_96, rfl, by decide +kernel⟩
  | 97, _ => Or.inr ⟨ms_97, rfl, by decide +kernel⟩
  | 98, _ => Or.inr ⟨ms_98, rfl, by decide +kernel⟩
  | 99, _ => Or.inr ⟨ms_99, rfl, by decide +kernel⟩
  | 100, _ => Or.inr ⟨ms_100, rfl, by decide +kernel⟩
  | 101, _ => Or.inr ⟨ms_101, rfl, by decide +kernel⟩
  | 102, _ => Or.inr ⟨ms_102, rfl, by decide +kernel⟩
  | 103, _ => Or.inr ⟨ms_103, rfl, by decide +kernel⟩
  | 104, _ => Or.inr ⟨ms_104, rfl, by decide +kernel⟩
  | 105, _ => Or.inr ⟨ms_105, rfl, by decide +kernel⟩
  | 106, _ => Or.inr ⟨ms_106, rfl, by decide +kernel⟩
  | 107, _ => Or.inr ⟨ms_107, rfl, by decide +kernel⟩
  | 108, _ => Or.inr ⟨ms_108, rfl, by decide +kernel⟩
  | 109, _ => Or.inr ⟨ms_109, rfl, by decide +kernel⟩
  | 110, _ => Or.inr ⟨ms_110, rfl, by decide +kernel⟩
  | 111, _ => Or.inr ⟨ms_111, rfl, by decide +kernel⟩
  | 112, _ => Or.inr ⟨ms_112, rfl, by decide +kernel⟩
  | 113, _ => Or.inr ⟨ms_113, rfl, by decide +kernel⟩
  | 114, _ => Or.inr ⟨ms_114, rfl, by decide +kernel⟩
  | 115, _ => Or.inr ⟨ms_115, rfl, by decide +kernel⟩
  | 116, _ => Or.inr ⟨ms_116, rfl, by decide +kernel⟩
  | 117, _ => Or.inr ⟨ms_117, rfl, by decide +kernel⟩
  | 118, _ => Or.inr ⟨ms_118, rfl, by decide +kernel⟩
  | 119, _ => Or.inr ⟨ms_119, rfl, by decide +kernel⟩
  | 120, _ => Or.inr ⟨ms_120, rfl, by decide +kernel⟩
  | 121, _ => Or.inr ⟨ms_121, rfl, by decide +kernel⟩
  | 122, _ => Or.inr ⟨ms_122, rfl, by decide +kernel⟩
  | 123, _ => Or.inr ⟨ms_123, rfl, by decide +kernel⟩
  | 124, _ => Or.inr ⟨ms_124, rfl, by decide +kernel⟩
  | 125, _ => Or.inr ⟨ms_125, rfl, by decide +kernel⟩
  | 126, _ => Or.inr ⟨ms_126, rfl, by decide +kernel⟩
  | 127, _ => Or.inr ⟨ms_127, rfl, by decide +kernel⟩
  | 128, _ => Or.inr ⟨ms_128, rfl, by decide +kernel⟩
  | 129, _ => Or.inr ⟨ms_129, rfl, by decide +kernel⟩
  | 130, _ => Or.inr ⟨ms_130, rfl, by decide +kernel⟩
  | 131, _ => Or.inr ⟨ms_131, rfl, by decide +kernel⟩
  | 132, _ => Or.inr ⟨ms_132, rfl, by decide +kernel⟩
  | 133, _ => Or.inr ⟨ms_133, rfl, by decide +kernel⟩
  | 134, _ => Or.inr ⟨ms_134, rfl, by decide +kernel⟩
  | 135, _ => Or.inr ⟨ms_135, rfl, by decide +kernel⟩
  | 136, _ => Or.inl (fun _ => rfl)
  | 137, _ => Or.inl (fun _ => rfl)
  | 138, _ => Or.inr ⟨ms_138, rfl, by decide +kernel⟩
  | 139, _ => Or.inr ⟨ms_139, rfl, by decide +kernel⟩
  | n + 140, h => absurd h (by omega)
theorem rc_big (y b : Nat) (h : ¬ y < 140) : rc y b = [] := by
  obtain ⟨k, rfl⟩ : ∃ k, y = k + 140 := ⟨y - 140, by omega⟩
  rfl
theorem mm_en_s {as : List mV} : ∀ {n : Nat} {k : mL → Bool} (d : mD), mm_en n as k = true → as.length ≤ n ∧ (∀ a ∈ as, (dn d a).category = 1) ∧ k (as.map some ++ List.replicate (n - as.length) none) = true := by
  induction as with
  | nil =>
    intro n
    induction n with
    | zero => exact fun d h => ⟨Nat.le_refl _, (fun a ha => by cases ha), h⟩
    | succ n ih =>
      intro k d h
      obtain ⟨-, h2, h3⟩ := ih (k := fun L => k (none :: L)) d h
      exact ⟨Nat.zero_le _, h2, h3⟩
  | cons a as ih =>
    intro n k d h
    cases n with
    | zero => cases h
    | succ n =>
      obtain ⟨h1, h2⟩ := mm_c1_s d h
      obtain ⟨g1, g2, g3⟩ := ih (n := n) (k := fun L => k (some a :: L)) d h2
      refine ⟨Nat.succ_le_succ g1, fun x hx => ?_, ?_⟩
      · rcases List.mem_cons.mp hx with rfl | hx
        · exact h1
        · exact g2 x hx
      · rw [List.length_cons, Nat.succ_sub_succ]
        exact g3
theorem lvo_none (d : mD) (k i : Nat) : lvo d i (List.replicate k none) = [] := by
  induction k generalizing i with
  | zero => rfl
  | succ k ih => rw [List.replicate_succ]; exact ih (i + 1)
theorem lvo_args (d : mD) (as : List mV) (k : Nat) (h : ∀ a ∈ as, (dn d a).category = 1) : ∀ i, lvo d i (as.map some ++ List.replicate k none) = lv_args i (as.map (dn d)) := by
  induction as with
  | nil => exact fun i => lvo_none d k i
  | cons a as ih =>
    intro i
    have e1 := h a List.mem_cons_self
    show (i, dn d a) :: lvo d (i + 1) _ = (i, dn d a) :: lv_args (if (dn d a).category = 2 then i + 2 else i + 1) _
    rw [if_neg (by rw [e1]; decide), ← ih (fun x hx => h x (List.mem_cons_of_mem _ hx))]
    rfl
theorem fr_s {p : Program} {l : Launch} {e : Env} {s : State} {m : MethodId} {args : Array Value} {below : List Frame} {meth : Method} {c : Code} {d : mD} {E : mE} {F : mF} {K0 : mK} {y : Nat} (M : MS y) (C : CX p l s m args meth c d E F y) {call : mA} (hc : cOK l d E call) {Z : Nat → mN}
    (hZ : ∀ b L S h, Z b L S h = true → OKs p l e (gM y) s m args below meth c (MQ below (QcM d E K0 (gM y).cells) args s (gM y).cells (gM y).slots (fun q => d.1 ≤ q)) d E (nl y) (gP y b) L S h) :
    ∀ n b L S h, fr F call n (rc y) b L S h K0 Z = true → OKs p l e (gM y) s m args below meth c (MQ below (QcM d E K0 (gM y).cells) args s (gM y).cells (gM y).slots (fun q => d.1 ≤ q)) d E (nl y) (gP y b) L S h := by
  intro n
  induction n with
  | zero => exact fun b L S h hi => hZ b L S h hi
  | succ n ih =>
    intro b L S h hi
    exact M C b call (fun b L S h => fr F call n (rc y) b L S h K0 Z) K0 L S h hc ih rfl hi
theorem bl_rc0 {F : mF} {call : mA} {Z : Nat → mN} {y : Nat} (h : ∀ b, rc y b = []) {n : Nat} {b : Nat} {L : mL} {S : List mV} {h' : mH} {K : mK} (hi : fr F call (n + 1) (rc y) b L S h' K Z = true) : False := by
  have h1 : bl (rc y b) F call (fun b L S h => fr F call n (rc y) b L S h K Z) K L S h' = true := hi
  rw [h b] at h1
  cases h1
/-- a frame's run, with what is asked where its jumps end, is a contract -/
theorem fr_m {l : Launch} {d : mD} {E : mE} {F : mF} (hF : FOK d F) {y : Nat} (hA : MS y ∧ gP y 0 = 0 ∧ plainName (gY y).cls = true) {call : mA} (hc : cOK l d E call) {as : List mV} {hp : List mC} {K : mK}
    (hrun : ∀ {p : Program} {e : Env} {s : State} {m : MethodId} {args : Array Value} {below : List Frame} {meth : Method} {c : Code}, CX p l s m args meth c d E F y → OKs p l e (gM y) s m args below meth c (MQ below (QcM d E K (gM y).cells) args s (gM y).cells (gM y).slots (fun q => d.1 ≤ q)) d E (nl y) 0 (as.map some ++ List.replicate (nl y - as.length) none) [] (d.2.2.2.2, 0, 0, hp))
    (h1 : as.length ≤ nl y) (h2 : ∀ a ∈ as, (dn d a).category = 1) : CM l d E y as d.2.2.2.2 hp K := by
  intro _
  obtain ⟨M, h0, hpl⟩ := hA
  refine Met.ofW (cc := gB y) (maxL := nl y) (ret := gT y) hpl rfl ?_
  intro p e s m args below meth c s₁ B hml hv
  obtain ⟨rfl, hKN, hP, hsz, hb0⟩ := hv
  have hts := atoms_spec (ws := gW y) B.pre
  have C : CX p l s m (as.map (dn d)).toArray meth c d E F y := ⟨B.exec, B.bytes, hml, findClass_of_methodNamed B.named, fun w hw => hts w (List.mem_cons_of_mem _ hw), B.returns, B.notSynchronized, (name_of_methodNamed B.named B.method).1, hKN, hb0, hF⟩
  have hsl : (lg_sl (as.map (dn d))).length = as.length := by
    rw [sl_len _ (fun v hv => by obtain ⟨a, ha, rfl⟩ := List.mem_map.mp hv; exact h2 a ha), List.length_map]
  have hl := lv_entry (as.map (dn d)) (n := nl y) (by rw [hsl]; exact h1)
  rw [lg_entry_eq]
  rw [← lvo_args d as (nl y - as.length) h2 0] at hl
  exact hrun C _ s.heap [] 0 0 hl ⟨hP, va_S.rf, ⟨rfl, fun q => by have := hsz q; show s.heap.size + 0 = d.1 + hp.length; omega⟩, rfl, rfl, Nat.zero_le _, Nat.zero_le _⟩
theorem ed_s {l : Launch} {d : mD} {E : mE} {F : mF} (hF : FOK d F) : ∀ n, cOK l d E (ed F rc nl n) := by
  intro n
  induction n with
  | zero => intro y as al hp K h; cases h
  | succ n ih =>
    intro y as al hp K h hal
    subst hal
    by_cases hy : y < 140
    · obtain ⟨h1, h2, h3⟩ := mm_en_s d h
      rcases all_ms y hy with hz | hA
      · exact (bl_rc0 hz (n := 999999) h3).elim
      obtain ⟨M, h0, -⟩ := id hA
      refine fr_m hF hA ih (fun {p e s m args below meth c} C => ?_) h1 h2 rfl
      have := fr_s (e := e) (below := below) M C ih (fun b L S h hz => by cases hz) 1000000 0 _ _ _ h3
      rw [h0] at this
      exact this
    · obtain ⟨h1, h2, h3⟩ := mm_en_s d h
      exact (bl_rc0 (fun b => rc_big y b hy) (n := 999999) h3).elim
