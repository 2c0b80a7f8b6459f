/-! the two constructors that are still wanting -/
section MTH
variable {p : Program} {l : Launch} {e : Env} {s : State} {m : MethodId} {args : Array Value} {below : List Frame} {meth : Method} {c : Code} {d : mD} {E : mE} {F : mF} {K0 : mK}
theorem b_32_0 (C : CX p l s m args meth c d E F 32) : BB p l e s m args below meth c d E F K0 32 0 rc_32_0 := sorry
theorem b_58_0 (C : CX p l s m args meth c d E F 58) : BB p l e s m args below meth c d E F K0 58 0 rc_58_0 := sorry
theorem b_58_1 (C : CX p l s m args meth c d E F 58) : BB p l e s m args below meth c d E F K0 58 124 rc_58_1 := sorry
theorem b_58_2 (C : CX p l s m args meth c d E F 58) : BB p l e s m args below meth c d E F K0 58 152 rc_58_2 := sorry
theorem b_58_3 (C : CX p l s m args meth c d E F 58) : BB p l e s m args below meth c d E F K0 58 154 rc_58_3 := sorry
theorem b_58_4 (C : CX p l s m args meth c d E F 58) : BB p l e s m args below meth c d E F K0 58 183 rc_58_4 := sorry
end MTH
