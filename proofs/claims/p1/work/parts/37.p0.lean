theorem fsP_0 : fr [] (ed [] rc nl 6) 7 (rc 121) 0 fsL_0 [] (false, 0, 0, fsH_0) (rX none hF) (zt 2 fsL_1 [] fsH_1) = true := by decide +kernel
theorem fsP_1 : fr [] (ed [] rc nl 6) 5 (rc 121) 2 fsL_1 [] (false, 0, 0, fsH_1) (rX none hF) (zt 2 fsL_2 [] fsH_2) = true := by decide +kernel
theorem fsP_2 : fr [] (ed [] rc nl 6) 5 (rc 121) 2 fsL_2 [] (false, 0, 0, fsH_2) (rX none hF) (zt 2 fsL_3 [] fsH_3) = true := by decide +kernel
theorem fsP_3 : fr [] (ed [] rc nl 6) 17 (rc 121) 2 fsL_3 [] (false, 0, 0, fsH_3) (rX none hF) (zt 2 fsL_4 [] fsH_4) = true := by decide +kernel
