theorem fsP_4 : fr [] (ed [] rc nl 6) 31 (rc 121) 2 fsL_4 [] (false, 0, 0, fsH_4) (rX none hF) (zt 2 fsL_5 [] fsH_5) = true := by decide +kernel
theorem fsP_5 : fr [] (ed [] rc nl 6) 443 (rc 121) 2 fsL_5 [] (false, 0, 0, fsH_5) (rX none hF) (zt 12 fsL_6 [] fsH_6) = true := by decide +kernel
theorem fsP_6 : fr [] (ed [] rc nl 6) 5844 (rc 121) 12 fsL_6 [] (false, 0, 0, fsH_6) (rX none hF) (zt 10 fsL_7 [] fsH_7) = true := by decide +kernel
theorem fsP_7 : fr [] (ed [] rc nl 6) 5428 (rc 121) 10 fsL_7 [] (false, 0, 0, fsH_7) (rX none hF) (zt 10 fsL_8 [] fsH_8) = true := by decide +kernel
