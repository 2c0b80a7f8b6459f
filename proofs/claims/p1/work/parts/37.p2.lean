theorem fsP_8 : fr [] (ed [] rc nl 6) 4703 (rc 121) 10 fsL_8 [] (false, 0, 0, fsH_8) (rX none hF) (zt 10 fsL_9 [] fsH_9) = true := by decide +kernel
theorem fsP_9 : fr [] (ed [] rc nl 6) 1000000 (rc 121) 10 fsL_9 [] (false, 0, 0, fsH_9) (rX none hF) (fun _ _ _ _ => false) = true := by decide +kernel
