theorem okL_law_e : ((ssTab mL_law).drop 960).all (chk mL_law) = true := by
  rw [List.drop_of_length_le okL_law_n]; rfl
theorem okL_law : ssOk mL_law = true := (all_ch _ _ 0 80 okL_law_0 (all_ch _ _ 80 80 okL_law_80 (all_ch _ _ 160 80 okL_law_160 (all_ch _ _ 240 80 okL_law_240 (all_ch _ _ 320 80 okL_law_320 (all_ch _ _ 400 80 okL_law_400 (all_ch _ _ 480 80 okL_law_480 (all_ch _ _ 560 80 okL_law_560 (all_ch _ _ 640 80 okL_law_640 (all_ch _ _ 720 80 okL_law_720 (all_ch _ _ 800 80 okL_law_800 (all_ch _ _ 880 80 okL_law_880 okL_law_e))))))))))))
