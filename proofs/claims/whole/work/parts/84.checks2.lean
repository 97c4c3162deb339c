theorem zYok_30 : zYok 30 = true := by decide +kernel
theorem zOk_30 : zT_30.all (zOk 30) = true := by decide +kernel
theorem zYok_31 : zYok 31 = true := by decide +kernel
theorem zOk_31 : zT_31.all (zOk 31) = true := by decide +kernel
theorem zYok_32 : zYok 32 = true := by decide +kernel
theorem zOk_32 : zT_32.all (zOk 32) = true := by decide +kernel
theorem zYok_33 : zYok 33 = true := by decide +kernel
theorem zOk_33 : zT_33.all (zOk 33) = true := by decide +kernel
theorem zYok_34 : zYok 34 = true := by decide +kernel
theorem zOk_34 : zT_34.all (zOk 34) = true := by decide +kernel
theorem zYok_35 : zYok 35 = true := by decide +kernel
theorem zOk_35 : zT_35.all (zOk 35) = true := by decide +kernel
theorem zYok_36 : zYok 36 = true := by decide +kernel
theorem zOk_36 : zT_36.all (zOk 36) = true := by decide +kernel
theorem zYok_37 : zYok 37 = true := by decide +kernel
theorem zOk_37 : zT_37.all (zOk 37) = true := by decide +kernel
theorem zYok_38 : zYok 38 = true := by decide +kernel
theorem zOk_38 : zT_38.all (zOk 38) = true := by decide +kernel
theorem zYok_39 : zYok 39 = true := by decide +kernel
theorem zOk_39 : zT_39.all (zOk 39) = true := by decide +kernel
theorem zYok_40 : zYok 40 = true := by decide +kernel
theorem zOk_40 : zT_40.all (zOk 40) = true := by decide +kernel
theorem zYok_41 : zYok 41 = true := by decide +kernel
theorem zOk_41 : zT_41.all (zOk 41) = true := by decide +kernel
theorem zYok_42 : zYok 42 = true := by decide +kernel
theorem zOk_42 : zT_42.all (zOk 42) = true := by decide +kernel
theorem zYok_43 : zYok 43 = true := by decide +kernel
theorem zOk_43 : zT_43.all (zOk 43) = true := by decide +kernel
theorem zYok_44 : zYok 44 = true := by decide +kernel
theorem zOk_44 : zT_44.all (zOk 44) = true := by decide +kernel
theorem zYok_45 : zYok 45 = true := by decide +kernel
theorem zOk_45 : zT_45.all (zOk 45) = true := by decide +kernel
theorem zYok_46 : zYok 46 = true := by decide +kernel
theorem zOk_46 : zT_46.all (zOk 46) = true := by decide +kernel
theorem zYok_47 : zYok 47 = true := by decide +kernel
theorem zOk_47 : zT_47.all (zOk 47) = true := by decide +kernel
theorem zYok_48 : zYok 48 = true := by decide +kernel
theorem zOk_48 : zT_48.all (zOk 48) = true := by decide +kernel
theorem zYok_49 : zYok 49 = true := by decide +kernel
theorem zOk_49 : zT_49.all (zOk 49) = true := by decide +kernel
theorem zYok_50 : zYok 50 = true := by decide +kernel
theorem zOk_50 : zT_50.all (zOk 50) = true := by decide +kernel
theorem zYok_51 : zYok 51 = true := by decide +kernel
theorem zOk_51 : zT_51.all (zOk 51) = true := by decide +kernel
theorem zYok_52 : zYok 52 = true := by decide +kernel
theorem zOk_52 : zT_52.all (zOk 52) = true := by decide +kernel
theorem zYok_53 : zYok 53 = true := by decide +kernel
theorem zOk_53 : zT_53.all (zOk 53) = true := by decide +kernel
theorem zYok_54 : zYok 54 = true := by decide +kernel
theorem zOk_54 : zT_54.all (zOk 54) = true := by decide +kernel
theorem zYok_55 : zYok 55 = true := by decide +kernel
theorem zOk_55 : zT_55.all (zOk 55) = true := by decide +kernel
theorem zYok_56 : zYok 56 = true := by decide +kernel
theorem zOk_56 : zT_56.all (zOk 56) = true := by decide +kernel
theorem zYok_57 : zYok 57 = true := by decide +kernel
theorem zOk_57 : zT_57.all (zOk 57) = true := by decide +kernel
theorem zYok_58 : zYok 58 = true := by decide +kernel
theorem zOk_58 : zT_58.all (zOk 58) = true := by decide +kernel
theorem zYok_59 : zYok 59 = true := by decide +kernel
theorem zOk_59 : zT_59.all (zOk 59) = true := by decide +kernel
