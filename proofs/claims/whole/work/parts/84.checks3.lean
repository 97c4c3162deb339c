theorem zYok_60 : zYok 60 = true := by decide +kernel
theorem zOk_60 : zT_60.all (zOk 60) = true := by decide +kernel
theorem zYok_61 : zYok 61 = true := by decide +kernel
theorem zOk_61 : zT_61.all (zOk 61) = true := by decide +kernel
theorem zYok_62 : zYok 62 = true := by decide +kernel
theorem zOk_62 : zT_62.all (zOk 62) = true := by decide +kernel
theorem zYok_63 : zYok 63 = true := by decide +kernel
theorem zOk_63 : zT_63.all (zOk 63) = true := by decide +kernel
theorem zYok_64 : zYok 64 = true := by decide +kernel
theorem zOk_64 : zT_64.all (zOk 64) = true := by decide +kernel
theorem zYok_65 : zYok 65 = true := by decide +kernel
theorem zOk_65 : zT_65.all (zOk 65) = true := by decide +kernel
theorem zYok_66 : zYok 66 = true := by decide +kernel
theorem zOk_66 : zT_66.all (zOk 66) = true := by decide +kernel
theorem zYok_67 : zYok 67 = true := by decide +kernel
theorem zOk_67 : zT_67.all (zOk 67) = true := by decide +kernel
theorem zYok_68 : zYok 68 = true := by decide +kernel
theorem zOk_68 : zT_68.all (zOk 68) = true := by decide +kernel
theorem zYok_69 : zYok 69 = true := by decide +kernel
theorem zOk_69 : zT_69.all (zOk 69) = true := by decide +kernel
theorem zYok_70 : zYok 70 = true := by decide +kernel
theorem zOk_70 : zT_70.all (zOk 70) = true := by decide +kernel
theorem zYok_71 : zYok 71 = true := by decide +kernel
theorem zOk_71 : zT_71.all (zOk 71) = true := by decide +kernel
theorem zYok_72 : zYok 72 = true := by decide +kernel
theorem zOk_72 : zT_72.all (zOk 72) = true := by decide +kernel
theorem zYok_73 : zYok 73 = true := by decide +kernel
theorem zOk_73 : zT_73.all (zOk 73) = true := by decide +kernel
theorem zYok_74 : zYok 74 = true := by decide +kernel
theorem zOk_74 : zT_74.all (zOk 74) = true := by decide +kernel
theorem zYok_75 : zYok 75 = true := by decide +kernel
theorem zOk_75 : zT_75.all (zOk 75) = true := by decide +kernel
theorem zYok_76 : zYok 76 = true := by decide +kernel
theorem zOk_76 : zT_76.all (zOk 76) = true := by decide +kernel
theorem zYok_77 : zYok 77 = true := by decide +kernel
theorem zOk_77 : zT_77.all (zOk 77) = true := by decide +kernel
theorem zYok_78 : zYok 78 = true := by decide +kernel
theorem zOk_78 : zT_78.all (zOk 78) = true := by decide +kernel
theorem zYok_79 : zYok 79 = true := by decide +kernel
theorem zOk_79 : zT_79.all (zOk 79) = true := by decide +kernel
theorem zYok_80 : zYok 80 = true := by decide +kernel
theorem zOk_80 : zT_80.all (zOk 80) = true := by decide +kernel
theorem zYok_81 : zYok 81 = true := by decide +kernel
theorem zOk_81 : zT_81.all (zOk 81) = true := by decide +kernel
theorem zYok_82 : zYok 82 = true := by decide +kernel
theorem zOk_82 : zT_82.all (zOk 82) = true := by decide +kernel
theorem zYok_83 : zYok 83 = true := by decide +kernel
theorem zOk_83 : zT_83.all (zOk 83) = true := by decide +kernel
theorem zYok_84 : zYok 84 = true := by decide +kernel
theorem zOk_84 : zT_84.all (zOk 84) = true := by decide +kernel
theorem zYok_85 : zYok 85 = true := by decide +kernel
theorem zOk_85 : zT_85.all (zOk 85) = true := by decide +kernel
theorem zYok_86 : zYok 86 = true := by decide +kernel
theorem zOk_86 : zT_86.all (zOk 86) = true := by decide +kernel
theorem zYok_87 : zYok 87 = true := by decide +kernel
theorem zOk_87 : zT_87.all (zOk 87) = true := by decide +kernel
theorem zYok_88 : zYok 88 = true := by decide +kernel
theorem zOk_88 : zT_88.all (zOk 88) = true := by decide +kernel
theorem zYok_89 : zYok 89 = true := by decide +kernel
theorem zOk_89 : zT_89.all (zOk 89) = true := by decide +kernel
