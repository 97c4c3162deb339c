theorem zYok_90 : zYok 90 = true := by decide +kernel
theorem zOk_90 : zT_90.all (zOk 90) = true := by decide +kernel
theorem zYok_91 : zYok 91 = true := by decide +kernel
theorem zOk_91 : zT_91.all (zOk 91) = true := by decide +kernel
theorem zYok_92 : zYok 92 = true := by decide +kernel
theorem zOk_92 : zT_92.all (zOk 92) = true := by decide +kernel
theorem zYok_93 : zYok 93 = true := by decide +kernel
theorem zOk_93 : zT_93.all (zOk 93) = true := by decide +kernel
theorem zYok_94 : zYok 94 = true := by decide +kernel
theorem zOk_94 : zT_94.all (zOk 94) = true := by decide +kernel
theorem zYok_95 : zYok 95 = true := by decide +kernel
theorem zOk_95 : zT_95.all (zOk 95) = true := by decide +kernel
theorem zYok_96 : zYok 96 = true := by decide +kernel
theorem zOk_96 : zT_96.all (zOk 96) = true := by decide +kernel
theorem zYok_97 : zYok 97 = true := by decide +kernel
theorem zOk_97 : zT_97.all (zOk 97) = true := by decide +kernel
theorem zYok_98 : zYok 98 = true := by decide +kernel
theorem zOk_98 : zT_98.all (zOk 98) = true := by decide +kernel
theorem zYok_99 : zYok 99 = true := by decide +kernel
theorem zOk_99 : zT_99.all (zOk 99) = true := by decide +kernel
theorem zYok_100 : zYok 100 = true := by decide +kernel
theorem zOk_100 : zT_100.all (zOk 100) = true := by decide +kernel
theorem zYok_101 : zYok 101 = true := by decide +kernel
theorem zOk_101 : zT_101.all (zOk 101) = true := by decide +kernel
theorem zYok_102 : zYok 102 = true := by decide +kernel
theorem zOk_102 : zT_102.all (zOk 102) = true := by decide +kernel
theorem zYok_103 : zYok 103 = true := by decide +kernel
theorem zOk_103 : zT_103.all (zOk 103) = true := by decide +kernel
theorem zYok_104 : zYok 104 = true := by decide +kernel
theorem zOk_104 : zT_104.all (zOk 104) = true := by decide +kernel
theorem zYok_105 : zYok 105 = true := by decide +kernel
theorem zOk_105 : zT_105.all (zOk 105) = true := by decide +kernel
theorem zYok_106 : zYok 106 = true := by decide +kernel
theorem zOk_106 : zT_106.all (zOk 106) = true := by decide +kernel
theorem zYok_107 : zYok 107 = true := by decide +kernel
theorem zOk_107 : zT_107.all (zOk 107) = true := by decide +kernel
theorem zYok_108 : zYok 108 = true := by decide +kernel
theorem zOk_108 : zT_108.all (zOk 108) = true := by decide +kernel
theorem zYok_109 : zYok 109 = true := by decide +kernel
theorem zOk_109 : zT_109.all (zOk 109) = true := by decide +kernel
theorem zYok_110 : zYok 110 = true := by decide +kernel
theorem zOk_110 : zT_110.all (zOk 110) = true := by decide +kernel
theorem zYok_111 : zYok 111 = true := by decide +kernel
theorem zOk_111 : zT_111.all (zOk 111) = true := by decide +kernel
theorem zYok_112 : zYok 112 = true := by decide +kernel
theorem zOk_112 : zT_112.all (zOk 112) = true := by decide +kernel
theorem zYok_113 : zYok 113 = true := by decide +kernel
theorem zOk_113 : zT_113.all (zOk 113) = true := by decide +kernel
theorem zYok_114 : zYok 114 = true := by decide +kernel
theorem zOk_114 : zT_114.all (zOk 114) = true := by decide +kernel
theorem zYok_115 : zYok 115 = true := by decide +kernel
theorem zOk_115 : zT_115.all (zOk 115) = true := by decide +kernel
theorem zYok_116 : zYok 116 = true := by decide +kernel
theorem zOk_116 : zT_116.all (zOk 116) = true := by decide +kernel
theorem zYok_117 : zYok 117 = true := by decide +kernel
theorem zOk_117 : zT_117.all (zOk 117) = true := by decide +kernel
theorem zYok_118 : zYok 118 = true := by decide +kernel
theorem zOk_118 : zT_118.all (zOk 118) = true := by decide +kernel
theorem zYok_119 : zYok 119 = true := by decide +kernel
theorem zOk_119 : zT_119.all (zOk 119) = true := by decide +kernel
