theorem zYok_120 : zYok 120 = true := by decide +kernel
theorem zOk_120 : zT_120.all (zOk 120) = true := by decide +kernel
theorem zYok_121 : zYok 121 = true := by decide +kernel
theorem zOk_121 : zT_121.all (zOk 121) = true := by decide +kernel
theorem zYok_122 : zYok 122 = true := by decide +kernel
theorem zOk_122 : zT_122.all (zOk 122) = true := by decide +kernel
theorem zYok_123 : zYok 123 = true := by decide +kernel
theorem zOk_123 : zT_123.all (zOk 123) = true := by decide +kernel
theorem zYok_124 : zYok 124 = true := by decide +kernel
theorem zOk_124 : zT_124.all (zOk 124) = true := by decide +kernel
theorem zYok_125 : zYok 125 = true := by decide +kernel
theorem zOk_125 : zT_125.all (zOk 125) = true := by decide +kernel
theorem zYok_126 : zYok 126 = true := by decide +kernel
theorem zOk_126 : zT_126.all (zOk 126) = true := by decide +kernel
theorem zYok_127 : zYok 127 = true := by decide +kernel
theorem zOk_127 : zT_127.all (zOk 127) = true := by decide +kernel
theorem zYok_128 : zYok 128 = true := by decide +kernel
theorem zOk_128 : zT_128.all (zOk 128) = true := by decide +kernel
theorem zYok_129 : zYok 129 = true := by decide +kernel
theorem zOk_129 : zT_129.all (zOk 129) = true := by decide +kernel
theorem zYok_130 : zYok 130 = true := by decide +kernel
theorem zOk_130 : zT_130.all (zOk 130) = true := by decide +kernel
theorem zYok_131 : zYok 131 = true := by decide +kernel
theorem zOk_131 : zT_131.all (zOk 131) = true := by decide +kernel
theorem zYok_132 : zYok 132 = true := by decide +kernel
theorem zOk_132 : zT_132.all (zOk 132) = true := by decide +kernel
theorem zYok_133 : zYok 133 = true := by decide +kernel
theorem zOk_133 : zT_133.all (zOk 133) = true := by decide +kernel
theorem zYok_134 : zYok 134 = true := by decide +kernel
theorem zOk_134 : zT_134.all (zOk 134) = true := by decide +kernel
theorem zYok_135 : zYok 135 = true := by decide +kernel
theorem zOk_135 : zT_135.all (zOk 135) = true := by decide +kernel
theorem zYok_136 : zYok 136 = true := by decide +kernel
theorem zOk_136 : zT_136.all (zOk 136) = true := by decide +kernel
theorem zYok_137 : zYok 137 = true := by decide +kernel
theorem zOk_137 : zT_137.all (zOk 137) = true := by decide +kernel
theorem zYok_138 : zYok 138 = true := by decide +kernel
theorem zOk_138 : zT_138.all (zOk 138) = true := by decide +kernel
theorem zYok_139 : zYok 139 = true := by decide +kernel
theorem zOk_139 : zT_139.all (zOk 139) = true := by decide +kernel
theorem zYok_140 : zYok 140 = true := by decide +kernel
theorem zOk_140 : zT_140.all (zOk 140) = true := by decide +kernel
theorem zYok_141 : zYok 141 = true := by decide +kernel
theorem zOk_141 : zT_141.all (zOk 141) = true := by decide +kernel
theorem zYok_142 : zYok 142 = true := by decide +kernel
theorem zOk_142 : zT_142.all (zOk 142) = true := by decide +kernel
theorem zYok_143 : zYok 143 = true := by decide +kernel
theorem zOk_143 : zT_143.all (zOk 143) = true := by decide +kernel
theorem zYok_144 : zYok 144 = true := by decide +kernel
theorem zOk_144 : zT_144.all (zOk 144) = true := by decide +kernel
theorem zYok_145 : zYok 145 = true := by decide +kernel
theorem zOk_145 : zT_145.all (zOk 145) = true := by decide +kernel
theorem zYok_146 : zYok 146 = true := by decide +kernel
theorem zOk_146 : zT_146.all (zOk 146) = true := by decide +kernel
theorem zYok_147 : zYok 147 = true := by decide +kernel
theorem zOk_147 : zT_147.all (zOk 147) = true := by decide +kernel
theorem zYok_148 : zYok 148 = true := by decide +kernel
theorem zOk_148 : zT_148.all (zOk 148) = true := by decide +kernel
theorem zYok_149 : zYok 149 = true := by decide +kernel
theorem zOk_149 : zT_149.all (zOk 149) = true := by decide +kernel
