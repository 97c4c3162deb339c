theorem zYok_150 : zYok 150 = true := by decide +kernel
theorem zOk_150 : zT_150.all (zOk 150) = true := by decide +kernel
theorem zYok_151 : zYok 151 = true := by decide +kernel
theorem zOk_151 : zT_151.all (zOk 151) = true := by decide +kernel
theorem zYok_152 : zYok 152 = true := by decide +kernel
theorem zOk_152 : zT_152.all (zOk 152) = true := by decide +kernel
theorem zYok_153 : zYok 153 = true := by decide +kernel
theorem zOk_153 : zT_153.all (zOk 153) = true := by decide +kernel
theorem zYok_154 : zYok 154 = true := by decide +kernel
theorem zOk_154 : zT_154.all (zOk 154) = true := by decide +kernel
theorem zYok_155 : zYok 155 = true := by decide +kernel
theorem zOk_155 : zT_155.all (zOk 155) = true := by decide +kernel
theorem zYok_156 : zYok 156 = true := by decide +kernel
theorem zOk_156 : zT_156.all (zOk 156) = true := by decide +kernel
theorem zYok_157 : zYok 157 = true := by decide +kernel
theorem zOk_157 : zT_157.all (zOk 157) = true := by decide +kernel
theorem zYok_158 : zYok 158 = true := by decide +kernel
theorem zOk_158 : zT_158.all (zOk 158) = true := by decide +kernel
theorem zYok_159 : zYok 159 = true := by decide +kernel
theorem zOk_159 : zT_159.all (zOk 159) = true := by decide +kernel
theorem zYok_160 : zYok 160 = true := by decide +kernel
theorem zOk_160 : zT_160.all (zOk 160) = true := by decide +kernel
theorem zYok_161 : zYok 161 = true := by decide +kernel
theorem zOk_161 : zT_161.all (zOk 161) = true := by decide +kernel
theorem zYok_162 : zYok 162 = true := by decide +kernel
theorem zOk_162 : zT_162.all (zOk 162) = true := by decide +kernel
theorem zYok_163 : zYok 163 = true := by decide +kernel
theorem zOk_163 : zT_163.all (zOk 163) = true := by decide +kernel
theorem zYok_164 : zYok 164 = true := by decide +kernel
theorem zOk_164 : zT_164.all (zOk 164) = true := by decide +kernel
theorem zYok_165 : zYok 165 = true := by decide +kernel
theorem zOk_165 : zT_165.all (zOk 165) = true := by decide +kernel
theorem zYok_166 : zYok 166 = true := by decide +kernel
theorem zOk_166 : zT_166.all (zOk 166) = true := by decide +kernel
theorem zYok_167 : zYok 167 = true := by decide +kernel
theorem zOk_167 : zT_167.all (zOk 167) = true := by decide +kernel
theorem zYok_168 : zYok 168 = true := by decide +kernel
theorem zOk_168 : zT_168.all (zOk 168) = true := by decide +kernel
theorem zYok_169 : zYok 169 = true := by decide +kernel
theorem zOk_169 : zT_169.all (zOk 169) = true := by decide +kernel
theorem zYok_170 : zYok 170 = true := by decide +kernel
theorem zOk_170 : zT_170.all (zOk 170) = true := by decide +kernel
theorem zYok_171 : zYok 171 = true := by decide +kernel
theorem zOk_171 : zT_171.all (zOk 171) = true := by decide +kernel
theorem zYok_172 : zYok 172 = true := by decide +kernel
theorem zOk_172 : zT_172.all (zOk 172) = true := by decide +kernel
theorem zYok_173 : zYok 173 = true := by decide +kernel
theorem zOk_173 : zT_173.all (zOk 173) = true := by decide +kernel
theorem zYok_174 : zYok 174 = true := by decide +kernel
theorem zOk_174 : zT_174.all (zOk 174) = true := by decide +kernel
theorem zYok_175 : zYok 175 = true := by decide +kernel
theorem zOk_175 : zT_175.all (zOk 175) = true := by decide +kernel
theorem zYok_176 : zYok 176 = true := by decide +kernel
theorem zOk_176 : zT_176.all (zOk 176) = true := by decide +kernel
theorem zYok_177 : zYok 177 = true := by decide +kernel
theorem zOk_177 : zT_177.all (zOk 177) = true := by decide +kernel
theorem zYok_178 : zYok 178 = true := by decide +kernel
theorem zOk_178 : zT_178.all (zOk 178) = true := by decide +kernel
theorem zYok_179 : zYok 179 = true := by decide +kernel
theorem zOk_179 : zT_179.all (zOk 179) = true := by decide +kernel
theorem zYok_180 : zYok 180 = true := by decide +kernel
theorem zOk_180 : zT_180.all (zOk 180) = true := by decide +kernel
theorem zYok_181 : zYok 181 = true := by decide +kernel
theorem zOk_181 : zT_181.all (zOk 181) = true := by decide +kernel
theorem zYok_182 : zYok 182 = true := by decide +kernel
theorem zOk_182 : zT_182.all (zOk 182) = true := by decide +kernel
theorem zYok_183 : zYok 183 = true := by decide +kernel
theorem zOk_183 : zT_183.all (zOk 183) = true := by decide +kernel
