set_option maxRecDepth 100000 in
theorem mm_chk_100 : mm_c100.all (mm_chk 100) = true := by decide +kernel
set_option maxRecDepth 100000 in
theorem mm_chk_101 : mm_c101.all (mm_chk 101) = true := by decide +kernel
set_option maxRecDepth 100000 in
theorem mm_chk_102 : mm_c102.all (mm_chk 102) = true := by decide +kernel
set_option maxRecDepth 100000 in
theorem mm_chk_103 : mm_c103.all (mm_chk 103) = true := by decide +kernel
set_option maxRecDepth 100000 in
theorem mm_chk_104 : mm_c104.all (mm_chk 104) = true := by decide +kernel
set_option maxRecDepth 100000 in
theorem mm_chk_105 : mm_c105.all (mm_chk 105) = true := by decide +kernel
set_option maxRecDepth 100000 in
theorem mm_chk_106 : mm_c106.all (mm_chk 106) = true := by decide +kernel
set_option maxRecDepth 100000 in
theorem mm_chk_107 : mm_c107.all (mm_chk 107) = true := by decide +kernel
set_option maxRecDepth 100000 in
theorem mm_chk_108 : mm_c108.all (mm_chk 108) = true := by decide +kernel
set_option maxRecDepth 100000 in
theorem mm_chk_109 : mm_c109.all (mm_chk 109) = true := by decide +kernel
set_option maxRecDepth 100000 in
theorem mm_chk_110 : mm_c110.all (mm_chk 110) = true := by decide +kernel
set_option maxRecDepth 100000 in
theorem mm_chk_111 : mm_c111.all (mm_chk 111) = true := by decide +kernel
set_option maxRecDepth 100000 in
theorem mm_chk_112 : mm_c112.all (mm_chk 112) = true := by decide +kernel
set_option maxRecDepth 100000 in
theorem mm_chk_113 : mm_c113.all (mm_chk 113) = true := by decide +kernel
set_option maxRecDepth 100000 in
theorem mm_chk_114 : mm_c114.all (mm_chk 114) = true := by decide +kernel
set_option maxRecDepth 100000 in
theorem mm_chk_115 : mm_c115.all (mm_chk 115) = true := by decide +kernel
set_option maxRecDepth 100000 in
theorem mm_chk_116 : mm_c116.all (mm_chk 116) = true := by decide +kernel
set_option maxRecDepth 100000 in
theorem mm_chk_117 : mm_c117.all (mm_chk 117) = true := by decide +kernel
set_option maxRecDepth 100000 in
theorem mm_chk_118 : mm_c118.all (mm_chk 118) = true := by decide +kernel
set_option maxRecDepth 100000 in
theorem mm_chk_119 : mm_c119.all (mm_chk 119) = true := by decide +kernel
set_option maxRecDepth 100000 in
theorem mm_chk_120 : mm_c120.all (mm_chk 120) = true := by decide +kernel
set_option maxRecDepth 100000 in
theorem mm_chk_121 : mm_c121.all (mm_chk 121) = true := by decide +kernel
set_option maxRecDepth 100000 in
theorem mm_chk_122 : mm_c122.all (mm_chk 122) = true := by decide +kernel
set_option maxRecDepth 100000 in
theorem mm_chk_123 : mm_c123.all (mm_chk 123) = true := by decide +kernel
set_option maxRecDepth 100000 in
theorem mm_chk_124 : mm_c124.all (mm_chk 124) = true := by decide +kernel
set_option maxRecDepth 100000 in
theorem mm_chk_125 : mm_c125.all (mm_chk 125) = true := by decide +kernel
set_option maxRecDepth 100000 in
theorem mm_chk_126 : mm_c126.all (mm_chk 126) = true := by decide +kernel
set_option maxRecDepth 100000 in
theorem mm_chk_127 : mm_c127.all (mm_chk 127) = true := by decide +kernel
set_option maxRecDepth 100000 in
theorem mm_chk_128 : mm_c128.all (mm_chk 128) = true := by decide +kernel
set_option maxRecDepth 100000 in
theorem mm_chk_129 : mm_c129.all (mm_chk 129) = true := by decide +kernel
set_option maxRecDepth 100000 in
theorem mm_chk_130 : mm_c130.all (mm_chk 130) = true := by decide +kernel
set_option maxRecDepth 100000 in
theorem mm_chk_131 : mm_c131.all (mm_chk 131) = true := by decide +kernel
set_option maxRecDepth 100000 in
theorem mm_chk_132 : mm_c132.all (mm_chk 132) = true := by decide +kernel
set_option maxRecDepth 100000 in
theorem mm_chk_133 : mm_c133.all (mm_chk 133) = true := by decide +kernel
set_option maxRecDepth 100000 in
theorem mm_chk_134 : mm_c134.all (mm_chk 134) = true := by decide +kernel
set_option maxRecDepth 100000 in
theorem mm_chk_135 : mm_c135.all (mm_chk 135) = true := by decide +kernel
set_option maxRecDepth 100000 in
theorem mm_chk_136 : mm_c136.all (mm_chk 136) = true := by decide +kernel
set_option maxRecDepth 100000 in
theorem mm_chk_137 : mm_c137.all (mm_chk 137) = true := by decide +kernel
set_option maxRecDepth 100000 in
theorem mm_chk_138 : mm_c138.all (mm_chk 138) = true := by decide +kernel
set_option maxRecDepth 100000 in
theorem mm_chk_139 : mm_c139.all (mm_chk 139) = true := by decide +kernel
set_option maxRecDepth 100000 in
theorem mm_chk_140 : mm_c140.all (mm_chk 140) = true := by decide +kernel
set_option maxRecDepth 100000 in
theorem mm_chk_141 : mm_c141.all (mm_chk 141) = true := by decide +kernel
set_option maxRecDepth 100000 in
theorem mm_chk_142 : mm_c142.all (mm_chk 142) = true := by decide +kernel
set_option maxRecDepth 100000 in
theorem mm_chk_143 : mm_c143.all (mm_chk 143) = true := by decide +kernel
set_option maxRecDepth 100000 in
theorem mm_chk_144 : mm_c144.all (mm_chk 144) = true := by decide +kernel
set_option maxRecDepth 100000 in
theorem mm_chk_145 : mm_c145.all (mm_chk 145) = true := by decide +kernel
set_option maxRecDepth 100000 in
theorem mm_chk_146 : mm_c146.all (mm_chk 146) = true := by decide +kernel
set_option maxRecDepth 100000 in
theorem mm_chk_147 : mm_c147.all (mm_chk 147) = true := by decide +kernel
set_option maxRecDepth 100000 in
theorem mm_chk_148 : mm_c148.all (mm_chk 148) = true := by decide +kernel
set_option maxRecDepth 100000 in
theorem mm_chk_149 : mm_c149.all (mm_chk 149) = true := by decide +kernel
set_option maxRecDepth 100000 in
theorem mm_chk_150 : mm_c150.all (mm_chk 150) = true := by decide +kernel
set_option maxRecDepth 100000 in
theorem mm_chk_151 : mm_c151.all (mm_chk 151) = true := by decide +kernel
set_option maxRecDepth 100000 in
theorem mm_chk_152 : mm_c152.all (mm_chk 152) = true := by decide +kernel
set_option maxRecDepth 100000 in
theorem mm_chk_153 : mm_c153.all (mm_chk 153) = true := by decide +kernel
set_option maxRecDepth 100000 in
theorem mm_chk_154 : mm_c154.all (mm_chk 154) = true := by decide +kernel
set_option maxRecDepth 100000 in
theorem mm_chk_155 : mm_c155.all (mm_chk 155) = true := by decide +kernel
set_option maxRecDepth 100000 in
theorem mm_chk_156 : mm_c156.all (mm_chk 156) = true := by decide +kernel
set_option maxRecDepth 100000 in
theorem mm_chk_157 : mm_c157.all (mm_chk 157) = true := by decide +kernel
set_option maxRecDepth 100000 in
theorem mm_chk_158 : mm_c158.all (mm_chk 158) = true := by decide +kernel
set_option maxRecDepth 100000 in
theorem mm_chk_159 : mm_c159.all (mm_chk 159) = true := by decide +kernel
set_option maxRecDepth 100000 in
theorem mm_chk_160 : mm_c160.all (mm_chk 160) = true := by decide +kernel
set_option maxRecDepth 100000 in
theorem mm_chk_161 : mm_c161.all (mm_chk 161) = true := by decide +kernel
set_option maxRecDepth 100000 in
theorem mm_chk_162 : mm_c162.all (mm_chk 162) = true := by decide +kernel
set_option maxRecDepth 100000 in
theorem mm_chk_163 : mm_c163.all (mm_chk 163) = true := by decide +kernel
set_option maxRecDepth 100000 in
theorem mm_chk_164 : mm_c164.all (mm_chk 164) = true := by decide +kernel
set_option maxRecDepth 100000 in
theorem mm_chk_165 : mm_c165.all (mm_chk 165) = true := by decide +kernel
set_option maxRecDepth 100000 in
theorem mm_chk_166 : mm_c166.all (mm_chk 166) = true := by decide +kernel
set_option maxRecDepth 100000 in
theorem mm_chk_167 : mm_c167.all (mm_chk 167) = true := by decide +kernel
set_option maxRecDepth 100000 in
theorem mm_chk_168 : mm_c168.all (mm_chk 168) = true := by decide +kernel
set_option maxRecDepth 100000 in
theorem mm_chk_169 : mm_c169.all (mm_chk 169) = true := by decide +kernel
set_option maxRecDepth 100000 in
theorem mm_chk_170 : mm_c170.all (mm_chk 170) = true := by decide +kernel
set_option maxRecDepth 100000 in
theorem mm_chk_171 : mm_c171.all (mm_chk 171) = true := by decide +kernel
set_option maxRecDepth 100000 in
theorem mm_chk_172 : mm_c172.all (mm_chk 172) = true := by decide +kernel
set_option maxRecDepth 100000 in
theorem mm_chk_173 : mm_c173.all (mm_chk 173) = true := by decide +kernel
set_option maxRecDepth 100000 in
theorem mm_chk_174 : mm_c174.all (mm_chk 174) = true := by decide +kernel
set_option maxRecDepth 100000 in
theorem mm_chk_175 : mm_c175.all (mm_chk 175) = true := by decide +kernel
set_option maxRecDepth 100000 in
theorem mm_chk_176 : mm_c176.all (mm_chk 176) = true := by decide +kernel
set_option maxRecDepth 100000 in
theorem mm_chk_177 : mm_c177.all (mm_chk 177) = true := by decide +kernel
set_option maxRecDepth 100000 in
theorem mm_chk_178 : mm_c178.all (mm_chk 178) = true := by decide +kernel
set_option maxRecDepth 100000 in
theorem mm_chk_179 : mm_c179.all (mm_chk 179) = true := by decide +kernel
set_option maxRecDepth 100000 in
theorem mm_chk_180 : mm_c180.all (mm_chk 180) = true := by decide +kernel
set_option maxRecDepth 100000 in
theorem mm_chk_181 : mm_c181.all (mm_chk 181) = true := by decide +kernel
set_option maxRecDepth 100000 in
theorem mm_chk_182 : mm_c182.all (mm_chk 182) = true := by decide +kernel
set_option maxRecDepth 100000 in
theorem mm_chk_183 : mm_c183.all (mm_chk 183) = true := by decide +kernel
set_option maxRecDepth 100000 in
theorem mm_chk_184 : mm_c184.all (mm_chk 184) = true := by decide +kernel
set_option maxRecDepth 100000 in
theorem mm_chk_185 : mm_c185.all (mm_chk 185) = true := by decide +kernel
set_option maxRecDepth 100000 in
theorem mm_chk_186 : mm_c186.all (mm_chk 186) = true := by decide +kernel
set_option maxRecDepth 100000 in
theorem mm_chk_187 : mm_c187.all (mm_chk 187) = true := by decide +kernel
set_option maxRecDepth 100000 in
theorem mm_chk_188 : mm_c188.all (mm_chk 188) = true := by decide +kernel
set_option maxRecDepth 100000 in
theorem mm_chk_189 : mm_c189.all (mm_chk 189) = true := by decide +kernel
set_option maxRecDepth 100000 in
theorem mm_chk_190 : mm_c190.all (mm_chk 190) = true := by decide +kernel
set_option maxRecDepth 100000 in
theorem mm_chk_191 : mm_c191.all (mm_chk 191) = true := by decide +kernel
set_option maxRecDepth 100000 in
theorem mm_chk_192 : mm_c192.all (mm_chk 192) = true := by decide +kernel
set_option maxRecDepth 100000 in
theorem mm_chk_193 : mm_c193.all (mm_chk 193) = true := by decide +kernel
set_option maxRecDepth 100000 in
theorem mm_chk_194 : mm_c194.all (mm_chk 194) = true := by decide +kernel
set_option maxRecDepth 100000 in
theorem mm_chk_195 : mm_c195.all (mm_chk 195) = true := by decide +kernel
set_option maxRecDepth 100000 in
theorem mm_chk_196 : mm_c196.all (mm_chk 196) = true := by decide +kernel
set_option maxRecDepth 100000 in
theorem mm_chk_197 : mm_c197.all (mm_chk 197) = true := by decide +kernel
set_option maxRecDepth 100000 in
theorem mm_chk_198 : mm_c198.all (mm_chk 198) = true := by decide +kernel
set_option maxRecDepth 100000 in
theorem mm_chk_199 : mm_c199.all (mm_chk 199) = true := by decide +kernel
