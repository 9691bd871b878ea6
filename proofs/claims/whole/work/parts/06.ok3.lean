set_option maxRecDepth 100000 in
theorem mm_chk_200 : mm_c200.all (mm_chk 200) = true := by decide +kernel
set_option maxRecDepth 100000 in
theorem mm_chk_201 : mm_c201.all (mm_chk 201) = true := by decide +kernel
set_option maxRecDepth 100000 in
theorem mm_chk_202 : mm_c202.all (mm_chk 202) = true := by decide +kernel
set_option maxRecDepth 100000 in
theorem mm_chk_203 : mm_c203.all (mm_chk 203) = true := by decide +kernel
set_option maxRecDepth 100000 in
theorem mm_chk_204 : mm_c204.all (mm_chk 204) = true := by decide +kernel
set_option maxRecDepth 100000 in
theorem mm_chk_205 : mm_c205.all (mm_chk 205) = true := by decide +kernel
set_option maxRecDepth 100000 in
theorem mm_chk_206 : mm_c206.all (mm_chk 206) = true := by decide +kernel
set_option maxRecDepth 100000 in
theorem mm_chk_207 : mm_c207.all (mm_chk 207) = true := by decide +kernel
set_option maxRecDepth 100000 in
theorem mm_chk_208 : mm_c208.all (mm_chk 208) = true := by decide +kernel
set_option maxRecDepth 100000 in
theorem mm_chk_209 : mm_c209.all (mm_chk 209) = true := by decide +kernel
set_option maxRecDepth 100000 in
theorem mm_chk_210 : mm_c210.all (mm_chk 210) = true := by decide +kernel
set_option maxRecDepth 100000 in
theorem mm_chk_211 : mm_c211.all (mm_chk 211) = true := by decide +kernel
set_option maxRecDepth 100000 in
theorem mm_chk_212 : mm_c212.all (mm_chk 212) = true := by decide +kernel
set_option maxRecDepth 100000 in
theorem mm_chk_213 : mm_c213.all (mm_chk 213) = true := by decide +kernel
set_option maxRecDepth 100000 in
theorem mm_chk_214 : mm_c214.all (mm_chk 214) = true := by decide +kernel
set_option maxRecDepth 100000 in
theorem mm_chk_215 : mm_c215.all (mm_chk 215) = true := by decide +kernel
set_option maxRecDepth 100000 in
theorem mm_chk_216 : mm_c216.all (mm_chk 216) = true := by decide +kernel
set_option maxRecDepth 100000 in
theorem mm_chk_217 : mm_c217.all (mm_chk 217) = true := by decide +kernel
set_option maxRecDepth 100000 in
theorem mm_chk_218 : mm_c218.all (mm_chk 218) = true := by decide +kernel
set_option maxRecDepth 100000 in
theorem mm_chk_219 : mm_c219.all (mm_chk 219) = true := by decide +kernel
set_option maxRecDepth 100000 in
theorem mm_chk_220 : mm_c220.all (mm_chk 220) = true := by decide +kernel
set_option maxRecDepth 100000 in
theorem mm_chk_221 : mm_c221.all (mm_chk 221) = true := by decide +kernel
set_option maxRecDepth 100000 in
theorem mm_chk_222 : mm_c222.all (mm_chk 222) = true := by decide +kernel
set_option maxRecDepth 100000 in
theorem mm_chk_223 : mm_c223.all (mm_chk 223) = true := by decide +kernel
set_option maxRecDepth 100000 in
theorem mm_chk_224 : mm_c224.all (mm_chk 224) = true := by decide +kernel
set_option maxRecDepth 100000 in
theorem mm_chk_225 : mm_c225.all (mm_chk 225) = true := by decide +kernel
set_option maxRecDepth 100000 in
theorem mm_chk_226 : mm_c226.all (mm_chk 226) = true := by decide +kernel
set_option maxRecDepth 100000 in
theorem mm_chk_227 : mm_c227.all (mm_chk 227) = true := by decide +kernel
set_option maxRecDepth 100000 in
theorem mm_chk_228 : mm_c228.all (mm_chk 228) = true := by decide +kernel
set_option maxRecDepth 100000 in
theorem mm_chk_229 : mm_c229.all (mm_chk 229) = true := by decide +kernel
set_option maxRecDepth 100000 in
theorem mm_chk_230 : mm_c230.all (mm_chk 230) = true := by decide +kernel
set_option maxRecDepth 100000 in
theorem mm_chk_231 : mm_c231.all (mm_chk 231) = true := by decide +kernel
set_option maxRecDepth 100000 in
theorem mm_chk_232 : mm_c232.all (mm_chk 232) = true := by decide +kernel
set_option maxRecDepth 100000 in
theorem mm_chk_233 : mm_c233.all (mm_chk 233) = true := by decide +kernel
set_option maxRecDepth 100000 in
theorem mm_chk_234 : mm_c234.all (mm_chk 234) = true := by decide +kernel
set_option maxRecDepth 100000 in
theorem mm_chk_235 : mm_c235.all (mm_chk 235) = true := by decide +kernel
set_option maxRecDepth 100000 in
theorem mm_chk_236 : mm_c236.all (mm_chk 236) = true := by decide +kernel
set_option maxRecDepth 100000 in
theorem mm_chk_237 : mm_c237.all (mm_chk 237) = true := by decide +kernel
set_option maxRecDepth 100000 in
theorem mm_chk_238 : mm_c238.all (mm_chk 238) = true := by decide +kernel
set_option maxRecDepth 100000 in
theorem mm_chk_239 : mm_c239.all (mm_chk 239) = true := by decide +kernel
set_option maxRecDepth 100000 in
theorem mm_chk_240 : mm_c240.all (mm_chk 240) = true := by decide +kernel
set_option maxRecDepth 100000 in
theorem mm_chk_241 : mm_c241.all (mm_chk 241) = true := by decide +kernel
set_option maxRecDepth 100000 in
theorem mm_chk_242 : mm_c242.all (mm_chk 242) = true := by decide +kernel
set_option maxRecDepth 100000 in
theorem mm_chk_243 : mm_c243.all (mm_chk 243) = true := by decide +kernel
set_option maxRecDepth 100000 in
theorem mm_chk_244 : mm_c244.all (mm_chk 244) = true := by decide +kernel
set_option maxRecDepth 100000 in
theorem mm_chk_245 : mm_c245.all (mm_chk 245) = true := by decide +kernel
set_option maxRecDepth 100000 in
theorem mm_chk_246 : mm_c246.all (mm_chk 246) = true := by decide +kernel
set_option maxRecDepth 100000 in
theorem mm_chk_247 : mm_c247.all (mm_chk 247) = true := by decide +kernel
set_option maxRecDepth 100000 in
theorem mm_chk_248 : mm_c248.all (mm_chk 248) = true := by decide +kernel
set_option maxRecDepth 100000 in
theorem mm_chk_249 : mm_c249.all (mm_chk 249) = true := by decide +kernel
set_option maxRecDepth 100000 in
theorem mm_chk_250 : mm_c250.all (mm_chk 250) = true := by decide +kernel
set_option maxRecDepth 100000 in
theorem mm_chk_251 : mm_c251.all (mm_chk 251) = true := by decide +kernel
set_option maxRecDepth 100000 in
theorem mm_chk_252 : mm_c252.all (mm_chk 252) = true := by decide +kernel
set_option maxRecDepth 100000 in
theorem mm_chk_253 : mm_c253.all (mm_chk 253) = true := by decide +kernel
set_option maxRecDepth 100000 in
theorem mm_chk_254 : mm_c254.all (mm_chk 254) = true := by decide +kernel
set_option maxRecDepth 100000 in
theorem mm_chk_255 : mm_c255.all (mm_chk 255) = true := by decide +kernel
set_option maxRecDepth 100000 in
theorem mm_chk_256 : mm_c256.all (mm_chk 256) = true := by decide +kernel
set_option maxRecDepth 100000 in
theorem mm_chk_257 : mm_c257.all (mm_chk 257) = true := by decide +kernel
set_option maxRecDepth 100000 in
theorem mm_chk_258 : mm_c258.all (mm_chk 258) = true := by decide +kernel
set_option maxRecDepth 100000 in
theorem mm_chk_259 : mm_c259.all (mm_chk 259) = true := by decide +kernel
set_option maxRecDepth 100000 in
theorem mm_chk_260 : mm_c260.all (mm_chk 260) = true := by decide +kernel
set_option maxRecDepth 100000 in
theorem mm_chk_261 : mm_c261.all (mm_chk 261) = true := by decide +kernel
set_option maxRecDepth 100000 in
theorem mm_chk_262 : mm_c262.all (mm_chk 262) = true := by decide +kernel
set_option maxRecDepth 100000 in
theorem mm_chk_263 : mm_c263.all (mm_chk 263) = true := by decide +kernel
set_option maxRecDepth 100000 in
theorem mm_chk_264 : mm_c264.all (mm_chk 264) = true := by decide +kernel
set_option maxRecDepth 100000 in
theorem mm_chk_265 : mm_c265.all (mm_chk 265) = true := by decide +kernel
set_option maxRecDepth 100000 in
theorem mm_chk_266 : mm_c266.all (mm_chk 266) = true := by decide +kernel
set_option maxRecDepth 100000 in
theorem mm_chk_267 : mm_c267.all (mm_chk 267) = true := by decide +kernel
set_option maxRecDepth 100000 in
theorem mm_chk_268 : mm_c268.all (mm_chk 268) = true := by decide +kernel
set_option maxRecDepth 100000 in
theorem mm_chk_269 : mm_c269.all (mm_chk 269) = true := by decide +kernel
set_option maxRecDepth 100000 in
theorem mm_chk_270 : mm_c270.all (mm_chk 270) = true := by decide +kernel
set_option maxRecDepth 100000 in
theorem mm_chk_271 : mm_c271.all (mm_chk 271) = true := by decide +kernel
set_option maxRecDepth 100000 in
theorem mm_chk_272 : mm_c272.all (mm_chk 272) = true := by decide +kernel
set_option maxRecDepth 100000 in
theorem mm_chk_273 : mm_c273.all (mm_chk 273) = true := by decide +kernel
set_option maxRecDepth 100000 in
theorem mm_chk_274 : mm_c274.all (mm_chk 274) = true := by decide +kernel
set_option maxRecDepth 100000 in
theorem mm_chk_275 : mm_c275.all (mm_chk 275) = true := by decide +kernel
set_option maxRecDepth 100000 in
theorem mm_chk_276 : mm_c276.all (mm_chk 276) = true := by decide +kernel
