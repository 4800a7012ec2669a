section
set_option maxRecDepth 100000 in
theorem xw_170 : Cond.methodLinkNest RX5 11 yX9_init "CellLibrary" ∈ lw_tbl := List.mem_of_getElem? (i := 236) (by decide +kernel)
set_option maxRecDepth 100000 in
theorem xw_171 : Cond.instanceMethod yX9_init ∈ lw_tbl := List.mem_of_getElem? (i := 237) (by decide +kernel)
set_option maxRecDepth 100000 in
theorem xw_172 : Cond.fieldLink RX5 12 (TX5 0).1 (TX5 0).2.1 (TX5 0).2.2.1 ∈ lw_tbl := List.mem_of_getElem? (i := 283) (by decide +kernel)
set_option maxRecDepth 100000 in
theorem xw_173 : Cond.classLink RX5 18 RX8 ∈ lw_tbl := List.mem_of_getElem? (i := 258) (by decide +kernel)
set_option maxRecDepth 100000 in
theorem xw_174 : Cond.instantiable RX8 5 ∈ lw_tbl := List.mem_of_getElem? (i := 259) (by decide +kernel)
set_option maxRecDepth 100000 in
theorem xw_175 : Cond.initialized RX8 ∈ lw_tbl := List.mem_of_getElem? (i := 68) (by decide +kernel)
set_option maxRecDepth 100000 in
theorem xw_176 : Cond.methodLinkNest RX5 20 yX8_init "CellLibrary" ∈ lw_tbl := List.mem_of_getElem? (i := 260) (by decide +kernel)
set_option maxRecDepth 100000 in
theorem xw_177 : Cond.instanceMethod yX8_init ∈ lw_tbl := List.mem_of_getElem? (i := 261) (by decide +kernel)
set_option maxRecDepth 100000 in
theorem xw_178 : Cond.fieldLink RX5 21 (TX5 1).1 (TX5 1).2.1 (TX5 1).2.2.1 ∈ lw_tbl := List.mem_of_getElem? (i := 284) (by decide +kernel)
set_option maxRecDepth 100000 in
theorem xw_179 : Cond.classLink RX5 25 RX6 ∈ lw_tbl := List.mem_of_getElem? (i := 281) (by decide +kernel)
set_option maxRecDepth 100000 in
theorem xw_180 : Cond.instantiable RX6 5 ∈ lw_tbl := List.mem_of_getElem? (i := 94) (by decide +kernel)
set_option maxRecDepth 100000 in
theorem xw_181 : Cond.initialized RX6 ∈ lw_tbl := List.mem_of_getElem? (i := 62) (by decide +kernel)
set_option maxRecDepth 100000 in
theorem xw_182 : Cond.methodLink RX5 27 yX6_init ∈ lw_tbl := List.mem_of_getElem? (i := 282) (by decide +kernel)
set_option maxRecDepth 100000 in
theorem xw_183 : Cond.instanceMethod yX6_init ∈ lw_tbl := List.mem_of_getElem? (i := 96) (by decide +kernel)
set_option maxRecDepth 100000 in
theorem xw_184 : Cond.fieldLink RX5 28 (TX5 2).1 (TX5 2).2.1 (TX5 2).2.2.1 ∈ lw_tbl := List.mem_of_getElem? (i := 285) (by decide +kernel)
set_option maxRecDepth 100000 in
theorem xw_185 : Cond.fieldLinkNest RX5 32 (TX9 2).1 (TX9 2).2.1 (TX9 2).2.2.1 "CellLibrary" ∈ lw_tbl := List.mem_of_getElem? (i := 242) (by decide +kernel)
set_option maxRecDepth 100000 in
theorem xw_186 : Cond.methodLink RX5 36 yX6_clear ∈ lw_tbl := List.mem_of_getElem? (i := 352) (by decide +kernel)
set_option maxRecDepth 100000 in
theorem xw_187 : Cond.instanceMethod yX6_clear ∈ lw_tbl := List.mem_of_getElem? (i := 353) (by decide +kernel)
set_option maxRecDepth 100000 in
theorem xw_188 : Cond.selects RX6 yX6_clear yX6_clear ∈ lw_tbl := List.mem_of_getElem? (i := 354) (by decide +kernel)
set_option maxRecDepth 100000 in
theorem xw_189 : Cond.methodLink RX5 39 yX9_open ∈ lw_tbl := List.mem_of_getElem? (i := 356) (by decide +kernel)
set_option maxRecDepth 100000 in
theorem xw_190 : Cond.instanceMethod yX9_open ∈ lw_tbl := List.mem_of_getElem? (i := 357) (by decide +kernel)
set_option maxRecDepth 100000 in
theorem xw_191 : Cond.selects RX9 yX9_open yX9_open ∈ lw_tbl := List.mem_of_getElem? (i := 358) (by decide +kernel)
set_option maxRecDepth 100000 in
theorem xw_192 : Cond.fieldLinkNest RX5 43 (TX9 4).1 (TX9 4).2.1 (TX9 4).2.2.1 "CellLibrary" ∈ lw_tbl := List.mem_of_getElem? (i := 246) (by decide +kernel)
set_option maxRecDepth 100000 in
theorem xw_193 : Cond.methodLink RX5 48 yX9_is ∈ lw_tbl := List.mem_of_getElem? (i := 371) (by decide +kernel)
set_option maxRecDepth 100000 in
theorem xw_194 : Cond.instanceMethod yX9_is ∈ lw_tbl := List.mem_of_getElem? (i := 372) (by decide +kernel)
set_option maxRecDepth 100000 in
theorem xw_195 : Cond.selects RX9 yX9_is yX9_is ∈ lw_tbl := List.mem_of_getElem? (i := 373) (by decide +kernel)
set_option maxRecDepth 100000 in
theorem xw_196 : Cond.methodLink RX5 52 yX5_readTable ∈ lw_tbl := List.mem_of_getElem? (i := 423) (by decide +kernel)
set_option maxRecDepth 100000 in
theorem xw_197 : Cond.instanceMethod yX5_readTable ∈ lw_tbl := List.mem_of_getElem? (i := 425) (by decide +kernel)
set_option maxRecDepth 100000 in
theorem xw_198 : Cond.selects RX5 yX5_readTable yX5_readTable ∈ lw_tbl := List.mem_of_getElem? (i := 0) (by decide +kernel)
set_option maxRecDepth 100000 in
theorem xw_199 : Cond.methodLink RX5 57 yX5_demand ∈ lw_tbl := List.mem_of_getElem? (i := 435) (by decide +kernel)
set_option maxRecDepth 100000 in
theorem xw_200 : Cond.static yX5_demand ∈ lw_tbl := List.mem_of_getElem? (i := 436) (by decide +kernel)
set_option maxRecDepth 100000 in
theorem xw_201 : Cond.methodLink RX5 61 yX5_readCell ∈ lw_tbl := List.mem_of_getElem? (i := 533) (by decide +kernel)
set_option maxRecDepth 100000 in
theorem xw_202 : Cond.instanceMethod yX5_readCell ∈ lw_tbl := List.mem_of_getElem? (i := 535) (by decide +kernel)
set_option maxRecDepth 100000 in
theorem xw_203 : Cond.selects RX5 yX5_readCell yX5_readCell ∈ lw_tbl := List.mem_of_getElem? (i := 6) (by decide +kernel)
set_option maxRecDepth 100000 in
theorem xw_204 : Cond.methodLink RX5 64 yX9_step ∈ lw_tbl := List.mem_of_getElem? (i := 427) (by decide +kernel)
set_option maxRecDepth 100000 in
theorem xw_205 : Cond.methodLink RX5 67 yX9_name ∈ lw_tbl := List.mem_of_getElem? (i := 428) (by decide +kernel)
set_option maxRecDepth 100000 in
theorem xw_206 : Cond.instanceMethod yX9_name ∈ lw_tbl := List.mem_of_getElem? (i := 429) (by decide +kernel)
set_option maxRecDepth 100000 in
theorem xw_207 : Cond.selects RX9 yX9_name yX9_name ∈ lw_tbl := List.mem_of_getElem? (i := 430) (by decide +kernel)
set_option maxRecDepth 100000 in
theorem xw_208 : Cond.fieldLinkNest RX5 71 (TX6 3).1 (TX6 3).2.1 (TX6 3).2.2.1 "CellLibrary" ∈ lw_tbl := List.mem_of_getElem? (i := 212) (by decide +kernel)
set_option maxRecDepth 100000 in
theorem xw_209 : Cond.fieldLinkNest RX5 74 (TX6 0).1 (TX6 0).2.1 (TX6 0).2.2.1 "CellLibrary" ∈ lw_tbl := List.mem_of_getElem? (i := 206) (by decide +kernel)
set_option maxRecDepth 100000 in
theorem xw_210 : Cond.methodLink RX5 78 yX4_find ∈ lw_tbl := List.mem_of_getElem? (i := 502) (by decide +kernel)
set_option maxRecDepth 100000 in
theorem xw_211 : Cond.methodLink RX5 84 yX6_addTable ∈ lw_tbl := List.mem_of_getElem? (i := 505) (by decide +kernel)
set_option maxRecDepth 100000 in
theorem xw_212 : Cond.instanceMethod yX6_addTable ∈ lw_tbl := List.mem_of_getElem? (i := 506) (by decide +kernel)
set_option maxRecDepth 100000 in
theorem xw_213 : Cond.selects RX6 yX6_addTable yX6_addTable ∈ lw_tbl := List.mem_of_getElem? (i := 507) (by decide +kernel)
set_option maxRecDepth 100000 in
theorem xw_214 : Cond.methodLink RX5 90 yX5_takeSign ∈ lw_tbl := List.mem_of_getElem? (i := 510) (by decide +kernel)
set_option maxRecDepth 100000 in
theorem xw_215 : Cond.instanceMethod yX5_takeSign ∈ lw_tbl := List.mem_of_getElem? (i := 512) (by decide +kernel)
set_option maxRecDepth 100000 in
theorem xw_216 : Cond.selects RX5 yX5_takeSign yX5_takeSign ∈ lw_tbl := List.mem_of_getElem? (i := 2) (by decide +kernel)
set_option maxRecDepth 100000 in
theorem xw_217 : Cond.fieldLinkNest RX5 94 (TX7 0).1 (TX7 0).2.1 (TX7 0).2.2.1 "CellLibrary" ∈ lw_tbl := List.mem_of_getElem? (i := 128) (by decide +kernel)
set_option maxRecDepth 100000 in
theorem xw_218 : Cond.methodLink RX5 100 yX5_readAxis ∈ lw_tbl := List.mem_of_getElem? (i := 514) (by decide +kernel)
set_option maxRecDepth 100000 in
theorem xw_219 : Cond.instanceMethod yX5_readAxis ∈ lw_tbl := List.mem_of_getElem? (i := 516) (by decide +kernel)
set_option maxRecDepth 100000 in
theorem xw_220 : Cond.selects RX5 yX5_readAxis yX5_readAxis ∈ lw_tbl := List.mem_of_getElem? (i := 3) (by decide +kernel)
set_option maxRecDepth 100000 in
theorem xw_221 : Cond.fieldLinkNest RX5 106 (TX7 1).1 (TX7 1).2.1 (TX7 1).2.2.1 "CellLibrary" ∈ lw_tbl := List.mem_of_getElem? (i := 130) (by decide +kernel)
set_option maxRecDepth 100000 in
theorem xw_222 : Cond.fieldLinkNest RX5 109 (TX7 2).1 (TX7 2).2.1 (TX7 2).2.2.1 "CellLibrary" ∈ lw_tbl := List.mem_of_getElem? (i := 132) (by decide +kernel)
set_option maxRecDepth 100000 in
theorem xw_223 : Cond.fieldLinkNest RX5 113 (TX0 1).1 (TX0 1).2.1 (TX0 1).2.2.1 "CellLibrary" ∈ lw_tbl := List.mem_of_getElem? (i := 118) (by decide +kernel)
set_option maxRecDepth 100000 in
theorem xw_224 : Cond.methodLink RX5 118 yX5_readNumbers ∈ lw_tbl := List.mem_of_getElem? (i := 523) (by decide +kernel)
set_option maxRecDepth 100000 in
theorem xw_225 : Cond.instanceMethod yX5_readNumbers ∈ lw_tbl := List.mem_of_getElem? (i := 525) (by decide +kernel)
set_option maxRecDepth 100000 in
theorem xw_226 : Cond.selects RX5 yX5_readNumbers yX5_readNumbers ∈ lw_tbl := List.mem_of_getElem? (i := 4) (by decide +kernel)
set_option maxRecDepth 100000 in
theorem xw_227 : Cond.methodLink RX5 124 yX9_number ∈ lw_tbl := List.mem_of_getElem? (i := 518) (by decide +kernel)
set_option maxRecDepth 100000 in
theorem xw_228 : Cond.instanceMethod yX9_number ∈ lw_tbl := List.mem_of_getElem? (i := 519) (by decide +kernel)
set_option maxRecDepth 100000 in
theorem xw_229 : Cond.selects RX9 yX9_number yX9_number ∈ lw_tbl := List.mem_of_getElem? (i := 520) (by decide +kernel)
set_option maxRecDepth 100000 in
theorem xw_230 : Cond.fieldLinkNest RX5 128 (TX0 0).1 (TX0 0).2.1 (TX0 0).2.2.1 "CellLibrary" ∈ lw_tbl := List.mem_of_getElem? (i := 115) (by decide +kernel)
set_option maxRecDepth 100000 in
theorem xw_231 : Cond.methodLink RX5 131 yX5_takeNumber ∈ lw_tbl := List.mem_of_getElem? (i := 527) (by decide +kernel)
set_option maxRecDepth 100000 in
theorem xw_232 : Cond.instanceMethod yX5_takeNumber ∈ lw_tbl := List.mem_of_getElem? (i := 529) (by decide +kernel)
set_option maxRecDepth 100000 in
theorem xw_233 : Cond.selects RX5 yX5_takeNumber yX5_takeNumber ∈ lw_tbl := List.mem_of_getElem? (i := 5) (by decide +kernel)
set_option maxRecDepth 100000 in
theorem xw_234 : Cond.fieldLinkNest RX5 134 (TX6 4).1 (TX6 4).2.1 (TX6 4).2.2.1 "CellLibrary" ∈ lw_tbl := List.mem_of_getElem? (i := 216) (by decide +kernel)
set_option maxRecDepth 100000 in
theorem xw_235 : Cond.methodLink RX5 137 yX6_hasCell ∈ lw_tbl := List.mem_of_getElem? (i := 537) (by decide +kernel)
set_option maxRecDepth 100000 in
theorem xw_236 : Cond.instanceMethod yX6_hasCell ∈ lw_tbl := List.mem_of_getElem? (i := 538) (by decide +kernel)
set_option maxRecDepth 100000 in
theorem xw_237 : Cond.selects RX6 yX6_hasCell yX6_hasCell ∈ lw_tbl := List.mem_of_getElem? (i := 539) (by decide +kernel)
set_option maxRecDepth 100000 in
theorem xw_238 : Cond.methodLink RX5 141 yX6_addCell ∈ lw_tbl := List.mem_of_getElem? (i := 541) (by decide +kernel)
set_option maxRecDepth 100000 in
theorem xw_239 : Cond.instanceMethod yX6_addCell ∈ lw_tbl := List.mem_of_getElem? (i := 542) (by decide +kernel)
set_option maxRecDepth 100000 in
theorem xw_240 : Cond.selects RX6 yX6_addCell yX6_addCell ∈ lw_tbl := List.mem_of_getElem? (i := 543) (by decide +kernel)
set_option maxRecDepth 100000 in
theorem xw_241 : Cond.methodLink RX5 151 yX5_readInput ∈ lw_tbl := List.mem_of_getElem? (i := 552) (by decide +kernel)
set_option maxRecDepth 100000 in
theorem xw_242 : Cond.instanceMethod yX5_readInput ∈ lw_tbl := List.mem_of_getElem? (i := 554) (by decide +kernel)
set_option maxRecDepth 100000 in
theorem xw_243 : Cond.selects RX5 yX5_readInput yX5_readInput ∈ lw_tbl := List.mem_of_getElem? (i := 7) (by decide +kernel)
set_option maxRecDepth 100000 in
theorem xw_244 : Cond.methodLink RX5 157 yX5_readOutputName ∈ lw_tbl := List.mem_of_getElem? (i := 566) (by decide +kernel)
set_option maxRecDepth 100000 in
theorem xw_245 : Cond.instanceMethod yX5_readOutputName ∈ lw_tbl := List.mem_of_getElem? (i := 568) (by decide +kernel)
set_option maxRecDepth 100000 in
theorem xw_246 : Cond.selects RX5 yX5_readOutputName yX5_readOutputName ∈ lw_tbl := List.mem_of_getElem? (i := 9) (by decide +kernel)
set_option maxRecDepth 100000 in
theorem xw_247 : Cond.methodLink RX5 160 yX5_readFunction ∈ lw_tbl := List.mem_of_getElem? (i := 571) (by decide +kernel)
set_option maxRecDepth 100000 in
theorem xw_248 : Cond.instanceMethod yX5_readFunction ∈ lw_tbl := List.mem_of_getElem? (i := 573) (by decide +kernel)
set_option maxRecDepth 100000 in
theorem xw_249 : Cond.selects RX5 yX5_readFunction yX5_readFunction ∈ lw_tbl := List.mem_of_getElem? (i := 10) (by decide +kernel)
set_option maxRecDepth 100000 in
theorem xw_250 : Cond.methodLink RX5 167 yX5_readAmount ∈ lw_tbl := List.mem_of_getElem? (i := 654) (by decide +kernel)
set_option maxRecDepth 100000 in
theorem xw_251 : Cond.instanceMethod yX5_readAmount ∈ lw_tbl := List.mem_of_getElem? (i := 656) (by decide +kernel)
set_option maxRecDepth 100000 in
theorem xw_252 : Cond.selects RX5 yX5_readAmount yX5_readAmount ∈ lw_tbl := List.mem_of_getElem? (i := 16) (by decide +kernel)
set_option maxRecDepth 100000 in
theorem xw_253 : Cond.methodLink RX5 177 yX5_readArc ∈ lw_tbl := List.mem_of_getElem? (i := 661) (by decide +kernel)
set_option maxRecDepth 100000 in
theorem xw_254 : Cond.instanceMethod yX5_readArc ∈ lw_tbl := List.mem_of_getElem? (i := 663) (by decide +kernel)
set_option maxRecDepth 100000 in
theorem xw_255 : Cond.selects RX5 yX5_readArc yX5_readArc ∈ lw_tbl := List.mem_of_getElem? (i := 17) (by decide +kernel)
set_option maxRecDepth 100000 in
theorem xw_256 : Cond.methodLink RX5 182 yX5_readPowers ∈ lw_tbl := List.mem_of_getElem? (i := 689) (by decide +kernel)
set_option maxRecDepth 100000 in
theorem xw_257 : Cond.instanceMethod yX5_readPowers ∈ lw_tbl := List.mem_of_getElem? (i := 691) (by decide +kernel)
set_option maxRecDepth 100000 in
theorem xw_258 : Cond.selects RX5 yX5_readPowers yX5_readPowers ∈ lw_tbl := List.mem_of_getElem? (i := 20) (by decide +kernel)
set_option maxRecDepth 100000 in
theorem xw_259 : Cond.fieldLinkNest RX5 185 (TX1 4).1 (TX1 4).2.1 (TX1 4).2.2.1 "CellLibrary" ∈ lw_tbl := List.mem_of_getElem? (i := 159) (by decide +kernel)
set_option maxRecDepth 100000 in
theorem xw_260 : Cond.fieldLinkNest RX5 188 (TX1 9).1 (TX1 9).2.1 (TX1 9).2.2.1 "CellLibrary" ∈ lw_tbl := List.mem_of_getElem? (i := 173) (by decide +kernel)
set_option maxRecDepth 100000 in
theorem xw_261 : Cond.fieldLinkNest RX5 192 (TX1 3).1 (TX1 3).2.1 (TX1 3).2.2.1 "CellLibrary" ∈ lw_tbl := List.mem_of_getElem? (i := 156) (by decide +kernel)
set_option maxRecDepth 100000 in
theorem xw_262 : Cond.methodLink RX5 195 yX5_takeNewPin ∈ lw_tbl := List.mem_of_getElem? (i := 556) (by decide +kernel)
set_option maxRecDepth 100000 in
theorem xw_263 : Cond.instanceMethod yX5_takeNewPin ∈ lw_tbl := List.mem_of_getElem? (i := 558) (by decide +kernel)
set_option maxRecDepth 100000 in
theorem xw_264 : Cond.selects RX5 yX5_takeNewPin yX5_takeNewPin ∈ lw_tbl := List.mem_of_getElem? (i := 8) (by decide +kernel)
set_option maxRecDepth 100000 in
theorem xw_265 : Cond.methodLink RX5 200 yX8_begin ∈ lw_tbl := List.mem_of_getElem? (i := 575) (by decide +kernel)
set_option maxRecDepth 100000 in
theorem xw_266 : Cond.instanceMethod yX8_begin ∈ lw_tbl := List.mem_of_getElem? (i := 576) (by decide +kernel)
set_option maxRecDepth 100000 in
theorem xw_267 : Cond.selects RX8 yX8_begin yX8_begin ∈ lw_tbl := List.mem_of_getElem? (i := 577) (by decide +kernel)
set_option maxRecDepth 100000 in
theorem xw_268 : Cond.methodLink RX5 203 yX5_readOpenings ∈ lw_tbl := List.mem_of_getElem? (i := 584) (by decide +kernel)
set_option maxRecDepth 100000 in
theorem xw_269 : Cond.instanceMethod yX5_readOpenings ∈ lw_tbl := List.mem_of_getElem? (i := 586) (by decide +kernel)
set_option maxRecDepth 100000 in
theorem xw_270 : Cond.selects RX5 yX5_readOpenings yX5_readOpenings ∈ lw_tbl := List.mem_of_getElem? (i := 12) (by decide +kernel)
set_option maxRecDepth 100000 in
theorem xw_271 : Cond.methodLink RX5 206 yX5_takePrimary ∈ lw_tbl := List.mem_of_getElem? (i := 598) (by decide +kernel)
set_option maxRecDepth 100000 in
theorem xw_272 : Cond.instanceMethod yX5_takePrimary ∈ lw_tbl := List.mem_of_getElem? (i := 600) (by decide +kernel)
set_option maxRecDepth 100000 in
theorem xw_273 : Cond.selects RX5 yX5_takePrimary yX5_takePrimary ∈ lw_tbl := List.mem_of_getElem? (i := 13) (by decide +kernel)
set_option maxRecDepth 100000 in
theorem xw_274 : Cond.methodLink RX5 210 yX8_put ∈ lw_tbl := List.mem_of_getElem? (i := 611) (by decide +kernel)
set_option maxRecDepth 100000 in
theorem xw_275 : Cond.methodLink RX5 214 yX5_readClosings ∈ lw_tbl := List.mem_of_getElem? (i := 615) (by decide +kernel)
set_option maxRecDepth 100000 in
theorem xw_276 : Cond.instanceMethod yX5_readClosings ∈ lw_tbl := List.mem_of_getElem? (i := 617) (by decide +kernel)
set_option maxRecDepth 100000 in
theorem xw_277 : Cond.selects RX5 yX5_readClosings yX5_readClosings ∈ lw_tbl := List.mem_of_getElem? (i := 14) (by decide +kernel)
set_option maxRecDepth 100000 in
theorem xw_278 : Cond.methodLink RX5 217 yX5_takeOperator ∈ lw_tbl := List.mem_of_getElem? (i := 629) (by decide +kernel)
set_option maxRecDepth 100000 in
theorem xw_279 : Cond.instanceMethod yX5_takeOperator ∈ lw_tbl := List.mem_of_getElem? (i := 631) (by decide +kernel)
set_option maxRecDepth 100000 in
theorem xw_280 : Cond.selects RX5 yX5_takeOperator yX5_takeOperator ∈ lw_tbl := List.mem_of_getElem? (i := 15) (by decide +kernel)
set_option maxRecDepth 100000 in
theorem xw_281 : Cond.fieldLinkNest RX5 221 (TX8 4).1 (TX8 4).2.1 (TX8 4).2.2.1 "CellLibrary" ∈ lw_tbl := List.mem_of_getElem? (i := 269) (by decide +kernel)
set_option maxRecDepth 100000 in
theorem xw_282 : Cond.fieldLinkNest RX5 223 (TX1 5).1 (TX1 5).2.1 (TX1 5).2.2.1 "CellLibrary" ∈ lw_tbl := List.mem_of_getElem? (i := 163) (by decide +kernel)
set_option maxRecDepth 100000 in
theorem xw_283 : Cond.methodLink RX5 226 yX8_total ∈ lw_tbl := List.mem_of_getElem? (i := 644) (by decide +kernel)
set_option maxRecDepth 100000 in
theorem xw_284 : Cond.methodLink RX5 229 yX1_states ∈ lw_tbl := List.mem_of_getElem? (i := 645) (by decide +kernel)
set_option maxRecDepth 100000 in
theorem xw_285 : Cond.instanceMethod yX1_states ∈ lw_tbl := List.mem_of_getElem? (i := 646) (by decide +kernel)
set_option maxRecDepth 100000 in
theorem xw_286 : Cond.selects RX1 yX1_states yX1_states ∈ lw_tbl := List.mem_of_getElem? (i := 647) (by decide +kernel)
set_option maxRecDepth 100000 in
theorem xw_287 : Cond.methodLink RX5 232 yX2_within ∈ lw_tbl := List.mem_of_getElem? (i := 649) (by decide +kernel)
set_option maxRecDepth 100000 in
theorem xw_288 : Cond.static yX2_within ∈ lw_tbl := List.mem_of_getElem? (i := 650) (by decide +kernel)
set_option maxRecDepth 100000 in
theorem xw_289 : Cond.methodLink RX5 238 yX1_pinNamed ∈ lw_tbl := List.mem_of_getElem? (i := 560) (by decide +kernel)
set_option maxRecDepth 100000 in
theorem xw_290 : Cond.instanceMethod yX1_pinNamed ∈ lw_tbl := List.mem_of_getElem? (i := 561) (by decide +kernel)
set_option maxRecDepth 100000 in
theorem xw_291 : Cond.selects RX1 yX1_pinNamed yX1_pinNamed ∈ lw_tbl := List.mem_of_getElem? (i := 562) (by decide +kernel)
set_option maxRecDepth 100000 in
theorem xw_292 : Cond.fieldLinkNest RX5 242 (TX1 2).1 (TX1 2).2.1 (TX1 2).2.2.1 "CellLibrary" ∈ lw_tbl := List.mem_of_getElem? (i := 151) (by decide +kernel)
set_option maxRecDepth 100000 in
theorem xw_293 : Cond.fieldLinkNest RX5 245 (TX1 7).1 (TX1 7).2.1 (TX1 7).2.2.1 "CellLibrary" ∈ lw_tbl := List.mem_of_getElem? (i := 168) (by decide +kernel)
set_option maxRecDepth 100000 in
theorem xw_294 : Cond.fieldLinkNest RX5 249 (TX1 6).1 (TX1 6).2.1 (TX1 6).2.2.1 "CellLibrary" ∈ lw_tbl := List.mem_of_getElem? (i := 166) (by decide +kernel)
set_option maxRecDepth 100000 in
theorem xw_295 : Cond.fieldLinkNest RX5 252 (TX1 8).1 (TX1 8).2.1 (TX1 8).2.2.1 "CellLibrary" ∈ lw_tbl := List.mem_of_getElem? (i := 171) (by decide +kernel)
set_option maxRecDepth 100000 in
theorem xw_296 : Cond.fieldLinkNest RX5 255 (TX1 11).1 (TX1 11).2.1 (TX1 11).2.2.1 "CellLibrary" ∈ lw_tbl := List.mem_of_getElem? (i := 178) (by decide +kernel)
set_option maxRecDepth 100000 in
theorem xw_297 : Cond.methodLink RX5 258 yX1_inputNamed ∈ lw_tbl := List.mem_of_getElem? (i := 604) (by decide +kernel)
set_option maxRecDepth 100000 in
theorem xw_298 : Cond.instanceMethod yX1_inputNamed ∈ lw_tbl := List.mem_of_getElem? (i := 605) (by decide +kernel)
set_option maxRecDepth 100000 in
theorem xw_299 : Cond.selects RX1 yX1_inputNamed yX1_inputNamed ∈ lw_tbl := List.mem_of_getElem? (i := 606) (by decide +kernel)
set_option maxRecDepth 100000 in
theorem xw_300 : Cond.methodLink RX5 261 yX1_hasArc ∈ lw_tbl := List.mem_of_getElem? (i := 665) (by decide +kernel)
set_option maxRecDepth 100000 in
theorem xw_301 : Cond.instanceMethod yX1_hasArc ∈ lw_tbl := List.mem_of_getElem? (i := 666) (by decide +kernel)
set_option maxRecDepth 100000 in
theorem xw_302 : Cond.selects RX1 yX1_hasArc yX1_hasArc ∈ lw_tbl := List.mem_of_getElem? (i := 667) (by decide +kernel)
set_option maxRecDepth 100000 in
theorem xw_303 : Cond.methodLink RX5 265 yX5_takeSense ∈ lw_tbl := List.mem_of_getElem? (i := 673) (by decide +kernel)
set_option maxRecDepth 100000 in
theorem xw_304 : Cond.instanceMethod yX5_takeSense ∈ lw_tbl := List.mem_of_getElem? (i := 675) (by decide +kernel)
set_option maxRecDepth 100000 in
theorem xw_305 : Cond.selects RX5 yX5_takeSense yX5_takeSense ∈ lw_tbl := List.mem_of_getElem? (i := 18) (by decide +kernel)
set_option maxRecDepth 100000 in
theorem xw_306 : Cond.methodLink RX5 268 yX5_takeTable ∈ lw_tbl := List.mem_of_getElem? (i := 680) (by decide +kernel)
set_option maxRecDepth 100000 in
theorem xw_307 : Cond.instanceMethod yX5_takeTable ∈ lw_tbl := List.mem_of_getElem? (i := 682) (by decide +kernel)
set_option maxRecDepth 100000 in
theorem xw_308 : Cond.selects RX5 yX5_takeTable yX5_takeTable ∈ lw_tbl := List.mem_of_getElem? (i := 19) (by decide +kernel)
set_option maxRecDepth 100000 in
theorem xw_309 : Cond.methodLink RX5 271 yX1_addArc ∈ lw_tbl := List.mem_of_getElem? (i := 684) (by decide +kernel)
set_option maxRecDepth 100000 in
theorem xw_310 : Cond.instanceMethod yX1_addArc ∈ lw_tbl := List.mem_of_getElem? (i := 685) (by decide +kernel)
set_option maxRecDepth 100000 in
theorem xw_311 : Cond.selects RX1 yX1_addArc yX1_addArc ∈ lw_tbl := List.mem_of_getElem? (i := 686) (by decide +kernel)
set_option maxRecDepth 100000 in
theorem xw_312 : Cond.methodLink RX5 285 yX8_turn ∈ lw_tbl := List.mem_of_getElem? (i := 590) (by decide +kernel)
set_option maxRecDepth 100000 in
theorem xw_313 : Cond.instanceMethod yX8_turn ∈ lw_tbl := List.mem_of_getElem? (i := 591) (by decide +kernel)
set_option maxRecDepth 100000 in
theorem xw_314 : Cond.selects RX8 yX8_turn yX8_turn ∈ lw_tbl := List.mem_of_getElem? (i := 592) (by decide +kernel)
set_option maxRecDepth 100000 in
theorem xw_315 : Cond.methodLink RX5 288 yX8_openBracket ∈ lw_tbl := List.mem_of_getElem? (i := 594) (by decide +kernel)
set_option maxRecDepth 100000 in
theorem xw_316 : Cond.instanceMethod yX8_openBracket ∈ lw_tbl := List.mem_of_getElem? (i := 595) (by decide +kernel)
set_option maxRecDepth 100000 in
theorem xw_317 : Cond.selects RX8 yX8_openBracket yX8_openBracket ∈ lw_tbl := List.mem_of_getElem? (i := 596) (by decide +kernel)
set_option maxRecDepth 100000 in
theorem xw_318 : Cond.constantLong RX5 293 (-1 : Int64) ∈ lw_tbl := List.mem_of_getElem? (i := 603) (by decide +kernel)
set_option maxRecDepth 100000 in
theorem xw_319 : Cond.fieldLinkNest RX5 295 RX2 "INPUTS" "[J" "CellLibrary" ∈ lw_tbl := List.mem_of_getElem? (i := 608) (by decide +kernel)
set_option maxRecDepth 100000 in
theorem xw_320 : Cond.methodLink RX5 302 yX8_closeBracket ∈ lw_tbl := List.mem_of_getElem? (i := 620) (by decide +kernel)
set_option maxRecDepth 100000 in
theorem xw_321 : Cond.instanceMethod yX8_closeBracket ∈ lw_tbl := List.mem_of_getElem? (i := 621) (by decide +kernel)
set_option maxRecDepth 100000 in
theorem xw_322 : Cond.selects RX8 yX8_closeBracket yX8_closeBracket ∈ lw_tbl := List.mem_of_getElem? (i := 622) (by decide +kernel)
set_option maxRecDepth 100000 in
theorem xw_323 : Cond.methodLink RX5 307 yX8_endXor ∈ lw_tbl := List.mem_of_getElem? (i := 634) (by decide +kernel)
set_option maxRecDepth 100000 in
theorem xw_324 : Cond.instanceMethod yX8_endXor ∈ lw_tbl := List.mem_of_getElem? (i := 635) (by decide +kernel)
set_option maxRecDepth 100000 in
theorem xw_325 : Cond.selects RX8 yX8_endXor yX8_endXor ∈ lw_tbl := List.mem_of_getElem? (i := 636) (by decide +kernel)
set_option maxRecDepth 100000 in
theorem xw_326 : Cond.methodLink RX5 312 yX8_endAnd ∈ lw_tbl := List.mem_of_getElem? (i := 639) (by decide +kernel)
set_option maxRecDepth 100000 in
theorem xw_327 : Cond.instanceMethod yX8_endAnd ∈ lw_tbl := List.mem_of_getElem? (i := 640) (by decide +kernel)
set_option maxRecDepth 100000 in
theorem xw_328 : Cond.selects RX8 yX8_endAnd yX8_endAnd ∈ lw_tbl := List.mem_of_getElem? (i := 641) (by decide +kernel)
set_option maxRecDepth 100000 in
theorem xw_329 : Cond.methodLink RX10 3 objectInit ∈ lw_tbl := List.mem_of_getElem? (i := 90) (by decide +kernel)
set_option maxRecDepth 100000 in
theorem xw_330 : Cond.fieldLink RX10 9 (TX10 0).1 (TX10 0).2.1 (TX10 0).2.2.1 ∈ lw_tbl := List.mem_of_getElem? (i := 313) (by decide +kernel)
set_option maxRecDepth 100000 in
theorem xw_331 : Cond.classLink RX10 13 RX6 ∈ lw_tbl := List.mem_of_getElem? (i := 93) (by decide +kernel)
set_option maxRecDepth 100000 in
theorem xw_332 : Cond.methodLink RX10 15 yX6_init ∈ lw_tbl := List.mem_of_getElem? (i := 95) (by decide +kernel)
set_option maxRecDepth 100000 in
theorem xw_333 : Cond.fieldLink RX10 16 (TX10 2).1 (TX10 2).2.1 (TX10 2).2.2.1 ∈ lw_tbl := List.mem_of_getElem? (i := 315) (by decide +kernel)
set_option maxRecDepth 100000 in
theorem xw_334 : Cond.classLink RX10 20 RX5 ∈ lw_tbl := List.mem_of_getElem? (i := 228) (by decide +kernel)
set_option maxRecDepth 100000 in
theorem xw_335 : Cond.instantiable RX5 3 ∈ lw_tbl := List.mem_of_getElem? (i := 229) (by decide +kernel)
set_option maxRecDepth 100000 in
theorem xw_336 : Cond.initialized RX5 ∈ lw_tbl := List.mem_of_getElem? (i := 66) (by decide +kernel)
set_option maxRecDepth 100000 in
theorem xw_337 : Cond.methodLinkNest RX10 22 yX5_init "CellLibrary" ∈ lw_tbl := List.mem_of_getElem? (i := 230) (by decide +kernel)
set_option maxRecDepth 100000 in
theorem xw_338 : Cond.instanceMethod yX5_init ∈ lw_tbl := List.mem_of_getElem? (i := 231) (by decide +kernel)
set_option maxRecDepth 100000 in
theorem xw_339 : Cond.fieldLink RX10 23 (TX10 3).1 (TX10 3).2.1 (TX10 3).2.2.1 ∈ lw_tbl := List.mem_of_getElem? (i := 316) (by decide +kernel)
end
