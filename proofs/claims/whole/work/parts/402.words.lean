/-! more of the tables' words -/
theorem wd_252 : Cond.methodLink RX0 3 objectInit ∈ TT := List.mem_filter.mpr ⟨List.mem_of_getElem? (i := 252) (by decide +kernel), by decide +kernel⟩
theorem wd_92 : Cond.instanceMethod objectInit ∈ TT := List.mem_filter.mpr ⟨List.mem_of_getElem? (i := 92) (by decide +kernel), by decide +kernel⟩
theorem wd_93 : Cond.code objectInit ⟨#[0xb1]⟩ 1 none ∈ TT := List.mem_filter.mpr ⟨List.mem_of_getElem? (i := 93) (by decide +kernel), by decide +kernel⟩
theorem wd_353 : Cond.methodLink RX1 3 objectInit ∈ TT := List.mem_filter.mpr ⟨List.mem_of_getElem? (i := 353) (by decide +kernel), by decide +kernel⟩
theorem wd_122 : Cond.arrayClass .int ∈ TT := List.mem_filter.mpr ⟨List.mem_of_getElem? (i := 122) (by decide +kernel), by decide +kernel⟩
theorem wd_325 : Cond.methodLink RX3 1 objectInit ∈ TT := List.mem_filter.mpr ⟨List.mem_of_getElem? (i := 325) (by decide +kernel), by decide +kernel⟩
theorem wd_134 : Cond.methodLink RX4 3 objectInit ∈ TT := List.mem_filter.mpr ⟨List.mem_of_getElem? (i := 134) (by decide +kernel), by decide +kernel⟩
theorem wd_99 : Cond.methodLink RX8 3 objectInit ∈ TT := List.mem_filter.mpr ⟨List.mem_of_getElem? (i := 99) (by decide +kernel), by decide +kernel⟩
theorem wd_336 : Cond.methodLink RX9 3 objectInit ∈ TT := List.mem_filter.mpr ⟨List.mem_of_getElem? (i := 336) (by decide +kernel), by decide +kernel⟩
theorem wd_200 : Cond.methodLink RX10 3 objectInit ∈ TT := List.mem_filter.mpr ⟨List.mem_of_getElem? (i := 200) (by decide +kernel), by decide +kernel⟩
theorem wd_370 : Cond.methodLink RX6 3 objectInit ∈ TT := List.mem_filter.mpr ⟨List.mem_of_getElem? (i := 370) (by decide +kernel), by decide +kernel⟩
theorem wd_128 : Cond.methodLink RX2 3 objectInit ∈ TT := List.mem_filter.mpr ⟨List.mem_of_getElem? (i := 128) (by decide +kernel), by decide +kernel⟩
theorem wd_129 : Cond.classLink RX2 9 RX4 ∈ TT := List.mem_filter.mpr ⟨List.mem_of_getElem? (i := 129) (by decide +kernel), by decide +kernel⟩
theorem wd_130 : Cond.instantiable RX4 11 ∈ TT := List.mem_filter.mpr ⟨List.mem_of_getElem? (i := 130) (by decide +kernel), by decide +kernel⟩
theorem wd_132 : Cond.instanceMethod yX4_init ∈ TT := List.mem_filter.mpr ⟨List.mem_of_getElem? (i := 132) (by decide +kernel), by decide +kernel⟩
theorem wd_133 : Cond.code yX4_init cX4_init 1 none ∈ TT := List.mem_filter.mpr ⟨List.mem_of_getElem? (i := 133) (by decide +kernel), by decide +kernel⟩
theorem wd_195 : Cond.classLink RX2 18 RX10 ∈ TT := List.mem_filter.mpr ⟨List.mem_of_getElem? (i := 195) (by decide +kernel), by decide +kernel⟩
theorem wd_196 : Cond.instantiable RX10 9 ∈ TT := List.mem_filter.mpr ⟨List.mem_of_getElem? (i := 196) (by decide +kernel), by decide +kernel⟩
theorem wd_198 : Cond.instanceMethod yX10_init ∈ TT := List.mem_filter.mpr ⟨List.mem_of_getElem? (i := 198) (by decide +kernel), by decide +kernel⟩
theorem wd_199 : Cond.code yX10_init cX10_init 1 none ∈ TT := List.mem_filter.mpr ⟨List.mem_of_getElem? (i := 199) (by decide +kernel), by decide +kernel⟩
theorem wd_247 : Cond.classLink RX2 25 RX0 ∈ TT := List.mem_filter.mpr ⟨List.mem_of_getElem? (i := 247) (by decide +kernel), by decide +kernel⟩
theorem wd_248 : Cond.instantiable RX0 2 ∈ TT := List.mem_filter.mpr ⟨List.mem_of_getElem? (i := 248) (by decide +kernel), by decide +kernel⟩
theorem wd_250 : Cond.instanceMethod yX0_init ∈ TT := List.mem_filter.mpr ⟨List.mem_of_getElem? (i := 250) (by decide +kernel), by decide +kernel⟩
theorem wd_251 : Cond.code yX0_init cX0_init 1 none ∈ TT := List.mem_filter.mpr ⟨List.mem_of_getElem? (i := 251) (by decide +kernel), by decide +kernel⟩
theorem wd_91 : Cond.methodLink RX11 1 objectInit ∈ TT := List.mem_filter.mpr ⟨List.mem_of_getElem? (i := 91) (by decide +kernel), by decide +kernel⟩
theorem wd_94 : Cond.classLink RX11 7 RX8 ∈ TT := List.mem_filter.mpr ⟨List.mem_of_getElem? (i := 94) (by decide +kernel), by decide +kernel⟩
theorem wd_95 : Cond.instantiable RX8 6 ∈ TT := List.mem_filter.mpr ⟨List.mem_of_getElem? (i := 95) (by decide +kernel), by decide +kernel⟩
theorem wd_97 : Cond.instanceMethod yX8_init ∈ TT := List.mem_filter.mpr ⟨List.mem_of_getElem? (i := 97) (by decide +kernel), by decide +kernel⟩
theorem wd_98 : Cond.code yX8_init cX8_init 1 none ∈ TT := List.mem_filter.mpr ⟨List.mem_of_getElem? (i := 98) (by decide +kernel), by decide +kernel⟩
theorem wd_123 : Cond.classLink RX11 16 RX2 ∈ TT := List.mem_filter.mpr ⟨List.mem_of_getElem? (i := 123) (by decide +kernel), by decide +kernel⟩
theorem wd_124 : Cond.instantiable RX2 3 ∈ TT := List.mem_filter.mpr ⟨List.mem_of_getElem? (i := 124) (by decide +kernel), by decide +kernel⟩
theorem wd_126 : Cond.instanceMethod yX2_init ∈ TT := List.mem_filter.mpr ⟨List.mem_of_getElem? (i := 126) (by decide +kernel), by decide +kernel⟩
theorem wd_127 : Cond.code yX2_init cX2_init 1 none ∈ TT := List.mem_filter.mpr ⟨List.mem_of_getElem? (i := 127) (by decide +kernel), by decide +kernel⟩
theorem wd_278 : Cond.classLink RX11 23 RX7 ∈ TT := List.mem_filter.mpr ⟨List.mem_of_getElem? (i := 278) (by decide +kernel), by decide +kernel⟩
theorem wd_279 : Cond.instantiable RX7 3 ∈ TT := List.mem_filter.mpr ⟨List.mem_of_getElem? (i := 279) (by decide +kernel), by decide +kernel⟩
theorem wd_280 : Cond.methodLink RX11 25 yX7_init ∈ TT := List.mem_filter.mpr ⟨List.mem_of_getElem? (i := 280) (by decide +kernel), by decide +kernel⟩
theorem wd_281 : Cond.instanceMethod yX7_init ∈ TT := List.mem_filter.mpr ⟨List.mem_of_getElem? (i := 281) (by decide +kernel), by decide +kernel⟩
theorem wd_282 : Cond.code yX7_init cX7_init 2 none ∈ TT := List.mem_filter.mpr ⟨List.mem_of_getElem? (i := 282) (by decide +kernel), by decide +kernel⟩
theorem wd_298 : Cond.classLink RX11 30 RX5 ∈ TT := List.mem_filter.mpr ⟨List.mem_of_getElem? (i := 298) (by decide +kernel), by decide +kernel⟩
theorem wd_299 : Cond.instantiable RX5 3 ∈ TT := List.mem_filter.mpr ⟨List.mem_of_getElem? (i := 299) (by decide +kernel), by decide +kernel⟩
theorem wd_300 : Cond.methodLink RX11 32 yX5_init ∈ TT := List.mem_filter.mpr ⟨List.mem_of_getElem? (i := 300) (by decide +kernel), by decide +kernel⟩
theorem wd_301 : Cond.instanceMethod yX5_init ∈ TT := List.mem_filter.mpr ⟨List.mem_of_getElem? (i := 301) (by decide +kernel), by decide +kernel⟩
theorem wd_302 : Cond.code yX5_init cX5_init 2 none ∈ TT := List.mem_filter.mpr ⟨List.mem_of_getElem? (i := 302) (by decide +kernel), by decide +kernel⟩
theorem wd_320 : Cond.classLink RX11 37 RX3 ∈ TT := List.mem_filter.mpr ⟨List.mem_of_getElem? (i := 320) (by decide +kernel), by decide +kernel⟩
theorem wd_321 : Cond.instantiable RX3 1 ∈ TT := List.mem_filter.mpr ⟨List.mem_of_getElem? (i := 321) (by decide +kernel), by decide +kernel⟩
theorem wd_323 : Cond.instanceMethod yX3_init ∈ TT := List.mem_filter.mpr ⟨List.mem_of_getElem? (i := 323) (by decide +kernel), by decide +kernel⟩
theorem wd_324 : Cond.code yX3_init cX3_init 1 none ∈ TT := List.mem_filter.mpr ⟨List.mem_of_getElem? (i := 324) (by decide +kernel), by decide +kernel⟩
theorem wd_331 : Cond.classLink RX11 44 RX9 ∈ TT := List.mem_filter.mpr ⟨List.mem_of_getElem? (i := 331) (by decide +kernel), by decide +kernel⟩
theorem wd_332 : Cond.instantiable RX9 3 ∈ TT := List.mem_filter.mpr ⟨List.mem_of_getElem? (i := 332) (by decide +kernel), by decide +kernel⟩
theorem wd_334 : Cond.instanceMethod yX9_init ∈ TT := List.mem_filter.mpr ⟨List.mem_of_getElem? (i := 334) (by decide +kernel), by decide +kernel⟩
theorem wd_335 : Cond.code yX9_init cX9_init 1 none ∈ TT := List.mem_filter.mpr ⟨List.mem_of_getElem? (i := 335) (by decide +kernel), by decide +kernel⟩
theorem wd_348 : Cond.classLink RX11 51 RX1 ∈ TT := List.mem_filter.mpr ⟨List.mem_of_getElem? (i := 348) (by decide +kernel), by decide +kernel⟩
theorem wd_349 : Cond.instantiable RX1 3 ∈ TT := List.mem_filter.mpr ⟨List.mem_of_getElem? (i := 349) (by decide +kernel), by decide +kernel⟩
theorem wd_351 : Cond.instanceMethod yX1_init ∈ TT := List.mem_filter.mpr ⟨List.mem_of_getElem? (i := 351) (by decide +kernel), by decide +kernel⟩
theorem wd_352 : Cond.code yX1_init cX1_init 1 none ∈ TT := List.mem_filter.mpr ⟨List.mem_of_getElem? (i := 352) (by decide +kernel), by decide +kernel⟩
theorem wd_365 : Cond.classLink RX11 58 RX6 ∈ TT := List.mem_filter.mpr ⟨List.mem_of_getElem? (i := 365) (by decide +kernel), by decide +kernel⟩
theorem wd_366 : Cond.instantiable RX6 5 ∈ TT := List.mem_filter.mpr ⟨List.mem_of_getElem? (i := 366) (by decide +kernel), by decide +kernel⟩
theorem wd_368 : Cond.instanceMethod yX6_init ∈ TT := List.mem_filter.mpr ⟨List.mem_of_getElem? (i := 368) (by decide +kernel), by decide +kernel⟩
theorem wd_369 : Cond.code yX6_init cX6_init 1 none ∈ TT := List.mem_filter.mpr ⟨List.mem_of_getElem? (i := 369) (by decide +kernel), by decide +kernel⟩
theorem wd_388 : Cond.classLink RX11 65 RX4 ∈ TT := List.mem_filter.mpr ⟨List.mem_of_getElem? (i := 388) (by decide +kernel), by decide +kernel⟩
theorem wd_873 : Cond.methodLink RX12 1 objectInit ∈ TT := List.mem_filter.mpr ⟨List.mem_of_getElem? (i := 873) (by decide +kernel), by decide +kernel⟩
theorem wd_319 : Cond.arrayClass .boolean ∈ TT := List.mem_filter.mpr ⟨List.mem_of_getElem? (i := 319) (by decide +kernel), by decide +kernel⟩
theorem wd_283 : Cond.methodLink RX7 3 objectInit ∈ TT := List.mem_filter.mpr ⟨List.mem_of_getElem? (i := 283) (by decide +kernel), by decide +kernel⟩
theorem wd_284 : Cond.classLink RX7 9 RX10 ∈ TT := List.mem_filter.mpr ⟨List.mem_of_getElem? (i := 284) (by decide +kernel), by decide +kernel⟩
theorem wd_303 : Cond.methodLink RX5 3 objectInit ∈ TT := List.mem_filter.mpr ⟨List.mem_of_getElem? (i := 303) (by decide +kernel), by decide +kernel⟩
theorem wd_304 : Cond.classLink RX5 15 RX10 ∈ TT := List.mem_filter.mpr ⟨List.mem_of_getElem? (i := 304) (by decide +kernel), by decide +kernel⟩
theorem wd_86 : Cond.classLink RL 7 RX11 ∈ TT := List.mem_filter.mpr ⟨List.mem_of_getElem? (i := 86) (by decide +kernel), by decide +kernel⟩
theorem wd_88 : Cond.methodLink RL 9 yX11_init ∈ TT := List.mem_filter.mpr ⟨List.mem_of_getElem? (i := 88) (by decide +kernel), by decide +kernel⟩
theorem wd_868 : Cond.classLink RL 10 RX12 ∈ TT := List.mem_filter.mpr ⟨List.mem_of_getElem? (i := 868) (by decide +kernel), by decide +kernel⟩
theorem wd_870 : Cond.methodLink RL 12 yX12_init ∈ TT := List.mem_filter.mpr ⟨List.mem_of_getElem? (i := 870) (by decide +kernel), by decide +kernel⟩
theorem wd_418 : Cond.methodLink RL 13 yX11_feed ∈ TT := List.mem_filter.mpr ⟨List.mem_of_getElem? (i := 418) (by decide +kernel), by decide +kernel⟩
theorem wd_983 : Cond.methodLink RL 17 yX12_feed ∈ TT := List.mem_filter.mpr ⟨List.mem_of_getElem? (i := 983) (by decide +kernel), by decide +kernel⟩
theorem wd_428 : Cond.methodLink RL 18 yX11_hills ∈ TT := List.mem_filter.mpr ⟨List.mem_of_getElem? (i := 428) (by decide +kernel), by decide +kernel⟩
theorem wd_993 : Cond.methodLink RL 22 yX12_hills ∈ TT := List.mem_filter.mpr ⟨List.mem_of_getElem? (i := 993) (by decide +kernel), by decide +kernel⟩
theorem wd_513 : Cond.methodLink RL 23 yX11_fault ∈ TT := List.mem_filter.mpr ⟨List.mem_of_getElem? (i := 513) (by decide +kernel), by decide +kernel⟩
theorem wd_1033 : Cond.methodLink RL 26 yX12_fault ∈ TT := List.mem_filter.mpr ⟨List.mem_of_getElem? (i := 1033) (by decide +kernel), by decide +kernel⟩
theorem wd_517 : Cond.methodLink RL 27 yX11_told ∈ TT := List.mem_filter.mpr ⟨List.mem_of_getElem? (i := 517) (by decide +kernel), by decide +kernel⟩
theorem wd_1037 : Cond.methodLink RL 30 yX12_told ∈ TT := List.mem_filter.mpr ⟨List.mem_of_getElem? (i := 1037) (by decide +kernel), by decide +kernel⟩
theorem wd_585 : Cond.methodLink RL 31 yX11_person ∈ TT := List.mem_filter.mpr ⟨List.mem_of_getElem? (i := 585) (by decide +kernel), by decide +kernel⟩
theorem wd_1103 : Cond.methodLink RL 35 yX12_person ∈ TT := List.mem_filter.mpr ⟨List.mem_of_getElem? (i := 1103) (by decide +kernel), by decide +kernel⟩
theorem wd_625 : Cond.methodLink RL 36 yX11_village ∈ TT := List.mem_filter.mpr ⟨List.mem_of_getElem? (i := 625) (by decide +kernel), by decide +kernel⟩
theorem wd_1132 : Cond.methodLink RL 39 yX12_village ∈ TT := List.mem_filter.mpr ⟨List.mem_of_getElem? (i := 1132) (by decide +kernel), by decide +kernel⟩
theorem wd_646 : Cond.methodLink RL 40 yX11_tell ∈ TT := List.mem_filter.mpr ⟨List.mem_of_getElem? (i := 646) (by decide +kernel), by decide +kernel⟩
theorem wd_1148 : Cond.methodLink RL 43 yX12_tell ∈ TT := List.mem_filter.mpr ⟨List.mem_of_getElem? (i := 1148) (by decide +kernel), by decide +kernel⟩
theorem wd_662 : Cond.methodLink RL 44 yX11_answer ∈ TT := List.mem_filter.mpr ⟨List.mem_of_getElem? (i := 662) (by decide +kernel), by decide +kernel⟩
theorem wd_1161 : Cond.methodLink RL 47 yX12_answer ∈ TT := List.mem_filter.mpr ⟨List.mem_of_getElem? (i := 1161) (by decide +kernel), by decide +kernel⟩
theorem wd_680 : Cond.methodLink RL 48 yX11_year ∈ TT := List.mem_filter.mpr ⟨List.mem_of_getElem? (i := 680) (by decide +kernel), by decide +kernel⟩
theorem wd_1174 : Cond.methodLink RL 51 yX12_year ∈ TT := List.mem_filter.mpr ⟨List.mem_of_getElem? (i := 1174) (by decide +kernel), by decide +kernel⟩
theorem wd_707 : Cond.methodLink RL 52 yX11_wit ∈ TT := List.mem_filter.mpr ⟨List.mem_of_getElem? (i := 707) (by decide +kernel), by decide +kernel⟩
theorem wd_1179 : Cond.methodLink RL 55 yX12_wit ∈ TT := List.mem_filter.mpr ⟨List.mem_of_getElem? (i := 1179) (by decide +kernel), by decide +kernel⟩
theorem wd_711 : Cond.methodLink RL 56 yX11_bear ∈ TT := List.mem_filter.mpr ⟨List.mem_of_getElem? (i := 711) (by decide +kernel), by decide +kernel⟩
theorem wd_1184 : Cond.methodLink RL 59 yX12_bear ∈ TT := List.mem_filter.mpr ⟨List.mem_of_getElem? (i := 1184) (by decide +kernel), by decide +kernel⟩
theorem wd_715 : Cond.methodLink RL 60 yX11_drift ∈ TT := List.mem_filter.mpr ⟨List.mem_of_getElem? (i := 715) (by decide +kernel), by decide +kernel⟩
theorem wd_1188 : Cond.methodLink RL 63 yX12_drift ∈ TT := List.mem_filter.mpr ⟨List.mem_of_getElem? (i := 1188) (by decide +kernel), by decide +kernel⟩
theorem wd_735 : Cond.methodLink RL 64 yX11_undo ∈ TT := List.mem_filter.mpr ⟨List.mem_of_getElem? (i := 735) (by decide +kernel), by decide +kernel⟩
theorem wd_1204 : Cond.methodLink RL 67 yX12_undo ∈ TT := List.mem_filter.mpr ⟨List.mem_of_getElem? (i := 1204) (by decide +kernel), by decide +kernel⟩
theorem wd_743 : Cond.methodLink RL 68 yX11_down ∈ TT := List.mem_filter.mpr ⟨List.mem_of_getElem? (i := 743) (by decide +kernel), by decide +kernel⟩
theorem wd_1208 : Cond.methodLink RL 72 yX12_down ∈ TT := List.mem_filter.mpr ⟨List.mem_of_getElem? (i := 1208) (by decide +kernel), by decide +kernel⟩
theorem wd_748 : Cond.methodLink RL 73 yX11_best ∈ TT := List.mem_filter.mpr ⟨List.mem_of_getElem? (i := 748) (by decide +kernel), by decide +kernel⟩
theorem wd_1212 : Cond.methodLink RL 76 yX12_best ∈ TT := List.mem_filter.mpr ⟨List.mem_of_getElem? (i := 1212) (by decide +kernel), by decide +kernel⟩
theorem wd_756 : Cond.methodLink RL 77 yX11_match ∈ TT := List.mem_filter.mpr ⟨List.mem_of_getElem? (i := 756) (by decide +kernel), by decide +kernel⟩
theorem wd_1217 : Cond.methodLink RL 80 yX12_match ∈ TT := List.mem_filter.mpr ⟨List.mem_of_getElem? (i := 1217) (by decide +kernel), by decide +kernel⟩
theorem wd_795 : Cond.methodLink RL 81 yX11_shares ∈ TT := List.mem_filter.mpr ⟨List.mem_of_getElem? (i := 795) (by decide +kernel), by decide +kernel⟩
theorem wd_1233 : Cond.methodLink RL 84 yX12_shares ∈ TT := List.mem_filter.mpr ⟨List.mem_of_getElem? (i := 1233) (by decide +kernel), by decide +kernel⟩
theorem wd_815 : Cond.methodLink RL 85 yX11_dry ∈ TT := List.mem_filter.mpr ⟨List.mem_of_getElem? (i := 815) (by decide +kernel), by decide +kernel⟩
theorem wd_1246 : Cond.methodLink RL 88 yX12_dry ∈ TT := List.mem_filter.mpr ⟨List.mem_of_getElem? (i := 1246) (by decide +kernel), by decide +kernel⟩
theorem wd_821 : Cond.methodLink RL 89 yX11_returned ∈ TT := List.mem_filter.mpr ⟨List.mem_of_getElem? (i := 821) (by decide +kernel), by decide +kernel⟩
theorem wd_1252 : Cond.methodLink RL 92 yX12_returned ∈ TT := List.mem_filter.mpr ⟨List.mem_of_getElem? (i := 1252) (by decide +kernel), by decide +kernel⟩
theorem wd_830 : Cond.methodLink RL 93 yX11_write ∈ TT := List.mem_filter.mpr ⟨List.mem_of_getElem? (i := 830) (by decide +kernel), by decide +kernel⟩
theorem wd_1256 : Cond.methodLink RL 96 yX12_write ∈ TT := List.mem_filter.mpr ⟨List.mem_of_getElem? (i := 1256) (by decide +kernel), by decide +kernel⟩
theorem wd_838 : Cond.methodLink RL 97 yX11_tear ∈ TT := List.mem_filter.mpr ⟨List.mem_of_getElem? (i := 838) (by decide +kernel), by decide +kernel⟩
theorem wd_1261 : Cond.methodLink RL 100 yX12_tear ∈ TT := List.mem_filter.mpr ⟨List.mem_of_getElem? (i := 1261) (by decide +kernel), by decide +kernel⟩
theorem wd_842 : Cond.methodLink RL 101 yX11_judge ∈ TT := List.mem_filter.mpr ⟨List.mem_of_getElem? (i := 842) (by decide +kernel), by decide +kernel⟩
theorem wd_1265 : Cond.methodLink RL 104 yX12_judge ∈ TT := List.mem_filter.mpr ⟨List.mem_of_getElem? (i := 1265) (by decide +kernel), by decide +kernel⟩
theorem wd_850 : Cond.methodLink RL 105 yX11_seed ∈ TT := List.mem_filter.mpr ⟨List.mem_of_getElem? (i := 850) (by decide +kernel), by decide +kernel⟩
theorem wd_1269 : Cond.methodLink RL 108 yX12_seed ∈ TT := List.mem_filter.mpr ⟨List.mem_of_getElem? (i := 1269) (by decide +kernel), by decide +kernel⟩
theorem wd_854 : Cond.methodLink RL 109 yX11_keep ∈ TT := List.mem_filter.mpr ⟨List.mem_of_getElem? (i := 854) (by decide +kernel), by decide +kernel⟩
theorem wd_1273 : Cond.methodLink RL 112 yX12_keep ∈ TT := List.mem_filter.mpr ⟨List.mem_of_getElem? (i := 1273) (by decide +kernel), by decide +kernel⟩
theorem wd_863 : Cond.methodLink RL 113 yX11_goBack ∈ TT := List.mem_filter.mpr ⟨List.mem_of_getElem? (i := 863) (by decide +kernel), by decide +kernel⟩
theorem wd_1277 : Cond.methodLink RL 116 yX12_goBack ∈ TT := List.mem_filter.mpr ⟨List.mem_of_getElem? (i := 1277) (by decide +kernel), by decide +kernel⟩
theorem wd_89 : Cond.instanceMethod yX11_init ∈ TT := List.mem_filter.mpr ⟨List.mem_of_getElem? (i := 89) (by decide +kernel), by decide +kernel⟩
theorem wd_90 : Cond.code yX11_init cX11_init 1 none ∈ TT := List.mem_filter.mpr ⟨List.mem_of_getElem? (i := 90) (by decide +kernel), by decide +kernel⟩
theorem wd_87 : Cond.instantiable RX11 9 ∈ TT := List.mem_filter.mpr ⟨List.mem_of_getElem? (i := 87) (by decide +kernel), by decide +kernel⟩
theorem wd_871 : Cond.instanceMethod yX12_init ∈ TT := List.mem_filter.mpr ⟨List.mem_of_getElem? (i := 871) (by decide +kernel), by decide +kernel⟩
theorem wd_872 : Cond.code yX12_init cX12_init 1 none ∈ TT := List.mem_filter.mpr ⟨List.mem_of_getElem? (i := 872) (by decide +kernel), by decide +kernel⟩
theorem wd_869 : Cond.instantiable RX12 36 ∈ TT := List.mem_filter.mpr ⟨List.mem_of_getElem? (i := 869) (by decide +kernel), by decide +kernel⟩
theorem wd_419 : Cond.instanceMethod yX11_feed ∈ TT := List.mem_filter.mpr ⟨List.mem_of_getElem? (i := 419) (by decide +kernel), by decide +kernel⟩
theorem wd_420 : Cond.selects RX11 yX11_feed yX11_feed ∈ TT := List.mem_filter.mpr ⟨List.mem_of_getElem? (i := 420) (by decide +kernel), by decide +kernel⟩
theorem wd_421 : Cond.code yX11_feed cX11_feed 2 (some .int) ∈ TT := List.mem_filter.mpr ⟨List.mem_of_getElem? (i := 421) (by decide +kernel), by decide +kernel⟩
theorem wd_984 : Cond.instanceMethod yX12_feed ∈ TT := List.mem_filter.mpr ⟨List.mem_of_getElem? (i := 984) (by decide +kernel), by decide +kernel⟩
theorem wd_985 : Cond.selects RX12 yX12_feed yX12_feed ∈ TT := List.mem_filter.mpr ⟨List.mem_of_getElem? (i := 985) (by decide +kernel), by decide +kernel⟩
theorem wd_986 : Cond.code yX12_feed cX12_feed 2 (some .int) ∈ TT := List.mem_filter.mpr ⟨List.mem_of_getElem? (i := 986) (by decide +kernel), by decide +kernel⟩
theorem wd_429 : Cond.instanceMethod yX11_hills ∈ TT := List.mem_filter.mpr ⟨List.mem_of_getElem? (i := 429) (by decide +kernel), by decide +kernel⟩
theorem wd_430 : Cond.selects RX11 yX11_hills yX11_hills ∈ TT := List.mem_filter.mpr ⟨List.mem_of_getElem? (i := 430) (by decide +kernel), by decide +kernel⟩
theorem wd_431 : Cond.code yX11_hills cX11_hills 2 (some .int) ∈ TT := List.mem_filter.mpr ⟨List.mem_of_getElem? (i := 431) (by decide +kernel), by decide +kernel⟩
theorem wd_994 : Cond.instanceMethod yX12_hills ∈ TT := List.mem_filter.mpr ⟨List.mem_of_getElem? (i := 994) (by decide +kernel), by decide +kernel⟩
theorem wd_995 : Cond.selects RX12 yX12_hills yX12_hills ∈ TT := List.mem_filter.mpr ⟨List.mem_of_getElem? (i := 995) (by decide +kernel), by decide +kernel⟩
theorem wd_996 : Cond.code yX12_hills cX12_hills 2 (some .int) ∈ TT := List.mem_filter.mpr ⟨List.mem_of_getElem? (i := 996) (by decide +kernel), by decide +kernel⟩
theorem wd_514 : Cond.instanceMethod yX11_fault ∈ TT := List.mem_filter.mpr ⟨List.mem_of_getElem? (i := 514) (by decide +kernel), by decide +kernel⟩
theorem wd_515 : Cond.selects RX11 yX11_fault yX11_fault ∈ TT := List.mem_filter.mpr ⟨List.mem_of_getElem? (i := 515) (by decide +kernel), by decide +kernel⟩
theorem wd_516 : Cond.code yX11_fault cX11_fault 1 (some .int) ∈ TT := List.mem_filter.mpr ⟨List.mem_of_getElem? (i := 516) (by decide +kernel), by decide +kernel⟩
theorem wd_1034 : Cond.instanceMethod yX12_fault ∈ TT := List.mem_filter.mpr ⟨List.mem_of_getElem? (i := 1034) (by decide +kernel), by decide +kernel⟩
theorem wd_1035 : Cond.selects RX12 yX12_fault yX12_fault ∈ TT := List.mem_filter.mpr ⟨List.mem_of_getElem? (i := 1035) (by decide +kernel), by decide +kernel⟩
theorem wd_1036 : Cond.code yX12_fault cX12_fault 1 (some .int) ∈ TT := List.mem_filter.mpr ⟨List.mem_of_getElem? (i := 1036) (by decide +kernel), by decide +kernel⟩
theorem wd_518 : Cond.instanceMethod yX11_told ∈ TT := List.mem_filter.mpr ⟨List.mem_of_getElem? (i := 518) (by decide +kernel), by decide +kernel⟩
theorem wd_519 : Cond.selects RX11 yX11_told yX11_told ∈ TT := List.mem_filter.mpr ⟨List.mem_of_getElem? (i := 519) (by decide +kernel), by decide +kernel⟩
theorem wd_520 : Cond.code yX11_told cX11_told 3 (some .int) ∈ TT := List.mem_filter.mpr ⟨List.mem_of_getElem? (i := 520) (by decide +kernel), by decide +kernel⟩
theorem wd_1038 : Cond.instanceMethod yX12_told ∈ TT := List.mem_filter.mpr ⟨List.mem_of_getElem? (i := 1038) (by decide +kernel), by decide +kernel⟩
theorem wd_1039 : Cond.selects RX12 yX12_told yX12_told ∈ TT := List.mem_filter.mpr ⟨List.mem_of_getElem? (i := 1039) (by decide +kernel), by decide +kernel⟩
theorem wd_1040 : Cond.code yX12_told cX12_told 2 (some .int) ∈ TT := List.mem_filter.mpr ⟨List.mem_of_getElem? (i := 1040) (by decide +kernel), by decide +kernel⟩
theorem wd_586 : Cond.instanceMethod yX11_person ∈ TT := List.mem_filter.mpr ⟨List.mem_of_getElem? (i := 586) (by decide +kernel), by decide +kernel⟩
theorem wd_587 : Cond.selects RX11 yX11_person yX11_person ∈ TT := List.mem_filter.mpr ⟨List.mem_of_getElem? (i := 587) (by decide +kernel), by decide +kernel⟩
theorem wd_588 : Cond.code yX11_person cX11_person 3 (some .int) ∈ TT := List.mem_filter.mpr ⟨List.mem_of_getElem? (i := 588) (by decide +kernel), by decide +kernel⟩
theorem wd_1104 : Cond.instanceMethod yX12_person ∈ TT := List.mem_filter.mpr ⟨List.mem_of_getElem? (i := 1104) (by decide +kernel), by decide +kernel⟩
theorem wd_1105 : Cond.selects RX12 yX12_person yX12_person ∈ TT := List.mem_filter.mpr ⟨List.mem_of_getElem? (i := 1105) (by decide +kernel), by decide +kernel⟩
theorem wd_1106 : Cond.code yX12_person cX12_person 3 (some .int) ∈ TT := List.mem_filter.mpr ⟨List.mem_of_getElem? (i := 1106) (by decide +kernel), by decide +kernel⟩
theorem wd_626 : Cond.instanceMethod yX11_village ∈ TT := List.mem_filter.mpr ⟨List.mem_of_getElem? (i := 626) (by decide +kernel), by decide +kernel⟩
theorem wd_627 : Cond.selects RX11 yX11_village yX11_village ∈ TT := List.mem_filter.mpr ⟨List.mem_of_getElem? (i := 627) (by decide +kernel), by decide +kernel⟩
theorem wd_628 : Cond.code yX11_village cX11_village 3 (some .int) ∈ TT := List.mem_filter.mpr ⟨List.mem_of_getElem? (i := 628) (by decide +kernel), by decide +kernel⟩
theorem wd_1133 : Cond.instanceMethod yX12_village ∈ TT := List.mem_filter.mpr ⟨List.mem_of_getElem? (i := 1133) (by decide +kernel), by decide +kernel⟩
theorem wd_1134 : Cond.selects RX12 yX12_village yX12_village ∈ TT := List.mem_filter.mpr ⟨List.mem_of_getElem? (i := 1134) (by decide +kernel), by decide +kernel⟩
theorem wd_1135 : Cond.code yX12_village cX12_village 3 (some .int) ∈ TT := List.mem_filter.mpr ⟨List.mem_of_getElem? (i := 1135) (by decide +kernel), by decide +kernel⟩
theorem wd_647 : Cond.instanceMethod yX11_tell ∈ TT := List.mem_filter.mpr ⟨List.mem_of_getElem? (i := 647) (by decide +kernel), by decide +kernel⟩
theorem wd_648 : Cond.selects RX11 yX11_tell yX11_tell ∈ TT := List.mem_filter.mpr ⟨List.mem_of_getElem? (i := 648) (by decide +kernel), by decide +kernel⟩
theorem wd_649 : Cond.code yX11_tell cX11_tell 4 (some .int) ∈ TT := List.mem_filter.mpr ⟨List.mem_of_getElem? (i := 649) (by decide +kernel), by decide +kernel⟩
theorem wd_1149 : Cond.instanceMethod yX12_tell ∈ TT := List.mem_filter.mpr ⟨List.mem_of_getElem? (i := 1149) (by decide +kernel), by decide +kernel⟩
theorem wd_1150 : Cond.selects RX12 yX12_tell yX12_tell ∈ TT := List.mem_filter.mpr ⟨List.mem_of_getElem? (i := 1150) (by decide +kernel), by decide +kernel⟩
theorem wd_1151 : Cond.code yX12_tell cX12_tell 3 (some .int) ∈ TT := List.mem_filter.mpr ⟨List.mem_of_getElem? (i := 1151) (by decide +kernel), by decide +kernel⟩
theorem wd_663 : Cond.instanceMethod yX11_answer ∈ TT := List.mem_filter.mpr ⟨List.mem_of_getElem? (i := 663) (by decide +kernel), by decide +kernel⟩
theorem wd_664 : Cond.selects RX11 yX11_answer yX11_answer ∈ TT := List.mem_filter.mpr ⟨List.mem_of_getElem? (i := 664) (by decide +kernel), by decide +kernel⟩
theorem wd_665 : Cond.code yX11_answer cX11_answer 3 (some .int) ∈ TT := List.mem_filter.mpr ⟨List.mem_of_getElem? (i := 665) (by decide +kernel), by decide +kernel⟩
theorem wd_1162 : Cond.instanceMethod yX12_answer ∈ TT := List.mem_filter.mpr ⟨List.mem_of_getElem? (i := 1162) (by decide +kernel), by decide +kernel⟩
theorem wd_1163 : Cond.selects RX12 yX12_answer yX12_answer ∈ TT := List.mem_filter.mpr ⟨List.mem_of_getElem? (i := 1163) (by decide +kernel), by decide +kernel⟩
theorem wd_1164 : Cond.code yX12_answer cX12_answer 3 (some .int) ∈ TT := List.mem_filter.mpr ⟨List.mem_of_getElem? (i := 1164) (by decide +kernel), by decide +kernel⟩
theorem wd_681 : Cond.instanceMethod yX11_year ∈ TT := List.mem_filter.mpr ⟨List.mem_of_getElem? (i := 681) (by decide +kernel), by decide +kernel⟩
theorem wd_682 : Cond.selects RX11 yX11_year yX11_year ∈ TT := List.mem_filter.mpr ⟨List.mem_of_getElem? (i := 682) (by decide +kernel), by decide +kernel⟩
theorem wd_683 : Cond.code yX11_year cX11_year 4 (some .int) ∈ TT := List.mem_filter.mpr ⟨List.mem_of_getElem? (i := 683) (by decide +kernel), by decide +kernel⟩
theorem wd_1175 : Cond.instanceMethod yX12_year ∈ TT := List.mem_filter.mpr ⟨List.mem_of_getElem? (i := 1175) (by decide +kernel), by decide +kernel⟩
theorem wd_1176 : Cond.selects RX12 yX12_year yX12_year ∈ TT := List.mem_filter.mpr ⟨List.mem_of_getElem? (i := 1176) (by decide +kernel), by decide +kernel⟩
theorem wd_1177 : Cond.code yX12_year cX12_year 3 (some .int) ∈ TT := List.mem_filter.mpr ⟨List.mem_of_getElem? (i := 1177) (by decide +kernel), by decide +kernel⟩
theorem wd_708 : Cond.instanceMethod yX11_wit ∈ TT := List.mem_filter.mpr ⟨List.mem_of_getElem? (i := 708) (by decide +kernel), by decide +kernel⟩
theorem wd_709 : Cond.selects RX11 yX11_wit yX11_wit ∈ TT := List.mem_filter.mpr ⟨List.mem_of_getElem? (i := 709) (by decide +kernel), by decide +kernel⟩
theorem wd_710 : Cond.code yX11_wit cX11_wit 4 (some .int) ∈ TT := List.mem_filter.mpr ⟨List.mem_of_getElem? (i := 710) (by decide +kernel), by decide +kernel⟩
theorem wd_1180 : Cond.instanceMethod yX12_wit ∈ TT := List.mem_filter.mpr ⟨List.mem_of_getElem? (i := 1180) (by decide +kernel), by decide +kernel⟩
theorem wd_1181 : Cond.selects RX12 yX12_wit yX12_wit ∈ TT := List.mem_filter.mpr ⟨List.mem_of_getElem? (i := 1181) (by decide +kernel), by decide +kernel⟩
theorem wd_1182 : Cond.code yX12_wit cX12_wit 4 (some .int) ∈ TT := List.mem_filter.mpr ⟨List.mem_of_getElem? (i := 1182) (by decide +kernel), by decide +kernel⟩
theorem wd_712 : Cond.instanceMethod yX11_bear ∈ TT := List.mem_filter.mpr ⟨List.mem_of_getElem? (i := 712) (by decide +kernel), by decide +kernel⟩
theorem wd_713 : Cond.selects RX11 yX11_bear yX11_bear ∈ TT := List.mem_filter.mpr ⟨List.mem_of_getElem? (i := 713) (by decide +kernel), by decide +kernel⟩
theorem wd_714 : Cond.code yX11_bear cX11_bear 4 (some .int) ∈ TT := List.mem_filter.mpr ⟨List.mem_of_getElem? (i := 714) (by decide +kernel), by decide +kernel⟩
theorem wd_1185 : Cond.instanceMethod yX12_bear ∈ TT := List.mem_filter.mpr ⟨List.mem_of_getElem? (i := 1185) (by decide +kernel), by decide +kernel⟩
theorem wd_1186 : Cond.selects RX12 yX12_bear yX12_bear ∈ TT := List.mem_filter.mpr ⟨List.mem_of_getElem? (i := 1186) (by decide +kernel), by decide +kernel⟩
theorem wd_1187 : Cond.code yX12_bear cX12_bear 4 (some .int) ∈ TT := List.mem_filter.mpr ⟨List.mem_of_getElem? (i := 1187) (by decide +kernel), by decide +kernel⟩
theorem wd_716 : Cond.instanceMethod yX11_drift ∈ TT := List.mem_filter.mpr ⟨List.mem_of_getElem? (i := 716) (by decide +kernel), by decide +kernel⟩
theorem wd_717 : Cond.selects RX11 yX11_drift yX11_drift ∈ TT := List.mem_filter.mpr ⟨List.mem_of_getElem? (i := 717) (by decide +kernel), by decide +kernel⟩
theorem wd_718 : Cond.code yX11_drift cX11_drift 4 (some .int) ∈ TT := List.mem_filter.mpr ⟨List.mem_of_getElem? (i := 718) (by decide +kernel), by decide +kernel⟩
theorem wd_1189 : Cond.instanceMethod yX12_drift ∈ TT := List.mem_filter.mpr ⟨List.mem_of_getElem? (i := 1189) (by decide +kernel), by decide +kernel⟩
theorem wd_1190 : Cond.selects RX12 yX12_drift yX12_drift ∈ TT := List.mem_filter.mpr ⟨List.mem_of_getElem? (i := 1190) (by decide +kernel), by decide +kernel⟩
theorem wd_1191 : Cond.code yX12_drift cX12_drift 3 (some .int) ∈ TT := List.mem_filter.mpr ⟨List.mem_of_getElem? (i := 1191) (by decide +kernel), by decide +kernel⟩
theorem wd_736 : Cond.instanceMethod yX11_undo ∈ TT := List.mem_filter.mpr ⟨List.mem_of_getElem? (i := 736) (by decide +kernel), by decide +kernel⟩
theorem wd_737 : Cond.selects RX11 yX11_undo yX11_undo ∈ TT := List.mem_filter.mpr ⟨List.mem_of_getElem? (i := 737) (by decide +kernel), by decide +kernel⟩
theorem wd_738 : Cond.code yX11_undo cX11_undo 1 (some .int) ∈ TT := List.mem_filter.mpr ⟨List.mem_of_getElem? (i := 738) (by decide +kernel), by decide +kernel⟩
theorem wd_1205 : Cond.instanceMethod yX12_undo ∈ TT := List.mem_filter.mpr ⟨List.mem_of_getElem? (i := 1205) (by decide +kernel), by decide +kernel⟩
theorem wd_1206 : Cond.selects RX12 yX12_undo yX12_undo ∈ TT := List.mem_filter.mpr ⟨List.mem_of_getElem? (i := 1206) (by decide +kernel), by decide +kernel⟩
theorem wd_1207 : Cond.code yX12_undo cX12_undo 2 (some .int) ∈ TT := List.mem_filter.mpr ⟨List.mem_of_getElem? (i := 1207) (by decide +kernel), by decide +kernel⟩
theorem wd_744 : Cond.instanceMethod yX11_down ∈ TT := List.mem_filter.mpr ⟨List.mem_of_getElem? (i := 744) (by decide +kernel), by decide +kernel⟩
theorem wd_745 : Cond.selects RX11 yX11_down yX11_down ∈ TT := List.mem_filter.mpr ⟨List.mem_of_getElem? (i := 745) (by decide +kernel), by decide +kernel⟩
theorem wd_746 : Cond.code yX11_down cX11_down 4 (some .int) ∈ TT := List.mem_filter.mpr ⟨List.mem_of_getElem? (i := 746) (by decide +kernel), by decide +kernel⟩
theorem wd_1209 : Cond.instanceMethod yX12_down ∈ TT := List.mem_filter.mpr ⟨List.mem_of_getElem? (i := 1209) (by decide +kernel), by decide +kernel⟩
theorem wd_1210 : Cond.selects RX12 yX12_down yX12_down ∈ TT := List.mem_filter.mpr ⟨List.mem_of_getElem? (i := 1210) (by decide +kernel), by decide +kernel⟩
theorem wd_1211 : Cond.code yX12_down cX12_down 5 (some .int) ∈ TT := List.mem_filter.mpr ⟨List.mem_of_getElem? (i := 1211) (by decide +kernel), by decide +kernel⟩
theorem wd_749 : Cond.instanceMethod yX11_best ∈ TT := List.mem_filter.mpr ⟨List.mem_of_getElem? (i := 749) (by decide +kernel), by decide +kernel⟩
theorem wd_750 : Cond.selects RX11 yX11_best yX11_best ∈ TT := List.mem_filter.mpr ⟨List.mem_of_getElem? (i := 750) (by decide +kernel), by decide +kernel⟩
theorem wd_751 : Cond.code yX11_best cX11_best 2 (some .int) ∈ TT := List.mem_filter.mpr ⟨List.mem_of_getElem? (i := 751) (by decide +kernel), by decide +kernel⟩
theorem wd_1213 : Cond.instanceMethod yX12_best ∈ TT := List.mem_filter.mpr ⟨List.mem_of_getElem? (i := 1213) (by decide +kernel), by decide +kernel⟩
theorem wd_1214 : Cond.selects RX12 yX12_best yX12_best ∈ TT := List.mem_filter.mpr ⟨List.mem_of_getElem? (i := 1214) (by decide +kernel), by decide +kernel⟩
theorem wd_1215 : Cond.code yX12_best cX12_best 6 (some .int) ∈ TT := List.mem_filter.mpr ⟨List.mem_of_getElem? (i := 1215) (by decide +kernel), by decide +kernel⟩
theorem wd_757 : Cond.instanceMethod yX11_match ∈ TT := List.mem_filter.mpr ⟨List.mem_of_getElem? (i := 757) (by decide +kernel), by decide +kernel⟩
theorem wd_758 : Cond.selects RX11 yX11_match yX11_match ∈ TT := List.mem_filter.mpr ⟨List.mem_of_getElem? (i := 758) (by decide +kernel), by decide +kernel⟩
theorem wd_759 : Cond.code yX11_match cX11_match 2 (some .int) ∈ TT := List.mem_filter.mpr ⟨List.mem_of_getElem? (i := 759) (by decide +kernel), by decide +kernel⟩
theorem wd_1218 : Cond.instanceMethod yX12_match ∈ TT := List.mem_filter.mpr ⟨List.mem_of_getElem? (i := 1218) (by decide +kernel), by decide +kernel⟩
theorem wd_1219 : Cond.selects RX12 yX12_match yX12_match ∈ TT := List.mem_filter.mpr ⟨List.mem_of_getElem? (i := 1219) (by decide +kernel), by decide +kernel⟩
theorem wd_1220 : Cond.code yX12_match cX12_match 2 (some .int) ∈ TT := List.mem_filter.mpr ⟨List.mem_of_getElem? (i := 1220) (by decide +kernel), by decide +kernel⟩
theorem wd_796 : Cond.instanceMethod yX11_shares ∈ TT := List.mem_filter.mpr ⟨List.mem_of_getElem? (i := 796) (by decide +kernel), by decide +kernel⟩
theorem wd_797 : Cond.selects RX11 yX11_shares yX11_shares ∈ TT := List.mem_filter.mpr ⟨List.mem_of_getElem? (i := 797) (by decide +kernel), by decide +kernel⟩
theorem wd_798 : Cond.code yX11_shares cX11_shares 3 (some .int) ∈ TT := List.mem_filter.mpr ⟨List.mem_of_getElem? (i := 798) (by decide +kernel), by decide +kernel⟩
theorem wd_1234 : Cond.instanceMethod yX12_shares ∈ TT := List.mem_filter.mpr ⟨List.mem_of_getElem? (i := 1234) (by decide +kernel), by decide +kernel⟩
theorem wd_1235 : Cond.selects RX12 yX12_shares yX12_shares ∈ TT := List.mem_filter.mpr ⟨List.mem_of_getElem? (i := 1235) (by decide +kernel), by decide +kernel⟩
theorem wd_1236 : Cond.code yX12_shares cX12_shares 7 (some .int) ∈ TT := List.mem_filter.mpr ⟨List.mem_of_getElem? (i := 1236) (by decide +kernel), by decide +kernel⟩
theorem wd_816 : Cond.instanceMethod yX11_dry ∈ TT := List.mem_filter.mpr ⟨List.mem_of_getElem? (i := 816) (by decide +kernel), by decide +kernel⟩
theorem wd_817 : Cond.selects RX11 yX11_dry yX11_dry ∈ TT := List.mem_filter.mpr ⟨List.mem_of_getElem? (i := 817) (by decide +kernel), by decide +kernel⟩
theorem wd_818 : Cond.code yX11_dry cX11_dry 6 (some .int) ∈ TT := List.mem_filter.mpr ⟨List.mem_of_getElem? (i := 818) (by decide +kernel), by decide +kernel⟩
theorem wd_1247 : Cond.instanceMethod yX12_dry ∈ TT := List.mem_filter.mpr ⟨List.mem_of_getElem? (i := 1247) (by decide +kernel), by decide +kernel⟩
theorem wd_1248 : Cond.selects RX12 yX12_dry yX12_dry ∈ TT := List.mem_filter.mpr ⟨List.mem_of_getElem? (i := 1248) (by decide +kernel), by decide +kernel⟩
theorem wd_1249 : Cond.code yX12_dry cX12_dry 6 (some .int) ∈ TT := List.mem_filter.mpr ⟨List.mem_of_getElem? (i := 1249) (by decide +kernel), by decide +kernel⟩
theorem wd_822 : Cond.instanceMethod yX11_returned ∈ TT := List.mem_filter.mpr ⟨List.mem_of_getElem? (i := 822) (by decide +kernel), by decide +kernel⟩
theorem wd_823 : Cond.selects RX11 yX11_returned yX11_returned ∈ TT := List.mem_filter.mpr ⟨List.mem_of_getElem? (i := 823) (by decide +kernel), by decide +kernel⟩
theorem wd_824 : Cond.code yX11_returned cX11_returned 2 (some .int) ∈ TT := List.mem_filter.mpr ⟨List.mem_of_getElem? (i := 824) (by decide +kernel), by decide +kernel⟩
theorem wd_1253 : Cond.instanceMethod yX12_returned ∈ TT := List.mem_filter.mpr ⟨List.mem_of_getElem? (i := 1253) (by decide +kernel), by decide +kernel⟩
theorem wd_1254 : Cond.selects RX12 yX12_returned yX12_returned ∈ TT := List.mem_filter.mpr ⟨List.mem_of_getElem? (i := 1254) (by decide +kernel), by decide +kernel⟩
theorem wd_1255 : Cond.code yX12_returned cX12_returned 3 (some .int) ∈ TT := List.mem_filter.mpr ⟨List.mem_of_getElem? (i := 1255) (by decide +kernel), by decide +kernel⟩
theorem wd_831 : Cond.instanceMethod yX11_write ∈ TT := List.mem_filter.mpr ⟨List.mem_of_getElem? (i := 831) (by decide +kernel), by decide +kernel⟩
theorem wd_832 : Cond.selects RX11 yX11_write yX11_write ∈ TT := List.mem_filter.mpr ⟨List.mem_of_getElem? (i := 832) (by decide +kernel), by decide +kernel⟩
theorem wd_833 : Cond.code yX11_write cX11_write 3 (some .int) ∈ TT := List.mem_filter.mpr ⟨List.mem_of_getElem? (i := 833) (by decide +kernel), by decide +kernel⟩
theorem wd_1257 : Cond.instanceMethod yX12_write ∈ TT := List.mem_filter.mpr ⟨List.mem_of_getElem? (i := 1257) (by decide +kernel), by decide +kernel⟩
theorem wd_1258 : Cond.selects RX12 yX12_write yX12_write ∈ TT := List.mem_filter.mpr ⟨List.mem_of_getElem? (i := 1258) (by decide +kernel), by decide +kernel⟩
theorem wd_1259 : Cond.code yX12_write cX12_write 3 (some .int) ∈ TT := List.mem_filter.mpr ⟨List.mem_of_getElem? (i := 1259) (by decide +kernel), by decide +kernel⟩
theorem wd_839 : Cond.instanceMethod yX11_tear ∈ TT := List.mem_filter.mpr ⟨List.mem_of_getElem? (i := 839) (by decide +kernel), by decide +kernel⟩
theorem wd_840 : Cond.selects RX11 yX11_tear yX11_tear ∈ TT := List.mem_filter.mpr ⟨List.mem_of_getElem? (i := 840) (by decide +kernel), by decide +kernel⟩
theorem wd_841 : Cond.code yX11_tear cX11_tear 2 (some .int) ∈ TT := List.mem_filter.mpr ⟨List.mem_of_getElem? (i := 841) (by decide +kernel), by decide +kernel⟩
theorem wd_1262 : Cond.instanceMethod yX12_tear ∈ TT := List.mem_filter.mpr ⟨List.mem_of_getElem? (i := 1262) (by decide +kernel), by decide +kernel⟩
theorem wd_1263 : Cond.selects RX12 yX12_tear yX12_tear ∈ TT := List.mem_filter.mpr ⟨List.mem_of_getElem? (i := 1263) (by decide +kernel), by decide +kernel⟩
theorem wd_1264 : Cond.code yX12_tear cX12_tear 2 (some .int) ∈ TT := List.mem_filter.mpr ⟨List.mem_of_getElem? (i := 1264) (by decide +kernel), by decide +kernel⟩
theorem wd_843 : Cond.instanceMethod yX11_judge ∈ TT := List.mem_filter.mpr ⟨List.mem_of_getElem? (i := 843) (by decide +kernel), by decide +kernel⟩
theorem wd_844 : Cond.selects RX11 yX11_judge yX11_judge ∈ TT := List.mem_filter.mpr ⟨List.mem_of_getElem? (i := 844) (by decide +kernel), by decide +kernel⟩
theorem wd_845 : Cond.code yX11_judge cX11_judge 1 (some .int) ∈ TT := List.mem_filter.mpr ⟨List.mem_of_getElem? (i := 845) (by decide +kernel), by decide +kernel⟩
theorem wd_1266 : Cond.instanceMethod yX12_judge ∈ TT := List.mem_filter.mpr ⟨List.mem_of_getElem? (i := 1266) (by decide +kernel), by decide +kernel⟩
theorem wd_1267 : Cond.selects RX12 yX12_judge yX12_judge ∈ TT := List.mem_filter.mpr ⟨List.mem_of_getElem? (i := 1267) (by decide +kernel), by decide +kernel⟩
theorem wd_1268 : Cond.code yX12_judge cX12_judge 2 (some .int) ∈ TT := List.mem_filter.mpr ⟨List.mem_of_getElem? (i := 1268) (by decide +kernel), by decide +kernel⟩
theorem wd_851 : Cond.instanceMethod yX11_seed ∈ TT := List.mem_filter.mpr ⟨List.mem_of_getElem? (i := 851) (by decide +kernel), by decide +kernel⟩
theorem wd_852 : Cond.selects RX11 yX11_seed yX11_seed ∈ TT := List.mem_filter.mpr ⟨List.mem_of_getElem? (i := 852) (by decide +kernel), by decide +kernel⟩
theorem wd_853 : Cond.code yX11_seed cX11_seed 3 (some .int) ∈ TT := List.mem_filter.mpr ⟨List.mem_of_getElem? (i := 853) (by decide +kernel), by decide +kernel⟩
theorem wd_1270 : Cond.instanceMethod yX12_seed ∈ TT := List.mem_filter.mpr ⟨List.mem_of_getElem? (i := 1270) (by decide +kernel), by decide +kernel⟩
theorem wd_1271 : Cond.selects RX12 yX12_seed yX12_seed ∈ TT := List.mem_filter.mpr ⟨List.mem_of_getElem? (i := 1271) (by decide +kernel), by decide +kernel⟩
theorem wd_1272 : Cond.code yX12_seed cX12_seed 3 (some .int) ∈ TT := List.mem_filter.mpr ⟨List.mem_of_getElem? (i := 1272) (by decide +kernel), by decide +kernel⟩
theorem wd_855 : Cond.instanceMethod yX11_keep ∈ TT := List.mem_filter.mpr ⟨List.mem_of_getElem? (i := 855) (by decide +kernel), by decide +kernel⟩
theorem wd_856 : Cond.selects RX11 yX11_keep yX11_keep ∈ TT := List.mem_filter.mpr ⟨List.mem_of_getElem? (i := 856) (by decide +kernel), by decide +kernel⟩
theorem wd_857 : Cond.code yX11_keep cX11_keep 2 (some .int) ∈ TT := List.mem_filter.mpr ⟨List.mem_of_getElem? (i := 857) (by decide +kernel), by decide +kernel⟩
theorem wd_1274 : Cond.instanceMethod yX12_keep ∈ TT := List.mem_filter.mpr ⟨List.mem_of_getElem? (i := 1274) (by decide +kernel), by decide +kernel⟩
theorem wd_1275 : Cond.selects RX12 yX12_keep yX12_keep ∈ TT := List.mem_filter.mpr ⟨List.mem_of_getElem? (i := 1275) (by decide +kernel), by decide +kernel⟩
theorem wd_1276 : Cond.code yX12_keep cX12_keep 3 (some .int) ∈ TT := List.mem_filter.mpr ⟨List.mem_of_getElem? (i := 1276) (by decide +kernel), by decide +kernel⟩
theorem wd_864 : Cond.instanceMethod yX11_goBack ∈ TT := List.mem_filter.mpr ⟨List.mem_of_getElem? (i := 864) (by decide +kernel), by decide +kernel⟩
theorem wd_865 : Cond.selects RX11 yX11_goBack yX11_goBack ∈ TT := List.mem_filter.mpr ⟨List.mem_of_getElem? (i := 865) (by decide +kernel), by decide +kernel⟩
theorem wd_866 : Cond.code yX11_goBack cX11_goBack 2 (some .int) ∈ TT := List.mem_filter.mpr ⟨List.mem_of_getElem? (i := 866) (by decide +kernel), by decide +kernel⟩
theorem wd_1278 : Cond.instanceMethod yX12_goBack ∈ TT := List.mem_filter.mpr ⟨List.mem_of_getElem? (i := 1278) (by decide +kernel), by decide +kernel⟩
theorem wd_1279 : Cond.selects RX12 yX12_goBack yX12_goBack ∈ TT := List.mem_filter.mpr ⟨List.mem_of_getElem? (i := 1279) (by decide +kernel), by decide +kernel⟩
theorem wd_1280 : Cond.code yX12_goBack cX12_goBack 3 (some .int) ∈ TT := List.mem_filter.mpr ⟨List.mem_of_getElem? (i := 1280) (by decide +kernel), by decide +kernel⟩
