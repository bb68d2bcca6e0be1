theorem wd_42 : Cond.classLink "StepColumnsLaw" 7 "StepColumns" ∈ gw := List.mem_filter.mpr ⟨List.mem_of_getElem? (i := 42) (by decide +kernel), by decide +kernel⟩
theorem wd_43 : Cond.instantiable "StepColumns" 6 ∈ gw := List.mem_filter.mpr ⟨List.mem_of_getElem? (i := 43) (by decide +kernel), by decide +kernel⟩
theorem wd_44 : Cond.methodLink "StepColumnsLaw" 9 ⟨"StepColumns", "<init>", "()V"⟩ ∈ gw := List.mem_filter.mpr ⟨List.mem_of_getElem? (i := 44) (by decide +kernel), by decide +kernel⟩
theorem wd_45 : Cond.instanceMethod ⟨"StepColumns", "<init>", "()V"⟩ ∈ gw := List.mem_filter.mpr ⟨List.mem_of_getElem? (i := 45) (by decide +kernel), by decide +kernel⟩
theorem wd_46 : Cond.code ⟨"StepColumns", "<init>", "()V"⟩ prog_1_method_1_code 2 none ∈ gw := List.mem_filter.mpr ⟨List.mem_of_getElem? (i := 46) (by decide +kernel), by decide +kernel⟩
theorem wd_185 : Cond.methodLink "StepColumnsLaw" 13 ⟨"StepColumns", "add", "(IIII)I"⟩ ∈ gw := List.mem_filter.mpr ⟨List.mem_of_getElem? (i := 185) (by decide +kernel), by decide +kernel⟩
theorem wd_186 : Cond.instanceMethod ⟨"StepColumns", "add", "(IIII)I"⟩ ∈ gw := List.mem_filter.mpr ⟨List.mem_of_getElem? (i := 186) (by decide +kernel), by decide +kernel⟩
theorem wd_187 : Cond.selects "StepColumns" ⟨"StepColumns", "add", "(IIII)I"⟩ ⟨"StepColumns", "add", "(IIII)I"⟩ ∈ gw := List.mem_filter.mpr ⟨List.mem_of_getElem? (i := 187) (by decide +kernel), by decide +kernel⟩
theorem wd_188 : Cond.code ⟨"StepColumns", "add", "(IIII)I"⟩ prog_1_method_2_code 5 (some .int) ∈ gw := List.mem_filter.mpr ⟨List.mem_of_getElem? (i := 188) (by decide +kernel), by decide +kernel⟩
theorem wd_199 : Cond.methodLink "StepColumnsLaw" 18 ⟨"StepColumns", "change", "(III)I"⟩ ∈ gw := List.mem_filter.mpr ⟨List.mem_of_getElem? (i := 199) (by decide +kernel), by decide +kernel⟩
theorem wd_200 : Cond.instanceMethod ⟨"StepColumns", "change", "(III)I"⟩ ∈ gw := List.mem_filter.mpr ⟨List.mem_of_getElem? (i := 200) (by decide +kernel), by decide +kernel⟩
theorem wd_201 : Cond.selects "StepColumns" ⟨"StepColumns", "change", "(III)I"⟩ ⟨"StepColumns", "change", "(III)I"⟩ ∈ gw := List.mem_filter.mpr ⟨List.mem_of_getElem? (i := 201) (by decide +kernel), by decide +kernel⟩
theorem wd_202 : Cond.code ⟨"StepColumns", "change", "(III)I"⟩ prog_1_method_3_code 5 (some .int) ∈ gw := List.mem_filter.mpr ⟨List.mem_of_getElem? (i := 202) (by decide +kernel), by decide +kernel⟩
theorem wd_219 : Cond.methodLink "StepColumnsLaw" 23 ⟨"StepColumns", "remove", "(I)I"⟩ ∈ gw := List.mem_filter.mpr ⟨List.mem_of_getElem? (i := 219) (by decide +kernel), by decide +kernel⟩
theorem wd_220 : Cond.instanceMethod ⟨"StepColumns", "remove", "(I)I"⟩ ∈ gw := List.mem_filter.mpr ⟨List.mem_of_getElem? (i := 220) (by decide +kernel), by decide +kernel⟩
theorem wd_221 : Cond.selects "StepColumns" ⟨"StepColumns", "remove", "(I)I"⟩ ⟨"StepColumns", "remove", "(I)I"⟩ ∈ gw := List.mem_filter.mpr ⟨List.mem_of_getElem? (i := 221) (by decide +kernel), by decide +kernel⟩
theorem wd_222 : Cond.code ⟨"StepColumns", "remove", "(I)I"⟩ prog_1_method_4_code 2 (some .int) ∈ gw := List.mem_filter.mpr ⟨List.mem_of_getElem? (i := 222) (by decide +kernel), by decide +kernel⟩
theorem wd_230 : Cond.methodLink "StepColumnsLaw" 28 ⟨"StepColumns", "move", "(II)I"⟩ ∈ gw := List.mem_filter.mpr ⟨List.mem_of_getElem? (i := 230) (by decide +kernel), by decide +kernel⟩
theorem wd_231 : Cond.instanceMethod ⟨"StepColumns", "move", "(II)I"⟩ ∈ gw := List.mem_filter.mpr ⟨List.mem_of_getElem? (i := 231) (by decide +kernel), by decide +kernel⟩
theorem wd_232 : Cond.selects "StepColumns" ⟨"StepColumns", "move", "(II)I"⟩ ⟨"StepColumns", "move", "(II)I"⟩ ∈ gw := List.mem_filter.mpr ⟨List.mem_of_getElem? (i := 232) (by decide +kernel), by decide +kernel⟩
theorem wd_233 : Cond.code ⟨"StepColumns", "move", "(II)I"⟩ prog_1_method_5_code 3 (some .int) ∈ gw := List.mem_filter.mpr ⟨List.mem_of_getElem? (i := 233) (by decide +kernel), by decide +kernel⟩
theorem wd_234 : Cond.methodLink "StepColumnsLaw" 33 ⟨"StepColumns", "set", "(II)I"⟩ ∈ gw := List.mem_filter.mpr ⟨List.mem_of_getElem? (i := 234) (by decide +kernel), by decide +kernel⟩
theorem wd_235 : Cond.instanceMethod ⟨"StepColumns", "set", "(II)I"⟩ ∈ gw := List.mem_filter.mpr ⟨List.mem_of_getElem? (i := 235) (by decide +kernel), by decide +kernel⟩
theorem wd_236 : Cond.selects "StepColumns" ⟨"StepColumns", "set", "(II)I"⟩ ⟨"StepColumns", "set", "(II)I"⟩ ∈ gw := List.mem_filter.mpr ⟨List.mem_of_getElem? (i := 236) (by decide +kernel), by decide +kernel⟩
theorem wd_237 : Cond.code ⟨"StepColumns", "set", "(II)I"⟩ prog_1_method_6_code 4 (some .int) ∈ gw := List.mem_filter.mpr ⟨List.mem_of_getElem? (i := 237) (by decide +kernel), by decide +kernel⟩
theorem wd_238 : Cond.methodLink "StepColumnsLaw" 37 ⟨"StepColumns", "item", "(II)I"⟩ ∈ gw := List.mem_filter.mpr ⟨List.mem_of_getElem? (i := 238) (by decide +kernel), by decide +kernel⟩
theorem wd_239 : Cond.instanceMethod ⟨"StepColumns", "item", "(II)I"⟩ ∈ gw := List.mem_filter.mpr ⟨List.mem_of_getElem? (i := 239) (by decide +kernel), by decide +kernel⟩
theorem wd_240 : Cond.selects "StepColumns" ⟨"StepColumns", "item", "(II)I"⟩ ⟨"StepColumns", "item", "(II)I"⟩ ∈ gw := List.mem_filter.mpr ⟨List.mem_of_getElem? (i := 240) (by decide +kernel), by decide +kernel⟩
theorem wd_241 : Cond.code ⟨"StepColumns", "item", "(II)I"⟩ prog_1_method_7_code 3 (some .int) ∈ gw := List.mem_filter.mpr ⟨List.mem_of_getElem? (i := 241) (by decide +kernel), by decide +kernel⟩
theorem wd_242 : Cond.methodLink "StepColumnsLaw" 41 ⟨"StepColumns", "best", "(I)I"⟩ ∈ gw := List.mem_filter.mpr ⟨List.mem_of_getElem? (i := 242) (by decide +kernel), by decide +kernel⟩
theorem wd_243 : Cond.instanceMethod ⟨"StepColumns", "best", "(I)I"⟩ ∈ gw := List.mem_filter.mpr ⟨List.mem_of_getElem? (i := 243) (by decide +kernel), by decide +kernel⟩
theorem wd_244 : Cond.selects "StepColumns" ⟨"StepColumns", "best", "(I)I"⟩ ⟨"StepColumns", "best", "(I)I"⟩ ∈ gw := List.mem_filter.mpr ⟨List.mem_of_getElem? (i := 244) (by decide +kernel), by decide +kernel⟩
theorem wd_245 : Cond.code ⟨"StepColumns", "best", "(I)I"⟩ prog_1_method_8_code 2 (some .int) ∈ gw := List.mem_filter.mpr ⟨List.mem_of_getElem? (i := 245) (by decide +kernel), by decide +kernel⟩
theorem wd_341 : Cond.methodLink "StepColumnsLaw" 45 ⟨"StepColumns", "place", "(III)I"⟩ ∈ gw := List.mem_filter.mpr ⟨List.mem_of_getElem? (i := 341) (by decide +kernel), by decide +kernel⟩
theorem wd_342 : Cond.instanceMethod ⟨"StepColumns", "place", "(III)I"⟩ ∈ gw := List.mem_filter.mpr ⟨List.mem_of_getElem? (i := 342) (by decide +kernel), by decide +kernel⟩
theorem wd_343 : Cond.selects "StepColumns" ⟨"StepColumns", "place", "(III)I"⟩ ⟨"StepColumns", "place", "(III)I"⟩ ∈ gw := List.mem_filter.mpr ⟨List.mem_of_getElem? (i := 343) (by decide +kernel), by decide +kernel⟩
theorem wd_344 : Cond.code ⟨"StepColumns", "place", "(III)I"⟩ prog_1_method_9_code 4 (some .int) ∈ gw := List.mem_filter.mpr ⟨List.mem_of_getElem? (i := 344) (by decide +kernel), by decide +kernel⟩
theorem wd_359 : Cond.methodLink "StepColumnsLaw" 49 ⟨"StepColumns", "column", "(II)I"⟩ ∈ gw := List.mem_filter.mpr ⟨List.mem_of_getElem? (i := 359) (by decide +kernel), by decide +kernel⟩
theorem wd_360 : Cond.instanceMethod ⟨"StepColumns", "column", "(II)I"⟩ ∈ gw := List.mem_filter.mpr ⟨List.mem_of_getElem? (i := 360) (by decide +kernel), by decide +kernel⟩
theorem wd_361 : Cond.selects "StepColumns" ⟨"StepColumns", "column", "(II)I"⟩ ⟨"StepColumns", "column", "(II)I"⟩ ∈ gw := List.mem_filter.mpr ⟨List.mem_of_getElem? (i := 361) (by decide +kernel), by decide +kernel⟩
theorem wd_362 : Cond.code ⟨"StepColumns", "column", "(II)I"⟩ prog_1_method_10_code 3 (some .int) ∈ gw := List.mem_filter.mpr ⟨List.mem_of_getElem? (i := 362) (by decide +kernel), by decide +kernel⟩
theorem wd_375 : Cond.methodLink "StepColumnsLaw" 53 ⟨"StepColumns", "meet", "(I)I"⟩ ∈ gw := List.mem_filter.mpr ⟨List.mem_of_getElem? (i := 375) (by decide +kernel), by decide +kernel⟩
theorem wd_376 : Cond.instanceMethod ⟨"StepColumns", "meet", "(I)I"⟩ ∈ gw := List.mem_filter.mpr ⟨List.mem_of_getElem? (i := 376) (by decide +kernel), by decide +kernel⟩
theorem wd_377 : Cond.selects "StepColumns" ⟨"StepColumns", "meet", "(I)I"⟩ ⟨"StepColumns", "meet", "(I)I"⟩ ∈ gw := List.mem_filter.mpr ⟨List.mem_of_getElem? (i := 377) (by decide +kernel), by decide +kernel⟩
theorem wd_378 : Cond.code ⟨"StepColumns", "meet", "(I)I"⟩ prog_1_method_11_code 2 (some .int) ∈ gw := List.mem_filter.mpr ⟨List.mem_of_getElem? (i := 378) (by decide +kernel), by decide +kernel⟩
theorem wd_387 : Cond.methodLink "StepColumnsLaw" 57 ⟨"StepColumns", "relief", "(I)I"⟩ ∈ gw := List.mem_filter.mpr ⟨List.mem_of_getElem? (i := 387) (by decide +kernel), by decide +kernel⟩
theorem wd_388 : Cond.instanceMethod ⟨"StepColumns", "relief", "(I)I"⟩ ∈ gw := List.mem_filter.mpr ⟨List.mem_of_getElem? (i := 388) (by decide +kernel), by decide +kernel⟩
theorem wd_389 : Cond.selects "StepColumns" ⟨"StepColumns", "relief", "(I)I"⟩ ⟨"StepColumns", "relief", "(I)I"⟩ ∈ gw := List.mem_filter.mpr ⟨List.mem_of_getElem? (i := 389) (by decide +kernel), by decide +kernel⟩
theorem wd_390 : Cond.code ⟨"StepColumns", "relief", "(I)I"⟩ prog_1_method_12_code 2 (some .int) ∈ gw := List.mem_filter.mpr ⟨List.mem_of_getElem? (i := 390) (by decide +kernel), by decide +kernel⟩
theorem wd_396 : Cond.methodLink "StepColumnsLaw" 61 ⟨"StepColumns", "culprit", "()I"⟩ ∈ gw := List.mem_filter.mpr ⟨List.mem_of_getElem? (i := 396) (by decide +kernel), by decide +kernel⟩
theorem wd_397 : Cond.instanceMethod ⟨"StepColumns", "culprit", "()I"⟩ ∈ gw := List.mem_filter.mpr ⟨List.mem_of_getElem? (i := 397) (by decide +kernel), by decide +kernel⟩
theorem wd_398 : Cond.selects "StepColumns" ⟨"StepColumns", "culprit", "()I"⟩ ⟨"StepColumns", "culprit", "()I"⟩ ∈ gw := List.mem_filter.mpr ⟨List.mem_of_getElem? (i := 398) (by decide +kernel), by decide +kernel⟩
theorem wd_399 : Cond.code ⟨"StepColumns", "culprit", "()I"⟩ prog_1_method_13_code 5 (some .int) ∈ gw := List.mem_filter.mpr ⟨List.mem_of_getElem? (i := 399) (by decide +kernel), by decide +kernel⟩
theorem wd_400 : Cond.methodLink "StepColumnsLaw" 66 ⟨"StepColumns", "fit", "(I)I"⟩ ∈ gw := List.mem_filter.mpr ⟨List.mem_of_getElem? (i := 400) (by decide +kernel), by decide +kernel⟩
theorem wd_401 : Cond.instanceMethod ⟨"StepColumns", "fit", "(I)I"⟩ ∈ gw := List.mem_filter.mpr ⟨List.mem_of_getElem? (i := 401) (by decide +kernel), by decide +kernel⟩
theorem wd_402 : Cond.selects "StepColumns" ⟨"StepColumns", "fit", "(I)I"⟩ ⟨"StepColumns", "fit", "(I)I"⟩ ∈ gw := List.mem_filter.mpr ⟨List.mem_of_getElem? (i := 402) (by decide +kernel), by decide +kernel⟩
theorem wd_403 : Cond.code ⟨"StepColumns", "fit", "(I)I"⟩ prog_1_method_14_code 4 (some .int) ∈ gw := List.mem_filter.mpr ⟨List.mem_of_getElem? (i := 403) (by decide +kernel), by decide +kernel⟩
theorem wd_408 : Cond.methodLink "StepColumnsLaw" 70 ⟨"StepColumns", "image", "(I)I"⟩ ∈ gw := List.mem_filter.mpr ⟨List.mem_of_getElem? (i := 408) (by decide +kernel), by decide +kernel⟩
theorem wd_409 : Cond.instanceMethod ⟨"StepColumns", "image", "(I)I"⟩ ∈ gw := List.mem_filter.mpr ⟨List.mem_of_getElem? (i := 409) (by decide +kernel), by decide +kernel⟩
theorem wd_410 : Cond.selects "StepColumns" ⟨"StepColumns", "image", "(I)I"⟩ ⟨"StepColumns", "image", "(I)I"⟩ ∈ gw := List.mem_filter.mpr ⟨List.mem_of_getElem? (i := 410) (by decide +kernel), by decide +kernel⟩
theorem wd_411 : Cond.code ⟨"StepColumns", "image", "(I)I"⟩ prog_1_method_15_code 2 (some .int) ∈ gw := List.mem_filter.mpr ⟨List.mem_of_getElem? (i := 411) (by decide +kernel), by decide +kernel⟩
theorem wd_416 : Cond.methodLink "StepColumnsLaw" 74 ⟨"StepColumns", "restore", "(I)I"⟩ ∈ gw := List.mem_filter.mpr ⟨List.mem_of_getElem? (i := 416) (by decide +kernel), by decide +kernel⟩
theorem wd_417 : Cond.instanceMethod ⟨"StepColumns", "restore", "(I)I"⟩ ∈ gw := List.mem_filter.mpr ⟨List.mem_of_getElem? (i := 417) (by decide +kernel), by decide +kernel⟩
theorem wd_418 : Cond.selects "StepColumns" ⟨"StepColumns", "restore", "(I)I"⟩ ⟨"StepColumns", "restore", "(I)I"⟩ ∈ gw := List.mem_filter.mpr ⟨List.mem_of_getElem? (i := 418) (by decide +kernel), by decide +kernel⟩
theorem wd_419 : Cond.code ⟨"StepColumns", "restore", "(I)I"⟩ prog_1_method_16_code 2 (some .int) ∈ gw := List.mem_filter.mpr ⟨List.mem_of_getElem? (i := 419) (by decide +kernel), by decide +kernel⟩
theorem wd_420 : Cond.methodLink "StepColumnsLaw" 78 ⟨"StepColumns", "count", "(I)I"⟩ ∈ gw := List.mem_filter.mpr ⟨List.mem_of_getElem? (i := 420) (by decide +kernel), by decide +kernel⟩
theorem wd_421 : Cond.instanceMethod ⟨"StepColumns", "count", "(I)I"⟩ ∈ gw := List.mem_filter.mpr ⟨List.mem_of_getElem? (i := 421) (by decide +kernel), by decide +kernel⟩
theorem wd_422 : Cond.selects "StepColumns" ⟨"StepColumns", "count", "(I)I"⟩ ⟨"StepColumns", "count", "(I)I"⟩ ∈ gw := List.mem_filter.mpr ⟨List.mem_of_getElem? (i := 422) (by decide +kernel), by decide +kernel⟩
theorem wd_423 : Cond.code ⟨"StepColumns", "count", "(I)I"⟩ prog_1_method_17_code 2 (some .int) ∈ gw := List.mem_filter.mpr ⟨List.mem_of_getElem? (i := 423) (by decide +kernel), by decide +kernel⟩
theorem wd_428 : Cond.classLink "StepColumnsLaw" 10 "StepColumnsModel" ∈ gw := List.mem_filter.mpr ⟨List.mem_of_getElem? (i := 428) (by decide +kernel), by decide +kernel⟩
theorem wd_429 : Cond.instantiable "StepColumnsModel" 12 ∈ gw := List.mem_filter.mpr ⟨List.mem_of_getElem? (i := 429) (by decide +kernel), by decide +kernel⟩
theorem wd_430 : Cond.methodLink "StepColumnsLaw" 12 ⟨"StepColumnsModel", "<init>", "()V"⟩ ∈ gw := List.mem_filter.mpr ⟨List.mem_of_getElem? (i := 430) (by decide +kernel), by decide +kernel⟩
theorem wd_431 : Cond.instanceMethod ⟨"StepColumnsModel", "<init>", "()V"⟩ ∈ gw := List.mem_filter.mpr ⟨List.mem_of_getElem? (i := 431) (by decide +kernel), by decide +kernel⟩
theorem wd_432 : Cond.code ⟨"StepColumnsModel", "<init>", "()V"⟩ prog_6_method_1_code 1 none ∈ gw := List.mem_filter.mpr ⟨List.mem_of_getElem? (i := 432) (by decide +kernel), by decide +kernel⟩
theorem wd_473 : Cond.methodLink "StepColumnsLaw" 17 ⟨"StepColumnsModel", "add", "(IIII)I"⟩ ∈ gw := List.mem_filter.mpr ⟨List.mem_of_getElem? (i := 473) (by decide +kernel), by decide +kernel⟩
theorem wd_474 : Cond.instanceMethod ⟨"StepColumnsModel", "add", "(IIII)I"⟩ ∈ gw := List.mem_filter.mpr ⟨List.mem_of_getElem? (i := 474) (by decide +kernel), by decide +kernel⟩
theorem wd_475 : Cond.selects "StepColumnsModel" ⟨"StepColumnsModel", "add", "(IIII)I"⟩ ⟨"StepColumnsModel", "add", "(IIII)I"⟩ ∈ gw := List.mem_filter.mpr ⟨List.mem_of_getElem? (i := 475) (by decide +kernel), by decide +kernel⟩
theorem wd_476 : Cond.code ⟨"StepColumnsModel", "add", "(IIII)I"⟩ prog_6_method_5_code 6 (some .int) ∈ gw := List.mem_filter.mpr ⟨List.mem_of_getElem? (i := 476) (by decide +kernel), by decide +kernel⟩
theorem wd_483 : Cond.methodLink "StepColumnsLaw" 22 ⟨"StepColumnsModel", "change", "(III)I"⟩ ∈ gw := List.mem_filter.mpr ⟨List.mem_of_getElem? (i := 483) (by decide +kernel), by decide +kernel⟩
theorem wd_484 : Cond.instanceMethod ⟨"StepColumnsModel", "change", "(III)I"⟩ ∈ gw := List.mem_filter.mpr ⟨List.mem_of_getElem? (i := 484) (by decide +kernel), by decide +kernel⟩
theorem wd_485 : Cond.selects "StepColumnsModel" ⟨"StepColumnsModel", "change", "(III)I"⟩ ⟨"StepColumnsModel", "change", "(III)I"⟩ ∈ gw := List.mem_filter.mpr ⟨List.mem_of_getElem? (i := 485) (by decide +kernel), by decide +kernel⟩
theorem wd_486 : Cond.code ⟨"StepColumnsModel", "change", "(III)I"⟩ prog_6_method_6_code 7 (some .int) ∈ gw := List.mem_filter.mpr ⟨List.mem_of_getElem? (i := 486) (by decide +kernel), by decide +kernel⟩
theorem wd_491 : Cond.methodLink "StepColumnsLaw" 27 ⟨"StepColumnsModel", "remove", "(I)I"⟩ ∈ gw := List.mem_filter.mpr ⟨List.mem_of_getElem? (i := 491) (by decide +kernel), by decide +kernel⟩
theorem wd_492 : Cond.instanceMethod ⟨"StepColumnsModel", "remove", "(I)I"⟩ ∈ gw := List.mem_filter.mpr ⟨List.mem_of_getElem? (i := 492) (by decide +kernel), by decide +kernel⟩
theorem wd_493 : Cond.selects "StepColumnsModel" ⟨"StepColumnsModel", "remove", "(I)I"⟩ ⟨"StepColumnsModel", "remove", "(I)I"⟩ ∈ gw := List.mem_filter.mpr ⟨List.mem_of_getElem? (i := 493) (by decide +kernel), by decide +kernel⟩
theorem wd_494 : Cond.code ⟨"StepColumnsModel", "remove", "(I)I"⟩ prog_6_method_8_code 3 (some .int) ∈ gw := List.mem_filter.mpr ⟨List.mem_of_getElem? (i := 494) (by decide +kernel), by decide +kernel⟩
theorem wd_499 : Cond.methodLink "StepColumnsLaw" 32 ⟨"StepColumnsModel", "move", "(II)I"⟩ ∈ gw := List.mem_filter.mpr ⟨List.mem_of_getElem? (i := 499) (by decide +kernel), by decide +kernel⟩
theorem wd_500 : Cond.instanceMethod ⟨"StepColumnsModel", "move", "(II)I"⟩ ∈ gw := List.mem_filter.mpr ⟨List.mem_of_getElem? (i := 500) (by decide +kernel), by decide +kernel⟩
theorem wd_501 : Cond.selects "StepColumnsModel" ⟨"StepColumnsModel", "move", "(II)I"⟩ ⟨"StepColumnsModel", "move", "(II)I"⟩ ∈ gw := List.mem_filter.mpr ⟨List.mem_of_getElem? (i := 501) (by decide +kernel), by decide +kernel⟩
theorem wd_502 : Cond.code ⟨"StepColumnsModel", "move", "(II)I"⟩ prog_6_method_10_code 4 (some .int) ∈ gw := List.mem_filter.mpr ⟨List.mem_of_getElem? (i := 502) (by decide +kernel), by decide +kernel⟩
theorem wd_507 : Cond.methodLink "StepColumnsLaw" 36 ⟨"StepColumnsModel", "set", "(II)I"⟩ ∈ gw := List.mem_filter.mpr ⟨List.mem_of_getElem? (i := 507) (by decide +kernel), by decide +kernel⟩
theorem wd_508 : Cond.instanceMethod ⟨"StepColumnsModel", "set", "(II)I"⟩ ∈ gw := List.mem_filter.mpr ⟨List.mem_of_getElem? (i := 508) (by decide +kernel), by decide +kernel⟩
theorem wd_509 : Cond.selects "StepColumnsModel" ⟨"StepColumnsModel", "set", "(II)I"⟩ ⟨"StepColumnsModel", "set", "(II)I"⟩ ∈ gw := List.mem_filter.mpr ⟨List.mem_of_getElem? (i := 509) (by decide +kernel), by decide +kernel⟩
theorem wd_510 : Cond.code ⟨"StepColumnsModel", "set", "(II)I"⟩ prog_6_method_11_code 4 (some .int) ∈ gw := List.mem_filter.mpr ⟨List.mem_of_getElem? (i := 510) (by decide +kernel), by decide +kernel⟩
theorem wd_511 : Cond.methodLink "StepColumnsLaw" 40 ⟨"StepColumnsModel", "item", "(II)I"⟩ ∈ gw := List.mem_filter.mpr ⟨List.mem_of_getElem? (i := 511) (by decide +kernel), by decide +kernel⟩
theorem wd_512 : Cond.instanceMethod ⟨"StepColumnsModel", "item", "(II)I"⟩ ∈ gw := List.mem_filter.mpr ⟨List.mem_of_getElem? (i := 512) (by decide +kernel), by decide +kernel⟩
theorem wd_513 : Cond.selects "StepColumnsModel" ⟨"StepColumnsModel", "item", "(II)I"⟩ ⟨"StepColumnsModel", "item", "(II)I"⟩ ∈ gw := List.mem_filter.mpr ⟨List.mem_of_getElem? (i := 513) (by decide +kernel), by decide +kernel⟩
theorem wd_514 : Cond.code ⟨"StepColumnsModel", "item", "(II)I"⟩ prog_6_method_12_code 3 (some .int) ∈ gw := List.mem_filter.mpr ⟨List.mem_of_getElem? (i := 514) (by decide +kernel), by decide +kernel⟩
theorem wd_515 : Cond.methodLink "StepColumnsLaw" 44 ⟨"StepColumnsModel", "best", "(I)I"⟩ ∈ gw := List.mem_filter.mpr ⟨List.mem_of_getElem? (i := 515) (by decide +kernel), by decide +kernel⟩
theorem wd_516 : Cond.instanceMethod ⟨"StepColumnsModel", "best", "(I)I"⟩ ∈ gw := List.mem_filter.mpr ⟨List.mem_of_getElem? (i := 516) (by decide +kernel), by decide +kernel⟩
theorem wd_517 : Cond.selects "StepColumnsModel" ⟨"StepColumnsModel", "best", "(I)I"⟩ ⟨"StepColumnsModel", "best", "(I)I"⟩ ∈ gw := List.mem_filter.mpr ⟨List.mem_of_getElem? (i := 517) (by decide +kernel), by decide +kernel⟩
theorem wd_518 : Cond.code ⟨"StepColumnsModel", "best", "(I)I"⟩ prog_6_method_26_code 7 (some .int) ∈ gw := List.mem_filter.mpr ⟨List.mem_of_getElem? (i := 518) (by decide +kernel), by decide +kernel⟩
theorem wd_570 : Cond.methodLink "StepColumnsLaw" 48 ⟨"StepColumnsModel", "place", "(III)I"⟩ ∈ gw := List.mem_filter.mpr ⟨List.mem_of_getElem? (i := 570) (by decide +kernel), by decide +kernel⟩
theorem wd_571 : Cond.instanceMethod ⟨"StepColumnsModel", "place", "(III)I"⟩ ∈ gw := List.mem_filter.mpr ⟨List.mem_of_getElem? (i := 571) (by decide +kernel), by decide +kernel⟩
theorem wd_572 : Cond.selects "StepColumnsModel" ⟨"StepColumnsModel", "place", "(III)I"⟩ ⟨"StepColumnsModel", "place", "(III)I"⟩ ∈ gw := List.mem_filter.mpr ⟨List.mem_of_getElem? (i := 572) (by decide +kernel), by decide +kernel⟩
theorem wd_573 : Cond.code ⟨"StepColumnsModel", "place", "(III)I"⟩ prog_6_method_27_code 5 (some .int) ∈ gw := List.mem_filter.mpr ⟨List.mem_of_getElem? (i := 573) (by decide +kernel), by decide +kernel⟩
theorem wd_574 : Cond.methodLink "StepColumnsLaw" 52 ⟨"StepColumnsModel", "column", "(II)I"⟩ ∈ gw := List.mem_filter.mpr ⟨List.mem_of_getElem? (i := 574) (by decide +kernel), by decide +kernel⟩
theorem wd_575 : Cond.instanceMethod ⟨"StepColumnsModel", "column", "(II)I"⟩ ∈ gw := List.mem_filter.mpr ⟨List.mem_of_getElem? (i := 575) (by decide +kernel), by decide +kernel⟩
theorem wd_576 : Cond.selects "StepColumnsModel" ⟨"StepColumnsModel", "column", "(II)I"⟩ ⟨"StepColumnsModel", "column", "(II)I"⟩ ∈ gw := List.mem_filter.mpr ⟨List.mem_of_getElem? (i := 576) (by decide +kernel), by decide +kernel⟩
theorem wd_577 : Cond.code ⟨"StepColumnsModel", "column", "(II)I"⟩ prog_6_method_28_code 9 (some .int) ∈ gw := List.mem_filter.mpr ⟨List.mem_of_getElem? (i := 577) (by decide +kernel), by decide +kernel⟩
theorem wd_578 : Cond.methodLink "StepColumnsLaw" 56 ⟨"StepColumnsModel", "meet", "(I)I"⟩ ∈ gw := List.mem_filter.mpr ⟨List.mem_of_getElem? (i := 578) (by decide +kernel), by decide +kernel⟩
theorem wd_579 : Cond.instanceMethod ⟨"StepColumnsModel", "meet", "(I)I"⟩ ∈ gw := List.mem_filter.mpr ⟨List.mem_of_getElem? (i := 579) (by decide +kernel), by decide +kernel⟩
theorem wd_580 : Cond.selects "StepColumnsModel" ⟨"StepColumnsModel", "meet", "(I)I"⟩ ⟨"StepColumnsModel", "meet", "(I)I"⟩ ∈ gw := List.mem_filter.mpr ⟨List.mem_of_getElem? (i := 580) (by decide +kernel), by decide +kernel⟩
theorem wd_581 : Cond.code ⟨"StepColumnsModel", "meet", "(I)I"⟩ prog_6_method_30_code 4 (some .int) ∈ gw := List.mem_filter.mpr ⟨List.mem_of_getElem? (i := 581) (by decide +kernel), by decide +kernel⟩
theorem wd_586 : Cond.methodLink "StepColumnsLaw" 60 ⟨"StepColumnsModel", "relief", "(I)I"⟩ ∈ gw := List.mem_filter.mpr ⟨List.mem_of_getElem? (i := 586) (by decide +kernel), by decide +kernel⟩
theorem wd_587 : Cond.instanceMethod ⟨"StepColumnsModel", "relief", "(I)I"⟩ ∈ gw := List.mem_filter.mpr ⟨List.mem_of_getElem? (i := 587) (by decide +kernel), by decide +kernel⟩
theorem wd_588 : Cond.selects "StepColumnsModel" ⟨"StepColumnsModel", "relief", "(I)I"⟩ ⟨"StepColumnsModel", "relief", "(I)I"⟩ ∈ gw := List.mem_filter.mpr ⟨List.mem_of_getElem? (i := 588) (by decide +kernel), by decide +kernel⟩
theorem wd_589 : Cond.code ⟨"StepColumnsModel", "relief", "(I)I"⟩ prog_6_method_33_code 2 (some .int) ∈ gw := List.mem_filter.mpr ⟨List.mem_of_getElem? (i := 589) (by decide +kernel), by decide +kernel⟩
theorem wd_597 : Cond.methodLink "StepColumnsLaw" 65 ⟨"StepColumnsModel", "culprit", "()I"⟩ ∈ gw := List.mem_filter.mpr ⟨List.mem_of_getElem? (i := 597) (by decide +kernel), by decide +kernel⟩
theorem wd_598 : Cond.instanceMethod ⟨"StepColumnsModel", "culprit", "()I"⟩ ∈ gw := List.mem_filter.mpr ⟨List.mem_of_getElem? (i := 598) (by decide +kernel), by decide +kernel⟩
theorem wd_599 : Cond.selects "StepColumnsModel" ⟨"StepColumnsModel", "culprit", "()I"⟩ ⟨"StepColumnsModel", "culprit", "()I"⟩ ∈ gw := List.mem_filter.mpr ⟨List.mem_of_getElem? (i := 599) (by decide +kernel), by decide +kernel⟩
theorem wd_600 : Cond.code ⟨"StepColumnsModel", "culprit", "()I"⟩ prog_6_method_34_code 5 (some .int) ∈ gw := List.mem_filter.mpr ⟨List.mem_of_getElem? (i := 600) (by decide +kernel), by decide +kernel⟩
theorem wd_601 : Cond.methodLink "StepColumnsLaw" 69 ⟨"StepColumnsModel", "fit", "(I)I"⟩ ∈ gw := List.mem_filter.mpr ⟨List.mem_of_getElem? (i := 601) (by decide +kernel), by decide +kernel⟩
theorem wd_602 : Cond.instanceMethod ⟨"StepColumnsModel", "fit", "(I)I"⟩ ∈ gw := List.mem_filter.mpr ⟨List.mem_of_getElem? (i := 602) (by decide +kernel), by decide +kernel⟩
theorem wd_603 : Cond.selects "StepColumnsModel" ⟨"StepColumnsModel", "fit", "(I)I"⟩ ⟨"StepColumnsModel", "fit", "(I)I"⟩ ∈ gw := List.mem_filter.mpr ⟨List.mem_of_getElem? (i := 603) (by decide +kernel), by decide +kernel⟩
theorem wd_604 : Cond.code ⟨"StepColumnsModel", "fit", "(I)I"⟩ prog_6_method_36_code 6 (some .int) ∈ gw := List.mem_filter.mpr ⟨List.mem_of_getElem? (i := 604) (by decide +kernel), by decide +kernel⟩
theorem wd_609 : Cond.methodLink "StepColumnsLaw" 73 ⟨"StepColumnsModel", "image", "(I)I"⟩ ∈ gw := List.mem_filter.mpr ⟨List.mem_of_getElem? (i := 609) (by decide +kernel), by decide +kernel⟩
theorem wd_610 : Cond.instanceMethod ⟨"StepColumnsModel", "image", "(I)I"⟩ ∈ gw := List.mem_filter.mpr ⟨List.mem_of_getElem? (i := 610) (by decide +kernel), by decide +kernel⟩
theorem wd_611 : Cond.selects "StepColumnsModel" ⟨"StepColumnsModel", "image", "(I)I"⟩ ⟨"StepColumnsModel", "image", "(I)I"⟩ ∈ gw := List.mem_filter.mpr ⟨List.mem_of_getElem? (i := 611) (by decide +kernel), by decide +kernel⟩
theorem wd_612 : Cond.code ⟨"StepColumnsModel", "image", "(I)I"⟩ prog_6_method_37_code 3 (some .int) ∈ gw := List.mem_filter.mpr ⟨List.mem_of_getElem? (i := 612) (by decide +kernel), by decide +kernel⟩
theorem wd_613 : Cond.methodLink "StepColumnsLaw" 77 ⟨"StepColumnsModel", "restore", "(I)I"⟩ ∈ gw := List.mem_filter.mpr ⟨List.mem_of_getElem? (i := 613) (by decide +kernel), by decide +kernel⟩
theorem wd_614 : Cond.instanceMethod ⟨"StepColumnsModel", "restore", "(I)I"⟩ ∈ gw := List.mem_filter.mpr ⟨List.mem_of_getElem? (i := 614) (by decide +kernel), by decide +kernel⟩
theorem wd_615 : Cond.selects "StepColumnsModel" ⟨"StepColumnsModel", "restore", "(I)I"⟩ ⟨"StepColumnsModel", "restore", "(I)I"⟩ ∈ gw := List.mem_filter.mpr ⟨List.mem_of_getElem? (i := 615) (by decide +kernel), by decide +kernel⟩
theorem wd_616 : Cond.code ⟨"StepColumnsModel", "restore", "(I)I"⟩ prog_6_method_38_code 3 (some .int) ∈ gw := List.mem_filter.mpr ⟨List.mem_of_getElem? (i := 616) (by decide +kernel), by decide +kernel⟩
theorem wd_617 : Cond.methodLink "StepColumnsLaw" 81 ⟨"StepColumnsModel", "count", "(I)I"⟩ ∈ gw := List.mem_filter.mpr ⟨List.mem_of_getElem? (i := 617) (by decide +kernel), by decide +kernel⟩
theorem wd_618 : Cond.instanceMethod ⟨"StepColumnsModel", "count", "(I)I"⟩ ∈ gw := List.mem_filter.mpr ⟨List.mem_of_getElem? (i := 618) (by decide +kernel), by decide +kernel⟩
theorem wd_619 : Cond.selects "StepColumnsModel" ⟨"StepColumnsModel", "count", "(I)I"⟩ ⟨"StepColumnsModel", "count", "(I)I"⟩ ∈ gw := List.mem_filter.mpr ⟨List.mem_of_getElem? (i := 619) (by decide +kernel), by decide +kernel⟩
theorem wd_620 : Cond.code ⟨"StepColumnsModel", "count", "(I)I"⟩ prog_6_method_40_code 2 (some .int) ∈ gw := List.mem_filter.mpr ⟨List.mem_of_getElem? (i := 620) (by decide +kernel), by decide +kernel⟩
theorem kb_15 : (Int8.ofInt 15).toInt32 = (15 : Int32) := by decide +kernel
theorem ki_5 : Int32.ofInt 5 = (5 : Int32) := by decide +kernel
theorem kl_0 : nI 0 = (0 : Int32) := by decide +kernel
theorem kl_1 : nI 1 = (1 : Int32) := by decide +kernel
theorem kl_10 : nI 10 = (10 : Int32) := by decide +kernel
theorem kl_11 : nI 11 = (11 : Int32) := by decide +kernel
theorem kl_12 : nI 12 = (12 : Int32) := by decide +kernel
theorem kl_13 : nI 13 = (13 : Int32) := by decide +kernel
theorem kl_14 : nI 14 = (14 : Int32) := by decide +kernel
theorem kl_15 : nI 15 = (15 : Int32) := by decide +kernel
theorem kl_2 : nI 2 = (2 : Int32) := by decide +kernel
theorem kl_3 : nI 3 = (3 : Int32) := by decide +kernel
theorem kl_4 : nI 4 = (4 : Int32) := by decide +kernel
theorem kl_5 : nI 5 = (5 : Int32) := by decide +kernel
theorem kl_6 : nI 6 = (6 : Int32) := by decide +kernel
theorem kl_7 : nI 7 = (7 : Int32) := by decide +kernel
theorem kl_8 : nI 8 = (8 : Int32) := by decide +kernel
theorem kl_9 : nI 9 = (9 : Int32) := by decide +kernel
theorem kl_I5 : Int32.ofInt 5 = nI 5 := by decide +kernel
theorem dW_law_0 : decode code 0 = .ok (.new 7, 3) := by decide +kernel
theorem dW_law_3 : decode code 3 = .ok (.dup, 1) := by decide +kernel
theorem dW_law_4 : decode code 4 = .ok (.invokespecial 9, 3) := by decide +kernel
theorem dW_law_7 : decode code 7 = .ok (.astore_n 1, 1) := by decide +kernel
theorem dW_law_8 : decode code 8 = .ok (.new 10, 3) := by decide +kernel
theorem dW_law_11 : decode code 11 = .ok (.dup, 1) := by decide +kernel
theorem dW_law_12 : decode code 12 = .ok (.invokespecial 12, 3) := by decide +kernel
theorem dW_law_15 : decode code 15 = .ok (.astore_n 2, 1) := by decide +kernel
theorem dW_law_16 : decode code 16 = .ok (.iconst 0, 1) := by decide +kernel
theorem dW_law_17 : decode code 17 = .ok (.istore_n 3, 1) := by decide +kernel
theorem dW_law_18 : decode code 18 = .ok (.iload_n 3, 1) := by decide +kernel
theorem dW_law_19 : decode code 19 = .ok (.aload_n 0, 1) := by decide +kernel
theorem dW_law_20 : decode code 20 = .ok (.arraylength, 1) := by decide +kernel
theorem dW_law_21 : decode code 21 = .ok (.iconst 5, 1) := by decide +kernel
theorem dW_law_22 : decode code 22 = .ok (.isub, 1) := by decide +kernel
theorem dW_law_23 : decode code 23 = .ok (.if_icmp .gt 563, 3) := by decide +kernel
theorem dW_law_26 : decode code 26 = .ok (.aload_n 0, 1) := by decide +kernel
theorem dW_law_27 : decode code 27 = .ok (.iload_n 3, 1) := by decide +kernel
theorem dW_law_28 : decode code 28 = .ok (.iaload, 1) := by decide +kernel
theorem dW_law_29 : decode code 29 = .ok (.bipush 15, 2) := by decide +kernel
theorem dW_law_31 : decode code 31 = .ok (.iand, 1) := by decide +kernel
theorem dW_law_32 : decode code 32 = .ok (.tableswitch 548 0 15 #[80, 133, 176, 199, 232, 265, 298, 321, 364, 397, 420, 443, 456, 479, 502, 525], 80) := by decide +kernel
theorem dW_law_112 : decode code 112 = .ok (.aload_n 1, 1) := by decide +kernel
theorem dW_law_113 : decode code 113 = .ok (.aload_n 0, 1) := by decide +kernel
theorem dW_law_114 : decode code 114 = .ok (.iload_n 3, 1) := by decide +kernel
theorem dW_law_115 : decode code 115 = .ok (.iconst 1, 1) := by decide +kernel
theorem dW_law_116 : decode code 116 = .ok (.iadd, 1) := by decide +kernel
theorem dW_law_117 : decode code 117 = .ok (.iaload, 1) := by decide +kernel
theorem dW_law_118 : decode code 118 = .ok (.aload_n 0, 1) := by decide +kernel
theorem dW_law_119 : decode code 119 = .ok (.iload_n 3, 1) := by decide +kernel
theorem dW_law_120 : decode code 120 = .ok (.iconst 2, 1) := by decide +kernel
theorem dW_law_121 : decode code 121 = .ok (.iadd, 1) := by decide +kernel
theorem dW_law_122 : decode code 122 = .ok (.iaload, 1) := by decide +kernel
theorem dW_law_123 : decode code 123 = .ok (.aload_n 0, 1) := by decide +kernel
theorem dW_law_124 : decode code 124 = .ok (.iload_n 3, 1) := by decide +kernel
theorem dW_law_125 : decode code 125 = .ok (.iconst 3, 1) := by decide +kernel
theorem dW_law_126 : decode code 126 = .ok (.iadd, 1) := by decide +kernel
theorem dW_law_127 : decode code 127 = .ok (.iaload, 1) := by decide +kernel
theorem dW_law_128 : decode code 128 = .ok (.aload_n 0, 1) := by decide +kernel
theorem dW_law_129 : decode code 129 = .ok (.iload_n 3, 1) := by decide +kernel
theorem dW_law_130 : decode code 130 = .ok (.iconst 4, 1) := by decide +kernel
theorem dW_law_131 : decode code 131 = .ok (.iadd, 1) := by decide +kernel
theorem dW_law_132 : decode code 132 = .ok (.iaload, 1) := by decide +kernel
theorem dW_law_133 : decode code 133 = .ok (.invokevirtual 13, 3) := by decide +kernel
theorem dW_law_136 : decode code 136 = .ok (.aload_n 2, 1) := by decide +kernel
theorem dW_law_137 : decode code 137 = .ok (.aload_n 0, 1) := by decide +kernel
theorem dW_law_138 : decode code 138 = .ok (.iload_n 3, 1) := by decide +kernel
theorem dW_law_139 : decode code 139 = .ok (.iconst 1, 1) := by decide +kernel
theorem dW_law_140 : decode code 140 = .ok (.iadd, 1) := by decide +kernel
theorem dW_law_141 : decode code 141 = .ok (.iaload, 1) := by decide +kernel
theorem dW_law_142 : decode code 142 = .ok (.aload_n 0, 1) := by decide +kernel
theorem dW_law_143 : decode code 143 = .ok (.iload_n 3, 1) := by decide +kernel
theorem dW_law_144 : decode code 144 = .ok (.iconst 2, 1) := by decide +kernel
theorem dW_law_145 : decode code 145 = .ok (.iadd, 1) := by decide +kernel
theorem dW_law_146 : decode code 146 = .ok (.iaload, 1) := by decide +kernel
theorem dW_law_147 : decode code 147 = .ok (.aload_n 0, 1) := by decide +kernel
theorem dW_law_148 : decode code 148 = .ok (.iload_n 3, 1) := by decide +kernel
theorem dW_law_149 : decode code 149 = .ok (.iconst 3, 1) := by decide +kernel
theorem dW_law_150 : decode code 150 = .ok (.iadd, 1) := by decide +kernel
theorem dW_law_151 : decode code 151 = .ok (.iaload, 1) := by decide +kernel
theorem dW_law_152 : decode code 152 = .ok (.aload_n 0, 1) := by decide +kernel
theorem dW_law_153 : decode code 153 = .ok (.iload_n 3, 1) := by decide +kernel
theorem dW_law_154 : decode code 154 = .ok (.iconst 4, 1) := by decide +kernel
theorem dW_law_155 : decode code 155 = .ok (.iadd, 1) := by decide +kernel
theorem dW_law_156 : decode code 156 = .ok (.iaload, 1) := by decide +kernel
theorem dW_law_157 : decode code 157 = .ok (.invokevirtual 17, 3) := by decide +kernel
theorem dW_law_160 : decode code 160 = .ok (.if_icmp .eq 420, 3) := by decide +kernel
theorem dW_law_163 : decode code 163 = .ok (.iconst 0, 1) := by decide +kernel
theorem dW_law_164 : decode code 164 = .ok (.ireturn, 1) := by decide +kernel
theorem dW_law_165 : decode code 165 = .ok (.aload_n 1, 1) := by decide +kernel
theorem dW_law_166 : decode code 166 = .ok (.aload_n 0, 1) := by decide +kernel
theorem dW_law_167 : decode code 167 = .ok (.iload_n 3, 1) := by decide +kernel
theorem dW_law_168 : decode code 168 = .ok (.iconst 1, 1) := by decide +kernel
theorem dW_law_169 : decode code 169 = .ok (.iadd, 1) := by decide +kernel
theorem dW_law_170 : decode code 170 = .ok (.iaload, 1) := by decide +kernel
theorem dW_law_171 : decode code 171 = .ok (.aload_n 0, 1) := by decide +kernel
theorem dW_law_172 : decode code 172 = .ok (.iload_n 3, 1) := by decide +kernel
theorem dW_law_173 : decode code 173 = .ok (.iconst 2, 1) := by decide +kernel
theorem dW_law_174 : decode code 174 = .ok (.iadd, 1) := by decide +kernel
theorem dW_law_175 : decode code 175 = .ok (.iaload, 1) := by decide +kernel
theorem dW_law_176 : decode code 176 = .ok (.aload_n 0, 1) := by decide +kernel
theorem dW_law_177 : decode code 177 = .ok (.iload_n 3, 1) := by decide +kernel
theorem dW_law_178 : decode code 178 = .ok (.iconst 3, 1) := by decide +kernel
theorem dW_law_179 : decode code 179 = .ok (.iadd, 1) := by decide +kernel
theorem dW_law_180 : decode code 180 = .ok (.iaload, 1) := by decide +kernel
theorem dW_law_181 : decode code 181 = .ok (.invokevirtual 18, 3) := by decide +kernel
theorem dW_law_184 : decode code 184 = .ok (.aload_n 2, 1) := by decide +kernel
theorem dW_law_185 : decode code 185 = .ok (.aload_n 0, 1) := by decide +kernel
theorem dW_law_186 : decode code 186 = .ok (.iload_n 3, 1) := by decide +kernel
theorem dW_law_187 : decode code 187 = .ok (.iconst 1, 1) := by decide +kernel
theorem dW_law_188 : decode code 188 = .ok (.iadd, 1) := by decide +kernel
theorem dW_law_189 : decode code 189 = .ok (.iaload, 1) := by decide +kernel
theorem dW_law_190 : decode code 190 = .ok (.aload_n 0, 1) := by decide +kernel
theorem dW_law_191 : decode code 191 = .ok (.iload_n 3, 1) := by decide +kernel
theorem dW_law_192 : decode code 192 = .ok (.iconst 2, 1) := by decide +kernel
theorem dW_law_193 : decode code 193 = .ok (.iadd, 1) := by decide +kernel
theorem dW_law_194 : decode code 194 = .ok (.iaload, 1) := by decide +kernel
theorem dW_law_195 : decode code 195 = .ok (.aload_n 0, 1) := by decide +kernel
theorem dW_law_196 : decode code 196 = .ok (.iload_n 3, 1) := by decide +kernel
theorem dW_law_197 : decode code 197 = .ok (.iconst 3, 1) := by decide +kernel
theorem dW_law_198 : decode code 198 = .ok (.iadd, 1) := by decide +kernel
theorem dW_law_199 : decode code 199 = .ok (.iaload, 1) := by decide +kernel
theorem dW_law_200 : decode code 200 = .ok (.invokevirtual 22, 3) := by decide +kernel
theorem dW_law_203 : decode code 203 = .ok (.if_icmp .eq 377, 3) := by decide +kernel
theorem dW_law_206 : decode code 206 = .ok (.iconst 0, 1) := by decide +kernel
theorem dW_law_207 : decode code 207 = .ok (.ireturn, 1) := by decide +kernel
theorem dW_law_208 : decode code 208 = .ok (.aload_n 1, 1) := by decide +kernel
theorem dW_law_209 : decode code 209 = .ok (.aload_n 0, 1) := by decide +kernel
theorem dW_law_210 : decode code 210 = .ok (.iload_n 3, 1) := by decide +kernel
theorem dW_law_211 : decode code 211 = .ok (.iconst 1, 1) := by decide +kernel
theorem dW_law_212 : decode code 212 = .ok (.iadd, 1) := by decide +kernel
theorem dW_law_213 : decode code 213 = .ok (.iaload, 1) := by decide +kernel
theorem dW_law_214 : decode code 214 = .ok (.invokevirtual 23, 3) := by decide +kernel
theorem dW_law_217 : decode code 217 = .ok (.aload_n 2, 1) := by decide +kernel
theorem dW_law_218 : decode code 218 = .ok (.aload_n 0, 1) := by decide +kernel
theorem dW_law_219 : decode code 219 = .ok (.iload_n 3, 1) := by decide +kernel
theorem dW_law_220 : decode code 220 = .ok (.iconst 1, 1) := by decide +kernel
theorem dW_law_221 : decode code 221 = .ok (.iadd, 1) := by decide +kernel
theorem dW_law_222 : decode code 222 = .ok (.iaload, 1) := by decide +kernel
theorem dW_law_223 : decode code 223 = .ok (.invokevirtual 27, 3) := by decide +kernel
theorem dW_law_226 : decode code 226 = .ok (.if_icmp .eq 354, 3) := by decide +kernel
theorem dW_law_229 : decode code 229 = .ok (.iconst 0, 1) := by decide +kernel
theorem dW_law_230 : decode code 230 = .ok (.ireturn, 1) := by decide +kernel
theorem dW_law_231 : decode code 231 = .ok (.aload_n 1, 1) := by decide +kernel
theorem dW_law_232 : decode code 232 = .ok (.aload_n 0, 1) := by decide +kernel
theorem dW_law_233 : decode code 233 = .ok (.iload_n 3, 1) := by decide +kernel
theorem dW_law_234 : decode code 234 = .ok (.iconst 1, 1) := by decide +kernel
theorem dW_law_235 : decode code 235 = .ok (.iadd, 1) := by decide +kernel
theorem dW_law_236 : decode code 236 = .ok (.iaload, 1) := by decide +kernel
theorem dW_law_237 : decode code 237 = .ok (.aload_n 0, 1) := by decide +kernel
theorem dW_law_238 : decode code 238 = .ok (.iload_n 3, 1) := by decide +kernel
theorem dW_law_239 : decode code 239 = .ok (.iconst 2, 1) := by decide +kernel
theorem dW_law_240 : decode code 240 = .ok (.iadd, 1) := by decide +kernel
theorem dW_law_241 : decode code 241 = .ok (.iaload, 1) := by decide +kernel
theorem dW_law_242 : decode code 242 = .ok (.invokevirtual 28, 3) := by decide +kernel
theorem dW_law_245 : decode code 245 = .ok (.aload_n 2, 1) := by decide +kernel
theorem dW_law_246 : decode code 246 = .ok (.aload_n 0, 1) := by decide +kernel
theorem dW_law_247 : decode code 247 = .ok (.iload_n 3, 1) := by decide +kernel
theorem dW_law_248 : decode code 248 = .ok (.iconst 1, 1) := by decide +kernel
theorem dW_law_249 : decode code 249 = .ok (.iadd, 1) := by decide +kernel
theorem dW_law_250 : decode code 250 = .ok (.iaload, 1) := by decide +kernel
theorem dW_law_251 : decode code 251 = .ok (.aload_n 0, 1) := by decide +kernel
theorem dW_law_252 : decode code 252 = .ok (.iload_n 3, 1) := by decide +kernel
theorem dW_law_253 : decode code 253 = .ok (.iconst 2, 1) := by decide +kernel
theorem dW_law_254 : decode code 254 = .ok (.iadd, 1) := by decide +kernel
theorem dW_law_255 : decode code 255 = .ok (.iaload, 1) := by decide +kernel
theorem dW_law_256 : decode code 256 = .ok (.invokevirtual 32, 3) := by decide +kernel
theorem dW_law_259 : decode code 259 = .ok (.if_icmp .eq 321, 3) := by decide +kernel
theorem dW_law_262 : decode code 262 = .ok (.iconst 0, 1) := by decide +kernel
theorem dW_law_263 : decode code 263 = .ok (.ireturn, 1) := by decide +kernel
theorem dW_law_264 : decode code 264 = .ok (.aload_n 1, 1) := by decide +kernel
theorem dW_law_265 : decode code 265 = .ok (.aload_n 0, 1) := by decide +kernel
theorem dW_law_266 : decode code 266 = .ok (.iload_n 3, 1) := by decide +kernel
theorem dW_law_267 : decode code 267 = .ok (.iconst 1, 1) := by decide +kernel
theorem dW_law_268 : decode code 268 = .ok (.iadd, 1) := by decide +kernel
theorem dW_law_269 : decode code 269 = .ok (.iaload, 1) := by decide +kernel
theorem dW_law_270 : decode code 270 = .ok (.aload_n 0, 1) := by decide +kernel
theorem dW_law_271 : decode code 271 = .ok (.iload_n 3, 1) := by decide +kernel
theorem dW_law_272 : decode code 272 = .ok (.iconst 2, 1) := by decide +kernel
theorem dW_law_273 : decode code 273 = .ok (.iadd, 1) := by decide +kernel
theorem dW_law_274 : decode code 274 = .ok (.iaload, 1) := by decide +kernel
theorem dW_law_275 : decode code 275 = .ok (.invokevirtual 33, 3) := by decide +kernel
theorem dW_law_278 : decode code 278 = .ok (.aload_n 2, 1) := by decide +kernel
theorem dW_law_279 : decode code 279 = .ok (.aload_n 0, 1) := by decide +kernel
theorem dW_law_280 : decode code 280 = .ok (.iload_n 3, 1) := by decide +kernel
theorem dW_law_281 : decode code 281 = .ok (.iconst 1, 1) := by decide +kernel
theorem dW_law_282 : decode code 282 = .ok (.iadd, 1) := by decide +kernel
theorem dW_law_283 : decode code 283 = .ok (.iaload, 1) := by decide +kernel
theorem dW_law_284 : decode code 284 = .ok (.aload_n 0, 1) := by decide +kernel
theorem dW_law_285 : decode code 285 = .ok (.iload_n 3, 1) := by decide +kernel
theorem dW_law_286 : decode code 286 = .ok (.iconst 2, 1) := by decide +kernel
theorem dW_law_287 : decode code 287 = .ok (.iadd, 1) := by decide +kernel
theorem dW_law_288 : decode code 288 = .ok (.iaload, 1) := by decide +kernel
theorem dW_law_289 : decode code 289 = .ok (.invokevirtual 36, 3) := by decide +kernel
theorem dW_law_292 : decode code 292 = .ok (.if_icmp .eq 288, 3) := by decide +kernel
theorem dW_law_295 : decode code 295 = .ok (.iconst 0, 1) := by decide +kernel
theorem dW_law_296 : decode code 296 = .ok (.ireturn, 1) := by decide +kernel
theorem dW_law_297 : decode code 297 = .ok (.aload_n 1, 1) := by decide +kernel
theorem dW_law_298 : decode code 298 = .ok (.aload_n 0, 1) := by decide +kernel
theorem dW_law_299 : decode code 299 = .ok (.iload_n 3, 1) := by decide +kernel
theorem dW_law_300 : decode code 300 = .ok (.iconst 1, 1) := by decide +kernel
theorem dW_law_301 : decode code 301 = .ok (.iadd, 1) := by decide +kernel
theorem dW_law_302 : decode code 302 = .ok (.iaload, 1) := by decide +kernel
theorem dW_law_303 : decode code 303 = .ok (.aload_n 0, 1) := by decide +kernel
theorem dW_law_304 : decode code 304 = .ok (.iload_n 3, 1) := by decide +kernel
theorem dW_law_305 : decode code 305 = .ok (.iconst 2, 1) := by decide +kernel
theorem dW_law_306 : decode code 306 = .ok (.iadd, 1) := by decide +kernel
theorem dW_law_307 : decode code 307 = .ok (.iaload, 1) := by decide +kernel
theorem dW_law_308 : decode code 308 = .ok (.invokevirtual 37, 3) := by decide +kernel
theorem dW_law_311 : decode code 311 = .ok (.aload_n 2, 1) := by decide +kernel
theorem dW_law_312 : decode code 312 = .ok (.aload_n 0, 1) := by decide +kernel
theorem dW_law_313 : decode code 313 = .ok (.iload_n 3, 1) := by decide +kernel
theorem dW_law_314 : decode code 314 = .ok (.iconst 1, 1) := by decide +kernel
theorem dW_law_315 : decode code 315 = .ok (.iadd, 1) := by decide +kernel
theorem dW_law_316 : decode code 316 = .ok (.iaload, 1) := by decide +kernel
theorem dW_law_317 : decode code 317 = .ok (.aload_n 0, 1) := by decide +kernel
theorem dW_law_318 : decode code 318 = .ok (.iload_n 3, 1) := by decide +kernel
theorem dW_law_319 : decode code 319 = .ok (.iconst 2, 1) := by decide +kernel
theorem dW_law_320 : decode code 320 = .ok (.iadd, 1) := by decide +kernel
theorem dW_law_321 : decode code 321 = .ok (.iaload, 1) := by decide +kernel
theorem dW_law_322 : decode code 322 = .ok (.invokevirtual 40, 3) := by decide +kernel
theorem dW_law_325 : decode code 325 = .ok (.if_icmp .eq 255, 3) := by decide +kernel
theorem dW_law_328 : decode code 328 = .ok (.iconst 0, 1) := by decide +kernel
theorem dW_law_329 : decode code 329 = .ok (.ireturn, 1) := by decide +kernel
theorem dW_law_330 : decode code 330 = .ok (.aload_n 1, 1) := by decide +kernel
theorem dW_law_331 : decode code 331 = .ok (.aload_n 0, 1) := by decide +kernel
theorem dW_law_332 : decode code 332 = .ok (.iload_n 3, 1) := by decide +kernel
theorem dW_law_333 : decode code 333 = .ok (.iconst 1, 1) := by decide +kernel
theorem dW_law_334 : decode code 334 = .ok (.iadd, 1) := by decide +kernel
theorem dW_law_335 : decode code 335 = .ok (.iaload, 1) := by decide +kernel
theorem dW_law_336 : decode code 336 = .ok (.invokevirtual 41, 3) := by decide +kernel
theorem dW_law_339 : decode code 339 = .ok (.aload_n 2, 1) := by decide +kernel
theorem dW_law_340 : decode code 340 = .ok (.aload_n 0, 1) := by decide +kernel
theorem dW_law_341 : decode code 341 = .ok (.iload_n 3, 1) := by decide +kernel
theorem dW_law_342 : decode code 342 = .ok (.iconst 1, 1) := by decide +kernel
theorem dW_law_343 : decode code 343 = .ok (.iadd, 1) := by decide +kernel
theorem dW_law_344 : decode code 344 = .ok (.iaload, 1) := by decide +kernel
theorem dW_law_345 : decode code 345 = .ok (.invokevirtual 44, 3) := by decide +kernel
theorem dW_law_348 : decode code 348 = .ok (.if_icmp .eq 232, 3) := by decide +kernel
theorem dW_law_351 : decode code 351 = .ok (.iconst 0, 1) := by decide +kernel
theorem dW_law_352 : decode code 352 = .ok (.ireturn, 1) := by decide +kernel
theorem dW_law_353 : decode code 353 = .ok (.aload_n 1, 1) := by decide +kernel
theorem dW_law_354 : decode code 354 = .ok (.aload_n 0, 1) := by decide +kernel
theorem dW_law_355 : decode code 355 = .ok (.iload_n 3, 1) := by decide +kernel
theorem dW_law_356 : decode code 356 = .ok (.iconst 1, 1) := by decide +kernel
theorem dW_law_357 : decode code 357 = .ok (.iadd, 1) := by decide +kernel
theorem dW_law_358 : decode code 358 = .ok (.iaload, 1) := by decide +kernel
theorem dW_law_359 : decode code 359 = .ok (.aload_n 0, 1) := by decide +kernel
theorem dW_law_360 : decode code 360 = .ok (.iload_n 3, 1) := by decide +kernel
theorem dW_law_361 : decode code 361 = .ok (.iconst 2, 1) := by decide +kernel
theorem dW_law_362 : decode code 362 = .ok (.iadd, 1) := by decide +kernel
theorem dW_law_363 : decode code 363 = .ok (.iaload, 1) := by decide +kernel
theorem dW_law_364 : decode code 364 = .ok (.aload_n 0, 1) := by decide +kernel
theorem dW_law_365 : decode code 365 = .ok (.iload_n 3, 1) := by decide +kernel
theorem dW_law_366 : decode code 366 = .ok (.iconst 3, 1) := by decide +kernel
theorem dW_law_367 : decode code 367 = .ok (.iadd, 1) := by decide +kernel
theorem dW_law_368 : decode code 368 = .ok (.iaload, 1) := by decide +kernel
theorem dW_law_369 : decode code 369 = .ok (.invokevirtual 45, 3) := by decide +kernel
theorem dW_law_372 : decode code 372 = .ok (.aload_n 2, 1) := by decide +kernel
theorem dW_law_373 : decode code 373 = .ok (.aload_n 0, 1) := by decide +kernel
theorem dW_law_374 : decode code 374 = .ok (.iload_n 3, 1) := by decide +kernel
theorem dW_law_375 : decode code 375 = .ok (.iconst 1, 1) := by decide +kernel
theorem dW_law_376 : decode code 376 = .ok (.iadd, 1) := by decide +kernel
theorem dW_law_377 : decode code 377 = .ok (.iaload, 1) := by decide +kernel
theorem dW_law_378 : decode code 378 = .ok (.aload_n 0, 1) := by decide +kernel
theorem dW_law_379 : decode code 379 = .ok (.iload_n 3, 1) := by decide +kernel
theorem dW_law_380 : decode code 380 = .ok (.iconst 2, 1) := by decide +kernel
theorem dW_law_381 : decode code 381 = .ok (.iadd, 1) := by decide +kernel
theorem dW_law_382 : decode code 382 = .ok (.iaload, 1) := by decide +kernel
theorem dW_law_383 : decode code 383 = .ok (.aload_n 0, 1) := by decide +kernel
theorem dW_law_384 : decode code 384 = .ok (.iload_n 3, 1) := by decide +kernel
theorem dW_law_385 : decode code 385 = .ok (.iconst 3, 1) := by decide +kernel
theorem dW_law_386 : decode code 386 = .ok (.iadd, 1) := by decide +kernel
theorem dW_law_387 : decode code 387 = .ok (.iaload, 1) := by decide +kernel
theorem dW_law_388 : decode code 388 = .ok (.invokevirtual 48, 3) := by decide +kernel
theorem dW_law_391 : decode code 391 = .ok (.if_icmp .eq 189, 3) := by decide +kernel
theorem dW_law_394 : decode code 394 = .ok (.iconst 0, 1) := by decide +kernel
theorem dW_law_395 : decode code 395 = .ok (.ireturn, 1) := by decide +kernel
theorem dW_law_396 : decode code 396 = .ok (.aload_n 1, 1) := by decide +kernel
theorem dW_law_397 : decode code 397 = .ok (.aload_n 0, 1) := by decide +kernel
theorem dW_law_398 : decode code 398 = .ok (.iload_n 3, 1) := by decide +kernel
theorem dW_law_399 : decode code 399 = .ok (.iconst 1, 1) := by decide +kernel
theorem dW_law_400 : decode code 400 = .ok (.iadd, 1) := by decide +kernel
theorem dW_law_401 : decode code 401 = .ok (.iaload, 1) := by decide +kernel
theorem dW_law_402 : decode code 402 = .ok (.aload_n 0, 1) := by decide +kernel
theorem dW_law_403 : decode code 403 = .ok (.iload_n 3, 1) := by decide +kernel
theorem dW_law_404 : decode code 404 = .ok (.iconst 2, 1) := by decide +kernel
theorem dW_law_405 : decode code 405 = .ok (.iadd, 1) := by decide +kernel
theorem dW_law_406 : decode code 406 = .ok (.iaload, 1) := by decide +kernel
theorem dW_law_407 : decode code 407 = .ok (.invokevirtual 49, 3) := by decide +kernel
theorem dW_law_410 : decode code 410 = .ok (.aload_n 2, 1) := by decide +kernel
theorem dW_law_411 : decode code 411 = .ok (.aload_n 0, 1) := by decide +kernel
theorem dW_law_412 : decode code 412 = .ok (.iload_n 3, 1) := by decide +kernel
theorem dW_law_413 : decode code 413 = .ok (.iconst 1, 1) := by decide +kernel
theorem dW_law_414 : decode code 414 = .ok (.iadd, 1) := by decide +kernel
theorem dW_law_415 : decode code 415 = .ok (.iaload, 1) := by decide +kernel
theorem dW_law_416 : decode code 416 = .ok (.aload_n 0, 1) := by decide +kernel
theorem dW_law_417 : decode code 417 = .ok (.iload_n 3, 1) := by decide +kernel
theorem dW_law_418 : decode code 418 = .ok (.iconst 2, 1) := by decide +kernel
theorem dW_law_419 : decode code 419 = .ok (.iadd, 1) := by decide +kernel
theorem dW_law_420 : decode code 420 = .ok (.iaload, 1) := by decide +kernel
theorem dW_law_421 : decode code 421 = .ok (.invokevirtual 52, 3) := by decide +kernel
theorem dW_law_424 : decode code 424 = .ok (.if_icmp .eq 156, 3) := by decide +kernel
theorem dW_law_427 : decode code 427 = .ok (.iconst 0, 1) := by decide +kernel
theorem dW_law_428 : decode code 428 = .ok (.ireturn, 1) := by decide +kernel
theorem dW_law_429 : decode code 429 = .ok (.aload_n 1, 1) := by decide +kernel
theorem dW_law_430 : decode code 430 = .ok (.aload_n 0, 1) := by decide +kernel
theorem dW_law_431 : decode code 431 = .ok (.iload_n 3, 1) := by decide +kernel
theorem dW_law_432 : decode code 432 = .ok (.iconst 1, 1) := by decide +kernel
theorem dW_law_433 : decode code 433 = .ok (.iadd, 1) := by decide +kernel
theorem dW_law_434 : decode code 434 = .ok (.iaload, 1) := by decide +kernel
theorem dW_law_435 : decode code 435 = .ok (.invokevirtual 53, 3) := by decide +kernel
theorem dW_law_438 : decode code 438 = .ok (.aload_n 2, 1) := by decide +kernel
theorem dW_law_439 : decode code 439 = .ok (.aload_n 0, 1) := by decide +kernel
theorem dW_law_440 : decode code 440 = .ok (.iload_n 3, 1) := by decide +kernel
theorem dW_law_441 : decode code 441 = .ok (.iconst 1, 1) := by decide +kernel
theorem dW_law_442 : decode code 442 = .ok (.iadd, 1) := by decide +kernel
theorem dW_law_443 : decode code 443 = .ok (.iaload, 1) := by decide +kernel
theorem dW_law_444 : decode code 444 = .ok (.invokevirtual 56, 3) := by decide +kernel
theorem dW_law_447 : decode code 447 = .ok (.if_icmp .eq 133, 3) := by decide +kernel
theorem dW_law_450 : decode code 450 = .ok (.iconst 0, 1) := by decide +kernel
theorem dW_law_451 : decode code 451 = .ok (.ireturn, 1) := by decide +kernel
theorem dW_law_452 : decode code 452 = .ok (.aload_n 1, 1) := by decide +kernel
theorem dW_law_453 : decode code 453 = .ok (.aload_n 0, 1) := by decide +kernel
theorem dW_law_454 : decode code 454 = .ok (.iload_n 3, 1) := by decide +kernel
theorem dW_law_455 : decode code 455 = .ok (.iconst 1, 1) := by decide +kernel
theorem dW_law_456 : decode code 456 = .ok (.iadd, 1) := by decide +kernel
theorem dW_law_457 : decode code 457 = .ok (.iaload, 1) := by decide +kernel
theorem dW_law_458 : decode code 458 = .ok (.invokevirtual 57, 3) := by decide +kernel
theorem dW_law_461 : decode code 461 = .ok (.aload_n 2, 1) := by decide +kernel
theorem dW_law_462 : decode code 462 = .ok (.aload_n 0, 1) := by decide +kernel
theorem dW_law_463 : decode code 463 = .ok (.iload_n 3, 1) := by decide +kernel
theorem dW_law_464 : decode code 464 = .ok (.iconst 1, 1) := by decide +kernel
theorem dW_law_465 : decode code 465 = .ok (.iadd, 1) := by decide +kernel
theorem dW_law_466 : decode code 466 = .ok (.iaload, 1) := by decide +kernel
theorem dW_law_467 : decode code 467 = .ok (.invokevirtual 60, 3) := by decide +kernel
theorem dW_law_470 : decode code 470 = .ok (.if_icmp .eq 110, 3) := by decide +kernel
theorem dW_law_473 : decode code 473 = .ok (.iconst 0, 1) := by decide +kernel
theorem dW_law_474 : decode code 474 = .ok (.ireturn, 1) := by decide +kernel
theorem dW_law_475 : decode code 475 = .ok (.aload_n 1, 1) := by decide +kernel
theorem dW_law_476 : decode code 476 = .ok (.invokevirtual 61, 3) := by decide +kernel
theorem dW_law_479 : decode code 479 = .ok (.aload_n 2, 1) := by decide +kernel
theorem dW_law_480 : decode code 480 = .ok (.invokevirtual 65, 3) := by decide +kernel
theorem dW_law_483 : decode code 483 = .ok (.if_icmp .eq 97, 3) := by decide +kernel
theorem dW_law_486 : decode code 486 = .ok (.iconst 0, 1) := by decide +kernel
theorem dW_law_487 : decode code 487 = .ok (.ireturn, 1) := by decide +kernel
theorem dW_law_488 : decode code 488 = .ok (.aload_n 1, 1) := by decide +kernel
theorem dW_law_489 : decode code 489 = .ok (.aload_n 0, 1) := by decide +kernel
theorem dW_law_490 : decode code 490 = .ok (.iload_n 3, 1) := by decide +kernel
theorem dW_law_491 : decode code 491 = .ok (.iconst 1, 1) := by decide +kernel
theorem dW_law_492 : decode code 492 = .ok (.iadd, 1) := by decide +kernel
theorem dW_law_493 : decode code 493 = .ok (.iaload, 1) := by decide +kernel
theorem dW_law_494 : decode code 494 = .ok (.invokevirtual 66, 3) := by decide +kernel
theorem dW_law_497 : decode code 497 = .ok (.aload_n 2, 1) := by decide +kernel
theorem dW_law_498 : decode code 498 = .ok (.aload_n 0, 1) := by decide +kernel
theorem dW_law_499 : decode code 499 = .ok (.iload_n 3, 1) := by decide +kernel
theorem dW_law_500 : decode code 500 = .ok (.iconst 1, 1) := by decide +kernel
theorem dW_law_501 : decode code 501 = .ok (.iadd, 1) := by decide +kernel
theorem dW_law_502 : decode code 502 = .ok (.iaload, 1) := by decide +kernel
theorem dW_law_503 : decode code 503 = .ok (.invokevirtual 69, 3) := by decide +kernel
theorem dW_law_506 : decode code 506 = .ok (.if_icmp .eq 74, 3) := by decide +kernel
theorem dW_law_509 : decode code 509 = .ok (.iconst 0, 1) := by decide +kernel
theorem dW_law_510 : decode code 510 = .ok (.ireturn, 1) := by decide +kernel
theorem dW_law_511 : decode code 511 = .ok (.aload_n 1, 1) := by decide +kernel
theorem dW_law_512 : decode code 512 = .ok (.aload_n 0, 1) := by decide +kernel
theorem dW_law_513 : decode code 513 = .ok (.iload_n 3, 1) := by decide +kernel
theorem dW_law_514 : decode code 514 = .ok (.iconst 1, 1) := by decide +kernel
theorem dW_law_515 : decode code 515 = .ok (.iadd, 1) := by decide +kernel
theorem dW_law_516 : decode code 516 = .ok (.iaload, 1) := by decide +kernel
theorem dW_law_517 : decode code 517 = .ok (.invokevirtual 70, 3) := by decide +kernel
theorem dW_law_520 : decode code 520 = .ok (.aload_n 2, 1) := by decide +kernel
theorem dW_law_521 : decode code 521 = .ok (.aload_n 0, 1) := by decide +kernel
theorem dW_law_522 : decode code 522 = .ok (.iload_n 3, 1) := by decide +kernel
theorem dW_law_523 : decode code 523 = .ok (.iconst 1, 1) := by decide +kernel
theorem dW_law_524 : decode code 524 = .ok (.iadd, 1) := by decide +kernel
theorem dW_law_525 : decode code 525 = .ok (.iaload, 1) := by decide +kernel
theorem dW_law_526 : decode code 526 = .ok (.invokevirtual 73, 3) := by decide +kernel
theorem dW_law_529 : decode code 529 = .ok (.if_icmp .eq 51, 3) := by decide +kernel
theorem dW_law_532 : decode code 532 = .ok (.iconst 0, 1) := by decide +kernel
theorem dW_law_533 : decode code 533 = .ok (.ireturn, 1) := by decide +kernel
theorem dW_law_534 : decode code 534 = .ok (.aload_n 1, 1) := by decide +kernel
theorem dW_law_535 : decode code 535 = .ok (.aload_n 0, 1) := by decide +kernel
theorem dW_law_536 : decode code 536 = .ok (.iload_n 3, 1) := by decide +kernel
theorem dW_law_537 : decode code 537 = .ok (.iconst 1, 1) := by decide +kernel
theorem dW_law_538 : decode code 538 = .ok (.iadd, 1) := by decide +kernel
theorem dW_law_539 : decode code 539 = .ok (.iaload, 1) := by decide +kernel
theorem dW_law_540 : decode code 540 = .ok (.invokevirtual 74, 3) := by decide +kernel
theorem dW_law_543 : decode code 543 = .ok (.aload_n 2, 1) := by decide +kernel
theorem dW_law_544 : decode code 544 = .ok (.aload_n 0, 1) := by decide +kernel
theorem dW_law_545 : decode code 545 = .ok (.iload_n 3, 1) := by decide +kernel
theorem dW_law_546 : decode code 546 = .ok (.iconst 1, 1) := by decide +kernel
theorem dW_law_547 : decode code 547 = .ok (.iadd, 1) := by decide +kernel
theorem dW_law_548 : decode code 548 = .ok (.iaload, 1) := by decide +kernel
theorem dW_law_549 : decode code 549 = .ok (.invokevirtual 77, 3) := by decide +kernel
theorem dW_law_552 : decode code 552 = .ok (.if_icmp .eq 28, 3) := by decide +kernel
theorem dW_law_555 : decode code 555 = .ok (.iconst 0, 1) := by decide +kernel
theorem dW_law_556 : decode code 556 = .ok (.ireturn, 1) := by decide +kernel
theorem dW_law_557 : decode code 557 = .ok (.aload_n 1, 1) := by decide +kernel
theorem dW_law_558 : decode code 558 = .ok (.aload_n 0, 1) := by decide +kernel
theorem dW_law_559 : decode code 559 = .ok (.iload_n 3, 1) := by decide +kernel
theorem dW_law_560 : decode code 560 = .ok (.iconst 1, 1) := by decide +kernel
theorem dW_law_561 : decode code 561 = .ok (.iadd, 1) := by decide +kernel
theorem dW_law_562 : decode code 562 = .ok (.iaload, 1) := by decide +kernel
theorem dW_law_563 : decode code 563 = .ok (.invokevirtual 78, 3) := by decide +kernel
theorem dW_law_566 : decode code 566 = .ok (.aload_n 2, 1) := by decide +kernel
theorem dW_law_567 : decode code 567 = .ok (.aload_n 0, 1) := by decide +kernel
theorem dW_law_568 : decode code 568 = .ok (.iload_n 3, 1) := by decide +kernel
theorem dW_law_569 : decode code 569 = .ok (.iconst 1, 1) := by decide +kernel
theorem dW_law_570 : decode code 570 = .ok (.iadd, 1) := by decide +kernel
theorem dW_law_571 : decode code 571 = .ok (.iaload, 1) := by decide +kernel
theorem dW_law_572 : decode code 572 = .ok (.invokevirtual 81, 3) := by decide +kernel
theorem dW_law_575 : decode code 575 = .ok (.if_icmp .eq 5, 3) := by decide +kernel
theorem dW_law_578 : decode code 578 = .ok (.iconst 0, 1) := by decide +kernel
theorem dW_law_579 : decode code 579 = .ok (.ireturn, 1) := by decide +kernel
theorem dW_law_580 : decode code 580 = .ok (.iinc 3 5, 3) := by decide +kernel
theorem dW_law_583 : decode code 583 = .ok (.goto (-565), 3) := by decide +kernel
theorem dW_law_586 : decode code 586 = .ok (.iconst 1, 1) := by decide +kernel
theorem dW_law_587 : decode code 587 = .ok (.ireturn, 1) := by decide +kernel
section SLW
variable {p : Program} {l : Launch} {e : Env} {R : Room} {s : State} {m : MethodId} {args : Array Value} {below : List Frame} {meth : Method} {c : Code} {cc : ByteArray} {nL : Nat} {own : String} {A : Nat → Prop} {D : va_G} {tys : List (ClassId × FieldType)} {Q : State → Prop} {w w' : va_W} {lv lv' : List (Nat × Value)} {pc : Nat} {st : List Value} {ck sl : Nat}
theorem sn_sld (C : SC p s m args c cc nL own A D tys) {b L : Nat} {xs : Nat → Int32} (hX : va_X b L xs s s.heap) (hbl : b < s.heap.size) (hbA : ¬ A b) {i : Int32} (hin : ¬ (i < 0 ∨ L ≤ i.toNatClampNeg)) (hd : decode cc pc = .ok (.iaload, 1)) (k : SN p l e R s m args below meth c A D nL Q ck sl w lv (pc + 1) (.int (xs i.toNatClampNeg) :: st)) : SN p l e R s m args below meth c A D nL Q ck sl w lv pc (.int i :: .ref b :: st) := fun H locs ls hP hD hS hl => va_sld C.1 C.2.1 hX hbl hbA hS hin hd (k H locs ls hP hD hS hl)
theorem sn_slen (C : SC p s m args c cc nL own A D tys) {b L : Nat} {xs : Nat → Int32} (hX : va_X b L xs s s.heap) (hbl : b < s.heap.size) (hbA : ¬ A b) (hd : decode cc pc = .ok (.arraylength, 1)) (k : SN p l e R s m args below meth c A D nL Q ck sl w lv (pc + 1) (.int (Int32.ofNat L) :: st)) : SN p l e R s m args below meth c A D nL Q ck sl w lv pc (.ref b :: st) := fun H locs ls hP hD hS hl => va_slen C.1 C.2.1 hX hbl hbA hS hd (k H locs ls hP hD hS hl)
theorem sn_astore_n (C : SC p s m args c cc nL own A D tys) {f : Fin 4} {i x : Nat} (hd : decode cc pc = .ok (.astore_n f, 1)) (hi : (f : Nat) = i) (hn : i < nL) (hl' : (i, Value.ref x) :: lv.filter (fun q => !(q.1 == i) && !(q.1 + 1 == i && q.2.category == 2)) = lv') (k : SN p l e R s m args below meth c A D nL Q ck sl w lv' (pc + 1) st) : SN p l e R s m args below meth c A D nL Q ck sl w lv pc (.ref x :: st) := fun H locs ls hP hD hS hl => lv_astore_n C.1 C.2.1 hd hi hl hn hl' (fun ls' h' => k H locs ls' hP hD hS h')
end SLW
theorem law_in {a L : Nat} (ha : a + 5 ≤ L) (hL : L ≤ 2560) (k : Nat) (hk : k < 5) {x : Int32} (hx : nI k = x) : ¬ (nI a + x < 0 ∨ L ≤ (nI a + x).toNatClampNeg) := by
  subst hx
  rw [nI_add]
  exact vp_in_nI (by omega) (by omega)
theorem law_ge {a L : Nat} (hL : L ≤ 2560) (ha : a ≤ L + 5) (h : ¬ Int32.ofNat L - 5 < nI a) : a + 5 ≤ L := by
  have e5 : (5 : Int32) = nI 5 := by decide +kernel
  have h1 : (Int32.ofNat L - 5).toInt = (L : Int) - 5 := by
    rw [e5]
    exact pk_sub_toInt (a := L) (b := 5) (by omega) (by omega)
  have h2 : (nI a).toInt = (a : Int) := nI_toInt (by omega)
  rw [Int32.lt_iff_toInt_lt, h1, h2] at h
  omega
