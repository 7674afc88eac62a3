theorem cw_oi : Cond.instanceMethod objectInit ∈ tblG := tblG_at 142 (by decide +kernel) (by decide +kernel)

theorem cw_oc : Cond.code objectInit ⟨#[0xb1]⟩ 1 none ∈ tblG := tblG_at 143 (by decide +kernel) (by decide +kernel)

theorem cw_o_X10_3 : Cond.methodLink RX10 3 objectInit ∈ tblG := tblG_at 149 (by decide +kernel) (by decide +kernel)

theorem cw_a_int : Cond.arrayClass FieldType.int ∈ tblG := tblG_at 224 (by decide +kernel) (by decide +kernel)

theorem cw_f_X10_9 : Cond.fieldLink RX10 9 RX10 "from" "[I" ∈ tblG := tblG_at 150 (by decide +kernel) (by decide +kernel)

theorem cw_f_X10_15 : Cond.fieldLink RX10 15 RX10 "to" "[I" ∈ tblG := tblG_at 154 (by decide +kernel) (by decide +kernel)

theorem cw_f_X10_18 : Cond.fieldLink RX10 18 RX10 "length" "[I" ∈ tblG := tblG_at 158 (by decide +kernel) (by decide +kernel)

theorem cw_f_X10_21 : Cond.fieldLink RX10 21 RX10 "first" "[I" ∈ tblG := tblG_at 163 (by decide +kernel) (by decide +kernel)

theorem cw_f_X10_24 : Cond.fieldLink RX10 24 RX10 "mouth" "[I" ∈ tblG := tblG_at 167 (by decide +kernel) (by decide +kernel)

theorem cw_f_X10_27 : Cond.fieldLink RX10 27 RX10 "saidGoer" "[I" ∈ tblG := tblG_at 171 (by decide +kernel) (by decide +kernel)

theorem cw_f_X10_30 : Cond.fieldLink RX10 30 RX10 "saidRoad" "[I" ∈ tblG := tblG_at 173 (by decide +kernel) (by decide +kernel)

theorem cw_f_X10_33 : Cond.fieldLink RX10 33 RX10 "saidSucks" "[I" ∈ tblG := tblG_at 175 (by decide +kernel) (by decide +kernel)

theorem cw_f_X10_36 : Cond.fieldLink RX10 36 RX10 "roads" "I" ∈ tblG := tblG_at 177 (by decide +kernel) (by decide +kernel)

theorem cw_f_X10_40 : Cond.fieldLink RX10 40 RX10 "goers" "I" ∈ tblG := tblG_at 182 (by decide +kernel) (by decide +kernel)

theorem cw_f_X10_43 : Cond.fieldLink RX10 43 RX10 "texts" "I" ∈ tblG := tblG_at 187 (by decide +kernel) (by decide +kernel)

theorem cw_f_X10_46 : Cond.fieldLink RX10 46 RX10 "saids" "I" ∈ tblG := tblG_at 189 (by decide +kernel) (by decide +kernel)

theorem cw_f_X10_49 : Cond.fieldLink RX10 49 RX10 "ruling" "I" ∈ tblG := tblG_at 192 (by decide +kernel) (by decide +kernel)

theorem cw_o_X6_5 : Cond.methodLink RX6 5 objectInit ∈ tblG := tblG_at 230 (by decide +kernel) (by decide +kernel)

theorem cw_f_X6_11 : Cond.fieldLink RX6 11 RX6 "thick" "[I" ∈ tblG := tblG_at 231 (by decide +kernel) (by decide +kernel)

theorem cw_f_X6_15 : Cond.fieldLink RX6 15 RX6 "place" "[I" ∈ tblG := tblG_at 237 (by decide +kernel) (by decide +kernel)

theorem cw_f_X6_18 : Cond.fieldLink RX6 18 RX6 "went" "[I" ∈ tblG := tblG_at 240 (by decide +kernel) (by decide +kernel)

theorem cw_f_X6_21 : Cond.fieldLink RX6 21 RX6 "book" "[I" ∈ tblG := tblG_at 244 (by decide +kernel) (by decide +kernel)

theorem cw_f_X6_24 : Cond.fieldLink RX6 24 RX6 "goings" "I" ∈ tblG := tblG_at 245 (by decide +kernel) (by decide +kernel)

theorem cw_f_X6_28 : Cond.fieldLink RX6 28 RX6 "coil" "I" ∈ tblG := tblG_at 247 (by decide +kernel) (by decide +kernel)

theorem cw_f_X6_31 : Cond.fieldLink RX6 31 RX6 "rain" "I" ∈ tblG := tblG_at 250 (by decide +kernel) (by decide +kernel)

theorem cw_f_X6_34 : Cond.fieldLink RX6 34 RX6 "day" "I" ∈ tblG := tblG_at 254 (by decide +kernel) (by decide +kernel)

theorem cw_f_X6_37 : Cond.fieldLink RX6 37 RX6 "x" "I" ∈ tblG := tblG_at 258 (by decide +kernel) (by decide +kernel)

theorem cw_o_X7_1 : Cond.methodLink RX7 1 objectInit ∈ tblG := tblG_at 285 (by decide +kernel) (by decide +kernel)

theorem cw_f_X7_11 : Cond.fieldLink RX7 11 RX7 "rows" "[I" ∈ tblG := tblG_at 286 (by decide +kernel) (by decide +kernel)

theorem cw_f_X7_15 : Cond.fieldLink RX7 15 RX7 "next" "I" ∈ tblG := tblG_at 287 (by decide +kernel) (by decide +kernel)

theorem cw_f_X7_19 : Cond.fieldLink RX7 19 RX7 "count" "I" ∈ tblG := tblG_at 288 (by decide +kernel) (by decide +kernel)

theorem cw_o_X8_3 : Cond.methodLink RX8 3 objectInit ∈ tblG := tblG_at 304 (by decide +kernel) (by decide +kernel)

theorem cw_f_X8_9 : Cond.fieldLink RX8 9 RX8 "bytes" "[I" ∈ tblG := tblG_at 305 (by decide +kernel) (by decide +kernel)

theorem cw_f_X8_15 : Cond.fieldLink RX8 15 RX8 "length" "I" ∈ tblG := tblG_at 306 (by decide +kernel) (by decide +kernel)

theorem cw_f_X8_19 : Cond.fieldLink RX8 19 RX8 "kinds" "[I" ∈ tblG := tblG_at 308 (by decide +kernel) (by decide +kernel)

theorem cw_f_X8_22 : Cond.fieldLink RX8 22 RX8 "starts" "[I" ∈ tblG := tblG_at 309 (by decide +kernel) (by decide +kernel)

theorem cw_f_X8_25 : Cond.fieldLink RX8 25 RX8 "numbers" "[I" ∈ tblG := tblG_at 310 (by decide +kernel) (by decide +kernel)

theorem cw_f_X8_28 : Cond.fieldLink RX8 28 RX8 "count" "I" ∈ tblG := tblG_at 311 (by decide +kernel) (by decide +kernel)

theorem cw_o_X5_3 : Cond.methodLink RX5 3 objectInit ∈ tblG := tblG_at 330 (by decide +kernel) (by decide +kernel)

theorem cw_f_X5_9 : Cond.fieldLink RX5 9 RX5 "text" "LLiquoriceRoads$Text;" ∈ tblG := tblG_at 332 (by decide +kernel) (by decide +kernel)

theorem cw_f_X5_15 : Cond.fieldLink RX5 15 RX5 "at" "I" ∈ tblG := tblG_at 333 (by decide +kernel) (by decide +kernel)

theorem cw_f_X5_19 : Cond.fieldLink RX5 19 RX5 "law" "I" ∈ tblG := tblG_at 334 (by decide +kernel) (by decide +kernel)

theorem cw_f_X5_22 : Cond.fieldLink RX5 22 RX5 "fault" "I" ∈ tblG := tblG_at 335 (by decide +kernel) (by decide +kernel)

theorem cw_f_X5_25 : Cond.fieldLink RX5 25 RX5 "place" "I" ∈ tblG := tblG_at 337 (by decide +kernel) (by decide +kernel)

theorem cw_f_X5_28 : Cond.fieldLink RX5 28 RX5 "tape" "LLiquoriceRoads$Tape;" ∈ tblG := tblG_at 331 (by decide +kernel) (by decide +kernel)

theorem cw_o_X2_3 : Cond.methodLink RX2 3 objectInit ∈ tblG := tblG_at 357 (by decide +kernel) (by decide +kernel)

theorem cw_f_X2_11 : Cond.fieldLink RX2 11 RX2 "stack" "[I" ∈ tblG := tblG_at 361 (by decide +kernel) (by decide +kernel)

theorem cw_f_X2_15 : Cond.fieldLink RX2 15 RX2 "told" "LLiquoriceRoads$Told;" ∈ tblG := tblG_at 358 (by decide +kernel) (by decide +kernel)

theorem cw_f_X2_19 : Cond.fieldLink RX2 19 RX2 "now" "LLiquoriceRoads$State;" ∈ tblG := tblG_at 359 (by decide +kernel) (by decide +kernel)

theorem cw_f_X2_23 : Cond.fieldLink RX2 23 RX2 "texts" "[LLiquoriceRoads$Text;" ∈ tblG := tblG_at 360 (by decide +kernel) (by decide +kernel)

theorem cw_o_X0_3 : Cond.methodLink RX0 3 objectInit ∈ tblG := tblG_at 376 (by decide +kernel) (by decide +kernel)

theorem cw_f_X0_11 : Cond.fieldLink RX0 11 RX0 "kept" "[I" ∈ tblG := tblG_at 381 (by decide +kernel) (by decide +kernel)

theorem cw_f_X0_17 : Cond.fieldLink RX0 17 RX0 "told" "LLiquoriceRoads$Told;" ∈ tblG := tblG_at 377 (by decide +kernel) (by decide +kernel)

theorem cw_f_X0_21 : Cond.fieldLink RX0 21 RX0 "now" "LLiquoriceRoads$State;" ∈ tblG := tblG_at 378 (by decide +kernel) (by decide +kernel)

theorem cw_f_X0_25 : Cond.fieldLink RX0 25 RX0 "steps" "LLiquoriceRoads$Steps;" ∈ tblG := tblG_at 379 (by decide +kernel) (by decide +kernel)

theorem cw_f_X0_29 : Cond.fieldLink RX0 29 RX0 "laws" "LLiquoriceRoads$Laws;" ∈ tblG := tblG_at 380 (by decide +kernel) (by decide +kernel)

theorem cw_o_X4_3 : Cond.methodLink RX4 3 objectInit ∈ tblG := tblG_at 398 (by decide +kernel) (by decide +kernel)

theorem cw_f_X4_9 : Cond.fieldLink RX4 9 RX4 "miles" "[I" ∈ tblG := tblG_at 401 (by decide +kernel) (by decide +kernel)

theorem cw_f_X4_15 : Cond.fieldLink RX4 15 RX4 "pairMiles" "[I" ∈ tblG := tblG_at 402 (by decide +kernel) (by decide +kernel)

theorem cw_f_X4_18 : Cond.fieldLink RX4 18 RX4 "widths" "[I" ∈ tblG := tblG_at 403 (by decide +kernel) (by decide +kernel)

theorem cw_f_X4_21 : Cond.fieldLink RX4 21 RX4 "groups" "[I" ∈ tblG := tblG_at 404 (by decide +kernel) (by decide +kernel)

theorem cw_f_X4_24 : Cond.fieldLink RX4 24 RX4 "near" "[I" ∈ tblG := tblG_at 405 (by decide +kernel) (by decide +kernel)

theorem cw_f_X4_27 : Cond.fieldLink RX4 27 RX4 "least" "[I" ∈ tblG := tblG_at 406 (by decide +kernel) (by decide +kernel)

theorem cw_a_long : Cond.arrayClass FieldType.long ∈ tblG := tblG_at 430 (by decide +kernel) (by decide +kernel)

theorem cw_f_X4_30 : Cond.fieldLink RX4 30 RX4 "chances" "[J" ∈ tblG := tblG_at 407 (by decide +kernel) (by decide +kernel)

theorem cw_f_X4_34 : Cond.fieldLink RX4 34 RX4 "nextChances" "[J" ∈ tblG := tblG_at 408 (by decide +kernel) (by decide +kernel)

theorem cw_f_X4_37 : Cond.fieldLink RX4 37 RX4 "told" "LLiquoriceRoads$Told;" ∈ tblG := tblG_at 399 (by decide +kernel) (by decide +kernel)

theorem cw_f_X4_41 : Cond.fieldLink RX4 41 RX4 "now" "LLiquoriceRoads$State;" ∈ tblG := tblG_at 400 (by decide +kernel) (by decide +kernel)

theorem cw_o_X3_3 : Cond.methodLink RX3 3 objectInit ∈ tblG := tblG_at 436 (by decide +kernel) (by decide +kernel)

theorem cw_f_X3_11 : Cond.fieldLink RX3 11 RX3 "known" "[I" ∈ tblG := tblG_at 440 (by decide +kernel) (by decide +kernel)

theorem cw_f_X3_15 : Cond.fieldLink RX3 15 RX3 "order" "[I" ∈ tblG := tblG_at 441 (by decide +kernel) (by decide +kernel)

theorem cw_f_X3_18 : Cond.fieldLink RX3 18 RX3 "largest" "[I" ∈ tblG := tblG_at 442 (by decide +kernel) (by decide +kernel)

theorem cw_f_X3_21 : Cond.fieldLink RX3 21 RX3 "most" "I" ∈ tblG := tblG_at 444 (by decide +kernel) (by decide +kernel)

theorem cw_f_X3_25 : Cond.fieldLink RX3 25 RX3 "ways" "[J" ∈ tblG := tblG_at 445 (by decide +kernel) (by decide +kernel)

theorem cw_f_X3_29 : Cond.fieldLink RX3 29 RX3 "told" "LLiquoriceRoads$Told;" ∈ tblG := tblG_at 437 (by decide +kernel) (by decide +kernel)

theorem cw_f_X3_33 : Cond.fieldLink RX3 33 RX3 "now" "LLiquoriceRoads$State;" ∈ tblG := tblG_at 438 (by decide +kernel) (by decide +kernel)

theorem cw_f_X3_37 : Cond.fieldLink RX3 37 RX3 "laws" "LLiquoriceRoads$Laws;" ∈ tblG := tblG_at 439 (by decide +kernel) (by decide +kernel)

theorem cw_o_X9_3 : Cond.methodLink RX9 3 objectInit ∈ tblG := tblG_at 467 (by decide +kernel) (by decide +kernel)

theorem cw_f_X9_9 : Cond.fieldLink RX9 9 RX9 "codes" "[I" ∈ tblG := tblG_at 468 (by decide +kernel) (by decide +kernel)

theorem cw_f_X9_15 : Cond.fieldLink RX9 15 RX9 "operands" "[I" ∈ tblG := tblG_at 470 (by decide +kernel) (by decide +kernel)

theorem cw_f_X9_18 : Cond.fieldLink RX9 18 RX9 "size" "I" ∈ tblG := tblG_at 472 (by decide +kernel) (by decide +kernel)

theorem cw_f_X9_22 : Cond.fieldLink RX9 22 RX9 "sucksFrom" "I" ∈ tblG := tblG_at 474 (by decide +kernel) (by decide +kernel)

theorem cw_f_X9_25 : Cond.fieldLink RX9 25 RX9 "sucksTo" "I" ∈ tblG := tblG_at 476 (by decide +kernel) (by decide +kernel)

theorem cw_f_X9_28 : Cond.fieldLink RX9 28 RX9 "swellsFrom" "I" ∈ tblG := tblG_at 478 (by decide +kernel) (by decide +kernel)

theorem cw_f_X9_31 : Cond.fieldLink RX9 31 RX9 "swellsTo" "I" ∈ tblG := tblG_at 480 (by decide +kernel) (by decide +kernel)

theorem cw_f_X9_34 : Cond.fieldLink RX9 34 RX9 "kinds" "[I" ∈ tblG := tblG_at 482 (by decide +kernel) (by decide +kernel)

theorem cw_f_X9_37 : Cond.fieldLink RX9 37 RX9 "numbers" "[I" ∈ tblG := tblG_at 483 (by decide +kernel) (by decide +kernel)

theorem cw_f_X9_40 : Cond.fieldLink RX9 40 RX9 "clauses" "I" ∈ tblG := tblG_at 484 (by decide +kernel) (by decide +kernel)

theorem cw_o_X11_1 : Cond.methodLink RX11 1 objectInit ∈ tblG := tblG_at 141 (by decide +kernel) (by decide +kernel)

theorem cw_c_X11_7 : Cond.classLink RX11 7 RX10 ∈ tblG := tblG_at 144 (by decide +kernel) (by decide +kernel)

theorem cw_n_X10 : Cond.instantiable RX10 13 ∈ tblG := tblG_at 145 (by decide +kernel) (by decide +kernel)

theorem cw_i_X10 : Cond.initialized RX10 ∈ tblG := tblG_at 115 (by decide +kernel) (by decide +kernel)

theorem cfi_X11_9 : CFin 9 yX10_init cX10_init 1 0 := ⟨⟨tblG_at 115 (by decide +kernel) (by decide +kernel), tblG_at 148 (by decide +kernel) (by decide +kernel), ⟨by decide, by decide⟩, by decide +kernel, by decide⟩, by simp [nestI], tblG_at 147 (by decide +kernel) (by decide +kernel), rfl⟩

theorem cw_f_X11_10 : Cond.fieldLink RX11 10 RX11 "told" "LLiquoriceRoads$Told;" ∈ tblG := tblG_at 515 (by decide +kernel) (by decide +kernel)

theorem cw_c_X11_16 : Cond.classLink RX11 16 RX6 ∈ tblG := tblG_at 225 (by decide +kernel) (by decide +kernel)

theorem cw_n_X6 : Cond.instantiable RX6 9 ∈ tblG := tblG_at 226 (by decide +kernel) (by decide +kernel)

theorem cw_i_X6 : Cond.initialized RX6 ∈ tblG := tblG_at 116 (by decide +kernel) (by decide +kernel)

theorem cfi_X11_18 : CFin 18 yX6_init cX6_init 1 0 := ⟨⟨tblG_at 116 (by decide +kernel) (by decide +kernel), tblG_at 229 (by decide +kernel) (by decide +kernel), ⟨by decide, by decide⟩, by decide +kernel, by decide⟩, by simp [nestI], tblG_at 228 (by decide +kernel) (by decide +kernel), rfl⟩

theorem cw_f_X11_19 : Cond.fieldLink RX11 19 RX11 "now" "LLiquoriceRoads$State;" ∈ tblG := tblG_at 516 (by decide +kernel) (by decide +kernel)

theorem cw_c_X11_23 : Cond.classLink RX11 23 RX7 ∈ tblG := tblG_at 280 (by decide +kernel) (by decide +kernel)

theorem cw_n_X7 : Cond.instantiable RX7 3 ∈ tblG := tblG_at 281 (by decide +kernel) (by decide +kernel)

theorem cw_i_X7 : Cond.initialized RX7 ∈ tblG := tblG_at 117 (by decide +kernel) (by decide +kernel)

theorem cfi_X11_25 : CFin 25 yX7_init cX7_init 1 0 := ⟨⟨tblG_at 117 (by decide +kernel) (by decide +kernel), tblG_at 284 (by decide +kernel) (by decide +kernel), ⟨by decide, by decide⟩, by decide +kernel, by decide⟩, by simp [nestI], tblG_at 283 (by decide +kernel) (by decide +kernel), rfl⟩

theorem cw_f_X11_26 : Cond.fieldLink RX11 26 RX11 "steps" "LLiquoriceRoads$Steps;" ∈ tblG := tblG_at 517 (by decide +kernel) (by decide +kernel)

theorem cw_f_X11_30 : Cond.fieldLink RX11 30 RX11 "imageTold" "LLiquoriceRoads$Told;" ∈ tblG := tblG_at 518 (by decide +kernel) (by decide +kernel)

theorem cw_f_X11_33 : Cond.fieldLink RX11 33 RX11 "imageState" "[I" ∈ tblG := tblG_at 519 (by decide +kernel) (by decide +kernel)

theorem cw_f_X11_37 : Cond.fieldLink RX11 37 RX11 "imageSteps" "LLiquoriceRoads$Steps;" ∈ tblG := tblG_at 520 (by decide +kernel) (by decide +kernel)

theorem cw_c_X11_40 : Cond.classLink RX11 40 RX9 ∈ tblG := tblG_at 297 (by decide +kernel) (by decide +kernel)

theorem cw_f_X11_42 : Cond.fieldLink RX11 42 RX11 "texts" "[LLiquoriceRoads$Text;" ∈ tblG := tblG_at 521 (by decide +kernel) (by decide +kernel)

theorem cw_c_X11_46 : Cond.classLink RX11 46 RX8 ∈ tblG := tblG_at 299 (by decide +kernel) (by decide +kernel)

theorem cw_n_X8 : Cond.instantiable RX8 6 ∈ tblG := tblG_at 300 (by decide +kernel) (by decide +kernel)

theorem cw_i_X8 : Cond.initialized RX8 ∈ tblG := tblG_at 118 (by decide +kernel) (by decide +kernel)

theorem cfi_X11_48 : CFin 48 yX8_init cX8_init 1 0 := ⟨⟨tblG_at 118 (by decide +kernel) (by decide +kernel), tblG_at 303 (by decide +kernel) (by decide +kernel), ⟨by decide, by decide⟩, by decide +kernel, by decide⟩, by simp [nestI], tblG_at 302 (by decide +kernel) (by decide +kernel), rfl⟩

theorem cw_f_X11_49 : Cond.fieldLink RX11 49 RX11 "tape" "LLiquoriceRoads$Tape;" ∈ tblG := tblG_at 522 (by decide +kernel) (by decide +kernel)

theorem cw_c_X11_53 : Cond.classLink RX11 53 RX5 ∈ tblG := tblG_at 325 (by decide +kernel) (by decide +kernel)

theorem cw_n_X5 : Cond.instantiable RX5 6 ∈ tblG := tblG_at 326 (by decide +kernel) (by decide +kernel)

theorem cw_i_X5 : Cond.initialized RX5 ∈ tblG := tblG_at 119 (by decide +kernel) (by decide +kernel)

theorem cfi_X11_55 : CFi RX11 55 yX5_init cX5_init 2 1 := ⟨⟨tblG_at 119 (by decide +kernel) (by decide +kernel), tblG_at 329 (by decide +kernel) (by decide +kernel), ⟨by decide, by decide⟩, by decide +kernel, by decide⟩, tblG_at 327 (by decide +kernel) (by decide +kernel), tblG_at 328 (by decide +kernel) (by decide +kernel), rfl⟩

theorem cw_f_X11_58 : Cond.fieldLink RX11 58 RX11 "reader" "LLiquoriceRoads$Reader;" ∈ tblG := tblG_at 523 (by decide +kernel) (by decide +kernel)

theorem cw_c_X11_62 : Cond.classLink RX11 62 RX2 ∈ tblG := tblG_at 352 (by decide +kernel) (by decide +kernel)

theorem cw_n_X2 : Cond.instantiable RX2 4 ∈ tblG := tblG_at 353 (by decide +kernel) (by decide +kernel)

theorem cw_i_X2 : Cond.initialized RX2 ∈ tblG := tblG_at 120 (by decide +kernel) (by decide +kernel)

theorem cfi_X11_64 : CFi RX11 64 yX2_init cX2_init 4 3 := ⟨⟨tblG_at 120 (by decide +kernel) (by decide +kernel), tblG_at 356 (by decide +kernel) (by decide +kernel), ⟨by decide, by decide⟩, by decide +kernel, by decide⟩, tblG_at 354 (by decide +kernel) (by decide +kernel), tblG_at 355 (by decide +kernel) (by decide +kernel), rfl⟩

theorem cw_f_X11_67 : Cond.fieldLink RX11 67 RX11 "laws" "LLiquoriceRoads$Laws;" ∈ tblG := tblG_at 524 (by decide +kernel) (by decide +kernel)

theorem cw_c_X11_71 : Cond.classLink RX11 71 RX0 ∈ tblG := tblG_at 371 (by decide +kernel) (by decide +kernel)

theorem cw_n_X0 : Cond.instantiable RX0 5 ∈ tblG := tblG_at 372 (by decide +kernel) (by decide +kernel)

theorem cw_i_X0 : Cond.initialized RX0 ∈ tblG := tblG_at 121 (by decide +kernel) (by decide +kernel)

theorem cfi_X11_73 : CFi RX11 73 yX0_init cX0_init 5 4 := ⟨⟨tblG_at 121 (by decide +kernel) (by decide +kernel), tblG_at 375 (by decide +kernel) (by decide +kernel), ⟨by decide, by decide⟩, by decide +kernel, by decide⟩, tblG_at 373 (by decide +kernel) (by decide +kernel), tblG_at 374 (by decide +kernel) (by decide +kernel), rfl⟩

theorem cw_f_X11_76 : Cond.fieldLink RX11 76 RX11 "deeds" "LLiquoriceRoads$Deeds;" ∈ tblG := tblG_at 525 (by decide +kernel) (by decide +kernel)

theorem cw_c_X11_80 : Cond.classLink RX11 80 RX4 ∈ tblG := tblG_at 393 (by decide +kernel) (by decide +kernel)

theorem cw_n_X4 : Cond.instantiable RX4 10 ∈ tblG := tblG_at 394 (by decide +kernel) (by decide +kernel)

theorem cw_i_X4 : Cond.initialized RX4 ∈ tblG := tblG_at 122 (by decide +kernel) (by decide +kernel)

theorem cfi_X11_82 : CFi RX11 82 yX4_init cX4_init 3 2 := ⟨⟨tblG_at 122 (by decide +kernel) (by decide +kernel), tblG_at 397 (by decide +kernel) (by decide +kernel), ⟨by decide, by decide⟩, by decide +kernel, by decide⟩, tblG_at 395 (by decide +kernel) (by decide +kernel), tblG_at 396 (by decide +kernel) (by decide +kernel), rfl⟩

theorem cw_f_X11_85 : Cond.fieldLink RX11 85 RX11 "net" "LLiquoriceRoads$Net;" ∈ tblG := tblG_at 526 (by decide +kernel) (by decide +kernel)

theorem cw_c_X11_89 : Cond.classLink RX11 89 RX3 ∈ tblG := tblG_at 431 (by decide +kernel) (by decide +kernel)

theorem cw_n_X3 : Cond.instantiable RX3 8 ∈ tblG := tblG_at 432 (by decide +kernel) (by decide +kernel)

theorem cw_i_X3 : Cond.initialized RX3 ∈ tblG := tblG_at 123 (by decide +kernel) (by decide +kernel)

theorem cfi_X11_91 : CFi RX11 91 yX3_init cX3_init 4 3 := ⟨⟨tblG_at 123 (by decide +kernel) (by decide +kernel), tblG_at 435 (by decide +kernel) (by decide +kernel), ⟨by decide, by decide⟩, by decide +kernel, by decide⟩, tblG_at 433 (by decide +kernel) (by decide +kernel), tblG_at 434 (by decide +kernel) (by decide +kernel), rfl⟩

theorem cw_f_X11_94 : Cond.fieldLink RX11 94 RX11 "mouths" "LLiquoriceRoads$Mouths;" ∈ tblG := tblG_at 527 (by decide +kernel) (by decide +kernel)

theorem cw_n_X9 : Cond.instantiable RX9 10 ∈ tblG := tblG_at 463 (by decide +kernel) (by decide +kernel)

theorem cw_i_X9 : Cond.initialized RX9 ∈ tblG := tblG_at 124 (by decide +kernel) (by decide +kernel)

theorem cfi_X11_98 : CFin 98 yX9_init cX9_init 1 0 := ⟨⟨tblG_at 124 (by decide +kernel) (by decide +kernel), tblG_at 466 (by decide +kernel) (by decide +kernel), ⟨by decide, by decide⟩, by decide +kernel, by decide⟩, by simp [nestI], tblG_at 465 (by decide +kernel) (by decide +kernel), rfl⟩

theorem cw_o_X12_1 : Cond.methodLink RX12 1 objectInit ∈ tblG := tblG_at 1404 (by decide +kernel) (by decide +kernel)

theorem cw_f_X12_7 : Cond.fieldLink RX12 7 RX12 "a" "[I" ∈ tblG := tblG_at 1408 (by decide +kernel) (by decide +kernel)

theorem cw_f_X12_13 : Cond.fieldLink RX12 13 RX12 "image" "[I" ∈ tblG := tblG_at 1409 (by decide +kernel) (by decide +kernel)

theorem cw_f_X12_16 : Cond.fieldLink RX12 16 RX12 "texts" "[I" ∈ tblG := tblG_at 1410 (by decide +kernel) (by decide +kernel)

theorem cw_f_X12_19 : Cond.fieldLink RX12 19 RX12 "tape" "[I" ∈ tblG := tblG_at 1411 (by decide +kernel) (by decide +kernel)

theorem cw_f_X12_22 : Cond.fieldLink RX12 22 RX12 "fault" "I" ∈ tblG := tblG_at 1413 (by decide +kernel) (by decide +kernel)

theorem cw_f_X12_26 : Cond.fieldLink RX12 26 RX12 "faultPlace" "I" ∈ tblG := tblG_at 1414 (by decide +kernel) (by decide +kernel)

theorem cw_f_X12_29 : Cond.fieldLink RX12 29 RX12 "pile" "[I" ∈ tblG := tblG_at 1423 (by decide +kernel) (by decide +kernel)

theorem cw_f_X12_32 : Cond.fieldLink RX12 32 RX12 "named" "[I" ∈ tblG := tblG_at 1428 (by decide +kernel) (by decide +kernel)

theorem cw_f_X12_35 : Cond.fieldLink RX12 35 RX12 "values" "[J" ∈ tblG := tblG_at 1429 (by decide +kernel) (by decide +kernel)

theorem cw_f_X12_39 : Cond.fieldLink RX12 39 RX12 "truth" "[Z" ∈ tblG := tblG_at 1430 (by decide +kernel) (by decide +kernel)

theorem cw_f_X12_43 : Cond.fieldLink RX12 43 RX12 "isWritten" "Z" ∈ tblG := tblG_at 1431 (by decide +kernel) (by decide +kernel)

theorem cw_f_X12_47 : Cond.fieldLink RX12 47 RX12 "aside" "[I" ∈ tblG := tblG_at 1433 (by decide +kernel) (by decide +kernel)

theorem cw_f_X12_50 : Cond.fieldLink RX12 50 RX12 "far" "[I" ∈ tblG := tblG_at 1434 (by decide +kernel) (by decide +kernel)

theorem cw_f_X12_53 : Cond.fieldLink RX12 53 RX12 "paired" "[I" ∈ tblG := tblG_at 1435 (by decide +kernel) (by decide +kernel)

theorem cw_f_X12_56 : Cond.fieldLink RX12 56 RX12 "between" "[I" ∈ tblG := tblG_at 1436 (by decide +kernel) (by decide +kernel)

theorem cw_f_X12_59 : Cond.fieldLink RX12 59 RX12 "coloured" "[I" ∈ tblG := tblG_at 1437 (by decide +kernel) (by decide +kernel)

theorem cw_f_X12_62 : Cond.fieldLink RX12 62 RX12 "row" "[I" ∈ tblG := tblG_at 1438 (by decide +kernel) (by decide +kernel)

theorem cw_f_X12_65 : Cond.fieldLink RX12 65 RX12 "bestRow" "[I" ∈ tblG := tblG_at 1439 (by decide +kernel) (by decide +kernel)

theorem cw_f_X12_68 : Cond.fieldLink RX12 68 RX12 "thickBy" "[I" ∈ tblG := tblG_at 1440 (by decide +kernel) (by decide +kernel)

theorem cw_f_X12_71 : Cond.fieldLink RX12 71 RX12 "here" "[J" ∈ tblG := tblG_at 1441 (by decide +kernel) (by decide +kernel)

theorem cw_f_X12_74 : Cond.fieldLink RX12 74 RX12 "next" "[J" ∈ tblG := tblG_at 1442 (by decide +kernel) (by decide +kernel)

theorem cw_a_boolean : Cond.arrayClass FieldType.boolean ∈ tblG := tblG_at 1514 (by decide +kernel) (by decide +kernel)

theorem cw_c_L_7 : Cond.classLink RL 7 RX11 ∈ tblG := tblG_at 136 (by decide +kernel) (by decide +kernel)

theorem cw_n_X11 : Cond.instantiable RX11 13 ∈ tblG := tblG_at 137 (by decide +kernel) (by decide +kernel)

theorem cw_i_X11 : Cond.initialized RX11 ∈ tblG := tblG_at 114 (by decide +kernel) (by decide +kernel)

theorem cw_c_L_10 : Cond.classLink RL 10 RX12 ∈ tblG := tblG_at 1399 (by decide +kernel) (by decide +kernel)

theorem cw_n_X12 : Cond.instantiable RX12 35 ∈ tblG := tblG_at 1400 (by decide +kernel) (by decide +kernel)

theorem cw_i_X12 : Cond.initialized RX12 ∈ tblG := tblG_at 126 (by decide +kernel) (by decide +kernel)

theorem cfi_L_9 : CFi RL 9 yX11_init cX11_init 2 0 := ⟨⟨tblG_at 114 (by decide +kernel) (by decide +kernel), tblG_at 140 (by decide +kernel) (by decide +kernel), ⟨by decide, by decide⟩, by decide +kernel, by decide⟩, tblG_at 138 (by decide +kernel) (by decide +kernel), tblG_at 139 (by decide +kernel) (by decide +kernel), rfl⟩

theorem cfi_L_12 : CFi RL 12 yX12_init cX12_init 1 0 := ⟨⟨tblG_at 126 (by decide +kernel) (by decide +kernel), tblG_at 1403 (by decide +kernel) (by decide +kernel), ⟨by decide, by decide⟩, by decide +kernel, by decide⟩, tblG_at 1401 (by decide +kernel) (by decide +kernel), tblG_at 1402 (by decide +kernel) (by decide +kernel), rfl⟩
